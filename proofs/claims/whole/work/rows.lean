section
-- ===== PART A: goes FIRST, ahead of the names: the tables' words, and 'selects' of the private methods out of them =====
/-- a private method of a class that the tables say can be made, by its rows of tables_1 -/
def lw_okq (q : MethodName × Nat) : Prop := (q.1.cls ≠ "java/lang/invoke/MethodHandle" ∧ q.1.cls ≠ "java/lang/invoke/VarHandle") ∧ Cond.instantiable q.1.cls q.2 ∈ tables_1 ∧ Cond.privateMethod q.1 ∈ tables_1 ∧ Cond.instanceMethod q.1 ∈ tables_1
theorem lw_p0 : lw_okq (⟨"OperaMachines", "barTicks", "(I)I"⟩, 10) := ⟨⟨by decide +kernel, by decide +kernel⟩, List.mem_of_getElem? (i := 28) (by decide +kernel), List.mem_of_getElem? (i := 99) (by decide +kernel), List.mem_of_getElem? (i := 100) (by decide +kernel)⟩
theorem lw_p1 : lw_okq (⟨"OperaMachines", "firstMeeting", "(I)I"⟩, 10) := ⟨⟨by decide +kernel, by decide +kernel⟩, List.mem_of_getElem? (i := 28) (by decide +kernel), List.mem_of_getElem? (i := 114) (by decide +kernel), List.mem_of_getElem? (i := 115) (by decide +kernel)⟩
theorem lw_p2 : lw_okq (⟨"OperaMachines", "rewindAll", "()V"⟩, 10) := ⟨⟨by decide +kernel, by decide +kernel⟩, List.mem_of_getElem? (i := 28) (by decide +kernel), List.mem_of_getElem? (i := 118) (by decide +kernel), List.mem_of_getElem? (i := 119) (by decide +kernel)⟩
theorem lw_p3 : lw_okq (⟨"OperaMachines", "leastPairMeetingNow", "()I"⟩, 10) := ⟨⟨by decide +kernel, by decide +kernel⟩, List.mem_of_getElem? (i := 28) (by decide +kernel), List.mem_of_getElem? (i := 145) (by decide +kernel), List.mem_of_getElem? (i := 146) (by decide +kernel)⟩
theorem lw_p4 : lw_okq (⟨"OperaMachines", "startBarForAll", "(I)V"⟩, 10) := ⟨⟨by decide +kernel, by decide +kernel⟩, List.mem_of_getElem? (i := 28) (by decide +kernel), List.mem_of_getElem? (i := 160) (by decide +kernel), List.mem_of_getElem? (i := 161) (by decide +kernel)⟩
theorem lw_p5 : lw_okq (⟨"OperaMachines", "goAll", "()Z"⟩, 10) := ⟨⟨by decide +kernel, by decide +kernel⟩, List.mem_of_getElem? (i := 28) (by decide +kernel), List.mem_of_getElem? (i := 168) (by decide +kernel), List.mem_of_getElem? (i := 169) (by decide +kernel)⟩
theorem lw_p6 : lw_okq (⟨"OperaMachines", "isFineWith", "(I)Z"⟩, 10) := ⟨⟨by decide +kernel, by decide +kernel⟩, List.mem_of_getElem? (i := 28) (by decide +kernel), List.mem_of_getElem? (i := 195) (by decide +kernel), List.mem_of_getElem? (i := 196) (by decide +kernel)⟩
theorem lw_p7 : lw_okq (⟨"OperaMachines", "planWork", "(I)V"⟩, 10) := ⟨⟨by decide +kernel, by decide +kernel⟩, List.mem_of_getElem? (i := 28) (by decide +kernel), List.mem_of_getElem? (i := 199) (by decide +kernel), List.mem_of_getElem? (i := 200) (by decide +kernel)⟩
theorem lw_p8 : lw_okq (⟨"OperaMachines", "plannedAllManned", "()Z"⟩, 10) := ⟨⟨by decide +kernel, by decide +kernel⟩, List.mem_of_getElem? (i := 28) (by decide +kernel), List.mem_of_getElem? (i := 213) (by decide +kernel), List.mem_of_getElem? (i := 214) (by decide +kernel)⟩
theorem lw_p9 : lw_okq (⟨"OperaMachines", "workerTonight", "(LOperaMachines$Cue;)I"⟩, 10) := ⟨⟨by decide +kernel, by decide +kernel⟩, List.mem_of_getElem? (i := 28) (by decide +kernel), List.mem_of_getElem? (i := 217) (by decide +kernel), List.mem_of_getElem? (i := 218) (by decide +kernel)⟩
theorem lw_p10 : lw_okq (⟨"OperaMachines", "plannedWithoutClash", "(I)Z"⟩, 10) := ⟨⟨by decide +kernel, by decide +kernel⟩, List.mem_of_getElem? (i := 28) (by decide +kernel), List.mem_of_getElem? (i := 227) (by decide +kernel), List.mem_of_getElem? (i := 228) (by decide +kernel)⟩
theorem lw_p11 : lw_okq (⟨"OperaMachines", "plannedClashes", "(II)I"⟩, 10) := ⟨⟨by decide +kernel, by decide +kernel⟩, List.mem_of_getElem? (i := 28) (by decide +kernel), List.mem_of_getElem? (i := 231) (by decide +kernel), List.mem_of_getElem? (i := 232) (by decide +kernel)⟩
theorem lw_p12 : lw_okq (⟨"java/lang/Throwable", "fillInStackTrace", "(I)Ljava/lang/Throwable;"⟩, 6) := ⟨⟨by decide +kernel, by decide +kernel⟩, List.mem_of_getElem? (i := 289) (by decide +kernel), List.mem_of_getElem? (i := 287) (by decide +kernel), List.mem_of_getElem? (i := 288) (by decide +kernel)⟩
theorem lw_p13 : lw_okq (⟨"OperaMachines", "needRoomForMachine", "()V"⟩, 10) := ⟨⟨by decide +kernel, by decide +kernel⟩, List.mem_of_getElem? (i := 28) (by decide +kernel), List.mem_of_getElem? (i := 319) (by decide +kernel), List.mem_of_getElem? (i := 320) (by decide +kernel)⟩
theorem lw_p14 : lw_okq (⟨"OperaMachines", "add", "(LOperaMachines$Machine;)I"⟩, 10) := ⟨⟨by decide +kernel, by decide +kernel⟩, List.mem_of_getElem? (i := 28) (by decide +kernel), List.mem_of_getElem? (i := 369) (by decide +kernel), List.mem_of_getElem? (i := 370) (by decide +kernel)⟩
theorem lw_p15 : lw_okq (⟨"java/util/ArrayList", "add", "(Ljava/lang/Object;[Ljava/lang/Object;I)V"⟩, 3) := ⟨⟨by decide +kernel, by decide +kernel⟩, List.mem_of_getElem? (i := 36) (by decide +kernel), List.mem_of_getElem? (i := 377) (by decide +kernel), List.mem_of_getElem? (i := 378) (by decide +kernel)⟩
def lw_privs_1 : List (MethodName × Nat) := [(⟨"OperaMachines", "barTicks", "(I)I"⟩, 10), (⟨"OperaMachines", "firstMeeting", "(I)I"⟩, 10), (⟨"OperaMachines", "rewindAll", "()V"⟩, 10), (⟨"OperaMachines", "leastPairMeetingNow", "()I"⟩, 10), (⟨"OperaMachines", "startBarForAll", "(I)V"⟩, 10), (⟨"OperaMachines", "goAll", "()Z"⟩, 10), (⟨"OperaMachines", "isFineWith", "(I)Z"⟩, 10), (⟨"OperaMachines", "planWork", "(I)V"⟩, 10), (⟨"OperaMachines", "plannedAllManned", "()Z"⟩, 10), (⟨"OperaMachines", "workerTonight", "(LOperaMachines$Cue;)I"⟩, 10), (⟨"OperaMachines", "plannedWithoutClash", "(I)Z"⟩, 10), (⟨"OperaMachines", "plannedClashes", "(II)I"⟩, 10), (⟨"java/lang/Throwable", "fillInStackTrace", "(I)Ljava/lang/Throwable;"⟩, 6), (⟨"OperaMachines", "needRoomForMachine", "()V"⟩, 10), (⟨"OperaMachines", "add", "(LOperaMachines$Machine;)I"⟩, 10), (⟨"java/util/ArrayList", "add", "(Ljava/lang/Object;[Ljava/lang/Object;I)V"⟩, 3)]
theorem lw_r1 : ∀ q ∈ lw_privs_1, lw_okq q := List.forall_mem_cons.mpr ⟨lw_p0, List.forall_mem_cons.mpr ⟨lw_p1, List.forall_mem_cons.mpr ⟨lw_p2, List.forall_mem_cons.mpr ⟨lw_p3, List.forall_mem_cons.mpr ⟨lw_p4, List.forall_mem_cons.mpr ⟨lw_p5, List.forall_mem_cons.mpr ⟨lw_p6, List.forall_mem_cons.mpr ⟨lw_p7, List.forall_mem_cons.mpr ⟨lw_p8, List.forall_mem_cons.mpr ⟨lw_p9, List.forall_mem_cons.mpr ⟨lw_p10, List.forall_mem_cons.mpr ⟨lw_p11, List.forall_mem_cons.mpr ⟨lw_p12, List.forall_mem_cons.mpr ⟨lw_p13, List.forall_mem_cons.mpr ⟨lw_p14, List.forall_mem_cons.mpr ⟨lw_p15, fun _ h => absurd h List.not_mem_nil⟩⟩⟩⟩⟩⟩⟩⟩⟩⟩⟩⟩⟩⟩⟩⟩
theorem lw_p16 : lw_okq (⟨"java/util/ArrayList", "grow", "()[Ljava/lang/Object;"⟩, 3) := ⟨⟨by decide +kernel, by decide +kernel⟩, List.mem_of_getElem? (i := 36) (by decide +kernel), List.mem_of_getElem? (i := 381) (by decide +kernel), List.mem_of_getElem? (i := 382) (by decide +kernel)⟩
theorem lw_p17 : lw_okq (⟨"java/util/ArrayList", "grow", "(I)[Ljava/lang/Object;"⟩, 3) := ⟨⟨by decide +kernel, by decide +kernel⟩, List.mem_of_getElem? (i := 36) (by decide +kernel), List.mem_of_getElem? (i := 385) (by decide +kernel), List.mem_of_getElem? (i := 386) (by decide +kernel)⟩
theorem lw_p18 : lw_okq (⟨"OperaMachines", "machineNumbered", "(I)LOperaMachines$Machine;"⟩, 10) := ⟨⟨by decide +kernel, by decide +kernel⟩, List.mem_of_getElem? (i := 28) (by decide +kernel), List.mem_of_getElem? (i := 449) (by decide +kernel), List.mem_of_getElem? (i := 450) (by decide +kernel)⟩
theorem lw_p19 : lw_okq (⟨"OperaMachines", "insertByBar", "(LOperaMachines$Cue;)V"⟩, 10) := ⟨⟨by decide +kernel, by decide +kernel⟩, List.mem_of_getElem? (i := 28) (by decide +kernel), List.mem_of_getElem? (i := 503) (by decide +kernel), List.mem_of_getElem? (i := 504) (by decide +kernel)⟩
theorem lw_p20 : lw_okq (⟨"java/util/ArrayList", "rangeCheckForAdd", "(I)V"⟩, 3) := ⟨⟨by decide +kernel, by decide +kernel⟩, List.mem_of_getElem? (i := 36) (by decide +kernel), List.mem_of_getElem? (i := 511) (by decide +kernel), List.mem_of_getElem? (i := 512) (by decide +kernel)⟩
theorem lw_p21 : lw_okq (⟨"java/util/ArrayList", "outOfBoundsMsg", "(I)Ljava/lang/String;"⟩, 3) := ⟨⟨by decide +kernel, by decide +kernel⟩, List.mem_of_getElem? (i := 36) (by decide +kernel), List.mem_of_getElem? (i := 516) (by decide +kernel), List.mem_of_getElem? (i := 517) (by decide +kernel)⟩
theorem lw_p22 : lw_okq (⟨"OperaMachines", "cueNumbered", "(I)LOperaMachines$Cue;"⟩, 10) := ⟨⟨by decide +kernel, by decide +kernel⟩, List.mem_of_getElem? (i := 28) (by decide +kernel), List.mem_of_getElem? (i := 764) (by decide +kernel), List.mem_of_getElem? (i := 765) (by decide +kernel)⟩
theorem lw_p23 : lw_okq (⟨"OperaMachines", "highestCue", "(LOperaMachines$Machine;I)LOperaMachines$Cue;"⟩, 10) := ⟨⟨by decide +kernel, by decide +kernel⟩, List.mem_of_getElem? (i := 28) (by decide +kernel), List.mem_of_getElem? (i := 769) (by decide +kernel), List.mem_of_getElem? (i := 770) (by decide +kernel)⟩
theorem lw_p24 : lw_okq (⟨"OperaMachinesModel", "can", "(I)Z"⟩, 27) := ⟨⟨by decide +kernel, by decide +kernel⟩, List.mem_of_getElem? (i := 843) (by decide +kernel), List.mem_of_getElem? (i := 942) (by decide +kernel), List.mem_of_getElem? (i := 943) (by decide +kernel)⟩
theorem lw_p25 : lw_okq (⟨"OperaMachinesModel", "isMachine", "(I)Z"⟩, 27) := ⟨⟨by decide +kernel, by decide +kernel⟩, List.mem_of_getElem? (i := 843) (by decide +kernel), List.mem_of_getElem? (i := 958) (by decide +kernel), List.mem_of_getElem? (i := 959) (by decide +kernel)⟩
theorem lw_p26 : lw_okq (⟨"OperaMachinesModel", "isCue", "(I)Z"⟩, 27) := ⟨⟨by decide +kernel, by decide +kernel⟩, List.mem_of_getElem? (i := 843) (by decide +kernel), List.mem_of_getElem? (i := 969) (by decide +kernel), List.mem_of_getElem? (i := 970) (by decide +kernel)⟩
theorem lw_p27 : lw_okq (⟨"OperaMachinesModel", "lengthBy", "(I)I"⟩, 27) := ⟨⟨by decide +kernel, by decide +kernel⟩, List.mem_of_getElem? (i := 843) (by decide +kernel), List.mem_of_getElem? (i := 993) (by decide +kernel), List.mem_of_getElem? (i := 994) (by decide +kernel)⟩
theorem lw_p28 : lw_okq (⟨"OperaMachinesModel", "placeAt", "(II)I"⟩, 27) := ⟨⟨by decide +kernel, by decide +kernel⟩, List.mem_of_getElem? (i := 843) (by decide +kernel), List.mem_of_getElem? (i := 1005) (by decide +kernel), List.mem_of_getElem? (i := 1006) (by decide +kernel)⟩
theorem lw_p29 : lw_okq (⟨"OperaMachinesModel", "sets", "()V"⟩, 27) := ⟨⟨by decide +kernel, by decide +kernel⟩, List.mem_of_getElem? (i := 843) (by decide +kernel), List.mem_of_getElem? (i := 1009) (by decide +kernel), List.mem_of_getElem? (i := 1010) (by decide +kernel)⟩
theorem lw_p30 : lw_okq (⟨"OperaMachinesModel", "effect", "(II)I"⟩, 27) := ⟨⟨by decide +kernel, by decide +kernel⟩, List.mem_of_getElem? (i := 843) (by decide +kernel), List.mem_of_getElem? (i := 1013) (by decide +kernel), List.mem_of_getElem? (i := 1014) (by decide +kernel)⟩
theorem lw_p31 : lw_okq (⟨"OperaMachinesModel", "moves", "(I)V"⟩, 27) := ⟨⟨by decide +kernel, by decide +kernel⟩, List.mem_of_getElem? (i := 843) (by decide +kernel), List.mem_of_getElem? (i := 1017) (by decide +kernel), List.mem_of_getElem? (i := 1018) (by decide +kernel)⟩
def lw_privs_2 : List (MethodName × Nat) := [(⟨"java/util/ArrayList", "grow", "()[Ljava/lang/Object;"⟩, 3), (⟨"java/util/ArrayList", "grow", "(I)[Ljava/lang/Object;"⟩, 3), (⟨"OperaMachines", "machineNumbered", "(I)LOperaMachines$Machine;"⟩, 10), (⟨"OperaMachines", "insertByBar", "(LOperaMachines$Cue;)V"⟩, 10), (⟨"java/util/ArrayList", "rangeCheckForAdd", "(I)V"⟩, 3), (⟨"java/util/ArrayList", "outOfBoundsMsg", "(I)Ljava/lang/String;"⟩, 3), (⟨"OperaMachines", "cueNumbered", "(I)LOperaMachines$Cue;"⟩, 10), (⟨"OperaMachines", "highestCue", "(LOperaMachines$Machine;I)LOperaMachines$Cue;"⟩, 10), (⟨"OperaMachinesModel", "can", "(I)Z"⟩, 27), (⟨"OperaMachinesModel", "isMachine", "(I)Z"⟩, 27), (⟨"OperaMachinesModel", "isCue", "(I)Z"⟩, 27), (⟨"OperaMachinesModel", "lengthBy", "(I)I"⟩, 27), (⟨"OperaMachinesModel", "placeAt", "(II)I"⟩, 27), (⟨"OperaMachinesModel", "sets", "()V"⟩, 27), (⟨"OperaMachinesModel", "effect", "(II)I"⟩, 27), (⟨"OperaMachinesModel", "moves", "(I)V"⟩, 27)]
theorem lw_r2 : ∀ q ∈ lw_privs_2, lw_okq q := List.forall_mem_cons.mpr ⟨lw_p16, List.forall_mem_cons.mpr ⟨lw_p17, List.forall_mem_cons.mpr ⟨lw_p18, List.forall_mem_cons.mpr ⟨lw_p19, List.forall_mem_cons.mpr ⟨lw_p20, List.forall_mem_cons.mpr ⟨lw_p21, List.forall_mem_cons.mpr ⟨lw_p22, List.forall_mem_cons.mpr ⟨lw_p23, List.forall_mem_cons.mpr ⟨lw_p24, List.forall_mem_cons.mpr ⟨lw_p25, List.forall_mem_cons.mpr ⟨lw_p26, List.forall_mem_cons.mpr ⟨lw_p27, List.forall_mem_cons.mpr ⟨lw_p28, List.forall_mem_cons.mpr ⟨lw_p29, List.forall_mem_cons.mpr ⟨lw_p30, List.forall_mem_cons.mpr ⟨lw_p31, fun _ h => absurd h List.not_mem_nil⟩⟩⟩⟩⟩⟩⟩⟩⟩⟩⟩⟩⟩⟩⟩⟩
theorem lw_p32 : lw_okq (⟨"OperaMachinesModel", "plays", "(I)V"⟩, 27) := ⟨⟨by decide +kernel, by decide +kernel⟩, List.mem_of_getElem? (i := 843) (by decide +kernel), List.mem_of_getElem? (i := 1029) (by decide +kernel), List.mem_of_getElem? (i := 1030) (by decide +kernel)⟩
theorem lw_p33 : lw_okq (⟨"OperaMachinesModel", "looks", "(II)V"⟩, 27) := ⟨⟨by decide +kernel, by decide +kernel⟩, List.mem_of_getElem? (i := 843) (by decide +kernel), List.mem_of_getElem? (i := 1033) (by decide +kernel), List.mem_of_getElem? (i := 1034) (by decide +kernel)⟩
theorem lw_p34 : lw_okq (⟨"OperaMachinesModel", "meetsAt", "(I)V"⟩, 27) := ⟨⟨by decide +kernel, by decide +kernel⟩, List.mem_of_getElem? (i := 843) (by decide +kernel), List.mem_of_getElem? (i := 1037) (by decide +kernel), List.mem_of_getElem? (i := 1038) (by decide +kernel)⟩
theorem lw_p35 : lw_okq (⟨"OperaMachinesModel", "workerOf", "(I)I"⟩, 27) := ⟨⟨by decide +kernel, by decide +kernel⟩, List.mem_of_getElem? (i := 843) (by decide +kernel), List.mem_of_getElem? (i := 1049) (by decide +kernel), List.mem_of_getElem? (i := 1050) (by decide +kernel)⟩
theorem lw_p36 : lw_okq (⟨"OperaMachinesModel", "clashesOf", "(I)I"⟩, 27) := ⟨⟨by decide +kernel, by decide +kernel⟩, List.mem_of_getElem? (i := 843) (by decide +kernel), List.mem_of_getElem? (i := 1061) (by decide +kernel), List.mem_of_getElem? (i := 1062) (by decide +kernel)⟩
theorem lw_p37 : lw_okq (⟨"OperaMachinesModel", "isOf", "(II)Z"⟩, 27) := ⟨⟨by decide +kernel, by decide +kernel⟩, List.mem_of_getElem? (i := 843) (by decide +kernel), List.mem_of_getElem? (i := 1065) (by decide +kernel), List.mem_of_getElem? (i := 1066) (by decide +kernel)⟩
theorem lw_p38 : lw_okq (⟨"OperaMachinesModel", "nextOf", "(II)I"⟩, 27) := ⟨⟨by decide +kernel, by decide +kernel⟩, List.mem_of_getElem? (i := 843) (by decide +kernel), List.mem_of_getElem? (i := 1069) (by decide +kernel), List.mem_of_getElem? (i := 1070) (by decide +kernel)⟩
theorem lw_p39 : lw_okq (⟨"OperaMachinesModel", "isAhead", "(II)Z"⟩, 27) := ⟨⟨by decide +kernel, by decide +kernel⟩, List.mem_of_getElem? (i := 843) (by decide +kernel), List.mem_of_getElem? (i := 1073) (by decide +kernel), List.mem_of_getElem? (i := 1074) (by decide +kernel)⟩
theorem lw_p40 : lw_okq (⟨"OperaMachinesModel", "isFineBy", "(I)Z"⟩, 27) := ⟨⟨by decide +kernel, by decide +kernel⟩, List.mem_of_getElem? (i := 843) (by decide +kernel), List.mem_of_getElem? (i := 1085) (by decide +kernel), List.mem_of_getElem? (i := 1086) (by decide +kernel)⟩
def lw_privs_3 : List (MethodName × Nat) := [(⟨"OperaMachinesModel", "plays", "(I)V"⟩, 27), (⟨"OperaMachinesModel", "looks", "(II)V"⟩, 27), (⟨"OperaMachinesModel", "meetsAt", "(I)V"⟩, 27), (⟨"OperaMachinesModel", "workerOf", "(I)I"⟩, 27), (⟨"OperaMachinesModel", "clashesOf", "(I)I"⟩, 27), (⟨"OperaMachinesModel", "isOf", "(II)Z"⟩, 27), (⟨"OperaMachinesModel", "nextOf", "(II)I"⟩, 27), (⟨"OperaMachinesModel", "isAhead", "(II)Z"⟩, 27), (⟨"OperaMachinesModel", "isFineBy", "(I)Z"⟩, 27)]
theorem lw_r3 : ∀ q ∈ lw_privs_3, lw_okq q := List.forall_mem_cons.mpr ⟨lw_p32, List.forall_mem_cons.mpr ⟨lw_p33, List.forall_mem_cons.mpr ⟨lw_p34, List.forall_mem_cons.mpr ⟨lw_p35, List.forall_mem_cons.mpr ⟨lw_p36, List.forall_mem_cons.mpr ⟨lw_p37, List.forall_mem_cons.mpr ⟨lw_p38, List.forall_mem_cons.mpr ⟨lw_p39, List.forall_mem_cons.mpr ⟨lw_p40, fun _ h => absurd h List.not_mem_nil⟩⟩⟩⟩⟩⟩⟩⟩⟩
def lw_privs : List (MethodName × Nat) := lw_privs_1 ++ (lw_privs_2 ++ (lw_privs_3))
def lw_tbl : List Cond := k2_sels lw_privs ++ tables_1
theorem lw_privs_ok : ∀ q ∈ lw_privs, lw_okq q := by
  show ∀ q ∈ lw_privs_1 ++ (lw_privs_2 ++ (lw_privs_3)), lw_okq q
  exact List.forall_mem_append.mpr ⟨lw_r1, List.forall_mem_append.mpr ⟨lw_r2, lw_r3⟩⟩
/-! ===== BEGIN words of one list among another's, by their places ===== -/
theorem goodIn_r {big : List Cond} (ws : List Cond) (ps : List Nat) (hp : ws = ps.filterMap (fun i => big[i]?)) (h : ws.all goodWord = true) : GoodIn big ws := by
  intro w hw
  have h1 := List.all_eq_true.mp h w hw
  rw [hp] at hw
  obtain ⟨i, -, hi⟩ := List.mem_filterMap.mp hw
  have hm : w ∈ big := by first | exact List.mem_of_getElem? hi | exact List.getElem?_mem hi
  exact ⟨hm, good_of_word h1⟩
theorem goodIn_app {big a b : List Cond} (ha : GoodIn big a) (hb : GoodIn big b) : GoodIn big (a ++ b) := fun w h => (List.mem_append.mp h).elim (ha w) (hb w)
theorem goodIn_ca {big a b : List Cond} {c : Cond} (ha : GoodIn big (c :: a)) (hb : GoodIn big b) : GoodIn big (c :: (a ++ b)) := fun w h => (List.mem_cons.mp h).elim (fun e => ha w (List.mem_cons.mpr (Or.inl e))) (fun h => (List.mem_append.mp h).elim (fun h => ha w (List.mem_cons.mpr (Or.inr h))) (hb w))
theorem goodIn_sub {big ws : List Cond} (hm : ∀ w ∈ ws, w ∈ big) (h : ws.all goodWord = true) : GoodIn big ws := fun w hw => ⟨hm w hw, good_of_word (List.all_eq_true.mp h w hw)⟩
/-! ===== END ===== -/

/-! ===== BEGIN exceptions that leave a method, and their catching by the caller (launches without stack traces) ===== -/
section VXA
/-! The laws vx_back, vx_callV, vx_callS, vx_callSW, vx_throw0, vx_throwS follow proofs of the library, with one case more: JvmDerived/Free/Laws.lean (Back.of_free), Shelf42/LK1.lean (callV, callS), Shelf/KitTraced.lean (throwNew0V, throwNewS). -/
/-- where a method has thrown q: the class by its name, the cell, what was written, the world -/
def vx_T (XC : String → State → State → Prop) (st : State) (q : Addr) (t : State) (mc ms : Nat) (free : Addr → Prop) : Prop :=
  ∃ (E : String) (ce : Cell) (L : List Loc), XC E st t ∧ t.heap[q]? = some ce ∧ ce.vm = .none ∧ st.vm.findClass E = some ce.cls ∧ st.WarmedH t.vm ∧ st.sameButNew ({ t with vm := st.vm } : State) L mc ms ∧ ∀ z ∈ L, free z.base
def vx_Q (Qc : Array Value → State → Outcome → State → Prop) (XC : String → State → State → Prop) (mc ms : Nat) (free : Addr → Prop) : Array Value → State → Outcome → State → Prop := fun a st o t =>
  (Qc a st o t ∧ ∃ L, FrameEnd st o t L mc ms ∧ ∀ q ∈ L, free q.base) ∨ ∃ q, o = .threw q ∧ vx_T XC st q t mc ms free
/-- a callee that returns or throws -/
def vx_Met (l : Launch) (y : MethodName) (ws : List Cond) (rm : Room) (Pc : Array Value → State → Prop) (Qc : Array Value → State → Outcome → State → Prop) (XC : String → State → State → Prop) (mc ms : Nat) (free : Addr → Prop) : Prop :=
  MetFree l y (headSpec ws rm) Pc (fun _ _ _ _ _ => True) (vx_Q Qc XC mc ms free)
def vx_Post (XC : String → State → State → Prop) (mc ms : Nat) (free : Addr → Prop) : Pt → Array Value → Addr → Pt → Prop := fun A a q B =>
  ∃ (g : JFrame) (mk : MethodId) (t : State) (L : List Loc) (E : String) (ce : Cell), B.U.heap = t.heap ∧ B.U.vm = t.vm ∧ XC E (A.U.calling g mk a) t ∧ t.heap[q]? = some ce ∧ ce.vm = .none ∧ A.U.vm.findClass E = some ce.cls ∧ B.locs = A.locs ++ L ∧ (∀ z ∈ L, free z.base) ∧ B.cells = A.cells + mc ∧ B.slots = A.slots + ms
def vx_Back (l : Launch) (R : Room) (p : Program) (e : Env) (below : List Frame) (s : State) (sargs : Array Value) (y : MethodName) (len W9 : Nat)
    (Pre : Pt → Array Value → Prop) (Post : Pt → Array Value → Option Value → Pt → Prop) (PostX : Pt → Array Value → Addr → Pt → Prop) : Prop :=
  ∀ (m : MethodId) (meth : Method) (c : Code) (A : Pt) (g : JFrame) (ig : Instr) (mk : MethodId) (a : Array Value),
    Stand p l e R s m sargs below meth c A.U A.locs A.cells A.slots → g.method = m → g.locals.size = c.maxLocals → decode c.code g.pc = .ok (ig, len) →
    2 * g.monitorRoom + (g.stack.map fun v => v.category).sum ≤ W9 → A.U.methodNamed? y = some mk → Pre A a →
    (∃ (v : Option Value) (B : Pt), Stand p l e R s m sargs below meth c B.U B.locs B.cells B.slots ∧ Post A a v B ∧
      Steps p.tables e below (doInvoke e (A.U.setTop g) [] mk a).1 (B.U.setTop { g with pc := g.pc + len, stack := v.toList ++ g.stack })) ∨
    (∃ (q : Addr) (B : Pt), Stand p l e R s m sargs below meth c B.U B.locs B.cells B.slots ∧ PostX A a q B ∧
      Steps p.tables e below (doInvoke e (A.U.setTop g) [] mk a).1 ((B.U.setTop g).pushFrame (.throwing q)))
section Payer
variable {l : Launch} {R : Room} {p : Program} {e : Env} {below : List Frame} {s : State} {sargs : Array Value} {y : MethodName} {len W9 : Nat}
theorem vx_back {ws : List Cond} {rm : Room} {Pc : Array Value → State → Prop} {Qc : Array Value → State → Outcome → State → Prop} {XC : String → State → State → Prop} {mc ms : Nat} {free : Addr → Prop} {bytes : ByteArray} {maxL : Nat} {ret : Option FieldType}
    (hM : vx_Met l y ws rm Pc Qc XC mc ms free) (hblind : FrameBlind Pc) (hrc : rm.cells = mc) (hrs : rm.slots = ms)
    (hframes : rm.frames + 1 ≤ R.frames) (hlocals : W9 + (maxL + 11) + rm.locals ≤ R.locals)
    (hws : ∀ w ∈ ws, ∀ a' U, s.WarmedH U.vm → w.before a' U = true) (hcode : Cond.code y bytes maxL ret ∈ ws) (hinit : ∀ a' U, s.WarmedH U.vm → (Cond.initialized y.cls).before a' U = true) :
    vx_Back l R p e below s sargs y len W9 (PreOf R mc ms Pc) (PostOf Qc mc ms free) (vx_Post XC mc ms free) := by
  intro m meth c A g ig mk a X hg hsize hdg hW hn hp
  have h1 : (headSpec ws rm).pre.before a A.U = true := atoms_intro fun w hw => hws w hw _ _ X.warmed
  have h2 : (Cond.code y bytes maxL ret).before a A.U = true := hws _ hcode _ _ X.warmed
  have h3 : (Cond.initialized y.cls).before a A.U = true := hinit _ _ X.warmed
  have h4 : A.cells + (headSpec ws rm).room.cells ≤ R.cells := by rw [show (headSpec ws rm).room.cells = mc from hrc]; exact hp.1
  have h5 : A.slots + (headSpec ws rm).room.slots ≤ R.slots := by rw [show (headSpec ws rm).room.slots = ms from hrs]; exact hp.2.1
  have hPc : Pc a (A.U.calling g mk a) := hblind _ _ _ _ hp.2.2
  obtain ⟨U, Ls, c0, s0⟩ := A
  dsimp only [Pt.U, Pt.locs, Pt.cells, Pt.slots] at h1 h2 h3 h4 h5 X hn hPc ⊢
  obtain ⟨methY, cY, hmY, hcY, -, hlY, -, -, -, -⟩ := Cond.code_spec hn h2
  obtain ⟨kY, hkY, -⟩ := className_of_methodNamed hn
  have hinitY : kY.init = .initialized := Cond.initialized_spec (findClass_of_methodNamed hn) hkY h3
  have h : At U g.method c below := by rw [hg]; exact X.here
  have hlocals9 : W9 + (maxL + 11) + (headSpec ws rm).room.locals ≤ R.locals := hlocals
  have happ : (headSpec ws rm).appliesLoose y e.platform (U.calling g mk a) = true :=
    Spec.appliesLoose_calling (g := g) h hdg hn hkY hinitY
      (X.room_calling (g := g) (R' := (headSpec ws rm).room) hsize hmY hcY hframes (by rw [hlY]; omega) h4 h5) h1
  obtain ⟨mid, hmid⟩ := h.above
  have hfr : (U.setTop g).frames = (.java g :: mid) ++ below := by rw [State.frames_setTop' g h.top, hmid]; rfl
  obtain ⟨o, s₂, hsteps, -, hend, hq⟩ := Steps.callFree hM p X.admits X.cas X.clock (acts := []) hfr happ hPc trivial
  have hq' : vx_Q Qc XC mc ms free a (U.calling g mk a) o s₂ := hq
  rw [State.frames_setTop' g h.top] at hend
  obtain ⟨g₀, hg0⟩ := Option.isSome_iff_exists.mp h.top
  obtain ⟨r, hr⟩ := State.topJava?_eq_some.mp hg0
  have hr' : (({ U with heap := s₂.heap, slotsUsed := s₂.slotsUsed } : State).setVm s₂.vm).frames = .java g₀ :: r := hr
  rcases hq' with ⟨hqc, L, hfe, hL⟩ | ⟨q, rfl, E, ce, L, hx, hce, hcv, hcl, hW₂, hsm, hL⟩
  · obtain ⟨⟨v, rfl⟩, hW₂, e2, q2, q3, q4, q5, q6⟩ := id hfe
    have e3 : s₂ = ({ (U.calling g mk a).setFrames s₂.frames with heap := s₂.heap, slotsUsed := s₂.slotsUsed } : State).setVm s₂.vm := by
      have : s₂ = ({ s₂ with vm := (U.calling g mk a).vm } : State).setVm s₂.vm := rfl
      rw [e2] at this
      exact this
    obtain ⟨c₂, i₂, len₂, hc₂, hd₂, hf₂⟩ := hend
    have hW' : U.WarmedH s₂.vm := hW₂
    have hcc : c₂ = c := by
      have h1 : s₂.code? g.method = U.code? g.method := by
        rw [State.code?_eq, State.code?_eq, hW'.alike.method?]
      exact Option.some.inj (hc₂.symm.trans (h1.trans h.code))
    subst hcc
    have hlen : len₂ = len := by rw [hdg] at hd₂; cases hd₂; rfl
    subst hlen
    have hs₂ : s₂ = (({ U with heap := s₂.heap, slotsUsed := s₂.slotsUsed } : State).setVm s₂.vm).setTop { g with pc := g.pc + len₂, stack := v.toList ++ g.stack } := by
      refine e3.trans ?_
      rw [hf₂, State.calling_eq h.top, State.setFrames_setFrames, State.setTop_of_frames _ hr', hr]
      rfl
    have hsame : U.sameButNew ({ U with heap := s₂.heap, slotsUsed := s₂.slotsUsed } : State) L mc ms := by
      refine ⟨?_, q2, q3, q4, q5, q6⟩
      obtain ⟨t, ht, -⟩ := State.frames_cons hr
      show ({ U with heap := s₂.heap, slotsUsed := s₂.slotsUsed } : State) = { U.setFrames U.frames with heap := s₂.heap, slotsUsed := s₂.slotsUsed }
      rw [State.setFrames_self ht]
    subst hg
    refine Or.inl ⟨v, ⟨(({ U with heap := s₂.heap, slotsUsed := s₂.slotsUsed } : State).setVm s₂.vm), Ls ++ L, c0 + mc, s0 + ms⟩,
      ⟨X.admits, X.cas, X.clock, X.frames, X.room, X.hears, X.method, X.code, (X.here.setHeapUsed s₂.heap s₂.slotsUsed).setVm hW'.alike, X.tail, State.WarmedH.trans X.warmed hW', X.limits, X.bytes, X.same.trans (hsame.setVm s.vm)⟩,
      ⟨g, mk, s₂, L, rfl, rfl, hqc, rfl, hL, rfl, rfl⟩, ?_⟩
    show Steps p.tables e below _ ((({ U with heap := s₂.heap, slotsUsed := s₂.slotsUsed } : State).setVm s₂.vm).setTop { g with pc := g.pc + len₂, stack := v.toList ++ g.stack })
    rw [← hs₂]
    exact hsteps
  · obtain ⟨e2, q2, q3, q4, q5, q6⟩ := id hsm
    have e3 : s₂ = ({ (U.calling g mk a).setFrames s₂.frames with heap := s₂.heap, slotsUsed := s₂.slotsUsed } : State).setVm s₂.vm := by
      have : s₂ = ({ s₂ with vm := (U.calling g mk a).vm } : State).setVm s₂.vm := rfl
      rw [e2] at this
      exact this
    have hf₂ : s₂.frames = .throwing q :: .java g :: U.frames.tail := hend
    have hW' : U.WarmedH s₂.vm := hW₂
    have hs₂ : s₂ = ((({ U with heap := s₂.heap, slotsUsed := s₂.slotsUsed } : State).setVm s₂.vm).setTop g).pushFrame (.throwing q) := by
      refine e3.trans ?_
      rw [hf₂, State.calling_eq h.top, State.setFrames_setFrames, State.pushFrame, State.frames_setTop _ hr', State.setTop_of_frames _ hr', State.setFrames_setFrames, hr]
      rfl
    have hsame : U.sameButNew ({ U with heap := s₂.heap, slotsUsed := s₂.slotsUsed } : State) L mc ms := by
      refine ⟨?_, q2, q3, q4, q5, q6⟩
      obtain ⟨t, ht, -⟩ := State.frames_cons hr
      show ({ U with heap := s₂.heap, slotsUsed := s₂.slotsUsed } : State) = { U.setFrames U.frames with heap := s₂.heap, slotsUsed := s₂.slotsUsed }
      rw [State.setFrames_self ht]
    subst hg
    refine Or.inr ⟨q, ⟨(({ U with heap := s₂.heap, slotsUsed := s₂.slotsUsed } : State).setVm s₂.vm), Ls ++ L, c0 + mc, s0 + ms⟩,
      ⟨X.admits, X.cas, X.clock, X.frames, X.room, X.hears, X.method, X.code, (X.here.setHeapUsed s₂.heap s₂.slotsUsed).setVm hW'.alike, X.tail, State.WarmedH.trans X.warmed hW', X.limits, X.bytes, X.same.trans (hsame.setVm s.vm)⟩,
      ⟨g, mk, s₂, L, E, ce, rfl, rfl, hx, hce, hcv, hcl, rfl, hL, rfl, rfl⟩, ?_⟩
    show Steps p.tables e below _ (((({ U with heap := s₂.heap, slotsUsed := s₂.slotsUsed } : State).setVm s₂.vm).setTop g).pushFrame (.throwing q))
    rw [← hs₂]
    exact hsteps
end Payer
section Calls
variable {p : Program} {l : Launch} {e : Env} {R : Room} {s : State} {m : MethodId} {args : Array Value} {below : List Frame} {meth : Method} {c : Code} {T : State} {locs : List Loc} {cells slots : Nat}
theorem vx_callV (X : Stand p l e R s m args below meth c T locs cells slots) (hexec : p.tables.exec = Jvm.exec) {own C : String} {index : Nat} {y : MethodName} {bytes : ByteArray} {maxL : Nat} {ret : Option FieldType}
    (hown : s.vm.findClass own = some m.cls) (hlink : (Cond.methodLink own index y).before args s = true) (hinst : (Cond.instanceMethod y).before args s = true) (hsel : (Cond.selects C y y).before args s = true)
    (hcode : (Cond.code y bytes maxL ret).before args s = true) (hy : y.cls ≠ "java/lang/invoke/MethodHandle" ∧ y.cls ≠ "java/lang/invoke/VarHandle")
    {W9 : Nat} {Pre : Pt → Array Value → Prop} {Post : Pt → Array Value → Option Value → Pt → Prop} {PostX : Pt → Array Value → Addr → Pt → Prop} (hK : vx_Back l R p e below s args y 3 W9 Pre Post PostX)
    {b : Addr} {cellB : Cell} (hcell : T.heap[b]? = some cellB) (hobj : cellB.vm.isStatics = false) (hcls : s.vm.findClass C = some cellB.cls)
    {g : JFrame} (hg : g.method = m) (hsize : g.locals.size = c.maxLocals) {argsL rest : List Value} (hlen : ∀ sig, parseMethodDescriptor y.desc = some sig → argsL.length = sig.parameters.length)
    (hstack : g.stack = argsL.reverse ++ .ref b :: rest) (hW : 2 * g.monitorRoom + (rest.map fun v => v.category).sum ≤ W9) (hdg : decode c.code g.pc = .ok (.invokevirtual index, 3))
    (hpre : ∀ vm₁, s.WarmedH vm₁ → Pre ⟨T.setVm vm₁, locs, cells, slots⟩ (Value.ref b :: argsL).toArray) :
    (∃ (v : Option Value) (vm₁ : Vm) (B : Pt), s.WarmedH vm₁ ∧ Stand p l e R s m args below meth c B.U B.locs B.cells B.slots ∧ Post ⟨T.setVm vm₁, locs, cells, slots⟩ (Value.ref b :: argsL).toArray v B ∧
      ∀ target, Steps p.tables e below (B.U.setTop { g with pc := g.pc + 3, stack := v.toList ++ rest }) target → Steps p.tables e below (T.setTop g) target) ∨
    (∃ (q : Addr) (vm₁ : Vm) (B : Pt), s.WarmedH vm₁ ∧ Stand p l e R s m args below meth c B.U B.locs B.cells B.slots ∧ PostX ⟨T.setVm vm₁, locs, cells, slots⟩ (Value.ref b :: argsL).toArray q B ∧
      Steps p.tables e below (T.setTop g) ((B.U.setTop { g with stack := rest }).pushFrame (.throwing q))) := by
  obtain ⟨mk, methM, hnamed, hmethM, hstM, habM⟩ := Cond.instanceMethod_spec hinst
  obtain ⟨methM', cM, hmethM', -, -, -, -, -, -, hsigM⟩ := Cond.code_spec hnamed hcode
  cases hmethM.symm.trans hmethM'
  obtain ⟨c2, r2, m2, q1, q2, q3, q4, kP, hkP, hkPi⟩ := Cond.selects_spec hsel
  cases hcls.symm.trans q1
  cases (State.methodFound?_of_named hnamed hy).symm.trans q2
  cases hnamed.symm.trans q3
  have hselP : selectMethod e.platform s.vm cellB.cls mk = .method mk := by rw [Launch.admits_selectMethod X.admits]; exact q4
  obtain ⟨vm₁, X₁, hstep₁⟩ := X.invokevirtual hexec hown hlink hnamed hmethM hstM hkP hkPi hy (a := b) (cell := cellB) hcell
    (fun z h => by rw [h] at hobj; cases hobj) hselP hmethM habM hkP hkPi (g := g) hg (argsL := argsL) (rest := rest) (hlen _ hsigM) hstack hdg
  rcases hK m meth c ⟨T.setVm vm₁, locs, cells, slots⟩ { g with stack := rest } (.invokevirtual index) mk (Value.ref b :: argsL).toArray X₁ hg hsize hdg hW (X₁.named hnamed) (hpre vm₁ X₁.warmed) with ⟨v, B, X', hpost, hsteps⟩ | ⟨q, B, X', hpost, hsteps⟩
  · exact Or.inl ⟨v, vm₁, B, X₁.warmed, X', hpost, fun target h => hstep₁ _ fun acts => by rw [doInvoke_state]; exact hsteps.trans h⟩
  · exact Or.inr ⟨q, vm₁, B, X₁.warmed, X', hpost, hstep₁ _ fun acts => by rw [doInvoke_state]; exact hsteps⟩
theorem vx_callS (X : Stand p l e R s m args below meth c T locs cells slots) (hexec : p.tables.exec = Jvm.exec) {own : String} {index : Nat} {y : MethodName} {bytes : ByteArray} {maxL : Nat} {ret : Option FieldType}
    (hown : s.vm.findClass own = some m.cls) (hlink : (Cond.methodLink own index y).before args s = true) (hstat : (Cond.static y).before args s = true) (hinit : (Cond.initialized y.cls).before args s = true)
    (hcode : (Cond.code y bytes maxL ret).before args s = true) (hy : y.cls ≠ "java/lang/invoke/MethodHandle" ∧ y.cls ≠ "java/lang/invoke/VarHandle")
    {W9 : Nat} {Pre : Pt → Array Value → Prop} {Post : Pt → Array Value → Option Value → Pt → Prop} {PostX : Pt → Array Value → Addr → Pt → Prop} (hK : vx_Back l R p e below s args y 3 W9 Pre Post PostX)
    {g : JFrame} (hg : g.method = m) (hsize : g.locals.size = c.maxLocals) {argsL rest : List Value} (hlen : ∀ sig, parseMethodDescriptor y.desc = some sig → argsL.length = sig.parameters.length)
    (hstack : g.stack = argsL.reverse ++ rest) (hW : 2 * g.monitorRoom + (rest.map fun v => v.category).sum ≤ W9) (hdg : decode c.code g.pc = .ok (.invokestatic index, 3))
    (hpre : ∀ vm₁, s.WarmedH vm₁ → Pre ⟨T.setVm vm₁, locs, cells, slots⟩ argsL.toArray) :
    (∃ (v : Option Value) (vm₁ : Vm) (B : Pt), s.WarmedH vm₁ ∧ Stand p l e R s m args below meth c B.U B.locs B.cells B.slots ∧ Post ⟨T.setVm vm₁, locs, cells, slots⟩ argsL.toArray v B ∧
      ∀ target, Steps p.tables e below (B.U.setTop { g with pc := g.pc + 3, stack := v.toList ++ rest }) target → Steps p.tables e below (T.setTop g) target) ∨
    (∃ (q : Addr) (vm₁ : Vm) (B : Pt), s.WarmedH vm₁ ∧ Stand p l e R s m args below meth c B.U B.locs B.cells B.slots ∧ PostX ⟨T.setVm vm₁, locs, cells, slots⟩ argsL.toArray q B ∧
      Steps p.tables e below (T.setTop g) ((B.U.setTop { g with stack := rest }).pushFrame (.throwing q))) := by
  obtain ⟨mk, hnamed⟩ := Cond.code_named hcode
  obtain ⟨methM, cM, hmethM, -, -, -, -, -, -, hsigM⟩ := Cond.code_spec hnamed hcode
  have hstatic : methM.isStatic = true := Cond.static_spec hnamed hmethM hstat
  obtain ⟨kP, hkP, -⟩ := className_of_methodNamed hnamed
  have hinitP : kP.init = .initialized := Cond.initialized_spec (findClass_of_methodNamed hnamed) hkP hinit
  obtain ⟨vm₁, X₁, hstep₁⟩ := X.invokestatic hexec hown hlink hnamed hmethM hstatic hkP hinitP hy (g := g) hg (argsL := argsL) (rest := rest) (hlen _ hsigM) hstack hdg
  rcases hK m meth c ⟨T.setVm vm₁, locs, cells, slots⟩ { g with stack := rest } (.invokestatic index) mk argsL.toArray X₁ hg hsize hdg hW (X₁.named hnamed) (hpre vm₁ X₁.warmed) with ⟨v, B, X', hpost, hsteps⟩ | ⟨q, B, X', hpost, hsteps⟩
  · exact Or.inl ⟨v, vm₁, B, X₁.warmed, X', hpost, fun target h => hstep₁ _ fun acts => by rw [doInvoke_state]; exact hsteps.trans h⟩
  · exact Or.inr ⟨q, vm₁, B, X₁.warmed, X', hpost, hstep₁ _ fun acts => by rw [doInvoke_state]; exact hsteps⟩
end Calls
theorem vx_cls {s : State} {T : State} {vm₁ : Vm} {E : String} {k : ClassId} (hW : s.WarmedH vm₁) (h : (T.setVm vm₁).vm.findClass E = some k) : s.vm.findClass E = some k := by
  have h1 : vm₁.findClass E = some k := h
  rw [hW.alike.findClass] at h1
  exact h1
/-- the method's frame g, with q thrown over it -/
def vx_W (p : Program) (l : Launch) (e : Env) (R : Room) (s : State) (m : MethodId) (args : Array Value) (below : List Frame) (meth : Method) (c : Code) (H : Heap) (locs : List Loc) (cells slots : Nat) (Q : State → Prop) (g : JFrame) (q : Addr) : Prop :=
  ∀ T : State, T.heap = H → Stand p l e R s m args below meth c T locs cells slots → ∃ t, Steps p.tables e below ((T.setTop g).pushFrame (.throwing q)) t ∧ Q t
def vx_Run (p : Program) (l : Launch) (e : Env) (R : Room) (s : State) (m : MethodId) (args : Array Value) (below : List Frame) (meth : Method) (c : Code) (H : Heap) (locs : List Loc) (cells slots mc ms : Nat) (g : JFrame) (rest : List Value) (Qa : State → Outcome → State → Prop) (XC : String → State → State → Prop) (free : Addr → Prop) : Prop :=
  ∀ T : State, T.heap = H → Stand p l e R s m args below meth c T locs cells slots →
    (∃ (v : Option Value) (st₀ t T' : State) (L : List Loc), st₀.heap = H ∧ Stand p l e R s m args below meth c T' (locs ++ L) (cells + mc) (slots + ms) ∧ (∀ q ∈ L, free q.base) ∧ T'.heap = t.heap ∧ T'.vm = t.vm ∧ Qa st₀ (.returned v) t ∧
      Goes p e below T g T' { g with pc := g.pc + 3, stack := v.toList ++ rest }) ∨
    (∃ (q : Addr) (st₀ t T' : State) (L : List Loc) (E : String) (ce : Cell), st₀.heap = H ∧ Stand p l e R s m args below meth c T' (locs ++ L) (cells + mc) (slots + ms) ∧ (∀ z ∈ L, free z.base) ∧ T'.heap = t.heap ∧ T'.vm = t.vm ∧ XC E st₀ t ∧ t.heap[q]? = some ce ∧ ce.vm = .none ∧ s.vm.findClass E = some ce.cls ∧
      Steps p.tables e below (T.setTop g) ((T'.setTop { g with stack := rest }).pushFrame (.throwing q)))
def vx_X {S : Type} (px : S → Prop) (B : String → S → State → Prop) (A : Nat → Prop) : String → State → State → Prop := fun E st t => ∃ u : S, px u ∧ B E u t ∧ va_F A st t
section Runs
variable {p : Program} {l : Launch} {e : Env} {R : Room} {s : State} {m : MethodId} {args : Array Value} {below : List Frame} {meth : Method} {c : Code} {H : Heap} {locs : List Loc} {cells slots : Nat}
variable {y : MethodName} {bytes cc : ByteArray} {maxL nL mc ms n index : Nat} {ret : Option FieldType} {ws : List Cond} {rm : Room} {Pc : Array Value → State → Prop} {Qc : Array Value → State → Outcome → State → Prop} {XC : String → State → State → Prop} {free : Addr → Prop} {Ts : List Cond} {own C : String} {b : Addr} {As rest : List Value} {g : JFrame}
theorem vx_callBack (cb : CallB R s args own index y bytes maxL ret ws rm mc ms n) (hM : vx_Met l y ws rm Pc Qc XC mc ms free) (hbl : FrameBlind Pc) : vx_Back l R p e below s args y 3 8 (PreOf R mc ms Pc) (PostOf Qc mc ms free) (vx_Post XC mc ms free) := by
  obtain ⟨hrc, hrs, hfr, hlo, hws, hcw, -, hini, -⟩ := cb
  exact vx_back (bytes := bytes) (maxL := maxL) (ret := ret) hM hbl hrc hrs hfr hlo hws hcw (fun a' U hW => word_at hW (Or.inl (by first | rfl | simp [Cond.onTables, Cond.keeps, Cond.steady])) hini)
theorem vx_runV (S : CallFix p m c cc nL s args Ts own) (hM : vx_Met l y ws rm Pc Qc XC mc ms free) (cw : CallW R s args own C index y bytes maxL ret ws rm mc ms n) (hp : PreV s H C b Pc As)
    (hg : g.method = m) (hn : As.length = n) (hsize : g.locals.size = nL) (hstack : g.stack = As.reverse ++ .ref b :: rest) (hW : 2 * g.monitorRoom + (rest.map fun v => v.category).sum ≤ 8) (hdg : decode cc g.pc = .ok (.invokevirtual index, 3)) (hf : cells + mc ≤ R.cells ∧ slots + ms ≤ R.slots) :
    vx_Run p l e R s m args below meth c H locs cells slots mc ms g rest (Qc (Value.ref b :: As).toArray) XC free := by
  have hK : vx_Back l R p e below s args y 3 8 (PreOf R mc ms Pc) (PostOf Qc mc ms free) (vx_Post XC mc ms free) := vx_callBack cw.1 hM hp.1
  obtain ⟨⟨-, -, -, -, -, -, hcode, -, hy, hlen, hl⟩, hin, hse⟩ := cw
  obtain ⟨hx, hb, hml, ho, -⟩ := S
  obtain ⟨-, ⟨cellB, hcB, hoB, hclB⟩, hPc⟩ := hp
  intro T hT X
  rcases vx_callV X hx (C := C) (bytes := bytes) (maxL := maxL) (ret := ret) ho hl hin hse hcode hy hK (by rw [hT]; exact hcB) hoB hclB hg (hsize.trans hml.symm) (argsL := As) (rest := rest) (fun sig h => hn.trans (hlen sig h)) hstack hW (by rw [hb]; exact hdg)
    (fun vm₁ hW₁ => ⟨hf.1, hf.2, hPc (T.setVm vm₁) hT hW₁⟩) with ⟨v, vm₁, ⟨U', l2, c2, s2⟩, hW₁, X', ⟨g', mk, t, L, e1, e2, hq, h1, hL, h2, h3⟩, st⟩ | ⟨q, vm₁, ⟨U', l2, c2, s2⟩, hW₁, X', ⟨g', mk, t, L, E, ce, e1, e2, hq, hce, hcv, hcl, h1, hL, h2, h3⟩, st⟩
  · dsimp only [Pt.U, Pt.locs, Pt.cells, Pt.slots] at X' e1 e2 h1 h2 h3 st
    subst h1; subst h2; subst h3
    exact Or.inl ⟨v, (T.setVm vm₁).calling g' mk (Value.ref b :: As).toArray, t, U', L, hT, X', hL, e1, e2, hq, st⟩
  · dsimp only [Pt.U, Pt.locs, Pt.cells, Pt.slots] at X' e1 e2 h1 h2 h3 st hcl
    subst h1; subst h2; subst h3
    exact Or.inr ⟨q, (T.setVm vm₁).calling g' mk (Value.ref b :: As).toArray, t, U', L, E, ce, hT, X', hL, e1, e2, hq, hce, hcv, vx_cls hW₁ hcl, st⟩
theorem vx_runS (S : CallFix p m c cc nL s args Ts own) (hM : vx_Met l y ws rm Pc Qc XC mc ms free) (cw : CallB R s args own index y bytes maxL ret ws rm mc ms n ∧ (Cond.static y).before args s = true) (hp : PreS s H Pc As)
    (hg : g.method = m) (hn : As.length = n) (hsize : g.locals.size = nL) (hstack : g.stack = As.reverse ++ rest) (hW : 2 * g.monitorRoom + (rest.map fun v => v.category).sum ≤ 8) (hdg : decode cc g.pc = .ok (.invokestatic index, 3)) (hf : cells + mc ≤ R.cells ∧ slots + ms ≤ R.slots) :
    vx_Run p l e R s m args below meth c H locs cells slots mc ms g rest (Qc As.toArray) XC free := by
  have hK : vx_Back l R p e below s args y 3 8 (PreOf R mc ms Pc) (PostOf Qc mc ms free) (vx_Post XC mc ms free) := vx_callBack cw.1 hM hp.1
  obtain ⟨⟨-, -, -, -, -, -, hcode, hini, hy, hlen, hl⟩, hstt⟩ := cw
  obtain ⟨hx, hb, hml, ho, -⟩ := S
  intro T hT X
  rcases vx_callS X hx (bytes := bytes) (maxL := maxL) (ret := ret) ho hl hstt hini hcode hy hK hg (hsize.trans hml.symm) (argsL := As) (rest := rest) (fun sig h => hn.trans (hlen sig h)) hstack hW (by rw [hb]; exact hdg)
    (fun vm₁ hW₁ => ⟨hf.1, hf.2, hp.2 (T.setVm vm₁) hT hW₁⟩) with ⟨v, vm₁, ⟨U', l2, c2, s2⟩, hW₁, X', ⟨g', mk, t, L, e1, e2, hq, h1, hL, h2, h3⟩, st⟩ | ⟨q, vm₁, ⟨U', l2, c2, s2⟩, hW₁, X', ⟨g', mk, t, L, E, ce, e1, e2, hq, hce, hcv, hcl, h1, hL, h2, h3⟩, st⟩
  · dsimp only [Pt.U, Pt.locs, Pt.cells, Pt.slots] at X' e1 e2 h1 h2 h3 st
    subst h1; subst h2; subst h3
    exact Or.inl ⟨v, (T.setVm vm₁).calling g' mk As.toArray, t, U', L, hT, X', hL, e1, e2, hq, st⟩
  · dsimp only [Pt.U, Pt.locs, Pt.cells, Pt.slots] at X' e1 e2 h1 h2 h3 st hcl
    subst h1; subst h2; subst h3
    exact Or.inr ⟨q, (T.setVm vm₁).calling g' mk As.toArray, t, U', L, E, ce, hT, X', hL, e1, e2, hq, hce, hcv, vx_cls hW₁ hcl, st⟩
end Runs
section Rows
variable {p : Program} {l : Launch} {e : Env} {R : Room} {s : State} {m : MethodId} {args : Array Value} {below : List Frame} {meth : Method} {c : Code} {H : Heap} {locs : List Loc} {cells slots : Nat} {Q : State → Prop}
variable {mc ms : Nat} {free : Addr → Prop} {A0 A1 : Nat → Prop} {H0 : Heap} {a : Array Value} {pc : Nat} {ls : Array Slot} {st0 rest : List Value}
theorem vx_keep {st₀ t T' : State} {L : List Loc} (h0 : st₀.heap = H) (e1 : T'.heap = t.heap) (hS : va_S A0 H0 H locs) (hA : ∀ q, q < H.size → A1 q → A0 q) (hf : ∀ q, free q → A0 q) (hL : ∀ q ∈ L, free q.base) (hF : va_F A1 st₀ t) :
    H.size ≤ T'.heap.size ∧ (∀ q : Nat, q < H.size → ¬ A1 q → T'.heap[q]? = H[q]?) ∧ va_S A0 H0 T'.heap (locs ++ L) := by
  obtain ⟨hz, hk⟩ := hF
  rw [h0] at hz hk
  exact ⟨by rw [e1]; exact hz, fun q h1 h2 => by rw [e1]; exact hk q h1 h2,
    ⟨Nat.le_trans hS.1 (by rw [e1]; exact hz), fun q h1 h2 => by rw [e1, hk q (Nat.lt_of_lt_of_le h1 hS.1) (fun z => h2 (hA q (Nat.lt_of_lt_of_le h1 hS.1) z))]; exact hS.2.1 q h1 h2, fun q hq => by
      rcases List.mem_append.mp hq with h | h
      · exact hS.2.2 q h
      · exact hf _ (hL q h)⟩⟩
theorem vx_calli {S SX : Type} {post : Int32 → S → Prop} {px : SX → Prop} {B : S → State → Prop} {BX : String → SX → State → Prop} {AX : Nat → Prop} (hr : vx_Run p l e R s m args below meth c H locs cells slots mc ms (F0 m pc ls st0) rest (va_Qi post B A1 a) (vx_X px BX AX) free) (hS : va_S A0 H0 H locs) (hA : ∀ q, q < H.size → A1 q → A0 q) (hf : ∀ q, free q → A0 q) (hAX : ∀ q, q < H.size → AX q → A0 q)
    (kx : ∀ (E : String) (ce : Cell) (q9 : Addr) (u : SX) (t : State) (H1 : Heap) (locs1 : List Loc), t.heap = H1 → s.vm.Alike t.vm → px u → BX E u t → H.size ≤ H1.size → (∀ q : Nat, q < H.size → ¬ AX q → H1[q]? = H[q]?) → va_S A0 H0 H1 locs1 → H1[q9]? = some ce → ce.vm = .none → s.vm.findClass E = some ce.cls → vx_W p l e R s m args below meth c H1 locs1 (cells + mc) (slots + ms) Q (F0 m pc ls rest) q9)
    (kk : ∀ (r : Int32) (u : S) (t : State) (H1 : Heap) (locs1 : List Loc), t.heap = H1 → s.vm.Alike t.vm → post r u → B u t → H.size ≤ H1.size → (∀ q : Nat, q < H.size → ¬ A1 q → H1[q]? = H[q]?) → va_S A0 H0 H1 locs1 → W p l e R s m args below meth c H1 locs1 (cells + mc) (slots + ms) Q (F0 m (pc + 3) ls (.int r :: rest))) : W p l e R s m args below meth c H locs cells slots Q (F0 m pc ls st0) := by
  intro T hT X
  rcases hr T hT X with ⟨v, st₀, t, T', L, h0, X', hL, e1, e2, ⟨⟨r, u, hv, hp, hb⟩, hF⟩, st⟩ | ⟨q, st₀, t, T', L, E, ce, h0, X', hL, e1, e2, ⟨u, hp, hb, hF⟩, hce, hcv, hcl, st⟩
  · cases hv
    obtain ⟨k1, k2, k3⟩ := vx_keep h0 e1 hS hA hf hL hF
    obtain ⟨t2, a1, b1⟩ := kk r u t T'.heap (locs ++ L) e1.symm (by rw [← e2]; exact X'.warmed.alike) hp hb k1 k2 k3 T' rfl X'
    exact ⟨t2, st t2 a1, b1⟩
  · obtain ⟨k1, k2, k3⟩ := vx_keep h0 e1 hS hAX hf hL hF
    obtain ⟨t2, a1, b1⟩ := kx E ce q u t T'.heap (locs ++ L) e1.symm (by rw [← e2]; exact X'.warmed.alike) hp hb k1 k2 k3 (by rw [e1]; exact hce) hcv hcl T' rfl X'
    exact ⟨t2, st.trans a1, b1⟩
theorem vx_calll {S SX : Type} {post : Int64 → S → Prop} {px : SX → Prop} {B : S → State → Prop} {BX : String → SX → State → Prop} {AX : Nat → Prop} (hr : vx_Run p l e R s m args below meth c H locs cells slots mc ms (F0 m pc ls st0) rest (va_Ql post B A1 a) (vx_X px BX AX) free) (hS : va_S A0 H0 H locs) (hA : ∀ q, q < H.size → A1 q → A0 q) (hf : ∀ q, free q → A0 q) (hAX : ∀ q, q < H.size → AX q → A0 q)
    (kx : ∀ (E : String) (ce : Cell) (q9 : Addr) (u : SX) (t : State) (H1 : Heap) (locs1 : List Loc), t.heap = H1 → s.vm.Alike t.vm → px u → BX E u t → H.size ≤ H1.size → (∀ q : Nat, q < H.size → ¬ AX q → H1[q]? = H[q]?) → va_S A0 H0 H1 locs1 → H1[q9]? = some ce → ce.vm = .none → s.vm.findClass E = some ce.cls → vx_W p l e R s m args below meth c H1 locs1 (cells + mc) (slots + ms) Q (F0 m pc ls rest) q9)
    (kk : ∀ (r : Int64) (u : S) (t : State) (H1 : Heap) (locs1 : List Loc), t.heap = H1 → s.vm.Alike t.vm → post r u → B u t → H.size ≤ H1.size → (∀ q : Nat, q < H.size → ¬ A1 q → H1[q]? = H[q]?) → va_S A0 H0 H1 locs1 → W p l e R s m args below meth c H1 locs1 (cells + mc) (slots + ms) Q (F0 m (pc + 3) ls (.long r :: rest))) : W p l e R s m args below meth c H locs cells slots Q (F0 m pc ls st0) := by
  intro T hT X
  rcases hr T hT X with ⟨v, st₀, t, T', L, h0, X', hL, e1, e2, ⟨⟨r, u, hv, hp, hb⟩, hF⟩, st⟩ | ⟨q, st₀, t, T', L, E, ce, h0, X', hL, e1, e2, ⟨u, hp, hb, hF⟩, hce, hcv, hcl, st⟩
  · cases hv
    obtain ⟨k1, k2, k3⟩ := vx_keep h0 e1 hS hA hf hL hF
    obtain ⟨t2, a1, b1⟩ := kk r u t T'.heap (locs ++ L) e1.symm (by rw [← e2]; exact X'.warmed.alike) hp hb k1 k2 k3 T' rfl X'
    exact ⟨t2, st t2 a1, b1⟩
  · obtain ⟨k1, k2, k3⟩ := vx_keep h0 e1 hS hAX hf hL hF
    obtain ⟨t2, a1, b1⟩ := kx E ce q u t T'.heap (locs ++ L) e1.symm (by rw [← e2]; exact X'.warmed.alike) hp hb k1 k2 k3 (by rw [e1]; exact hce) hcv hcl T' rfl X'
    exact ⟨t2, st.trans a1, b1⟩
theorem vx_callf {S SX : Type} {post : UInt32 → S → Prop} {px : SX → Prop} {B : S → State → Prop} {BX : String → SX → State → Prop} {AX : Nat → Prop} (hr : vx_Run p l e R s m args below meth c H locs cells slots mc ms (F0 m pc ls st0) rest (va_Qf post B A1 a) (vx_X px BX AX) free) (hS : va_S A0 H0 H locs) (hA : ∀ q, q < H.size → A1 q → A0 q) (hf : ∀ q, free q → A0 q) (hAX : ∀ q, q < H.size → AX q → A0 q)
    (kx : ∀ (E : String) (ce : Cell) (q9 : Addr) (u : SX) (t : State) (H1 : Heap) (locs1 : List Loc), t.heap = H1 → s.vm.Alike t.vm → px u → BX E u t → H.size ≤ H1.size → (∀ q : Nat, q < H.size → ¬ AX q → H1[q]? = H[q]?) → va_S A0 H0 H1 locs1 → H1[q9]? = some ce → ce.vm = .none → s.vm.findClass E = some ce.cls → vx_W p l e R s m args below meth c H1 locs1 (cells + mc) (slots + ms) Q (F0 m pc ls rest) q9)
    (kk : ∀ (r : UInt32) (u : S) (t : State) (H1 : Heap) (locs1 : List Loc), t.heap = H1 → s.vm.Alike t.vm → post r u → B u t → H.size ≤ H1.size → (∀ q : Nat, q < H.size → ¬ A1 q → H1[q]? = H[q]?) → va_S A0 H0 H1 locs1 → W p l e R s m args below meth c H1 locs1 (cells + mc) (slots + ms) Q (F0 m (pc + 3) ls (.float r :: rest))) : W p l e R s m args below meth c H locs cells slots Q (F0 m pc ls st0) := by
  intro T hT X
  rcases hr T hT X with ⟨v, st₀, t, T', L, h0, X', hL, e1, e2, ⟨⟨r, u, hv, hp, hb⟩, hF⟩, st⟩ | ⟨q, st₀, t, T', L, E, ce, h0, X', hL, e1, e2, ⟨u, hp, hb, hF⟩, hce, hcv, hcl, st⟩
  · cases hv
    obtain ⟨k1, k2, k3⟩ := vx_keep h0 e1 hS hA hf hL hF
    obtain ⟨t2, a1, b1⟩ := kk r u t T'.heap (locs ++ L) e1.symm (by rw [← e2]; exact X'.warmed.alike) hp hb k1 k2 k3 T' rfl X'
    exact ⟨t2, st t2 a1, b1⟩
  · obtain ⟨k1, k2, k3⟩ := vx_keep h0 e1 hS hAX hf hL hF
    obtain ⟨t2, a1, b1⟩ := kx E ce q u t T'.heap (locs ++ L) e1.symm (by rw [← e2]; exact X'.warmed.alike) hp hb k1 k2 k3 (by rw [e1]; exact hce) hcv hcl T' rfl X'
    exact ⟨t2, st.trans a1, b1⟩
theorem vx_calld {S SX : Type} {post : UInt64 → S → Prop} {px : SX → Prop} {B : S → State → Prop} {BX : String → SX → State → Prop} {AX : Nat → Prop} (hr : vx_Run p l e R s m args below meth c H locs cells slots mc ms (F0 m pc ls st0) rest (va_Qd post B A1 a) (vx_X px BX AX) free) (hS : va_S A0 H0 H locs) (hA : ∀ q, q < H.size → A1 q → A0 q) (hf : ∀ q, free q → A0 q) (hAX : ∀ q, q < H.size → AX q → A0 q)
    (kx : ∀ (E : String) (ce : Cell) (q9 : Addr) (u : SX) (t : State) (H1 : Heap) (locs1 : List Loc), t.heap = H1 → s.vm.Alike t.vm → px u → BX E u t → H.size ≤ H1.size → (∀ q : Nat, q < H.size → ¬ AX q → H1[q]? = H[q]?) → va_S A0 H0 H1 locs1 → H1[q9]? = some ce → ce.vm = .none → s.vm.findClass E = some ce.cls → vx_W p l e R s m args below meth c H1 locs1 (cells + mc) (slots + ms) Q (F0 m pc ls rest) q9)
    (kk : ∀ (r : UInt64) (u : S) (t : State) (H1 : Heap) (locs1 : List Loc), t.heap = H1 → s.vm.Alike t.vm → post r u → B u t → H.size ≤ H1.size → (∀ q : Nat, q < H.size → ¬ A1 q → H1[q]? = H[q]?) → va_S A0 H0 H1 locs1 → W p l e R s m args below meth c H1 locs1 (cells + mc) (slots + ms) Q (F0 m (pc + 3) ls (.double r :: rest))) : W p l e R s m args below meth c H locs cells slots Q (F0 m pc ls st0) := by
  intro T hT X
  rcases hr T hT X with ⟨v, st₀, t, T', L, h0, X', hL, e1, e2, ⟨⟨r, u, hv, hp, hb⟩, hF⟩, st⟩ | ⟨q, st₀, t, T', L, E, ce, h0, X', hL, e1, e2, ⟨u, hp, hb, hF⟩, hce, hcv, hcl, st⟩
  · cases hv
    obtain ⟨k1, k2, k3⟩ := vx_keep h0 e1 hS hA hf hL hF
    obtain ⟨t2, a1, b1⟩ := kk r u t T'.heap (locs ++ L) e1.symm (by rw [← e2]; exact X'.warmed.alike) hp hb k1 k2 k3 T' rfl X'
    exact ⟨t2, st t2 a1, b1⟩
  · obtain ⟨k1, k2, k3⟩ := vx_keep h0 e1 hS hAX hf hL hF
    obtain ⟨t2, a1, b1⟩ := kx E ce q u t T'.heap (locs ++ L) e1.symm (by rw [← e2]; exact X'.warmed.alike) hp hb k1 k2 k3 (by rw [e1]; exact hce) hcv hcl T' rfl X'
    exact ⟨t2, st.trans a1, b1⟩
theorem vx_callv {S SX : Type} {post : S → Prop} {px : SX → Prop} {B : S → State → Prop} {BX : String → SX → State → Prop} {AX : Nat → Prop} (hr : vx_Run p l e R s m args below meth c H locs cells slots mc ms (F0 m pc ls st0) rest (va_Qv post B A1 a) (vx_X px BX AX) free) (hS : va_S A0 H0 H locs) (hA : ∀ q, q < H.size → A1 q → A0 q) (hf : ∀ q, free q → A0 q) (hAX : ∀ q, q < H.size → AX q → A0 q)
    (kx : ∀ (E : String) (ce : Cell) (q9 : Addr) (u : SX) (t : State) (H1 : Heap) (locs1 : List Loc), t.heap = H1 → s.vm.Alike t.vm → px u → BX E u t → H.size ≤ H1.size → (∀ q : Nat, q < H.size → ¬ AX q → H1[q]? = H[q]?) → va_S A0 H0 H1 locs1 → H1[q9]? = some ce → ce.vm = .none → s.vm.findClass E = some ce.cls → vx_W p l e R s m args below meth c H1 locs1 (cells + mc) (slots + ms) Q (F0 m pc ls rest) q9)
    (kk : ∀ (u : S) (t : State) (H1 : Heap) (locs1 : List Loc), t.heap = H1 → s.vm.Alike t.vm → post u → B u t → H.size ≤ H1.size → (∀ q : Nat, q < H.size → ¬ A1 q → H1[q]? = H[q]?) → va_S A0 H0 H1 locs1 → W p l e R s m args below meth c H1 locs1 (cells + mc) (slots + ms) Q (F0 m (pc + 3) ls (rest))) : W p l e R s m args below meth c H locs cells slots Q (F0 m pc ls st0) := by
  intro T hT X
  rcases hr T hT X with ⟨v, st₀, t, T', L, h0, X', hL, e1, e2, ⟨⟨u, hv, hp, hb⟩, hF⟩, st⟩ | ⟨q, st₀, t, T', L, E, ce, h0, X', hL, e1, e2, ⟨u, hp, hb, hF⟩, hce, hcv, hcl, st⟩
  · cases hv
    obtain ⟨k1, k2, k3⟩ := vx_keep h0 e1 hS hA hf hL hF
    obtain ⟨t2, a1, b1⟩ := kk u t T'.heap (locs ++ L) e1.symm (by rw [← e2]; exact X'.warmed.alike) hp hb k1 k2 k3 T' rfl X'
    exact ⟨t2, st t2 a1, b1⟩
  · obtain ⟨k1, k2, k3⟩ := vx_keep h0 e1 hS hAX hf hL hF
    obtain ⟨t2, a1, b1⟩ := kx E ce q u t T'.heap (locs ++ L) e1.symm (by rw [← e2]; exact X'.warmed.alike) hp hb k1 k2 k3 (by rw [e1]; exact hce) hcv hcl T' rfl X'
    exact ⟨t2, st.trans a1, b1⟩
/-- caught by the row x of this method's table; the rows ahead don't take it -/
theorem vx_catch {own name : String} {E : String} {ce : Cell} {q : Addr} (hown : s.vm.findClass own = some m.cls) (pre : List ExceptionTableEntry) (x : ExceptionTableEntry) (suf : List ExceptionTableEntry) (hsplit : c.exceptionTable.toList = pre ++ x :: suf)
    (hpass : ∀ z ∈ pre, covers z pc = false ∨ (z.catchType ≠ 0 ∧ ∃ nm : String, (Cond.classLink own z.catchType nm).before args s = true ∧ va_Nc E nm s)) (hx : covers x pc = true) (h0 : x.catchType ≠ 0)
    (hlink : (Cond.classLink own x.catchType name).before args s = true) (hcast : (Cond.castable E name).before args s = true) (hcell : H[q]? = some ce) (hv : ce.vm = .none) (hcl : s.vm.findClass E = some ce.cls)
    (kk : W p l e R s m args below meth c H locs cells slots Q (F0 m x.handlerPc ls [.ref q])) : vx_W p l e R s m args below meth c H locs cells slots Q (F0 m pc ls rest) q := by
  intro T hT X
  have hpl : e.platform.magicAccessors = ({} : Platform).magicAccessors := by rw [X.admits.platform]
  obtain ⟨c3, c4, hc3, hc4, hasg⟩ := Cond.castable_spec hcast
  cases Option.some.inj (hc3.symm.trans hcl)
  obtain ⟨c5, hc5, hcl5⟩ := Cond.classLink_spec hown hlink e.platform hpl
  cases Option.some.inj (hc4.symm.trans hc5)
  obtain ⟨vm', X', st⟩ := X.thenCaughtThrough q (g := F0 m pc ls rest) rfl (Steps.refl _) (by rw [hT]; exact hcell) (by rw [hv]; rfl) (by obtain ⟨k9, h9, -⟩ := Vm.findClass_spec hcl; exact ⟨k9, h9⟩) pre x suf hsplit
    (fun z hz => by
      rcases hpass z hz with h | ⟨hz0, nm, hl1, hn1⟩
      · exact Or.inl h
      · obtain ⟨c6, hc6, hcl6⟩ := Cond.classLink_spec hown hl1 e.platform hpl
        obtain ⟨a8, b8, h1, h2, h3⟩ := hn1
        cases Option.some.inj (h1.symm.trans hcl)
        cases Option.some.inj (h2.symm.trans hc6)
        exact Or.inr ⟨hz0, _, hcl6, h3⟩) hx (Or.inr ⟨h0, c4, hcl5, hasg⟩)
  obtain ⟨t, a1, b1⟩ := kk (T.setVm vm') hT X'
  exact ⟨t, st.trans a1, b1⟩
end Rows
section Ends
variable {p : Program} {l : Launch} {e : Env} {R : Room} {s : State} {m : MethodId} {args : Array Value} {below : List Frame} {meth : Method} {c : Code} {H : Heap} {locs : List Loc} {cells slots : Nat} {Q : State → Prop}
variable {mc ms : Nat} {free : Addr → Prop} {A0 A1 : Nat → Prop} {H0 : Heap} {a : Array Value} {ls : Array Slot} {st0 rest : List Value}
variable {Qc : Array Value → State → Outcome → State → Prop} {XC : String → State → State → Prop}
/-- what a body that may throw owes at its end -/
def vx_MQ (below : List Frame) (Qc : Array Value → State → Outcome → State → Prop) (XC : String → State → State → Prop) (a : Array Value) (s : State) (mc ms : Nat) (free : Addr → Prop) : State → Prop := fun t =>
  ∃ o, t.status = .running ∧ Ended t below o ∧ vx_Q Qc XC mc ms free a s o t
theorem vx_ret {g : JFrame} {mc ms : Nat} (k : W p l e R s m args below meth c H locs cells slots (MQ below Qc args s mc ms free) g) : W p l e R s m args below meth c H locs cells slots (vx_MQ below Qc XC args s mc ms free) g := by
  intro T hT X
  obtain ⟨t, a1, o, b1, b2, b3, b4⟩ := k T hT X
  exact ⟨t, a1, o, b1, b2, Or.inl ⟨b3, b4⟩⟩
/-- not caught here: it goes on to the caller -/
theorem vx_widen {g : JFrame} {q : Addr} {k n : Nat} (h1 : cells ≤ k) (h2 : slots ≤ n) (kk : vx_W p l e R s m args below meth c H locs k n Q g q) : vx_W p l e R s m args below meth c H locs cells slots Q g q := fun T hT X => kk T hT (stand_widen X h1 h2)
theorem vx_out {pc : Nat} {E : String} {ce : Cell} {q : Addr} {mc ms : Nat} (hout : ∀ x ∈ c.exceptionTable.toList, covers x pc = false) (hlocks : meth.locks = false) (hcell : H[q]? = some ce) (hv : ce.vm = .none) (hcl : s.vm.findClass E = some ce.cls)
    (hx : ∀ t : State, t.heap = H → s.vm.Alike t.vm → XC E s t) (hf : ∀ z ∈ locs, free z.base) (hc : cells ≤ mc) (hs : slots ≤ ms) :
    vx_W p l e R s m args below meth c H locs cells slots (vx_MQ below Qc XC args s mc ms free) (F0 m pc ls rest) q := by
  intro T hT X
  obtain ⟨st1, hrun, hend, hW, hsm⟩ := X.leaveThrown q (g := F0 m pc ls rest) rfl rfl rfl hout hlocks
  have hcell9 : (T.setFrames (.throwing q :: below)).heap[q]? = some ce := by
    show T.heap[q]? = some ce
    rw [hT]; exact hcell
  exact ⟨_, st1, .threw q, hrun, hend, Or.inr ⟨q, rfl, E, ce, locs, hx _ hT hW.alike, hcell9, hv, hcl, hW, hsm.mono hc hs, hf⟩⟩
theorem vx_frame {U : State} {k n : Nat} (h : s.sameButNew ({ U with vm := s.vm } : State) locs k n) : s.heap.size ≤ U.heap.size ∧ ∀ q : Nat, q < s.heap.size → (∀ z ∈ locs, z.base ≠ q) → U.heap[q]? = s.heap[q]? := by
  obtain ⟨-, h2, -, -, -, h6⟩ := h
  refine ⟨h2, fun q hq hz => ?_⟩
  obtain ⟨c9, e1, e2, e3, e4⟩ := h6 q _ (Array.getElem?_eq_getElem hq)
  have hs : c9.slots = (s.heap[q]).slots := Array.ext_getElem? fun i => e4 i fun hm => hz _ hm rfl
  have h9 : c9 = s.heap[q] := by
    rw [hs] at e2
    exact e2
  have e5 : U.heap[q]? = some c9 := e1
  rw [e5, h9, Array.getElem?_eq_getElem hq]
/-- the words of a throw but the four that speak of the heap -/
def vx_no (w : Cond) : Bool := decide (w ≠ .isRef (.static Bundle.tN "UNASSIGNED_STACK" Bundle.steD)) && decide (w ≠ .isRef (.static Bundle.tN "SUPPRESSED_SENTINEL" Bundle.listD)) && decide (w ≠ .laysStatic Bundle.tN "UNASSIGNED_STACK" Bundle.steD) && decide (w ≠ .laysStatic Bundle.tN "SUPPRESSED_SENTINEL" Bundle.listD)
def vx_at0 (own : String) (ic : Nat) (X : String) (names : List String) : List Cond := (Bundle.ownAtoms0 own ic X names).filter vx_no
def vx_atS (own : String) (ic : Nat) (X : String) (names : List String) : List Cond := (Bundle.ownAtoms own ic X names).filter vx_no
/-- a word that the tables alone decide, or a good one -/
def vx_ot (w : Cond) : Bool := w.onTables || goodWord w
theorem vx_ot_at {args a' : Array Value} {s U : State} {w : Cond} (hW : s.WarmedH U.vm) (hvm : s.vm = U.vm) (hg : vx_ot w = true) (h : w.before args s = true) : w.before a' U = true := by
  simp only [vx_ot, Bool.or_eq_true] at hg
  rcases hg with hg | hg
  · exact va_tabs hg hvm h
  · exact word_at hW (good_of_word hg) h
/-- a list's words: the good ones out of the method's own list, the others by premises of their own -/
theorem vx_hat {args : Array Value} {s : State} {L B : List Cond} (h1 : ∀ w ∈ L.filter goodWord, w.before args s = true) (h2 : ∀ w ∈ L.filter (fun w => !goodWord w), w ∈ B) (h3 : ∀ w ∈ B, w.before args s = true) : ∀ w ∈ L, w.before args s = true := by
  intro w hw
  by_cases g : goodWord w = true
  · exact h1 w (List.mem_filter.mpr ⟨hw, g⟩)
  · refine h3 w (h2 w (List.mem_filter.mpr ⟨hw, ?_⟩))
    show (!goodWord w) = true
    cases hgw : goodWord w
    · rfl
    · exact absurd hgw g
theorem vx_c {args : Array Value} {s : State} {w : Cond} {B : List Cond} (h : w.before args s = true) (t : ∀ w ∈ B, w.before args s = true) : ∀ w' ∈ w :: B, w'.before args s = true := fun w' h' => (List.mem_cons.mp h').elim (fun e => by rw [e]; exact h) (t w')
theorem vx_n {args : Array Value} {s : State} : ∀ w ∈ ([] : List Cond), w.before args s = true := fun _ h => nomatch h
theorem vx_own {args : Array Value} {s : State} {L : List Cond} (h1 : ∀ w ∈ L.filter vx_no, w.before args s = true)
    (hU : (Cond.isRef (.static Bundle.tN "UNASSIGNED_STACK" Bundle.steD)).before args s = true) (hN : (Cond.isRef (.static Bundle.tN "SUPPRESSED_SENTINEL" Bundle.listD)).before args s = true)
    (lU : (Cond.laysStatic Bundle.tN "UNASSIGNED_STACK" Bundle.steD).before args s = true) (lN : (Cond.laysStatic Bundle.tN "SUPPRESSED_SENTINEL" Bundle.listD).before args s = true) : ∀ w ∈ L, w.before args s = true := by
  intro w hw
  by_cases e1 : w = .isRef (.static Bundle.tN "UNASSIGNED_STACK" Bundle.steD)
  · rw [e1]; exact hU
  · by_cases e2 : w = .isRef (.static Bundle.tN "SUPPRESSED_SENTINEL" Bundle.listD)
    · rw [e2]; exact hN
    · by_cases e3 : w = .laysStatic Bundle.tN "UNASSIGNED_STACK" Bundle.steD
      · rw [e3]; exact lU
      · by_cases e4 : w = .laysStatic Bundle.tN "SUPPRESSED_SENTINEL" Bundle.listD
        · rw [e4]; exact lN
        · exact h1 w (List.mem_filter.mpr ⟨hw, by unfold vx_no; rw [decide_eq_true e1, decide_eq_true e2, decide_eq_true e3, decide_eq_true e4]; rfl⟩)
/-- where a static field lies, its class's statics cell in H -/
def vx_L (C n d : String) (A : Nat → Prop) (U : State) (H : Heap) : Prop := ∃ (c : ClassId) (k : Class) (i : Nat) (f : Field) (a : Nat) (cell : Cell), U.vm.findClass C = some c ∧ U.fieldFound? C n d = some (c, k, i, f) ∧ f.isStatic = true ∧ k.statics = some a ∧ H[a]? = some cell ∧ cell.vm.isStatics = true ∧ cell.cls = c ∧ f.slot < cell.slots.size ∧ k.staticTypes[f.slot]? = some f.type ∧ ¬ A a
theorem vx_L.moved {C n d : String} {A : Nat → Prop} {u U : State} {H : Heap} (hvm : u.vm.Alike U.vm) (h : vx_L C n d A u H) : vx_L C n d A U H := by
  obtain ⟨c, k, i, f, a, cell, h1, h2, h3, h4, h5, h6, h7, h8, h9, h10⟩ := h
  obtain ⟨k', hi', he⟩ := State.fieldFound?_setVm hvm h2
  exact ⟨c, k', i, f, a, cell, by rw [hvm.findClass]; exact h1, hi', h3, by rw [he]; exact h4, h5, h6, h7, h8, by rw [he]; exact h9, h10⟩
theorem vx_L.kept {C n d : String} {A : Nat → Prop} {U : State} {H H1 : Heap} (h : vx_L C n d A U H) (hq : ∀ a : Nat, a < H.size → ¬ A a → H1[a]? = H[a]?) : vx_L C n d A U H1 := by
  obtain ⟨c, k, i, f, a, cell, h1, h2, h3, h4, h5, h6, h7, h8, h9, h10⟩ := h
  exact ⟨c, k, i, f, a, cell, h1, h2, h3, h4, by rw [hq a (Array.getElem?_eq_some_iff.mp h5).1 h10]; exact h5, h6, h7, h8, h9, h10⟩
theorem vx_L.narrow {C n d : String} {A B : Nat → Prop} {U : State} {H : Heap} (h : vx_L C n d A U H) (hAB : ∀ q, B q → A q) : vx_L C n d B U H := by
  obtain ⟨c, k, i, f, a, cell, h1, h2, h3, h4, h5, h6, h7, h8, h9, h10⟩ := h
  exact ⟨c, k, i, f, a, cell, h1, h2, h3, h4, h5, h6, h7, h8, h9, fun z => h10 (hAB _ z)⟩
theorem vx_L.word {C n d : String} {A : Nat → Prop} {s : State} {args : Array Value} (h : vx_L C n d A s s.heap) : (Cond.laysStatic C n d).before args s = true := by
  obtain ⟨c, k, i, f, a, cell, h1, h2, h3, h4, h5, h6, h7, h8, h9, -⟩ := h
  show (Cond.laysStatic C n d).holds args s none s [] = true
  exact Cond.laysStatic_of h1 h2 h3 h4 h5 h6 h7 h8 h9
/-- .. and what it holds: null or some reference -/
def vx_Zq (C n d : String) (A : Nat → Prop) (U : State) (H : Heap) : Prop := va_Zq C n d A U H ∧ vx_L C n d A U H
theorem vx_Zq.moved {C n d : String} {A : Nat → Prop} {u U : State} {H : Heap} (hvm : u.vm.Alike U.vm) (h : vx_Zq C n d A u H) : vx_Zq C n d A U H := ⟨va_Zq.moved hvm h.1, vx_L.moved hvm h.2⟩
theorem vx_Zq.kept {C n d : String} {A : Nat → Prop} {U : State} {H H1 : Heap} (h : vx_Zq C n d A U H) (hq : ∀ a : Nat, a < H.size → ¬ A a → H1[a]? = H[a]?) : vx_Zq C n d A U H1 := ⟨va_Zq.kept h.1 hq, vx_L.kept h.2 hq⟩
theorem vx_Zq.narrow {C n d : String} {A B : Nat → Prop} {U : State} {H : Heap} (h : vx_Zq C n d A U H) (hAB : ∀ q, B q → A q) : vx_Zq C n d B U H := ⟨va_Zq.narrow h.1 hAB, vx_L.narrow h.2 hAB⟩
theorem vx_Zqof {args : Array Value} {s : State} {C n d : String} {A : Nat → Prop} (hl : (Cond.laysStatic C n d).before args s = true) (hini : (Cond.initialized C).before args s = true) (h : (Cond.isRef (.static C n d)).before args s = true) (hA : ∀ a : Nat, a < s.heap.size → ¬ A a) : vx_Zq C n d A s s.heap := by
  refine ⟨va_Zqof hl hini h hA, ?_⟩
  obtain ⟨c, k, i, f, a, cell, h1, h2, h3, h4, h5, h6, h7, h8, h9⟩ := Cond.laysStatic_spec hl
  exact ⟨c, k, i, f, a, cell, h1, h2, h3, h4, h5, h6, h7, h8, h9, hA a (Array.getElem?_eq_some_iff.mp h5).1⟩
theorem vx_isRef {C n d : String} {v : Value} {A : Nat → Prop} {s : State} {args : Array Value} (h : va_Z C n d v A s s.heap) (hv : v.isRef = true) : (Cond.isRef (.static C n d)).before args s = true := by
  obtain ⟨cf, kf, fi, f, a, cell, h1, h2, h3, h4, h5, h6, h7, -⟩ := h
  have he : (Term.static C n d).eval args s none [] s = some v := by
    simp [Term.eval, State.fieldNamed?, h1, h2, h4, h5, h6, h7]
  simp only [Cond.before, Cond.holds, Cond.value, he]
  cases v <;> simp_all [Value.isRef]
theorem vx_isRefq {C n d : String} {A : Nat → Prop} {s : State} {args : Array Value} (h : va_Zq C n d A s s.heap) : (Cond.isRef (.static C n d)).before args s = true := by
  rcases h with h | ⟨t, h⟩
  · exact vx_isRef h rfl
  · exact vx_isRef h rfl
/-- the same frame, seen from here: as if the method were called anew in this heap -/
theorem vx_rebase {T : State} (X : Stand p l e R s m args below meth c T locs cells slots) {R' : Room} (hf : R'.frames ≤ R.frames) (hl : R'.locals ≤ R.locals) (hc : cells + R'.cells ≤ R.cells) (hs : slots + R'.slots ≤ R.slots) :
    Stand p l e R' ((T.setVm s.vm).setFrames (.invoking m args :: below)) m args below meth c T [] 0 0 := by
  have htop : (T.setVm s.vm).topJava?.isSome := X.here.top
  have hF : ((T.setVm s.vm).setFrames (.invoking m args :: below)).frames = .invoking m args :: below := State.frames_setFrames _ (State.cur_lt_of_top htop)
  obtain ⟨g₀, hg0⟩ := Option.isSome_iff_exists.mp htop
  obtain ⟨r, hr⟩ := State.topJava?_eq_some.mp hg0
  have hl9 : e.platform.stackLimits (T.setVm s.vm).me = e.platform.stackLimits s.me := X.limits
  have hb9 : (T.setVm s.vm).me.stackBytes = s.me.stackBytes := X.bytes
  refine ⟨X.admits, X.cas, X.clock, hF, ?_, X.hears, X.method, X.code, X.here, X.tail, X.warmed, ?_, ?_, ?_⟩
  · have h := X.room
    have hU : ((T.setVm s.vm).setFrames (.invoking m args :: below)).localsInUse = s.localsInUse := by
      rw [State.localsInUse_invoking hF (meth := meth) (c := c) X.method X.code, State.localsInUse_invoking X.frames X.method X.code]
    simp only [State.hasRoom, Bool.and_eq_true, decide_eq_true_eq] at h ⊢
    obtain ⟨⟨⟨⟨h1, h2, h3, h4, h5, h6⟩, h7⟩, h8⟩, h9⟩ := h
    rw [X.frames, List.length_cons] at h2 h3
    have q1 := X.heapSize
    have q2 := X.used
    simp only [hF, hU, List.length_cons, State.stackLimits_setFrames, State.stackBytes_setFrames, hl9, hb9]
    refine ⟨⟨⟨⟨by omega, by omega, by omega, by omega, by omega, h6⟩, ?_⟩, ?_⟩, X.book⟩
    · show T.heap.size + R'.cells ≤ e.platform.maxCells
      omega
    · show T.slotsUsed + R'.slots ≤ e.platform.maxSlots
      omega
  · rw [State.stackLimits_setFrames]; rfl
  · rw [State.stackBytes_setFrames]; rfl
  · refine ⟨?_, Nat.le_refl _, Nat.le_refl _, ?_, ?_, fun a c9 h9 => ⟨c9, h9, rfl, rfl, fun _ _ => rfl⟩⟩
    · obtain ⟨t, ht, -⟩ := State.frames_cons hr
      show T.setVm s.vm = { ((T.setVm s.vm).setFrames (.invoking m args :: below)).setFrames (T.setVm s.vm).frames with heap := T.heap, slotsUsed := T.slotsUsed }
      rw [State.setFrames_setFrames, State.setFrames_self ht]
      rfl
    · show T.slotsUsed = T.slotsUsed + ((T.heap.toList.drop T.heap.size).map (·.slots.size)).sum
      rw [List.drop_eq_nil_of_le (Nat.le_of_eq Array.length_toList)]
      rfl
    · show ((T.heap.toList.drop T.heap.size).map (·.slots.size)).sum ≤ 0
      rw [List.drop_eq_nil_of_le (Nat.le_of_eq Array.length_toList)]
      exact Nat.le_refl _
/-- 'throw new E()': new; dup; invokespecial; athrow -/
theorem vx_throw0 {cc : ByteArray} {pc : Nat} (hexec : p.tables.exec = Jvm.exec) (hb : c.code = cc) (hl : l.stackTraces = false) {own cls : String} {names : List String} {ik ic mc ms : Nat} {A : Nat → Prop}
    (hown : s.vm.findClass own = some m.cls) (hcls : Bundle.fit cls = true) (hnames : ∀ n ∈ names, Bundle.fit n = true)
    (hk : (Cond.classLink own ik cls).before args s = true) (hini : (Cond.initialized cls).before args s = true) (hat : ∀ w ∈ vx_at0 own ic cls names, w.before args s = true)
    (hgood : ∀ w ∈ Cond.classLink own ik cls :: Cond.initialized cls :: vx_at0 own ic cls names, vx_ot w = true)
    (hU : vx_Zq Bundle.tN "UNASSIGNED_STACK" Bundle.steD A s s.heap) (hN : vx_Zq Bundle.tN "SUPPRESSED_SENTINEL" Bundle.listD A s s.heap) (hS : va_S A s.heap H locs) (hsize : ls.size = c.maxLocals)
    (d0 : decode cc pc = .ok (.new ik, 3)) (d3 : decode cc (pc + 3) = .ok (.dup, 1)) (d4 : decode cc (pc + 4) = .ok (.invokespecial ic, 3)) (d7 : decode cc (pc + 7) = .ok (.athrow, 1))
    (hout : ∀ x ∈ c.exceptionTable.toList, covers x (pc + 7) = false)
    (hRframes : names.length + 3 < R.frames) (hRlocals : (rest.map fun v => v.category).sum + (13 * (names.length + 1) + 42) ≤ R.locals) (hRcells : cells + 1 ≤ R.cells) (hRslots : slots + 6 ≤ R.slots) (hlocks : meth.locks = false)
    (hx : ∀ t : State, s.vm.Alike t.vm → H.size ≤ t.heap.size → (∀ q : Nat, q < H.size → t.heap[q]? = H[q]?) → XC cls s t)
    (hf : ∀ z ∈ locs, free z.base) (hc : cells + 1 ≤ mc) (hs : slots + 6 ≤ ms) :
    W p l e R s m args below meth c H locs cells slots (vx_MQ below Qc XC args s mc ms free) (F0 m pc ls rest) := by
  intro T hT X
  have htr : e.platform.stackTraces = false := (show e.platform.stackTraces = l.stackTraces by rw [X.admits.platform]).trans hl
  have Y := vx_rebase X (R' := { frames := R.frames, locals := R.locals, cells := 1, slots := 6 }) (Nat.le_refl _) (Nat.le_refl _) hRcells hRslots
  obtain ⟨s', hA⟩ : ∃ z, z = (T.setVm s.vm).setFrames (.invoking m args :: below) := ⟨_, rfl⟩
  rw [← hA] at Y
  have hvm : s'.vm = s.vm := by rw [hA]; rfl
  have hhp : s'.heap = H := by rw [hA]; exact hT
  have hW0 : s.WarmedH s'.vm := by rw [hvm]; exact State.WarmedH.refl s
  have hat' : ∀ w ∈ vx_at0 own ic cls names, w.before args s' = true := fun w hw => vx_ot_at hW0 hvm.symm (hgood w (List.mem_cons_of_mem _ (List.mem_cons_of_mem _ hw))) (hat w hw)
  have hk' : (Cond.classLink own ik cls).before args s' = true := vx_ot_at hW0 hvm.symm (hgood _ List.mem_cons_self) hk
  have hini' : (Cond.initialized cls).before args s' = true := vx_ot_at hW0 hvm.symm (hgood _ (List.mem_cons_of_mem _ List.mem_cons_self)) hini
  have hU' : vx_Zq Bundle.tN "UNASSIGNED_STACK" Bundle.steD A s' s'.heap := by rw [hhp]; exact vx_Zq.moved hW0.alike (hU.kept hS.2.1)
  have hN' : vx_Zq Bundle.tN "SUPPRESSED_SENTINEL" Bundle.listD A s' s'.heap := by rw [hhp]; exact vx_Zq.moved hW0.alike (hN.kept hS.2.1)
  have h : ∀ w ∈ Bundle.ownAtoms0 own ic cls names, w.before args s' = true := vx_own hat' (vx_isRefq hU'.1) (vx_isRefq hN'.1) hU'.2.word hN'.2.word
  have hown' : s'.vm.findClass own = some m.cls := by rw [hvm]; exact hown
  have hins : (Cond.instantiable cls 6).before args s' = true := h _ (by simp [Bundle.ownAtoms0])
  obtain ⟨vm₁, cX, kX, hfX, hkX, -, -, X₁, st1⟩ := Y.newCold hexec (own := own) (C := cls) (index := ik) (n := 6) hown' hk' hins hini'
    (g := F0 m pc ls rest) rfl (by rw [hb]; exact d0) (Nat.le_refl _) (Nat.le_refl _)
  generalize hT1 : (T.setVm vm₁).pushCell { cls := cX, slots := kX.instanceTypes.map defaultValue, vm := .none } = T1 at X₁ st1
  have hcat : (Value.ref T.heap.size).category = 1 := rfl
  have hcellA : T1.heap[T.heap.size]? = some (freshCell cX kX) := by rw [← hT1]; exact State.heap_pushCell_size _ _
  have d3' : decode c.code (pc + 3) = .ok (.dup, 1) := by rw [hb]; exact d3
  obtain ⟨U, hsteps, hrun, hend, hW, hsame, ce, hce, hO⟩ := X₁.ctorThrow0 hexec htr (own := own) (cls := cls) (names := names) (ic := ic) hown' hcls hnames h (fun x hx => nomatch hx) hfX hkX hcellA (by rw [hhp, hT]; exact Nat.le_refl _)
    (g := { method := m, pc := pc + 4, locals := ls, stack := .ref T.heap.size :: .ref T.heap.size :: rest, locked := none }) rfl hsize rfl rfl (rest := rest) rfl
    (by rw [hb]; exact d4) (by rw [hb]; exact d7) hout hRframes (by simp only [List.map_cons, List.sum_cons, hcat]; omega) hlocks
  obtain ⟨f1, f2⟩ := vx_frame hsame
  rw [hhp] at f1 f2
  have hWs : s.WarmedH U.vm := State.WarmedH.trans hW0 hW
  have hcl : s.vm.findClass cls = some ce.cls := by
    have h9 := hO.cls
    rw [hvm] at h9
    exact h9
  have hall : s.sameButNew ({ U with vm := s.vm } : State) locs mc ms := by
    subst hA
    obtain ⟨e1, e2⟩ := hsame
    rw [State.setFrames_setFrames] at e1
    have h2 : (T.setVm s.vm).sameButNew ({ U with vm := s.vm } : State) [] (0 + 1) (0 + 6) := ⟨e1, e2⟩
    have h3 := X.same.trans h2
    rw [List.append_nil] at h3
    exact h3.mono hc hs
  refine ⟨U, ?_, .threw T.heap.size, hrun, hend, Or.inr ⟨T.heap.size, rfl, cls, ce, locs, hx U hWs.alike f1 (fun q hq => f2 q hq (fun z hz => nomatch hz)), hce, hO.vm, hcl, hWs, hall, hf⟩⟩
  refine st1 _ ?_
  show Steps p.tables e below (T1.setTop { method := m, pc := pc + 3, locals := ls, stack := .ref T.heap.size :: rest, locked := none }) _
  jvm_step X₁.here [X₁.here.top, hexec, d3', Value.category]
  exact hsteps
/-- 'throw new E("text")': new; dup; ldc; invokespecial; athrow -/
theorem vx_throwS {cc : ByteArray} {pc : Nat} (hexec : p.tables.exec = Jvm.exec) (hb : c.code = cc) (hl : l.stackTraces = false) {own cls text : String} {names : List String} {ik is ic mc ms sa : Nat} {A : Nat → Prop}
    (hown : s.vm.findClass own = some m.cls) (hcls : Bundle.fit cls = true) (hnames : ∀ n ∈ names, Bundle.fit n = true)
    (hk : (Cond.classLink own ik cls).before args s = true) (hini : (Cond.initialized cls).before args s = true) (hstr : vk_R own is text sa s) (hat : ∀ w ∈ vx_atS own ic cls names, w.before args s = true)
    (hgood : ∀ w ∈ Cond.classLink own ik cls :: Cond.initialized cls :: vx_atS own ic cls names, vx_ot w = true)
    (hU : vx_Zq Bundle.tN "UNASSIGNED_STACK" Bundle.steD A s s.heap) (hN : vx_Zq Bundle.tN "SUPPRESSED_SENTINEL" Bundle.listD A s s.heap) (hS : va_S A s.heap H locs) (hsize : ls.size = c.maxLocals)
    (d0 : decode cc pc = .ok (.new ik, 3)) (d3 : decode cc (pc + 3) = .ok (.dup, 1)) (d4 : decode cc (pc + 4) = .ok (.ldc is, 2)) (d6 : decode cc (pc + 6) = .ok (.invokespecial ic, 3)) (d9 : decode cc (pc + 9) = .ok (.athrow, 1))
    (hout : ∀ x ∈ c.exceptionTable.toList, covers x (pc + 9) = false)
    (hRframes : names.length + 3 < R.frames) (hRlocals : (rest.map fun v => v.category).sum + (13 * (names.length + 1) + 43) ≤ R.locals) (hRcells : cells + 1 ≤ R.cells) (hRslots : slots + 6 ≤ R.slots) (hlocks : meth.locks = false)
    (hx : ∀ t : State, s.vm.Alike t.vm → H.size ≤ t.heap.size → (∀ q : Nat, q < H.size → t.heap[q]? = H[q]?) → XC cls s t)
    (hf : ∀ z ∈ locs, free z.base) (hc : cells + 1 ≤ mc) (hs : slots + 6 ≤ ms) :
    W p l e R s m args below meth c H locs cells slots (vx_MQ below Qc XC args s mc ms free) (F0 m pc ls rest) := by
  intro T hT X
  have htr : e.platform.stackTraces = false := (show e.platform.stackTraces = l.stackTraces by rw [X.admits.platform]).trans hl
  have Y := vx_rebase X (R' := { frames := R.frames, locals := R.locals, cells := 1, slots := 6 }) (Nat.le_refl _) (Nat.le_refl _) hRcells hRslots
  obtain ⟨s', hA⟩ : ∃ z, z = (T.setVm s.vm).setFrames (.invoking m args :: below) := ⟨_, rfl⟩
  rw [← hA] at Y
  have hvm : s'.vm = s.vm := by rw [hA]; rfl
  have hhp : s'.heap = H := by rw [hA]; exact hT
  have hW0 : s.WarmedH s'.vm := by rw [hvm]; exact State.WarmedH.refl s
  have hat' : ∀ w ∈ vx_atS own ic cls names, w.before args s' = true := fun w hw => vx_ot_at hW0 hvm.symm (hgood w (List.mem_cons_of_mem _ (List.mem_cons_of_mem _ hw))) (hat w hw)
  have hk' : (Cond.classLink own ik cls).before args s' = true := vx_ot_at hW0 hvm.symm (hgood _ List.mem_cons_self) hk
  have hini' : (Cond.initialized cls).before args s' = true := vx_ot_at hW0 hvm.symm (hgood _ (List.mem_cons_of_mem _ List.mem_cons_self)) hini
  have hU' : vx_Zq Bundle.tN "UNASSIGNED_STACK" Bundle.steD A s' s'.heap := by rw [hhp]; exact vx_Zq.moved hW0.alike (hU.kept hS.2.1)
  have hN' : vx_Zq Bundle.tN "SUPPRESSED_SENTINEL" Bundle.listD A s' s'.heap := by rw [hhp]; exact vx_Zq.moved hW0.alike (hN.kept hS.2.1)
  have h : ∀ w ∈ Bundle.ownAtoms own ic cls names, w.before args s' = true := vx_own hat' (vx_isRefq hU'.1) (vx_isRefq hN'.1) hU'.2.word hN'.2.word
  have hown' : s'.vm.findClass own = some m.cls := by rw [hvm]; exact hown
  have hins : (Cond.instantiable cls 6).before args s' = true := h _ (by simp [Bundle.ownAtoms])
  obtain ⟨vm₁, cX, kX, hfX, hkX, -, -, X₁, st1⟩ := Y.newCold hexec (own := own) (C := cls) (index := ik) (n := 6) hown' hk' hins hini'
    (g := F0 m pc ls rest) rfl (by rw [hb]; exact d0) (Nat.le_refl _) (Nat.le_refl _)
  generalize hT1 : (T.setVm vm₁).pushCell { cls := cX, slots := kX.instanceTypes.map defaultValue, vm := .none } = T1 at X₁ st1
  have hcat : (Value.ref T.heap.size).category = 1 := rfl
  have hcellA : T1.heap[T.heap.size]? = some (freshCell cX kX) := by rw [← hT1]; exact State.heap_pushCell_size _ _
  have d3' : decode c.code (pc + 3) = .ok (.dup, 1) := by rw [hb]; exact d3
  have d4' : decode c.code (pc + 4) = .ok (.ldc is, 2) := by rw [hb]; exact d4
  have hstr' : vk_R own is text sa s' := vk_R.warm hW0 hstr
  obtain ⟨U, hsteps, hrun, hend, hW, hsame, ce, hce, hO⟩ := X₁.ctorThrowS hexec htr (own := own) (cls := cls) (names := names) (ic := ic) hown' hcls hnames h (fun x hx => nomatch hx) hfX hkX hcellA (by rw [hhp, hT]; exact Nat.le_refl _) (msg := .ref sa) rfl
    (g := { method := m, pc := pc + 6, locals := ls, stack := .ref sa :: .ref T.heap.size :: .ref T.heap.size :: rest, locked := none }) rfl hsize rfl rfl (rest := rest) rfl
    (by rw [hb]; exact d6) (by rw [hb]; exact d9) hout hRframes (by simp only [List.map_cons, List.sum_cons, hcat]; omega) hlocks
  obtain ⟨f1, f2⟩ := vx_frame hsame
  rw [hhp] at f1 f2
  have hWs : s.WarmedH U.vm := State.WarmedH.trans hW0 hW
  have hcl : s.vm.findClass cls = some ce.cls := by
    have h9 := hO.cls
    rw [hvm] at h9
    exact h9
  have hall : s.sameButNew ({ U with vm := s.vm } : State) locs mc ms := by
    subst hA
    obtain ⟨e1, e2⟩ := hsame
    rw [State.setFrames_setFrames] at e1
    have h2 : (T.setVm s.vm).sameButNew ({ U with vm := s.vm } : State) [] (0 + 1) (0 + 6) := ⟨e1, e2⟩
    have h3 := X.same.trans h2
    rw [List.append_nil] at h3
    exact h3.mono hc hs
  refine ⟨U, ?_, .threw T.heap.size, hrun, hend, Or.inr ⟨T.heap.size, rfl, cls, ce, locs, hx U hWs.alike f1 (fun q hq => f2 q hq (fun z hz => nomatch hz)), hce, hO.vm, hcl, hWs, hall, hf⟩⟩
  refine st1 _ ?_
  show Steps p.tables e below (T1.setTop { method := m, pc := pc + 3, locals := ls, stack := .ref T.heap.size :: rest, locked := none }) _
  jvm_step X₁.here [X₁.here.top, hexec, d3', Value.category]
  exact X₁.ldcString hexec (own := own) (text := text) (index := is) (a := sa) hown' hstr'.1 hstr'.2
    (g := { method := m, pc := pc + 4, locals := ls, stack := .ref T.heap.size :: .ref T.heap.size :: rest, locked := none }) rfl d4' _ hsteps
/-- 'throw new E("text")', the text by a wide index -/
theorem vx_throwSW {cc : ByteArray} {pc : Nat} (hexec : p.tables.exec = Jvm.exec) (hb : c.code = cc) (hl : l.stackTraces = false) {own cls text : String} {names : List String} {ik is ic mc ms sa : Nat} {A : Nat → Prop}
    (hown : s.vm.findClass own = some m.cls) (hcls : Bundle.fit cls = true) (hnames : ∀ n ∈ names, Bundle.fit n = true)
    (hk : (Cond.classLink own ik cls).before args s = true) (hini : (Cond.initialized cls).before args s = true) (hstr : vk_R own is text sa s) (hat : ∀ w ∈ vx_atS own ic cls names, w.before args s = true)
    (hgood : ∀ w ∈ Cond.classLink own ik cls :: Cond.initialized cls :: vx_atS own ic cls names, vx_ot w = true)
    (hU : vx_Zq Bundle.tN "UNASSIGNED_STACK" Bundle.steD A s s.heap) (hN : vx_Zq Bundle.tN "SUPPRESSED_SENTINEL" Bundle.listD A s s.heap) (hS : va_S A s.heap H locs) (hsize : ls.size = c.maxLocals)
    (d0 : decode cc pc = .ok (.new ik, 3)) (d3 : decode cc (pc + 3) = .ok (.dup, 1)) (d4 : decode cc (pc + 4) = .ok (.ldc_w is, 3)) (d7 : decode cc (pc + 7) = .ok (.invokespecial ic, 3)) (d10 : decode cc (pc + 10) = .ok (.athrow, 1))
    (hout : ∀ x ∈ c.exceptionTable.toList, covers x (pc + 10) = false)
    (hRframes : names.length + 3 < R.frames) (hRlocals : (rest.map fun v => v.category).sum + (13 * (names.length + 1) + 43) ≤ R.locals) (hRcells : cells + 1 ≤ R.cells) (hRslots : slots + 6 ≤ R.slots) (hlocks : meth.locks = false)
    (hx : ∀ t : State, s.vm.Alike t.vm → H.size ≤ t.heap.size → (∀ q : Nat, q < H.size → t.heap[q]? = H[q]?) → XC cls s t)
    (hf : ∀ z ∈ locs, free z.base) (hc : cells + 1 ≤ mc) (hs : slots + 6 ≤ ms) :
    W p l e R s m args below meth c H locs cells slots (vx_MQ below Qc XC args s mc ms free) (F0 m pc ls rest) := by
  intro T hT X
  have htr : e.platform.stackTraces = false := (show e.platform.stackTraces = l.stackTraces by rw [X.admits.platform]).trans hl
  have Y := vx_rebase X (R' := { frames := R.frames, locals := R.locals, cells := 1, slots := 6 }) (Nat.le_refl _) (Nat.le_refl _) hRcells hRslots
  obtain ⟨s', hA⟩ : ∃ z, z = (T.setVm s.vm).setFrames (.invoking m args :: below) := ⟨_, rfl⟩
  rw [← hA] at Y
  have hvm : s'.vm = s.vm := by rw [hA]; rfl
  have hhp : s'.heap = H := by rw [hA]; exact hT
  have hW0 : s.WarmedH s'.vm := by rw [hvm]; exact State.WarmedH.refl s
  have hat' : ∀ w ∈ vx_atS own ic cls names, w.before args s' = true := fun w hw => vx_ot_at hW0 hvm.symm (hgood w (List.mem_cons_of_mem _ (List.mem_cons_of_mem _ hw))) (hat w hw)
  have hk' : (Cond.classLink own ik cls).before args s' = true := vx_ot_at hW0 hvm.symm (hgood _ List.mem_cons_self) hk
  have hini' : (Cond.initialized cls).before args s' = true := vx_ot_at hW0 hvm.symm (hgood _ (List.mem_cons_of_mem _ List.mem_cons_self)) hini
  have hU' : vx_Zq Bundle.tN "UNASSIGNED_STACK" Bundle.steD A s' s'.heap := by rw [hhp]; exact vx_Zq.moved hW0.alike (hU.kept hS.2.1)
  have hN' : vx_Zq Bundle.tN "SUPPRESSED_SENTINEL" Bundle.listD A s' s'.heap := by rw [hhp]; exact vx_Zq.moved hW0.alike (hN.kept hS.2.1)
  have h : ∀ w ∈ Bundle.ownAtoms own ic cls names, w.before args s' = true := vx_own hat' (vx_isRefq hU'.1) (vx_isRefq hN'.1) hU'.2.word hN'.2.word
  have hown' : s'.vm.findClass own = some m.cls := by rw [hvm]; exact hown
  have hins : (Cond.instantiable cls 6).before args s' = true := h _ (by simp [Bundle.ownAtoms])
  obtain ⟨vm₁, cX, kX, hfX, hkX, -, -, X₁, st1⟩ := Y.newCold hexec (own := own) (C := cls) (index := ik) (n := 6) hown' hk' hins hini'
    (g := F0 m pc ls rest) rfl (by rw [hb]; exact d0) (Nat.le_refl _) (Nat.le_refl _)
  generalize hT1 : (T.setVm vm₁).pushCell { cls := cX, slots := kX.instanceTypes.map defaultValue, vm := .none } = T1 at X₁ st1
  have hcat : (Value.ref T.heap.size).category = 1 := rfl
  have hcellA : T1.heap[T.heap.size]? = some (freshCell cX kX) := by rw [← hT1]; exact State.heap_pushCell_size _ _
  have d3' : decode c.code (pc + 3) = .ok (.dup, 1) := by rw [hb]; exact d3
  have d4' : decode c.code (pc + 4) = .ok (.ldc_w is, 3) := by rw [hb]; exact d4
  have hstr' : vk_R own is text sa s' := vk_R.warm hW0 hstr
  obtain ⟨U, hsteps, hrun, hend, hW, hsame, ce, hce, hO⟩ := X₁.ctorThrowS hexec htr (own := own) (cls := cls) (names := names) (ic := ic) hown' hcls hnames h (fun x hx => nomatch hx) hfX hkX hcellA (by rw [hhp, hT]; exact Nat.le_refl _) (msg := .ref sa) rfl
    (g := { method := m, pc := pc + 7, locals := ls, stack := .ref sa :: .ref T.heap.size :: .ref T.heap.size :: rest, locked := none }) rfl hsize rfl rfl (rest := rest) rfl
    (by rw [hb]; exact d7) (by rw [hb]; exact d10) hout hRframes (by simp only [List.map_cons, List.sum_cons, hcat]; omega) hlocks
  obtain ⟨f1, f2⟩ := vx_frame hsame
  rw [hhp] at f1 f2
  have hWs : s.WarmedH U.vm := State.WarmedH.trans hW0 hW
  have hcl : s.vm.findClass cls = some ce.cls := by
    have h9 := hO.cls
    rw [hvm] at h9
    exact h9
  have hall : s.sameButNew ({ U with vm := s.vm } : State) locs mc ms := by
    subst hA
    obtain ⟨e1, e2⟩ := hsame
    rw [State.setFrames_setFrames] at e1
    have h2 : (T.setVm s.vm).sameButNew ({ U with vm := s.vm } : State) [] (0 + 1) (0 + 6) := ⟨e1, e2⟩
    have h3 := X.same.trans h2
    rw [List.append_nil] at h3
    exact h3.mono hc hs
  refine ⟨U, ?_, .threw T.heap.size, hrun, hend, Or.inr ⟨T.heap.size, rfl, cls, ce, locs, hx U hWs.alike f1 (fun q hq => f2 q hq (fun z hz => nomatch hz)), hce, hO.vm, hcl, hWs, hall, hf⟩⟩
  refine st1 _ ?_
  show Steps p.tables e below (T1.setTop { method := m, pc := pc + 3, locals := ls, stack := .ref T.heap.size :: rest, locked := none }) _
  jvm_step X₁.here [X₁.here.top, hexec, d3', Value.category]
  exact X₁.ldcStringW hexec (own := own) (text := text) (index := is) (a := sa) hown' hstr'.1 hstr'.2
    (g := { method := m, pc := pc + 4, locals := ls, stack := .ref T.heap.size :: .ref T.heap.size :: rest, locked := none }) rfl d4' _ hsteps
end Ends
section Bodies
variable {l : Launch}
theorem vx_ofW {y : MethodName} {ws ws' : List Cond} {rm : Room} {Pc : Array Value → State → Prop} {Qc : Array Value → State → Outcome → State → Prop} {XC : String → State → State → Prop} {mc ms : Nat} {free : Addr → Prop} {cc : ByteArray} {maxL : Nat} {ret : Option FieldType}
    (hy : plainName y.cls = true) (hw : ws = Cond.code y cc maxL ret :: ws')
    (body : ∀ p e s m args below meth c s₁, BodyLoose p l y (headSpec ws rm) cc maxL ret e s m args below meth c s₁ → c.maxLocals = maxL → (∀ x ∈ c.exceptionTable.toList, False) → Pc args s →
      W p l e (headSpec ws rm).room s m args below meth c s.heap [] 0 0 (vx_MQ below Qc XC args s mc ms free) (entryFrame m args maxL)) : vx_Met l y ws rm Pc Qc XC mc ms free := by
  refine MetFree.of_bodyS (code := cc) (maxLocals := maxL) (ret := ret) hy ?_ ?_
  · intro args s m h hn
    obtain ⟨meth, c, h1, h2, h3, h4, h5, h6, -, -⟩ := Cond.code_spec hn (atoms_spec (ws := ws) h _ (by rw [hw]; exact List.mem_cons_self))
    exact ⟨meth, c, h1, h2, h3, h4, h5, h6⟩
  · intro p e s m args below meth c s₁ B hml hP _
    have hh0 : s₁.heap = s.heap := by rw [B.state]; rfl
    have ht : ∀ x ∈ c.exceptionTable.toList, False := by
      obtain ⟨meth9, c9, h1, h2, -, -, -, -, h7, -⟩ := Cond.code_spec B.named (atoms_spec (ws := ws) B.pre _ (by rw [hw]; exact List.mem_cons_self))
      cases Option.some.inj (h1.symm.trans B.method)
      cases Option.some.inj (h2.symm.trans (Stand.of_body B).code)
      intro x hx
      rw [Array.isEmpty_iff.mp h7] at hx
      cases hx
    obtain ⟨t, a1, o, b1, b2, b3⟩ := body p e s m args below meth c s₁ B hml ht hP s₁ hh0 (Stand.of_body B)
    exact ⟨t, o, a1, b1, b2, b3⟩
/-- the table of a body with handlers -/
theorem vx_table {p : Program} {x y : MethodName} {S : Spec} {cc bytes : ByteArray} {maxL maxL' : Nat} {ret ret' : Option FieldType} {e : Env} {s s₁ : State} {m : MethodId} {args : Array Value} {below : List Frame} {meth : Method} {c : Code} {hh : List (Nat × Nat × Nat × Nat)}
    (B : BodyLoose p l y S cc maxL ret e s m args below meth c s₁) (h : (Cond.codeWith y bytes maxL' ret' hh).before args s = true) : c.exceptionTable.toList = tableOf hh := by
  obtain ⟨m9, meth9, c9, hn9, h1, h2, -, -, h6, -⟩ := Cond.codeWith_spec h
  cases Option.some.inj (hn9.symm.trans B.named)
  cases Option.some.inj (h1.symm.trans B.method)
  cases Option.some.inj (h2.symm.trans (Stand.of_body B).code)
  rw [← h6, table_eq]
end Bodies
end VXA
/-! ===== END ===== -/
/-! ===== BEGIN a static call of a method with an exception table ===== -/
section VXS
variable {p : Program} {l : Launch} {e : Env} {R : Room} {s : State} {m : MethodId} {args : Array Value} {below : List Frame} {meth : Method} {c : Code} {T : State} {H : Heap} {locs : List Loc} {cells slots : Nat}
abbrev vx_CSW (R : Room) (s : State) (args : Array Value) (own : String) (index : Nat) (y : MethodName) (bytes : ByteArray) (maxL : Nat) (ret : Option FieldType) (hh : List (Nat × Nat × Nat × Nat)) (ws : List Cond) (rm : Room) (mc ms n : Nat) : Prop :=
  (rm.cells = mc ∧ rm.slots = ms ∧ rm.frames + 1 ≤ R.frames ∧ 8 + (maxL + 11) + rm.locals ≤ R.locals ∧ (∀ w ∈ ws, ∀ (a' : Array Value) (U : State), s.WarmedH U.vm → w.before a' U = true) ∧ Cond.codeWith y bytes maxL ret hh ∈ ws) ∧
  (Cond.codeWith y bytes maxL ret hh).before args s = true ∧ (Cond.initialized y.cls).before args s = true ∧ (y.cls ≠ "java/lang/invoke/MethodHandle" ∧ y.cls ≠ "java/lang/invoke/VarHandle") ∧
  (∀ sig, parseMethodDescriptor y.desc = some sig → n = sig.parameters.length) ∧ (Cond.methodLink own index y).before args s = true ∧ (Cond.static y).before args s = true
theorem vx_cwSW {own : String} {index maxL mc ms : Nat} {y : MethodName} {bytes : ByteArray} {ret : Option FieldType} {hh : List (Nat × Nat × Nat × Nat)} {Ts ws ws' : List Cond} {rm : Room} (n : Nat) (ht : ∀ w ∈ Ts, w.before args s = true) (hT : GoodIn Ts (va_wsS own index y ws)) (hw : ws = Cond.codeWith y bytes maxL ret hh :: ws') (hrc : rm.cells = mc) (hrs : rm.slots = ms)
    (hd : y.cls ≠ "java/lang/invoke/MethodHandle" ∧ y.cls ≠ "java/lang/invoke/VarHandle" ∧ (parseMethodDescriptor y.desc).map (fun d => d.parameters.length) = some n) (hR : rm.frames + 1 ≤ R.frames ∧ 8 + (maxL + 11) + rm.locals ≤ R.locals) :
    vx_CSW R s args own index y bytes maxL ret hh ws rm mc ms n := by
  have ok : ∀ w ∈ va_wsS own index y ws, w.before args s = true := fun w h => ht w (hT w h).1
  have hG : GoodIn Ts ws := fun w h => hT w (by unfold va_wsS; exact List.mem_append_right _ h)
  have hc : Cond.codeWith y bytes maxL ret hh ∈ ws := by rw [hw]; exact List.mem_cons_self
  refine ⟨⟨hrc, hrs, hR.1, hR.2, pay_in ht hG, hc⟩, ht _ (hG _ hc).1, ok _ (by simp [va_wsS]), ⟨hd.1, hd.2.1⟩, fun sig h => ?_, ok _ (by simp [va_wsS]), ok _ (by simp [va_wsS])⟩
  have h2 := hd.2.2
  rw [h] at h2
  exact (Option.some.inj h2).symm
theorem vx_callSW (X : Stand p l e R s m args below meth c T locs cells slots) (hexec : p.tables.exec = Jvm.exec) {own : String} {index : Nat} {y : MethodName} {bytes : ByteArray} {maxL : Nat} {ret : Option FieldType} {hh : List (Nat × Nat × Nat × Nat)}
    (hown : s.vm.findClass own = some m.cls) (hlink : (Cond.methodLink own index y).before args s = true) (hstat : (Cond.static y).before args s = true) (hinit : (Cond.initialized y.cls).before args s = true)
    (hcode : (Cond.codeWith y bytes maxL ret hh).before args s = true) (hy : y.cls ≠ "java/lang/invoke/MethodHandle" ∧ y.cls ≠ "java/lang/invoke/VarHandle")
    {W9 : Nat} {Pre : Pt → Array Value → Prop} {Post : Pt → Array Value → Option Value → Pt → Prop} (hK : Back l R p e below s args y 3 W9 Pre Post)
    {g : JFrame} (hg : g.method = m) (hsize : g.locals.size = c.maxLocals) {argsL rest : List Value} (hlen : ∀ sig, parseMethodDescriptor y.desc = some sig → argsL.length = sig.parameters.length)
    (hstack : g.stack = argsL.reverse ++ rest) (hW : 2 * g.monitorRoom + (rest.map fun v => v.category).sum ≤ W9) (hdg : decode c.code g.pc = .ok (.invokestatic index, 3))
    (hpre : ∀ vm₁, s.WarmedH vm₁ → Pre ⟨T.setVm vm₁, locs, cells, slots⟩ argsL.toArray) :
    ∃ (v : Option Value) (vm₁ : Vm) (B : Pt), s.WarmedH vm₁ ∧ Stand p l e R s m args below meth c B.U B.locs B.cells B.slots ∧ Post ⟨T.setVm vm₁, locs, cells, slots⟩ argsL.toArray v B ∧
      ∀ target, Steps p.tables e below (B.U.setTop { g with pc := g.pc + 3, stack := v.toList ++ rest }) target → Steps p.tables e below (T.setTop g) target := by
  obtain ⟨mk, methM, cM, hnamed, hmethM, -, -, -, -, -, -, hsigM⟩ := Cond.codeWith_spec hcode
  have hstatic : methM.isStatic = true := Cond.static_spec hnamed hmethM hstat
  obtain ⟨kP, hkP, -⟩ := className_of_methodNamed hnamed
  have hinitP : kP.init = .initialized := Cond.initialized_spec (findClass_of_methodNamed hnamed) hkP hinit
  obtain ⟨vm₁, X₁, hstep₁⟩ := X.invokestatic hexec hown hlink hnamed hmethM hstatic hkP hinitP hy (g := g) hg (argsL := argsL) (rest := rest) (hlen _ hsigM) hstack hdg
  obtain ⟨v, B, X', hpost, hsteps⟩ := hK m meth c ⟨T.setVm vm₁, locs, cells, slots⟩ { g with stack := rest } (.invokestatic index) mk argsL.toArray X₁ hg hsize hdg hW (X₁.named hnamed) (hpre vm₁ X₁.warmed)
  exact ⟨v, vm₁, B, X₁.warmed, X', hpost, fun target h => hstep₁ _ fun acts => by rw [doInvoke_state]; exact hsteps.trans h⟩
theorem vx_runSW {y : MethodName} {bytes cc : ByteArray} {maxL nL mc ms n index : Nat} {ret : Option FieldType} {hh : List (Nat × Nat × Nat × Nat)} {ws : List Cond} {rm : Room} {Pc : Array Value → State → Prop} {Qc : Array Value → State → Outcome → State → Prop} {free : Addr → Prop} {Ts : List Cond} {own : String} {As rest : List Value} {g : JFrame}
    (S : CallFix p m c cc nL s args Ts own) (hM : Met l y ws rm Pc Qc mc ms free) (cw : vx_CSW R s args own index y bytes maxL ret hh ws rm mc ms n) (hp : PreS s H Pc As)
    (hg : g.method = m) (hn : As.length = n) (hsize : g.locals.size = nL) (hstack : g.stack = As.reverse ++ rest) (hW : 2 * g.monitorRoom + (rest.map fun v => v.category).sum ≤ 8) (hdg : decode cc g.pc = .ok (.invokestatic index, 3)) (hf : cells + mc ≤ R.cells ∧ slots + ms ≤ R.slots) :
    va_Run p l e R s m args below meth c H locs cells slots mc ms g rest (Qc As.toArray) (free) := by
  obtain ⟨⟨hrc, hrs, hfr, hlo, hws, hcw⟩, hcode, hini, hy, hlen, hl, hstt⟩ := cw
  have hK : Back l R p e below s args y 3 8 (PreOf R mc ms Pc) (PostOf Qc mc ms free) := va_backW (hh := hh) (bytes := bytes) (maxL := maxL) (ret := ret) hM hp.1 hrc hrs hfr hlo hws hcw (fun a' U hW => word_at hW (Or.inl (by first | rfl | simp [Cond.onTables, Cond.keeps, Cond.steady])) hini)
  obtain ⟨hx, hb, hml, ho, -⟩ := S
  intro T hT X
  obtain ⟨v, vm₁, ⟨U', l2, c2, s2⟩, hW₁, X', ⟨g', mk, t, L, e1, e2, hq, h1, hL, h2, h3⟩, st⟩ := vx_callSW X hx (hh := hh) (bytes := bytes) (maxL := maxL) (ret := ret) ho hl hstt hini hcode hy hK hg (hsize.trans hml.symm) (argsL := As) (rest := rest) (fun sig h => hn.trans (hlen sig h)) hstack hW (by rw [hb]; exact hdg)
    (fun vm₁ hW₁ => ⟨hf.1, hf.2, hp.2 (T.setVm vm₁) hT hW₁⟩)
  dsimp only [Pt.U, Pt.locs, Pt.cells, Pt.slots] at X' e1 e2 h1 h2 h3 st
  subst h1; subst h2; subst h3
  exact ⟨v, (T.setVm vm₁).calling g' mk As.toArray, t, U', L, hT, X', hL, e1, e2, hq, st⟩
/-- not caught here, past rows that name other classes: it goes on to the caller -/
theorem vx_outP {p : Program} {l : Launch} {e : Env} {R : Room} {s : State} {m : MethodId} {args : Array Value} {below : List Frame} {meth : Method} {c : Code} {H : Heap} {locs : List Loc} {cells slots : Nat} {free : Addr → Prop} {ls : Array Slot} {rest : List Value} {Qc : Array Value → State → Outcome → State → Prop} {XC : String → State → State → Prop}
    {pc : Nat} {own E : String} {ce : Cell} {q : Addr} {mc ms : Nat} (hown : s.vm.findClass own = some m.cls) (hlocks : meth.locks = false)
    (hpass : ∀ z ∈ c.exceptionTable.toList, covers z pc = false ∨ (z.catchType ≠ 0 ∧ ∃ nm : String, (Cond.classLink own z.catchType nm).before args s = true ∧ va_Nc E nm s)) (hcell : H[q]? = some ce) (hv : ce.vm = .none) (hcl : s.vm.findClass E = some ce.cls)
    (hx : ∀ t : State, t.heap = H → s.vm.Alike t.vm → XC E s t) (hf : ∀ z ∈ locs, free z.base) (hc : cells ≤ mc) (hs : slots ≤ ms) :
    vx_W p l e R s m args below meth c H locs cells slots (vx_MQ below Qc XC args s mc ms free) (F0 m pc ls rest) q := by
  intro T hT X
  have hpl : e.platform.magicAccessors = ({} : Platform).magicAccessors := by rw [X.admits.platform]
  obtain ⟨vm', hW', X', st⟩ := X.outThrough hlocks q (g := F0 m pc ls rest) rfl rfl rfl (cell := ce) (by rw [hT]; exact hcell) (by rw [hv]; rfl)
    (by obtain ⟨k9, h9, -⟩ := Vm.findClass_spec hcl; exact ⟨k9, h9⟩) (fun z hz => by
      rcases hpass z hz with h | ⟨hz0, nm, hl1, hn1⟩
      · exact Or.inl h
      · obtain ⟨c6, hc6, hcl6⟩ := Cond.classLink_spec hown hl1 e.platform hpl
        obtain ⟨a8, b8, h1, h2, h3⟩ := hn1
        cases Option.some.inj (h1.symm.trans hcl)
        cases Option.some.inj (h2.symm.trans hc6)
        exact Or.inr ⟨hz0, _, hcl6, h3⟩)
  obtain ⟨g₀, hfr⟩ := X'.frames_eq
  have hcell9 : ((T.setVm vm').setFrames (.throwing q :: below)).heap[q]? = some ce := by
    show T.heap[q]? = some ce
    rw [hT]; exact hcell
  have hend : Ended ((T.setVm vm').setFrames (.throwing q :: below)) below (.threw q) := State.frames_setFrames _ (State.cur_lt_of_frames hfr)
  refine ⟨(T.setVm vm').setFrames (.throwing q :: below), ?_, .threw q, X'.here.running, hend, Or.inr ⟨q, rfl, E, ce, locs, hx _ hT (X'.ends _).1.alike, hcell9, hv, hcl, (X'.ends _).1, (X'.ends _).2.mono hc hs, hf⟩⟩
  rw [X.pushThrowing_eq]
  exact st
/-- a thing of a world lies in the heap -/
theorem vx_lt {D : va_G} {cl : List vw_C} {ws : va_W} {H1 : Heap} (h : va_P D cl ws H1) {k : Nat} {q : Nat × va_E} (hk : ws[k]? = some q) : q.1 < H1.size := (h k q hk).lt
end VXS
/-! ===== END ===== -/
/-! ===== BEGIN methods with a table of their own: called by a name, returning or throwing ===== -/
section VXH
/-! vx_backW, vx_callVX, vx_callSX, vx_callVW, vx_runVW, vx_runVX, vx_runSX, vx_ofWH follow the same proofs as their sisters above (Free/Laws.lean, Shelf42/LK1.lean); vx_outP calls Shelf42/NT130.lean (outThrough). -/
section
variable {l : Launch} {R : Room} {p : Program} {e : Env} {below : List Frame} {s : State} {sargs : Array Value} {y : MethodName} {len W9 : Nat}
theorem vx_backW {ws : List Cond} {rm : Room} {Pc : Array Value → State → Prop} {Qc : Array Value → State → Outcome → State → Prop} {XC : String → State → State → Prop} {mc ms : Nat} {free : Addr → Prop} {bytes : ByteArray} {maxL : Nat} {ret : Option FieldType} {hh : List (Nat × Nat × Nat × Nat)}
    (hM : vx_Met l y ws rm Pc Qc XC mc ms free) (hblind : FrameBlind Pc) (hrc : rm.cells = mc) (hrs : rm.slots = ms)
    (hframes : rm.frames + 1 ≤ R.frames) (hlocals : W9 + (maxL + 11) + rm.locals ≤ R.locals)
    (hws : ∀ w ∈ ws, ∀ a' U, s.WarmedH U.vm → w.before a' U = true) (hcode : Cond.codeWith y bytes maxL ret hh ∈ ws) (hinit : ∀ a' U, s.WarmedH U.vm → (Cond.initialized y.cls).before a' U = true) :
    vx_Back l R p e below s sargs y len W9 (PreOf R mc ms Pc) (PostOf Qc mc ms free) (vx_Post XC mc ms free) := by
  intro m meth c A g ig mk a X hg hsize hdg hW hn hp
  have h1 : (headSpec ws rm).pre.before a A.U = true := atoms_intro fun w hw => hws w hw _ _ X.warmed
  have h2 : (Cond.codeWith y bytes maxL ret hh).before a A.U = true := hws _ hcode _ _ X.warmed
  have h3 : (Cond.initialized y.cls).before a A.U = true := hinit _ _ X.warmed
  have h4 : A.cells + (headSpec ws rm).room.cells ≤ R.cells := by rw [show (headSpec ws rm).room.cells = mc from hrc]; exact hp.1
  have h5 : A.slots + (headSpec ws rm).room.slots ≤ R.slots := by rw [show (headSpec ws rm).room.slots = ms from hrs]; exact hp.2.1
  have hPc : Pc a (A.U.calling g mk a) := hblind _ _ _ _ hp.2.2
  obtain ⟨U, Ls, c0, s0⟩ := A
  dsimp only [Pt.U, Pt.locs, Pt.cells, Pt.slots] at h1 h2 h3 h4 h5 X hn hPc ⊢
  obtain ⟨m9, methY, cY, hn9, hmY, hcY, -, hlY, -⟩ := Cond.codeWith_spec h2
  cases Option.some.inj (hn9.symm.trans hn)
  obtain ⟨kY, hkY, -⟩ := className_of_methodNamed hn
  have hinitY : kY.init = .initialized := Cond.initialized_spec (findClass_of_methodNamed hn) hkY h3
  have h : At U g.method c below := by rw [hg]; exact X.here
  have hlocals9 : W9 + (maxL + 11) + (headSpec ws rm).room.locals ≤ R.locals := hlocals
  have happ : (headSpec ws rm).appliesLoose y e.platform (U.calling g mk a) = true :=
    Spec.appliesLoose_calling (g := g) h hdg hn hkY hinitY
      (X.room_calling (g := g) (R' := (headSpec ws rm).room) hsize hmY hcY hframes (by rw [hlY]; omega) h4 h5) h1
  obtain ⟨mid, hmid⟩ := h.above
  have hfr : (U.setTop g).frames = (.java g :: mid) ++ below := by rw [State.frames_setTop' g h.top, hmid]; rfl
  obtain ⟨o, s₂, hsteps, -, hend, hq⟩ := Steps.callFree hM p X.admits X.cas X.clock (acts := []) hfr happ hPc trivial
  have hq' : vx_Q Qc XC mc ms free a (U.calling g mk a) o s₂ := hq
  rw [State.frames_setTop' g h.top] at hend
  obtain ⟨g₀, hg0⟩ := Option.isSome_iff_exists.mp h.top
  obtain ⟨r, hr⟩ := State.topJava?_eq_some.mp hg0
  have hr' : (({ U with heap := s₂.heap, slotsUsed := s₂.slotsUsed } : State).setVm s₂.vm).frames = .java g₀ :: r := hr
  rcases hq' with ⟨hqc, L, hfe, hL⟩ | ⟨q, rfl, E, ce, L, hx, hce, hcv, hcl, hW₂, hsm, hL⟩
  · obtain ⟨⟨v, rfl⟩, hW₂, e2, q2, q3, q4, q5, q6⟩ := id hfe
    have e3 : s₂ = ({ (U.calling g mk a).setFrames s₂.frames with heap := s₂.heap, slotsUsed := s₂.slotsUsed } : State).setVm s₂.vm := by
      have : s₂ = ({ s₂ with vm := (U.calling g mk a).vm } : State).setVm s₂.vm := rfl
      rw [e2] at this
      exact this
    obtain ⟨c₂, i₂, len₂, hc₂, hd₂, hf₂⟩ := hend
    have hW' : U.WarmedH s₂.vm := hW₂
    have hcc : c₂ = c := by
      have h1 : s₂.code? g.method = U.code? g.method := by
        rw [State.code?_eq, State.code?_eq, hW'.alike.method?]
      exact Option.some.inj (hc₂.symm.trans (h1.trans h.code))
    subst hcc
    have hlen : len₂ = len := by rw [hdg] at hd₂; cases hd₂; rfl
    subst hlen
    have hs₂ : s₂ = (({ U with heap := s₂.heap, slotsUsed := s₂.slotsUsed } : State).setVm s₂.vm).setTop { g with pc := g.pc + len₂, stack := v.toList ++ g.stack } := by
      refine e3.trans ?_
      rw [hf₂, State.calling_eq h.top, State.setFrames_setFrames, State.setTop_of_frames _ hr', hr]
      rfl
    have hsame : U.sameButNew ({ U with heap := s₂.heap, slotsUsed := s₂.slotsUsed } : State) L mc ms := by
      refine ⟨?_, q2, q3, q4, q5, q6⟩
      obtain ⟨t, ht, -⟩ := State.frames_cons hr
      show ({ U with heap := s₂.heap, slotsUsed := s₂.slotsUsed } : State) = { U.setFrames U.frames with heap := s₂.heap, slotsUsed := s₂.slotsUsed }
      rw [State.setFrames_self ht]
    subst hg
    refine Or.inl ⟨v, ⟨(({ U with heap := s₂.heap, slotsUsed := s₂.slotsUsed } : State).setVm s₂.vm), Ls ++ L, c0 + mc, s0 + ms⟩,
      ⟨X.admits, X.cas, X.clock, X.frames, X.room, X.hears, X.method, X.code, (X.here.setHeapUsed s₂.heap s₂.slotsUsed).setVm hW'.alike, X.tail, State.WarmedH.trans X.warmed hW', X.limits, X.bytes, X.same.trans (hsame.setVm s.vm)⟩,
      ⟨g, mk, s₂, L, rfl, rfl, hqc, rfl, hL, rfl, rfl⟩, ?_⟩
    show Steps p.tables e below _ ((({ U with heap := s₂.heap, slotsUsed := s₂.slotsUsed } : State).setVm s₂.vm).setTop { g with pc := g.pc + len₂, stack := v.toList ++ g.stack })
    rw [← hs₂]
    exact hsteps
  · obtain ⟨e2, q2, q3, q4, q5, q6⟩ := id hsm
    have e3 : s₂ = ({ (U.calling g mk a).setFrames s₂.frames with heap := s₂.heap, slotsUsed := s₂.slotsUsed } : State).setVm s₂.vm := by
      have : s₂ = ({ s₂ with vm := (U.calling g mk a).vm } : State).setVm s₂.vm := rfl
      rw [e2] at this
      exact this
    have hf₂ : s₂.frames = .throwing q :: .java g :: U.frames.tail := hend
    have hW' : U.WarmedH s₂.vm := hW₂
    have hs₂ : s₂ = ((({ U with heap := s₂.heap, slotsUsed := s₂.slotsUsed } : State).setVm s₂.vm).setTop g).pushFrame (.throwing q) := by
      refine e3.trans ?_
      rw [hf₂, State.calling_eq h.top, State.setFrames_setFrames, State.pushFrame, State.frames_setTop _ hr', State.setTop_of_frames _ hr', State.setFrames_setFrames, hr]
      rfl
    have hsame : U.sameButNew ({ U with heap := s₂.heap, slotsUsed := s₂.slotsUsed } : State) L mc ms := by
      refine ⟨?_, q2, q3, q4, q5, q6⟩
      obtain ⟨t, ht, -⟩ := State.frames_cons hr
      show ({ U with heap := s₂.heap, slotsUsed := s₂.slotsUsed } : State) = { U.setFrames U.frames with heap := s₂.heap, slotsUsed := s₂.slotsUsed }
      rw [State.setFrames_self ht]
    subst hg
    refine Or.inr ⟨q, ⟨(({ U with heap := s₂.heap, slotsUsed := s₂.slotsUsed } : State).setVm s₂.vm), Ls ++ L, c0 + mc, s0 + ms⟩,
      ⟨X.admits, X.cas, X.clock, X.frames, X.room, X.hears, X.method, X.code, (X.here.setHeapUsed s₂.heap s₂.slotsUsed).setVm hW'.alike, X.tail, State.WarmedH.trans X.warmed hW', X.limits, X.bytes, X.same.trans (hsame.setVm s.vm)⟩,
      ⟨g, mk, s₂, L, E, ce, rfl, rfl, hx, hce, hcv, hcl, rfl, hL, rfl, rfl⟩, ?_⟩
    show Steps p.tables e below _ (((({ U with heap := s₂.heap, slotsUsed := s₂.slotsUsed } : State).setVm s₂.vm).setTop g).pushFrame (.throwing q))
    rw [← hs₂]
    exact hsteps
end
variable {p : Program} {l : Launch} {e : Env} {R : Room} {s : State} {m : MethodId} {args : Array Value} {below : List Frame} {meth : Method} {c : Code} {T : State} {H : Heap} {locs : List Loc} {cells slots : Nat}
theorem vx_callVX (X : Stand p l e R s m args below meth c T locs cells slots) (hexec : p.tables.exec = Jvm.exec) {own C : String} {index : Nat} {y : MethodName} {bytes : ByteArray} {maxL : Nat} {ret : Option FieldType} {hh : List (Nat × Nat × Nat × Nat)}
    (hown : s.vm.findClass own = some m.cls) (hlink : (Cond.methodLink own index y).before args s = true) (hinst : (Cond.instanceMethod y).before args s = true) (hsel : (Cond.selects C y y).before args s = true)
    (hcode : (Cond.codeWith y bytes maxL ret hh).before args s = true) (hy : y.cls ≠ "java/lang/invoke/MethodHandle" ∧ y.cls ≠ "java/lang/invoke/VarHandle")
    {W9 : Nat} {Pre : Pt → Array Value → Prop} {Post : Pt → Array Value → Option Value → Pt → Prop} {PostX : Pt → Array Value → Addr → Pt → Prop} (hK : vx_Back l R p e below s args y 3 W9 Pre Post PostX)
    {b : Addr} {cellB : Cell} (hcell : T.heap[b]? = some cellB) (hobj : cellB.vm.isStatics = false) (hcls : s.vm.findClass C = some cellB.cls)
    {g : JFrame} (hg : g.method = m) (hsize : g.locals.size = c.maxLocals) {argsL rest : List Value} (hlen : ∀ sig, parseMethodDescriptor y.desc = some sig → argsL.length = sig.parameters.length)
    (hstack : g.stack = argsL.reverse ++ .ref b :: rest) (hW : 2 * g.monitorRoom + (rest.map fun v => v.category).sum ≤ W9) (hdg : decode c.code g.pc = .ok (.invokevirtual index, 3))
    (hpre : ∀ vm₁, s.WarmedH vm₁ → Pre ⟨T.setVm vm₁, locs, cells, slots⟩ (Value.ref b :: argsL).toArray) :
    (∃ (v : Option Value) (vm₁ : Vm) (B : Pt), s.WarmedH vm₁ ∧ Stand p l e R s m args below meth c B.U B.locs B.cells B.slots ∧ Post ⟨T.setVm vm₁, locs, cells, slots⟩ (Value.ref b :: argsL).toArray v B ∧
      ∀ target, Steps p.tables e below (B.U.setTop { g with pc := g.pc + 3, stack := v.toList ++ rest }) target → Steps p.tables e below (T.setTop g) target) ∨
    (∃ (q : Addr) (vm₁ : Vm) (B : Pt), s.WarmedH vm₁ ∧ Stand p l e R s m args below meth c B.U B.locs B.cells B.slots ∧ PostX ⟨T.setVm vm₁, locs, cells, slots⟩ (Value.ref b :: argsL).toArray q B ∧
      Steps p.tables e below (T.setTop g) ((B.U.setTop { g with stack := rest }).pushFrame (.throwing q))) := by
  obtain ⟨mk, methM, hnamed, hmethM, hstM, habM⟩ := Cond.instanceMethod_spec hinst
  obtain ⟨m8, methM', cM, hn8, hmethM', -, -, -, -, -, -, hsigM⟩ := Cond.codeWith_spec hcode
  cases Option.some.inj (hn8.symm.trans hnamed)
  cases hmethM.symm.trans hmethM'
  obtain ⟨c2, r2, m2, q1, q2, q3, q4, kP, hkP, hkPi⟩ := Cond.selects_spec hsel
  cases hcls.symm.trans q1
  cases (State.methodFound?_of_named hnamed hy).symm.trans q2
  cases hnamed.symm.trans q3
  have hselP : selectMethod e.platform s.vm cellB.cls mk = .method mk := by rw [Launch.admits_selectMethod X.admits]; exact q4
  obtain ⟨vm₁, X₁, hstep₁⟩ := X.invokevirtual hexec hown hlink hnamed hmethM hstM hkP hkPi hy (a := b) (cell := cellB) hcell
    (fun z h => by rw [h] at hobj; cases hobj) hselP hmethM habM hkP hkPi (g := g) hg (argsL := argsL) (rest := rest) (hlen _ hsigM) hstack hdg
  rcases hK m meth c ⟨T.setVm vm₁, locs, cells, slots⟩ { g with stack := rest } (.invokevirtual index) mk (Value.ref b :: argsL).toArray X₁ hg hsize hdg hW (X₁.named hnamed) (hpre vm₁ X₁.warmed) with ⟨v, B, X', hpost, hsteps⟩ | ⟨q, B, X', hpost, hsteps⟩
  · exact Or.inl ⟨v, vm₁, B, X₁.warmed, X', hpost, fun target h => hstep₁ _ fun acts => by rw [doInvoke_state]; exact hsteps.trans h⟩
  · exact Or.inr ⟨q, vm₁, B, X₁.warmed, X', hpost, hstep₁ _ fun acts => by rw [doInvoke_state]; exact hsteps⟩
theorem vx_callSX (X : Stand p l e R s m args below meth c T locs cells slots) (hexec : p.tables.exec = Jvm.exec) {own : String} {index : Nat} {y : MethodName} {bytes : ByteArray} {maxL : Nat} {ret : Option FieldType} {hh : List (Nat × Nat × Nat × Nat)}
    (hown : s.vm.findClass own = some m.cls) (hlink : (Cond.methodLink own index y).before args s = true) (hstat : (Cond.static y).before args s = true) (hinit : (Cond.initialized y.cls).before args s = true)
    (hcode : (Cond.codeWith y bytes maxL ret hh).before args s = true) (hy : y.cls ≠ "java/lang/invoke/MethodHandle" ∧ y.cls ≠ "java/lang/invoke/VarHandle")
    {W9 : Nat} {Pre : Pt → Array Value → Prop} {Post : Pt → Array Value → Option Value → Pt → Prop} {PostX : Pt → Array Value → Addr → Pt → Prop} (hK : vx_Back l R p e below s args y 3 W9 Pre Post PostX)
    {g : JFrame} (hg : g.method = m) (hsize : g.locals.size = c.maxLocals) {argsL rest : List Value} (hlen : ∀ sig, parseMethodDescriptor y.desc = some sig → argsL.length = sig.parameters.length)
    (hstack : g.stack = argsL.reverse ++ rest) (hW : 2 * g.monitorRoom + (rest.map fun v => v.category).sum ≤ W9) (hdg : decode c.code g.pc = .ok (.invokestatic index, 3))
    (hpre : ∀ vm₁, s.WarmedH vm₁ → Pre ⟨T.setVm vm₁, locs, cells, slots⟩ argsL.toArray) :
    (∃ (v : Option Value) (vm₁ : Vm) (B : Pt), s.WarmedH vm₁ ∧ Stand p l e R s m args below meth c B.U B.locs B.cells B.slots ∧ Post ⟨T.setVm vm₁, locs, cells, slots⟩ argsL.toArray v B ∧
      ∀ target, Steps p.tables e below (B.U.setTop { g with pc := g.pc + 3, stack := v.toList ++ rest }) target → Steps p.tables e below (T.setTop g) target) ∨
    (∃ (q : Addr) (vm₁ : Vm) (B : Pt), s.WarmedH vm₁ ∧ Stand p l e R s m args below meth c B.U B.locs B.cells B.slots ∧ PostX ⟨T.setVm vm₁, locs, cells, slots⟩ argsL.toArray q B ∧
      Steps p.tables e below (T.setTop g) ((B.U.setTop { g with stack := rest }).pushFrame (.throwing q))) := by
  obtain ⟨mk, methM, cM, hnamed, hmethM, -, -, -, -, -, -, hsigM⟩ := Cond.codeWith_spec hcode
  have hstatic : methM.isStatic = true := Cond.static_spec hnamed hmethM hstat
  obtain ⟨kP, hkP, -⟩ := className_of_methodNamed hnamed
  have hinitP : kP.init = .initialized := Cond.initialized_spec (findClass_of_methodNamed hnamed) hkP hinit
  obtain ⟨vm₁, X₁, hstep₁⟩ := X.invokestatic hexec hown hlink hnamed hmethM hstatic hkP hinitP hy (g := g) hg (argsL := argsL) (rest := rest) (hlen _ hsigM) hstack hdg
  rcases hK m meth c ⟨T.setVm vm₁, locs, cells, slots⟩ { g with stack := rest } (.invokestatic index) mk argsL.toArray X₁ hg hsize hdg hW (X₁.named hnamed) (hpre vm₁ X₁.warmed) with ⟨v, B, X', hpost, hsteps⟩ | ⟨q, B, X', hpost, hsteps⟩
  · exact Or.inl ⟨v, vm₁, B, X₁.warmed, X', hpost, fun target h => hstep₁ _ fun acts => by rw [doInvoke_state]; exact hsteps.trans h⟩
  · exact Or.inr ⟨q, vm₁, B, X₁.warmed, X', hpost, hstep₁ _ fun acts => by rw [doInvoke_state]; exact hsteps⟩
theorem vx_callVW (X : Stand p l e R s m args below meth c T locs cells slots) (hexec : p.tables.exec = Jvm.exec) {own C : String} {index : Nat} {y : MethodName} {bytes : ByteArray} {maxL : Nat} {ret : Option FieldType} {hh : List (Nat × Nat × Nat × Nat)}
    (hown : s.vm.findClass own = some m.cls) (hlink : (Cond.methodLink own index y).before args s = true) (hinst : (Cond.instanceMethod y).before args s = true) (hsel : (Cond.selects C y y).before args s = true)
    (hcode : (Cond.codeWith y bytes maxL ret hh).before args s = true) (hy : y.cls ≠ "java/lang/invoke/MethodHandle" ∧ y.cls ≠ "java/lang/invoke/VarHandle")
    {W9 : Nat} {Pre : Pt → Array Value → Prop} {Post : Pt → Array Value → Option Value → Pt → Prop} (hK : Back l R p e below s args y 3 W9 Pre Post)
    {b : Addr} {cellB : Cell} (hcell : T.heap[b]? = some cellB) (hobj : cellB.vm.isStatics = false) (hcls : s.vm.findClass C = some cellB.cls)
    {g : JFrame} (hg : g.method = m) (hsize : g.locals.size = c.maxLocals) {argsL rest : List Value} (hlen : ∀ sig, parseMethodDescriptor y.desc = some sig → argsL.length = sig.parameters.length)
    (hstack : g.stack = argsL.reverse ++ .ref b :: rest) (hW : 2 * g.monitorRoom + (rest.map fun v => v.category).sum ≤ W9) (hdg : decode c.code g.pc = .ok (.invokevirtual index, 3))
    (hpre : ∀ vm₁, s.WarmedH vm₁ → Pre ⟨T.setVm vm₁, locs, cells, slots⟩ (Value.ref b :: argsL).toArray) :
    ∃ (v : Option Value) (vm₁ : Vm) (B : Pt), s.WarmedH vm₁ ∧ Stand p l e R s m args below meth c B.U B.locs B.cells B.slots ∧ Post ⟨T.setVm vm₁, locs, cells, slots⟩ (Value.ref b :: argsL).toArray v B ∧
      ∀ target, Steps p.tables e below (B.U.setTop { g with pc := g.pc + 3, stack := v.toList ++ rest }) target → Steps p.tables e below (T.setTop g) target := by
  obtain ⟨mk, methM, hnamed, hmethM, hstM, habM⟩ := Cond.instanceMethod_spec hinst
  obtain ⟨m8, methM', cM, hn8, hmethM', -, -, -, -, -, -, hsigM⟩ := Cond.codeWith_spec hcode
  cases Option.some.inj (hn8.symm.trans hnamed)
  cases hmethM.symm.trans hmethM'
  obtain ⟨c2, r2, m2, q1, q2, q3, q4, kP, hkP, hkPi⟩ := Cond.selects_spec hsel
  cases hcls.symm.trans q1
  cases (State.methodFound?_of_named hnamed hy).symm.trans q2
  cases hnamed.symm.trans q3
  have hselP : selectMethod e.platform s.vm cellB.cls mk = .method mk := by rw [Launch.admits_selectMethod X.admits]; exact q4
  obtain ⟨vm₁, X₁, hstep₁⟩ := X.invokevirtual hexec hown hlink hnamed hmethM hstM hkP hkPi hy (a := b) (cell := cellB) hcell
    (fun z h => by rw [h] at hobj; cases hobj) hselP hmethM habM hkP hkPi (g := g) hg (argsL := argsL) (rest := rest) (hlen _ hsigM) hstack hdg
  obtain ⟨v, B, X', hpost, hsteps⟩ := hK m meth c ⟨T.setVm vm₁, locs, cells, slots⟩ { g with stack := rest } (.invokevirtual index) mk (Value.ref b :: argsL).toArray X₁ hg hsize hdg hW (X₁.named hnamed) (hpre vm₁ X₁.warmed)
  exact ⟨v, vm₁, B, X₁.warmed, X', hpost, fun target h => hstep₁ _ fun acts => by rw [doInvoke_state]; exact hsteps.trans h⟩
abbrev vx_CVW (R : Room) (s : State) (args : Array Value) (own C : String) (index : Nat) (y : MethodName) (bytes : ByteArray) (maxL : Nat) (ret : Option FieldType) (hh : List (Nat × Nat × Nat × Nat)) (ws : List Cond) (rm : Room) (mc ms n : Nat) : Prop :=
  (rm.cells = mc ∧ rm.slots = ms ∧ rm.frames + 1 ≤ R.frames ∧ 8 + (maxL + 11) + rm.locals ≤ R.locals ∧ (∀ w ∈ ws, ∀ (a' : Array Value) (U : State), s.WarmedH U.vm → w.before a' U = true) ∧ Cond.codeWith y bytes maxL ret hh ∈ ws) ∧
  (Cond.codeWith y bytes maxL ret hh).before args s = true ∧ (Cond.initialized y.cls).before args s = true ∧ (y.cls ≠ "java/lang/invoke/MethodHandle" ∧ y.cls ≠ "java/lang/invoke/VarHandle") ∧
  (∀ sig, parseMethodDescriptor y.desc = some sig → n = sig.parameters.length) ∧ (Cond.methodLink own index y).before args s = true ∧ (Cond.instanceMethod y).before args s = true ∧ (Cond.selects C y y).before args s = true
theorem vx_cwVW {own C : String} {index maxL mc ms : Nat} {y : MethodName} {bytes : ByteArray} {ret : Option FieldType} {hh : List (Nat × Nat × Nat × Nat)} {Ts ws ws' : List Cond} {rm : Room} (n : Nat) (ht : ∀ w ∈ Ts, w.before args s = true) (hT : GoodIn Ts (wsV own index C y ws)) (hw : ws = Cond.codeWith y bytes maxL ret hh :: ws') (hrc : rm.cells = mc) (hrs : rm.slots = ms)
    (hd : y.cls = C ∧ y.cls ≠ "java/lang/invoke/MethodHandle" ∧ y.cls ≠ "java/lang/invoke/VarHandle" ∧ (parseMethodDescriptor y.desc).map (fun d => d.parameters.length) = some n) (hR : rm.frames + 1 ≤ R.frames ∧ 8 + (maxL + 11) + rm.locals ≤ R.locals) :
    vx_CVW R s args own C index y bytes maxL ret hh ws rm mc ms n := by
  obtain ⟨hC, hd⟩ := hd
  subst hC
  have ok : ∀ w ∈ wsV own index y.cls y ws, w.before args s = true := fun w h => ht w (hT w h).1
  have hG : GoodIn Ts ws := fun w h => hT w (by unfold wsV; exact List.mem_append_right _ h)
  have hc : Cond.codeWith y bytes maxL ret hh ∈ ws := by rw [hw]; exact List.mem_cons_self
  refine ⟨⟨hrc, hrs, hR.1, hR.2, pay_in ht hG, hc⟩, ht _ (hG _ hc).1, ok _ (by simp [wsV]), ⟨hd.1, hd.2.1⟩, fun sig h => ?_, ok _ (by simp [wsV]), ok _ (by simp [wsV]), ok _ (by simp [wsV])⟩
  have h2 := hd.2.2
  rw [h] at h2
  exact (Option.some.inj h2).symm
theorem vx_runVW {y : MethodName} {bytes cc : ByteArray} {maxL nL mc ms n index : Nat} {ret : Option FieldType} {hh : List (Nat × Nat × Nat × Nat)} {ws : List Cond} {rm : Room} {Pc : Array Value → State → Prop} {Qc : Array Value → State → Outcome → State → Prop} {free : Addr → Prop} {Ts : List Cond} {own C : String} {b : Addr} {As rest : List Value} {g : JFrame}
    (S : CallFix p m c cc nL s args Ts own) (hM : Met l y ws rm Pc Qc mc ms free) (cw : vx_CVW R s args own C index y bytes maxL ret hh ws rm mc ms n) (hp : PreV s H C b Pc As)
    (hg : g.method = m) (hn : As.length = n) (hsize : g.locals.size = nL) (hstack : g.stack = As.reverse ++ .ref b :: rest) (hW : 2 * g.monitorRoom + (rest.map fun v => v.category).sum ≤ 8) (hdg : decode cc g.pc = .ok (.invokevirtual index, 3)) (hf : cells + mc ≤ R.cells ∧ slots + ms ≤ R.slots) :
    va_Run p l e R s m args below meth c H locs cells slots mc ms g rest (Qc (Value.ref b :: As).toArray) free := by
  obtain ⟨⟨hrc, hrs, hfr, hlo, hws, hcw⟩, hcode, hini, hy, hlen, hl, hin, hse⟩ := cw
  have hK : Back l R p e below s args y 3 8 (PreOf R mc ms Pc) (PostOf Qc mc ms free) := va_backW (hh := hh) (bytes := bytes) (maxL := maxL) (ret := ret) hM hp.1 hrc hrs hfr hlo hws hcw (fun a' U hW => word_at hW (Or.inl (by first | rfl | simp [Cond.onTables, Cond.keeps, Cond.steady])) hini)
  obtain ⟨hx, hb, hml, ho, -⟩ := S
  obtain ⟨-, ⟨cellB, hcB, hoB, hclB⟩, hPc⟩ := hp
  intro T hT X
  obtain ⟨v, vm₁, ⟨U', l2, c2, s2⟩, hW₁, X', ⟨g', mk, t, L, e1, e2, hq, h1, hL, h2, h3⟩, st⟩ := vx_callVW X hx (C := C) (hh := hh) (bytes := bytes) (maxL := maxL) (ret := ret) ho hl hin hse hcode hy hK (by rw [hT]; exact hcB) hoB hclB hg (hsize.trans hml.symm) (argsL := As) (rest := rest) (fun sig h => hn.trans (hlen sig h)) hstack hW (by rw [hb]; exact hdg)
    (fun vm₁ hW₁ => ⟨hf.1, hf.2, hPc (T.setVm vm₁) hT hW₁⟩)
  dsimp only [Pt.U, Pt.locs, Pt.cells, Pt.slots] at X' e1 e2 h1 h2 h3 st
  subst h1; subst h2; subst h3
  exact ⟨v, (T.setVm vm₁).calling g' mk (Value.ref b :: As).toArray, t, U', L, hT, X', hL, e1, e2, hq, st⟩
section
variable {y : MethodName} {bytes cc : ByteArray} {maxL nL mc ms n index : Nat} {ret : Option FieldType} {ws : List Cond} {rm : Room} {Pc : Array Value → State → Prop} {Qc : Array Value → State → Outcome → State → Prop} {XC : String → State → State → Prop} {free : Addr → Prop} {Ts : List Cond} {own C : String} {b : Addr} {As rest : List Value} {g : JFrame}
theorem vx_runVX {hh : List (Nat × Nat × Nat × Nat)} (S : CallFix p m c cc nL s args Ts own) (hM : vx_Met l y ws rm Pc Qc XC mc ms free) (cw : vx_CVW R s args own C index y bytes maxL ret hh ws rm mc ms n) (hp : PreV s H C b Pc As)
    (hg : g.method = m) (hn : As.length = n) (hsize : g.locals.size = nL) (hstack : g.stack = As.reverse ++ .ref b :: rest) (hW : 2 * g.monitorRoom + (rest.map fun v => v.category).sum ≤ 8) (hdg : decode cc g.pc = .ok (.invokevirtual index, 3)) (hf : cells + mc ≤ R.cells ∧ slots + ms ≤ R.slots) :
    vx_Run p l e R s m args below meth c H locs cells slots mc ms g rest (Qc (Value.ref b :: As).toArray) XC free := by
  obtain ⟨⟨hrc, hrs, hfr, hlo, hws, hcw⟩, hcode, hini, hy, hlen, hl, hin, hse⟩ := cw
  have hK : vx_Back l R p e below s args y 3 8 (PreOf R mc ms Pc) (PostOf Qc mc ms free) (vx_Post XC mc ms free) := vx_backW (hh := hh) (bytes := bytes) (maxL := maxL) (ret := ret) hM hp.1 hrc hrs hfr hlo hws hcw (fun a' U hW => word_at hW (Or.inl (by first | rfl | simp [Cond.onTables, Cond.keeps, Cond.steady])) hini)
  obtain ⟨hx, hb, hml, ho, -⟩ := S
  obtain ⟨-, ⟨cellB, hcB, hoB, hclB⟩, hPc⟩ := hp
  intro T hT X
  rcases vx_callVX X hx (C := C) (hh := hh) (bytes := bytes) (maxL := maxL) (ret := ret) ho hl hin hse hcode hy hK (by rw [hT]; exact hcB) hoB hclB hg (hsize.trans hml.symm) (argsL := As) (rest := rest) (fun sig h => hn.trans (hlen sig h)) hstack hW (by rw [hb]; exact hdg)
    (fun vm₁ hW₁ => ⟨hf.1, hf.2, hPc (T.setVm vm₁) hT hW₁⟩) with ⟨v, vm₁, ⟨U', l2, c2, s2⟩, hW₁, X', ⟨g', mk, t, L, e1, e2, hq, h1, hL, h2, h3⟩, st⟩ | ⟨q, vm₁, ⟨U', l2, c2, s2⟩, hW₁, X', ⟨g', mk, t, L, E, ce, e1, e2, hq, hce, hcv, hcl, h1, hL, h2, h3⟩, st⟩
  · dsimp only [Pt.U, Pt.locs, Pt.cells, Pt.slots] at X' e1 e2 h1 h2 h3 st
    subst h1; subst h2; subst h3
    exact Or.inl ⟨v, (T.setVm vm₁).calling g' mk (Value.ref b :: As).toArray, t, U', L, hT, X', hL, e1, e2, hq, st⟩
  · dsimp only [Pt.U, Pt.locs, Pt.cells, Pt.slots] at X' e1 e2 h1 h2 h3 st hcl
    subst h1; subst h2; subst h3
    exact Or.inr ⟨q, (T.setVm vm₁).calling g' mk (Value.ref b :: As).toArray, t, U', L, E, ce, hT, X', hL, e1, e2, hq, hce, hcv, vx_cls hW₁ hcl, st⟩
theorem vx_runSX {hh : List (Nat × Nat × Nat × Nat)} (S : CallFix p m c cc nL s args Ts own) (hM : vx_Met l y ws rm Pc Qc XC mc ms free) (cw : vx_CSW R s args own index y bytes maxL ret hh ws rm mc ms n) (hp : PreS s H Pc As)
    (hg : g.method = m) (hn : As.length = n) (hsize : g.locals.size = nL) (hstack : g.stack = As.reverse ++ rest) (hW : 2 * g.monitorRoom + (rest.map fun v => v.category).sum ≤ 8) (hdg : decode cc g.pc = .ok (.invokestatic index, 3)) (hf : cells + mc ≤ R.cells ∧ slots + ms ≤ R.slots) :
    vx_Run p l e R s m args below meth c H locs cells slots mc ms g rest (Qc As.toArray) XC free := by
  obtain ⟨⟨hrc, hrs, hfr, hlo, hws, hcw⟩, hcode, hini, hy, hlen, hl, hstt⟩ := cw
  have hK : vx_Back l R p e below s args y 3 8 (PreOf R mc ms Pc) (PostOf Qc mc ms free) (vx_Post XC mc ms free) := vx_backW (hh := hh) (bytes := bytes) (maxL := maxL) (ret := ret) hM hp.1 hrc hrs hfr hlo hws hcw (fun a' U hW => word_at hW (Or.inl (by first | rfl | simp [Cond.onTables, Cond.keeps, Cond.steady])) hini)
  obtain ⟨hx, hb, hml, ho, -⟩ := S
  intro T hT X
  rcases vx_callSX X hx (hh := hh) (bytes := bytes) (maxL := maxL) (ret := ret) ho hl hstt hini hcode hy hK hg (hsize.trans hml.symm) (argsL := As) (rest := rest) (fun sig h => hn.trans (hlen sig h)) hstack hW (by rw [hb]; exact hdg)
    (fun vm₁ hW₁ => ⟨hf.1, hf.2, hp.2 (T.setVm vm₁) hT hW₁⟩) with ⟨v, vm₁, ⟨U', l2, c2, s2⟩, hW₁, X', ⟨g', mk, t, L, e1, e2, hq, h1, hL, h2, h3⟩, st⟩ | ⟨q, vm₁, ⟨U', l2, c2, s2⟩, hW₁, X', ⟨g', mk, t, L, E, ce, e1, e2, hq, hce, hcv, hcl, h1, hL, h2, h3⟩, st⟩
  · dsimp only [Pt.U, Pt.locs, Pt.cells, Pt.slots] at X' e1 e2 h1 h2 h3 st
    subst h1; subst h2; subst h3
    exact Or.inl ⟨v, (T.setVm vm₁).calling g' mk As.toArray, t, U', L, hT, X', hL, e1, e2, hq, st⟩
  · dsimp only [Pt.U, Pt.locs, Pt.cells, Pt.slots] at X' e1 e2 h1 h2 h3 st hcl
    subst h1; subst h2; subst h3
    exact Or.inr ⟨q, (T.setVm vm₁).calling g' mk As.toArray, t, U', L, E, ce, hT, X', hL, e1, e2, hq, hce, hcv, vx_cls hW₁ hcl, st⟩
end
end VXH
theorem vx_ofWH {l : Launch} {y : MethodName} {ws ws' : List Cond} {rm : Room} {Pc : Array Value → State → Prop} {Qc : Array Value → State → Outcome → State → Prop} {XC : String → State → State → Prop} {mc ms : Nat} {free : Addr → Prop} {cc : ByteArray} {maxL : Nat} {ret : Option FieldType} {hh : List (Nat × Nat × Nat × Nat)}
    (hy : plainName y.cls = true) (hw : ws = Cond.codeWith y cc maxL ret hh :: ws')
    (body : ∀ p e s m args below meth c s₁, BodyLoose p l y (headSpec ws rm) cc maxL ret e s m args below meth c s₁ → c.maxLocals = maxL → Pc args s →
      W p l e (headSpec ws rm).room s m args below meth c s.heap [] 0 0 (vx_MQ below Qc XC args s mc ms free) (entryFrame m args maxL)) : vx_Met l y ws rm Pc Qc XC mc ms free := by
  refine MetFree.of_bodyS (code := cc) (maxLocals := maxL) (ret := ret) hy ?_ ?_
  · intro args s m h hn
    obtain ⟨m9, meth, c, hn9, h1, h2, h3, h4, -, h5, h6, -⟩ := Cond.codeWith_spec (atoms_spec (ws := ws) h _ (by rw [hw]; exact List.mem_cons_self))
    cases hn.symm.trans hn9
    exact ⟨meth, c, h1, h2, h3, h4, h5, h6⟩
  · intro p e s m args below meth c s₁ B hml hP _
    have hh0 : s₁.heap = s.heap := by rw [B.state]; rfl
    obtain ⟨t, a1, o, b1, b2, b3⟩ := body p e s m args below meth c s₁ B hml hP s₁ hh0 (Stand.of_body B)
    exact ⟨t, o, a1, b1, b2, b3⟩
/-! ===== END ===== -/

def RX0 : String := "OperaMachines$Cue"
def TX0 : u_T := fun k => match k with
  | 0 => ("OperaMachines$Cue", "machine", "LOperaMachines$Machine;", true)
  | 1 => ("OperaMachines$Cue", "bar", "I", true)
  | 2 => ("OperaMachines$Cue", "target", "I", true)
  | 3 => ("OperaMachines$Cue", "worker", "I", true)
  | 4 => ("OperaMachines$Cue", "struck", "Z", false)
  | _ => ("OperaMachines$Cue", "work", "I", false)
def tyX0 : Nat → FieldType := fun k => match k with
  | 0 => .object "OperaMachines$Machine"
  | 1 => .int
  | 2 => .int
  | 3 => .int
  | 4 => .boolean
  | _ => .int
theorem nmX0 : ∀ a, a < 6 → ∀ b, b < 6 → a ≠ b → (TX0 a).2.1 ≠ (TX0 b).2.1 := by decide +kernel
theorem tyX0_ok : ∀ k, k < 6 → parseFieldDescriptor (TX0 k).2.2.1 = some (tyX0 k) := by decide +kernel
abbrev cX0_init : ByteArray := prog_2_method_1_code
def yX0_init : MethodName := ⟨RX0, "<init>", "(LOperaMachines$Machine;III)V"⟩
def RX1 : String := "OperaMachines$Machine"
def TX1 : u_T := fun k => match k with
  | 0 => ("OperaMachines$Machine", "track", "I", true)
  | 1 => ("OperaMachines$Machine", "first", "I", true)
  | 2 => ("OperaMachines$Machine", "width", "I", true)
  | 3 => ("OperaMachines$Machine", "speed", "I", true)
  | 4 => ("OperaMachines$Machine", "cueOfBar", "[LOperaMachines$Cue;", true)
  | 5 => ("OperaMachines$Machine", "place", "I", false)
  | _ => ("OperaMachines$Machine", "running", "LOperaMachines$Cue;", false)
def tyX1 : Nat → FieldType := fun k => match k with
  | 0 => .int
  | 1 => .int
  | 2 => .int
  | 3 => .int
  | 4 => .array (.object "OperaMachines$Cue")
  | 5 => .int
  | _ => .object "OperaMachines$Cue"
theorem nmX1 : ∀ a, a < 7 → ∀ b, b < 7 → a ≠ b → (TX1 a).2.1 ≠ (TX1 b).2.1 := by decide +kernel
theorem tyX1_ok : ∀ k, k < 7 → parseFieldDescriptor (TX1 k).2.2.1 = some (tyX1 k) := by decide +kernel
abbrev cX1_init : ByteArray := prog_3_method_1_code
def yX1_init : MethodName := ⟨RX1, "<init>", "(IIII)V"⟩
abbrev cX1_turns : ByteArray := prog_3_method_2_code
def yX1_turns : MethodName := ⟨RX1, "turns", "()Z"⟩
abbrev cX1_lastPlace : ByteArray := prog_3_method_3_code
def yX1_lastPlace : MethodName := ⟨RX1, "lastPlace", "()I"⟩
abbrev cX1_setCueOfBar : ByteArray := prog_3_method_4_code
def yX1_setCueOfBar : MethodName := ⟨RX1, "setCueOfBar", "(ILOperaMachines$Cue;)V"⟩
abbrev cX1_rewind : ByteArray := prog_3_method_5_code
def yX1_rewind : MethodName := ⟨RX1, "rewind", "()V"⟩
abbrev cX1_startBar : ByteArray := prog_3_method_6_code
def yX1_startBar : MethodName := ⟨RX1, "startBar", "(I)V"⟩
abbrev cX1_wayToTarget : ByteArray := prog_3_method_7_code
def yX1_wayToTarget : MethodName := ⟨RX1, "wayToTarget", "()I"⟩
abbrev cX1_ticksToTarget : ByteArray := prog_3_method_8_code
def yX1_ticksToTarget : MethodName := ⟨RX1, "ticksToTarget", "()I"⟩
abbrev cX1_go : ByteArray := prog_3_method_9_code
def yX1_go : MethodName := ⟨RX1, "go", "(I)Z"⟩
abbrev cX1_workThroughBar : ByteArray := prog_3_method_10_code
def yX1_workThroughBar : MethodName := ⟨RX1, "workThroughBar", "(I)V"⟩
abbrev cX1_meets : ByteArray := prog_3_method_11_code
def yX1_meets : MethodName := ⟨RX1, "meets", "(LOperaMachines$Machine;)Z"⟩
def RX2 : String := "OperaMachines"
def TX2 : u_T := fun k => match k with
  | 0 => ("OperaMachines", "machines", "Ljava/util/ArrayList;", true)
  | 1 => ("OperaMachines", "cues", "Ljava/util/ArrayList;", true)
  | 2 => ("OperaMachines", "cuesByBar", "Ljava/util/ArrayList;", true)
  | 3 => ("OperaMachines", "striking", "[Z", true)
  | 4 => ("OperaMachines", "substitutes", "[I", true)
  | 5 => ("OperaMachines", "bars", "I", false)
  | 6 => ("OperaMachines", "writtenTicks", "I", false)
  | 7 => ("OperaMachines", "tempo", "I", false)
  | 8 => ("OperaMachines", "rest", "I", false)
  | _ => ("OperaMachines", "limit", "I", false)
def tyX2 : Nat → FieldType := fun k => match k with
  | 0 => .object "java/util/ArrayList"
  | 1 => .object "java/util/ArrayList"
  | 2 => .object "java/util/ArrayList"
  | 3 => .array .boolean
  | 4 => .array .int
  | 5 => .int
  | 6 => .int
  | 7 => .int
  | 8 => .int
  | _ => .int
theorem nmX2 : ∀ a, a < 10 → ∀ b, b < 10 → a ≠ b → (TX2 a).2.1 ≠ (TX2 b).2.1 := by decide +kernel
theorem tyX2_ok : ∀ k, k < 10 → parseFieldDescriptor (TX2 k).2.2.1 = some (tyX2 k) := by decide +kernel
abbrev cX2_init : ByteArray := prog_1_method_1_code
def yX2_init : MethodName := ⟨RX2, "<init>", "()V"⟩
abbrev cX2_wagon : ByteArray := prog_1_method_2_code
def yX2_wagon : MethodName := ⟨RX2, "wagon", "(IIII)I"⟩
abbrev cX2_turntable : ByteArray := prog_1_method_3_code
def yX2_turntable : MethodName := ⟨RX2, "turntable", "(II)I"⟩
abbrev cX2_setScore : ByteArray := prog_1_method_4_code
def yX2_setScore : MethodName := ⟨RX2, "setScore", "(II)V"⟩
abbrev cX2_cue : ByteArray := prog_1_method_5_code
def yX2_cue : MethodName := ⟨RX2, "cue", "(IIII)I"⟩
abbrev cX2_strikeOut : ByteArray := prog_1_method_6_code
def yX2_strikeOut : MethodName := ⟨RX2, "strikeOut", "(I)I"⟩
abbrev cX2_setTempo : ByteArray := prog_1_method_7_code
def yX2_setTempo : MethodName := ⟨RX2, "setTempo", "(I)I"⟩
abbrev cX2_setRules : ByteArray := prog_1_method_8_code
def yX2_setRules : MethodName := ⟨RX2, "setRules", "(II)V"⟩
abbrev cX2_strike : ByteArray := prog_1_method_9_code
def yX2_strike : MethodName := ⟨RX2, "strike", "(IZ)Z"⟩
abbrev cX2_substitute : ByteArray := prog_1_method_10_code
def yX2_substitute : MethodName := ⟨RX2, "substitute", "(II)I"⟩
abbrev cX2_bar : ByteArray := prog_1_method_11_code
def yX2_bar : MethodName := ⟨RX2, "bar", "()I"⟩
abbrev cX2_end : ByteArray := prog_1_method_12_code
def yX2_end : MethodName := ⟨RX2, "end", "()I"⟩
abbrev cX2_place : ByteArray := prog_1_method_13_code
def yX2_place : MethodName := ⟨RX2, "place", "(II)I"⟩
abbrev cX2_placeAtBar : ByteArray := prog_1_method_14_code
def yX2_placeAtBar : MethodName := ⟨RX2, "placeAtBar", "(II)I"⟩
abbrev cX2_meeting : ByteArray := prog_1_method_15_code
def yX2_meeting : MethodName := ⟨RX2, "meeting", "()I"⟩
abbrev cX2_meeters : ByteArray := prog_1_method_16_code
def yX2_meeters : MethodName := ⟨RX2, "meeters", "()I"⟩
abbrev cX2_worker : ByteArray := prog_1_method_17_code
def yX2_worker : MethodName := ⟨RX2, "worker", "(I)I"⟩
abbrev cX2_takes : ByteArray := prog_1_method_18_code
def yX2_takes : MethodName := ⟨RX2, "takes", "(I)I"⟩
abbrev cX2_clashes : ByteArray := prog_1_method_19_code
def yX2_clashes : MethodName := ⟨RX2, "clashes", "(I)I"⟩
abbrev cX2_overtime : ByteArray := prog_1_method_20_code
def yX2_overtime : MethodName := ⟨RX2, "overtime", "(I)I"⟩
abbrev cX2_isFine : ByteArray := prog_1_method_21_code
def yX2_isFine : MethodName := ⟨RX2, "isFine", "()Z"⟩
abbrev cX2_fastest : ByteArray := prog_1_method_22_code
def yX2_fastest : MethodName := ⟨RX2, "fastest", "()I"⟩
abbrev cX2_within : ByteArray := prog_1_method_23_code
def yX2_within : MethodName := ⟨RX2, "within", "(III)Z"⟩
abbrev cX2_isWorker : ByteArray := prog_1_method_24_code
def yX2_isWorker : MethodName := ⟨RX2, "isWorker", "(I)Z"⟩
abbrev cX2_allow : ByteArray := prog_1_method_25_code
def yX2_allow : MethodName := ⟨RX2, "allow", "(Z)V"⟩
abbrev cX2_machineNumbered : ByteArray := prog_1_method_26_code
def yX2_machineNumbered : MethodName := ⟨RX2, "machineNumbered", "(I)LOperaMachines$Machine;"⟩
abbrev cX2_cueNumbered : ByteArray := prog_1_method_27_code
def yX2_cueNumbered : MethodName := ⟨RX2, "cueNumbered", "(I)LOperaMachines$Cue;"⟩
abbrev cX2_needRoomForMachine : ByteArray := prog_1_method_28_code
def yX2_needRoomForMachine : MethodName := ⟨RX2, "needRoomForMachine", "()V"⟩
abbrev cX2_add : ByteArray := prog_1_method_29_code
def yX2_add : MethodName := ⟨RX2, "add", "(LOperaMachines$Machine;)I"⟩
abbrev cX2_insertByBar : ByteArray := prog_1_method_30_code
def yX2_insertByBar : MethodName := ⟨RX2, "insertByBar", "(LOperaMachines$Cue;)V"⟩
abbrev cX2_highestCue : ByteArray := prog_1_method_31_code
def yX2_highestCue : MethodName := ⟨RX2, "highestCue", "(LOperaMachines$Machine;I)LOperaMachines$Cue;"⟩
abbrev cX2_barTicks : ByteArray := prog_1_method_32_code
def yX2_barTicks : MethodName := ⟨RX2, "barTicks", "(I)I"⟩
abbrev cX2_rewindAll : ByteArray := prog_1_method_33_code
def yX2_rewindAll : MethodName := ⟨RX2, "rewindAll", "()V"⟩
abbrev cX2_startBarForAll : ByteArray := prog_1_method_34_code
def yX2_startBarForAll : MethodName := ⟨RX2, "startBarForAll", "(I)V"⟩
abbrev cX2_goAll : ByteArray := prog_1_method_35_code
def yX2_goAll : MethodName := ⟨RX2, "goAll", "()Z"⟩
abbrev cX2_firstMeeting : ByteArray := prog_1_method_36_code
def yX2_firstMeeting : MethodName := ⟨RX2, "firstMeeting", "(I)I"⟩
abbrev cX2_leastPairMeetingNow : ByteArray := prog_1_method_37_code
def yX2_leastPairMeetingNow : MethodName := ⟨RX2, "leastPairMeetingNow", "()I"⟩
abbrev cX2_workerTonight : ByteArray := prog_1_method_38_code
def yX2_workerTonight : MethodName := ⟨RX2, "workerTonight", "(LOperaMachines$Cue;)I"⟩
abbrev cX2_planWork : ByteArray := prog_1_method_39_code
def yX2_planWork : MethodName := ⟨RX2, "planWork", "(I)V"⟩
abbrev cX2_plannedClashes : ByteArray := prog_1_method_40_code
def yX2_plannedClashes : MethodName := ⟨RX2, "plannedClashes", "(II)I"⟩
abbrev cX2_plannedAllManned : ByteArray := prog_1_method_41_code
def yX2_plannedAllManned : MethodName := ⟨RX2, "plannedAllManned", "()Z"⟩
abbrev cX2_plannedWithoutClash : ByteArray := prog_1_method_42_code
def yX2_plannedWithoutClash : MethodName := ⟨RX2, "plannedWithoutClash", "(I)Z"⟩
abbrev cX2_isFineWith : ByteArray := prog_1_method_43_code
def yX2_isFineWith : MethodName := ⟨RX2, "isFineWith", "(I)Z"⟩
def RX3 : String := "OperaMachinesModel"
def TX3 : u_T := fun k => match k with
  | 0 => ("OperaMachinesModel", "machines", "I", false)
  | 1 => ("OperaMachinesModel", "isTable", "[Z", true)
  | 2 => ("OperaMachinesModel", "track", "[I", true)
  | 3 => ("OperaMachinesModel", "width", "[I", true)
  | 4 => ("OperaMachinesModel", "speed", "[I", true)
  | 5 => ("OperaMachinesModel", "first", "[I", true)
  | 6 => ("OperaMachinesModel", "cues", "I", false)
  | 7 => ("OperaMachinesModel", "cueBar", "[I", true)
  | 8 => ("OperaMachinesModel", "cueMachine", "[I", true)
  | 9 => ("OperaMachinesModel", "target", "[I", true)
  | 10 => ("OperaMachinesModel", "told", "[I", true)
  | 11 => ("OperaMachinesModel", "isOut", "[Z", true)
  | 12 => ("OperaMachinesModel", "bars", "I", false)
  | 13 => ("OperaMachinesModel", "ticks", "I", false)
  | 14 => ("OperaMachinesModel", "tempo", "I", false)
  | 15 => ("OperaMachinesModel", "rest", "I", false)
  | 16 => ("OperaMachinesModel", "limit", "I", false)
  | 17 => ("OperaMachinesModel", "strikes", "[Z", true)
  | 18 => ("OperaMachinesModel", "substitutes", "[I", true)
  | 19 => ("OperaMachinesModel", "at", "[I", true)
  | 20 => ("OperaMachinesModel", "aim", "[I", true)
  | 21 => ("OperaMachinesModel", "working", "[I", true)
  | 22 => ("OperaMachinesModel", "begins", "[I", true)
  | 23 => ("OperaMachinesModel", "ends", "[I", true)
  | 24 => ("OperaMachinesModel", "meets", "I", false)
  | 25 => ("OperaMachinesModel", "pair", "I", false)
  | _ => ("OperaMachinesModel", "thrown", "I", false)
def tyX3 : Nat → FieldType := fun k => match k with
  | 0 => .int
  | 1 => .array .boolean
  | 2 => .array .int
  | 3 => .array .int
  | 4 => .array .int
  | 5 => .array .int
  | 6 => .int
  | 7 => .array .int
  | 8 => .array .int
  | 9 => .array .int
  | 10 => .array .int
  | 11 => .array .boolean
  | 12 => .int
  | 13 => .int
  | 14 => .int
  | 15 => .int
  | 16 => .int
  | 17 => .array .boolean
  | 18 => .array .int
  | 19 => .array .int
  | 20 => .array .int
  | 21 => .array .int
  | 22 => .array .int
  | 23 => .array .int
  | 24 => .int
  | 25 => .int
  | _ => .int
theorem nmX3 : ∀ a, a < 27 → ∀ b, b < 27 → a ≠ b → (TX3 a).2.1 ≠ (TX3 b).2.1 := by decide +kernel
theorem tyX3_ok : ∀ k, k < 27 → parseFieldDescriptor (TX3 k).2.2.1 = some (tyX3 k) := by decide +kernel
abbrev cX3_init : ByteArray := prog_5_method_1_code
def yX3_init : MethodName := ⟨RX3, "<init>", "()V"⟩
abbrev cX3_thrown : ByteArray := prog_5_method_2_code
def yX3_thrown : MethodName := ⟨RX3, "thrown", "()I"⟩
abbrev cX3_can : ByteArray := prog_5_method_3_code
def yX3_can : MethodName := ⟨RX3, "can", "(I)Z"⟩
abbrev cX3_isIn : ByteArray := prog_5_method_4_code
def yX3_isIn : MethodName := ⟨RX3, "isIn", "(III)Z"⟩
abbrev cX3_isMachine : ByteArray := prog_5_method_5_code
def yX3_isMachine : MethodName := ⟨RX3, "isMachine", "(I)Z"⟩
abbrev cX3_isWorker : ByteArray := prog_5_method_6_code
def yX3_isWorker : MethodName := ⟨RX3, "isWorker", "(I)Z"⟩
abbrev cX3_wagon : ByteArray := prog_5_method_7_code
def yX3_wagon : MethodName := ⟨RX3, "wagon", "(IIII)I"⟩
abbrev cX3_turntable : ByteArray := prog_5_method_8_code
def yX3_turntable : MethodName := ⟨RX3, "turntable", "(II)I"⟩
abbrev cX3_setScore : ByteArray := prog_5_method_9_code
def yX3_setScore : MethodName := ⟨RX3, "setScore", "(II)V"⟩
abbrev cX3_cue : ByteArray := prog_5_method_10_code
def yX3_cue : MethodName := ⟨RX3, "cue", "(IIII)I"⟩
abbrev cX3_isCue : ByteArray := prog_5_method_11_code
def yX3_isCue : MethodName := ⟨RX3, "isCue", "(I)Z"⟩
abbrev cX3_strikeOut : ByteArray := prog_5_method_12_code
def yX3_strikeOut : MethodName := ⟨RX3, "strikeOut", "(I)I"⟩
abbrev cX3_setTempo : ByteArray := prog_5_method_13_code
def yX3_setTempo : MethodName := ⟨RX3, "setTempo", "(I)I"⟩
abbrev cX3_setRules : ByteArray := prog_5_method_14_code
def yX3_setRules : MethodName := ⟨RX3, "setRules", "(II)V"⟩
abbrev cX3_strike : ByteArray := prog_5_method_15_code
def yX3_strike : MethodName := ⟨RX3, "strike", "(IZ)Z"⟩
abbrev cX3_substitute : ByteArray := prog_5_method_16_code
def yX3_substitute : MethodName := ⟨RX3, "substitute", "(II)I"⟩
abbrev cX3_lengthBy : ByteArray := prog_5_method_17_code
def yX3_lengthBy : MethodName := ⟨RX3, "lengthBy", "(I)I"⟩
abbrev cX3_bar : ByteArray := prog_5_method_18_code
def yX3_bar : MethodName := ⟨RX3, "bar", "()I"⟩
abbrev cX3_end : ByteArray := prog_5_method_19_code
def yX3_end : MethodName := ⟨RX3, "end", "()I"⟩
abbrev cX3_effect : ByteArray := prog_5_method_20_code
def yX3_effect : MethodName := ⟨RX3, "effect", "(II)I"⟩
abbrev cX3_sets : ByteArray := prog_5_method_21_code
def yX3_sets : MethodName := ⟨RX3, "sets", "()V"⟩
abbrev cX3_moves : ByteArray := prog_5_method_22_code
def yX3_moves : MethodName := ⟨RX3, "moves", "(I)V"⟩
abbrev cX3_placeAt : ByteArray := prog_5_method_23_code
def yX3_placeAt : MethodName := ⟨RX3, "placeAt", "(II)I"⟩
abbrev cX3_place : ByteArray := prog_5_method_24_code
def yX3_place : MethodName := ⟨RX3, "place", "(II)I"⟩
abbrev cX3_placeAtBar : ByteArray := prog_5_method_25_code
def yX3_placeAtBar : MethodName := ⟨RX3, "placeAtBar", "(II)I"⟩
abbrev cX3_meetsAt : ByteArray := prog_5_method_26_code
def yX3_meetsAt : MethodName := ⟨RX3, "meetsAt", "(I)V"⟩
abbrev cX3_looks : ByteArray := prog_5_method_27_code
def yX3_looks : MethodName := ⟨RX3, "looks", "(II)V"⟩
abbrev cX3_plays : ByteArray := prog_5_method_28_code
def yX3_plays : MethodName := ⟨RX3, "plays", "(I)V"⟩
abbrev cX3_meeting : ByteArray := prog_5_method_29_code
def yX3_meeting : MethodName := ⟨RX3, "meeting", "()I"⟩
abbrev cX3_meeters : ByteArray := prog_5_method_30_code
def yX3_meeters : MethodName := ⟨RX3, "meeters", "()I"⟩
abbrev cX3_workerOf : ByteArray := prog_5_method_31_code
def yX3_workerOf : MethodName := ⟨RX3, "workerOf", "(I)I"⟩
abbrev cX3_worker : ByteArray := prog_5_method_32_code
def yX3_worker : MethodName := ⟨RX3, "worker", "(I)I"⟩
abbrev cX3_takes : ByteArray := prog_5_method_33_code
def yX3_takes : MethodName := ⟨RX3, "takes", "(I)I"⟩
abbrev cX3_isOf : ByteArray := prog_5_method_34_code
def yX3_isOf : MethodName := ⟨RX3, "isOf", "(II)Z"⟩
abbrev cX3_isAhead : ByteArray := prog_5_method_35_code
def yX3_isAhead : MethodName := ⟨RX3, "isAhead", "(II)Z"⟩
abbrev cX3_nextOf : ByteArray := prog_5_method_36_code
def yX3_nextOf : MethodName := ⟨RX3, "nextOf", "(II)I"⟩
abbrev cX3_clashesOf : ByteArray := prog_5_method_37_code
def yX3_clashesOf : MethodName := ⟨RX3, "clashesOf", "(I)I"⟩
abbrev cX3_clashes : ByteArray := prog_5_method_38_code
def yX3_clashes : MethodName := ⟨RX3, "clashes", "(I)I"⟩
abbrev cX3_overtime : ByteArray := prog_5_method_39_code
def yX3_overtime : MethodName := ⟨RX3, "overtime", "(I)I"⟩
abbrev cX3_isFineBy : ByteArray := prog_5_method_40_code
def yX3_isFineBy : MethodName := ⟨RX3, "isFineBy", "(I)Z"⟩
abbrev cX3_isFine : ByteArray := prog_5_method_41_code
def yX3_isFine : MethodName := ⟨RX3, "isFine", "()Z"⟩
abbrev cX3_fastest : ByteArray := prog_5_method_42_code
def yX3_fastest : MethodName := ⟨RX3, "fastest", "()I"⟩
def RJx145de : String := "java/io/Serializable"
def TJx145de : u_T := fun k => match k with
  | _ => ("", "", "", false)
def tyJx145de : Nat → FieldType := fun k => match k with
  | _ => .int
theorem nmJx145de : ∀ a, a < 0 → ∀ b, b < 0 → a ≠ b → (TJx145de a).2.1 ≠ (TJx145de b).2.1 := by decide +kernel
theorem tyJx145de_ok : ∀ k, k < 0 → parseFieldDescriptor (TJx145de k).2.2.1 = some (tyJx145de k) := by decide +kernel
def RJ5 : String := "java/lang/AbstractStringBuilder"
def TJ5 : u_T := fun k => match k with
  | _ => ("", "", "", false)
def tyJ5 : Nat → FieldType := fun k => match k with
  | _ => .int
theorem nmJ5 : ∀ a, a < 0 → ∀ b, b < 0 → a ≠ b → (TJ5 a).2.1 ≠ (TJ5 b).2.1 := by decide +kernel
theorem tyJ5_ok : ∀ k, k < 0 → parseFieldDescriptor (TJ5 k).2.2.1 = some (tyJ5 k) := by decide +kernel
abbrev cJ5_init_d00df : ByteArray := prog_7_method_2_code
def yJ5_init_d00df : MethodName := ⟨RJ5, "<init>", "(I)V"⟩
abbrev cJ5_length_8abf5 : ByteArray := prog_7_method_6_code
def yJ5_length_8abf5 : MethodName := ⟨RJ5, "length", "()I"⟩
abbrev cJ5_ensureCapacityInternal_d00df : ByteArray := prog_7_method_9_code
def yJ5_ensureCapacityInternal_d00df : MethodName := ⟨RJ5, "ensureCapacityInternal", "(I)V"⟩
abbrev cJ5_newCapacity_0f7a4 : ByteArray := prog_7_method_10_code
def yJ5_newCapacity_0f7a4 : MethodName := ⟨RJ5, "newCapacity", "(I)I"⟩
abbrev cJ5_inflate_da8c8 : ByteArray := prog_7_method_11_code
def yJ5_inflate_da8c8 : MethodName := ⟨RJ5, "inflate", "()V"⟩
abbrev cJ5_append_cf1ce : ByteArray := prog_7_method_22_code
def yJ5_append_cf1ce : MethodName := ⟨RJ5, "append", "(Ljava/lang/String;)Ljava/lang/AbstractStringBuilder;"⟩
abbrev cJ5_appendNull_278bc : ByteArray := prog_7_method_26_code
def yJ5_appendNull_278bc : MethodName := ⟨RJ5, "appendNull", "()Ljava/lang/AbstractStringBuilder;"⟩
abbrev cJ5_append_c97b9 : ByteArray := prog_7_method_32_code
def yJ5_append_c97b9 : MethodName := ⟨RJ5, "append", "(I)Ljava/lang/AbstractStringBuilder;"⟩
abbrev cJ5_getValue_6d5f1 : ByteArray := prog_7_method_64_code
def yJ5_getValue_6d5f1 : MethodName := ⟨RJ5, "getValue", "()[B"⟩
abbrev cJ5_isLatin1_aae02 : ByteArray := prog_7_method_68_code
def yJ5_isLatin1_aae02 : MethodName := ⟨RJ5, "isLatin1", "()Z"⟩
abbrev cJ5_inflateIfNeededFor_a7421 : ByteArray := prog_7_method_71_code
def yJ5_inflateIfNeededFor_a7421 : MethodName := ⟨RJ5, "inflateIfNeededFor", "(Ljava/lang/String;)V"⟩
abbrev cJ5_putStringAt_47b60 : ByteArray := prog_7_method_73_code
def yJ5_putStringAt_47b60 : MethodName := ⟨RJ5, "putStringAt", "(ILjava/lang/String;)V"⟩
def RJx2cfe8 : String := "java/lang/Appendable"
def TJx2cfe8 : u_T := fun k => match k with
  | _ => ("", "", "", false)
def tyJx2cfe8 : Nat → FieldType := fun k => match k with
  | _ => .int
theorem nmJx2cfe8 : ∀ a, a < 0 → ∀ b, b < 0 → a ≠ b → (TJx2cfe8 a).2.1 ≠ (TJx2cfe8 b).2.1 := by decide +kernel
theorem tyJx2cfe8_ok : ∀ k, k < 0 → parseFieldDescriptor (TJx2cfe8 k).2.2.1 = some (tyJx2cfe8 k) := by decide +kernel
def RJx9f9b0 : String := "java/lang/CharSequence"
def TJx9f9b0 : u_T := fun k => match k with
  | _ => ("", "", "", false)
def tyJx9f9b0 : Nat → FieldType := fun k => match k with
  | _ => .int
theorem nmJx9f9b0 : ∀ a, a < 0 → ∀ b, b < 0 → a ≠ b → (TJx9f9b0 a).2.1 ≠ (TJx9f9b0 b).2.1 := by decide +kernel
theorem tyJx9f9b0_ok : ∀ k, k < 0 → parseFieldDescriptor (TJx9f9b0 k).2.2.1 = some (tyJx9f9b0 k) := by decide +kernel
def RJx8e188 : String := "java/lang/Cloneable"
def TJx8e188 : u_T := fun k => match k with
  | _ => ("", "", "", false)
def tyJx8e188 : Nat → FieldType := fun k => match k with
  | _ => .int
theorem nmJx8e188 : ∀ a, a < 0 → ∀ b, b < 0 → a ≠ b → (TJx8e188 a).2.1 ≠ (TJx8e188 b).2.1 := by decide +kernel
theorem tyJx8e188_ok : ∀ k, k < 0 → parseFieldDescriptor (TJx8e188 k).2.2.1 = some (tyJx8e188 k) := by decide +kernel
def RJxb160c : String := "java/lang/Comparable"
def TJxb160c : u_T := fun k => match k with
  | _ => ("", "", "", false)
def tyJxb160c : Nat → FieldType := fun k => match k with
  | _ => .int
theorem nmJxb160c : ∀ a, a < 0 → ∀ b, b < 0 → a ≠ b → (TJxb160c a).2.1 ≠ (TJxb160c b).2.1 := by decide +kernel
theorem tyJxb160c_ok : ∀ k, k < 0 → parseFieldDescriptor (TJxb160c k).2.2.1 = some (tyJxb160c k) := by decide +kernel
def RJ6 : String := "java/lang/Integer"
def TJ6 : u_T := fun k => match k with
  | _ => ("", "", "", false)
def tyJ6 : Nat → FieldType := fun k => match k with
  | _ => .int
theorem nmJ6 : ∀ a, a < 0 → ∀ b, b < 0 → a ≠ b → (TJ6 a).2.1 ≠ (TJ6 b).2.1 := by decide +kernel
theorem tyJ6_ok : ∀ k, k < 0 → parseFieldDescriptor (TJ6 k).2.2.1 = some (tyJ6 k) := by decide +kernel
abbrev cJ6_getChars_ba4f3 : ByteArray := prog_16_method_12_code
def yJ6_getChars_ba4f3 : MethodName := ⟨RJ6, "getChars", "(II[B)I"⟩
abbrev cJ6_stringSize_0f7a4 : ByteArray := prog_16_method_13_code
def yJ6_stringSize_0f7a4 : MethodName := ⟨RJ6, "stringSize", "(I)I"⟩
def RJxab1ab : String := "java/lang/Iterable"
def TJxab1ab : u_T := fun k => match k with
  | _ => ("", "", "", false)
def tyJxab1ab : Nat → FieldType := fun k => match k with
  | _ => .int
theorem nmJxab1ab : ∀ a, a < 0 → ∀ b, b < 0 → a ≠ b → (TJxab1ab a).2.1 ≠ (TJxab1ab b).2.1 := by decide +kernel
theorem tyJxab1ab_ok : ∀ k, k < 0 → parseFieldDescriptor (TJxab1ab k).2.2.1 = some (tyJxab1ab k) := by decide +kernel
def RJ9 : String := "java/lang/Math"
def TJ9 : u_T := fun k => match k with
  | _ => ("", "", "", false)
def tyJ9 : Nat → FieldType := fun k => match k with
  | _ => .int
theorem nmJ9 : ∀ a, a < 0 → ∀ b, b < 0 → a ≠ b → (TJ9 a).2.1 ≠ (TJ9 b).2.1 := by decide +kernel
theorem tyJ9_ok : ∀ k, k < 0 → parseFieldDescriptor (TJ9 k).2.2.1 = some (tyJ9 k) := by decide +kernel
abbrev cJ9_floorMod_7cf53 : ByteArray := prog_18_method_50_code
def yJ9_floorMod_7cf53 : MethodName := ⟨RJ9, "floorMod", "(II)I"⟩
abbrev cJ9_abs_0f7a4 : ByteArray := prog_18_method_59_code
def yJ9_abs_0f7a4 : MethodName := ⟨RJ9, "abs", "(I)I"⟩
abbrev cJ9_max_7cf53 : ByteArray := prog_18_method_65_code
def yJ9_max_7cf53 : MethodName := ⟨RJ9, "max", "(II)I"⟩
abbrev cJ9_min_7cf53 : ByteArray := prog_18_method_69_code
def yJ9_min_7cf53 : MethodName := ⟨RJ9, "min", "(II)I"⟩
def RJxd2413 : String := "java/lang/Number"
def TJxd2413 : u_T := fun k => match k with
  | _ => ("", "", "", false)
def tyJxd2413 : Nat → FieldType := fun k => match k with
  | _ => .int
theorem nmJxd2413 : ∀ a, a < 0 → ∀ b, b < 0 → a ≠ b → (TJxd2413 a).2.1 ≠ (TJxd2413 b).2.1 := by decide +kernel
theorem tyJxd2413_ok : ∀ k, k < 0 → parseFieldDescriptor (TJxd2413 k).2.2.1 = some (tyJxd2413 k) := by decide +kernel
def RJ0 : String := "java/lang/String"
def TJ0 : u_T := fun k => match k with
  | 0 => ("java/lang/String", "value", "[B", true)
  | 1 => ("java/lang/String", "coder", "B", true)
  | 2 => ("java/lang/String", "hash", "I", false)
  | _ => ("java/lang/String", "hashIsZero", "Z", false)
def tyJ0 : Nat → FieldType := fun k => match k with
  | 0 => .array .byte
  | 1 => .byte
  | 2 => .int
  | _ => .boolean
theorem nmJ0 : ∀ a, a < 4 → ∀ b, b < 4 → a ≠ b → (TJ0 a).2.1 ≠ (TJ0 b).2.1 := by decide +kernel
theorem tyJ0_ok : ∀ k, k < 4 → parseFieldDescriptor (TJ0 k).2.2.1 = some (tyJ0 k) := by decide +kernel
abbrev cJ0_init_81219 : ByteArray := prog_21_method_53_code
def yJ0_init_81219 : MethodName := ⟨RJ0, "<init>", "(Ljava/lang/StringBuilder;)V"⟩
abbrev cJ0_length_8abf5 : ByteArray := prog_21_method_54_code
def yJ0_length_8abf5 : MethodName := ⟨RJ0, "length", "()I"⟩
abbrev cJ0_getBytes_840e7 : ByteArray := prog_21_method_147_code
def yJ0_getBytes_840e7 : MethodName := ⟨RJ0, "getBytes", "([BIB)V"⟩
abbrev cJ0_init_db425 : ByteArray := prog_21_method_150_code
def yJ0_init_db425 : MethodName := ⟨RJ0, "<init>", "(Ljava/lang/AbstractStringBuilder;Ljava/lang/Void;)V"⟩
abbrev cJ0_coder_7d493 : ByteArray := prog_21_method_152_code
def yJ0_coder_7d493 : MethodName := ⟨RJ0, "coder", "()B"⟩
abbrev cJ0_checkBoundsOffCount_cabcc : ByteArray := prog_21_method_157_code
def yJ0_checkBoundsOffCount_cabcc : MethodName := ⟨RJ0, "checkBoundsOffCount", "(III)I"⟩
abbrev cJ0_checkBoundsBeginEnd_23922 : ByteArray := prog_21_method_158_code
def yJ0_checkBoundsBeginEnd_23922 : MethodName := ⟨RJ0, "checkBoundsBeginEnd", "(III)V"⟩
def RJ4 : String := "java/lang/StringBuilder"
def TJ4 : u_T := fun k => match k with
  | 0 => ("java/lang/AbstractStringBuilder", "value", "[B", false)
  | 1 => ("java/lang/AbstractStringBuilder", "coder", "B", false)
  | 2 => ("java/lang/AbstractStringBuilder", "maybeLatin1", "Z", false)
  | _ => ("java/lang/AbstractStringBuilder", "count", "I", false)
def tyJ4 : Nat → FieldType := fun k => match k with
  | 0 => .array .byte
  | 1 => .byte
  | 2 => .boolean
  | _ => .int
theorem nmJ4 : ∀ a, a < 4 → ∀ b, b < 4 → a ≠ b → (TJ4 a).2.1 ≠ (TJ4 b).2.1 := by decide +kernel
theorem tyJ4_ok : ∀ k, k < 4 → parseFieldDescriptor (TJ4 k).2.2.1 = some (tyJ4 k) := by decide +kernel
abbrev cJ4_init_da8c8 : ByteArray := prog_22_method_1_code
def yJ4_init_da8c8 : MethodName := ⟨RJ4, "<init>", "()V"⟩
abbrev cJ4_append_15ec4 : ByteArray := prog_22_method_7_code
def yJ4_append_15ec4 : MethodName := ⟨RJ4, "append", "(Ljava/lang/String;)Ljava/lang/StringBuilder;"⟩
abbrev cJ4_append_bf812 : ByteArray := prog_22_method_15_code
def yJ4_append_bf812 : MethodName := ⟨RJ4, "append", "(I)Ljava/lang/StringBuilder;"⟩
abbrev cJ4_toString_0e30d : ByteArray := prog_22_method_42_code
def yJ4_toString_0e30d : MethodName := ⟨RJ4, "toString", "()Ljava/lang/String;"⟩
abbrev cJ4_length_8abf5 : ByteArray := prog_22_method_93_code
def yJ4_length_8abf5 : MethodName := ⟨RJ4, "length", "()I"⟩
def RJ1 : String := "java/lang/StringLatin1"
def TJ1 : u_T := fun k => match k with
  | _ => ("", "", "", false)
def tyJ1 : Nat → FieldType := fun k => match k with
  | _ => .int
theorem nmJ1 : ∀ a, a < 0 → ∀ b, b < 0 → a ≠ b → (TJ1 a).2.1 ≠ (TJ1 b).2.1 := by decide +kernel
theorem tyJ1_ok : ∀ k, k < 0 → parseFieldDescriptor (TJ1 k).2.2.1 = some (tyJ1 k) := by decide +kernel
abbrev cJ1_inflate_0e8fd : ByteArray := prog_23_method_50_code
def yJ1_inflate_0e8fd : MethodName := ⟨RJ1, "inflate", "([BI[BII)V"⟩
def RJ2 : String := "java/lang/StringUTF16"
def TJ2 : u_T := fun k => match k with
  | _ => ("", "", "", false)
def tyJ2 : Nat → FieldType := fun k => match k with
  | _ => .int
theorem nmJ2 : ∀ a, a < 0 → ∀ b, b < 0 → a ≠ b → (TJ2 a).2.1 ≠ (TJ2 b).2.1 := by decide +kernel
theorem tyJ2_ok : ∀ k, k < 0 → parseFieldDescriptor (TJ2 k).2.2.1 = some (tyJ2 k) := by decide +kernel
abbrev cJ2_newBytesFor_77867 : ByteArray := prog_24_method_2_code
def yJ2_newBytesFor_77867 : MethodName := ⟨RJ2, "newBytesFor", "(I)[B"⟩
abbrev cJ2_newBytesLength_0f7a4 : ByteArray := prog_24_method_3_code
def yJ2_newBytesLength_0f7a4 : MethodName := ⟨RJ2, "newBytesLength", "(I)I"⟩
abbrev cJ2_putChar_b72d1 : ByteArray := prog_24_method_4_code
def yJ2_putChar_b72d1 : MethodName := ⟨RJ2, "putChar", "([BII)V"⟩
abbrev cJ2_getChar_3b067 : ByteArray := prog_24_method_5_code
def yJ2_getChar_3b067 : MethodName := ⟨RJ2, "getChar", "([BI)C"⟩
abbrev cJ2_length_9d52b : ByteArray := prog_24_method_6_code
def yJ2_length_9d52b : MethodName := ⟨RJ2, "length", "([B)I"⟩
abbrev cJ2_coderFromArrayLen_85cad : ByteArray := prog_24_method_15_code
def yJ2_coderFromArrayLen_85cad : MethodName := ⟨RJ2, "coderFromArrayLen", "([BI)B"⟩
abbrev cJ2_compress_39247 : ByteArray := prog_24_method_17_code
def yJ2_compress_39247 : MethodName := ⟨RJ2, "compress", "([BII)[B"⟩
abbrev cJ2_compress_5af95 : ByteArray := prog_24_method_22_code
def yJ2_compress_5af95 : MethodName := ⟨RJ2, "compress", "([BI[BII)I"⟩
abbrev cJ2_getChars_46870 : ByteArray := prog_24_method_77_code
def yJ2_getChars_46870 : MethodName := ⟨RJ2, "getChars", "(III[B)I"⟩
abbrev cJ2_putCharsAt_cd4e5 : ByteArray := prog_24_method_81_code
def yJ2_putCharsAt_cd4e5 : MethodName := ⟨RJ2, "putCharsAt", "([BICCCC)I"⟩
abbrev cJ2_inflate_0e8fd : ByteArray := prog_24_method_86_code
def yJ2_inflate_0e8fd : MethodName := ⟨RJ2, "inflate", "([BI[BII)V"⟩
abbrev cJ2_getChars_ba4f3 : ByteArray := prog_24_method_89_code
def yJ2_getChars_ba4f3 : MethodName := ⟨RJ2, "getChars", "(II[B)I"⟩
abbrev cJ2_checkBoundsBeginEnd_d044e : ByteArray := prog_24_method_93_code
def yJ2_checkBoundsBeginEnd_d044e : MethodName := ⟨RJ2, "checkBoundsBeginEnd", "(II[B)V"⟩
abbrev cJ2_checkBoundsOffCount_d044e : ByteArray := prog_24_method_94_code
def yJ2_checkBoundsOffCount_d044e : MethodName := ⟨RJ2, "checkBoundsOffCount", "(II[B)V"⟩
def RJ10 : String := "java/lang/System"
def TJ10 : u_T := fun k => match k with
  | _ => ("", "", "", false)
def tyJ10 : Nat → FieldType := fun k => match k with
  | _ => .int
theorem nmJ10 : ∀ a, a < 0 → ∀ b, b < 0 → a ≠ b → (TJ10 a).2.1 ≠ (TJ10 b).2.1 := by decide +kernel
theorem tyJ10_ok : ∀ k, k < 0 → parseFieldDescriptor (TJ10 k).2.2.1 = some (tyJ10 k) := by decide +kernel
def RJxfd54e : String := "java/lang/constant/Constable"
def TJxfd54e : u_T := fun k => match k with
  | _ => ("", "", "", false)
def tyJxfd54e : Nat → FieldType := fun k => match k with
  | _ => .int
theorem nmJxfd54e : ∀ a, a < 0 → ∀ b, b < 0 → a ≠ b → (TJxfd54e a).2.1 ≠ (TJxfd54e b).2.1 := by decide +kernel
theorem tyJxfd54e_ok : ∀ k, k < 0 → parseFieldDescriptor (TJxfd54e k).2.2.1 = some (tyJxfd54e k) := by decide +kernel
def RJx3cf43 : String := "java/lang/constant/ConstantDesc"
def TJx3cf43 : u_T := fun k => match k with
  | _ => ("", "", "", false)
def tyJx3cf43 : Nat → FieldType := fun k => match k with
  | _ => .int
theorem nmJx3cf43 : ∀ a, a < 0 → ∀ b, b < 0 → a ≠ b → (TJx3cf43 a).2.1 ≠ (TJx3cf43 b).2.1 := by decide +kernel
theorem tyJx3cf43_ok : ∀ k, k < 0 → parseFieldDescriptor (TJx3cf43 k).2.2.1 = some (tyJx3cf43 k) := by decide +kernel
def RJxa1e45 : String := "java/util/AbstractCollection"
def TJxa1e45 : u_T := fun k => match k with
  | _ => ("", "", "", false)
def tyJxa1e45 : Nat → FieldType := fun k => match k with
  | _ => .int
theorem nmJxa1e45 : ∀ a, a < 0 → ∀ b, b < 0 → a ≠ b → (TJxa1e45 a).2.1 ≠ (TJxa1e45 b).2.1 := by decide +kernel
theorem tyJxa1e45_ok : ∀ k, k < 0 → parseFieldDescriptor (TJxa1e45 k).2.2.1 = some (tyJxa1e45 k) := by decide +kernel
abbrev cJxa1e45_init_da8c8 : ByteArray := prog_29_method_1_code
def yJxa1e45_init_da8c8 : MethodName := ⟨RJxa1e45, "<init>", "()V"⟩
def RJxc12de : String := "java/util/AbstractList"
def TJxc12de : u_T := fun k => match k with
  | _ => ("", "", "", false)
def tyJxc12de : Nat → FieldType := fun k => match k with
  | _ => .int
theorem nmJxc12de : ∀ a, a < 0 → ∀ b, b < 0 → a ≠ b → (TJxc12de a).2.1 ≠ (TJxc12de b).2.1 := by decide +kernel
theorem tyJxc12de_ok : ∀ k, k < 0 → parseFieldDescriptor (TJxc12de k).2.2.1 = some (tyJxc12de k) := by decide +kernel
abbrev cJxc12de_init_da8c8 : ByteArray := prog_30_method_1_code
def yJxc12de_init_da8c8 : MethodName := ⟨RJxc12de, "<init>", "()V"⟩
def RJx4a65c : String := "java/util/ArrayList"
def TJx4a65c : u_T := fun k => match k with
  | 0 => ("java/util/AbstractList", "modCount", "I", false)
  | 1 => ("java/util/ArrayList", "elementData", "[Ljava/lang/Object;", false)
  | _ => ("java/util/ArrayList", "size", "I", false)
def tyJx4a65c : Nat → FieldType := fun k => match k with
  | 0 => .int
  | 1 => .array (.object "java/lang/Object")
  | _ => .int
theorem nmJx4a65c : ∀ a, a < 3 → ∀ b, b < 3 → a ≠ b → (TJx4a65c a).2.1 ≠ (TJx4a65c b).2.1 := by decide +kernel
theorem tyJx4a65c_ok : ∀ k, k < 3 → parseFieldDescriptor (TJx4a65c k).2.2.1 = some (tyJx4a65c k) := by decide +kernel
abbrev cJx4a65c_init_da8c8 : ByteArray := prog_31_method_2_code
def yJx4a65c_init_da8c8 : MethodName := ⟨RJx4a65c, "<init>", "()V"⟩
abbrev cJx4a65c_grow_92f84 : ByteArray := prog_31_method_6_code
def yJx4a65c_grow_92f84 : MethodName := ⟨RJx4a65c, "grow", "(I)[Ljava/lang/Object;"⟩
abbrev cJx4a65c_grow_d5877 : ByteArray := prog_31_method_7_code
def yJx4a65c_grow_d5877 : MethodName := ⟨RJx4a65c, "grow", "()[Ljava/lang/Object;"⟩
abbrev cJx4a65c_size_8abf5 : ByteArray := prog_31_method_8_code
def yJx4a65c_size_8abf5 : MethodName := ⟨RJx4a65c, "size", "()I"⟩
abbrev cJx4a65c_elementData_915e3 : ByteArray := prog_31_method_18_code
def yJx4a65c_elementData_915e3 : MethodName := ⟨RJx4a65c, "elementData", "(I)Ljava/lang/Object;"⟩
abbrev cJx4a65c_get_915e3 : ByteArray := prog_31_method_20_code
def yJx4a65c_get_915e3 : MethodName := ⟨RJx4a65c, "get", "(I)Ljava/lang/Object;"⟩
abbrev cJx4a65c_add_72be8 : ByteArray := prog_31_method_24_code
def yJx4a65c_add_72be8 : MethodName := ⟨RJx4a65c, "add", "(Ljava/lang/Object;[Ljava/lang/Object;I)V"⟩
abbrev cJx4a65c_add_9ea2d : ByteArray := prog_31_method_25_code
def yJx4a65c_add_9ea2d : MethodName := ⟨RJx4a65c, "add", "(Ljava/lang/Object;)Z"⟩
abbrev cJx4a65c_add_7a177 : ByteArray := prog_31_method_26_code
def yJx4a65c_add_7a177 : MethodName := ⟨RJx4a65c, "add", "(ILjava/lang/Object;)V"⟩
abbrev cJx4a65c_rangeCheckForAdd_d00df : ByteArray := prog_31_method_45_code
def yJx4a65c_rangeCheckForAdd_d00df : MethodName := ⟨RJx4a65c, "rangeCheckForAdd", "(I)V"⟩
abbrev cJx4a65c_outOfBoundsMsg_b52d3 : ByteArray := prog_31_method_46_code
def yJx4a65c_outOfBoundsMsg_b52d3 : MethodName := ⟨RJx4a65c, "outOfBoundsMsg", "(I)Ljava/lang/String;"⟩
def RJ7 : String := "java/util/Arrays"
def TJ7 : u_T := fun k => match k with
  | _ => ("", "", "", false)
def tyJ7 : Nat → FieldType := fun k => match k with
  | _ => .int
theorem nmJ7 : ∀ a, a < 0 → ∀ b, b < 0 → a ≠ b → (TJ7 a).2.1 ≠ (TJ7 b).2.1 := by decide +kernel
theorem tyJ7_ok : ∀ k, k < 0 → parseFieldDescriptor (TJ7 k).2.2.1 = some (tyJ7 k) := by decide +kernel
abbrev cJ7_copyOf_1904c : ByteArray := prog_32_method_119_code
def yJ7_copyOf_1904c : MethodName := ⟨RJ7, "copyOf", "([Ljava/lang/Object;I)[Ljava/lang/Object;"⟩
abbrev cJ7_copyOf_6403c : ByteArray := prog_32_method_120_code
def yJ7_copyOf_6403c : MethodName := ⟨RJ7, "copyOf", "([Ljava/lang/Object;ILjava/lang/Class;)[Ljava/lang/Object;"⟩
abbrev cJ7_copyOf_9075b : ByteArray := prog_32_method_121_code
def yJ7_copyOf_9075b : MethodName := ⟨RJ7, "copyOf", "([BI)[B"⟩
abbrev cJ7_checkLength_df160 : ByteArray := prog_32_method_131_code
def yJ7_checkLength_df160 : MethodName := ⟨RJ7, "checkLength", "(II)V"⟩
abbrev cJ7_copyOfRange_39247 : ByteArray := prog_32_method_132_code
def yJ7_copyOfRange_39247 : MethodName := ⟨RJ7, "copyOfRange", "([BII)[B"⟩
abbrev cJ7_copyOfRangeByte_39247 : ByteArray := prog_32_method_133_code
def yJ7_copyOfRangeByte_39247 : MethodName := ⟨RJ7, "copyOfRangeByte", "([BII)[B"⟩
def RJx5ef63 : String := "java/util/Collection"
def TJx5ef63 : u_T := fun k => match k with
  | _ => ("", "", "", false)
def tyJx5ef63 : Nat → FieldType := fun k => match k with
  | _ => .int
theorem nmJx5ef63 : ∀ a, a < 0 → ∀ b, b < 0 → a ≠ b → (TJx5ef63 a).2.1 ≠ (TJx5ef63 b).2.1 := by decide +kernel
theorem tyJx5ef63_ok : ∀ k, k < 0 → parseFieldDescriptor (TJx5ef63 k).2.2.1 = some (tyJx5ef63 k) := by decide +kernel
def RJxbd725 : String := "java/util/List"
def TJxbd725 : u_T := fun k => match k with
  | _ => ("", "", "", false)
def tyJxbd725 : Nat → FieldType := fun k => match k with
  | _ => .int
theorem nmJxbd725 : ∀ a, a < 0 → ∀ b, b < 0 → a ≠ b → (TJxbd725 a).2.1 ≠ (TJxbd725 b).2.1 := by decide +kernel
theorem tyJxbd725_ok : ∀ k, k < 0 → parseFieldDescriptor (TJxbd725 k).2.2.1 = some (tyJxbd725 k) := by decide +kernel
def RJ15 : String := "java/util/Objects"
def TJ15 : u_T := fun k => match k with
  | _ => ("", "", "", false)
def tyJ15 : Nat → FieldType := fun k => match k with
  | _ => .int
theorem nmJ15 : ∀ a, a < 0 → ∀ b, b < 0 → a ≠ b → (TJ15 a).2.1 ≠ (TJ15 b).2.1 := by decide +kernel
theorem tyJ15_ok : ∀ k, k < 0 → parseFieldDescriptor (TJ15 k).2.2.1 = some (tyJ15 k) := by decide +kernel
abbrev cJ15_checkIndex_7cf53 : ByteArray := prog_35_method_17_code
def yJ15_checkIndex_7cf53 : MethodName := ⟨RJ15, "checkIndex", "(II)I"⟩
def RJxf0a74 : String := "java/util/RandomAccess"
def TJxf0a74 : u_T := fun k => match k with
  | _ => ("", "", "", false)
def tyJxf0a74 : Nat → FieldType := fun k => match k with
  | _ => .int
theorem nmJxf0a74 : ∀ a, a < 0 → ∀ b, b < 0 → a ≠ b → (TJxf0a74 a).2.1 ≠ (TJxf0a74 b).2.1 := by decide +kernel
theorem tyJxf0a74_ok : ∀ k, k < 0 → parseFieldDescriptor (TJxf0a74 k).2.2.1 = some (tyJxf0a74 k) := by decide +kernel
def RJxa66e6 : String := "java/util/SequencedCollection"
def TJxa66e6 : u_T := fun k => match k with
  | _ => ("", "", "", false)
def tyJxa66e6 : Nat → FieldType := fun k => match k with
  | _ => .int
theorem nmJxa66e6 : ∀ a, a < 0 → ∀ b, b < 0 → a ≠ b → (TJxa66e6 a).2.1 ≠ (TJxa66e6 b).2.1 := by decide +kernel
theorem tyJxa66e6_ok : ∀ k, k < 0 → parseFieldDescriptor (TJxa66e6 k).2.2.1 = some (tyJxa66e6 k) := by decide +kernel
def RJ8 : String := "jdk/internal/util/ArraysSupport"
def TJ8 : u_T := fun k => match k with
  | _ => ("", "", "", false)
def tyJ8 : Nat → FieldType := fun k => match k with
  | _ => .int
theorem nmJ8 : ∀ a, a < 0 → ∀ b, b < 0 → a ≠ b → (TJ8 a).2.1 ≠ (TJ8 b).2.1 := by decide +kernel
theorem tyJ8_ok : ∀ k, k < 0 → parseFieldDescriptor (TJ8 k).2.2.1 = some (tyJ8 k) := by decide +kernel
abbrev cJ8_newLength_cabcc : ByteArray := prog_38_method_27_code
def yJ8_newLength_cabcc : MethodName := ⟨RJ8, "newLength", "(III)I"⟩
abbrev cJ8_hugeLength_7cf53 : ByteArray := prog_38_method_28_code
def yJ8_hugeLength_7cf53 : MethodName := ⟨RJ8, "hugeLength", "(II)I"⟩
def RJ3 : String := "jdk/internal/util/Preconditions"
def TJ3 : u_T := fun k => match k with
  | _ => ("", "", "", false)
def tyJ3 : Nat → FieldType := fun k => match k with
  | _ => .int
theorem nmJ3 : ∀ a, a < 0 → ∀ b, b < 0 → a ≠ b → (TJ3 a).2.1 ≠ (TJ3 b).2.1 := by decide +kernel
theorem tyJ3_ok : ∀ k, k < 0 → parseFieldDescriptor (TJ3 k).2.2.1 = some (tyJ3 k) := by decide +kernel
abbrev cJ3_checkIndex_8e157 : ByteArray := prog_39_method_11_code
def yJ3_checkIndex_8e157 : MethodName := ⟨RJ3, "checkIndex", "(IILjava/util/function/BiFunction;)I"⟩
abbrev cJ3_checkFromToIndex_8c36e : ByteArray := prog_39_method_12_code
def yJ3_checkFromToIndex_8c36e : MethodName := ⟨RJ3, "checkFromToIndex", "(IIILjava/util/function/BiFunction;)I"⟩
abbrev cJ3_checkFromIndexSize_8c36e : ByteArray := prog_39_method_13_code
def yJ3_checkFromIndexSize_8c36e : MethodName := ⟨RJ3, "checkFromIndexSize", "(IIILjava/util/function/BiFunction;)I"⟩
def RL : String := "OperaMachinesLaw"
abbrev cL_wagon : ByteArray := method_3_code
def yL_wagon : MethodName := ⟨RL, "wagon", "(LOperaMachines;IIII[J)I"⟩
abbrev cL_turntable : ByteArray := method_4_code
def yL_turntable : MethodName := ⟨RL, "turntable", "(LOperaMachines;II[J)I"⟩
abbrev cL_setScore : ByteArray := method_5_code
def yL_setScore : MethodName := ⟨RL, "setScore", "(LOperaMachines;II)I"⟩
abbrev cL_cue : ByteArray := method_6_code
def yL_cue : MethodName := ⟨RL, "cue", "(LOperaMachines;IIII[J)I"⟩
abbrev cL_strikeOut : ByteArray := method_7_code
def yL_strikeOut : MethodName := ⟨RL, "strikeOut", "(LOperaMachines;I[J)I"⟩
abbrev cL_setTempo : ByteArray := method_8_code
def yL_setTempo : MethodName := ⟨RL, "setTempo", "(LOperaMachines;I[J)I"⟩
abbrev cL_setRules : ByteArray := method_9_code
def yL_setRules : MethodName := ⟨RL, "setRules", "(LOperaMachines;II)I"⟩
abbrev cL_strike : ByteArray := method_10_code
def yL_strike : MethodName := ⟨RL, "strike", "(LOperaMachines;IZ[J)I"⟩
abbrev cL_substitute : ByteArray := method_11_code
def yL_substitute : MethodName := ⟨RL, "substitute", "(LOperaMachines;II[J)I"⟩
abbrev cL_place : ByteArray := method_12_code
def yL_place : MethodName := ⟨RL, "place", "(LOperaMachines;II[J)I"⟩
abbrev cL_placeAtBar : ByteArray := method_13_code
def yL_placeAtBar : MethodName := ⟨RL, "placeAtBar", "(LOperaMachines;II[J)I"⟩
abbrev cL_worker : ByteArray := method_14_code
def yL_worker : MethodName := ⟨RL, "worker", "(LOperaMachines;I[J)I"⟩
abbrev cL_takes : ByteArray := method_15_code
def yL_takes : MethodName := ⟨RL, "takes", "(LOperaMachines;I[J)I"⟩
abbrev cL_clashes : ByteArray := method_16_code
def yL_clashes : MethodName := ⟨RL, "clashes", "(LOperaMachines;I[J)I"⟩
abbrev cL_overtime : ByteArray := method_17_code
def yL_overtime : MethodName := ⟨RL, "overtime", "(LOperaMachines;I[J)I"⟩
abbrev cL_law : ByteArray := code
def yL_law : MethodName := ⟨RL, "law", "([I)Z"⟩
abbrev vwCl : List vw_C := [(RJ0, TJ0, 4), (RJ4, TJ4, 4), (RJx4a65c, TJx4a65c, 3), (RX0, TX0, 6), (RX1, TX1, 7), (RX2, TX2, 10), (RX3, TX3, 27)]
/-- a word that stays true while the tables warm, whatever heap and arguments -/
def tw (w : Cond) : Bool := goodWord w || (w.onTables && w.keepsFace)
theorem tw_at {args a' : Array Value} {s U : State} (hW : s.WarmedH U.vm) {w : Cond} (hg : tw w = true) (h : w.before args s = true) : w.before a' U = true := by
  simp only [tw, Bool.or_eq_true, Bool.and_eq_true] at hg
  rcases hg with hg | ⟨h1, h2⟩
  · exact word_at hW (good_of_word hg) h
  · have h3 : w.before args (s.setVm U.vm) = true := Cond.before_shiftedFace (State.Shifted.of_warmed hW) _ h2 h
    rw [Cond.onTables_vm (A' := a') (U' := U) U.vm w h1] at h3
    exact h3
def GT : List Cond := lw_tbl.filter tw
theorem gt_m {w : Cond} (h : w ∈ tables_1) (hg : tw w = true) : w ∈ GT := List.mem_filter.mpr ⟨List.mem_append_right _ h, hg⟩
theorem gt_p {q : MethodName × Nat} (h : q ∈ lw_privs) : Cond.selects q.1.cls q.1 q.1 ∈ GT := List.mem_filter.mpr ⟨List.mem_append_left _ (List.mem_map.mpr ⟨q, h, rfl⟩), rfl⟩
theorem gt_1 {w : Cond} (h : w ∈ tables_1_1) (hg : tw w = true) : w ∈ GT := gt_m (List.mem_append_left _ h) hg
theorem gt_2 {w : Cond} (h : w ∈ tables_1_2) (hg : tw w = true) : w ∈ GT := gt_m (List.mem_append_right _ (List.mem_append_left _ h)) hg
theorem gt_3 {w : Cond} (h : w ∈ tables_1_3) (hg : tw w = true) : w ∈ GT := gt_m (List.mem_append_right _ (List.mem_append_right _ (List.mem_append_left _ h))) hg
theorem gt_4 {w : Cond} (h : w ∈ tables_1_4) (hg : tw w = true) : w ∈ GT := gt_m (List.mem_append_right _ (List.mem_append_right _ (List.mem_append_right _ (List.mem_append_left _ h)))) hg
theorem gt_5 {w : Cond} (h : w ∈ tables_1_5) (hg : tw w = true) : w ∈ GT := gt_m (List.mem_append_right _ (List.mem_append_right _ (List.mem_append_right _ (List.mem_append_right _ h)))) hg
end
section
theorem w1_0 : (Jvm.Cond.initialized "OperaMachinesLaw") ∈ GT := gt_1 (List.mem_of_getElem? (i := 0) (by decide +kernel)) (by decide +kernel)
theorem w1_1 : (Jvm.Cond.initialized "OperaMachines") ∈ GT := gt_1 (List.mem_of_getElem? (i := 1) (by decide +kernel)) (by decide +kernel)
theorem w1_2 : (Jvm.Cond.initialized "java/util/AbstractCollection") ∈ GT := gt_1 (List.mem_of_getElem? (i := 2) (by decide +kernel)) (by decide +kernel)
theorem w1_3 : (Jvm.Cond.initialized "java/util/AbstractList") ∈ GT := gt_1 (List.mem_of_getElem? (i := 3) (by decide +kernel)) (by decide +kernel)
theorem w1_4 : (Jvm.Cond.initialized "java/util/ArrayList") ∈ GT := gt_1 (List.mem_of_getElem? (i := 4) (by decide +kernel)) (by decide +kernel)
theorem w1_5 : (Jvm.Cond.initialized "OperaMachinesModel") ∈ GT := gt_1 (List.mem_of_getElem? (i := 5) (by decide +kernel)) (by decide +kernel)
theorem w1_6 : (Jvm.Cond.initialized "java/lang/Throwable") ∈ GT := gt_1 (List.mem_of_getElem? (i := 6) (by decide +kernel)) (by decide +kernel)
theorem w1_7 : (Jvm.Cond.initialized "java/lang/Exception") ∈ GT := gt_1 (List.mem_of_getElem? (i := 7) (by decide +kernel)) (by decide +kernel)
theorem w1_8 : (Jvm.Cond.initialized "java/lang/RuntimeException") ∈ GT := gt_1 (List.mem_of_getElem? (i := 8) (by decide +kernel)) (by decide +kernel)
theorem w1_9 : (Jvm.Cond.initialized "java/lang/IllegalArgumentException") ∈ GT := gt_1 (List.mem_of_getElem? (i := 9) (by decide +kernel)) (by decide +kernel)
theorem w1_10 : (Jvm.Cond.initialized "java/lang/IllegalStateException") ∈ GT := gt_1 (List.mem_of_getElem? (i := 10) (by decide +kernel)) (by decide +kernel)
theorem w1_11 : (Jvm.Cond.initialized "OperaMachines$Machine") ∈ GT := gt_1 (List.mem_of_getElem? (i := 11) (by decide +kernel)) (by decide +kernel)
theorem w1_12 : (Jvm.Cond.initialized "jdk/internal/util/ArraysSupport") ∈ GT := gt_1 (List.mem_of_getElem? (i := 12) (by decide +kernel)) (by decide +kernel)
theorem w1_13 : (Jvm.Cond.initialized "java/lang/Math") ∈ GT := gt_1 (List.mem_of_getElem? (i := 13) (by decide +kernel)) (by decide +kernel)
theorem w1_14 : (Jvm.Cond.initialized "java/util/Arrays") ∈ GT := gt_1 (List.mem_of_getElem? (i := 14) (by decide +kernel)) (by decide +kernel)
theorem w1_15 : (Jvm.Cond.initialized "java/lang/System") ∈ GT := gt_1 (List.mem_of_getElem? (i := 15) (by decide +kernel)) (by decide +kernel)
theorem w1_16 : (Jvm.Cond.initialized "java/util/Objects") ∈ GT := gt_1 (List.mem_of_getElem? (i := 16) (by decide +kernel)) (by decide +kernel)
theorem w1_17 : (Jvm.Cond.initialized "jdk/internal/util/Preconditions") ∈ GT := gt_1 (List.mem_of_getElem? (i := 17) (by decide +kernel)) (by decide +kernel)
theorem w1_18 : (Jvm.Cond.initialized "java/lang/IndexOutOfBoundsException") ∈ GT := gt_1 (List.mem_of_getElem? (i := 18) (by decide +kernel)) (by decide +kernel)
theorem w1_19 : (Jvm.Cond.initialized "OperaMachines$Cue") ∈ GT := gt_1 (List.mem_of_getElem? (i := 19) (by decide +kernel)) (by decide +kernel)
theorem w1_20 : (Jvm.Cond.initialized "java/lang/AbstractStringBuilder") ∈ GT := gt_1 (List.mem_of_getElem? (i := 20) (by decide +kernel)) (by decide +kernel)
theorem w1_21 : (Jvm.Cond.initialized "java/lang/StringBuilder") ∈ GT := gt_1 (List.mem_of_getElem? (i := 21) (by decide +kernel)) (by decide +kernel)
theorem w1_22 : (Jvm.Cond.initialized "java/lang/String") ∈ GT := gt_1 (List.mem_of_getElem? (i := 22) (by decide +kernel)) (by decide +kernel)
theorem w1_23 : (Jvm.Cond.initialized "java/lang/StringUTF16") ∈ GT := gt_1 (List.mem_of_getElem? (i := 23) (by decide +kernel)) (by decide +kernel)
theorem w1_24 : (Jvm.Cond.initialized "java/lang/StringLatin1") ∈ GT := gt_1 (List.mem_of_getElem? (i := 24) (by decide +kernel)) (by decide +kernel)
theorem w1_25 : (Jvm.Cond.initialized "java/lang/Number") ∈ GT := gt_1 (List.mem_of_getElem? (i := 25) (by decide +kernel)) (by decide +kernel)
theorem w1_26 : (Jvm.Cond.initialized "java/lang/Integer") ∈ GT := gt_1 (List.mem_of_getElem? (i := 26) (by decide +kernel)) (by decide +kernel)
theorem w1_27 : (Jvm.Cond.classLink "OperaMachinesLaw" (8 : Nat) "OperaMachines") ∈ GT := gt_1 (List.mem_of_getElem? (i := 27) (by decide +kernel)) (by decide +kernel)
theorem w1_28 : (Jvm.Cond.instantiable "OperaMachines" (10 : Nat)) ∈ GT := gt_1 (List.mem_of_getElem? (i := 28) (by decide +kernel)) (by decide +kernel)
theorem w1_29 : (Jvm.Cond.methodLink "OperaMachinesLaw" (65 : Nat) ({ cls := "OperaMachines", name := "<init>", desc := "()V" } : Jvm.MethodName)) ∈ GT := gt_1 (List.mem_of_getElem? (i := 29) (by decide +kernel)) (by decide +kernel)
theorem w1_30 : (Jvm.Cond.instanceMethod ({ cls := "OperaMachines", name := "<init>", desc := "()V" } : Jvm.MethodName)) ∈ GT := gt_1 (List.mem_of_getElem? (i := 30) (by decide +kernel)) (by decide +kernel)
theorem w1_31 : (Jvm.Cond.code ({ cls := "OperaMachines", name := "<init>", desc := "()V" } : Jvm.MethodName) prog_1_method_1_code (2 : Nat) (Option.none : Option Jvm.ClassFile.FieldType)) ∈ GT := gt_1 (List.mem_of_getElem? (i := 31) (by decide +kernel)) (by decide +kernel)
theorem w1_32 : (Jvm.Cond.methodLink "OperaMachines" (1 : Nat) ({ cls := "java/lang/Object", name := "<init>", desc := "()V" } : Jvm.MethodName)) ∈ GT := gt_1 (List.mem_of_getElem? (i := 32) (by decide +kernel)) (by decide +kernel)
theorem w1_33 : (Jvm.Cond.instanceMethod ({ cls := "java/lang/Object", name := "<init>", desc := "()V" } : Jvm.MethodName)) ∈ GT := gt_1 (List.mem_of_getElem? (i := 33) (by decide +kernel)) (by decide +kernel)
theorem w1_34 : (Jvm.Cond.code ({ cls := "java/lang/Object", name := "<init>", desc := "()V" } : Jvm.MethodName) object_method_1_code (1 : Nat) (Option.none : Option Jvm.ClassFile.FieldType)) ∈ GT := gt_1 (List.mem_of_getElem? (i := 34) (by decide +kernel)) (by decide +kernel)
theorem w1_35 : (Jvm.Cond.classLink "OperaMachines" (7 : Nat) "java/util/ArrayList") ∈ GT := gt_1 (List.mem_of_getElem? (i := 35) (by decide +kernel)) (by decide +kernel)
theorem w1_36 : (Jvm.Cond.instantiable "java/util/ArrayList" (3 : Nat)) ∈ GT := gt_1 (List.mem_of_getElem? (i := 36) (by decide +kernel)) (by decide +kernel)
theorem w1_37 : (Jvm.Cond.methodLink "OperaMachines" (9 : Nat) ({ cls := "java/util/ArrayList", name := "<init>", desc := "()V" } : Jvm.MethodName)) ∈ GT := gt_1 (List.mem_of_getElem? (i := 37) (by decide +kernel)) (by decide +kernel)
theorem w1_38 : (Jvm.Cond.instanceMethod ({ cls := "java/util/ArrayList", name := "<init>", desc := "()V" } : Jvm.MethodName)) ∈ GT := gt_1 (List.mem_of_getElem? (i := 38) (by decide +kernel)) (by decide +kernel)
theorem w1_39 : (Jvm.Cond.code ({ cls := "java/util/ArrayList", name := "<init>", desc := "()V" } : Jvm.MethodName) prog_31_method_2_code (1 : Nat) (Option.none : Option Jvm.ClassFile.FieldType)) ∈ GT := gt_1 (List.mem_of_getElem? (i := 39) (by decide +kernel)) (by decide +kernel)
theorem w1_40 : (Jvm.Cond.methodLink "java/util/ArrayList" (1 : Nat) ({ cls := "java/util/AbstractList", name := "<init>", desc := "()V" } : Jvm.MethodName)) ∈ GT := gt_1 (List.mem_of_getElem? (i := 40) (by decide +kernel)) (by decide +kernel)
theorem w1_41 : (Jvm.Cond.instanceMethod ({ cls := "java/util/AbstractList", name := "<init>", desc := "()V" } : Jvm.MethodName)) ∈ GT := gt_1 (List.mem_of_getElem? (i := 41) (by decide +kernel)) (by decide +kernel)
theorem w1_42 : (Jvm.Cond.code ({ cls := "java/util/AbstractList", name := "<init>", desc := "()V" } : Jvm.MethodName) prog_30_method_1_code (1 : Nat) (Option.none : Option Jvm.ClassFile.FieldType)) ∈ GT := gt_1 (List.mem_of_getElem? (i := 42) (by decide +kernel)) (by decide +kernel)
theorem w1_43 : (Jvm.Cond.methodLink "java/util/AbstractList" (1 : Nat) ({ cls := "java/util/AbstractCollection", name := "<init>", desc := "()V" } : Jvm.MethodName)) ∈ GT := gt_1 (List.mem_of_getElem? (i := 43) (by decide +kernel)) (by decide +kernel)
theorem w1_44 : (Jvm.Cond.instanceMethod ({ cls := "java/util/AbstractCollection", name := "<init>", desc := "()V" } : Jvm.MethodName)) ∈ GT := gt_1 (List.mem_of_getElem? (i := 44) (by decide +kernel)) (by decide +kernel)
theorem w1_45 : (Jvm.Cond.code ({ cls := "java/util/AbstractCollection", name := "<init>", desc := "()V" } : Jvm.MethodName) prog_29_method_1_code (1 : Nat) (Option.none : Option Jvm.ClassFile.FieldType)) ∈ GT := gt_1 (List.mem_of_getElem? (i := 45) (by decide +kernel)) (by decide +kernel)
theorem w1_46 : (Jvm.Cond.methodLink "java/util/AbstractCollection" (1 : Nat) ({ cls := "java/lang/Object", name := "<init>", desc := "()V" } : Jvm.MethodName)) ∈ GT := gt_1 (List.mem_of_getElem? (i := 46) (by decide +kernel)) (by decide +kernel)
theorem w1_47 : (Jvm.Cond.fieldLink "java/util/ArrayList" (39 : Nat) "java/util/ArrayList" "DEFAULTCAPACITY_EMPTY_ELEMENTDATA" "[Ljava/lang/Object;") ∈ GT := gt_1 (List.mem_of_getElem? (i := 47) (by decide +kernel)) (by decide +kernel)
theorem w1_49 : (Jvm.Cond.fieldLink "java/util/ArrayList" (9 : Nat) "java/util/ArrayList" "elementData" "[Ljava/lang/Object;") ∈ GT := gt_1 (List.mem_of_getElem? (i := 49) (by decide +kernel)) (by decide +kernel)
theorem w1_50 : (Jvm.Cond.fieldLink "java/util/ArrayList" (48 : Nat) "java/util/ArrayList" "size" "I") ∈ GT := gt_1 (List.mem_of_getElem? (i := 50) (by decide +kernel)) (by decide +kernel)
theorem w1_51 : (Jvm.Cond.fieldLink "java/util/AbstractList" (7 : Nat) "java/util/AbstractList" "modCount" "I") ∈ GT := gt_1 (List.mem_of_getElem? (i := 51) (by decide +kernel)) (by decide +kernel)
theorem w1_52 : (Jvm.Cond.fieldLink "java/util/ArrayList" (63 : Nat) "java/util/ArrayList" "modCount" "I") ∈ GT := gt_1 (List.mem_of_getElem? (i := 52) (by decide +kernel)) (by decide +kernel)
theorem w1_53 : (Jvm.Cond.sameField "java/util/ArrayList" "java/util/AbstractList" "modCount" "I") ∈ GT := gt_1 (List.mem_of_getElem? (i := 53) (by decide +kernel)) (by decide +kernel)
theorem w1_54 : (Jvm.Cond.lays "java/util/ArrayList" "java/util/ArrayList" "elementData" "[Ljava/lang/Object;") ∈ GT := gt_1 (List.mem_of_getElem? (i := 54) (by decide +kernel)) (by decide +kernel)
theorem w1_56 : (Jvm.Cond.lays "java/util/ArrayList" "java/util/ArrayList" "size" "I") ∈ GT := gt_1 (List.mem_of_getElem? (i := 56) (by decide +kernel)) (by decide +kernel)
theorem w1_58 : (Jvm.Cond.lays "java/util/ArrayList" "java/util/AbstractList" "modCount" "I") ∈ GT := gt_1 (List.mem_of_getElem? (i := 58) (by decide +kernel)) (by decide +kernel)
theorem w1_60 : (Jvm.Cond.superclass "java/util/ArrayList" "java/util/AbstractList") ∈ GT := gt_1 (List.mem_of_getElem? (i := 60) (by decide +kernel)) (by decide +kernel)
theorem w1_61 : (Jvm.Cond.fieldLink "OperaMachines" (10 : Nat) "OperaMachines" "machines" "Ljava/util/ArrayList;") ∈ GT := gt_1 (List.mem_of_getElem? (i := 61) (by decide +kernel)) (by decide +kernel)
theorem w1_62 : (Jvm.Cond.fieldLink "OperaMachines" (16 : Nat) "OperaMachines" "cues" "Ljava/util/ArrayList;") ∈ GT := gt_1 (List.mem_of_getElem? (i := 62) (by decide +kernel)) (by decide +kernel)
theorem w1_63 : (Jvm.Cond.fieldLink "OperaMachines" (19 : Nat) "OperaMachines" "cuesByBar" "Ljava/util/ArrayList;") ∈ GT := gt_1 (List.mem_of_getElem? (i := 63) (by decide +kernel)) (by decide +kernel)
theorem w1_64 : (Jvm.Cond.fieldLink "OperaMachines" (22 : Nat) "OperaMachines" "striking" "[Z") ∈ GT := gt_1 (List.mem_of_getElem? (i := 64) (by decide +kernel)) (by decide +kernel)
theorem w1_65 : (Jvm.Cond.fieldLink "OperaMachines" (26 : Nat) "OperaMachines" "substitutes" "[I") ∈ GT := gt_1 (List.mem_of_getElem? (i := 65) (by decide +kernel)) (by decide +kernel)
theorem w1_66 : (Jvm.Cond.fieldLink "OperaMachines" (30 : Nat) "OperaMachines" "bars" "I") ∈ GT := gt_1 (List.mem_of_getElem? (i := 66) (by decide +kernel)) (by decide +kernel)
theorem w1_67 : (Jvm.Cond.fieldLink "OperaMachines" (34 : Nat) "OperaMachines" "writtenTicks" "I") ∈ GT := gt_1 (List.mem_of_getElem? (i := 67) (by decide +kernel)) (by decide +kernel)
theorem w1_68 : (Jvm.Cond.fieldLink "OperaMachines" (37 : Nat) "OperaMachines" "tempo" "I") ∈ GT := gt_1 (List.mem_of_getElem? (i := 68) (by decide +kernel)) (by decide +kernel)
theorem w1_69 : (Jvm.Cond.fieldLink "OperaMachines" (40 : Nat) "OperaMachines" "rest" "I") ∈ GT := gt_1 (List.mem_of_getElem? (i := 69) (by decide +kernel)) (by decide +kernel)
theorem w1_70 : (Jvm.Cond.fieldLink "OperaMachines" (43 : Nat) "OperaMachines" "limit" "I") ∈ GT := gt_1 (List.mem_of_getElem? (i := 70) (by decide +kernel)) (by decide +kernel)
theorem w1_71 : (Jvm.Cond.laysFinal "OperaMachines" "OperaMachines" "machines" "Ljava/util/ArrayList;") ∈ GT := gt_1 (List.mem_of_getElem? (i := 71) (by decide +kernel)) (by decide +kernel)
theorem w1_73 : (Jvm.Cond.laysFinal "OperaMachines" "OperaMachines" "cues" "Ljava/util/ArrayList;") ∈ GT := gt_1 (List.mem_of_getElem? (i := 73) (by decide +kernel)) (by decide +kernel)
theorem w1_75 : (Jvm.Cond.laysFinal "OperaMachines" "OperaMachines" "cuesByBar" "Ljava/util/ArrayList;") ∈ GT := gt_1 (List.mem_of_getElem? (i := 75) (by decide +kernel)) (by decide +kernel)
theorem w1_77 : (Jvm.Cond.laysFinal "OperaMachines" "OperaMachines" "striking" "[Z") ∈ GT := gt_1 (List.mem_of_getElem? (i := 77) (by decide +kernel)) (by decide +kernel)
theorem w1_79 : (Jvm.Cond.laysFinal "OperaMachines" "OperaMachines" "substitutes" "[I") ∈ GT := gt_1 (List.mem_of_getElem? (i := 79) (by decide +kernel)) (by decide +kernel)
theorem w1_81 : (Jvm.Cond.lays "OperaMachines" "OperaMachines" "bars" "I") ∈ GT := gt_1 (List.mem_of_getElem? (i := 81) (by decide +kernel)) (by decide +kernel)
theorem w1_83 : (Jvm.Cond.lays "OperaMachines" "OperaMachines" "writtenTicks" "I") ∈ GT := gt_1 (List.mem_of_getElem? (i := 83) (by decide +kernel)) (by decide +kernel)
theorem w1_85 : (Jvm.Cond.lays "OperaMachines" "OperaMachines" "tempo" "I") ∈ GT := gt_1 (List.mem_of_getElem? (i := 85) (by decide +kernel)) (by decide +kernel)
theorem w1_87 : (Jvm.Cond.lays "OperaMachines" "OperaMachines" "rest" "I") ∈ GT := gt_1 (List.mem_of_getElem? (i := 87) (by decide +kernel)) (by decide +kernel)
theorem w1_89 : (Jvm.Cond.lays "OperaMachines" "OperaMachines" "limit" "I") ∈ GT := gt_1 (List.mem_of_getElem? (i := 89) (by decide +kernel)) (by decide +kernel)
theorem w1_91 : (Jvm.Cond.superclass "OperaMachines" "java/lang/Object") ∈ GT := gt_1 (List.mem_of_getElem? (i := 91) (by decide +kernel)) (by decide +kernel)
theorem w1_92 : (Jvm.Cond.arrayClass Jvm.ClassFile.FieldType.boolean) ∈ GT := gt_1 (List.mem_of_getElem? (i := 92) (by decide +kernel)) (by decide +kernel)
theorem w1_93 : (Jvm.Cond.arrayClass Jvm.ClassFile.FieldType.int) ∈ GT := gt_1 (List.mem_of_getElem? (i := 93) (by decide +kernel)) (by decide +kernel)
theorem w1_94 : (Jvm.Cond.methodLink "OperaMachinesLaw" (107 : Nat) ({ cls := "OperaMachines", name := "bar", desc := "()I" } : Jvm.MethodName)) ∈ GT := gt_1 (List.mem_of_getElem? (i := 94) (by decide +kernel)) (by decide +kernel)
theorem w1_95 : (Jvm.Cond.instanceMethod ({ cls := "OperaMachines", name := "bar", desc := "()I" } : Jvm.MethodName)) ∈ GT := gt_1 (List.mem_of_getElem? (i := 95) (by decide +kernel)) (by decide +kernel)
theorem w1_96 : (Jvm.Cond.selects "OperaMachines" ({ cls := "OperaMachines", name := "bar", desc := "()I" } : Jvm.MethodName) ({ cls := "OperaMachines", name := "bar", desc := "()I" } : Jvm.MethodName)) ∈ GT := gt_1 (List.mem_of_getElem? (i := 96) (by decide +kernel)) (by decide +kernel)
theorem w1_97 : (Jvm.Cond.code ({ cls := "OperaMachines", name := "bar", desc := "()I" } : Jvm.MethodName) prog_1_method_11_code (1 : Nat) (Option.some Jvm.ClassFile.FieldType.int)) ∈ GT := gt_1 (List.mem_of_getElem? (i := 97) (by decide +kernel)) (by decide +kernel)
theorem w1_98 : (Jvm.Cond.methodLink "OperaMachines" (129 : Nat) ({ cls := "OperaMachines", name := "barTicks", desc := "(I)I" } : Jvm.MethodName)) ∈ GT := gt_1 (List.mem_of_getElem? (i := 98) (by decide +kernel)) (by decide +kernel)
theorem w1_99 : (Jvm.Cond.privateMethod ({ cls := "OperaMachines", name := "barTicks", desc := "(I)I" } : Jvm.MethodName)) ∈ GT := gt_1 (List.mem_of_getElem? (i := 99) (by decide +kernel)) (by decide +kernel)
theorem w1_100 : (Jvm.Cond.instanceMethod ({ cls := "OperaMachines", name := "barTicks", desc := "(I)I" } : Jvm.MethodName)) ∈ GT := gt_1 (List.mem_of_getElem? (i := 100) (by decide +kernel)) (by decide +kernel)
theorem w1_101 : (Jvm.Cond.code ({ cls := "OperaMachines", name := "barTicks", desc := "(I)I" } : Jvm.MethodName) prog_1_method_32_code (2 : Nat) (Option.some Jvm.ClassFile.FieldType.int)) ∈ GT := gt_1 (List.mem_of_getElem? (i := 101) (by decide +kernel)) (by decide +kernel)
theorem w1_102 : (Jvm.Cond.methodLink "OperaMachines" (166 : Nat) ({ cls := "java/lang/Math", name := "max", desc := "(II)I" } : Jvm.MethodName)) ∈ GT := gt_1 (List.mem_of_getElem? (i := 102) (by decide +kernel)) (by decide +kernel)
theorem w1_103 : (Jvm.Cond.static ({ cls := "java/lang/Math", name := "max", desc := "(II)I" } : Jvm.MethodName)) ∈ GT := gt_1 (List.mem_of_getElem? (i := 103) (by decide +kernel)) (by decide +kernel)
theorem w1_104 : (Jvm.Cond.code ({ cls := "java/lang/Math", name := "max", desc := "(II)I" } : Jvm.MethodName) prog_18_method_65_code (2 : Nat) (Option.some Jvm.ClassFile.FieldType.int)) ∈ GT := gt_1 (List.mem_of_getElem? (i := 104) (by decide +kernel)) (by decide +kernel)
theorem w1_105 : (Jvm.Cond.methodLink "OperaMachinesLaw" (111 : Nat) ({ cls := "OperaMachines", name := "end", desc := "()I" } : Jvm.MethodName)) ∈ GT := gt_1 (List.mem_of_getElem? (i := 105) (by decide +kernel)) (by decide +kernel)
theorem w1_106 : (Jvm.Cond.instanceMethod ({ cls := "OperaMachines", name := "end", desc := "()I" } : Jvm.MethodName)) ∈ GT := gt_1 (List.mem_of_getElem? (i := 106) (by decide +kernel)) (by decide +kernel)
theorem w1_107 : (Jvm.Cond.selects "OperaMachines" ({ cls := "OperaMachines", name := "end", desc := "()I" } : Jvm.MethodName) ({ cls := "OperaMachines", name := "end", desc := "()I" } : Jvm.MethodName)) ∈ GT := gt_1 (List.mem_of_getElem? (i := 107) (by decide +kernel)) (by decide +kernel)
theorem w1_108 : (Jvm.Cond.code ({ cls := "OperaMachines", name := "end", desc := "()I" } : Jvm.MethodName) prog_1_method_12_code (1 : Nat) (Option.some Jvm.ClassFile.FieldType.int)) ∈ GT := gt_1 (List.mem_of_getElem? (i := 108) (by decide +kernel)) (by decide +kernel)
theorem w1_109 : (Jvm.Cond.methodLink "OperaMachinesLaw" (121 : Nat) ({ cls := "OperaMachines", name := "meeting", desc := "()I" } : Jvm.MethodName)) ∈ GT := gt_1 (List.mem_of_getElem? (i := 109) (by decide +kernel)) (by decide +kernel)
theorem w1_110 : (Jvm.Cond.instanceMethod ({ cls := "OperaMachines", name := "meeting", desc := "()I" } : Jvm.MethodName)) ∈ GT := gt_1 (List.mem_of_getElem? (i := 110) (by decide +kernel)) (by decide +kernel)
theorem w1_111 : (Jvm.Cond.selects "OperaMachines" ({ cls := "OperaMachines", name := "meeting", desc := "()I" } : Jvm.MethodName) ({ cls := "OperaMachines", name := "meeting", desc := "()I" } : Jvm.MethodName)) ∈ GT := gt_1 (List.mem_of_getElem? (i := 111) (by decide +kernel)) (by decide +kernel)
theorem w1_112 : (Jvm.Cond.code ({ cls := "OperaMachines", name := "meeting", desc := "()I" } : Jvm.MethodName) prog_1_method_15_code (1 : Nat) (Option.some Jvm.ClassFile.FieldType.int)) ∈ GT := gt_1 (List.mem_of_getElem? (i := 112) (by decide +kernel)) (by decide +kernel)
theorem w1_113 : (Jvm.Cond.methodLink "OperaMachines" (146 : Nat) ({ cls := "OperaMachines", name := "firstMeeting", desc := "(I)I" } : Jvm.MethodName)) ∈ GT := gt_1 (List.mem_of_getElem? (i := 113) (by decide +kernel)) (by decide +kernel)
theorem w1_114 : (Jvm.Cond.privateMethod ({ cls := "OperaMachines", name := "firstMeeting", desc := "(I)I" } : Jvm.MethodName)) ∈ GT := gt_1 (List.mem_of_getElem? (i := 114) (by decide +kernel)) (by decide +kernel)
theorem w1_115 : (Jvm.Cond.instanceMethod ({ cls := "OperaMachines", name := "firstMeeting", desc := "(I)I" } : Jvm.MethodName)) ∈ GT := gt_1 (List.mem_of_getElem? (i := 115) (by decide +kernel)) (by decide +kernel)
theorem w1_116 : (Jvm.Cond.code ({ cls := "OperaMachines", name := "firstMeeting", desc := "(I)I" } : Jvm.MethodName) prog_1_method_36_code (4 : Nat) (Option.some Jvm.ClassFile.FieldType.int)) ∈ GT := gt_1 (List.mem_of_getElem? (i := 116) (by decide +kernel)) (by decide +kernel)
theorem w1_117 : (Jvm.Cond.methodLink "OperaMachines" (191 : Nat) ({ cls := "OperaMachines", name := "rewindAll", desc := "()V" } : Jvm.MethodName)) ∈ GT := gt_1 (List.mem_of_getElem? (i := 117) (by decide +kernel)) (by decide +kernel)
theorem w1_118 : (Jvm.Cond.privateMethod ({ cls := "OperaMachines", name := "rewindAll", desc := "()V" } : Jvm.MethodName)) ∈ GT := gt_1 (List.mem_of_getElem? (i := 118) (by decide +kernel)) (by decide +kernel)
theorem w1_119 : (Jvm.Cond.instanceMethod ({ cls := "OperaMachines", name := "rewindAll", desc := "()V" } : Jvm.MethodName)) ∈ GT := gt_1 (List.mem_of_getElem? (i := 119) (by decide +kernel)) (by decide +kernel)
theorem w1_120 : (Jvm.Cond.code ({ cls := "OperaMachines", name := "rewindAll", desc := "()V" } : Jvm.MethodName) prog_1_method_33_code (2 : Nat) (Option.none : Option Jvm.ClassFile.FieldType)) ∈ GT := gt_1 (List.mem_of_getElem? (i := 120) (by decide +kernel)) (by decide +kernel)
theorem w1_121 : (Jvm.Cond.methodLink "OperaMachines" (66 : Nat) ({ cls := "java/util/ArrayList", name := "size", desc := "()I" } : Jvm.MethodName)) ∈ GT := gt_1 (List.mem_of_getElem? (i := 121) (by decide +kernel)) (by decide +kernel)
theorem w1_122 : (Jvm.Cond.instanceMethod ({ cls := "java/util/ArrayList", name := "size", desc := "()I" } : Jvm.MethodName)) ∈ GT := gt_1 (List.mem_of_getElem? (i := 122) (by decide +kernel)) (by decide +kernel)
theorem w1_123 : (Jvm.Cond.selects "java/util/ArrayList" ({ cls := "java/util/ArrayList", name := "size", desc := "()I" } : Jvm.MethodName) ({ cls := "java/util/ArrayList", name := "size", desc := "()I" } : Jvm.MethodName)) ∈ GT := gt_1 (List.mem_of_getElem? (i := 123) (by decide +kernel)) (by decide +kernel)
theorem w1_124 : (Jvm.Cond.code ({ cls := "java/util/ArrayList", name := "size", desc := "()I" } : Jvm.MethodName) prog_31_method_8_code (1 : Nat) (Option.some Jvm.ClassFile.FieldType.int)) ∈ GT := gt_1 (List.mem_of_getElem? (i := 124) (by decide +kernel)) (by decide +kernel)
theorem w1_125 : (Jvm.Cond.methodLink "OperaMachines" (70 : Nat) ({ cls := "java/util/ArrayList", name := "get", desc := "(I)Ljava/lang/Object;" } : Jvm.MethodName)) ∈ GT := gt_1 (List.mem_of_getElem? (i := 125) (by decide +kernel)) (by decide +kernel)
theorem w1_126 : (Jvm.Cond.instanceMethod ({ cls := "java/util/ArrayList", name := "get", desc := "(I)Ljava/lang/Object;" } : Jvm.MethodName)) ∈ GT := gt_1 (List.mem_of_getElem? (i := 126) (by decide +kernel)) (by decide +kernel)
theorem w1_127 : (Jvm.Cond.selects "java/util/ArrayList" ({ cls := "java/util/ArrayList", name := "get", desc := "(I)Ljava/lang/Object;" } : Jvm.MethodName) ({ cls := "java/util/ArrayList", name := "get", desc := "(I)Ljava/lang/Object;" } : Jvm.MethodName)) ∈ GT := gt_1 (List.mem_of_getElem? (i := 127) (by decide +kernel)) (by decide +kernel)
theorem w1_128 : (Jvm.Cond.code ({ cls := "java/util/ArrayList", name := "get", desc := "(I)Ljava/lang/Object;" } : Jvm.MethodName) prog_31_method_20_code (2 : Nat) (Option.some (Jvm.ClassFile.FieldType.object "java/lang/Object"))) ∈ GT := gt_1 (List.mem_of_getElem? (i := 128) (by decide +kernel)) (by decide +kernel)
theorem w1_129 : (Jvm.Cond.methodLink "java/util/ArrayList" (118 : Nat) ({ cls := "java/util/Objects", name := "checkIndex", desc := "(II)I" } : Jvm.MethodName)) ∈ GT := gt_1 (List.mem_of_getElem? (i := 129) (by decide +kernel)) (by decide +kernel)
theorem w1_130 : (Jvm.Cond.static ({ cls := "java/util/Objects", name := "checkIndex", desc := "(II)I" } : Jvm.MethodName)) ∈ GT := gt_1 (List.mem_of_getElem? (i := 130) (by decide +kernel)) (by decide +kernel)
theorem w1_131 : (Jvm.Cond.code ({ cls := "java/util/Objects", name := "checkIndex", desc := "(II)I" } : Jvm.MethodName) prog_35_method_17_code (2 : Nat) (Option.some Jvm.ClassFile.FieldType.int)) ∈ GT := gt_1 (List.mem_of_getElem? (i := 131) (by decide +kernel)) (by decide +kernel)
theorem w1_132 : (Jvm.Cond.methodLink "java/util/Objects" (105 : Nat) ({ cls := "jdk/internal/util/Preconditions", name := "checkIndex", desc := "(IILjava/util/function/BiFunction;)I" } : Jvm.MethodName)) ∈ GT := gt_1 (List.mem_of_getElem? (i := 132) (by decide +kernel)) (by decide +kernel)
theorem w1_133 : (Jvm.Cond.static ({ cls := "jdk/internal/util/Preconditions", name := "checkIndex", desc := "(IILjava/util/function/BiFunction;)I" } : Jvm.MethodName)) ∈ GT := gt_1 (List.mem_of_getElem? (i := 133) (by decide +kernel)) (by decide +kernel)
theorem w1_134 : (Jvm.Cond.code ({ cls := "jdk/internal/util/Preconditions", name := "checkIndex", desc := "(IILjava/util/function/BiFunction;)I" } : Jvm.MethodName) prog_39_method_11_code (3 : Nat) (Option.some Jvm.ClassFile.FieldType.int)) ∈ GT := gt_1 (List.mem_of_getElem? (i := 134) (by decide +kernel)) (by decide +kernel)
theorem w1_135 : (Jvm.Cond.methodLink "java/util/ArrayList" (123 : Nat) ({ cls := "java/util/ArrayList", name := "elementData", desc := "(I)Ljava/lang/Object;" } : Jvm.MethodName)) ∈ GT := gt_1 (List.mem_of_getElem? (i := 135) (by decide +kernel)) (by decide +kernel)
theorem w1_136 : (Jvm.Cond.instanceMethod ({ cls := "java/util/ArrayList", name := "elementData", desc := "(I)Ljava/lang/Object;" } : Jvm.MethodName)) ∈ GT := gt_1 (List.mem_of_getElem? (i := 136) (by decide +kernel)) (by decide +kernel)
theorem w1_137 : (Jvm.Cond.selects "java/util/ArrayList" ({ cls := "java/util/ArrayList", name := "elementData", desc := "(I)Ljava/lang/Object;" } : Jvm.MethodName) ({ cls := "java/util/ArrayList", name := "elementData", desc := "(I)Ljava/lang/Object;" } : Jvm.MethodName)) ∈ GT := gt_1 (List.mem_of_getElem? (i := 137) (by decide +kernel)) (by decide +kernel)
theorem w1_138 : (Jvm.Cond.code ({ cls := "java/util/ArrayList", name := "elementData", desc := "(I)Ljava/lang/Object;" } : Jvm.MethodName) prog_31_method_18_code (2 : Nat) (Option.some (Jvm.ClassFile.FieldType.object "java/lang/Object"))) ∈ GT := gt_1 (List.mem_of_getElem? (i := 138) (by decide +kernel)) (by decide +kernel)
theorem w1_139 : (Jvm.Cond.classLink "OperaMachines" (57 : Nat) "OperaMachines$Machine") ∈ GT := gt_1 (List.mem_of_getElem? (i := 139) (by decide +kernel)) (by decide +kernel)
theorem w1_140 : (Jvm.Cond.methodLink "OperaMachines" (133 : Nat) ({ cls := "OperaMachines$Machine", name := "rewind", desc := "()V" } : Jvm.MethodName)) ∈ GT := gt_1 (List.mem_of_getElem? (i := 140) (by decide +kernel)) (by decide +kernel)
theorem w1_141 : (Jvm.Cond.instanceMethod ({ cls := "OperaMachines$Machine", name := "rewind", desc := "()V" } : Jvm.MethodName)) ∈ GT := gt_1 (List.mem_of_getElem? (i := 141) (by decide +kernel)) (by decide +kernel)
theorem w1_142 : (Jvm.Cond.selects "OperaMachines$Machine" ({ cls := "OperaMachines$Machine", name := "rewind", desc := "()V" } : Jvm.MethodName) ({ cls := "OperaMachines$Machine", name := "rewind", desc := "()V" } : Jvm.MethodName)) ∈ GT := gt_1 (List.mem_of_getElem? (i := 142) (by decide +kernel)) (by decide +kernel)
theorem w1_143 : (Jvm.Cond.code ({ cls := "OperaMachines$Machine", name := "rewind", desc := "()V" } : Jvm.MethodName) prog_3_method_5_code (1 : Nat) (Option.none : Option Jvm.ClassFile.FieldType)) ∈ GT := gt_1 (List.mem_of_getElem? (i := 143) (by decide +kernel)) (by decide +kernel)
theorem w1_144 : (Jvm.Cond.methodLink "OperaMachines" (149 : Nat) ({ cls := "OperaMachines", name := "leastPairMeetingNow", desc := "()I" } : Jvm.MethodName)) ∈ GT := gt_1 (List.mem_of_getElem? (i := 144) (by decide +kernel)) (by decide +kernel)
theorem w1_145 : (Jvm.Cond.privateMethod ({ cls := "OperaMachines", name := "leastPairMeetingNow", desc := "()I" } : Jvm.MethodName)) ∈ GT := gt_1 (List.mem_of_getElem? (i := 145) (by decide +kernel)) (by decide +kernel)
theorem w1_146 : (Jvm.Cond.instanceMethod ({ cls := "OperaMachines", name := "leastPairMeetingNow", desc := "()I" } : Jvm.MethodName)) ∈ GT := gt_1 (List.mem_of_getElem? (i := 146) (by decide +kernel)) (by decide +kernel)
theorem w1_147 : (Jvm.Cond.code ({ cls := "OperaMachines", name := "leastPairMeetingNow", desc := "()I" } : Jvm.MethodName) prog_1_method_37_code (4 : Nat) (Option.some Jvm.ClassFile.FieldType.int)) ∈ GT := gt_1 (List.mem_of_getElem? (i := 147) (by decide +kernel)) (by decide +kernel)
theorem w1_148 : (Jvm.Cond.methodLink "OperaMachines" (201 : Nat) ({ cls := "OperaMachines$Machine", name := "meets", desc := "(LOperaMachines$Machine;)Z" } : Jvm.MethodName)) ∈ GT := gt_1 (List.mem_of_getElem? (i := 148) (by decide +kernel)) (by decide +kernel)
theorem w1_149 : (Jvm.Cond.instanceMethod ({ cls := "OperaMachines$Machine", name := "meets", desc := "(LOperaMachines$Machine;)Z" } : Jvm.MethodName)) ∈ GT := gt_1 (List.mem_of_getElem? (i := 149) (by decide +kernel)) (by decide +kernel)
theorem w1_150 : (Jvm.Cond.selects "OperaMachines$Machine" ({ cls := "OperaMachines$Machine", name := "meets", desc := "(LOperaMachines$Machine;)Z" } : Jvm.MethodName) ({ cls := "OperaMachines$Machine", name := "meets", desc := "(LOperaMachines$Machine;)Z" } : Jvm.MethodName)) ∈ GT := gt_1 (List.mem_of_getElem? (i := 150) (by decide +kernel)) (by decide +kernel)
theorem w1_151 : (Jvm.Cond.code ({ cls := "OperaMachines$Machine", name := "meets", desc := "(LOperaMachines$Machine;)Z" } : Jvm.MethodName) prog_3_method_11_code (2 : Nat) (Option.some Jvm.ClassFile.FieldType.boolean)) ∈ GT := gt_1 (List.mem_of_getElem? (i := 151) (by decide +kernel)) (by decide +kernel)
theorem w1_152 : (Jvm.Cond.methodLink "OperaMachines$Machine" (30 : Nat) ({ cls := "OperaMachines$Machine", name := "turns", desc := "()Z" } : Jvm.MethodName)) ∈ GT := gt_1 (List.mem_of_getElem? (i := 152) (by decide +kernel)) (by decide +kernel)
theorem w1_153 : (Jvm.Cond.instanceMethod ({ cls := "OperaMachines$Machine", name := "turns", desc := "()Z" } : Jvm.MethodName)) ∈ GT := gt_1 (List.mem_of_getElem? (i := 153) (by decide +kernel)) (by decide +kernel)
theorem w1_154 : (Jvm.Cond.selects "OperaMachines$Machine" ({ cls := "OperaMachines$Machine", name := "turns", desc := "()Z" } : Jvm.MethodName) ({ cls := "OperaMachines$Machine", name := "turns", desc := "()Z" } : Jvm.MethodName)) ∈ GT := gt_1 (List.mem_of_getElem? (i := 154) (by decide +kernel)) (by decide +kernel)
theorem w1_155 : (Jvm.Cond.code ({ cls := "OperaMachines$Machine", name := "turns", desc := "()Z" } : Jvm.MethodName) prog_3_method_2_code (1 : Nat) (Option.some Jvm.ClassFile.FieldType.boolean)) ∈ GT := gt_1 (List.mem_of_getElem? (i := 155) (by decide +kernel)) (by decide +kernel)
theorem w1_156 : (Jvm.Cond.methodLink "OperaMachines$Machine" (54 : Nat) ({ cls := "java/lang/Math", name := "abs", desc := "(I)I" } : Jvm.MethodName)) ∈ GT := gt_1 (List.mem_of_getElem? (i := 156) (by decide +kernel)) (by decide +kernel)
theorem w1_157 : (Jvm.Cond.static ({ cls := "java/lang/Math", name := "abs", desc := "(I)I" } : Jvm.MethodName)) ∈ GT := gt_1 (List.mem_of_getElem? (i := 157) (by decide +kernel)) (by decide +kernel)
theorem w1_158 : (Jvm.Cond.code ({ cls := "java/lang/Math", name := "abs", desc := "(I)I" } : Jvm.MethodName) prog_18_method_59_code (1 : Nat) (Option.some Jvm.ClassFile.FieldType.int)) ∈ GT := gt_1 (List.mem_of_getElem? (i := 158) (by decide +kernel)) (by decide +kernel)
theorem w1_159 : (Jvm.Cond.methodLink "OperaMachines" (194 : Nat) ({ cls := "OperaMachines", name := "startBarForAll", desc := "(I)V" } : Jvm.MethodName)) ∈ GT := gt_1 (List.mem_of_getElem? (i := 159) (by decide +kernel)) (by decide +kernel)
theorem w1_160 : (Jvm.Cond.privateMethod ({ cls := "OperaMachines", name := "startBarForAll", desc := "(I)V" } : Jvm.MethodName)) ∈ GT := gt_1 (List.mem_of_getElem? (i := 160) (by decide +kernel)) (by decide +kernel)
theorem w1_161 : (Jvm.Cond.instanceMethod ({ cls := "OperaMachines", name := "startBarForAll", desc := "(I)V" } : Jvm.MethodName)) ∈ GT := gt_1 (List.mem_of_getElem? (i := 161) (by decide +kernel)) (by decide +kernel)
theorem w1_162 : (Jvm.Cond.code ({ cls := "OperaMachines", name := "startBarForAll", desc := "(I)V" } : Jvm.MethodName) prog_1_method_34_code (3 : Nat) (Option.none : Option Jvm.ClassFile.FieldType)) ∈ GT := gt_1 (List.mem_of_getElem? (i := 162) (by decide +kernel)) (by decide +kernel)
theorem w1_163 : (Jvm.Cond.methodLink "OperaMachines" (136 : Nat) ({ cls := "OperaMachines$Machine", name := "startBar", desc := "(I)V" } : Jvm.MethodName)) ∈ GT := gt_1 (List.mem_of_getElem? (i := 163) (by decide +kernel)) (by decide +kernel)
theorem w1_164 : (Jvm.Cond.instanceMethod ({ cls := "OperaMachines$Machine", name := "startBar", desc := "(I)V" } : Jvm.MethodName)) ∈ GT := gt_1 (List.mem_of_getElem? (i := 164) (by decide +kernel)) (by decide +kernel)
theorem w1_165 : (Jvm.Cond.selects "OperaMachines$Machine" ({ cls := "OperaMachines$Machine", name := "startBar", desc := "(I)V" } : Jvm.MethodName) ({ cls := "OperaMachines$Machine", name := "startBar", desc := "(I)V" } : Jvm.MethodName)) ∈ GT := gt_1 (List.mem_of_getElem? (i := 165) (by decide +kernel)) (by decide +kernel)
theorem w1_166 : (Jvm.Cond.code ({ cls := "OperaMachines$Machine", name := "startBar", desc := "(I)V" } : Jvm.MethodName) prog_3_method_6_code (2 : Nat) (Option.none : Option Jvm.ClassFile.FieldType)) ∈ GT := gt_1 (List.mem_of_getElem? (i := 166) (by decide +kernel)) (by decide +kernel)
theorem w1_167 : (Jvm.Cond.methodLink "OperaMachines" (197 : Nat) ({ cls := "OperaMachines", name := "goAll", desc := "()Z" } : Jvm.MethodName)) ∈ GT := gt_1 (List.mem_of_getElem? (i := 167) (by decide +kernel)) (by decide +kernel)
theorem w1_168 : (Jvm.Cond.privateMethod ({ cls := "OperaMachines", name := "goAll", desc := "()Z" } : Jvm.MethodName)) ∈ GT := gt_1 (List.mem_of_getElem? (i := 168) (by decide +kernel)) (by decide +kernel)
theorem w1_169 : (Jvm.Cond.instanceMethod ({ cls := "OperaMachines", name := "goAll", desc := "()Z" } : Jvm.MethodName)) ∈ GT := gt_1 (List.mem_of_getElem? (i := 169) (by decide +kernel)) (by decide +kernel)
theorem w1_170 : (Jvm.Cond.code ({ cls := "OperaMachines", name := "goAll", desc := "()Z" } : Jvm.MethodName) prog_1_method_35_code (3 : Nat) (Option.some Jvm.ClassFile.FieldType.boolean)) ∈ GT := gt_1 (List.mem_of_getElem? (i := 170) (by decide +kernel)) (by decide +kernel)
theorem w1_171 : (Jvm.Cond.methodLink "OperaMachines" (140 : Nat) ({ cls := "OperaMachines$Machine", name := "go", desc := "(I)Z" } : Jvm.MethodName)) ∈ GT := gt_1 (List.mem_of_getElem? (i := 171) (by decide +kernel)) (by decide +kernel)
theorem w1_172 : (Jvm.Cond.instanceMethod ({ cls := "OperaMachines$Machine", name := "go", desc := "(I)Z" } : Jvm.MethodName)) ∈ GT := gt_1 (List.mem_of_getElem? (i := 172) (by decide +kernel)) (by decide +kernel)
theorem w1_173 : (Jvm.Cond.selects "OperaMachines$Machine" ({ cls := "OperaMachines$Machine", name := "go", desc := "(I)Z" } : Jvm.MethodName) ({ cls := "OperaMachines$Machine", name := "go", desc := "(I)Z" } : Jvm.MethodName)) ∈ GT := gt_1 (List.mem_of_getElem? (i := 173) (by decide +kernel)) (by decide +kernel)
theorem w1_174 : (Jvm.Cond.code ({ cls := "OperaMachines$Machine", name := "go", desc := "(I)Z" } : Jvm.MethodName) prog_3_method_9_code (4 : Nat) (Option.some Jvm.ClassFile.FieldType.boolean)) ∈ GT := gt_1 (List.mem_of_getElem? (i := 174) (by decide +kernel)) (by decide +kernel)
theorem w1_175 : (Jvm.Cond.methodLink "OperaMachines$Machine" (50 : Nat) ({ cls := "OperaMachines$Machine", name := "wayToTarget", desc := "()I" } : Jvm.MethodName)) ∈ GT := gt_1 (List.mem_of_getElem? (i := 175) (by decide +kernel)) (by decide +kernel)
theorem w1_176 : (Jvm.Cond.instanceMethod ({ cls := "OperaMachines$Machine", name := "wayToTarget", desc := "()I" } : Jvm.MethodName)) ∈ GT := gt_1 (List.mem_of_getElem? (i := 176) (by decide +kernel)) (by decide +kernel)
theorem w1_177 : (Jvm.Cond.selects "OperaMachines$Machine" ({ cls := "OperaMachines$Machine", name := "wayToTarget", desc := "()I" } : Jvm.MethodName) ({ cls := "OperaMachines$Machine", name := "wayToTarget", desc := "()I" } : Jvm.MethodName)) ∈ GT := gt_1 (List.mem_of_getElem? (i := 177) (by decide +kernel)) (by decide +kernel)
theorem w1_178 : (Jvm.Cond.code ({ cls := "OperaMachines$Machine", name := "wayToTarget", desc := "()I" } : Jvm.MethodName) prog_3_method_7_code (3 : Nat) (Option.some Jvm.ClassFile.FieldType.int)) ∈ GT := gt_1 (List.mem_of_getElem? (i := 178) (by decide +kernel)) (by decide +kernel)
theorem w1_179 : (Jvm.Cond.methodLink "OperaMachines$Machine" (44 : Nat) ({ cls := "java/lang/Math", name := "floorMod", desc := "(II)I" } : Jvm.MethodName)) ∈ GT := gt_1 (List.mem_of_getElem? (i := 179) (by decide +kernel)) (by decide +kernel)
theorem w1_180 : (Jvm.Cond.static ({ cls := "java/lang/Math", name := "floorMod", desc := "(II)I" } : Jvm.MethodName)) ∈ GT := gt_1 (List.mem_of_getElem? (i := 180) (by decide +kernel)) (by decide +kernel)
theorem w1_181 : (Jvm.Cond.code ({ cls := "java/lang/Math", name := "floorMod", desc := "(II)I" } : Jvm.MethodName) prog_18_method_50_code (3 : Nat) (Option.some Jvm.ClassFile.FieldType.int)) ∈ GT := gt_1 (List.mem_of_getElem? (i := 181) (by decide +kernel)) (by decide +kernel)
theorem w1_182 : (Jvm.Cond.methodLink "OperaMachines$Machine" (58 : Nat) ({ cls := "java/lang/Math", name := "min", desc := "(II)I" } : Jvm.MethodName)) ∈ GT := gt_1 (List.mem_of_getElem? (i := 182) (by decide +kernel)) (by decide +kernel)
theorem w1_183 : (Jvm.Cond.static ({ cls := "java/lang/Math", name := "min", desc := "(II)I" } : Jvm.MethodName)) ∈ GT := gt_1 (List.mem_of_getElem? (i := 183) (by decide +kernel)) (by decide +kernel)
theorem w1_184 : (Jvm.Cond.code ({ cls := "java/lang/Math", name := "min", desc := "(II)I" } : Jvm.MethodName) prog_18_method_69_code (2 : Nat) (Option.some Jvm.ClassFile.FieldType.int)) ∈ GT := gt_1 (List.mem_of_getElem? (i := 184) (by decide +kernel)) (by decide +kernel)
theorem w1_185 : (Jvm.Cond.methodLink "OperaMachines$Machine" (61 : Nat) ({ cls := "java/lang/Math", name := "max", desc := "(II)I" } : Jvm.MethodName)) ∈ GT := gt_1 (List.mem_of_getElem? (i := 185) (by decide +kernel)) (by decide +kernel)
theorem w1_186 : (Jvm.Cond.methodLink "OperaMachinesLaw" (125 : Nat) ({ cls := "OperaMachines", name := "meeters", desc := "()I" } : Jvm.MethodName)) ∈ GT := gt_1 (List.mem_of_getElem? (i := 186) (by decide +kernel)) (by decide +kernel)
theorem w1_187 : (Jvm.Cond.instanceMethod ({ cls := "OperaMachines", name := "meeters", desc := "()I" } : Jvm.MethodName)) ∈ GT := gt_1 (List.mem_of_getElem? (i := 187) (by decide +kernel)) (by decide +kernel)
theorem w1_188 : (Jvm.Cond.selects "OperaMachines" ({ cls := "OperaMachines", name := "meeters", desc := "()I" } : Jvm.MethodName) ({ cls := "OperaMachines", name := "meeters", desc := "()I" } : Jvm.MethodName)) ∈ GT := gt_1 (List.mem_of_getElem? (i := 188) (by decide +kernel)) (by decide +kernel)
theorem w1_189 : (Jvm.Cond.code ({ cls := "OperaMachines", name := "meeters", desc := "()I" } : Jvm.MethodName) prog_1_method_16_code (1 : Nat) (Option.some Jvm.ClassFile.FieldType.int)) ∈ GT := gt_1 (List.mem_of_getElem? (i := 189) (by decide +kernel)) (by decide +kernel)
theorem w1_190 : (Jvm.Cond.methodLink "OperaMachinesLaw" (141 : Nat) ({ cls := "OperaMachines", name := "isFine", desc := "()Z" } : Jvm.MethodName)) ∈ GT := gt_1 (List.mem_of_getElem? (i := 190) (by decide +kernel)) (by decide +kernel)
theorem w1_191 : (Jvm.Cond.instanceMethod ({ cls := "OperaMachines", name := "isFine", desc := "()Z" } : Jvm.MethodName)) ∈ GT := gt_1 (List.mem_of_getElem? (i := 191) (by decide +kernel)) (by decide +kernel)
theorem w1_192 : (Jvm.Cond.selects "OperaMachines" ({ cls := "OperaMachines", name := "isFine", desc := "()Z" } : Jvm.MethodName) ({ cls := "OperaMachines", name := "isFine", desc := "()Z" } : Jvm.MethodName)) ∈ GT := gt_1 (List.mem_of_getElem? (i := 192) (by decide +kernel)) (by decide +kernel)
theorem w1_193 : (Jvm.Cond.code ({ cls := "OperaMachines", name := "isFine", desc := "()Z" } : Jvm.MethodName) prog_1_method_21_code (1 : Nat) (Option.some Jvm.ClassFile.FieldType.boolean)) ∈ GT := gt_1 (List.mem_of_getElem? (i := 193) (by decide +kernel)) (by decide +kernel)
theorem w1_194 : (Jvm.Cond.methodLink "OperaMachines" (171 : Nat) ({ cls := "OperaMachines", name := "isFineWith", desc := "(I)Z" } : Jvm.MethodName)) ∈ GT := gt_1 (List.mem_of_getElem? (i := 194) (by decide +kernel)) (by decide +kernel)
theorem w1_195 : (Jvm.Cond.privateMethod ({ cls := "OperaMachines", name := "isFineWith", desc := "(I)Z" } : Jvm.MethodName)) ∈ GT := gt_1 (List.mem_of_getElem? (i := 195) (by decide +kernel)) (by decide +kernel)
theorem w1_196 : (Jvm.Cond.instanceMethod ({ cls := "OperaMachines", name := "isFineWith", desc := "(I)Z" } : Jvm.MethodName)) ∈ GT := gt_1 (List.mem_of_getElem? (i := 196) (by decide +kernel)) (by decide +kernel)
theorem w1_197 : (Jvm.Cond.code ({ cls := "OperaMachines", name := "isFineWith", desc := "(I)Z" } : Jvm.MethodName) prog_1_method_43_code (3 : Nat) (Option.some Jvm.ClassFile.FieldType.boolean)) ∈ GT := gt_1 (List.mem_of_getElem? (i := 197) (by decide +kernel)) (by decide +kernel)
theorem w1_198 : (Jvm.Cond.methodLink "OperaMachines" (156 : Nat) ({ cls := "OperaMachines", name := "planWork", desc := "(I)V" } : Jvm.MethodName)) ∈ GT := gt_1 (List.mem_of_getElem? (i := 198) (by decide +kernel)) (by decide +kernel)
theorem w1_199 : (Jvm.Cond.privateMethod ({ cls := "OperaMachines", name := "planWork", desc := "(I)V" } : Jvm.MethodName)) ∈ GT := gt_1 (List.mem_of_getElem? (i := 199) (by decide +kernel)) (by decide +kernel)
theorem w1_200 : (Jvm.Cond.instanceMethod ({ cls := "OperaMachines", name := "planWork", desc := "(I)V" } : Jvm.MethodName)) ∈ GT := gt_1 (List.mem_of_getElem? (i := 200) (by decide +kernel)) (by decide +kernel)
theorem w1_201 : (Jvm.Cond.code ({ cls := "OperaMachines", name := "planWork", desc := "(I)V" } : Jvm.MethodName) prog_1_method_39_code (4 : Nat) (Option.none : Option Jvm.ClassFile.FieldType)) ∈ GT := gt_1 (List.mem_of_getElem? (i := 201) (by decide +kernel)) (by decide +kernel)
theorem w1_202 : (Jvm.Cond.classLink "OperaMachines" (74 : Nat) "OperaMachines$Cue") ∈ GT := gt_1 (List.mem_of_getElem? (i := 202) (by decide +kernel)) (by decide +kernel)
theorem w1_203 : (Jvm.Cond.methodLink "OperaMachines" (208 : Nat) ({ cls := "OperaMachines$Machine", name := "workThroughBar", desc := "(I)V" } : Jvm.MethodName)) ∈ GT := gt_1 (List.mem_of_getElem? (i := 203) (by decide +kernel)) (by decide +kernel)
theorem w1_204 : (Jvm.Cond.instanceMethod ({ cls := "OperaMachines$Machine", name := "workThroughBar", desc := "(I)V" } : Jvm.MethodName)) ∈ GT := gt_1 (List.mem_of_getElem? (i := 204) (by decide +kernel)) (by decide +kernel)
theorem w1_205 : (Jvm.Cond.selects "OperaMachines$Machine" ({ cls := "OperaMachines$Machine", name := "workThroughBar", desc := "(I)V" } : Jvm.MethodName) ({ cls := "OperaMachines$Machine", name := "workThroughBar", desc := "(I)V" } : Jvm.MethodName)) ∈ GT := gt_1 (List.mem_of_getElem? (i := 205) (by decide +kernel)) (by decide +kernel)
theorem w1_206 : (Jvm.Cond.code ({ cls := "OperaMachines$Machine", name := "workThroughBar", desc := "(I)V" } : Jvm.MethodName) prog_3_method_10_code (2 : Nat) (Option.none : Option Jvm.ClassFile.FieldType)) ∈ GT := gt_1 (List.mem_of_getElem? (i := 206) (by decide +kernel)) (by decide +kernel)
theorem w1_207 : (Jvm.Cond.methodLink "OperaMachines$Machine" (67 : Nat) ({ cls := "OperaMachines$Machine", name := "ticksToTarget", desc := "()I" } : Jvm.MethodName)) ∈ GT := gt_1 (List.mem_of_getElem? (i := 207) (by decide +kernel)) (by decide +kernel)
theorem w1_208 : (Jvm.Cond.instanceMethod ({ cls := "OperaMachines$Machine", name := "ticksToTarget", desc := "()I" } : Jvm.MethodName)) ∈ GT := gt_1 (List.mem_of_getElem? (i := 208) (by decide +kernel)) (by decide +kernel)
theorem w1_209 : (Jvm.Cond.selects "OperaMachines$Machine" ({ cls := "OperaMachines$Machine", name := "ticksToTarget", desc := "()I" } : Jvm.MethodName) ({ cls := "OperaMachines$Machine", name := "ticksToTarget", desc := "()I" } : Jvm.MethodName)) ∈ GT := gt_1 (List.mem_of_getElem? (i := 209) (by decide +kernel)) (by decide +kernel)
theorem w1_210 : (Jvm.Cond.code ({ cls := "OperaMachines$Machine", name := "ticksToTarget", desc := "()I" } : Jvm.MethodName) prog_3_method_8_code (1 : Nat) (Option.some Jvm.ClassFile.FieldType.int)) ∈ GT := gt_1 (List.mem_of_getElem? (i := 210) (by decide +kernel)) (by decide +kernel)
theorem w1_211 : (Jvm.Cond.methodLink "OperaMachines$Machine" (70 : Nat) ({ cls := "OperaMachines$Machine", name := "go", desc := "(I)Z" } : Jvm.MethodName)) ∈ GT := gt_1 (List.mem_of_getElem? (i := 211) (by decide +kernel)) (by decide +kernel)
theorem w1_212 : (Jvm.Cond.methodLink "OperaMachines" (211 : Nat) ({ cls := "OperaMachines", name := "plannedAllManned", desc := "()Z" } : Jvm.MethodName)) ∈ GT := gt_1 (List.mem_of_getElem? (i := 212) (by decide +kernel)) (by decide +kernel)
theorem w1_213 : (Jvm.Cond.privateMethod ({ cls := "OperaMachines", name := "plannedAllManned", desc := "()Z" } : Jvm.MethodName)) ∈ GT := gt_1 (List.mem_of_getElem? (i := 213) (by decide +kernel)) (by decide +kernel)
theorem w1_214 : (Jvm.Cond.instanceMethod ({ cls := "OperaMachines", name := "plannedAllManned", desc := "()Z" } : Jvm.MethodName)) ∈ GT := gt_1 (List.mem_of_getElem? (i := 214) (by decide +kernel)) (by decide +kernel)
theorem w1_215 : (Jvm.Cond.code ({ cls := "OperaMachines", name := "plannedAllManned", desc := "()Z" } : Jvm.MethodName) prog_1_method_41_code (3 : Nat) (Option.some Jvm.ClassFile.FieldType.boolean)) ∈ GT := gt_1 (List.mem_of_getElem? (i := 215) (by decide +kernel)) (by decide +kernel)
theorem w1_216 : (Jvm.Cond.methodLink "OperaMachines" (152 : Nat) ({ cls := "OperaMachines", name := "workerTonight", desc := "(LOperaMachines$Cue;)I" } : Jvm.MethodName)) ∈ GT := gt_1 (List.mem_of_getElem? (i := 216) (by decide +kernel)) (by decide +kernel)
theorem w1_217 : (Jvm.Cond.privateMethod ({ cls := "OperaMachines", name := "workerTonight", desc := "(LOperaMachines$Cue;)I" } : Jvm.MethodName)) ∈ GT := gt_1 (List.mem_of_getElem? (i := 217) (by decide +kernel)) (by decide +kernel)
theorem w1_218 : (Jvm.Cond.instanceMethod ({ cls := "OperaMachines", name := "workerTonight", desc := "(LOperaMachines$Cue;)I" } : Jvm.MethodName)) ∈ GT := gt_1 (List.mem_of_getElem? (i := 218) (by decide +kernel)) (by decide +kernel)
theorem w1_219 : (Jvm.Cond.code ({ cls := "OperaMachines", name := "workerTonight", desc := "(LOperaMachines$Cue;)I" } : Jvm.MethodName) prog_1_method_38_code (4 : Nat) (Option.some Jvm.ClassFile.FieldType.int)) ∈ GT := gt_1 (List.mem_of_getElem? (i := 219) (by decide +kernel)) (by decide +kernel)
theorem w1_220 : (Jvm.Cond.methodLink "OperaMachines" (97 : Nat) ({ cls := "OperaMachines", name := "isWorker", desc := "(I)Z" } : Jvm.MethodName)) ∈ GT := gt_1 (List.mem_of_getElem? (i := 220) (by decide +kernel)) (by decide +kernel)
theorem w1_221 : (Jvm.Cond.static ({ cls := "OperaMachines", name := "isWorker", desc := "(I)Z" } : Jvm.MethodName)) ∈ GT := gt_1 (List.mem_of_getElem? (i := 221) (by decide +kernel)) (by decide +kernel)
theorem w1_222 : (Jvm.Cond.code ({ cls := "OperaMachines", name := "isWorker", desc := "(I)Z" } : Jvm.MethodName) prog_1_method_24_code (1 : Nat) (Option.some Jvm.ClassFile.FieldType.boolean)) ∈ GT := gt_1 (List.mem_of_getElem? (i := 222) (by decide +kernel)) (by decide +kernel)
theorem w1_223 : (Jvm.Cond.methodLink "OperaMachines" (46 : Nat) ({ cls := "OperaMachines", name := "within", desc := "(III)Z" } : Jvm.MethodName)) ∈ GT := gt_1 (List.mem_of_getElem? (i := 223) (by decide +kernel)) (by decide +kernel)
theorem w1_224 : (Jvm.Cond.static ({ cls := "OperaMachines", name := "within", desc := "(III)Z" } : Jvm.MethodName)) ∈ GT := gt_1 (List.mem_of_getElem? (i := 224) (by decide +kernel)) (by decide +kernel)
theorem w1_225 : (Jvm.Cond.code ({ cls := "OperaMachines", name := "within", desc := "(III)Z" } : Jvm.MethodName) prog_1_method_23_code (3 : Nat) (Option.some Jvm.ClassFile.FieldType.boolean)) ∈ GT := gt_1 (List.mem_of_getElem? (i := 225) (by decide +kernel)) (by decide +kernel)
theorem w1_226 : (Jvm.Cond.methodLink "OperaMachines" (214 : Nat) ({ cls := "OperaMachines", name := "plannedWithoutClash", desc := "(I)Z" } : Jvm.MethodName)) ∈ GT := gt_1 (List.mem_of_getElem? (i := 226) (by decide +kernel)) (by decide +kernel)
theorem w1_227 : (Jvm.Cond.privateMethod ({ cls := "OperaMachines", name := "plannedWithoutClash", desc := "(I)Z" } : Jvm.MethodName)) ∈ GT := gt_1 (List.mem_of_getElem? (i := 227) (by decide +kernel)) (by decide +kernel)
theorem w1_228 : (Jvm.Cond.instanceMethod ({ cls := "OperaMachines", name := "plannedWithoutClash", desc := "(I)Z" } : Jvm.MethodName)) ∈ GT := gt_1 (List.mem_of_getElem? (i := 228) (by decide +kernel)) (by decide +kernel)
theorem w1_229 : (Jvm.Cond.code ({ cls := "OperaMachines", name := "plannedWithoutClash", desc := "(I)Z" } : Jvm.MethodName) prog_1_method_42_code (3 : Nat) (Option.some Jvm.ClassFile.FieldType.boolean)) ∈ GT := gt_1 (List.mem_of_getElem? (i := 229) (by decide +kernel)) (by decide +kernel)
theorem w1_230 : (Jvm.Cond.methodLink "OperaMachines" (162 : Nat) ({ cls := "OperaMachines", name := "plannedClashes", desc := "(II)I" } : Jvm.MethodName)) ∈ GT := gt_1 (List.mem_of_getElem? (i := 230) (by decide +kernel)) (by decide +kernel)
theorem w1_231 : (Jvm.Cond.privateMethod ({ cls := "OperaMachines", name := "plannedClashes", desc := "(II)I" } : Jvm.MethodName)) ∈ GT := gt_1 (List.mem_of_getElem? (i := 231) (by decide +kernel)) (by decide +kernel)
theorem w1_232 : (Jvm.Cond.instanceMethod ({ cls := "OperaMachines", name := "plannedClashes", desc := "(II)I" } : Jvm.MethodName)) ∈ GT := gt_1 (List.mem_of_getElem? (i := 232) (by decide +kernel)) (by decide +kernel)
theorem w1_233 : (Jvm.Cond.code ({ cls := "OperaMachines", name := "plannedClashes", desc := "(II)I" } : Jvm.MethodName) prog_1_method_40_code (9 : Nat) (Option.some Jvm.ClassFile.FieldType.int)) ∈ GT := gt_1 (List.mem_of_getElem? (i := 233) (by decide +kernel)) (by decide +kernel)
theorem w1_234 : (Jvm.Cond.methodLink "OperaMachinesLaw" (146 : Nat) ({ cls := "OperaMachines", name := "fastest", desc := "()I" } : Jvm.MethodName)) ∈ GT := gt_1 (List.mem_of_getElem? (i := 234) (by decide +kernel)) (by decide +kernel)
theorem w1_235 : (Jvm.Cond.instanceMethod ({ cls := "OperaMachines", name := "fastest", desc := "()I" } : Jvm.MethodName)) ∈ GT := gt_1 (List.mem_of_getElem? (i := 235) (by decide +kernel)) (by decide +kernel)
theorem w1_236 : (Jvm.Cond.selects "OperaMachines" ({ cls := "OperaMachines", name := "fastest", desc := "()I" } : Jvm.MethodName) ({ cls := "OperaMachines", name := "fastest", desc := "()I" } : Jvm.MethodName)) ∈ GT := gt_1 (List.mem_of_getElem? (i := 236) (by decide +kernel)) (by decide +kernel)
theorem w1_237 : (Jvm.Cond.code ({ cls := "OperaMachines", name := "fastest", desc := "()I" } : Jvm.MethodName) prog_1_method_22_code (2 : Nat) (Option.some Jvm.ClassFile.FieldType.int)) ∈ GT := gt_1 (List.mem_of_getElem? (i := 237) (by decide +kernel)) (by decide +kernel)
theorem w1_238 : (Jvm.Cond.methodLink "OperaMachinesLaw" (69 : Nat) ({ cls := "OperaMachinesLaw", name := "wagon", desc := "(LOperaMachines;IIII[J)I" } : Jvm.MethodName)) ∈ GT := gt_1 (List.mem_of_getElem? (i := 238) (by decide +kernel)) (by decide +kernel)
theorem w1_239 : (Jvm.Cond.static ({ cls := "OperaMachinesLaw", name := "wagon", desc := "(LOperaMachines;IIII[J)I" } : Jvm.MethodName)) ∈ GT := gt_1 (List.mem_of_getElem? (i := 239) (by decide +kernel)) (by decide +kernel)
theorem w2_0 : (Jvm.Cond.codeWith ({ cls := "OperaMachinesLaw", name := "wagon", desc := "(LOperaMachines;IIII[J)I" } : Jvm.MethodName) method_3_code (7 : Nat) (Option.some Jvm.ClassFile.FieldType.int) [((0 : Nat), (14 : Nat), (17 : Nat), (13 : Nat)), ((0 : Nat), (14 : Nat), (21 : Nat), (15 : Nat))]) ∈ GT := gt_2 (List.mem_of_getElem? (i := 0) (by decide +kernel)) (by decide +kernel)
theorem w2_1 : (Jvm.Cond.classLink "OperaMachinesLaw" (13 : Nat) "java/lang/IllegalArgumentException") ∈ GT := gt_2 (List.mem_of_getElem? (i := 1) (by decide +kernel)) (by decide +kernel)
theorem w2_2 : (Jvm.Cond.classLink "OperaMachinesLaw" (15 : Nat) "java/lang/IllegalStateException") ∈ GT := gt_2 (List.mem_of_getElem? (i := 2) (by decide +kernel)) (by decide +kernel)
theorem w2_3 : (Jvm.Cond.methodLink "OperaMachinesLaw" (7 : Nat) ({ cls := "OperaMachines", name := "wagon", desc := "(IIII)I" } : Jvm.MethodName)) ∈ GT := gt_2 (List.mem_of_getElem? (i := 3) (by decide +kernel)) (by decide +kernel)
theorem w2_4 : (Jvm.Cond.instanceMethod ({ cls := "OperaMachines", name := "wagon", desc := "(IIII)I" } : Jvm.MethodName)) ∈ GT := gt_2 (List.mem_of_getElem? (i := 4) (by decide +kernel)) (by decide +kernel)
theorem w2_5 : (Jvm.Cond.selects "OperaMachines" ({ cls := "OperaMachines", name := "wagon", desc := "(IIII)I" } : Jvm.MethodName) ({ cls := "OperaMachines", name := "wagon", desc := "(IIII)I" } : Jvm.MethodName)) ∈ GT := gt_2 (List.mem_of_getElem? (i := 5) (by decide +kernel)) (by decide +kernel)
theorem w2_6 : (Jvm.Cond.code ({ cls := "OperaMachines", name := "wagon", desc := "(IIII)I" } : Jvm.MethodName) prog_1_method_2_code (5 : Nat) (Option.some Jvm.ClassFile.FieldType.int)) ∈ GT := gt_2 (List.mem_of_getElem? (i := 6) (by decide +kernel)) (by decide +kernel)
theorem w2_7 : (Jvm.Cond.methodLink "OperaMachines" (50 : Nat) ({ cls := "OperaMachines", name := "allow", desc := "(Z)V" } : Jvm.MethodName)) ∈ GT := gt_2 (List.mem_of_getElem? (i := 7) (by decide +kernel)) (by decide +kernel)
theorem w2_8 : (Jvm.Cond.static ({ cls := "OperaMachines", name := "allow", desc := "(Z)V" } : Jvm.MethodName)) ∈ GT := gt_2 (List.mem_of_getElem? (i := 8) (by decide +kernel)) (by decide +kernel)
theorem w2_9 : (Jvm.Cond.code ({ cls := "OperaMachines", name := "allow", desc := "(Z)V" } : Jvm.MethodName) prog_1_method_25_code (1 : Nat) (Option.none : Option Jvm.ClassFile.FieldType)) ∈ GT := gt_2 (List.mem_of_getElem? (i := 9) (by decide +kernel)) (by decide +kernel)
theorem w2_10 : (Jvm.Cond.classLink "OperaMachines" (174 : Nat) "java/lang/IllegalArgumentException") ∈ GT := gt_2 (List.mem_of_getElem? (i := 10) (by decide +kernel)) (by decide +kernel)
theorem w2_11 : (Jvm.Cond.instantiable "java/lang/IllegalArgumentException" (6 : Nat)) ∈ GT := gt_2 (List.mem_of_getElem? (i := 11) (by decide +kernel)) (by decide +kernel)
theorem w2_12 : (Jvm.Cond.castable "java/lang/IllegalArgumentException" "java/lang/IllegalArgumentException") ∈ GT := gt_2 (List.mem_of_getElem? (i := 12) (by decide +kernel)) (by decide +kernel)
theorem w2_13 : (Jvm.Cond.declares ({ cls := "java/lang/RuntimeException", name := "<init>", desc := "()V" } : Jvm.MethodName)) ∈ GT := gt_2 (List.mem_of_getElem? (i := 13) (by decide +kernel)) (by decide +kernel)
theorem w2_14 : (Jvm.Cond.declares ({ cls := "java/lang/RuntimeException", name := "<init>", desc := "(Ljava/lang/String;)V" } : Jvm.MethodName)) ∈ GT := gt_2 (List.mem_of_getElem? (i := 14) (by decide +kernel)) (by decide +kernel)
theorem w2_15 : (Jvm.Cond.declares ({ cls := "java/lang/Exception", name := "<init>", desc := "()V" } : Jvm.MethodName)) ∈ GT := gt_2 (List.mem_of_getElem? (i := 15) (by decide +kernel)) (by decide +kernel)
theorem w2_16 : (Jvm.Cond.declares ({ cls := "java/lang/Exception", name := "<init>", desc := "(Ljava/lang/String;)V" } : Jvm.MethodName)) ∈ GT := gt_2 (List.mem_of_getElem? (i := 16) (by decide +kernel)) (by decide +kernel)
theorem w2_17 : (Jvm.Cond.declares ({ cls := "java/lang/Throwable", name := "<init>", desc := "()V" } : Jvm.MethodName)) ∈ GT := gt_2 (List.mem_of_getElem? (i := 17) (by decide +kernel)) (by decide +kernel)
theorem w2_18 : (Jvm.Cond.declares ({ cls := "java/lang/Throwable", name := "<init>", desc := "(Ljava/lang/String;)V" } : Jvm.MethodName)) ∈ GT := gt_2 (List.mem_of_getElem? (i := 18) (by decide +kernel)) (by decide +kernel)
theorem w2_19 : (Jvm.Cond.selects "java/lang/IllegalArgumentException" ({ cls := "java/lang/Throwable", name := "fillInStackTrace", desc := "(I)Ljava/lang/Throwable;" } : Jvm.MethodName) ({ cls := "java/lang/Throwable", name := "fillInStackTrace", desc := "(I)Ljava/lang/Throwable;" } : Jvm.MethodName)) ∈ GT := gt_2 (List.mem_of_getElem? (i := 19) (by decide +kernel)) (by decide +kernel)
theorem w2_20 : (Jvm.Cond.selects "java/lang/IllegalArgumentException" ({ cls := "java/lang/Throwable", name := "fillInStackTrace", desc := "()Ljava/lang/Throwable;" } : Jvm.MethodName) ({ cls := "java/lang/Throwable", name := "fillInStackTrace", desc := "()Ljava/lang/Throwable;" } : Jvm.MethodName)) ∈ GT := gt_2 (List.mem_of_getElem? (i := 20) (by decide +kernel)) (by decide +kernel)
theorem w2_21 : (Jvm.Cond.lays "java/lang/IllegalArgumentException" "java/lang/Throwable" "cause" "Ljava/lang/Throwable;") ∈ GT := gt_2 (List.mem_of_getElem? (i := 21) (by decide +kernel)) (by decide +kernel)
theorem w2_22 : (Jvm.Cond.lays "java/lang/Throwable" "java/lang/Throwable" "cause" "Ljava/lang/Throwable;") ∈ GT := gt_2 (List.mem_of_getElem? (i := 22) (by decide +kernel)) (by decide +kernel)
theorem w2_23 : (Jvm.Cond.lays "java/lang/IllegalArgumentException" "java/lang/Throwable" "stackTrace" "[Ljava/lang/StackTraceElement;") ∈ GT := gt_2 (List.mem_of_getElem? (i := 23) (by decide +kernel)) (by decide +kernel)
theorem w2_24 : (Jvm.Cond.lays "java/lang/Throwable" "java/lang/Throwable" "stackTrace" "[Ljava/lang/StackTraceElement;") ∈ GT := gt_2 (List.mem_of_getElem? (i := 24) (by decide +kernel)) (by decide +kernel)
theorem w2_25 : (Jvm.Cond.lays "java/lang/IllegalArgumentException" "java/lang/Throwable" "suppressedExceptions" "Ljava/util/List;") ∈ GT := gt_2 (List.mem_of_getElem? (i := 25) (by decide +kernel)) (by decide +kernel)
theorem w2_26 : (Jvm.Cond.lays "java/lang/Throwable" "java/lang/Throwable" "suppressedExceptions" "Ljava/util/List;") ∈ GT := gt_2 (List.mem_of_getElem? (i := 26) (by decide +kernel)) (by decide +kernel)
theorem w2_27 : (Jvm.Cond.lays "java/lang/IllegalArgumentException" "java/lang/Throwable" "detailMessage" "Ljava/lang/String;") ∈ GT := gt_2 (List.mem_of_getElem? (i := 27) (by decide +kernel)) (by decide +kernel)
theorem w2_28 : (Jvm.Cond.lays "java/lang/Throwable" "java/lang/Throwable" "detailMessage" "Ljava/lang/String;") ∈ GT := gt_2 (List.mem_of_getElem? (i := 28) (by decide +kernel)) (by decide +kernel)
theorem w2_29 : (Jvm.Cond.lays "java/lang/IllegalArgumentException" "java/lang/Throwable" "backtrace" "Ljava/lang/Object;") ∈ GT := gt_2 (List.mem_of_getElem? (i := 29) (by decide +kernel)) (by decide +kernel)
theorem w2_30 : (Jvm.Cond.lays "java/lang/Throwable" "java/lang/Throwable" "backtrace" "Ljava/lang/Object;") ∈ GT := gt_2 (List.mem_of_getElem? (i := 30) (by decide +kernel)) (by decide +kernel)
theorem w2_31 : (Jvm.Cond.fieldLink "java/lang/Throwable" (198 : Nat) "java/lang/Throwable" "backtrace" "Ljava/lang/Object;") ∈ GT := gt_2 (List.mem_of_getElem? (i := 31) (by decide +kernel)) (by decide +kernel)
theorem w2_32 : (Jvm.Cond.superclass "java/lang/Throwable" "java/lang/Object") ∈ GT := gt_2 (List.mem_of_getElem? (i := 32) (by decide +kernel)) (by decide +kernel)
theorem w2_33 : (Jvm.Cond.instanceMethod ({ cls := "java/lang/Throwable", name := "<init>", desc := "()V" } : Jvm.MethodName)) ∈ GT := gt_2 (List.mem_of_getElem? (i := 33) (by decide +kernel)) (by decide +kernel)
theorem w2_34 : (Jvm.Cond.code ({ cls := "java/lang/Throwable", name := "<init>", desc := "()V" } : Jvm.MethodName) prog_26_method_1_code (1 : Nat) (Option.none : Option Jvm.ClassFile.FieldType)) ∈ GT := gt_2 (List.mem_of_getElem? (i := 34) (by decide +kernel)) (by decide +kernel)
theorem w2_35 : (Jvm.Cond.methodLink "java/lang/Throwable" (1 : Nat) ({ cls := "java/lang/Object", name := "<init>", desc := "()V" } : Jvm.MethodName)) ∈ GT := gt_2 (List.mem_of_getElem? (i := 35) (by decide +kernel)) (by decide +kernel)
theorem w2_36 : (Jvm.Cond.fieldLink "java/lang/Throwable" (13 : Nat) "java/lang/Throwable" "UNASSIGNED_STACK" "[Ljava/lang/StackTraceElement;") ∈ GT := gt_2 (List.mem_of_getElem? (i := 36) (by decide +kernel)) (by decide +kernel)
theorem w2_38 : (Jvm.Cond.fieldLink "java/lang/Throwable" (20 : Nat) "java/lang/Throwable" "SUPPRESSED_SENTINEL" "Ljava/util/List;") ∈ GT := gt_2 (List.mem_of_getElem? (i := 38) (by decide +kernel)) (by decide +kernel)
theorem w2_40 : (Jvm.Cond.methodLink "java/lang/Throwable" (27 : Nat) ({ cls := "java/lang/Throwable", name := "fillInStackTrace", desc := "()Ljava/lang/Throwable;" } : Jvm.MethodName)) ∈ GT := gt_2 (List.mem_of_getElem? (i := 40) (by decide +kernel)) (by decide +kernel)
theorem w2_41 : (Jvm.Cond.instanceMethod ({ cls := "java/lang/Throwable", name := "fillInStackTrace", desc := "()Ljava/lang/Throwable;" } : Jvm.MethodName)) ∈ GT := gt_2 (List.mem_of_getElem? (i := 41) (by decide +kernel)) (by decide +kernel)
theorem w2_42 : (Jvm.Cond.sameMethod "java/lang/Throwable" "java/lang/Throwable" "fillInStackTrace" "()Ljava/lang/Throwable;") ∈ GT := gt_2 (List.mem_of_getElem? (i := 42) (by decide +kernel)) (by decide +kernel)
theorem w2_43 : (Jvm.Cond.selects "java/lang/IllegalStateException" ({ cls := "java/lang/Throwable", name := "fillInStackTrace", desc := "()Ljava/lang/Throwable;" } : Jvm.MethodName) ({ cls := "java/lang/Throwable", name := "fillInStackTrace", desc := "()Ljava/lang/Throwable;" } : Jvm.MethodName)) ∈ GT := gt_2 (List.mem_of_getElem? (i := 43) (by decide +kernel)) (by decide +kernel)
theorem w2_44 : (Jvm.Cond.selects "java/lang/IndexOutOfBoundsException" ({ cls := "java/lang/Throwable", name := "fillInStackTrace", desc := "()Ljava/lang/Throwable;" } : Jvm.MethodName) ({ cls := "java/lang/Throwable", name := "fillInStackTrace", desc := "()Ljava/lang/Throwable;" } : Jvm.MethodName)) ∈ GT := gt_2 (List.mem_of_getElem? (i := 44) (by decide +kernel)) (by decide +kernel)
theorem w2_46 : (Jvm.Cond.methodLink "java/lang/Throwable" (202 : Nat) ({ cls := "java/lang/Throwable", name := "fillInStackTrace", desc := "(I)Ljava/lang/Throwable;" } : Jvm.MethodName)) ∈ GT := gt_2 (List.mem_of_getElem? (i := 46) (by decide +kernel)) (by decide +kernel)
theorem w2_47 : (Jvm.Cond.privateMethod ({ cls := "java/lang/Throwable", name := "fillInStackTrace", desc := "(I)Ljava/lang/Throwable;" } : Jvm.MethodName)) ∈ GT := gt_2 (List.mem_of_getElem? (i := 47) (by decide +kernel)) (by decide +kernel)
theorem w2_48 : (Jvm.Cond.instanceMethod ({ cls := "java/lang/Throwable", name := "fillInStackTrace", desc := "(I)Ljava/lang/Throwable;" } : Jvm.MethodName)) ∈ GT := gt_2 (List.mem_of_getElem? (i := 48) (by decide +kernel)) (by decide +kernel)
theorem w2_49 : (Jvm.Cond.instantiable "java/lang/Throwable" (6 : Nat)) ∈ GT := gt_2 (List.mem_of_getElem? (i := 49) (by decide +kernel)) (by decide +kernel)
theorem w2_50 : (Jvm.Cond.native ({ cls := "java/lang/Throwable", name := "fillInStackTrace", desc := "(I)Ljava/lang/Throwable;" } : Jvm.MethodName)) ∈ GT := gt_2 (List.mem_of_getElem? (i := 50) (by decide +kernel)) (by decide +kernel)
theorem w2_52 : (Jvm.Cond.methodLink "OperaMachines" (178 : Nat) ({ cls := "java/lang/IllegalArgumentException", name := "<init>", desc := "(Ljava/lang/String;)V" } : Jvm.MethodName)) ∈ GT := gt_2 (List.mem_of_getElem? (i := 52) (by decide +kernel)) (by decide +kernel)
theorem w2_53 : (Jvm.Cond.instanceMethod ({ cls := "java/lang/IllegalArgumentException", name := "<init>", desc := "(Ljava/lang/String;)V" } : Jvm.MethodName)) ∈ GT := gt_2 (List.mem_of_getElem? (i := 53) (by decide +kernel)) (by decide +kernel)
theorem w2_54 : (Jvm.Cond.code ({ cls := "java/lang/IllegalArgumentException", name := "<init>", desc := "(Ljava/lang/String;)V" } : Jvm.MethodName) prog_13_method_2_code (2 : Nat) (Option.none : Option Jvm.ClassFile.FieldType)) ∈ GT := gt_2 (List.mem_of_getElem? (i := 54) (by decide +kernel)) (by decide +kernel)
theorem w2_55 : (Jvm.Cond.methodLink "java/lang/IllegalArgumentException" (7 : Nat) ({ cls := "java/lang/RuntimeException", name := "<init>", desc := "(Ljava/lang/String;)V" } : Jvm.MethodName)) ∈ GT := gt_2 (List.mem_of_getElem? (i := 55) (by decide +kernel)) (by decide +kernel)
theorem w2_56 : (Jvm.Cond.instanceMethod ({ cls := "java/lang/RuntimeException", name := "<init>", desc := "(Ljava/lang/String;)V" } : Jvm.MethodName)) ∈ GT := gt_2 (List.mem_of_getElem? (i := 56) (by decide +kernel)) (by decide +kernel)
theorem w2_57 : (Jvm.Cond.code ({ cls := "java/lang/RuntimeException", name := "<init>", desc := "(Ljava/lang/String;)V" } : Jvm.MethodName) prog_20_method_2_code (2 : Nat) (Option.none : Option Jvm.ClassFile.FieldType)) ∈ GT := gt_2 (List.mem_of_getElem? (i := 57) (by decide +kernel)) (by decide +kernel)
theorem w2_58 : (Jvm.Cond.methodLink "java/lang/RuntimeException" (7 : Nat) ({ cls := "java/lang/Exception", name := "<init>", desc := "(Ljava/lang/String;)V" } : Jvm.MethodName)) ∈ GT := gt_2 (List.mem_of_getElem? (i := 58) (by decide +kernel)) (by decide +kernel)
theorem w2_59 : (Jvm.Cond.instanceMethod ({ cls := "java/lang/Exception", name := "<init>", desc := "(Ljava/lang/String;)V" } : Jvm.MethodName)) ∈ GT := gt_2 (List.mem_of_getElem? (i := 59) (by decide +kernel)) (by decide +kernel)
theorem w2_60 : (Jvm.Cond.code ({ cls := "java/lang/Exception", name := "<init>", desc := "(Ljava/lang/String;)V" } : Jvm.MethodName) prog_12_method_2_code (2 : Nat) (Option.none : Option Jvm.ClassFile.FieldType)) ∈ GT := gt_2 (List.mem_of_getElem? (i := 60) (by decide +kernel)) (by decide +kernel)
theorem w2_61 : (Jvm.Cond.methodLink "java/lang/Exception" (7 : Nat) ({ cls := "java/lang/Throwable", name := "<init>", desc := "(Ljava/lang/String;)V" } : Jvm.MethodName)) ∈ GT := gt_2 (List.mem_of_getElem? (i := 61) (by decide +kernel)) (by decide +kernel)
theorem w2_62 : (Jvm.Cond.instanceMethod ({ cls := "java/lang/Throwable", name := "<init>", desc := "(Ljava/lang/String;)V" } : Jvm.MethodName)) ∈ GT := gt_2 (List.mem_of_getElem? (i := 62) (by decide +kernel)) (by decide +kernel)
theorem w2_63 : (Jvm.Cond.code ({ cls := "java/lang/Throwable", name := "<init>", desc := "(Ljava/lang/String;)V" } : Jvm.MethodName) prog_26_method_2_code (2 : Nat) (Option.none : Option Jvm.ClassFile.FieldType)) ∈ GT := gt_2 (List.mem_of_getElem? (i := 63) (by decide +kernel)) (by decide +kernel)
theorem w2_64 : (Jvm.Cond.fieldLink "java/lang/Throwable" (198 : Nat) "java/lang/Throwable" "backtrace" "Ljava/lang/Object;") ∈ GT := gt_2 (List.mem_of_getElem? (i := 64) (by decide +kernel)) (by decide +kernel)
theorem w2_65 : (Jvm.Cond.fieldLink "java/lang/Throwable" (31 : Nat) "java/lang/Throwable" "detailMessage" "Ljava/lang/String;") ∈ GT := gt_2 (List.mem_of_getElem? (i := 65) (by decide +kernel)) (by decide +kernel)
theorem w2_66 : (Jvm.Cond.fieldLink "java/lang/Throwable" (7 : Nat) "java/lang/Throwable" "cause" "Ljava/lang/Throwable;") ∈ GT := gt_2 (List.mem_of_getElem? (i := 66) (by decide +kernel)) (by decide +kernel)
theorem w2_67 : (Jvm.Cond.fieldLink "java/lang/Throwable" (17 : Nat) "java/lang/Throwable" "stackTrace" "[Ljava/lang/StackTraceElement;") ∈ GT := gt_2 (List.mem_of_getElem? (i := 67) (by decide +kernel)) (by decide +kernel)
theorem w2_68 : (Jvm.Cond.fieldLink "java/lang/Throwable" (24 : Nat) "java/lang/Throwable" "suppressedExceptions" "Ljava/util/List;") ∈ GT := gt_2 (List.mem_of_getElem? (i := 68) (by decide +kernel)) (by decide +kernel)
theorem w2_73 : (Jvm.Cond.lays "java/lang/IllegalArgumentException" "java/lang/Throwable" "depth" "I") ∈ GT := gt_2 (List.mem_of_getElem? (i := 73) (by decide +kernel)) (by decide +kernel)
theorem w2_76 : (Jvm.Cond.superclass "java/lang/IllegalArgumentException" "java/lang/RuntimeException") ∈ GT := gt_2 (List.mem_of_getElem? (i := 76) (by decide +kernel)) (by decide +kernel)
theorem w2_77 : (Jvm.Cond.arrayClass Jvm.ClassFile.FieldType.byte) ∈ GT := gt_2 (List.mem_of_getElem? (i := 77) (by decide +kernel)) (by decide +kernel)
theorem w2_78 : (Jvm.Cond.methodLink "OperaMachines" (54 : Nat) ({ cls := "OperaMachines", name := "needRoomForMachine", desc := "()V" } : Jvm.MethodName)) ∈ GT := gt_2 (List.mem_of_getElem? (i := 78) (by decide +kernel)) (by decide +kernel)
theorem w2_79 : (Jvm.Cond.privateMethod ({ cls := "OperaMachines", name := "needRoomForMachine", desc := "()V" } : Jvm.MethodName)) ∈ GT := gt_2 (List.mem_of_getElem? (i := 79) (by decide +kernel)) (by decide +kernel)
theorem w2_80 : (Jvm.Cond.instanceMethod ({ cls := "OperaMachines", name := "needRoomForMachine", desc := "()V" } : Jvm.MethodName)) ∈ GT := gt_2 (List.mem_of_getElem? (i := 80) (by decide +kernel)) (by decide +kernel)
theorem w2_81 : (Jvm.Cond.code ({ cls := "OperaMachines", name := "needRoomForMachine", desc := "()V" } : Jvm.MethodName) prog_1_method_28_code (1 : Nat) (Option.none : Option Jvm.ClassFile.FieldType)) ∈ GT := gt_2 (List.mem_of_getElem? (i := 81) (by decide +kernel)) (by decide +kernel)
theorem w2_82 : (Jvm.Cond.classLink "OperaMachines" (83 : Nat) "java/lang/IllegalStateException") ∈ GT := gt_2 (List.mem_of_getElem? (i := 82) (by decide +kernel)) (by decide +kernel)
theorem w2_83 : (Jvm.Cond.instantiable "java/lang/IllegalStateException" (6 : Nat)) ∈ GT := gt_2 (List.mem_of_getElem? (i := 83) (by decide +kernel)) (by decide +kernel)
theorem w2_84 : (Jvm.Cond.castable "java/lang/IllegalStateException" "java/lang/IllegalStateException") ∈ GT := gt_2 (List.mem_of_getElem? (i := 84) (by decide +kernel)) (by decide +kernel)
theorem w2_85 : (Jvm.Cond.selects "java/lang/IllegalStateException" ({ cls := "java/lang/Throwable", name := "fillInStackTrace", desc := "(I)Ljava/lang/Throwable;" } : Jvm.MethodName) ({ cls := "java/lang/Throwable", name := "fillInStackTrace", desc := "(I)Ljava/lang/Throwable;" } : Jvm.MethodName)) ∈ GT := gt_2 (List.mem_of_getElem? (i := 85) (by decide +kernel)) (by decide +kernel)
theorem w2_86 : (Jvm.Cond.lays "java/lang/IllegalStateException" "java/lang/Throwable" "cause" "Ljava/lang/Throwable;") ∈ GT := gt_2 (List.mem_of_getElem? (i := 86) (by decide +kernel)) (by decide +kernel)
theorem w2_87 : (Jvm.Cond.lays "java/lang/IllegalStateException" "java/lang/Throwable" "stackTrace" "[Ljava/lang/StackTraceElement;") ∈ GT := gt_2 (List.mem_of_getElem? (i := 87) (by decide +kernel)) (by decide +kernel)
theorem w2_88 : (Jvm.Cond.lays "java/lang/IllegalStateException" "java/lang/Throwable" "suppressedExceptions" "Ljava/util/List;") ∈ GT := gt_2 (List.mem_of_getElem? (i := 88) (by decide +kernel)) (by decide +kernel)
theorem w2_89 : (Jvm.Cond.lays "java/lang/IllegalStateException" "java/lang/Throwable" "detailMessage" "Ljava/lang/String;") ∈ GT := gt_2 (List.mem_of_getElem? (i := 89) (by decide +kernel)) (by decide +kernel)
theorem w2_90 : (Jvm.Cond.lays "java/lang/IllegalStateException" "java/lang/Throwable" "backtrace" "Ljava/lang/Object;") ∈ GT := gt_2 (List.mem_of_getElem? (i := 90) (by decide +kernel)) (by decide +kernel)
theorem w2_92 : (Jvm.Cond.methodLink "OperaMachines" (87 : Nat) ({ cls := "java/lang/IllegalStateException", name := "<init>", desc := "(Ljava/lang/String;)V" } : Jvm.MethodName)) ∈ GT := gt_2 (List.mem_of_getElem? (i := 92) (by decide +kernel)) (by decide +kernel)
theorem w2_93 : (Jvm.Cond.instanceMethod ({ cls := "java/lang/IllegalStateException", name := "<init>", desc := "(Ljava/lang/String;)V" } : Jvm.MethodName)) ∈ GT := gt_2 (List.mem_of_getElem? (i := 93) (by decide +kernel)) (by decide +kernel)
theorem w2_94 : (Jvm.Cond.code ({ cls := "java/lang/IllegalStateException", name := "<init>", desc := "(Ljava/lang/String;)V" } : Jvm.MethodName) prog_14_method_2_code (2 : Nat) (Option.none : Option Jvm.ClassFile.FieldType)) ∈ GT := gt_2 (List.mem_of_getElem? (i := 94) (by decide +kernel)) (by decide +kernel)
theorem w2_95 : (Jvm.Cond.methodLink "java/lang/IllegalStateException" (7 : Nat) ({ cls := "java/lang/RuntimeException", name := "<init>", desc := "(Ljava/lang/String;)V" } : Jvm.MethodName)) ∈ GT := gt_2 (List.mem_of_getElem? (i := 95) (by decide +kernel)) (by decide +kernel)
theorem w2_96 : (Jvm.Cond.lays "java/lang/IllegalStateException" "java/lang/Throwable" "depth" "I") ∈ GT := gt_2 (List.mem_of_getElem? (i := 96) (by decide +kernel)) (by decide +kernel)
theorem w2_97 : (Jvm.Cond.superclass "java/lang/IllegalStateException" "java/lang/RuntimeException") ∈ GT := gt_2 (List.mem_of_getElem? (i := 97) (by decide +kernel)) (by decide +kernel)
theorem w2_98 : (Jvm.Cond.instantiable "OperaMachines$Machine" (7 : Nat)) ∈ GT := gt_2 (List.mem_of_getElem? (i := 98) (by decide +kernel)) (by decide +kernel)
theorem w2_99 : (Jvm.Cond.methodLink "OperaMachines" (59 : Nat) ({ cls := "OperaMachines$Machine", name := "<init>", desc := "(IIII)V" } : Jvm.MethodName)) ∈ GT := gt_2 (List.mem_of_getElem? (i := 99) (by decide +kernel)) (by decide +kernel)
theorem w2_100 : (Jvm.Cond.instanceMethod ({ cls := "OperaMachines$Machine", name := "<init>", desc := "(IIII)V" } : Jvm.MethodName)) ∈ GT := gt_2 (List.mem_of_getElem? (i := 100) (by decide +kernel)) (by decide +kernel)
theorem w2_101 : (Jvm.Cond.code ({ cls := "OperaMachines$Machine", name := "<init>", desc := "(IIII)V" } : Jvm.MethodName) prog_3_method_1_code (5 : Nat) (Option.none : Option Jvm.ClassFile.FieldType)) ∈ GT := gt_2 (List.mem_of_getElem? (i := 101) (by decide +kernel)) (by decide +kernel)
theorem w2_102 : (Jvm.Cond.methodLink "OperaMachines$Machine" (3 : Nat) ({ cls := "java/lang/Object", name := "<init>", desc := "()V" } : Jvm.MethodName)) ∈ GT := gt_2 (List.mem_of_getElem? (i := 102) (by decide +kernel)) (by decide +kernel)
theorem w2_103 : (Jvm.Cond.classLink "OperaMachines$Machine" (9 : Nat) "OperaMachines$Cue") ∈ GT := gt_2 (List.mem_of_getElem? (i := 103) (by decide +kernel)) (by decide +kernel)
theorem w2_105 : (Jvm.Cond.fieldLink "OperaMachines$Machine" (17 : Nat) "OperaMachines$Machine" "track" "I") ∈ GT := gt_2 (List.mem_of_getElem? (i := 105) (by decide +kernel)) (by decide +kernel)
theorem w2_106 : (Jvm.Cond.fieldLink "OperaMachines$Machine" (21 : Nat) "OperaMachines$Machine" "first" "I") ∈ GT := gt_2 (List.mem_of_getElem? (i := 106) (by decide +kernel)) (by decide +kernel)
theorem w2_107 : (Jvm.Cond.fieldLink "OperaMachines$Machine" (24 : Nat) "OperaMachines$Machine" "width" "I") ∈ GT := gt_2 (List.mem_of_getElem? (i := 107) (by decide +kernel)) (by decide +kernel)
theorem w2_108 : (Jvm.Cond.fieldLink "OperaMachines$Machine" (27 : Nat) "OperaMachines$Machine" "speed" "I") ∈ GT := gt_2 (List.mem_of_getElem? (i := 108) (by decide +kernel)) (by decide +kernel)
theorem w2_109 : (Jvm.Cond.fieldLink "OperaMachines$Machine" (11 : Nat) "OperaMachines$Machine" "cueOfBar" "[LOperaMachines$Cue;") ∈ GT := gt_2 (List.mem_of_getElem? (i := 109) (by decide +kernel)) (by decide +kernel)
theorem w2_110 : (Jvm.Cond.fieldLink "OperaMachines$Machine" (34 : Nat) "OperaMachines$Machine" "place" "I") ∈ GT := gt_2 (List.mem_of_getElem? (i := 110) (by decide +kernel)) (by decide +kernel)
theorem w2_111 : (Jvm.Cond.fieldLink "OperaMachines" (143 : Nat) "OperaMachines$Machine" "place" "I") ∈ GT := gt_2 (List.mem_of_getElem? (i := 111) (by decide +kernel)) (by decide +kernel)
theorem w2_112 : (Jvm.Cond.fieldLink "OperaMachines$Machine" (37 : Nat) "OperaMachines$Machine" "running" "LOperaMachines$Cue;") ∈ GT := gt_2 (List.mem_of_getElem? (i := 112) (by decide +kernel)) (by decide +kernel)
theorem w2_113 : (Jvm.Cond.laysFinal "OperaMachines$Machine" "OperaMachines$Machine" "track" "I") ∈ GT := gt_2 (List.mem_of_getElem? (i := 113) (by decide +kernel)) (by decide +kernel)
theorem w2_115 : (Jvm.Cond.laysFinal "OperaMachines$Machine" "OperaMachines$Machine" "first" "I") ∈ GT := gt_2 (List.mem_of_getElem? (i := 115) (by decide +kernel)) (by decide +kernel)
theorem w2_117 : (Jvm.Cond.laysFinal "OperaMachines$Machine" "OperaMachines$Machine" "width" "I") ∈ GT := gt_2 (List.mem_of_getElem? (i := 117) (by decide +kernel)) (by decide +kernel)
theorem w2_119 : (Jvm.Cond.laysFinal "OperaMachines$Machine" "OperaMachines$Machine" "speed" "I") ∈ GT := gt_2 (List.mem_of_getElem? (i := 119) (by decide +kernel)) (by decide +kernel)
theorem w2_121 : (Jvm.Cond.laysFinal "OperaMachines$Machine" "OperaMachines$Machine" "cueOfBar" "[LOperaMachines$Cue;") ∈ GT := gt_2 (List.mem_of_getElem? (i := 121) (by decide +kernel)) (by decide +kernel)
theorem w2_123 : (Jvm.Cond.lays "OperaMachines$Machine" "OperaMachines$Machine" "place" "I") ∈ GT := gt_2 (List.mem_of_getElem? (i := 123) (by decide +kernel)) (by decide +kernel)
theorem w2_125 : (Jvm.Cond.lays "OperaMachines$Machine" "OperaMachines$Machine" "running" "LOperaMachines$Cue;") ∈ GT := gt_2 (List.mem_of_getElem? (i := 125) (by decide +kernel)) (by decide +kernel)
theorem w2_127 : (Jvm.Cond.superclass "OperaMachines$Machine" "java/lang/Object") ∈ GT := gt_2 (List.mem_of_getElem? (i := 127) (by decide +kernel)) (by decide +kernel)
theorem w2_128 : (Jvm.Cond.methodLink "OperaMachines" (62 : Nat) ({ cls := "OperaMachines", name := "add", desc := "(LOperaMachines$Machine;)I" } : Jvm.MethodName)) ∈ GT := gt_2 (List.mem_of_getElem? (i := 128) (by decide +kernel)) (by decide +kernel)
theorem w2_129 : (Jvm.Cond.privateMethod ({ cls := "OperaMachines", name := "add", desc := "(LOperaMachines$Machine;)I" } : Jvm.MethodName)) ∈ GT := gt_2 (List.mem_of_getElem? (i := 129) (by decide +kernel)) (by decide +kernel)
theorem w2_130 : (Jvm.Cond.instanceMethod ({ cls := "OperaMachines", name := "add", desc := "(LOperaMachines$Machine;)I" } : Jvm.MethodName)) ∈ GT := gt_2 (List.mem_of_getElem? (i := 130) (by decide +kernel)) (by decide +kernel)
theorem w2_131 : (Jvm.Cond.code ({ cls := "OperaMachines", name := "add", desc := "(LOperaMachines$Machine;)I" } : Jvm.MethodName) prog_1_method_29_code (2 : Nat) (Option.some Jvm.ClassFile.FieldType.int)) ∈ GT := gt_2 (List.mem_of_getElem? (i := 131) (by decide +kernel)) (by decide +kernel)
theorem w2_132 : (Jvm.Cond.methodLink "OperaMachines" (106 : Nat) ({ cls := "java/util/ArrayList", name := "add", desc := "(Ljava/lang/Object;)Z" } : Jvm.MethodName)) ∈ GT := gt_2 (List.mem_of_getElem? (i := 132) (by decide +kernel)) (by decide +kernel)
theorem w2_133 : (Jvm.Cond.instanceMethod ({ cls := "java/util/ArrayList", name := "add", desc := "(Ljava/lang/Object;)Z" } : Jvm.MethodName)) ∈ GT := gt_2 (List.mem_of_getElem? (i := 133) (by decide +kernel)) (by decide +kernel)
theorem w2_134 : (Jvm.Cond.selects "java/util/ArrayList" ({ cls := "java/util/ArrayList", name := "add", desc := "(Ljava/lang/Object;)Z" } : Jvm.MethodName) ({ cls := "java/util/ArrayList", name := "add", desc := "(Ljava/lang/Object;)Z" } : Jvm.MethodName)) ∈ GT := gt_2 (List.mem_of_getElem? (i := 134) (by decide +kernel)) (by decide +kernel)
theorem w2_135 : (Jvm.Cond.code ({ cls := "java/util/ArrayList", name := "add", desc := "(Ljava/lang/Object;)Z" } : Jvm.MethodName) prog_31_method_25_code (2 : Nat) (Option.some Jvm.ClassFile.FieldType.boolean)) ∈ GT := gt_2 (List.mem_of_getElem? (i := 135) (by decide +kernel)) (by decide +kernel)
theorem w2_136 : (Jvm.Cond.methodLink "java/util/ArrayList" (131 : Nat) ({ cls := "java/util/ArrayList", name := "add", desc := "(Ljava/lang/Object;[Ljava/lang/Object;I)V" } : Jvm.MethodName)) ∈ GT := gt_2 (List.mem_of_getElem? (i := 136) (by decide +kernel)) (by decide +kernel)
theorem w2_137 : (Jvm.Cond.privateMethod ({ cls := "java/util/ArrayList", name := "add", desc := "(Ljava/lang/Object;[Ljava/lang/Object;I)V" } : Jvm.MethodName)) ∈ GT := gt_2 (List.mem_of_getElem? (i := 137) (by decide +kernel)) (by decide +kernel)
theorem w2_138 : (Jvm.Cond.instanceMethod ({ cls := "java/util/ArrayList", name := "add", desc := "(Ljava/lang/Object;[Ljava/lang/Object;I)V" } : Jvm.MethodName)) ∈ GT := gt_2 (List.mem_of_getElem? (i := 138) (by decide +kernel)) (by decide +kernel)
theorem w2_139 : (Jvm.Cond.code ({ cls := "java/util/ArrayList", name := "add", desc := "(Ljava/lang/Object;[Ljava/lang/Object;I)V" } : Jvm.MethodName) prog_31_method_24_code (4 : Nat) (Option.none : Option Jvm.ClassFile.FieldType)) ∈ GT := gt_2 (List.mem_of_getElem? (i := 139) (by decide +kernel)) (by decide +kernel)
theorem w2_140 : (Jvm.Cond.methodLink "java/util/ArrayList" (129 : Nat) ({ cls := "java/util/ArrayList", name := "grow", desc := "()[Ljava/lang/Object;" } : Jvm.MethodName)) ∈ GT := gt_2 (List.mem_of_getElem? (i := 140) (by decide +kernel)) (by decide +kernel)
theorem w2_141 : (Jvm.Cond.privateMethod ({ cls := "java/util/ArrayList", name := "grow", desc := "()[Ljava/lang/Object;" } : Jvm.MethodName)) ∈ GT := gt_2 (List.mem_of_getElem? (i := 141) (by decide +kernel)) (by decide +kernel)
theorem w2_142 : (Jvm.Cond.instanceMethod ({ cls := "java/util/ArrayList", name := "grow", desc := "()[Ljava/lang/Object;" } : Jvm.MethodName)) ∈ GT := gt_2 (List.mem_of_getElem? (i := 142) (by decide +kernel)) (by decide +kernel)
theorem w2_143 : (Jvm.Cond.code ({ cls := "java/util/ArrayList", name := "grow", desc := "()[Ljava/lang/Object;" } : Jvm.MethodName) prog_31_method_7_code (1 : Nat) (Option.some (Jvm.ClassFile.FieldType.array (Jvm.ClassFile.FieldType.object "java/lang/Object")))) ∈ GT := gt_2 (List.mem_of_getElem? (i := 143) (by decide +kernel)) (by decide +kernel)
theorem w2_144 : (Jvm.Cond.methodLink "java/util/ArrayList" (69 : Nat) ({ cls := "java/util/ArrayList", name := "grow", desc := "(I)[Ljava/lang/Object;" } : Jvm.MethodName)) ∈ GT := gt_2 (List.mem_of_getElem? (i := 144) (by decide +kernel)) (by decide +kernel)
theorem w2_145 : (Jvm.Cond.privateMethod ({ cls := "java/util/ArrayList", name := "grow", desc := "(I)[Ljava/lang/Object;" } : Jvm.MethodName)) ∈ GT := gt_2 (List.mem_of_getElem? (i := 145) (by decide +kernel)) (by decide +kernel)
theorem w2_146 : (Jvm.Cond.instanceMethod ({ cls := "java/util/ArrayList", name := "grow", desc := "(I)[Ljava/lang/Object;" } : Jvm.MethodName)) ∈ GT := gt_2 (List.mem_of_getElem? (i := 146) (by decide +kernel)) (by decide +kernel)
theorem w2_147 : (Jvm.Cond.code ({ cls := "java/util/ArrayList", name := "grow", desc := "(I)[Ljava/lang/Object;" } : Jvm.MethodName) prog_31_method_6_code (4 : Nat) (Option.some (Jvm.ClassFile.FieldType.array (Jvm.ClassFile.FieldType.object "java/lang/Object")))) ∈ GT := gt_2 (List.mem_of_getElem? (i := 147) (by decide +kernel)) (by decide +kernel)
theorem w2_148 : (Jvm.Cond.methodLink "java/util/ArrayList" (73 : Nat) ({ cls := "jdk/internal/util/ArraysSupport", name := "newLength", desc := "(III)I" } : Jvm.MethodName)) ∈ GT := gt_2 (List.mem_of_getElem? (i := 148) (by decide +kernel)) (by decide +kernel)
theorem w2_149 : (Jvm.Cond.static ({ cls := "jdk/internal/util/ArraysSupport", name := "newLength", desc := "(III)I" } : Jvm.MethodName)) ∈ GT := gt_2 (List.mem_of_getElem? (i := 149) (by decide +kernel)) (by decide +kernel)
theorem w2_150 : (Jvm.Cond.code ({ cls := "jdk/internal/util/ArraysSupport", name := "newLength", desc := "(III)I" } : Jvm.MethodName) prog_38_method_27_code (4 : Nat) (Option.some Jvm.ClassFile.FieldType.int)) ∈ GT := gt_2 (List.mem_of_getElem? (i := 150) (by decide +kernel)) (by decide +kernel)
theorem w2_151 : (Jvm.Cond.methodLink "jdk/internal/util/ArraysSupport" (194 : Nat) ({ cls := "java/lang/Math", name := "max", desc := "(II)I" } : Jvm.MethodName)) ∈ GT := gt_2 (List.mem_of_getElem? (i := 151) (by decide +kernel)) (by decide +kernel)
theorem w2_152 : (Jvm.Cond.constant "jdk/internal/util/ArraysSupport" (200 : Nat) (2147483639 : Int32)) ∈ GT := gt_2 (List.mem_of_getElem? (i := 152) (by decide +kernel)) (by decide +kernel)
theorem w2_153 : (Jvm.Cond.methodLink "jdk/internal/util/ArraysSupport" (201 : Nat) ({ cls := "jdk/internal/util/ArraysSupport", name := "hugeLength", desc := "(II)I" } : Jvm.MethodName)) ∈ GT := gt_2 (List.mem_of_getElem? (i := 153) (by decide +kernel)) (by decide +kernel)
theorem w2_154 : (Jvm.Cond.static ({ cls := "jdk/internal/util/ArraysSupport", name := "hugeLength", desc := "(II)I" } : Jvm.MethodName)) ∈ GT := gt_2 (List.mem_of_getElem? (i := 154) (by decide +kernel)) (by decide +kernel)
theorem w2_155 : (Jvm.Cond.code ({ cls := "jdk/internal/util/ArraysSupport", name := "hugeLength", desc := "(II)I" } : Jvm.MethodName) prog_38_method_28_code (3 : Nat) (Option.some Jvm.ClassFile.FieldType.int)) ∈ GT := gt_2 (List.mem_of_getElem? (i := 155) (by decide +kernel)) (by decide +kernel)
theorem w2_156 : (Jvm.Cond.methodLink "java/util/ArrayList" (66 : Nat) ({ cls := "java/util/Arrays", name := "copyOf", desc := "([Ljava/lang/Object;I)[Ljava/lang/Object;" } : Jvm.MethodName)) ∈ GT := gt_2 (List.mem_of_getElem? (i := 156) (by decide +kernel)) (by decide +kernel)
theorem w2_157 : (Jvm.Cond.static ({ cls := "java/util/Arrays", name := "copyOf", desc := "([Ljava/lang/Object;I)[Ljava/lang/Object;" } : Jvm.MethodName)) ∈ GT := gt_2 (List.mem_of_getElem? (i := 157) (by decide +kernel)) (by decide +kernel)
theorem w2_158 : (Jvm.Cond.code ({ cls := "java/util/Arrays", name := "copyOf", desc := "([Ljava/lang/Object;I)[Ljava/lang/Object;" } : Jvm.MethodName) prog_32_method_119_code (2 : Nat) (Option.some (Jvm.ClassFile.FieldType.array (Jvm.ClassFile.FieldType.object "java/lang/Object")))) ∈ GT := gt_2 (List.mem_of_getElem? (i := 158) (by decide +kernel)) (by decide +kernel)
theorem w2_159 : (Jvm.Cond.methodLink "java/util/Arrays" (86 : Nat) ({ cls := "java/lang/Object", name := "getClass", desc := "()Ljava/lang/Class;" } : Jvm.MethodName)) ∈ GT := gt_2 (List.mem_of_getElem? (i := 159) (by decide +kernel)) (by decide +kernel)
theorem w2_160 : (Jvm.Cond.instanceMethod ({ cls := "java/lang/Object", name := "getClass", desc := "()Ljava/lang/Class;" } : Jvm.MethodName)) ∈ GT := gt_2 (List.mem_of_getElem? (i := 160) (by decide +kernel)) (by decide +kernel)
theorem w2_161 : (Jvm.Cond.sameMethod "java/lang/Object" "java/lang/Object" "getClass" "()Ljava/lang/Class;") ∈ GT := gt_2 (List.mem_of_getElem? (i := 161) (by decide +kernel)) (by decide +kernel)
theorem w2_162 : (Jvm.Cond.selects "OperaMachines" ({ cls := "java/lang/Object", name := "getClass", desc := "()Ljava/lang/Class;" } : Jvm.MethodName) ({ cls := "java/lang/Object", name := "getClass", desc := "()Ljava/lang/Class;" } : Jvm.MethodName)) ∈ GT := gt_2 (List.mem_of_getElem? (i := 162) (by decide +kernel)) (by decide +kernel)
theorem w2_163 : (Jvm.Cond.selects "OperaMachines$Cue" ({ cls := "java/lang/Object", name := "getClass", desc := "()Ljava/lang/Class;" } : Jvm.MethodName) ({ cls := "java/lang/Object", name := "getClass", desc := "()Ljava/lang/Class;" } : Jvm.MethodName)) ∈ GT := gt_2 (List.mem_of_getElem? (i := 163) (by decide +kernel)) (by decide +kernel)
theorem w2_164 : (Jvm.Cond.selects "OperaMachines$Machine" ({ cls := "java/lang/Object", name := "getClass", desc := "()Ljava/lang/Class;" } : Jvm.MethodName) ({ cls := "java/lang/Object", name := "getClass", desc := "()Ljava/lang/Class;" } : Jvm.MethodName)) ∈ GT := gt_2 (List.mem_of_getElem? (i := 164) (by decide +kernel)) (by decide +kernel)
theorem w2_165 : (Jvm.Cond.selects "OperaMachinesModel" ({ cls := "java/lang/Object", name := "getClass", desc := "()Ljava/lang/Class;" } : Jvm.MethodName) ({ cls := "java/lang/Object", name := "getClass", desc := "()Ljava/lang/Class;" } : Jvm.MethodName)) ∈ GT := gt_2 (List.mem_of_getElem? (i := 165) (by decide +kernel)) (by decide +kernel)
theorem w2_166 : (Jvm.Cond.selects "java/lang/IllegalArgumentException" ({ cls := "java/lang/Object", name := "getClass", desc := "()Ljava/lang/Class;" } : Jvm.MethodName) ({ cls := "java/lang/Object", name := "getClass", desc := "()Ljava/lang/Class;" } : Jvm.MethodName)) ∈ GT := gt_2 (List.mem_of_getElem? (i := 166) (by decide +kernel)) (by decide +kernel)
theorem w2_167 : (Jvm.Cond.selects "java/lang/IllegalStateException" ({ cls := "java/lang/Object", name := "getClass", desc := "()Ljava/lang/Class;" } : Jvm.MethodName) ({ cls := "java/lang/Object", name := "getClass", desc := "()Ljava/lang/Class;" } : Jvm.MethodName)) ∈ GT := gt_2 (List.mem_of_getElem? (i := 167) (by decide +kernel)) (by decide +kernel)
theorem w2_168 : (Jvm.Cond.selects "java/lang/IndexOutOfBoundsException" ({ cls := "java/lang/Object", name := "getClass", desc := "()Ljava/lang/Class;" } : Jvm.MethodName) ({ cls := "java/lang/Object", name := "getClass", desc := "()Ljava/lang/Class;" } : Jvm.MethodName)) ∈ GT := gt_2 (List.mem_of_getElem? (i := 168) (by decide +kernel)) (by decide +kernel)
theorem w2_169 : (Jvm.Cond.selects "java/lang/String" ({ cls := "java/lang/Object", name := "getClass", desc := "()Ljava/lang/Class;" } : Jvm.MethodName) ({ cls := "java/lang/Object", name := "getClass", desc := "()Ljava/lang/Class;" } : Jvm.MethodName)) ∈ GT := gt_2 (List.mem_of_getElem? (i := 169) (by decide +kernel)) (by decide +kernel)
theorem w2_170 : (Jvm.Cond.selects "java/lang/StringBuilder" ({ cls := "java/lang/Object", name := "getClass", desc := "()Ljava/lang/Class;" } : Jvm.MethodName) ({ cls := "java/lang/Object", name := "getClass", desc := "()Ljava/lang/Class;" } : Jvm.MethodName)) ∈ GT := gt_2 (List.mem_of_getElem? (i := 170) (by decide +kernel)) (by decide +kernel)
theorem w2_171 : (Jvm.Cond.selects "java/util/ArrayList" ({ cls := "java/lang/Object", name := "getClass", desc := "()Ljava/lang/Class;" } : Jvm.MethodName) ({ cls := "java/lang/Object", name := "getClass", desc := "()Ljava/lang/Class;" } : Jvm.MethodName)) ∈ GT := gt_2 (List.mem_of_getElem? (i := 171) (by decide +kernel)) (by decide +kernel)
theorem w2_172 : (Jvm.Cond.native ({ cls := "java/lang/Object", name := "getClass", desc := "()Ljava/lang/Class;" } : Jvm.MethodName)) ∈ GT := gt_2 (List.mem_of_getElem? (i := 172) (by decide +kernel)) (by decide +kernel)
theorem w2_173 : (Jvm.Cond.methodLink "java/util/Arrays" (300 : Nat) ({ cls := "java/util/Arrays", name := "copyOf", desc := "([Ljava/lang/Object;ILjava/lang/Class;)[Ljava/lang/Object;" } : Jvm.MethodName)) ∈ GT := gt_2 (List.mem_of_getElem? (i := 173) (by decide +kernel)) (by decide +kernel)
theorem w2_174 : (Jvm.Cond.static ({ cls := "java/util/Arrays", name := "copyOf", desc := "([Ljava/lang/Object;ILjava/lang/Class;)[Ljava/lang/Object;" } : Jvm.MethodName)) ∈ GT := gt_2 (List.mem_of_getElem? (i := 174) (by decide +kernel)) (by decide +kernel)
theorem w2_175 : (Jvm.Cond.code ({ cls := "java/util/Arrays", name := "copyOf", desc := "([Ljava/lang/Object;ILjava/lang/Class;)[Ljava/lang/Object;" } : Jvm.MethodName) prog_32_method_120_code (4 : Nat) (Option.some (Jvm.ClassFile.FieldType.array (Jvm.ClassFile.FieldType.object "java/lang/Object")))) ∈ GT := gt_2 (List.mem_of_getElem? (i := 175) (by decide +kernel)) (by decide +kernel)
theorem w2_176 : (Jvm.Cond.classLink "java/util/Arrays" (110 : Nat) "[Ljava/lang/Object;") ∈ GT := gt_2 (List.mem_of_getElem? (i := 176) (by decide +kernel)) (by decide +kernel)
theorem w2_178 : (Jvm.Cond.classLink "java/util/Arrays" (2 : Nat) "java/lang/Object") ∈ GT := gt_2 (List.mem_of_getElem? (i := 178) (by decide +kernel)) (by decide +kernel)
theorem w2_179 : (Jvm.Cond.methodLink "java/util/Arrays" (304 : Nat) ({ cls := "java/lang/Math", name := "min", desc := "(II)I" } : Jvm.MethodName)) ∈ GT := gt_2 (List.mem_of_getElem? (i := 179) (by decide +kernel)) (by decide +kernel)
theorem w2_180 : (Jvm.Cond.methodLink "java/util/Arrays" (150 : Nat) ({ cls := "java/lang/System", name := "arraycopy", desc := "(Ljava/lang/Object;ILjava/lang/Object;II)V" } : Jvm.MethodName)) ∈ GT := gt_2 (List.mem_of_getElem? (i := 180) (by decide +kernel)) (by decide +kernel)
theorem w2_181 : (Jvm.Cond.static ({ cls := "java/lang/System", name := "arraycopy", desc := "(Ljava/lang/Object;ILjava/lang/Object;II)V" } : Jvm.MethodName)) ∈ GT := gt_2 (List.mem_of_getElem? (i := 181) (by decide +kernel)) (by decide +kernel)
theorem w2_182 : (Jvm.Cond.native ({ cls := "java/lang/System", name := "arraycopy", desc := "(Ljava/lang/Object;ILjava/lang/Object;II)V" } : Jvm.MethodName)) ∈ GT := gt_2 (List.mem_of_getElem? (i := 182) (by decide +kernel)) (by decide +kernel)
theorem w2_183 : (Jvm.Cond.methodLink "java/util/ArrayList" (79 : Nat) ({ cls := "java/lang/Math", name := "max", desc := "(II)I" } : Jvm.MethodName)) ∈ GT := gt_2 (List.mem_of_getElem? (i := 183) (by decide +kernel)) (by decide +kernel)
theorem w2_184 : (Jvm.Cond.classLink "java/util/ArrayList" (7 : Nat) "java/lang/Object") ∈ GT := gt_2 (List.mem_of_getElem? (i := 184) (by decide +kernel)) (by decide +kernel)
theorem w2_185 : (Jvm.Cond.methodLink "OperaMachinesLaw" (79 : Nat) ({ cls := "OperaMachinesLaw", name := "turntable", desc := "(LOperaMachines;II[J)I" } : Jvm.MethodName)) ∈ GT := gt_2 (List.mem_of_getElem? (i := 185) (by decide +kernel)) (by decide +kernel)
theorem w2_186 : (Jvm.Cond.static ({ cls := "OperaMachinesLaw", name := "turntable", desc := "(LOperaMachines;II[J)I" } : Jvm.MethodName)) ∈ GT := gt_2 (List.mem_of_getElem? (i := 186) (by decide +kernel)) (by decide +kernel)
theorem w2_187 : (Jvm.Cond.codeWith ({ cls := "OperaMachinesLaw", name := "turntable", desc := "(LOperaMachines;II[J)I" } : Jvm.MethodName) method_4_code (5 : Nat) (Option.some Jvm.ClassFile.FieldType.int) [((0 : Nat), (10 : Nat), (13 : Nat), (13 : Nat)), ((0 : Nat), (10 : Nat), (17 : Nat), (15 : Nat))]) ∈ GT := gt_2 (List.mem_of_getElem? (i := 187) (by decide +kernel)) (by decide +kernel)
theorem w2_188 : (Jvm.Cond.methodLink "OperaMachinesLaw" (17 : Nat) ({ cls := "OperaMachines", name := "turntable", desc := "(II)I" } : Jvm.MethodName)) ∈ GT := gt_2 (List.mem_of_getElem? (i := 188) (by decide +kernel)) (by decide +kernel)
theorem w2_189 : (Jvm.Cond.instanceMethod ({ cls := "OperaMachines", name := "turntable", desc := "(II)I" } : Jvm.MethodName)) ∈ GT := gt_2 (List.mem_of_getElem? (i := 189) (by decide +kernel)) (by decide +kernel)
theorem w2_190 : (Jvm.Cond.selects "OperaMachines" ({ cls := "OperaMachines", name := "turntable", desc := "(II)I" } : Jvm.MethodName) ({ cls := "OperaMachines", name := "turntable", desc := "(II)I" } : Jvm.MethodName)) ∈ GT := gt_2 (List.mem_of_getElem? (i := 190) (by decide +kernel)) (by decide +kernel)
theorem w2_191 : (Jvm.Cond.code ({ cls := "OperaMachines", name := "turntable", desc := "(II)I" } : Jvm.MethodName) prog_1_method_3_code (3 : Nat) (Option.some Jvm.ClassFile.FieldType.int)) ∈ GT := gt_2 (List.mem_of_getElem? (i := 191) (by decide +kernel)) (by decide +kernel)
theorem w2_192 : (Jvm.Cond.methodLink "OperaMachinesLaw" (83 : Nat) ({ cls := "OperaMachinesLaw", name := "setScore", desc := "(LOperaMachines;II)I" } : Jvm.MethodName)) ∈ GT := gt_2 (List.mem_of_getElem? (i := 192) (by decide +kernel)) (by decide +kernel)
theorem w2_193 : (Jvm.Cond.static ({ cls := "OperaMachinesLaw", name := "setScore", desc := "(LOperaMachines;II)I" } : Jvm.MethodName)) ∈ GT := gt_2 (List.mem_of_getElem? (i := 193) (by decide +kernel)) (by decide +kernel)
theorem w2_194 : (Jvm.Cond.codeWith ({ cls := "OperaMachinesLaw", name := "setScore", desc := "(LOperaMachines;II)I" } : Jvm.MethodName) method_5_code (4 : Nat) (Option.some Jvm.ClassFile.FieldType.int) [((0 : Nat), (6 : Nat), (9 : Nat), (13 : Nat)), ((0 : Nat), (6 : Nat), (12 : Nat), (15 : Nat))]) ∈ GT := gt_2 (List.mem_of_getElem? (i := 194) (by decide +kernel)) (by decide +kernel)
theorem w2_195 : (Jvm.Cond.methodLink "OperaMachinesLaw" (21 : Nat) ({ cls := "OperaMachines", name := "setScore", desc := "(II)V" } : Jvm.MethodName)) ∈ GT := gt_2 (List.mem_of_getElem? (i := 195) (by decide +kernel)) (by decide +kernel)
theorem w2_196 : (Jvm.Cond.instanceMethod ({ cls := "OperaMachines", name := "setScore", desc := "(II)V" } : Jvm.MethodName)) ∈ GT := gt_2 (List.mem_of_getElem? (i := 196) (by decide +kernel)) (by decide +kernel)
theorem w2_197 : (Jvm.Cond.selects "OperaMachines" ({ cls := "OperaMachines", name := "setScore", desc := "(II)V" } : Jvm.MethodName) ({ cls := "OperaMachines", name := "setScore", desc := "(II)V" } : Jvm.MethodName)) ∈ GT := gt_2 (List.mem_of_getElem? (i := 197) (by decide +kernel)) (by decide +kernel)
theorem w2_198 : (Jvm.Cond.code ({ cls := "OperaMachines", name := "setScore", desc := "(II)V" } : Jvm.MethodName) prog_1_method_4_code (5 : Nat) (Option.none : Option Jvm.ClassFile.FieldType)) ∈ GT := gt_2 (List.mem_of_getElem? (i := 198) (by decide +kernel)) (by decide +kernel)
theorem w2_200 : (Jvm.Cond.methodLink "OperaMachinesLaw" (87 : Nat) ({ cls := "OperaMachinesLaw", name := "cue", desc := "(LOperaMachines;IIII[J)I" } : Jvm.MethodName)) ∈ GT := gt_2 (List.mem_of_getElem? (i := 200) (by decide +kernel)) (by decide +kernel)
theorem w2_201 : (Jvm.Cond.static ({ cls := "OperaMachinesLaw", name := "cue", desc := "(LOperaMachines;IIII[J)I" } : Jvm.MethodName)) ∈ GT := gt_2 (List.mem_of_getElem? (i := 201) (by decide +kernel)) (by decide +kernel)
theorem w2_202 : (Jvm.Cond.codeWith ({ cls := "OperaMachinesLaw", name := "cue", desc := "(LOperaMachines;IIII[J)I" } : Jvm.MethodName) method_6_code (7 : Nat) (Option.some Jvm.ClassFile.FieldType.int) [((0 : Nat), (14 : Nat), (17 : Nat), (28 : Nat)), ((0 : Nat), (14 : Nat), (21 : Nat), (13 : Nat)), ((0 : Nat), (14 : Nat), (25 : Nat), (15 : Nat))]) ∈ GT := gt_2 (List.mem_of_getElem? (i := 202) (by decide +kernel)) (by decide +kernel)
theorem w2_203 : (Jvm.Cond.classLink "OperaMachinesLaw" (28 : Nat) "java/lang/IndexOutOfBoundsException") ∈ GT := gt_2 (List.mem_of_getElem? (i := 203) (by decide +kernel)) (by decide +kernel)
theorem w2_204 : (Jvm.Cond.methodLink "OperaMachinesLaw" (25 : Nat) ({ cls := "OperaMachines", name := "cue", desc := "(IIII)I" } : Jvm.MethodName)) ∈ GT := gt_2 (List.mem_of_getElem? (i := 204) (by decide +kernel)) (by decide +kernel)
theorem w2_205 : (Jvm.Cond.instanceMethod ({ cls := "OperaMachines", name := "cue", desc := "(IIII)I" } : Jvm.MethodName)) ∈ GT := gt_2 (List.mem_of_getElem? (i := 205) (by decide +kernel)) (by decide +kernel)
theorem w2_206 : (Jvm.Cond.selects "OperaMachines" ({ cls := "OperaMachines", name := "cue", desc := "(IIII)I" } : Jvm.MethodName) ({ cls := "OperaMachines", name := "cue", desc := "(IIII)I" } : Jvm.MethodName)) ∈ GT := gt_2 (List.mem_of_getElem? (i := 206) (by decide +kernel)) (by decide +kernel)
theorem w2_207 : (Jvm.Cond.code ({ cls := "OperaMachines", name := "cue", desc := "(IIII)I" } : Jvm.MethodName) prog_1_method_5_code (7 : Nat) (Option.some Jvm.ClassFile.FieldType.int)) ∈ GT := gt_2 (List.mem_of_getElem? (i := 207) (by decide +kernel)) (by decide +kernel)
theorem w2_208 : (Jvm.Cond.methodLink "OperaMachines" (90 : Nat) ({ cls := "OperaMachines", name := "machineNumbered", desc := "(I)LOperaMachines$Machine;" } : Jvm.MethodName)) ∈ GT := gt_2 (List.mem_of_getElem? (i := 208) (by decide +kernel)) (by decide +kernel)
theorem w2_209 : (Jvm.Cond.privateMethod ({ cls := "OperaMachines", name := "machineNumbered", desc := "(I)LOperaMachines$Machine;" } : Jvm.MethodName)) ∈ GT := gt_2 (List.mem_of_getElem? (i := 209) (by decide +kernel)) (by decide +kernel)
theorem w2_210 : (Jvm.Cond.instanceMethod ({ cls := "OperaMachines", name := "machineNumbered", desc := "(I)LOperaMachines$Machine;" } : Jvm.MethodName)) ∈ GT := gt_2 (List.mem_of_getElem? (i := 210) (by decide +kernel)) (by decide +kernel)
theorem w2_211 : (Jvm.Cond.code ({ cls := "OperaMachines", name := "machineNumbered", desc := "(I)LOperaMachines$Machine;" } : Jvm.MethodName) prog_1_method_26_code (2 : Nat) (Option.some (Jvm.ClassFile.FieldType.object "OperaMachines$Machine"))) ∈ GT := gt_2 (List.mem_of_getElem? (i := 211) (by decide +kernel)) (by decide +kernel)
theorem w2_212 : (Jvm.Cond.classLink "OperaMachines" (179 : Nat) "java/lang/IndexOutOfBoundsException") ∈ GT := gt_2 (List.mem_of_getElem? (i := 212) (by decide +kernel)) (by decide +kernel)
theorem w2_213 : (Jvm.Cond.instantiable "java/lang/IndexOutOfBoundsException" (6 : Nat)) ∈ GT := gt_2 (List.mem_of_getElem? (i := 213) (by decide +kernel)) (by decide +kernel)
theorem w2_214 : (Jvm.Cond.castable "java/lang/IndexOutOfBoundsException" "java/lang/IndexOutOfBoundsException") ∈ GT := gt_2 (List.mem_of_getElem? (i := 214) (by decide +kernel)) (by decide +kernel)
theorem w2_215 : (Jvm.Cond.selects "java/lang/IndexOutOfBoundsException" ({ cls := "java/lang/Throwable", name := "fillInStackTrace", desc := "(I)Ljava/lang/Throwable;" } : Jvm.MethodName) ({ cls := "java/lang/Throwable", name := "fillInStackTrace", desc := "(I)Ljava/lang/Throwable;" } : Jvm.MethodName)) ∈ GT := gt_2 (List.mem_of_getElem? (i := 215) (by decide +kernel)) (by decide +kernel)
theorem w2_216 : (Jvm.Cond.lays "java/lang/IndexOutOfBoundsException" "java/lang/Throwable" "cause" "Ljava/lang/Throwable;") ∈ GT := gt_2 (List.mem_of_getElem? (i := 216) (by decide +kernel)) (by decide +kernel)
theorem w2_217 : (Jvm.Cond.lays "java/lang/IndexOutOfBoundsException" "java/lang/Throwable" "stackTrace" "[Ljava/lang/StackTraceElement;") ∈ GT := gt_2 (List.mem_of_getElem? (i := 217) (by decide +kernel)) (by decide +kernel)
theorem w2_218 : (Jvm.Cond.lays "java/lang/IndexOutOfBoundsException" "java/lang/Throwable" "suppressedExceptions" "Ljava/util/List;") ∈ GT := gt_2 (List.mem_of_getElem? (i := 218) (by decide +kernel)) (by decide +kernel)
theorem w2_219 : (Jvm.Cond.lays "java/lang/IndexOutOfBoundsException" "java/lang/Throwable" "detailMessage" "Ljava/lang/String;") ∈ GT := gt_2 (List.mem_of_getElem? (i := 219) (by decide +kernel)) (by decide +kernel)
theorem w2_220 : (Jvm.Cond.lays "java/lang/IndexOutOfBoundsException" "java/lang/Throwable" "backtrace" "Ljava/lang/Object;") ∈ GT := gt_2 (List.mem_of_getElem? (i := 220) (by decide +kernel)) (by decide +kernel)
theorem w2_222 : (Jvm.Cond.methodLink "OperaMachines" (183 : Nat) ({ cls := "java/lang/IndexOutOfBoundsException", name := "<init>", desc := "(Ljava/lang/String;)V" } : Jvm.MethodName)) ∈ GT := gt_2 (List.mem_of_getElem? (i := 222) (by decide +kernel)) (by decide +kernel)
theorem w2_223 : (Jvm.Cond.instanceMethod ({ cls := "java/lang/IndexOutOfBoundsException", name := "<init>", desc := "(Ljava/lang/String;)V" } : Jvm.MethodName)) ∈ GT := gt_2 (List.mem_of_getElem? (i := 223) (by decide +kernel)) (by decide +kernel)
theorem w2_224 : (Jvm.Cond.code ({ cls := "java/lang/IndexOutOfBoundsException", name := "<init>", desc := "(Ljava/lang/String;)V" } : Jvm.MethodName) prog_15_method_2_code (2 : Nat) (Option.none : Option Jvm.ClassFile.FieldType)) ∈ GT := gt_2 (List.mem_of_getElem? (i := 224) (by decide +kernel)) (by decide +kernel)
theorem w2_225 : (Jvm.Cond.methodLink "java/lang/IndexOutOfBoundsException" (7 : Nat) ({ cls := "java/lang/RuntimeException", name := "<init>", desc := "(Ljava/lang/String;)V" } : Jvm.MethodName)) ∈ GT := gt_2 (List.mem_of_getElem? (i := 225) (by decide +kernel)) (by decide +kernel)
theorem w2_226 : (Jvm.Cond.lays "java/lang/IndexOutOfBoundsException" "java/lang/Throwable" "depth" "I") ∈ GT := gt_2 (List.mem_of_getElem? (i := 226) (by decide +kernel)) (by decide +kernel)
theorem w2_227 : (Jvm.Cond.superclass "java/lang/IndexOutOfBoundsException" "java/lang/RuntimeException") ∈ GT := gt_2 (List.mem_of_getElem? (i := 227) (by decide +kernel)) (by decide +kernel)
theorem w2_228 : (Jvm.Cond.methodLink "OperaMachines" (94 : Nat) ({ cls := "OperaMachines$Machine", name := "lastPlace", desc := "()I" } : Jvm.MethodName)) ∈ GT := gt_2 (List.mem_of_getElem? (i := 228) (by decide +kernel)) (by decide +kernel)
theorem w2_229 : (Jvm.Cond.instanceMethod ({ cls := "OperaMachines$Machine", name := "lastPlace", desc := "()I" } : Jvm.MethodName)) ∈ GT := gt_2 (List.mem_of_getElem? (i := 229) (by decide +kernel)) (by decide +kernel)
theorem w2_230 : (Jvm.Cond.selects "OperaMachines$Machine" ({ cls := "OperaMachines$Machine", name := "lastPlace", desc := "()I" } : Jvm.MethodName) ({ cls := "OperaMachines$Machine", name := "lastPlace", desc := "()I" } : Jvm.MethodName)) ∈ GT := gt_2 (List.mem_of_getElem? (i := 230) (by decide +kernel)) (by decide +kernel)
theorem w2_231 : (Jvm.Cond.code ({ cls := "OperaMachines$Machine", name := "lastPlace", desc := "()I" } : Jvm.MethodName) prog_3_method_3_code (1 : Nat) (Option.some Jvm.ClassFile.FieldType.int)) ∈ GT := gt_2 (List.mem_of_getElem? (i := 231) (by decide +kernel)) (by decide +kernel)
theorem w2_233 : (Jvm.Cond.instantiable "OperaMachines$Cue" (6 : Nat)) ∈ GT := gt_2 (List.mem_of_getElem? (i := 233) (by decide +kernel)) (by decide +kernel)
theorem w2_234 : (Jvm.Cond.methodLink "OperaMachines" (103 : Nat) ({ cls := "OperaMachines$Cue", name := "<init>", desc := "(LOperaMachines$Machine;III)V" } : Jvm.MethodName)) ∈ GT := gt_2 (List.mem_of_getElem? (i := 234) (by decide +kernel)) (by decide +kernel)
theorem w2_235 : (Jvm.Cond.instanceMethod ({ cls := "OperaMachines$Cue", name := "<init>", desc := "(LOperaMachines$Machine;III)V" } : Jvm.MethodName)) ∈ GT := gt_2 (List.mem_of_getElem? (i := 235) (by decide +kernel)) (by decide +kernel)
theorem w2_236 : (Jvm.Cond.code ({ cls := "OperaMachines$Cue", name := "<init>", desc := "(LOperaMachines$Machine;III)V" } : Jvm.MethodName) prog_2_method_1_code (5 : Nat) (Option.none : Option Jvm.ClassFile.FieldType)) ∈ GT := gt_2 (List.mem_of_getElem? (i := 236) (by decide +kernel)) (by decide +kernel)
theorem w2_237 : (Jvm.Cond.methodLink "OperaMachines$Cue" (1 : Nat) ({ cls := "java/lang/Object", name := "<init>", desc := "()V" } : Jvm.MethodName)) ∈ GT := gt_2 (List.mem_of_getElem? (i := 237) (by decide +kernel)) (by decide +kernel)
theorem w2_238 : (Jvm.Cond.fieldLink "OperaMachines$Cue" (7 : Nat) "OperaMachines$Cue" "machine" "LOperaMachines$Machine;") ∈ GT := gt_2 (List.mem_of_getElem? (i := 238) (by decide +kernel)) (by decide +kernel)
theorem w2_239 : (Jvm.Cond.fieldLink "OperaMachines" (121 : Nat) "OperaMachines$Cue" "machine" "LOperaMachines$Machine;") ∈ GT := gt_2 (List.mem_of_getElem? (i := 239) (by decide +kernel)) (by decide +kernel)
theorem w3_0 : (Jvm.Cond.fieldLink "OperaMachines$Cue" (13 : Nat) "OperaMachines$Cue" "bar" "I") ∈ GT := gt_3 (List.mem_of_getElem? (i := 0) (by decide +kernel)) (by decide +kernel)
theorem w3_1 : (Jvm.Cond.fieldLink "OperaMachines" (80 : Nat) "OperaMachines$Cue" "bar" "I") ∈ GT := gt_3 (List.mem_of_getElem? (i := 1) (by decide +kernel)) (by decide +kernel)
theorem w3_2 : (Jvm.Cond.fieldLink "OperaMachines$Cue" (17 : Nat) "OperaMachines$Cue" "target" "I") ∈ GT := gt_3 (List.mem_of_getElem? (i := 2) (by decide +kernel)) (by decide +kernel)
theorem w3_3 : (Jvm.Cond.fieldLink "OperaMachines$Machine" (41 : Nat) "OperaMachines$Cue" "target" "I") ∈ GT := gt_3 (List.mem_of_getElem? (i := 3) (by decide +kernel)) (by decide +kernel)
theorem w3_4 : (Jvm.Cond.fieldLink "OperaMachines$Cue" (20 : Nat) "OperaMachines$Cue" "worker" "I") ∈ GT := gt_3 (List.mem_of_getElem? (i := 4) (by decide +kernel)) (by decide +kernel)
theorem w3_5 : (Jvm.Cond.fieldLink "OperaMachines" (205 : Nat) "OperaMachines$Cue" "worker" "I") ∈ GT := gt_3 (List.mem_of_getElem? (i := 5) (by decide +kernel)) (by decide +kernel)
theorem w3_6 : (Jvm.Cond.fieldLink "OperaMachines" (76 : Nat) "OperaMachines$Cue" "struck" "Z") ∈ GT := gt_3 (List.mem_of_getElem? (i := 6) (by decide +kernel)) (by decide +kernel)
theorem w3_7 : (Jvm.Cond.fieldLink "OperaMachines$Machine" (64 : Nat) "OperaMachines$Cue" "work" "I") ∈ GT := gt_3 (List.mem_of_getElem? (i := 7) (by decide +kernel)) (by decide +kernel)
theorem w3_8 : (Jvm.Cond.fieldLink "OperaMachines" (159 : Nat) "OperaMachines$Cue" "work" "I") ∈ GT := gt_3 (List.mem_of_getElem? (i := 8) (by decide +kernel)) (by decide +kernel)
theorem w3_9 : (Jvm.Cond.laysFinal "OperaMachines$Cue" "OperaMachines$Cue" "machine" "LOperaMachines$Machine;") ∈ GT := gt_3 (List.mem_of_getElem? (i := 9) (by decide +kernel)) (by decide +kernel)
theorem w3_11 : (Jvm.Cond.laysFinal "OperaMachines$Cue" "OperaMachines$Cue" "bar" "I") ∈ GT := gt_3 (List.mem_of_getElem? (i := 11) (by decide +kernel)) (by decide +kernel)
theorem w3_13 : (Jvm.Cond.laysFinal "OperaMachines$Cue" "OperaMachines$Cue" "target" "I") ∈ GT := gt_3 (List.mem_of_getElem? (i := 13) (by decide +kernel)) (by decide +kernel)
theorem w3_15 : (Jvm.Cond.laysFinal "OperaMachines$Cue" "OperaMachines$Cue" "worker" "I") ∈ GT := gt_3 (List.mem_of_getElem? (i := 15) (by decide +kernel)) (by decide +kernel)
theorem w3_17 : (Jvm.Cond.lays "OperaMachines$Cue" "OperaMachines$Cue" "struck" "Z") ∈ GT := gt_3 (List.mem_of_getElem? (i := 17) (by decide +kernel)) (by decide +kernel)
theorem w3_19 : (Jvm.Cond.lays "OperaMachines$Cue" "OperaMachines$Cue" "work" "I") ∈ GT := gt_3 (List.mem_of_getElem? (i := 19) (by decide +kernel)) (by decide +kernel)
theorem w3_21 : (Jvm.Cond.superclass "OperaMachines$Cue" "java/lang/Object") ∈ GT := gt_3 (List.mem_of_getElem? (i := 21) (by decide +kernel)) (by decide +kernel)
theorem w3_22 : (Jvm.Cond.methodLink "OperaMachines" (109 : Nat) ({ cls := "OperaMachines", name := "insertByBar", desc := "(LOperaMachines$Cue;)V" } : Jvm.MethodName)) ∈ GT := gt_3 (List.mem_of_getElem? (i := 22) (by decide +kernel)) (by decide +kernel)
theorem w3_23 : (Jvm.Cond.privateMethod ({ cls := "OperaMachines", name := "insertByBar", desc := "(LOperaMachines$Cue;)V" } : Jvm.MethodName)) ∈ GT := gt_3 (List.mem_of_getElem? (i := 23) (by decide +kernel)) (by decide +kernel)
theorem w3_24 : (Jvm.Cond.instanceMethod ({ cls := "OperaMachines", name := "insertByBar", desc := "(LOperaMachines$Cue;)V" } : Jvm.MethodName)) ∈ GT := gt_3 (List.mem_of_getElem? (i := 24) (by decide +kernel)) (by decide +kernel)
theorem w3_25 : (Jvm.Cond.code ({ cls := "OperaMachines", name := "insertByBar", desc := "(LOperaMachines$Cue;)V" } : Jvm.MethodName) prog_1_method_30_code (3 : Nat) (Option.none : Option Jvm.ClassFile.FieldType)) ∈ GT := gt_3 (List.mem_of_getElem? (i := 25) (by decide +kernel)) (by decide +kernel)
theorem w3_26 : (Jvm.Cond.methodLink "OperaMachines" (188 : Nat) ({ cls := "java/util/ArrayList", name := "add", desc := "(ILjava/lang/Object;)V" } : Jvm.MethodName)) ∈ GT := gt_3 (List.mem_of_getElem? (i := 26) (by decide +kernel)) (by decide +kernel)
theorem w3_27 : (Jvm.Cond.instanceMethod ({ cls := "java/util/ArrayList", name := "add", desc := "(ILjava/lang/Object;)V" } : Jvm.MethodName)) ∈ GT := gt_3 (List.mem_of_getElem? (i := 27) (by decide +kernel)) (by decide +kernel)
theorem w3_28 : (Jvm.Cond.selects "java/util/ArrayList" ({ cls := "java/util/ArrayList", name := "add", desc := "(ILjava/lang/Object;)V" } : Jvm.MethodName) ({ cls := "java/util/ArrayList", name := "add", desc := "(ILjava/lang/Object;)V" } : Jvm.MethodName)) ∈ GT := gt_3 (List.mem_of_getElem? (i := 28) (by decide +kernel)) (by decide +kernel)
theorem w3_29 : (Jvm.Cond.code ({ cls := "java/util/ArrayList", name := "add", desc := "(ILjava/lang/Object;)V" } : Jvm.MethodName) prog_31_method_26_code (5 : Nat) (Option.none : Option Jvm.ClassFile.FieldType)) ∈ GT := gt_3 (List.mem_of_getElem? (i := 29) (by decide +kernel)) (by decide +kernel)
theorem w3_30 : (Jvm.Cond.methodLink "java/util/ArrayList" (135 : Nat) ({ cls := "java/util/ArrayList", name := "rangeCheckForAdd", desc := "(I)V" } : Jvm.MethodName)) ∈ GT := gt_3 (List.mem_of_getElem? (i := 30) (by decide +kernel)) (by decide +kernel)
theorem w3_31 : (Jvm.Cond.privateMethod ({ cls := "java/util/ArrayList", name := "rangeCheckForAdd", desc := "(I)V" } : Jvm.MethodName)) ∈ GT := gt_3 (List.mem_of_getElem? (i := 31) (by decide +kernel)) (by decide +kernel)
theorem w3_32 : (Jvm.Cond.instanceMethod ({ cls := "java/util/ArrayList", name := "rangeCheckForAdd", desc := "(I)V" } : Jvm.MethodName)) ∈ GT := gt_3 (List.mem_of_getElem? (i := 32) (by decide +kernel)) (by decide +kernel)
theorem w3_33 : (Jvm.Cond.code ({ cls := "java/util/ArrayList", name := "rangeCheckForAdd", desc := "(I)V" } : Jvm.MethodName) prog_31_method_45_code (2 : Nat) (Option.none : Option Jvm.ClassFile.FieldType)) ∈ GT := gt_3 (List.mem_of_getElem? (i := 33) (by decide +kernel)) (by decide +kernel)
theorem w3_34 : (Jvm.Cond.classLink "java/util/ArrayList" (187 : Nat) "java/lang/IndexOutOfBoundsException") ∈ GT := gt_3 (List.mem_of_getElem? (i := 34) (by decide +kernel)) (by decide +kernel)
theorem w3_35 : (Jvm.Cond.methodLink "java/util/ArrayList" (198 : Nat) ({ cls := "java/util/ArrayList", name := "outOfBoundsMsg", desc := "(I)Ljava/lang/String;" } : Jvm.MethodName)) ∈ GT := gt_3 (List.mem_of_getElem? (i := 35) (by decide +kernel)) (by decide +kernel)
theorem w3_36 : (Jvm.Cond.privateMethod ({ cls := "java/util/ArrayList", name := "outOfBoundsMsg", desc := "(I)Ljava/lang/String;" } : Jvm.MethodName)) ∈ GT := gt_3 (List.mem_of_getElem? (i := 36) (by decide +kernel)) (by decide +kernel)
theorem w3_37 : (Jvm.Cond.instanceMethod ({ cls := "java/util/ArrayList", name := "outOfBoundsMsg", desc := "(I)Ljava/lang/String;" } : Jvm.MethodName)) ∈ GT := gt_3 (List.mem_of_getElem? (i := 37) (by decide +kernel)) (by decide +kernel)
theorem w3_38 : (Jvm.Cond.code ({ cls := "java/util/ArrayList", name := "outOfBoundsMsg", desc := "(I)Ljava/lang/String;" } : Jvm.MethodName) prog_31_method_46_code (2 : Nat) (Option.some (Jvm.ClassFile.FieldType.object "java/lang/String"))) ∈ GT := gt_3 (List.mem_of_getElem? (i := 38) (by decide +kernel)) (by decide +kernel)
theorem w3_39 : (Jvm.Cond.classLink "java/util/ArrayList" (20 : Nat) "java/lang/StringBuilder") ∈ GT := gt_3 (List.mem_of_getElem? (i := 39) (by decide +kernel)) (by decide +kernel)
theorem w3_40 : (Jvm.Cond.instantiable "java/lang/StringBuilder" (4 : Nat)) ∈ GT := gt_3 (List.mem_of_getElem? (i := 40) (by decide +kernel)) (by decide +kernel)
theorem w3_41 : (Jvm.Cond.methodLink "java/util/ArrayList" (22 : Nat) ({ cls := "java/lang/StringBuilder", name := "<init>", desc := "()V" } : Jvm.MethodName)) ∈ GT := gt_3 (List.mem_of_getElem? (i := 41) (by decide +kernel)) (by decide +kernel)
theorem w3_42 : (Jvm.Cond.instanceMethod ({ cls := "java/lang/StringBuilder", name := "<init>", desc := "()V" } : Jvm.MethodName)) ∈ GT := gt_3 (List.mem_of_getElem? (i := 42) (by decide +kernel)) (by decide +kernel)
theorem w3_43 : (Jvm.Cond.code ({ cls := "java/lang/StringBuilder", name := "<init>", desc := "()V" } : Jvm.MethodName) prog_22_method_1_code (1 : Nat) (Option.none : Option Jvm.ClassFile.FieldType)) ∈ GT := gt_3 (List.mem_of_getElem? (i := 43) (by decide +kernel)) (by decide +kernel)
theorem w3_44 : (Jvm.Cond.methodLink "java/lang/StringBuilder" (1 : Nat) ({ cls := "java/lang/AbstractStringBuilder", name := "<init>", desc := "(I)V" } : Jvm.MethodName)) ∈ GT := gt_3 (List.mem_of_getElem? (i := 44) (by decide +kernel)) (by decide +kernel)
theorem w3_45 : (Jvm.Cond.instanceMethod ({ cls := "java/lang/AbstractStringBuilder", name := "<init>", desc := "(I)V" } : Jvm.MethodName)) ∈ GT := gt_3 (List.mem_of_getElem? (i := 45) (by decide +kernel)) (by decide +kernel)
theorem w3_46 : (Jvm.Cond.code ({ cls := "java/lang/AbstractStringBuilder", name := "<init>", desc := "(I)V" } : Jvm.MethodName) prog_7_method_2_code (2 : Nat) (Option.none : Option Jvm.ClassFile.FieldType)) ∈ GT := gt_3 (List.mem_of_getElem? (i := 46) (by decide +kernel)) (by decide +kernel)
theorem w3_47 : (Jvm.Cond.methodLink "java/lang/AbstractStringBuilder" (3 : Nat) ({ cls := "java/lang/Object", name := "<init>", desc := "()V" } : Jvm.MethodName)) ∈ GT := gt_3 (List.mem_of_getElem? (i := 47) (by decide +kernel)) (by decide +kernel)
theorem w3_48 : (Jvm.Cond.fieldLink "java/lang/AbstractStringBuilder" (18 : Nat) "java/lang/String" "COMPACT_STRINGS" "Z") ∈ GT := gt_3 (List.mem_of_getElem? (i := 48) (by decide +kernel)) (by decide +kernel)
theorem w3_50 : (Jvm.Cond.methodLink "java/lang/AbstractStringBuilder" (26 : Nat) ({ cls := "java/lang/StringUTF16", name := "newBytesFor", desc := "(I)[B" } : Jvm.MethodName)) ∈ GT := gt_3 (List.mem_of_getElem? (i := 50) (by decide +kernel)) (by decide +kernel)
theorem w3_51 : (Jvm.Cond.static ({ cls := "java/lang/StringUTF16", name := "newBytesFor", desc := "(I)[B" } : Jvm.MethodName)) ∈ GT := gt_3 (List.mem_of_getElem? (i := 51) (by decide +kernel)) (by decide +kernel)
theorem w3_52 : (Jvm.Cond.code ({ cls := "java/lang/StringUTF16", name := "newBytesFor", desc := "(I)[B" } : Jvm.MethodName) prog_24_method_2_code (1 : Nat) (Option.some (Jvm.ClassFile.FieldType.array Jvm.ClassFile.FieldType.byte))) ∈ GT := gt_3 (List.mem_of_getElem? (i := 52) (by decide +kernel)) (by decide +kernel)
theorem w3_53 : (Jvm.Cond.methodLink "java/lang/StringUTF16" (11 : Nat) ({ cls := "java/lang/StringUTF16", name := "newBytesLength", desc := "(I)I" } : Jvm.MethodName)) ∈ GT := gt_3 (List.mem_of_getElem? (i := 53) (by decide +kernel)) (by decide +kernel)
theorem w3_54 : (Jvm.Cond.static ({ cls := "java/lang/StringUTF16", name := "newBytesLength", desc := "(I)I" } : Jvm.MethodName)) ∈ GT := gt_3 (List.mem_of_getElem? (i := 54) (by decide +kernel)) (by decide +kernel)
theorem w3_55 : (Jvm.Cond.code ({ cls := "java/lang/StringUTF16", name := "newBytesLength", desc := "(I)I" } : Jvm.MethodName) prog_24_method_3_code (1 : Nat) (Option.some Jvm.ClassFile.FieldType.int)) ∈ GT := gt_3 (List.mem_of_getElem? (i := 55) (by decide +kernel)) (by decide +kernel)
theorem w3_56 : (Jvm.Cond.constant "java/lang/StringUTF16" (20 : Nat) (1073741823 : Int32)) ∈ GT := gt_3 (List.mem_of_getElem? (i := 56) (by decide +kernel)) (by decide +kernel)
theorem w3_57 : (Jvm.Cond.fieldLink "java/lang/AbstractStringBuilder" (15 : Nat) "java/lang/AbstractStringBuilder" "value" "[B") ∈ GT := gt_3 (List.mem_of_getElem? (i := 57) (by decide +kernel)) (by decide +kernel)
theorem w3_58 : (Jvm.Cond.fieldLink "java/lang/AbstractStringBuilder" (22 : Nat) "java/lang/AbstractStringBuilder" "coder" "B") ∈ GT := gt_3 (List.mem_of_getElem? (i := 58) (by decide +kernel)) (by decide +kernel)
theorem w3_59 : (Jvm.Cond.fieldLink "java/lang/String" (1048 : Nat) "java/lang/AbstractStringBuilder" "maybeLatin1" "Z") ∈ GT := gt_3 (List.mem_of_getElem? (i := 59) (by decide +kernel)) (by decide +kernel)
theorem w3_60 : (Jvm.Cond.fieldLink "java/lang/AbstractStringBuilder" (79 : Nat) "java/lang/AbstractStringBuilder" "count" "I") ∈ GT := gt_3 (List.mem_of_getElem? (i := 60) (by decide +kernel)) (by decide +kernel)
theorem w3_61 : (Jvm.Cond.lays "java/lang/StringBuilder" "java/lang/AbstractStringBuilder" "value" "[B") ∈ GT := gt_3 (List.mem_of_getElem? (i := 61) (by decide +kernel)) (by decide +kernel)
theorem w3_63 : (Jvm.Cond.lays "java/lang/StringBuilder" "java/lang/AbstractStringBuilder" "coder" "B") ∈ GT := gt_3 (List.mem_of_getElem? (i := 63) (by decide +kernel)) (by decide +kernel)
theorem w3_65 : (Jvm.Cond.lays "java/lang/StringBuilder" "java/lang/AbstractStringBuilder" "maybeLatin1" "Z") ∈ GT := gt_3 (List.mem_of_getElem? (i := 65) (by decide +kernel)) (by decide +kernel)
theorem w3_67 : (Jvm.Cond.lays "java/lang/StringBuilder" "java/lang/AbstractStringBuilder" "count" "I") ∈ GT := gt_3 (List.mem_of_getElem? (i := 67) (by decide +kernel)) (by decide +kernel)
theorem w3_69 : (Jvm.Cond.superclass "java/lang/StringBuilder" "java/lang/AbstractStringBuilder") ∈ GT := gt_3 (List.mem_of_getElem? (i := 69) (by decide +kernel)) (by decide +kernel)
theorem w3_71 : (Jvm.Cond.methodLink "java/util/ArrayList" (25 : Nat) ({ cls := "java/lang/StringBuilder", name := "append", desc := "(Ljava/lang/String;)Ljava/lang/StringBuilder;" } : Jvm.MethodName)) ∈ GT := gt_3 (List.mem_of_getElem? (i := 71) (by decide +kernel)) (by decide +kernel)
theorem w3_72 : (Jvm.Cond.instanceMethod ({ cls := "java/lang/StringBuilder", name := "append", desc := "(Ljava/lang/String;)Ljava/lang/StringBuilder;" } : Jvm.MethodName)) ∈ GT := gt_3 (List.mem_of_getElem? (i := 72) (by decide +kernel)) (by decide +kernel)
theorem w3_73 : (Jvm.Cond.selects "java/lang/StringBuilder" ({ cls := "java/lang/StringBuilder", name := "append", desc := "(Ljava/lang/String;)Ljava/lang/StringBuilder;" } : Jvm.MethodName) ({ cls := "java/lang/StringBuilder", name := "append", desc := "(Ljava/lang/String;)Ljava/lang/StringBuilder;" } : Jvm.MethodName)) ∈ GT := gt_3 (List.mem_of_getElem? (i := 73) (by decide +kernel)) (by decide +kernel)
theorem w3_74 : (Jvm.Cond.code ({ cls := "java/lang/StringBuilder", name := "append", desc := "(Ljava/lang/String;)Ljava/lang/StringBuilder;" } : Jvm.MethodName) prog_22_method_7_code (2 : Nat) (Option.some (Jvm.ClassFile.FieldType.object "java/lang/StringBuilder"))) ∈ GT := gt_3 (List.mem_of_getElem? (i := 74) (by decide +kernel)) (by decide +kernel)
theorem w3_75 : (Jvm.Cond.methodLink "java/lang/StringBuilder" (29 : Nat) ({ cls := "java/lang/AbstractStringBuilder", name := "append", desc := "(Ljava/lang/String;)Ljava/lang/AbstractStringBuilder;" } : Jvm.MethodName)) ∈ GT := gt_3 (List.mem_of_getElem? (i := 75) (by decide +kernel)) (by decide +kernel)
theorem w3_76 : (Jvm.Cond.instanceMethod ({ cls := "java/lang/AbstractStringBuilder", name := "append", desc := "(Ljava/lang/String;)Ljava/lang/AbstractStringBuilder;" } : Jvm.MethodName)) ∈ GT := gt_3 (List.mem_of_getElem? (i := 76) (by decide +kernel)) (by decide +kernel)
theorem w3_77 : (Jvm.Cond.code ({ cls := "java/lang/AbstractStringBuilder", name := "append", desc := "(Ljava/lang/String;)Ljava/lang/AbstractStringBuilder;" } : Jvm.MethodName) prog_7_method_22_code (3 : Nat) (Option.some (Jvm.ClassFile.FieldType.object "java/lang/AbstractStringBuilder"))) ∈ GT := gt_3 (List.mem_of_getElem? (i := 77) (by decide +kernel)) (by decide +kernel)
theorem w3_78 : (Jvm.Cond.methodLink "java/lang/AbstractStringBuilder" (204 : Nat) ({ cls := "java/lang/AbstractStringBuilder", name := "appendNull", desc := "()Ljava/lang/AbstractStringBuilder;" } : Jvm.MethodName)) ∈ GT := gt_3 (List.mem_of_getElem? (i := 78) (by decide +kernel)) (by decide +kernel)
theorem w3_79 : (Jvm.Cond.privateMethod ({ cls := "java/lang/AbstractStringBuilder", name := "appendNull", desc := "()Ljava/lang/AbstractStringBuilder;" } : Jvm.MethodName)) ∈ GT := gt_3 (List.mem_of_getElem? (i := 79) (by decide +kernel)) (by decide +kernel)
theorem w3_80 : (Jvm.Cond.instanceMethod ({ cls := "java/lang/AbstractStringBuilder", name := "appendNull", desc := "()Ljava/lang/AbstractStringBuilder;" } : Jvm.MethodName)) ∈ GT := gt_3 (List.mem_of_getElem? (i := 80) (by decide +kernel)) (by decide +kernel)
theorem w3_81 : (Jvm.Cond.code ({ cls := "java/lang/AbstractStringBuilder", name := "appendNull", desc := "()Ljava/lang/AbstractStringBuilder;" } : Jvm.MethodName) prog_7_method_26_code (3 : Nat) (Option.some (Jvm.ClassFile.FieldType.object "java/lang/AbstractStringBuilder"))) ∈ GT := gt_3 (List.mem_of_getElem? (i := 81) (by decide +kernel)) (by decide +kernel)
theorem w3_82 : (Jvm.Cond.methodLink "java/lang/AbstractStringBuilder" (100 : Nat) ({ cls := "java/lang/AbstractStringBuilder", name := "ensureCapacityInternal", desc := "(I)V" } : Jvm.MethodName)) ∈ GT := gt_3 (List.mem_of_getElem? (i := 82) (by decide +kernel)) (by decide +kernel)
theorem w3_83 : (Jvm.Cond.privateMethod ({ cls := "java/lang/AbstractStringBuilder", name := "ensureCapacityInternal", desc := "(I)V" } : Jvm.MethodName)) ∈ GT := gt_3 (List.mem_of_getElem? (i := 83) (by decide +kernel)) (by decide +kernel)
theorem w3_84 : (Jvm.Cond.instanceMethod ({ cls := "java/lang/AbstractStringBuilder", name := "ensureCapacityInternal", desc := "(I)V" } : Jvm.MethodName)) ∈ GT := gt_3 (List.mem_of_getElem? (i := 84) (by decide +kernel)) (by decide +kernel)
theorem w3_85 : (Jvm.Cond.code ({ cls := "java/lang/AbstractStringBuilder", name := "ensureCapacityInternal", desc := "(I)V" } : Jvm.MethodName) prog_7_method_9_code (3 : Nat) (Option.none : Option Jvm.ClassFile.FieldType)) ∈ GT := gt_3 (List.mem_of_getElem? (i := 85) (by decide +kernel)) (by decide +kernel)
theorem w3_86 : (Jvm.Cond.methodLink "java/lang/AbstractStringBuilder" (104 : Nat) ({ cls := "java/lang/AbstractStringBuilder", name := "newCapacity", desc := "(I)I" } : Jvm.MethodName)) ∈ GT := gt_3 (List.mem_of_getElem? (i := 86) (by decide +kernel)) (by decide +kernel)
theorem w3_87 : (Jvm.Cond.privateMethod ({ cls := "java/lang/AbstractStringBuilder", name := "newCapacity", desc := "(I)I" } : Jvm.MethodName)) ∈ GT := gt_3 (List.mem_of_getElem? (i := 87) (by decide +kernel)) (by decide +kernel)
theorem w3_88 : (Jvm.Cond.instanceMethod ({ cls := "java/lang/AbstractStringBuilder", name := "newCapacity", desc := "(I)I" } : Jvm.MethodName)) ∈ GT := gt_3 (List.mem_of_getElem? (i := 88) (by decide +kernel)) (by decide +kernel)
theorem w3_89 : (Jvm.Cond.code ({ cls := "java/lang/AbstractStringBuilder", name := "newCapacity", desc := "(I)I" } : Jvm.MethodName) prog_7_method_10_code (6 : Nat) (Option.some Jvm.ClassFile.FieldType.int)) ∈ GT := gt_3 (List.mem_of_getElem? (i := 89) (by decide +kernel)) (by decide +kernel)
theorem w3_90 : (Jvm.Cond.methodLink "java/lang/AbstractStringBuilder" (114 : Nat) ({ cls := "jdk/internal/util/ArraysSupport", name := "newLength", desc := "(III)I" } : Jvm.MethodName)) ∈ GT := gt_3 (List.mem_of_getElem? (i := 90) (by decide +kernel)) (by decide +kernel)
theorem w3_91 : (Jvm.Cond.constant "java/lang/AbstractStringBuilder" (39 : Nat) (2147483647 : Int32)) ∈ GT := gt_3 (List.mem_of_getElem? (i := 91) (by decide +kernel)) (by decide +kernel)
theorem w3_92 : (Jvm.Cond.methodLink "java/lang/AbstractStringBuilder" (108 : Nat) ({ cls := "java/util/Arrays", name := "copyOf", desc := "([BI)[B" } : Jvm.MethodName)) ∈ GT := gt_3 (List.mem_of_getElem? (i := 92) (by decide +kernel)) (by decide +kernel)
theorem w3_93 : (Jvm.Cond.static ({ cls := "java/util/Arrays", name := "copyOf", desc := "([BI)[B" } : Jvm.MethodName)) ∈ GT := gt_3 (List.mem_of_getElem? (i := 93) (by decide +kernel)) (by decide +kernel)
theorem w3_94 : (Jvm.Cond.code ({ cls := "java/util/Arrays", name := "copyOf", desc := "([BI)[B" } : Jvm.MethodName) prog_32_method_121_code (3 : Nat) (Option.some (Jvm.ClassFile.FieldType.array Jvm.ClassFile.FieldType.byte))) ∈ GT := gt_3 (List.mem_of_getElem? (i := 94) (by decide +kernel)) (by decide +kernel)
theorem w3_95 : (Jvm.Cond.methodLink "java/util/Arrays" (310 : Nat) ({ cls := "[B", name := "clone", desc := "()Ljava/lang/Object;" } : Jvm.MethodName)) ∈ GT := gt_3 (List.mem_of_getElem? (i := 95) (by decide +kernel)) (by decide +kernel)
theorem w3_96 : (Jvm.Cond.sameMethod "[B" "java/lang/Object" "clone" "()Ljava/lang/Object;") ∈ GT := gt_3 (List.mem_of_getElem? (i := 96) (by decide +kernel)) (by decide +kernel)
theorem w3_97 : (Jvm.Cond.native ({ cls := "java/lang/Object", name := "clone", desc := "()Ljava/lang/Object;" } : Jvm.MethodName)) ∈ GT := gt_3 (List.mem_of_getElem? (i := 97) (by decide +kernel)) (by decide +kernel)
theorem w3_98 : (Jvm.Cond.instanceMethod ({ cls := "java/lang/Object", name := "clone", desc := "()Ljava/lang/Object;" } : Jvm.MethodName)) ∈ GT := gt_3 (List.mem_of_getElem? (i := 98) (by decide +kernel)) (by decide +kernel)
theorem w3_99 : (Jvm.Cond.selects "[B" ({ cls := "[B", name := "clone", desc := "()Ljava/lang/Object;" } : Jvm.MethodName) ({ cls := "java/lang/Object", name := "clone", desc := "()Ljava/lang/Object;" } : Jvm.MethodName)) ∈ GT := gt_3 (List.mem_of_getElem? (i := 99) (by decide +kernel)) (by decide +kernel)
theorem w3_100 : (Jvm.Cond.castable "[B" "java/lang/Cloneable") ∈ GT := gt_3 (List.mem_of_getElem? (i := 100) (by decide +kernel)) (by decide +kernel)
theorem w3_101 : (Jvm.Cond.classLink "java/util/Arrays" (311 : Nat) "[B") ∈ GT := gt_3 (List.mem_of_getElem? (i := 101) (by decide +kernel)) (by decide +kernel)
theorem w3_102 : (Jvm.Cond.methodLink "java/lang/AbstractStringBuilder" (83 : Nat) ({ cls := "java/lang/AbstractStringBuilder", name := "isLatin1", desc := "()Z" } : Jvm.MethodName)) ∈ GT := gt_3 (List.mem_of_getElem? (i := 102) (by decide +kernel)) (by decide +kernel)
theorem w3_103 : (Jvm.Cond.instanceMethod ({ cls := "java/lang/AbstractStringBuilder", name := "isLatin1", desc := "()Z" } : Jvm.MethodName)) ∈ GT := gt_3 (List.mem_of_getElem? (i := 103) (by decide +kernel)) (by decide +kernel)
theorem w3_104 : (Jvm.Cond.sameMethod "java/lang/AbstractStringBuilder" "java/lang/AbstractStringBuilder" "isLatin1" "()Z") ∈ GT := gt_3 (List.mem_of_getElem? (i := 104) (by decide +kernel)) (by decide +kernel)
theorem w3_105 : (Jvm.Cond.selects "java/lang/StringBuilder" ({ cls := "java/lang/AbstractStringBuilder", name := "isLatin1", desc := "()Z" } : Jvm.MethodName) ({ cls := "java/lang/AbstractStringBuilder", name := "isLatin1", desc := "()Z" } : Jvm.MethodName)) ∈ GT := gt_3 (List.mem_of_getElem? (i := 105) (by decide +kernel)) (by decide +kernel)
theorem w3_106 : (Jvm.Cond.code ({ cls := "java/lang/AbstractStringBuilder", name := "isLatin1", desc := "()Z" } : Jvm.MethodName) prog_7_method_68_code (1 : Nat) (Option.some Jvm.ClassFile.FieldType.boolean)) ∈ GT := gt_3 (List.mem_of_getElem? (i := 106) (by decide +kernel)) (by decide +kernel)
theorem w3_107 : (Jvm.Cond.methodLink "java/lang/AbstractStringBuilder" (226 : Nat) ({ cls := "java/lang/StringUTF16", name := "putCharsAt", desc := "([BICCCC)I" } : Jvm.MethodName)) ∈ GT := gt_3 (List.mem_of_getElem? (i := 107) (by decide +kernel)) (by decide +kernel)
theorem w3_108 : (Jvm.Cond.static ({ cls := "java/lang/StringUTF16", name := "putCharsAt", desc := "([BICCCC)I" } : Jvm.MethodName)) ∈ GT := gt_3 (List.mem_of_getElem? (i := 108) (by decide +kernel)) (by decide +kernel)
theorem w3_109 : (Jvm.Cond.code ({ cls := "java/lang/StringUTF16", name := "putCharsAt", desc := "([BICCCC)I" } : Jvm.MethodName) prog_24_method_81_code (7 : Nat) (Option.some Jvm.ClassFile.FieldType.int)) ∈ GT := gt_3 (List.mem_of_getElem? (i := 109) (by decide +kernel)) (by decide +kernel)
theorem w3_110 : (Jvm.Cond.methodLink "java/lang/StringUTF16" (96 : Nat) ({ cls := "java/lang/StringUTF16", name := "checkBoundsBeginEnd", desc := "(II[B)V" } : Jvm.MethodName)) ∈ GT := gt_3 (List.mem_of_getElem? (i := 110) (by decide +kernel)) (by decide +kernel)
theorem w3_111 : (Jvm.Cond.static ({ cls := "java/lang/StringUTF16", name := "checkBoundsBeginEnd", desc := "(II[B)V" } : Jvm.MethodName)) ∈ GT := gt_3 (List.mem_of_getElem? (i := 111) (by decide +kernel)) (by decide +kernel)
theorem w3_112 : (Jvm.Cond.code ({ cls := "java/lang/StringUTF16", name := "checkBoundsBeginEnd", desc := "(II[B)V" } : Jvm.MethodName) prog_24_method_93_code (3 : Nat) (Option.none : Option Jvm.ClassFile.FieldType)) ∈ GT := gt_3 (List.mem_of_getElem? (i := 112) (by decide +kernel)) (by decide +kernel)
theorem w3_113 : (Jvm.Cond.methodLink "java/lang/StringUTF16" (48 : Nat) ({ cls := "java/lang/StringUTF16", name := "length", desc := "([B)I" } : Jvm.MethodName)) ∈ GT := gt_3 (List.mem_of_getElem? (i := 113) (by decide +kernel)) (by decide +kernel)
theorem w3_114 : (Jvm.Cond.static ({ cls := "java/lang/StringUTF16", name := "length", desc := "([B)I" } : Jvm.MethodName)) ∈ GT := gt_3 (List.mem_of_getElem? (i := 114) (by decide +kernel)) (by decide +kernel)
theorem w3_115 : (Jvm.Cond.code ({ cls := "java/lang/StringUTF16", name := "length", desc := "([B)I" } : Jvm.MethodName) prog_24_method_6_code (1 : Nat) (Option.some Jvm.ClassFile.FieldType.int)) ∈ GT := gt_3 (List.mem_of_getElem? (i := 115) (by decide +kernel)) (by decide +kernel)
theorem w3_116 : (Jvm.Cond.methodLink "java/lang/StringUTF16" (241 : Nat) ({ cls := "java/lang/String", name := "checkBoundsBeginEnd", desc := "(III)V" } : Jvm.MethodName)) ∈ GT := gt_3 (List.mem_of_getElem? (i := 116) (by decide +kernel)) (by decide +kernel)
theorem w3_117 : (Jvm.Cond.static ({ cls := "java/lang/String", name := "checkBoundsBeginEnd", desc := "(III)V" } : Jvm.MethodName)) ∈ GT := gt_3 (List.mem_of_getElem? (i := 117) (by decide +kernel)) (by decide +kernel)
theorem w3_118 : (Jvm.Cond.code ({ cls := "java/lang/String", name := "checkBoundsBeginEnd", desc := "(III)V" } : Jvm.MethodName) prog_21_method_158_code (3 : Nat) (Option.none : Option Jvm.ClassFile.FieldType)) ∈ GT := gt_3 (List.mem_of_getElem? (i := 118) (by decide +kernel)) (by decide +kernel)
theorem w3_119 : (Jvm.Cond.fieldLink "java/lang/String" (1053 : Nat) "jdk/internal/util/Preconditions" "SIOOBE_FORMATTER" "Ljava/util/function/BiFunction;") ∈ GT := gt_3 (List.mem_of_getElem? (i := 119) (by decide +kernel)) (by decide +kernel)
theorem w3_121 : (Jvm.Cond.methodLink "java/lang/String" (1062 : Nat) ({ cls := "jdk/internal/util/Preconditions", name := "checkFromToIndex", desc := "(IIILjava/util/function/BiFunction;)I" } : Jvm.MethodName)) ∈ GT := gt_3 (List.mem_of_getElem? (i := 121) (by decide +kernel)) (by decide +kernel)
theorem w3_122 : (Jvm.Cond.static ({ cls := "jdk/internal/util/Preconditions", name := "checkFromToIndex", desc := "(IIILjava/util/function/BiFunction;)I" } : Jvm.MethodName)) ∈ GT := gt_3 (List.mem_of_getElem? (i := 122) (by decide +kernel)) (by decide +kernel)
theorem w3_123 : (Jvm.Cond.code ({ cls := "jdk/internal/util/Preconditions", name := "checkFromToIndex", desc := "(IIILjava/util/function/BiFunction;)I" } : Jvm.MethodName) prog_39_method_12_code (4 : Nat) (Option.some Jvm.ClassFile.FieldType.int)) ∈ GT := gt_3 (List.mem_of_getElem? (i := 123) (by decide +kernel)) (by decide +kernel)
theorem w3_124 : (Jvm.Cond.methodLink "java/lang/StringUTF16" (111 : Nat) ({ cls := "java/lang/StringUTF16", name := "putChar", desc := "([BII)V" } : Jvm.MethodName)) ∈ GT := gt_3 (List.mem_of_getElem? (i := 124) (by decide +kernel)) (by decide +kernel)
theorem w3_125 : (Jvm.Cond.static ({ cls := "java/lang/StringUTF16", name := "putChar", desc := "([BII)V" } : Jvm.MethodName)) ∈ GT := gt_3 (List.mem_of_getElem? (i := 125) (by decide +kernel)) (by decide +kernel)
theorem w3_126 : (Jvm.Cond.code ({ cls := "java/lang/StringUTF16", name := "putChar", desc := "([BII)V" } : Jvm.MethodName) prog_24_method_4_code (3 : Nat) (Option.none : Option Jvm.ClassFile.FieldType)) ∈ GT := gt_3 (List.mem_of_getElem? (i := 126) (by decide +kernel)) (by decide +kernel)
theorem w3_127 : (Jvm.Cond.fieldLink "java/lang/StringUTF16" (44 : Nat) "java/lang/StringUTF16" "$assertionsDisabled" "Z") ∈ GT := gt_3 (List.mem_of_getElem? (i := 127) (by decide +kernel)) (by decide +kernel)
theorem w3_129 : (Jvm.Cond.fieldLink "java/lang/StringUTF16" (59 : Nat) "java/lang/StringUTF16" "HI_BYTE_SHIFT" "I") ∈ GT := gt_3 (List.mem_of_getElem? (i := 129) (by decide +kernel)) (by decide +kernel)
theorem w3_131 : (Jvm.Cond.fieldLink "java/lang/StringUTF16" (63 : Nat) "java/lang/StringUTF16" "LO_BYTE_SHIFT" "I") ∈ GT := gt_3 (List.mem_of_getElem? (i := 131) (by decide +kernel)) (by decide +kernel)
theorem w3_133 : (Jvm.Cond.methodLink "java/lang/AbstractStringBuilder" (32 : Nat) ({ cls := "java/lang/String", name := "length", desc := "()I" } : Jvm.MethodName)) ∈ GT := gt_3 (List.mem_of_getElem? (i := 133) (by decide +kernel)) (by decide +kernel)
theorem w3_134 : (Jvm.Cond.instanceMethod ({ cls := "java/lang/String", name := "length", desc := "()I" } : Jvm.MethodName)) ∈ GT := gt_3 (List.mem_of_getElem? (i := 134) (by decide +kernel)) (by decide +kernel)
theorem w3_135 : (Jvm.Cond.selects "java/lang/String" ({ cls := "java/lang/String", name := "length", desc := "()I" } : Jvm.MethodName) ({ cls := "java/lang/String", name := "length", desc := "()I" } : Jvm.MethodName)) ∈ GT := gt_3 (List.mem_of_getElem? (i := 135) (by decide +kernel)) (by decide +kernel)
theorem w3_136 : (Jvm.Cond.code ({ cls := "java/lang/String", name := "length", desc := "()I" } : Jvm.MethodName) prog_21_method_54_code (1 : Nat) (Option.some Jvm.ClassFile.FieldType.int)) ∈ GT := gt_3 (List.mem_of_getElem? (i := 136) (by decide +kernel)) (by decide +kernel)
theorem w3_137 : (Jvm.Cond.methodLink "java/lang/String" (335 : Nat) ({ cls := "java/lang/String", name := "coder", desc := "()B" } : Jvm.MethodName)) ∈ GT := gt_3 (List.mem_of_getElem? (i := 137) (by decide +kernel)) (by decide +kernel)
theorem w3_138 : (Jvm.Cond.instanceMethod ({ cls := "java/lang/String", name := "coder", desc := "()B" } : Jvm.MethodName)) ∈ GT := gt_3 (List.mem_of_getElem? (i := 138) (by decide +kernel)) (by decide +kernel)
theorem w3_139 : (Jvm.Cond.selects "java/lang/String" ({ cls := "java/lang/String", name := "coder", desc := "()B" } : Jvm.MethodName) ({ cls := "java/lang/String", name := "coder", desc := "()B" } : Jvm.MethodName)) ∈ GT := gt_3 (List.mem_of_getElem? (i := 139) (by decide +kernel)) (by decide +kernel)
theorem w3_140 : (Jvm.Cond.code ({ cls := "java/lang/String", name := "coder", desc := "()B" } : Jvm.MethodName) prog_21_method_152_code (1 : Nat) (Option.some Jvm.ClassFile.FieldType.byte)) ∈ GT := gt_3 (List.mem_of_getElem? (i := 140) (by decide +kernel)) (by decide +kernel)
theorem w3_141 : (Jvm.Cond.fieldLink "java/lang/String" (38 : Nat) "java/lang/String" "COMPACT_STRINGS" "Z") ∈ GT := gt_3 (List.mem_of_getElem? (i := 141) (by decide +kernel)) (by decide +kernel)
theorem w3_142 : (Jvm.Cond.methodLink "java/lang/AbstractStringBuilder" (208 : Nat) ({ cls := "java/lang/AbstractStringBuilder", name := "putStringAt", desc := "(ILjava/lang/String;)V" } : Jvm.MethodName)) ∈ GT := gt_3 (List.mem_of_getElem? (i := 142) (by decide +kernel)) (by decide +kernel)
theorem w3_143 : (Jvm.Cond.privateMethod ({ cls := "java/lang/AbstractStringBuilder", name := "putStringAt", desc := "(ILjava/lang/String;)V" } : Jvm.MethodName)) ∈ GT := gt_3 (List.mem_of_getElem? (i := 143) (by decide +kernel)) (by decide +kernel)
theorem w3_144 : (Jvm.Cond.instanceMethod ({ cls := "java/lang/AbstractStringBuilder", name := "putStringAt", desc := "(ILjava/lang/String;)V" } : Jvm.MethodName)) ∈ GT := gt_3 (List.mem_of_getElem? (i := 144) (by decide +kernel)) (by decide +kernel)
theorem w3_145 : (Jvm.Cond.code ({ cls := "java/lang/AbstractStringBuilder", name := "putStringAt", desc := "(ILjava/lang/String;)V" } : Jvm.MethodName) prog_7_method_73_code (3 : Nat) (Option.none : Option Jvm.ClassFile.FieldType)) ∈ GT := gt_3 (List.mem_of_getElem? (i := 145) (by decide +kernel)) (by decide +kernel)
theorem w3_146 : (Jvm.Cond.methodLink "java/lang/AbstractStringBuilder" (397 : Nat) ({ cls := "java/lang/AbstractStringBuilder", name := "inflateIfNeededFor", desc := "(Ljava/lang/String;)V" } : Jvm.MethodName)) ∈ GT := gt_3 (List.mem_of_getElem? (i := 146) (by decide +kernel)) (by decide +kernel)
theorem w3_147 : (Jvm.Cond.privateMethod ({ cls := "java/lang/AbstractStringBuilder", name := "inflateIfNeededFor", desc := "(Ljava/lang/String;)V" } : Jvm.MethodName)) ∈ GT := gt_3 (List.mem_of_getElem? (i := 147) (by decide +kernel)) (by decide +kernel)
theorem w3_148 : (Jvm.Cond.instanceMethod ({ cls := "java/lang/AbstractStringBuilder", name := "inflateIfNeededFor", desc := "(Ljava/lang/String;)V" } : Jvm.MethodName)) ∈ GT := gt_3 (List.mem_of_getElem? (i := 148) (by decide +kernel)) (by decide +kernel)
theorem w3_149 : (Jvm.Cond.code ({ cls := "java/lang/AbstractStringBuilder", name := "inflateIfNeededFor", desc := "(Ljava/lang/String;)V" } : Jvm.MethodName) prog_7_method_71_code (2 : Nat) (Option.none : Option Jvm.ClassFile.FieldType)) ∈ GT := gt_3 (List.mem_of_getElem? (i := 149) (by decide +kernel)) (by decide +kernel)
theorem w3_150 : (Jvm.Cond.methodLink "java/lang/AbstractStringBuilder" (40 : Nat) ({ cls := "java/lang/String", name := "coder", desc := "()B" } : Jvm.MethodName)) ∈ GT := gt_3 (List.mem_of_getElem? (i := 150) (by decide +kernel)) (by decide +kernel)
theorem w3_151 : (Jvm.Cond.methodLink "java/lang/AbstractStringBuilder" (195 : Nat) ({ cls := "java/lang/AbstractStringBuilder", name := "inflate", desc := "()V" } : Jvm.MethodName)) ∈ GT := gt_3 (List.mem_of_getElem? (i := 151) (by decide +kernel)) (by decide +kernel)
theorem w3_152 : (Jvm.Cond.privateMethod ({ cls := "java/lang/AbstractStringBuilder", name := "inflate", desc := "()V" } : Jvm.MethodName)) ∈ GT := gt_3 (List.mem_of_getElem? (i := 152) (by decide +kernel)) (by decide +kernel)
theorem w3_153 : (Jvm.Cond.instanceMethod ({ cls := "java/lang/AbstractStringBuilder", name := "inflate", desc := "()V" } : Jvm.MethodName)) ∈ GT := gt_3 (List.mem_of_getElem? (i := 153) (by decide +kernel)) (by decide +kernel)
theorem w3_154 : (Jvm.Cond.code ({ cls := "java/lang/AbstractStringBuilder", name := "inflate", desc := "()V" } : Jvm.MethodName) prog_7_method_11_code (2 : Nat) (Option.none : Option Jvm.ClassFile.FieldType)) ∈ GT := gt_3 (List.mem_of_getElem? (i := 154) (by decide +kernel)) (by decide +kernel)
theorem w3_155 : (Jvm.Cond.methodLink "java/lang/AbstractStringBuilder" (125 : Nat) ({ cls := "java/lang/StringLatin1", name := "inflate", desc := "([BI[BII)V" } : Jvm.MethodName)) ∈ GT := gt_3 (List.mem_of_getElem? (i := 155) (by decide +kernel)) (by decide +kernel)
theorem w3_156 : (Jvm.Cond.static ({ cls := "java/lang/StringLatin1", name := "inflate", desc := "([BI[BII)V" } : Jvm.MethodName)) ∈ GT := gt_3 (List.mem_of_getElem? (i := 156) (by decide +kernel)) (by decide +kernel)
theorem w3_157 : (Jvm.Cond.code ({ cls := "java/lang/StringLatin1", name := "inflate", desc := "([BI[BII)V" } : Jvm.MethodName) prog_23_method_50_code (5 : Nat) (Option.none : Option Jvm.ClassFile.FieldType)) ∈ GT := gt_3 (List.mem_of_getElem? (i := 157) (by decide +kernel)) (by decide +kernel)
theorem w3_158 : (Jvm.Cond.methodLink "java/lang/StringLatin1" (240 : Nat) ({ cls := "java/lang/StringUTF16", name := "inflate", desc := "([BI[BII)V" } : Jvm.MethodName)) ∈ GT := gt_3 (List.mem_of_getElem? (i := 158) (by decide +kernel)) (by decide +kernel)
theorem w3_159 : (Jvm.Cond.static ({ cls := "java/lang/StringUTF16", name := "inflate", desc := "([BI[BII)V" } : Jvm.MethodName)) ∈ GT := gt_3 (List.mem_of_getElem? (i := 159) (by decide +kernel)) (by decide +kernel)
theorem w3_160 : (Jvm.Cond.code ({ cls := "java/lang/StringUTF16", name := "inflate", desc := "([BI[BII)V" } : Jvm.MethodName) prog_24_method_86_code (6 : Nat) (Option.none : Option Jvm.ClassFile.FieldType)) ∈ GT := gt_3 (List.mem_of_getElem? (i := 160) (by decide +kernel)) (by decide +kernel)
theorem w3_161 : (Jvm.Cond.methodLink "java/lang/StringUTF16" (173 : Nat) ({ cls := "java/lang/StringUTF16", name := "checkBoundsOffCount", desc := "(II[B)V" } : Jvm.MethodName)) ∈ GT := gt_3 (List.mem_of_getElem? (i := 161) (by decide +kernel)) (by decide +kernel)
theorem w3_162 : (Jvm.Cond.static ({ cls := "java/lang/StringUTF16", name := "checkBoundsOffCount", desc := "(II[B)V" } : Jvm.MethodName)) ∈ GT := gt_3 (List.mem_of_getElem? (i := 162) (by decide +kernel)) (by decide +kernel)
theorem w3_163 : (Jvm.Cond.code ({ cls := "java/lang/StringUTF16", name := "checkBoundsOffCount", desc := "(II[B)V" } : Jvm.MethodName) prog_24_method_94_code (3 : Nat) (Option.none : Option Jvm.ClassFile.FieldType)) ∈ GT := gt_3 (List.mem_of_getElem? (i := 163) (by decide +kernel)) (by decide +kernel)
theorem w3_164 : (Jvm.Cond.methodLink "java/lang/StringUTF16" (419 : Nat) ({ cls := "java/lang/String", name := "checkBoundsOffCount", desc := "(III)I" } : Jvm.MethodName)) ∈ GT := gt_3 (List.mem_of_getElem? (i := 164) (by decide +kernel)) (by decide +kernel)
theorem w3_165 : (Jvm.Cond.static ({ cls := "java/lang/String", name := "checkBoundsOffCount", desc := "(III)I" } : Jvm.MethodName)) ∈ GT := gt_3 (List.mem_of_getElem? (i := 165) (by decide +kernel)) (by decide +kernel)
theorem w3_166 : (Jvm.Cond.code ({ cls := "java/lang/String", name := "checkBoundsOffCount", desc := "(III)I" } : Jvm.MethodName) prog_21_method_157_code (3 : Nat) (Option.some Jvm.ClassFile.FieldType.int)) ∈ GT := gt_3 (List.mem_of_getElem? (i := 166) (by decide +kernel)) (by decide +kernel)
theorem w3_167 : (Jvm.Cond.methodLink "java/lang/String" (1065 : Nat) ({ cls := "jdk/internal/util/Preconditions", name := "checkFromIndexSize", desc := "(IIILjava/util/function/BiFunction;)I" } : Jvm.MethodName)) ∈ GT := gt_3 (List.mem_of_getElem? (i := 167) (by decide +kernel)) (by decide +kernel)
theorem w3_168 : (Jvm.Cond.static ({ cls := "jdk/internal/util/Preconditions", name := "checkFromIndexSize", desc := "(IIILjava/util/function/BiFunction;)I" } : Jvm.MethodName)) ∈ GT := gt_3 (List.mem_of_getElem? (i := 168) (by decide +kernel)) (by decide +kernel)
theorem w3_169 : (Jvm.Cond.code ({ cls := "jdk/internal/util/Preconditions", name := "checkFromIndexSize", desc := "(IIILjava/util/function/BiFunction;)I" } : Jvm.MethodName) prog_39_method_13_code (4 : Nat) (Option.some Jvm.ClassFile.FieldType.int)) ∈ GT := gt_3 (List.mem_of_getElem? (i := 169) (by decide +kernel)) (by decide +kernel)
theorem w3_170 : (Jvm.Cond.methodLink "java/lang/AbstractStringBuilder" (399 : Nat) ({ cls := "java/lang/String", name := "getBytes", desc := "([BIB)V" } : Jvm.MethodName)) ∈ GT := gt_3 (List.mem_of_getElem? (i := 170) (by decide +kernel)) (by decide +kernel)
theorem w3_171 : (Jvm.Cond.instanceMethod ({ cls := "java/lang/String", name := "getBytes", desc := "([BIB)V" } : Jvm.MethodName)) ∈ GT := gt_3 (List.mem_of_getElem? (i := 171) (by decide +kernel)) (by decide +kernel)
theorem w3_172 : (Jvm.Cond.selects "java/lang/String" ({ cls := "java/lang/String", name := "getBytes", desc := "([BIB)V" } : Jvm.MethodName) ({ cls := "java/lang/String", name := "getBytes", desc := "([BIB)V" } : Jvm.MethodName)) ∈ GT := gt_3 (List.mem_of_getElem? (i := 172) (by decide +kernel)) (by decide +kernel)
theorem w3_173 : (Jvm.Cond.code ({ cls := "java/lang/String", name := "getBytes", desc := "([BIB)V" } : Jvm.MethodName) prog_21_method_147_code (4 : Nat) (Option.none : Option Jvm.ClassFile.FieldType)) ∈ GT := gt_3 (List.mem_of_getElem? (i := 173) (by decide +kernel)) (by decide +kernel)
theorem w3_174 : (Jvm.Cond.methodLink "java/lang/String" (212 : Nat) ({ cls := "java/lang/System", name := "arraycopy", desc := "(Ljava/lang/Object;ILjava/lang/Object;II)V" } : Jvm.MethodName)) ∈ GT := gt_3 (List.mem_of_getElem? (i := 174) (by decide +kernel)) (by decide +kernel)
theorem w3_175 : (Jvm.Cond.methodLink "java/lang/String" (106 : Nat) ({ cls := "java/lang/StringLatin1", name := "inflate", desc := "([BI[BII)V" } : Jvm.MethodName)) ∈ GT := gt_3 (List.mem_of_getElem? (i := 175) (by decide +kernel)) (by decide +kernel)
theorem w3_176 : (Jvm.Cond.methodLink "java/util/ArrayList" (29 : Nat) ({ cls := "java/lang/StringBuilder", name := "append", desc := "(I)Ljava/lang/StringBuilder;" } : Jvm.MethodName)) ∈ GT := gt_3 (List.mem_of_getElem? (i := 176) (by decide +kernel)) (by decide +kernel)
theorem w3_177 : (Jvm.Cond.instanceMethod ({ cls := "java/lang/StringBuilder", name := "append", desc := "(I)Ljava/lang/StringBuilder;" } : Jvm.MethodName)) ∈ GT := gt_3 (List.mem_of_getElem? (i := 177) (by decide +kernel)) (by decide +kernel)
theorem w3_178 : (Jvm.Cond.selects "java/lang/StringBuilder" ({ cls := "java/lang/StringBuilder", name := "append", desc := "(I)Ljava/lang/StringBuilder;" } : Jvm.MethodName) ({ cls := "java/lang/StringBuilder", name := "append", desc := "(I)Ljava/lang/StringBuilder;" } : Jvm.MethodName)) ∈ GT := gt_3 (List.mem_of_getElem? (i := 178) (by decide +kernel)) (by decide +kernel)
theorem w3_179 : (Jvm.Cond.code ({ cls := "java/lang/StringBuilder", name := "append", desc := "(I)Ljava/lang/StringBuilder;" } : Jvm.MethodName) prog_22_method_15_code (2 : Nat) (Option.some (Jvm.ClassFile.FieldType.object "java/lang/StringBuilder"))) ∈ GT := gt_3 (List.mem_of_getElem? (i := 179) (by decide +kernel)) (by decide +kernel)
theorem w3_180 : (Jvm.Cond.methodLink "java/lang/StringBuilder" (53 : Nat) ({ cls := "java/lang/AbstractStringBuilder", name := "append", desc := "(I)Ljava/lang/AbstractStringBuilder;" } : Jvm.MethodName)) ∈ GT := gt_3 (List.mem_of_getElem? (i := 180) (by decide +kernel)) (by decide +kernel)
theorem w3_181 : (Jvm.Cond.instanceMethod ({ cls := "java/lang/AbstractStringBuilder", name := "append", desc := "(I)Ljava/lang/AbstractStringBuilder;" } : Jvm.MethodName)) ∈ GT := gt_3 (List.mem_of_getElem? (i := 181) (by decide +kernel)) (by decide +kernel)
theorem w3_182 : (Jvm.Cond.code ({ cls := "java/lang/AbstractStringBuilder", name := "append", desc := "(I)Ljava/lang/AbstractStringBuilder;" } : Jvm.MethodName) prog_7_method_32_code (4 : Nat) (Option.some (Jvm.ClassFile.FieldType.object "java/lang/AbstractStringBuilder"))) ∈ GT := gt_3 (List.mem_of_getElem? (i := 182) (by decide +kernel)) (by decide +kernel)
theorem w3_183 : (Jvm.Cond.methodLink "java/lang/AbstractStringBuilder" (245 : Nat) ({ cls := "java/lang/Integer", name := "stringSize", desc := "(I)I" } : Jvm.MethodName)) ∈ GT := gt_3 (List.mem_of_getElem? (i := 183) (by decide +kernel)) (by decide +kernel)
theorem w3_184 : (Jvm.Cond.static ({ cls := "java/lang/Integer", name := "stringSize", desc := "(I)I" } : Jvm.MethodName)) ∈ GT := gt_3 (List.mem_of_getElem? (i := 184) (by decide +kernel)) (by decide +kernel)
theorem w3_185 : (Jvm.Cond.code ({ cls := "java/lang/Integer", name := "stringSize", desc := "(I)I" } : Jvm.MethodName) prog_16_method_13_code (4 : Nat) (Option.some Jvm.ClassFile.FieldType.int)) ∈ GT := gt_3 (List.mem_of_getElem? (i := 185) (by decide +kernel)) (by decide +kernel)
theorem w3_186 : (Jvm.Cond.methodLink "java/lang/AbstractStringBuilder" (248 : Nat) ({ cls := "java/lang/Integer", name := "getChars", desc := "(II[B)I" } : Jvm.MethodName)) ∈ GT := gt_3 (List.mem_of_getElem? (i := 186) (by decide +kernel)) (by decide +kernel)
theorem w3_187 : (Jvm.Cond.static ({ cls := "java/lang/Integer", name := "getChars", desc := "(II[B)I" } : Jvm.MethodName)) ∈ GT := gt_3 (List.mem_of_getElem? (i := 187) (by decide +kernel)) (by decide +kernel)
theorem w3_188 : (Jvm.Cond.code ({ cls := "java/lang/Integer", name := "getChars", desc := "(II[B)I" } : Jvm.MethodName) prog_16_method_12_code (7 : Nat) (Option.some Jvm.ClassFile.FieldType.int)) ∈ GT := gt_3 (List.mem_of_getElem? (i := 188) (by decide +kernel)) (by decide +kernel)
theorem w3_189 : (Jvm.Cond.fieldLink "java/lang/Integer" (83 : Nat) "java/lang/Integer" "DigitOnes" "[B") ∈ GT := gt_3 (List.mem_of_getElem? (i := 189) (by decide +kernel)) (by decide +kernel)
theorem w3_191 : (Jvm.Cond.fieldLink "java/lang/Integer" (87 : Nat) "java/lang/Integer" "DigitTens" "[B") ∈ GT := gt_3 (List.mem_of_getElem? (i := 191) (by decide +kernel)) (by decide +kernel)
theorem w3_193 : (Jvm.Cond.methodLink "java/lang/AbstractStringBuilder" (251 : Nat) ({ cls := "java/lang/StringUTF16", name := "getChars", desc := "(III[B)I" } : Jvm.MethodName)) ∈ GT := gt_3 (List.mem_of_getElem? (i := 193) (by decide +kernel)) (by decide +kernel)
theorem w3_194 : (Jvm.Cond.static ({ cls := "java/lang/StringUTF16", name := "getChars", desc := "(III[B)I" } : Jvm.MethodName)) ∈ GT := gt_3 (List.mem_of_getElem? (i := 194) (by decide +kernel)) (by decide +kernel)
theorem w3_195 : (Jvm.Cond.code ({ cls := "java/lang/StringUTF16", name := "getChars", desc := "(III[B)I" } : Jvm.MethodName) prog_24_method_77_code (5 : Nat) (Option.some Jvm.ClassFile.FieldType.int)) ∈ GT := gt_3 (List.mem_of_getElem? (i := 195) (by decide +kernel)) (by decide +kernel)
theorem w3_196 : (Jvm.Cond.methodLink "java/lang/StringUTF16" (393 : Nat) ({ cls := "java/lang/StringUTF16", name := "getChars", desc := "(II[B)I" } : Jvm.MethodName)) ∈ GT := gt_3 (List.mem_of_getElem? (i := 196) (by decide +kernel)) (by decide +kernel)
theorem w3_197 : (Jvm.Cond.static ({ cls := "java/lang/StringUTF16", name := "getChars", desc := "(II[B)I" } : Jvm.MethodName)) ∈ GT := gt_3 (List.mem_of_getElem? (i := 197) (by decide +kernel)) (by decide +kernel)
theorem w3_198 : (Jvm.Cond.code ({ cls := "java/lang/StringUTF16", name := "getChars", desc := "(II[B)I" } : Jvm.MethodName) prog_24_method_89_code (7 : Nat) (Option.some Jvm.ClassFile.FieldType.int)) ∈ GT := gt_3 (List.mem_of_getElem? (i := 198) (by decide +kernel)) (by decide +kernel)
theorem w3_199 : (Jvm.Cond.fieldLink "java/lang/StringUTF16" (403 : Nat) "java/lang/Integer" "DigitOnes" "[B") ∈ GT := gt_3 (List.mem_of_getElem? (i := 199) (by decide +kernel)) (by decide +kernel)
theorem w3_200 : (Jvm.Cond.fieldLink "java/lang/StringUTF16" (407 : Nat) "java/lang/Integer" "DigitTens" "[B") ∈ GT := gt_3 (List.mem_of_getElem? (i := 200) (by decide +kernel)) (by decide +kernel)
theorem w3_202 : (Jvm.Cond.methodLink "java/util/ArrayList" (32 : Nat) ({ cls := "java/lang/StringBuilder", name := "toString", desc := "()Ljava/lang/String;" } : Jvm.MethodName)) ∈ GT := gt_3 (List.mem_of_getElem? (i := 202) (by decide +kernel)) (by decide +kernel)
theorem w3_203 : (Jvm.Cond.instanceMethod ({ cls := "java/lang/StringBuilder", name := "toString", desc := "()Ljava/lang/String;" } : Jvm.MethodName)) ∈ GT := gt_3 (List.mem_of_getElem? (i := 203) (by decide +kernel)) (by decide +kernel)
theorem w3_204 : (Jvm.Cond.selects "java/lang/StringBuilder" ({ cls := "java/lang/StringBuilder", name := "toString", desc := "()Ljava/lang/String;" } : Jvm.MethodName) ({ cls := "java/lang/StringBuilder", name := "toString", desc := "()Ljava/lang/String;" } : Jvm.MethodName)) ∈ GT := gt_3 (List.mem_of_getElem? (i := 204) (by decide +kernel)) (by decide +kernel)
theorem w3_205 : (Jvm.Cond.code ({ cls := "java/lang/StringBuilder", name := "toString", desc := "()Ljava/lang/String;" } : Jvm.MethodName) prog_22_method_42_code (1 : Nat) (Option.some (Jvm.ClassFile.FieldType.object "java/lang/String"))) ∈ GT := gt_3 (List.mem_of_getElem? (i := 205) (by decide +kernel)) (by decide +kernel)
theorem w3_206 : (Jvm.Cond.classLink "java/lang/StringBuilder" (18 : Nat) "java/lang/String") ∈ GT := gt_3 (List.mem_of_getElem? (i := 206) (by decide +kernel)) (by decide +kernel)
theorem w3_207 : (Jvm.Cond.instantiable "java/lang/String" (4 : Nat)) ∈ GT := gt_3 (List.mem_of_getElem? (i := 207) (by decide +kernel)) (by decide +kernel)
theorem w3_208 : (Jvm.Cond.methodLink "java/lang/StringBuilder" (137 : Nat) ({ cls := "java/lang/String", name := "<init>", desc := "(Ljava/lang/StringBuilder;)V" } : Jvm.MethodName)) ∈ GT := gt_3 (List.mem_of_getElem? (i := 208) (by decide +kernel)) (by decide +kernel)
theorem w3_209 : (Jvm.Cond.instanceMethod ({ cls := "java/lang/String", name := "<init>", desc := "(Ljava/lang/StringBuilder;)V" } : Jvm.MethodName)) ∈ GT := gt_3 (List.mem_of_getElem? (i := 209) (by decide +kernel)) (by decide +kernel)
theorem w3_210 : (Jvm.Cond.code ({ cls := "java/lang/String", name := "<init>", desc := "(Ljava/lang/StringBuilder;)V" } : Jvm.MethodName) prog_21_method_53_code (2 : Nat) (Option.none : Option Jvm.ClassFile.FieldType)) ∈ GT := gt_3 (List.mem_of_getElem? (i := 210) (by decide +kernel)) (by decide +kernel)
theorem w3_211 : (Jvm.Cond.methodLink "java/lang/String" (489 : Nat) ({ cls := "java/lang/String", name := "<init>", desc := "(Ljava/lang/AbstractStringBuilder;Ljava/lang/Void;)V" } : Jvm.MethodName)) ∈ GT := gt_3 (List.mem_of_getElem? (i := 211) (by decide +kernel)) (by decide +kernel)
theorem w3_212 : (Jvm.Cond.instanceMethod ({ cls := "java/lang/String", name := "<init>", desc := "(Ljava/lang/AbstractStringBuilder;Ljava/lang/Void;)V" } : Jvm.MethodName)) ∈ GT := gt_3 (List.mem_of_getElem? (i := 212) (by decide +kernel)) (by decide +kernel)
theorem w3_213 : (Jvm.Cond.code ({ cls := "java/lang/String", name := "<init>", desc := "(Ljava/lang/AbstractStringBuilder;Ljava/lang/Void;)V" } : Jvm.MethodName) prog_21_method_150_code (5 : Nat) (Option.none : Option Jvm.ClassFile.FieldType)) ∈ GT := gt_3 (List.mem_of_getElem? (i := 213) (by decide +kernel)) (by decide +kernel)
theorem w3_214 : (Jvm.Cond.methodLink "java/lang/String" (1 : Nat) ({ cls := "java/lang/Object", name := "<init>", desc := "()V" } : Jvm.MethodName)) ∈ GT := gt_3 (List.mem_of_getElem? (i := 214) (by decide +kernel)) (by decide +kernel)
theorem w3_215 : (Jvm.Cond.methodLink "java/lang/String" (552 : Nat) ({ cls := "java/lang/AbstractStringBuilder", name := "getValue", desc := "()[B" } : Jvm.MethodName)) ∈ GT := gt_3 (List.mem_of_getElem? (i := 215) (by decide +kernel)) (by decide +kernel)
theorem w3_216 : (Jvm.Cond.instanceMethod ({ cls := "java/lang/AbstractStringBuilder", name := "getValue", desc := "()[B" } : Jvm.MethodName)) ∈ GT := gt_3 (List.mem_of_getElem? (i := 216) (by decide +kernel)) (by decide +kernel)
theorem w3_217 : (Jvm.Cond.sameMethod "java/lang/AbstractStringBuilder" "java/lang/AbstractStringBuilder" "getValue" "()[B") ∈ GT := gt_3 (List.mem_of_getElem? (i := 217) (by decide +kernel)) (by decide +kernel)
theorem w3_218 : (Jvm.Cond.selects "java/lang/StringBuilder" ({ cls := "java/lang/AbstractStringBuilder", name := "getValue", desc := "()[B" } : Jvm.MethodName) ({ cls := "java/lang/AbstractStringBuilder", name := "getValue", desc := "()[B" } : Jvm.MethodName)) ∈ GT := gt_3 (List.mem_of_getElem? (i := 218) (by decide +kernel)) (by decide +kernel)
theorem w3_219 : (Jvm.Cond.code ({ cls := "java/lang/AbstractStringBuilder", name := "getValue", desc := "()[B" } : Jvm.MethodName) prog_7_method_64_code (1 : Nat) (Option.some (Jvm.ClassFile.FieldType.array Jvm.ClassFile.FieldType.byte))) ∈ GT := gt_3 (List.mem_of_getElem? (i := 219) (by decide +kernel)) (by decide +kernel)
theorem w3_220 : (Jvm.Cond.methodLink "java/lang/String" (549 : Nat) ({ cls := "java/lang/AbstractStringBuilder", name := "length", desc := "()I" } : Jvm.MethodName)) ∈ GT := gt_3 (List.mem_of_getElem? (i := 220) (by decide +kernel)) (by decide +kernel)
theorem w3_221 : (Jvm.Cond.instanceMethod ({ cls := "java/lang/AbstractStringBuilder", name := "length", desc := "()I" } : Jvm.MethodName)) ∈ GT := gt_3 (List.mem_of_getElem? (i := 221) (by decide +kernel)) (by decide +kernel)
theorem w3_222 : (Jvm.Cond.sameMethod "java/lang/AbstractStringBuilder" "java/lang/AbstractStringBuilder" "length" "()I") ∈ GT := gt_3 (List.mem_of_getElem? (i := 222) (by decide +kernel)) (by decide +kernel)
theorem w3_223 : (Jvm.Cond.selects "java/lang/StringBuilder" ({ cls := "java/lang/AbstractStringBuilder", name := "length", desc := "()I" } : Jvm.MethodName) ({ cls := "java/lang/StringBuilder", name := "length", desc := "()I" } : Jvm.MethodName)) ∈ GT := gt_3 (List.mem_of_getElem? (i := 223) (by decide +kernel)) (by decide +kernel)
theorem w3_224 : (Jvm.Cond.instanceMethod ({ cls := "java/lang/StringBuilder", name := "length", desc := "()I" } : Jvm.MethodName)) ∈ GT := gt_3 (List.mem_of_getElem? (i := 224) (by decide +kernel)) (by decide +kernel)
theorem w3_225 : (Jvm.Cond.code ({ cls := "java/lang/StringBuilder", name := "length", desc := "()I" } : Jvm.MethodName) prog_22_method_93_code (1 : Nat) (Option.some Jvm.ClassFile.FieldType.int)) ∈ GT := gt_3 (List.mem_of_getElem? (i := 225) (by decide +kernel)) (by decide +kernel)
theorem w3_226 : (Jvm.Cond.methodLink "java/lang/StringBuilder" (343 : Nat) ({ cls := "java/lang/AbstractStringBuilder", name := "length", desc := "()I" } : Jvm.MethodName)) ∈ GT := gt_3 (List.mem_of_getElem? (i := 226) (by decide +kernel)) (by decide +kernel)
theorem w3_227 : (Jvm.Cond.code ({ cls := "java/lang/AbstractStringBuilder", name := "length", desc := "()I" } : Jvm.MethodName) prog_7_method_6_code (1 : Nat) (Option.some Jvm.ClassFile.FieldType.int)) ∈ GT := gt_3 (List.mem_of_getElem? (i := 227) (by decide +kernel)) (by decide +kernel)
theorem w3_228 : (Jvm.Cond.methodLink "java/lang/String" (1047 : Nat) ({ cls := "java/lang/AbstractStringBuilder", name := "isLatin1", desc := "()Z" } : Jvm.MethodName)) ∈ GT := gt_3 (List.mem_of_getElem? (i := 228) (by decide +kernel)) (by decide +kernel)
theorem w3_229 : (Jvm.Cond.methodLink "java/lang/String" (54 : Nat) ({ cls := "java/util/Arrays", name := "copyOfRange", desc := "([BII)[B" } : Jvm.MethodName)) ∈ GT := gt_3 (List.mem_of_getElem? (i := 229) (by decide +kernel)) (by decide +kernel)
theorem w3_230 : (Jvm.Cond.static ({ cls := "java/util/Arrays", name := "copyOfRange", desc := "([BII)[B" } : Jvm.MethodName)) ∈ GT := gt_3 (List.mem_of_getElem? (i := 230) (by decide +kernel)) (by decide +kernel)
theorem w3_231 : (Jvm.Cond.code ({ cls := "java/util/Arrays", name := "copyOfRange", desc := "([BII)[B" } : Jvm.MethodName) prog_32_method_132_code (3 : Nat) (Option.some (Jvm.ClassFile.FieldType.array Jvm.ClassFile.FieldType.byte))) ∈ GT := gt_3 (List.mem_of_getElem? (i := 231) (by decide +kernel)) (by decide +kernel)
theorem w3_232 : (Jvm.Cond.methodLink "java/util/Arrays" (339 : Nat) ({ cls := "java/util/Arrays", name := "copyOfRangeByte", desc := "([BII)[B" } : Jvm.MethodName)) ∈ GT := gt_3 (List.mem_of_getElem? (i := 232) (by decide +kernel)) (by decide +kernel)
theorem w3_233 : (Jvm.Cond.static ({ cls := "java/util/Arrays", name := "copyOfRangeByte", desc := "([BII)[B" } : Jvm.MethodName)) ∈ GT := gt_3 (List.mem_of_getElem? (i := 233) (by decide +kernel)) (by decide +kernel)
theorem w3_234 : (Jvm.Cond.code ({ cls := "java/util/Arrays", name := "copyOfRangeByte", desc := "([BII)[B" } : Jvm.MethodName) prog_32_method_133_code (5 : Nat) (Option.some (Jvm.ClassFile.FieldType.array Jvm.ClassFile.FieldType.byte))) ∈ GT := gt_3 (List.mem_of_getElem? (i := 234) (by decide +kernel)) (by decide +kernel)
theorem w3_235 : (Jvm.Cond.methodLink "java/util/Arrays" (343 : Nat) ({ cls := "java/util/Arrays", name := "checkLength", desc := "(II)V" } : Jvm.MethodName)) ∈ GT := gt_3 (List.mem_of_getElem? (i := 235) (by decide +kernel)) (by decide +kernel)
theorem w3_236 : (Jvm.Cond.static ({ cls := "java/util/Arrays", name := "checkLength", desc := "(II)V" } : Jvm.MethodName)) ∈ GT := gt_3 (List.mem_of_getElem? (i := 236) (by decide +kernel)) (by decide +kernel)
theorem w3_237 : (Jvm.Cond.code ({ cls := "java/util/Arrays", name := "checkLength", desc := "(II)V" } : Jvm.MethodName) prog_32_method_131_code (2 : Nat) (Option.none : Option Jvm.ClassFile.FieldType)) ∈ GT := gt_3 (List.mem_of_getElem? (i := 237) (by decide +kernel)) (by decide +kernel)
theorem w3_238 : (Jvm.Cond.classLink "java/util/Arrays" (43 : Nat) "java/lang/IllegalArgumentException") ∈ GT := gt_3 (List.mem_of_getElem? (i := 238) (by decide +kernel)) (by decide +kernel)
theorem w3_239 : (Jvm.Cond.classLink "java/util/Arrays" (45 : Nat) "java/lang/StringBuilder") ∈ GT := gt_3 (List.mem_of_getElem? (i := 239) (by decide +kernel)) (by decide +kernel)
theorem w4_0 : (Jvm.Cond.methodLink "java/util/Arrays" (47 : Nat) ({ cls := "java/lang/StringBuilder", name := "<init>", desc := "()V" } : Jvm.MethodName)) ∈ GT := gt_4 (List.mem_of_getElem? (i := 0) (by decide +kernel)) (by decide +kernel)
theorem w4_1 : (Jvm.Cond.methodLink "java/util/Arrays" (54 : Nat) ({ cls := "java/lang/StringBuilder", name := "append", desc := "(I)Ljava/lang/StringBuilder;" } : Jvm.MethodName)) ∈ GT := gt_4 (List.mem_of_getElem? (i := 1) (by decide +kernel)) (by decide +kernel)
theorem w4_3 : (Jvm.Cond.methodLink "java/util/Arrays" (50 : Nat) ({ cls := "java/lang/StringBuilder", name := "append", desc := "(Ljava/lang/String;)Ljava/lang/StringBuilder;" } : Jvm.MethodName)) ∈ GT := gt_4 (List.mem_of_getElem? (i := 3) (by decide +kernel)) (by decide +kernel)
theorem w4_4 : (Jvm.Cond.methodLink "java/util/Arrays" (61 : Nat) ({ cls := "java/lang/StringBuilder", name := "toString", desc := "()Ljava/lang/String;" } : Jvm.MethodName)) ∈ GT := gt_4 (List.mem_of_getElem? (i := 4) (by decide +kernel)) (by decide +kernel)
theorem w4_5 : (Jvm.Cond.methodLink "java/util/Arrays" (65 : Nat) ({ cls := "java/lang/IllegalArgumentException", name := "<init>", desc := "(Ljava/lang/String;)V" } : Jvm.MethodName)) ∈ GT := gt_4 (List.mem_of_getElem? (i := 5) (by decide +kernel)) (by decide +kernel)
theorem w4_6 : (Jvm.Cond.methodLink "java/lang/String" (1051 : Nat) ({ cls := "java/lang/StringUTF16", name := "compress", desc := "([BII)[B" } : Jvm.MethodName)) ∈ GT := gt_4 (List.mem_of_getElem? (i := 6) (by decide +kernel)) (by decide +kernel)
theorem w4_7 : (Jvm.Cond.static ({ cls := "java/lang/StringUTF16", name := "compress", desc := "([BII)[B" } : Jvm.MethodName)) ∈ GT := gt_4 (List.mem_of_getElem? (i := 7) (by decide +kernel)) (by decide +kernel)
theorem w4_8 : (Jvm.Cond.code ({ cls := "java/lang/StringUTF16", name := "compress", desc := "([BII)[B" } : Jvm.MethodName) prog_24_method_17_code (6 : Nat) (Option.some (Jvm.ClassFile.FieldType.array Jvm.ClassFile.FieldType.byte))) ∈ GT := gt_4 (List.mem_of_getElem? (i := 8) (by decide +kernel)) (by decide +kernel)
theorem w4_9 : (Jvm.Cond.methodLink "java/lang/StringUTF16" (123 : Nat) ({ cls := "java/lang/StringUTF16", name := "compress", desc := "([BI[BII)I" } : Jvm.MethodName)) ∈ GT := gt_4 (List.mem_of_getElem? (i := 9) (by decide +kernel)) (by decide +kernel)
theorem w4_10 : (Jvm.Cond.static ({ cls := "java/lang/StringUTF16", name := "compress", desc := "([BI[BII)I" } : Jvm.MethodName)) ∈ GT := gt_4 (List.mem_of_getElem? (i := 10) (by decide +kernel)) (by decide +kernel)
theorem w4_11 : (Jvm.Cond.code ({ cls := "java/lang/StringUTF16", name := "compress", desc := "([BI[BII)I" } : Jvm.MethodName) prog_24_method_22_code (7 : Nat) (Option.some Jvm.ClassFile.FieldType.int)) ∈ GT := gt_4 (List.mem_of_getElem? (i := 11) (by decide +kernel)) (by decide +kernel)
theorem w4_12 : (Jvm.Cond.methodLink "java/lang/StringUTF16" (71 : Nat) ({ cls := "java/lang/StringUTF16", name := "getChar", desc := "([BI)C" } : Jvm.MethodName)) ∈ GT := gt_4 (List.mem_of_getElem? (i := 12) (by decide +kernel)) (by decide +kernel)
theorem w4_13 : (Jvm.Cond.static ({ cls := "java/lang/StringUTF16", name := "getChar", desc := "([BI)C" } : Jvm.MethodName)) ∈ GT := gt_4 (List.mem_of_getElem? (i := 13) (by decide +kernel)) (by decide +kernel)
theorem w4_14 : (Jvm.Cond.code ({ cls := "java/lang/StringUTF16", name := "getChar", desc := "([BI)C" } : Jvm.MethodName) prog_24_method_5_code (2 : Nat) (Option.some Jvm.ClassFile.FieldType.char)) ∈ GT := gt_4 (List.mem_of_getElem? (i := 14) (by decide +kernel)) (by decide +kernel)
theorem w4_15 : (Jvm.Cond.methodLink "java/lang/StringUTF16" (126 : Nat) ({ cls := "java/util/Arrays", name := "copyOfRange", desc := "([BII)[B" } : Jvm.MethodName)) ∈ GT := gt_4 (List.mem_of_getElem? (i := 15) (by decide +kernel)) (by decide +kernel)
theorem w4_16 : (Jvm.Cond.methodLink "java/lang/String" (47 : Nat) ({ cls := "java/lang/StringUTF16", name := "coderFromArrayLen", desc := "([BI)B" } : Jvm.MethodName)) ∈ GT := gt_4 (List.mem_of_getElem? (i := 16) (by decide +kernel)) (by decide +kernel)
theorem w4_17 : (Jvm.Cond.static ({ cls := "java/lang/StringUTF16", name := "coderFromArrayLen", desc := "([BI)B" } : Jvm.MethodName)) ∈ GT := gt_4 (List.mem_of_getElem? (i := 17) (by decide +kernel)) (by decide +kernel)
theorem w4_18 : (Jvm.Cond.code ({ cls := "java/lang/StringUTF16", name := "coderFromArrayLen", desc := "([BI)B" } : Jvm.MethodName) prog_24_method_15_code (2 : Nat) (Option.some Jvm.ClassFile.FieldType.byte)) ∈ GT := gt_4 (List.mem_of_getElem? (i := 18) (by decide +kernel)) (by decide +kernel)
theorem w4_19 : (Jvm.Cond.fieldLink "java/lang/String" (9 : Nat) "java/lang/String" "value" "[B") ∈ GT := gt_4 (List.mem_of_getElem? (i := 19) (by decide +kernel)) (by decide +kernel)
theorem w4_20 : (Jvm.Cond.fieldLink "java/lang/String" (15 : Nat) "java/lang/String" "coder" "B") ∈ GT := gt_4 (List.mem_of_getElem? (i := 20) (by decide +kernel)) (by decide +kernel)
theorem w4_21 : (Jvm.Cond.laysFinal "java/lang/String" "java/lang/String" "value" "[B") ∈ GT := gt_4 (List.mem_of_getElem? (i := 21) (by decide +kernel)) (by decide +kernel)
theorem w4_23 : (Jvm.Cond.laysFinal "java/lang/String" "java/lang/String" "coder" "B") ∈ GT := gt_4 (List.mem_of_getElem? (i := 23) (by decide +kernel)) (by decide +kernel)
theorem w4_25 : (Jvm.Cond.lays "java/lang/String" "java/lang/String" "hash" "I") ∈ GT := gt_4 (List.mem_of_getElem? (i := 25) (by decide +kernel)) (by decide +kernel)
theorem w4_27 : (Jvm.Cond.lays "java/lang/String" "java/lang/String" "hashIsZero" "Z") ∈ GT := gt_4 (List.mem_of_getElem? (i := 27) (by decide +kernel)) (by decide +kernel)
theorem w4_29 : (Jvm.Cond.superclass "java/lang/String" "java/lang/Object") ∈ GT := gt_4 (List.mem_of_getElem? (i := 29) (by decide +kernel)) (by decide +kernel)
theorem w4_30 : (Jvm.Cond.methodLink "java/util/ArrayList" (193 : Nat) ({ cls := "java/lang/IndexOutOfBoundsException", name := "<init>", desc := "(Ljava/lang/String;)V" } : Jvm.MethodName)) ∈ GT := gt_4 (List.mem_of_getElem? (i := 30) (by decide +kernel)) (by decide +kernel)
theorem w4_31 : (Jvm.Cond.methodLink "java/util/ArrayList" (112 : Nat) ({ cls := "java/lang/System", name := "arraycopy", desc := "(Ljava/lang/Object;ILjava/lang/Object;II)V" } : Jvm.MethodName)) ∈ GT := gt_4 (List.mem_of_getElem? (i := 31) (by decide +kernel)) (by decide +kernel)
theorem w4_32 : (Jvm.Cond.methodLink "OperaMachines" (113 : Nat) ({ cls := "OperaMachines$Machine", name := "setCueOfBar", desc := "(ILOperaMachines$Cue;)V" } : Jvm.MethodName)) ∈ GT := gt_4 (List.mem_of_getElem? (i := 32) (by decide +kernel)) (by decide +kernel)
theorem w4_33 : (Jvm.Cond.instanceMethod ({ cls := "OperaMachines$Machine", name := "setCueOfBar", desc := "(ILOperaMachines$Cue;)V" } : Jvm.MethodName)) ∈ GT := gt_4 (List.mem_of_getElem? (i := 33) (by decide +kernel)) (by decide +kernel)
theorem w4_34 : (Jvm.Cond.selects "OperaMachines$Machine" ({ cls := "OperaMachines$Machine", name := "setCueOfBar", desc := "(ILOperaMachines$Cue;)V" } : Jvm.MethodName) ({ cls := "OperaMachines$Machine", name := "setCueOfBar", desc := "(ILOperaMachines$Cue;)V" } : Jvm.MethodName)) ∈ GT := gt_4 (List.mem_of_getElem? (i := 34) (by decide +kernel)) (by decide +kernel)
theorem w4_35 : (Jvm.Cond.code ({ cls := "OperaMachines$Machine", name := "setCueOfBar", desc := "(ILOperaMachines$Cue;)V" } : Jvm.MethodName) prog_3_method_4_code (3 : Nat) (Option.none : Option Jvm.ClassFile.FieldType)) ∈ GT := gt_4 (List.mem_of_getElem? (i := 35) (by decide +kernel)) (by decide +kernel)
theorem w4_36 : (Jvm.Cond.methodLink "OperaMachinesLaw" (90 : Nat) ({ cls := "OperaMachinesLaw", name := "strikeOut", desc := "(LOperaMachines;I[J)I" } : Jvm.MethodName)) ∈ GT := gt_4 (List.mem_of_getElem? (i := 36) (by decide +kernel)) (by decide +kernel)
theorem w4_37 : (Jvm.Cond.static ({ cls := "OperaMachinesLaw", name := "strikeOut", desc := "(LOperaMachines;I[J)I" } : Jvm.MethodName)) ∈ GT := gt_4 (List.mem_of_getElem? (i := 37) (by decide +kernel)) (by decide +kernel)
theorem w4_38 : (Jvm.Cond.codeWith ({ cls := "OperaMachinesLaw", name := "strikeOut", desc := "(LOperaMachines;I[J)I" } : Jvm.MethodName) method_7_code (4 : Nat) (Option.some Jvm.ClassFile.FieldType.int) [((0 : Nat), (9 : Nat), (12 : Nat), (28 : Nat))]) ∈ GT := gt_4 (List.mem_of_getElem? (i := 38) (by decide +kernel)) (by decide +kernel)
theorem w4_39 : (Jvm.Cond.methodLink "OperaMachinesLaw" (30 : Nat) ({ cls := "OperaMachines", name := "strikeOut", desc := "(I)I" } : Jvm.MethodName)) ∈ GT := gt_4 (List.mem_of_getElem? (i := 39) (by decide +kernel)) (by decide +kernel)
theorem w4_40 : (Jvm.Cond.instanceMethod ({ cls := "OperaMachines", name := "strikeOut", desc := "(I)I" } : Jvm.MethodName)) ∈ GT := gt_4 (List.mem_of_getElem? (i := 40) (by decide +kernel)) (by decide +kernel)
theorem w4_41 : (Jvm.Cond.selects "OperaMachines" ({ cls := "OperaMachines", name := "strikeOut", desc := "(I)I" } : Jvm.MethodName) ({ cls := "OperaMachines", name := "strikeOut", desc := "(I)I" } : Jvm.MethodName)) ∈ GT := gt_4 (List.mem_of_getElem? (i := 41) (by decide +kernel)) (by decide +kernel)
theorem w4_42 : (Jvm.Cond.code ({ cls := "OperaMachines", name := "strikeOut", desc := "(I)I" } : Jvm.MethodName) prog_1_method_6_code (3 : Nat) (Option.some Jvm.ClassFile.FieldType.int)) ∈ GT := gt_4 (List.mem_of_getElem? (i := 42) (by decide +kernel)) (by decide +kernel)
theorem w4_43 : (Jvm.Cond.methodLink "OperaMachines" (117 : Nat) ({ cls := "OperaMachines", name := "cueNumbered", desc := "(I)LOperaMachines$Cue;" } : Jvm.MethodName)) ∈ GT := gt_4 (List.mem_of_getElem? (i := 43) (by decide +kernel)) (by decide +kernel)
theorem w4_44 : (Jvm.Cond.privateMethod ({ cls := "OperaMachines", name := "cueNumbered", desc := "(I)LOperaMachines$Cue;" } : Jvm.MethodName)) ∈ GT := gt_4 (List.mem_of_getElem? (i := 44) (by decide +kernel)) (by decide +kernel)
theorem w4_45 : (Jvm.Cond.instanceMethod ({ cls := "OperaMachines", name := "cueNumbered", desc := "(I)LOperaMachines$Cue;" } : Jvm.MethodName)) ∈ GT := gt_4 (List.mem_of_getElem? (i := 45) (by decide +kernel)) (by decide +kernel)
theorem w4_46 : (Jvm.Cond.code ({ cls := "OperaMachines", name := "cueNumbered", desc := "(I)LOperaMachines$Cue;" } : Jvm.MethodName) prog_1_method_27_code (2 : Nat) (Option.some (Jvm.ClassFile.FieldType.object "OperaMachines$Cue"))) ∈ GT := gt_4 (List.mem_of_getElem? (i := 46) (by decide +kernel)) (by decide +kernel)
theorem w4_48 : (Jvm.Cond.methodLink "OperaMachines" (125 : Nat) ({ cls := "OperaMachines", name := "highestCue", desc := "(LOperaMachines$Machine;I)LOperaMachines$Cue;" } : Jvm.MethodName)) ∈ GT := gt_4 (List.mem_of_getElem? (i := 48) (by decide +kernel)) (by decide +kernel)
theorem w4_49 : (Jvm.Cond.privateMethod ({ cls := "OperaMachines", name := "highestCue", desc := "(LOperaMachines$Machine;I)LOperaMachines$Cue;" } : Jvm.MethodName)) ∈ GT := gt_4 (List.mem_of_getElem? (i := 49) (by decide +kernel)) (by decide +kernel)
theorem w4_50 : (Jvm.Cond.instanceMethod ({ cls := "OperaMachines", name := "highestCue", desc := "(LOperaMachines$Machine;I)LOperaMachines$Cue;" } : Jvm.MethodName)) ∈ GT := gt_4 (List.mem_of_getElem? (i := 50) (by decide +kernel)) (by decide +kernel)
theorem w4_51 : (Jvm.Cond.code ({ cls := "OperaMachines", name := "highestCue", desc := "(LOperaMachines$Machine;I)LOperaMachines$Cue;" } : Jvm.MethodName) prog_1_method_31_code (5 : Nat) (Option.some (Jvm.ClassFile.FieldType.object "OperaMachines$Cue"))) ∈ GT := gt_4 (List.mem_of_getElem? (i := 51) (by decide +kernel)) (by decide +kernel)
theorem w4_52 : (Jvm.Cond.methodLink "OperaMachinesLaw" (94 : Nat) ({ cls := "OperaMachinesLaw", name := "setTempo", desc := "(LOperaMachines;I[J)I" } : Jvm.MethodName)) ∈ GT := gt_4 (List.mem_of_getElem? (i := 52) (by decide +kernel)) (by decide +kernel)
theorem w4_53 : (Jvm.Cond.static ({ cls := "OperaMachinesLaw", name := "setTempo", desc := "(LOperaMachines;I[J)I" } : Jvm.MethodName)) ∈ GT := gt_4 (List.mem_of_getElem? (i := 53) (by decide +kernel)) (by decide +kernel)
theorem w4_54 : (Jvm.Cond.codeWith ({ cls := "OperaMachinesLaw", name := "setTempo", desc := "(LOperaMachines;I[J)I" } : Jvm.MethodName) method_8_code (4 : Nat) (Option.some Jvm.ClassFile.FieldType.int) [((0 : Nat), (9 : Nat), (12 : Nat), (13 : Nat))]) ∈ GT := gt_4 (List.mem_of_getElem? (i := 54) (by decide +kernel)) (by decide +kernel)
theorem w4_55 : (Jvm.Cond.methodLink "OperaMachinesLaw" (34 : Nat) ({ cls := "OperaMachines", name := "setTempo", desc := "(I)I" } : Jvm.MethodName)) ∈ GT := gt_4 (List.mem_of_getElem? (i := 55) (by decide +kernel)) (by decide +kernel)
theorem w4_56 : (Jvm.Cond.instanceMethod ({ cls := "OperaMachines", name := "setTempo", desc := "(I)I" } : Jvm.MethodName)) ∈ GT := gt_4 (List.mem_of_getElem? (i := 56) (by decide +kernel)) (by decide +kernel)
theorem w4_57 : (Jvm.Cond.selects "OperaMachines" ({ cls := "OperaMachines", name := "setTempo", desc := "(I)I" } : Jvm.MethodName) ({ cls := "OperaMachines", name := "setTempo", desc := "(I)I" } : Jvm.MethodName)) ∈ GT := gt_4 (List.mem_of_getElem? (i := 57) (by decide +kernel)) (by decide +kernel)
theorem w4_58 : (Jvm.Cond.code ({ cls := "OperaMachines", name := "setTempo", desc := "(I)I" } : Jvm.MethodName) prog_1_method_7_code (3 : Nat) (Option.some Jvm.ClassFile.FieldType.int)) ∈ GT := gt_4 (List.mem_of_getElem? (i := 58) (by decide +kernel)) (by decide +kernel)
theorem w4_59 : (Jvm.Cond.methodLink "OperaMachinesLaw" (97 : Nat) ({ cls := "OperaMachinesLaw", name := "setRules", desc := "(LOperaMachines;II)I" } : Jvm.MethodName)) ∈ GT := gt_4 (List.mem_of_getElem? (i := 59) (by decide +kernel)) (by decide +kernel)
theorem w4_60 : (Jvm.Cond.static ({ cls := "OperaMachinesLaw", name := "setRules", desc := "(LOperaMachines;II)I" } : Jvm.MethodName)) ∈ GT := gt_4 (List.mem_of_getElem? (i := 60) (by decide +kernel)) (by decide +kernel)
theorem w4_61 : (Jvm.Cond.codeWith ({ cls := "OperaMachinesLaw", name := "setRules", desc := "(LOperaMachines;II)I" } : Jvm.MethodName) method_9_code (4 : Nat) (Option.some Jvm.ClassFile.FieldType.int) [((0 : Nat), (6 : Nat), (9 : Nat), (13 : Nat))]) ∈ GT := gt_4 (List.mem_of_getElem? (i := 61) (by decide +kernel)) (by decide +kernel)
theorem w4_62 : (Jvm.Cond.methodLink "OperaMachinesLaw" (37 : Nat) ({ cls := "OperaMachines", name := "setRules", desc := "(II)V" } : Jvm.MethodName)) ∈ GT := gt_4 (List.mem_of_getElem? (i := 62) (by decide +kernel)) (by decide +kernel)
theorem w4_63 : (Jvm.Cond.instanceMethod ({ cls := "OperaMachines", name := "setRules", desc := "(II)V" } : Jvm.MethodName)) ∈ GT := gt_4 (List.mem_of_getElem? (i := 63) (by decide +kernel)) (by decide +kernel)
theorem w4_64 : (Jvm.Cond.selects "OperaMachines" ({ cls := "OperaMachines", name := "setRules", desc := "(II)V" } : Jvm.MethodName) ({ cls := "OperaMachines", name := "setRules", desc := "(II)V" } : Jvm.MethodName)) ∈ GT := gt_4 (List.mem_of_getElem? (i := 64) (by decide +kernel)) (by decide +kernel)
theorem w4_65 : (Jvm.Cond.code ({ cls := "OperaMachines", name := "setRules", desc := "(II)V" } : Jvm.MethodName) prog_1_method_8_code (3 : Nat) (Option.none : Option Jvm.ClassFile.FieldType)) ∈ GT := gt_4 (List.mem_of_getElem? (i := 65) (by decide +kernel)) (by decide +kernel)
theorem w4_66 : (Jvm.Cond.methodLink "OperaMachinesLaw" (100 : Nat) ({ cls := "OperaMachinesLaw", name := "strike", desc := "(LOperaMachines;IZ[J)I" } : Jvm.MethodName)) ∈ GT := gt_4 (List.mem_of_getElem? (i := 66) (by decide +kernel)) (by decide +kernel)
theorem w4_67 : (Jvm.Cond.static ({ cls := "OperaMachinesLaw", name := "strike", desc := "(LOperaMachines;IZ[J)I" } : Jvm.MethodName)) ∈ GT := gt_4 (List.mem_of_getElem? (i := 67) (by decide +kernel)) (by decide +kernel)
theorem w4_68 : (Jvm.Cond.codeWith ({ cls := "OperaMachinesLaw", name := "strike", desc := "(LOperaMachines;IZ[J)I" } : Jvm.MethodName) method_10_code (5 : Nat) (Option.some Jvm.ClassFile.FieldType.int) [((0 : Nat), (17 : Nat), (20 : Nat), (13 : Nat))]) ∈ GT := gt_4 (List.mem_of_getElem? (i := 68) (by decide +kernel)) (by decide +kernel)
theorem w4_69 : (Jvm.Cond.methodLink "OperaMachinesLaw" (40 : Nat) ({ cls := "OperaMachines", name := "strike", desc := "(IZ)Z" } : Jvm.MethodName)) ∈ GT := gt_4 (List.mem_of_getElem? (i := 69) (by decide +kernel)) (by decide +kernel)
theorem w4_70 : (Jvm.Cond.instanceMethod ({ cls := "OperaMachines", name := "strike", desc := "(IZ)Z" } : Jvm.MethodName)) ∈ GT := gt_4 (List.mem_of_getElem? (i := 70) (by decide +kernel)) (by decide +kernel)
theorem w4_71 : (Jvm.Cond.selects "OperaMachines" ({ cls := "OperaMachines", name := "strike", desc := "(IZ)Z" } : Jvm.MethodName) ({ cls := "OperaMachines", name := "strike", desc := "(IZ)Z" } : Jvm.MethodName)) ∈ GT := gt_4 (List.mem_of_getElem? (i := 71) (by decide +kernel)) (by decide +kernel)
theorem w4_72 : (Jvm.Cond.code ({ cls := "OperaMachines", name := "strike", desc := "(IZ)Z" } : Jvm.MethodName) prog_1_method_9_code (4 : Nat) (Option.some Jvm.ClassFile.FieldType.boolean)) ∈ GT := gt_4 (List.mem_of_getElem? (i := 72) (by decide +kernel)) (by decide +kernel)
theorem w4_73 : (Jvm.Cond.methodLink "OperaMachinesLaw" (104 : Nat) ({ cls := "OperaMachinesLaw", name := "substitute", desc := "(LOperaMachines;II[J)I" } : Jvm.MethodName)) ∈ GT := gt_4 (List.mem_of_getElem? (i := 73) (by decide +kernel)) (by decide +kernel)
theorem w4_74 : (Jvm.Cond.static ({ cls := "OperaMachinesLaw", name := "substitute", desc := "(LOperaMachines;II[J)I" } : Jvm.MethodName)) ∈ GT := gt_4 (List.mem_of_getElem? (i := 74) (by decide +kernel)) (by decide +kernel)
theorem w4_75 : (Jvm.Cond.codeWith ({ cls := "OperaMachinesLaw", name := "substitute", desc := "(LOperaMachines;II[J)I" } : Jvm.MethodName) method_11_code (5 : Nat) (Option.some Jvm.ClassFile.FieldType.int) [((0 : Nat), (10 : Nat), (13 : Nat), (13 : Nat))]) ∈ GT := gt_4 (List.mem_of_getElem? (i := 75) (by decide +kernel)) (by decide +kernel)
theorem w4_76 : (Jvm.Cond.methodLink "OperaMachinesLaw" (44 : Nat) ({ cls := "OperaMachines", name := "substitute", desc := "(II)I" } : Jvm.MethodName)) ∈ GT := gt_4 (List.mem_of_getElem? (i := 76) (by decide +kernel)) (by decide +kernel)
theorem w4_77 : (Jvm.Cond.instanceMethod ({ cls := "OperaMachines", name := "substitute", desc := "(II)I" } : Jvm.MethodName)) ∈ GT := gt_4 (List.mem_of_getElem? (i := 77) (by decide +kernel)) (by decide +kernel)
theorem w4_78 : (Jvm.Cond.selects "OperaMachines" ({ cls := "OperaMachines", name := "substitute", desc := "(II)I" } : Jvm.MethodName) ({ cls := "OperaMachines", name := "substitute", desc := "(II)I" } : Jvm.MethodName)) ∈ GT := gt_4 (List.mem_of_getElem? (i := 78) (by decide +kernel)) (by decide +kernel)
theorem w4_79 : (Jvm.Cond.code ({ cls := "OperaMachines", name := "substitute", desc := "(II)I" } : Jvm.MethodName) prog_1_method_10_code (4 : Nat) (Option.some Jvm.ClassFile.FieldType.int)) ∈ GT := gt_4 (List.mem_of_getElem? (i := 79) (by decide +kernel)) (by decide +kernel)
theorem w4_80 : (Jvm.Cond.methodLink "OperaMachinesLaw" (115 : Nat) ({ cls := "OperaMachinesLaw", name := "place", desc := "(LOperaMachines;II[J)I" } : Jvm.MethodName)) ∈ GT := gt_4 (List.mem_of_getElem? (i := 80) (by decide +kernel)) (by decide +kernel)
theorem w4_81 : (Jvm.Cond.static ({ cls := "OperaMachinesLaw", name := "place", desc := "(LOperaMachines;II[J)I" } : Jvm.MethodName)) ∈ GT := gt_4 (List.mem_of_getElem? (i := 81) (by decide +kernel)) (by decide +kernel)
theorem w4_82 : (Jvm.Cond.codeWith ({ cls := "OperaMachinesLaw", name := "place", desc := "(LOperaMachines;II[J)I" } : Jvm.MethodName) method_12_code (5 : Nat) (Option.some Jvm.ClassFile.FieldType.int) [((0 : Nat), (10 : Nat), (13 : Nat), (28 : Nat)), ((0 : Nat), (10 : Nat), (17 : Nat), (13 : Nat))]) ∈ GT := gt_4 (List.mem_of_getElem? (i := 82) (by decide +kernel)) (by decide +kernel)
theorem w4_83 : (Jvm.Cond.methodLink "OperaMachinesLaw" (47 : Nat) ({ cls := "OperaMachines", name := "place", desc := "(II)I" } : Jvm.MethodName)) ∈ GT := gt_4 (List.mem_of_getElem? (i := 83) (by decide +kernel)) (by decide +kernel)
theorem w4_84 : (Jvm.Cond.instanceMethod ({ cls := "OperaMachines", name := "place", desc := "(II)I" } : Jvm.MethodName)) ∈ GT := gt_4 (List.mem_of_getElem? (i := 84) (by decide +kernel)) (by decide +kernel)
theorem w4_85 : (Jvm.Cond.selects "OperaMachines" ({ cls := "OperaMachines", name := "place", desc := "(II)I" } : Jvm.MethodName) ({ cls := "OperaMachines", name := "place", desc := "(II)I" } : Jvm.MethodName)) ∈ GT := gt_4 (List.mem_of_getElem? (i := 85) (by decide +kernel)) (by decide +kernel)
theorem w4_86 : (Jvm.Cond.code ({ cls := "OperaMachines", name := "place", desc := "(II)I" } : Jvm.MethodName) prog_1_method_13_code (8 : Nat) (Option.some Jvm.ClassFile.FieldType.int)) ∈ GT := gt_4 (List.mem_of_getElem? (i := 86) (by decide +kernel)) (by decide +kernel)
theorem w4_87 : (Jvm.Cond.methodLink "OperaMachinesLaw" (118 : Nat) ({ cls := "OperaMachinesLaw", name := "placeAtBar", desc := "(LOperaMachines;II[J)I" } : Jvm.MethodName)) ∈ GT := gt_4 (List.mem_of_getElem? (i := 87) (by decide +kernel)) (by decide +kernel)
theorem w4_88 : (Jvm.Cond.static ({ cls := "OperaMachinesLaw", name := "placeAtBar", desc := "(LOperaMachines;II[J)I" } : Jvm.MethodName)) ∈ GT := gt_4 (List.mem_of_getElem? (i := 88) (by decide +kernel)) (by decide +kernel)
theorem w4_89 : (Jvm.Cond.codeWith ({ cls := "OperaMachinesLaw", name := "placeAtBar", desc := "(LOperaMachines;II[J)I" } : Jvm.MethodName) method_13_code (5 : Nat) (Option.some Jvm.ClassFile.FieldType.int) [((0 : Nat), (10 : Nat), (13 : Nat), (28 : Nat)), ((0 : Nat), (10 : Nat), (17 : Nat), (13 : Nat))]) ∈ GT := gt_4 (List.mem_of_getElem? (i := 89) (by decide +kernel)) (by decide +kernel)
theorem w4_90 : (Jvm.Cond.methodLink "OperaMachinesLaw" (50 : Nat) ({ cls := "OperaMachines", name := "placeAtBar", desc := "(II)I" } : Jvm.MethodName)) ∈ GT := gt_4 (List.mem_of_getElem? (i := 90) (by decide +kernel)) (by decide +kernel)
theorem w4_91 : (Jvm.Cond.instanceMethod ({ cls := "OperaMachines", name := "placeAtBar", desc := "(II)I" } : Jvm.MethodName)) ∈ GT := gt_4 (List.mem_of_getElem? (i := 91) (by decide +kernel)) (by decide +kernel)
theorem w4_92 : (Jvm.Cond.selects "OperaMachines" ({ cls := "OperaMachines", name := "placeAtBar", desc := "(II)I" } : Jvm.MethodName) ({ cls := "OperaMachines", name := "placeAtBar", desc := "(II)I" } : Jvm.MethodName)) ∈ GT := gt_4 (List.mem_of_getElem? (i := 92) (by decide +kernel)) (by decide +kernel)
theorem w4_93 : (Jvm.Cond.code ({ cls := "OperaMachines", name := "placeAtBar", desc := "(II)I" } : Jvm.MethodName) prog_1_method_14_code (6 : Nat) (Option.some Jvm.ClassFile.FieldType.int)) ∈ GT := gt_4 (List.mem_of_getElem? (i := 93) (by decide +kernel)) (by decide +kernel)
theorem w4_94 : (Jvm.Cond.methodLink "OperaMachinesLaw" (129 : Nat) ({ cls := "OperaMachinesLaw", name := "worker", desc := "(LOperaMachines;I[J)I" } : Jvm.MethodName)) ∈ GT := gt_4 (List.mem_of_getElem? (i := 94) (by decide +kernel)) (by decide +kernel)
theorem w4_95 : (Jvm.Cond.static ({ cls := "OperaMachinesLaw", name := "worker", desc := "(LOperaMachines;I[J)I" } : Jvm.MethodName)) ∈ GT := gt_4 (List.mem_of_getElem? (i := 95) (by decide +kernel)) (by decide +kernel)
theorem w4_96 : (Jvm.Cond.codeWith ({ cls := "OperaMachinesLaw", name := "worker", desc := "(LOperaMachines;I[J)I" } : Jvm.MethodName) method_14_code (4 : Nat) (Option.some Jvm.ClassFile.FieldType.int) [((0 : Nat), (9 : Nat), (12 : Nat), (28 : Nat))]) ∈ GT := gt_4 (List.mem_of_getElem? (i := 96) (by decide +kernel)) (by decide +kernel)
theorem w4_97 : (Jvm.Cond.methodLink "OperaMachinesLaw" (53 : Nat) ({ cls := "OperaMachines", name := "worker", desc := "(I)I" } : Jvm.MethodName)) ∈ GT := gt_4 (List.mem_of_getElem? (i := 97) (by decide +kernel)) (by decide +kernel)
theorem w4_98 : (Jvm.Cond.instanceMethod ({ cls := "OperaMachines", name := "worker", desc := "(I)I" } : Jvm.MethodName)) ∈ GT := gt_4 (List.mem_of_getElem? (i := 98) (by decide +kernel)) (by decide +kernel)
theorem w4_99 : (Jvm.Cond.selects "OperaMachines" ({ cls := "OperaMachines", name := "worker", desc := "(I)I" } : Jvm.MethodName) ({ cls := "OperaMachines", name := "worker", desc := "(I)I" } : Jvm.MethodName)) ∈ GT := gt_4 (List.mem_of_getElem? (i := 99) (by decide +kernel)) (by decide +kernel)
theorem w4_100 : (Jvm.Cond.code ({ cls := "OperaMachines", name := "worker", desc := "(I)I" } : Jvm.MethodName) prog_1_method_17_code (2 : Nat) (Option.some Jvm.ClassFile.FieldType.int)) ∈ GT := gt_4 (List.mem_of_getElem? (i := 100) (by decide +kernel)) (by decide +kernel)
theorem w4_101 : (Jvm.Cond.methodLink "OperaMachinesLaw" (132 : Nat) ({ cls := "OperaMachinesLaw", name := "takes", desc := "(LOperaMachines;I[J)I" } : Jvm.MethodName)) ∈ GT := gt_4 (List.mem_of_getElem? (i := 101) (by decide +kernel)) (by decide +kernel)
theorem w4_102 : (Jvm.Cond.static ({ cls := "OperaMachinesLaw", name := "takes", desc := "(LOperaMachines;I[J)I" } : Jvm.MethodName)) ∈ GT := gt_4 (List.mem_of_getElem? (i := 102) (by decide +kernel)) (by decide +kernel)
theorem w4_103 : (Jvm.Cond.codeWith ({ cls := "OperaMachinesLaw", name := "takes", desc := "(LOperaMachines;I[J)I" } : Jvm.MethodName) method_15_code (4 : Nat) (Option.some Jvm.ClassFile.FieldType.int) [((0 : Nat), (9 : Nat), (12 : Nat), (28 : Nat))]) ∈ GT := gt_4 (List.mem_of_getElem? (i := 103) (by decide +kernel)) (by decide +kernel)
theorem w4_104 : (Jvm.Cond.methodLink "OperaMachinesLaw" (56 : Nat) ({ cls := "OperaMachines", name := "takes", desc := "(I)I" } : Jvm.MethodName)) ∈ GT := gt_4 (List.mem_of_getElem? (i := 104) (by decide +kernel)) (by decide +kernel)
theorem w4_105 : (Jvm.Cond.instanceMethod ({ cls := "OperaMachines", name := "takes", desc := "(I)I" } : Jvm.MethodName)) ∈ GT := gt_4 (List.mem_of_getElem? (i := 105) (by decide +kernel)) (by decide +kernel)
theorem w4_106 : (Jvm.Cond.selects "OperaMachines" ({ cls := "OperaMachines", name := "takes", desc := "(I)I" } : Jvm.MethodName) ({ cls := "OperaMachines", name := "takes", desc := "(I)I" } : Jvm.MethodName)) ∈ GT := gt_4 (List.mem_of_getElem? (i := 106) (by decide +kernel)) (by decide +kernel)
theorem w4_107 : (Jvm.Cond.code ({ cls := "OperaMachines", name := "takes", desc := "(I)I" } : Jvm.MethodName) prog_1_method_18_code (3 : Nat) (Option.some Jvm.ClassFile.FieldType.int)) ∈ GT := gt_4 (List.mem_of_getElem? (i := 107) (by decide +kernel)) (by decide +kernel)
theorem w4_108 : (Jvm.Cond.methodLink "OperaMachinesLaw" (135 : Nat) ({ cls := "OperaMachinesLaw", name := "clashes", desc := "(LOperaMachines;I[J)I" } : Jvm.MethodName)) ∈ GT := gt_4 (List.mem_of_getElem? (i := 108) (by decide +kernel)) (by decide +kernel)
theorem w4_109 : (Jvm.Cond.static ({ cls := "OperaMachinesLaw", name := "clashes", desc := "(LOperaMachines;I[J)I" } : Jvm.MethodName)) ∈ GT := gt_4 (List.mem_of_getElem? (i := 109) (by decide +kernel)) (by decide +kernel)
theorem w4_110 : (Jvm.Cond.codeWith ({ cls := "OperaMachinesLaw", name := "clashes", desc := "(LOperaMachines;I[J)I" } : Jvm.MethodName) method_16_code (4 : Nat) (Option.some Jvm.ClassFile.FieldType.int) [((0 : Nat), (9 : Nat), (12 : Nat), (13 : Nat))]) ∈ GT := gt_4 (List.mem_of_getElem? (i := 110) (by decide +kernel)) (by decide +kernel)
theorem w4_111 : (Jvm.Cond.methodLink "OperaMachinesLaw" (59 : Nat) ({ cls := "OperaMachines", name := "clashes", desc := "(I)I" } : Jvm.MethodName)) ∈ GT := gt_4 (List.mem_of_getElem? (i := 111) (by decide +kernel)) (by decide +kernel)
theorem w4_112 : (Jvm.Cond.instanceMethod ({ cls := "OperaMachines", name := "clashes", desc := "(I)I" } : Jvm.MethodName)) ∈ GT := gt_4 (List.mem_of_getElem? (i := 112) (by decide +kernel)) (by decide +kernel)
theorem w4_113 : (Jvm.Cond.selects "OperaMachines" ({ cls := "OperaMachines", name := "clashes", desc := "(I)I" } : Jvm.MethodName) ({ cls := "OperaMachines", name := "clashes", desc := "(I)I" } : Jvm.MethodName)) ∈ GT := gt_4 (List.mem_of_getElem? (i := 113) (by decide +kernel)) (by decide +kernel)
theorem w4_114 : (Jvm.Cond.code ({ cls := "OperaMachines", name := "clashes", desc := "(I)I" } : Jvm.MethodName) prog_1_method_19_code (3 : Nat) (Option.some Jvm.ClassFile.FieldType.int)) ∈ GT := gt_4 (List.mem_of_getElem? (i := 114) (by decide +kernel)) (by decide +kernel)
theorem w4_115 : (Jvm.Cond.methodLink "OperaMachinesLaw" (138 : Nat) ({ cls := "OperaMachinesLaw", name := "overtime", desc := "(LOperaMachines;I[J)I" } : Jvm.MethodName)) ∈ GT := gt_4 (List.mem_of_getElem? (i := 115) (by decide +kernel)) (by decide +kernel)
theorem w4_116 : (Jvm.Cond.static ({ cls := "OperaMachinesLaw", name := "overtime", desc := "(LOperaMachines;I[J)I" } : Jvm.MethodName)) ∈ GT := gt_4 (List.mem_of_getElem? (i := 116) (by decide +kernel)) (by decide +kernel)
theorem w4_117 : (Jvm.Cond.codeWith ({ cls := "OperaMachinesLaw", name := "overtime", desc := "(LOperaMachines;I[J)I" } : Jvm.MethodName) method_17_code (4 : Nat) (Option.some Jvm.ClassFile.FieldType.int) [((0 : Nat), (9 : Nat), (12 : Nat), (13 : Nat))]) ∈ GT := gt_4 (List.mem_of_getElem? (i := 117) (by decide +kernel)) (by decide +kernel)
theorem w4_118 : (Jvm.Cond.methodLink "OperaMachinesLaw" (62 : Nat) ({ cls := "OperaMachines", name := "overtime", desc := "(I)I" } : Jvm.MethodName)) ∈ GT := gt_4 (List.mem_of_getElem? (i := 118) (by decide +kernel)) (by decide +kernel)
theorem w4_119 : (Jvm.Cond.instanceMethod ({ cls := "OperaMachines", name := "overtime", desc := "(I)I" } : Jvm.MethodName)) ∈ GT := gt_4 (List.mem_of_getElem? (i := 119) (by decide +kernel)) (by decide +kernel)
theorem w4_120 : (Jvm.Cond.selects "OperaMachines" ({ cls := "OperaMachines", name := "overtime", desc := "(I)I" } : Jvm.MethodName) ({ cls := "OperaMachines", name := "overtime", desc := "(I)I" } : Jvm.MethodName)) ∈ GT := gt_4 (List.mem_of_getElem? (i := 120) (by decide +kernel)) (by decide +kernel)
theorem w4_121 : (Jvm.Cond.code ({ cls := "OperaMachines", name := "overtime", desc := "(I)I" } : Jvm.MethodName) prog_1_method_20_code (9 : Nat) (Option.some Jvm.ClassFile.FieldType.int)) ∈ GT := gt_4 (List.mem_of_getElem? (i := 121) (by decide +kernel)) (by decide +kernel)
theorem w4_122 : (Jvm.Cond.classLink "OperaMachinesLaw" (66 : Nat) "OperaMachinesModel") ∈ GT := gt_4 (List.mem_of_getElem? (i := 122) (by decide +kernel)) (by decide +kernel)
theorem w4_123 : (Jvm.Cond.instantiable "OperaMachinesModel" (27 : Nat)) ∈ GT := gt_4 (List.mem_of_getElem? (i := 123) (by decide +kernel)) (by decide +kernel)
theorem w4_124 : (Jvm.Cond.methodLink "OperaMachinesLaw" (68 : Nat) ({ cls := "OperaMachinesModel", name := "<init>", desc := "()V" } : Jvm.MethodName)) ∈ GT := gt_4 (List.mem_of_getElem? (i := 124) (by decide +kernel)) (by decide +kernel)
theorem w4_125 : (Jvm.Cond.instanceMethod ({ cls := "OperaMachinesModel", name := "<init>", desc := "()V" } : Jvm.MethodName)) ∈ GT := gt_4 (List.mem_of_getElem? (i := 125) (by decide +kernel)) (by decide +kernel)
theorem w4_126 : (Jvm.Cond.code ({ cls := "OperaMachinesModel", name := "<init>", desc := "()V" } : Jvm.MethodName) prog_5_method_1_code (2 : Nat) (Option.none : Option Jvm.ClassFile.FieldType)) ∈ GT := gt_4 (List.mem_of_getElem? (i := 126) (by decide +kernel)) (by decide +kernel)
theorem w4_127 : (Jvm.Cond.methodLink "OperaMachinesModel" (1 : Nat) ({ cls := "java/lang/Object", name := "<init>", desc := "()V" } : Jvm.MethodName)) ∈ GT := gt_4 (List.mem_of_getElem? (i := 127) (by decide +kernel)) (by decide +kernel)
theorem w4_128 : (Jvm.Cond.fieldLink "OperaMachinesModel" (81 : Nat) "OperaMachinesModel" "machines" "I") ∈ GT := gt_4 (List.mem_of_getElem? (i := 128) (by decide +kernel)) (by decide +kernel)
theorem w4_129 : (Jvm.Cond.fieldLink "OperaMachinesModel" (7 : Nat) "OperaMachinesModel" "isTable" "[Z") ∈ GT := gt_4 (List.mem_of_getElem? (i := 129) (by decide +kernel)) (by decide +kernel)
theorem w4_130 : (Jvm.Cond.fieldLink "OperaMachinesModel" (13 : Nat) "OperaMachinesModel" "track" "[I") ∈ GT := gt_4 (List.mem_of_getElem? (i := 130) (by decide +kernel)) (by decide +kernel)
theorem w4_131 : (Jvm.Cond.fieldLink "OperaMachinesModel" (17 : Nat) "OperaMachinesModel" "width" "[I") ∈ GT := gt_4 (List.mem_of_getElem? (i := 131) (by decide +kernel)) (by decide +kernel)
theorem w4_132 : (Jvm.Cond.fieldLink "OperaMachinesModel" (20 : Nat) "OperaMachinesModel" "speed" "[I") ∈ GT := gt_4 (List.mem_of_getElem? (i := 132) (by decide +kernel)) (by decide +kernel)
theorem w4_133 : (Jvm.Cond.fieldLink "OperaMachinesModel" (23 : Nat) "OperaMachinesModel" "first" "[I") ∈ GT := gt_4 (List.mem_of_getElem? (i := 133) (by decide +kernel)) (by decide +kernel)
theorem w4_134 : (Jvm.Cond.fieldLink "OperaMachinesModel" (92 : Nat) "OperaMachinesModel" "cues" "I") ∈ GT := gt_4 (List.mem_of_getElem? (i := 134) (by decide +kernel)) (by decide +kernel)
theorem w4_135 : (Jvm.Cond.fieldLink "OperaMachinesModel" (26 : Nat) "OperaMachinesModel" "cueBar" "[I") ∈ GT := gt_4 (List.mem_of_getElem? (i := 135) (by decide +kernel)) (by decide +kernel)
theorem w4_136 : (Jvm.Cond.fieldLink "OperaMachinesModel" (29 : Nat) "OperaMachinesModel" "cueMachine" "[I") ∈ GT := gt_4 (List.mem_of_getElem? (i := 136) (by decide +kernel)) (by decide +kernel)
theorem w4_137 : (Jvm.Cond.fieldLink "OperaMachinesModel" (32 : Nat) "OperaMachinesModel" "target" "[I") ∈ GT := gt_4 (List.mem_of_getElem? (i := 137) (by decide +kernel)) (by decide +kernel)
theorem w4_138 : (Jvm.Cond.fieldLink "OperaMachinesModel" (35 : Nat) "OperaMachinesModel" "told" "[I") ∈ GT := gt_4 (List.mem_of_getElem? (i := 138) (by decide +kernel)) (by decide +kernel)
theorem w4_139 : (Jvm.Cond.fieldLink "OperaMachinesModel" (38 : Nat) "OperaMachinesModel" "isOut" "[Z") ∈ GT := gt_4 (List.mem_of_getElem? (i := 139) (by decide +kernel)) (by decide +kernel)
theorem w4_140 : (Jvm.Cond.fieldLink "OperaMachinesModel" (41 : Nat) "OperaMachinesModel" "bars" "I") ∈ GT := gt_4 (List.mem_of_getElem? (i := 140) (by decide +kernel)) (by decide +kernel)
theorem w4_141 : (Jvm.Cond.fieldLink "OperaMachinesModel" (45 : Nat) "OperaMachinesModel" "ticks" "I") ∈ GT := gt_4 (List.mem_of_getElem? (i := 141) (by decide +kernel)) (by decide +kernel)
theorem w4_142 : (Jvm.Cond.fieldLink "OperaMachinesModel" (48 : Nat) "OperaMachinesModel" "tempo" "I") ∈ GT := gt_4 (List.mem_of_getElem? (i := 142) (by decide +kernel)) (by decide +kernel)
theorem w4_143 : (Jvm.Cond.fieldLink "OperaMachinesModel" (51 : Nat) "OperaMachinesModel" "rest" "I") ∈ GT := gt_4 (List.mem_of_getElem? (i := 143) (by decide +kernel)) (by decide +kernel)
theorem w4_144 : (Jvm.Cond.fieldLink "OperaMachinesModel" (54 : Nat) "OperaMachinesModel" "limit" "I") ∈ GT := gt_4 (List.mem_of_getElem? (i := 144) (by decide +kernel)) (by decide +kernel)
theorem w4_145 : (Jvm.Cond.fieldLink "OperaMachinesModel" (57 : Nat) "OperaMachinesModel" "strikes" "[Z") ∈ GT := gt_4 (List.mem_of_getElem? (i := 145) (by decide +kernel)) (by decide +kernel)
theorem w4_146 : (Jvm.Cond.fieldLink "OperaMachinesModel" (60 : Nat) "OperaMachinesModel" "substitutes" "[I") ∈ GT := gt_4 (List.mem_of_getElem? (i := 146) (by decide +kernel)) (by decide +kernel)
theorem w4_147 : (Jvm.Cond.fieldLink "OperaMachinesModel" (63 : Nat) "OperaMachinesModel" "at" "[I") ∈ GT := gt_4 (List.mem_of_getElem? (i := 147) (by decide +kernel)) (by decide +kernel)
theorem w4_148 : (Jvm.Cond.fieldLink "OperaMachinesModel" (66 : Nat) "OperaMachinesModel" "aim" "[I") ∈ GT := gt_4 (List.mem_of_getElem? (i := 148) (by decide +kernel)) (by decide +kernel)
theorem w4_149 : (Jvm.Cond.fieldLink "OperaMachinesModel" (69 : Nat) "OperaMachinesModel" "working" "[I") ∈ GT := gt_4 (List.mem_of_getElem? (i := 149) (by decide +kernel)) (by decide +kernel)
theorem w4_150 : (Jvm.Cond.fieldLink "OperaMachinesModel" (72 : Nat) "OperaMachinesModel" "begins" "[I") ∈ GT := gt_4 (List.mem_of_getElem? (i := 150) (by decide +kernel)) (by decide +kernel)
theorem w4_151 : (Jvm.Cond.fieldLink "OperaMachinesModel" (75 : Nat) "OperaMachinesModel" "ends" "[I") ∈ GT := gt_4 (List.mem_of_getElem? (i := 151) (by decide +kernel)) (by decide +kernel)
theorem w4_152 : (Jvm.Cond.fieldLink "OperaMachinesModel" (125 : Nat) "OperaMachinesModel" "meets" "I") ∈ GT := gt_4 (List.mem_of_getElem? (i := 152) (by decide +kernel)) (by decide +kernel)
theorem w4_153 : (Jvm.Cond.fieldLink "OperaMachinesModel" (122 : Nat) "OperaMachinesModel" "pair" "I") ∈ GT := gt_4 (List.mem_of_getElem? (i := 153) (by decide +kernel)) (by decide +kernel)
theorem w4_154 : (Jvm.Cond.fieldLink "OperaMachinesModel" (78 : Nat) "OperaMachinesModel" "thrown" "I") ∈ GT := gt_4 (List.mem_of_getElem? (i := 154) (by decide +kernel)) (by decide +kernel)
theorem w4_155 : (Jvm.Cond.lays "OperaMachinesModel" "OperaMachinesModel" "machines" "I") ∈ GT := gt_4 (List.mem_of_getElem? (i := 155) (by decide +kernel)) (by decide +kernel)
theorem w4_157 : (Jvm.Cond.laysFinal "OperaMachinesModel" "OperaMachinesModel" "isTable" "[Z") ∈ GT := gt_4 (List.mem_of_getElem? (i := 157) (by decide +kernel)) (by decide +kernel)
theorem w4_159 : (Jvm.Cond.laysFinal "OperaMachinesModel" "OperaMachinesModel" "track" "[I") ∈ GT := gt_4 (List.mem_of_getElem? (i := 159) (by decide +kernel)) (by decide +kernel)
theorem w4_161 : (Jvm.Cond.laysFinal "OperaMachinesModel" "OperaMachinesModel" "width" "[I") ∈ GT := gt_4 (List.mem_of_getElem? (i := 161) (by decide +kernel)) (by decide +kernel)
theorem w4_163 : (Jvm.Cond.laysFinal "OperaMachinesModel" "OperaMachinesModel" "speed" "[I") ∈ GT := gt_4 (List.mem_of_getElem? (i := 163) (by decide +kernel)) (by decide +kernel)
theorem w4_165 : (Jvm.Cond.laysFinal "OperaMachinesModel" "OperaMachinesModel" "first" "[I") ∈ GT := gt_4 (List.mem_of_getElem? (i := 165) (by decide +kernel)) (by decide +kernel)
theorem w4_167 : (Jvm.Cond.lays "OperaMachinesModel" "OperaMachinesModel" "cues" "I") ∈ GT := gt_4 (List.mem_of_getElem? (i := 167) (by decide +kernel)) (by decide +kernel)
theorem w4_169 : (Jvm.Cond.laysFinal "OperaMachinesModel" "OperaMachinesModel" "cueBar" "[I") ∈ GT := gt_4 (List.mem_of_getElem? (i := 169) (by decide +kernel)) (by decide +kernel)
theorem w4_171 : (Jvm.Cond.laysFinal "OperaMachinesModel" "OperaMachinesModel" "cueMachine" "[I") ∈ GT := gt_4 (List.mem_of_getElem? (i := 171) (by decide +kernel)) (by decide +kernel)
theorem w4_173 : (Jvm.Cond.laysFinal "OperaMachinesModel" "OperaMachinesModel" "target" "[I") ∈ GT := gt_4 (List.mem_of_getElem? (i := 173) (by decide +kernel)) (by decide +kernel)
theorem w4_175 : (Jvm.Cond.laysFinal "OperaMachinesModel" "OperaMachinesModel" "told" "[I") ∈ GT := gt_4 (List.mem_of_getElem? (i := 175) (by decide +kernel)) (by decide +kernel)
theorem w4_177 : (Jvm.Cond.laysFinal "OperaMachinesModel" "OperaMachinesModel" "isOut" "[Z") ∈ GT := gt_4 (List.mem_of_getElem? (i := 177) (by decide +kernel)) (by decide +kernel)
theorem w4_179 : (Jvm.Cond.lays "OperaMachinesModel" "OperaMachinesModel" "bars" "I") ∈ GT := gt_4 (List.mem_of_getElem? (i := 179) (by decide +kernel)) (by decide +kernel)
theorem w4_181 : (Jvm.Cond.lays "OperaMachinesModel" "OperaMachinesModel" "ticks" "I") ∈ GT := gt_4 (List.mem_of_getElem? (i := 181) (by decide +kernel)) (by decide +kernel)
theorem w4_183 : (Jvm.Cond.lays "OperaMachinesModel" "OperaMachinesModel" "tempo" "I") ∈ GT := gt_4 (List.mem_of_getElem? (i := 183) (by decide +kernel)) (by decide +kernel)
theorem w4_185 : (Jvm.Cond.lays "OperaMachinesModel" "OperaMachinesModel" "rest" "I") ∈ GT := gt_4 (List.mem_of_getElem? (i := 185) (by decide +kernel)) (by decide +kernel)
theorem w4_187 : (Jvm.Cond.lays "OperaMachinesModel" "OperaMachinesModel" "limit" "I") ∈ GT := gt_4 (List.mem_of_getElem? (i := 187) (by decide +kernel)) (by decide +kernel)
theorem w4_189 : (Jvm.Cond.laysFinal "OperaMachinesModel" "OperaMachinesModel" "strikes" "[Z") ∈ GT := gt_4 (List.mem_of_getElem? (i := 189) (by decide +kernel)) (by decide +kernel)
theorem w4_191 : (Jvm.Cond.laysFinal "OperaMachinesModel" "OperaMachinesModel" "substitutes" "[I") ∈ GT := gt_4 (List.mem_of_getElem? (i := 191) (by decide +kernel)) (by decide +kernel)
theorem w4_193 : (Jvm.Cond.laysFinal "OperaMachinesModel" "OperaMachinesModel" "at" "[I") ∈ GT := gt_4 (List.mem_of_getElem? (i := 193) (by decide +kernel)) (by decide +kernel)
theorem w4_195 : (Jvm.Cond.laysFinal "OperaMachinesModel" "OperaMachinesModel" "aim" "[I") ∈ GT := gt_4 (List.mem_of_getElem? (i := 195) (by decide +kernel)) (by decide +kernel)
theorem w4_197 : (Jvm.Cond.laysFinal "OperaMachinesModel" "OperaMachinesModel" "working" "[I") ∈ GT := gt_4 (List.mem_of_getElem? (i := 197) (by decide +kernel)) (by decide +kernel)
theorem w4_199 : (Jvm.Cond.laysFinal "OperaMachinesModel" "OperaMachinesModel" "begins" "[I") ∈ GT := gt_4 (List.mem_of_getElem? (i := 199) (by decide +kernel)) (by decide +kernel)
theorem w4_201 : (Jvm.Cond.laysFinal "OperaMachinesModel" "OperaMachinesModel" "ends" "[I") ∈ GT := gt_4 (List.mem_of_getElem? (i := 201) (by decide +kernel)) (by decide +kernel)
theorem w4_203 : (Jvm.Cond.lays "OperaMachinesModel" "OperaMachinesModel" "meets" "I") ∈ GT := gt_4 (List.mem_of_getElem? (i := 203) (by decide +kernel)) (by decide +kernel)
theorem w4_205 : (Jvm.Cond.lays "OperaMachinesModel" "OperaMachinesModel" "pair" "I") ∈ GT := gt_4 (List.mem_of_getElem? (i := 205) (by decide +kernel)) (by decide +kernel)
theorem w4_207 : (Jvm.Cond.lays "OperaMachinesModel" "OperaMachinesModel" "thrown" "I") ∈ GT := gt_4 (List.mem_of_getElem? (i := 207) (by decide +kernel)) (by decide +kernel)
theorem w4_209 : (Jvm.Cond.superclass "OperaMachinesModel" "java/lang/Object") ∈ GT := gt_4 (List.mem_of_getElem? (i := 209) (by decide +kernel)) (by decide +kernel)
theorem w4_210 : (Jvm.Cond.methodLink "OperaMachinesLaw" (75 : Nat) ({ cls := "OperaMachinesModel", name := "thrown", desc := "()I" } : Jvm.MethodName)) ∈ GT := gt_4 (List.mem_of_getElem? (i := 210) (by decide +kernel)) (by decide +kernel)
theorem w4_211 : (Jvm.Cond.instanceMethod ({ cls := "OperaMachinesModel", name := "thrown", desc := "()I" } : Jvm.MethodName)) ∈ GT := gt_4 (List.mem_of_getElem? (i := 211) (by decide +kernel)) (by decide +kernel)
theorem w4_212 : (Jvm.Cond.selects "OperaMachinesModel" ({ cls := "OperaMachinesModel", name := "thrown", desc := "()I" } : Jvm.MethodName) ({ cls := "OperaMachinesModel", name := "thrown", desc := "()I" } : Jvm.MethodName)) ∈ GT := gt_4 (List.mem_of_getElem? (i := 212) (by decide +kernel)) (by decide +kernel)
theorem w4_213 : (Jvm.Cond.code ({ cls := "OperaMachinesModel", name := "thrown", desc := "()I" } : Jvm.MethodName) prog_5_method_2_code (1 : Nat) (Option.some Jvm.ClassFile.FieldType.int)) ∈ GT := gt_4 (List.mem_of_getElem? (i := 213) (by decide +kernel)) (by decide +kernel)
theorem w4_214 : (Jvm.Cond.methodLink "OperaMachinesLaw" (74 : Nat) ({ cls := "OperaMachinesModel", name := "wagon", desc := "(IIII)I" } : Jvm.MethodName)) ∈ GT := gt_4 (List.mem_of_getElem? (i := 214) (by decide +kernel)) (by decide +kernel)
theorem w4_215 : (Jvm.Cond.instanceMethod ({ cls := "OperaMachinesModel", name := "wagon", desc := "(IIII)I" } : Jvm.MethodName)) ∈ GT := gt_4 (List.mem_of_getElem? (i := 215) (by decide +kernel)) (by decide +kernel)
theorem w4_216 : (Jvm.Cond.selects "OperaMachinesModel" ({ cls := "OperaMachinesModel", name := "wagon", desc := "(IIII)I" } : Jvm.MethodName) ({ cls := "OperaMachinesModel", name := "wagon", desc := "(IIII)I" } : Jvm.MethodName)) ∈ GT := gt_4 (List.mem_of_getElem? (i := 216) (by decide +kernel)) (by decide +kernel)
theorem w4_217 : (Jvm.Cond.code ({ cls := "OperaMachinesModel", name := "wagon", desc := "(IIII)I" } : Jvm.MethodName) prog_5_method_7_code (6 : Nat) (Option.some Jvm.ClassFile.FieldType.int)) ∈ GT := gt_4 (List.mem_of_getElem? (i := 217) (by decide +kernel)) (by decide +kernel)
theorem w4_218 : (Jvm.Cond.methodLink "OperaMachinesModel" (84 : Nat) ({ cls := "OperaMachinesModel", name := "isIn", desc := "(III)Z" } : Jvm.MethodName)) ∈ GT := gt_4 (List.mem_of_getElem? (i := 218) (by decide +kernel)) (by decide +kernel)
theorem w4_219 : (Jvm.Cond.static ({ cls := "OperaMachinesModel", name := "isIn", desc := "(III)Z" } : Jvm.MethodName)) ∈ GT := gt_4 (List.mem_of_getElem? (i := 219) (by decide +kernel)) (by decide +kernel)
theorem w4_220 : (Jvm.Cond.code ({ cls := "OperaMachinesModel", name := "isIn", desc := "(III)Z" } : Jvm.MethodName) prog_5_method_4_code (3 : Nat) (Option.some Jvm.ClassFile.FieldType.boolean)) ∈ GT := gt_4 (List.mem_of_getElem? (i := 220) (by decide +kernel)) (by decide +kernel)
theorem w4_221 : (Jvm.Cond.methodLink "OperaMachinesModel" (88 : Nat) ({ cls := "OperaMachinesModel", name := "can", desc := "(I)Z" } : Jvm.MethodName)) ∈ GT := gt_4 (List.mem_of_getElem? (i := 221) (by decide +kernel)) (by decide +kernel)
theorem w4_222 : (Jvm.Cond.privateMethod ({ cls := "OperaMachinesModel", name := "can", desc := "(I)Z" } : Jvm.MethodName)) ∈ GT := gt_4 (List.mem_of_getElem? (i := 222) (by decide +kernel)) (by decide +kernel)
theorem w4_223 : (Jvm.Cond.instanceMethod ({ cls := "OperaMachinesModel", name := "can", desc := "(I)Z" } : Jvm.MethodName)) ∈ GT := gt_4 (List.mem_of_getElem? (i := 223) (by decide +kernel)) (by decide +kernel)
theorem w4_224 : (Jvm.Cond.code ({ cls := "OperaMachinesModel", name := "can", desc := "(I)Z" } : Jvm.MethodName) prog_5_method_3_code (2 : Nat) (Option.some Jvm.ClassFile.FieldType.boolean)) ∈ GT := gt_4 (List.mem_of_getElem? (i := 224) (by decide +kernel)) (by decide +kernel)
theorem w4_225 : (Jvm.Cond.methodLink "OperaMachinesLaw" (82 : Nat) ({ cls := "OperaMachinesModel", name := "turntable", desc := "(II)I" } : Jvm.MethodName)) ∈ GT := gt_4 (List.mem_of_getElem? (i := 225) (by decide +kernel)) (by decide +kernel)
theorem w4_226 : (Jvm.Cond.instanceMethod ({ cls := "OperaMachinesModel", name := "turntable", desc := "(II)I" } : Jvm.MethodName)) ∈ GT := gt_4 (List.mem_of_getElem? (i := 226) (by decide +kernel)) (by decide +kernel)
theorem w4_227 : (Jvm.Cond.selects "OperaMachinesModel" ({ cls := "OperaMachinesModel", name := "turntable", desc := "(II)I" } : Jvm.MethodName) ({ cls := "OperaMachinesModel", name := "turntable", desc := "(II)I" } : Jvm.MethodName)) ∈ GT := gt_4 (List.mem_of_getElem? (i := 227) (by decide +kernel)) (by decide +kernel)
theorem w4_228 : (Jvm.Cond.code ({ cls := "OperaMachinesModel", name := "turntable", desc := "(II)I" } : Jvm.MethodName) prog_5_method_8_code (3 : Nat) (Option.some Jvm.ClassFile.FieldType.int)) ∈ GT := gt_4 (List.mem_of_getElem? (i := 228) (by decide +kernel)) (by decide +kernel)
theorem w4_229 : (Jvm.Cond.methodLink "OperaMachinesLaw" (86 : Nat) ({ cls := "OperaMachinesModel", name := "setScore", desc := "(II)V" } : Jvm.MethodName)) ∈ GT := gt_4 (List.mem_of_getElem? (i := 229) (by decide +kernel)) (by decide +kernel)
theorem w4_230 : (Jvm.Cond.instanceMethod ({ cls := "OperaMachinesModel", name := "setScore", desc := "(II)V" } : Jvm.MethodName)) ∈ GT := gt_4 (List.mem_of_getElem? (i := 230) (by decide +kernel)) (by decide +kernel)
theorem w4_231 : (Jvm.Cond.selects "OperaMachinesModel" ({ cls := "OperaMachinesModel", name := "setScore", desc := "(II)V" } : Jvm.MethodName) ({ cls := "OperaMachinesModel", name := "setScore", desc := "(II)V" } : Jvm.MethodName)) ∈ GT := gt_4 (List.mem_of_getElem? (i := 231) (by decide +kernel)) (by decide +kernel)
theorem w4_232 : (Jvm.Cond.code ({ cls := "OperaMachinesModel", name := "setScore", desc := "(II)V" } : Jvm.MethodName) prog_5_method_9_code (5 : Nat) (Option.none : Option Jvm.ClassFile.FieldType)) ∈ GT := gt_4 (List.mem_of_getElem? (i := 232) (by decide +kernel)) (by decide +kernel)
theorem w4_233 : (Jvm.Cond.methodLink "OperaMachinesLaw" (89 : Nat) ({ cls := "OperaMachinesModel", name := "cue", desc := "(IIII)I" } : Jvm.MethodName)) ∈ GT := gt_4 (List.mem_of_getElem? (i := 233) (by decide +kernel)) (by decide +kernel)
theorem w4_234 : (Jvm.Cond.instanceMethod ({ cls := "OperaMachinesModel", name := "cue", desc := "(IIII)I" } : Jvm.MethodName)) ∈ GT := gt_4 (List.mem_of_getElem? (i := 234) (by decide +kernel)) (by decide +kernel)
theorem w4_235 : (Jvm.Cond.selects "OperaMachinesModel" ({ cls := "OperaMachinesModel", name := "cue", desc := "(IIII)I" } : Jvm.MethodName) ({ cls := "OperaMachinesModel", name := "cue", desc := "(IIII)I" } : Jvm.MethodName)) ∈ GT := gt_4 (List.mem_of_getElem? (i := 235) (by decide +kernel)) (by decide +kernel)
theorem w4_236 : (Jvm.Cond.code ({ cls := "OperaMachinesModel", name := "cue", desc := "(IIII)I" } : Jvm.MethodName) prog_5_method_10_code (7 : Nat) (Option.some Jvm.ClassFile.FieldType.int)) ∈ GT := gt_4 (List.mem_of_getElem? (i := 236) (by decide +kernel)) (by decide +kernel)
theorem w4_237 : (Jvm.Cond.methodLink "OperaMachinesModel" (95 : Nat) ({ cls := "OperaMachinesModel", name := "isMachine", desc := "(I)Z" } : Jvm.MethodName)) ∈ GT := gt_4 (List.mem_of_getElem? (i := 237) (by decide +kernel)) (by decide +kernel)
theorem w4_238 : (Jvm.Cond.privateMethod ({ cls := "OperaMachinesModel", name := "isMachine", desc := "(I)Z" } : Jvm.MethodName)) ∈ GT := gt_4 (List.mem_of_getElem? (i := 238) (by decide +kernel)) (by decide +kernel)
theorem w4_239 : (Jvm.Cond.instanceMethod ({ cls := "OperaMachinesModel", name := "isMachine", desc := "(I)Z" } : Jvm.MethodName)) ∈ GT := gt_4 (List.mem_of_getElem? (i := 239) (by decide +kernel)) (by decide +kernel)
theorem w5_0 : (Jvm.Cond.code ({ cls := "OperaMachinesModel", name := "isMachine", desc := "(I)Z" } : Jvm.MethodName) prog_5_method_5_code (2 : Nat) (Option.some Jvm.ClassFile.FieldType.boolean)) ∈ GT := gt_5 (List.mem_of_getElem? (i := 0) (by decide +kernel)) (by decide +kernel)
theorem w5_1 : (Jvm.Cond.methodLink "OperaMachinesModel" (98 : Nat) ({ cls := "OperaMachinesModel", name := "isWorker", desc := "(I)Z" } : Jvm.MethodName)) ∈ GT := gt_5 (List.mem_of_getElem? (i := 1) (by decide +kernel)) (by decide +kernel)
theorem w5_2 : (Jvm.Cond.static ({ cls := "OperaMachinesModel", name := "isWorker", desc := "(I)Z" } : Jvm.MethodName)) ∈ GT := gt_5 (List.mem_of_getElem? (i := 2) (by decide +kernel)) (by decide +kernel)
theorem w5_3 : (Jvm.Cond.code ({ cls := "OperaMachinesModel", name := "isWorker", desc := "(I)Z" } : Jvm.MethodName) prog_5_method_6_code (1 : Nat) (Option.some Jvm.ClassFile.FieldType.boolean)) ∈ GT := gt_5 (List.mem_of_getElem? (i := 3) (by decide +kernel)) (by decide +kernel)
theorem w5_4 : (Jvm.Cond.methodLink "OperaMachinesLaw" (93 : Nat) ({ cls := "OperaMachinesModel", name := "strikeOut", desc := "(I)I" } : Jvm.MethodName)) ∈ GT := gt_5 (List.mem_of_getElem? (i := 4) (by decide +kernel)) (by decide +kernel)
theorem w5_5 : (Jvm.Cond.instanceMethod ({ cls := "OperaMachinesModel", name := "strikeOut", desc := "(I)I" } : Jvm.MethodName)) ∈ GT := gt_5 (List.mem_of_getElem? (i := 5) (by decide +kernel)) (by decide +kernel)
theorem w5_6 : (Jvm.Cond.selects "OperaMachinesModel" ({ cls := "OperaMachinesModel", name := "strikeOut", desc := "(I)I" } : Jvm.MethodName) ({ cls := "OperaMachinesModel", name := "strikeOut", desc := "(I)I" } : Jvm.MethodName)) ∈ GT := gt_5 (List.mem_of_getElem? (i := 6) (by decide +kernel)) (by decide +kernel)
theorem w5_7 : (Jvm.Cond.code ({ cls := "OperaMachinesModel", name := "strikeOut", desc := "(I)I" } : Jvm.MethodName) prog_5_method_12_code (2 : Nat) (Option.some Jvm.ClassFile.FieldType.int)) ∈ GT := gt_5 (List.mem_of_getElem? (i := 7) (by decide +kernel)) (by decide +kernel)
theorem w5_8 : (Jvm.Cond.methodLink "OperaMachinesModel" (101 : Nat) ({ cls := "OperaMachinesModel", name := "isCue", desc := "(I)Z" } : Jvm.MethodName)) ∈ GT := gt_5 (List.mem_of_getElem? (i := 8) (by decide +kernel)) (by decide +kernel)
theorem w5_9 : (Jvm.Cond.privateMethod ({ cls := "OperaMachinesModel", name := "isCue", desc := "(I)Z" } : Jvm.MethodName)) ∈ GT := gt_5 (List.mem_of_getElem? (i := 9) (by decide +kernel)) (by decide +kernel)
theorem w5_10 : (Jvm.Cond.instanceMethod ({ cls := "OperaMachinesModel", name := "isCue", desc := "(I)Z" } : Jvm.MethodName)) ∈ GT := gt_5 (List.mem_of_getElem? (i := 10) (by decide +kernel)) (by decide +kernel)
theorem w5_11 : (Jvm.Cond.code ({ cls := "OperaMachinesModel", name := "isCue", desc := "(I)Z" } : Jvm.MethodName) prog_5_method_11_code (2 : Nat) (Option.some Jvm.ClassFile.FieldType.boolean)) ∈ GT := gt_5 (List.mem_of_getElem? (i := 11) (by decide +kernel)) (by decide +kernel)
theorem w5_12 : (Jvm.Cond.methodLink "OperaMachinesLaw" (96 : Nat) ({ cls := "OperaMachinesModel", name := "setTempo", desc := "(I)I" } : Jvm.MethodName)) ∈ GT := gt_5 (List.mem_of_getElem? (i := 12) (by decide +kernel)) (by decide +kernel)
theorem w5_13 : (Jvm.Cond.instanceMethod ({ cls := "OperaMachinesModel", name := "setTempo", desc := "(I)I" } : Jvm.MethodName)) ∈ GT := gt_5 (List.mem_of_getElem? (i := 13) (by decide +kernel)) (by decide +kernel)
theorem w5_14 : (Jvm.Cond.selects "OperaMachinesModel" ({ cls := "OperaMachinesModel", name := "setTempo", desc := "(I)I" } : Jvm.MethodName) ({ cls := "OperaMachinesModel", name := "setTempo", desc := "(I)I" } : Jvm.MethodName)) ∈ GT := gt_5 (List.mem_of_getElem? (i := 14) (by decide +kernel)) (by decide +kernel)
theorem w5_15 : (Jvm.Cond.code ({ cls := "OperaMachinesModel", name := "setTempo", desc := "(I)I" } : Jvm.MethodName) prog_5_method_13_code (3 : Nat) (Option.some Jvm.ClassFile.FieldType.int)) ∈ GT := gt_5 (List.mem_of_getElem? (i := 15) (by decide +kernel)) (by decide +kernel)
theorem w5_16 : (Jvm.Cond.methodLink "OperaMachinesLaw" (99 : Nat) ({ cls := "OperaMachinesModel", name := "setRules", desc := "(II)V" } : Jvm.MethodName)) ∈ GT := gt_5 (List.mem_of_getElem? (i := 16) (by decide +kernel)) (by decide +kernel)
theorem w5_17 : (Jvm.Cond.instanceMethod ({ cls := "OperaMachinesModel", name := "setRules", desc := "(II)V" } : Jvm.MethodName)) ∈ GT := gt_5 (List.mem_of_getElem? (i := 17) (by decide +kernel)) (by decide +kernel)
theorem w5_18 : (Jvm.Cond.selects "OperaMachinesModel" ({ cls := "OperaMachinesModel", name := "setRules", desc := "(II)V" } : Jvm.MethodName) ({ cls := "OperaMachinesModel", name := "setRules", desc := "(II)V" } : Jvm.MethodName)) ∈ GT := gt_5 (List.mem_of_getElem? (i := 18) (by decide +kernel)) (by decide +kernel)
theorem w5_19 : (Jvm.Cond.code ({ cls := "OperaMachinesModel", name := "setRules", desc := "(II)V" } : Jvm.MethodName) prog_5_method_14_code (3 : Nat) (Option.none : Option Jvm.ClassFile.FieldType)) ∈ GT := gt_5 (List.mem_of_getElem? (i := 19) (by decide +kernel)) (by decide +kernel)
theorem w5_20 : (Jvm.Cond.methodLink "OperaMachinesLaw" (103 : Nat) ({ cls := "OperaMachinesModel", name := "strike", desc := "(IZ)Z" } : Jvm.MethodName)) ∈ GT := gt_5 (List.mem_of_getElem? (i := 20) (by decide +kernel)) (by decide +kernel)
theorem w5_21 : (Jvm.Cond.instanceMethod ({ cls := "OperaMachinesModel", name := "strike", desc := "(IZ)Z" } : Jvm.MethodName)) ∈ GT := gt_5 (List.mem_of_getElem? (i := 21) (by decide +kernel)) (by decide +kernel)
theorem w5_22 : (Jvm.Cond.selects "OperaMachinesModel" ({ cls := "OperaMachinesModel", name := "strike", desc := "(IZ)Z" } : Jvm.MethodName) ({ cls := "OperaMachinesModel", name := "strike", desc := "(IZ)Z" } : Jvm.MethodName)) ∈ GT := gt_5 (List.mem_of_getElem? (i := 22) (by decide +kernel)) (by decide +kernel)
theorem w5_23 : (Jvm.Cond.code ({ cls := "OperaMachinesModel", name := "strike", desc := "(IZ)Z" } : Jvm.MethodName) prog_5_method_15_code (4 : Nat) (Option.some Jvm.ClassFile.FieldType.boolean)) ∈ GT := gt_5 (List.mem_of_getElem? (i := 23) (by decide +kernel)) (by decide +kernel)
theorem w5_24 : (Jvm.Cond.methodLink "OperaMachinesLaw" (106 : Nat) ({ cls := "OperaMachinesModel", name := "substitute", desc := "(II)I" } : Jvm.MethodName)) ∈ GT := gt_5 (List.mem_of_getElem? (i := 24) (by decide +kernel)) (by decide +kernel)
theorem w5_25 : (Jvm.Cond.instanceMethod ({ cls := "OperaMachinesModel", name := "substitute", desc := "(II)I" } : Jvm.MethodName)) ∈ GT := gt_5 (List.mem_of_getElem? (i := 25) (by decide +kernel)) (by decide +kernel)
theorem w5_26 : (Jvm.Cond.selects "OperaMachinesModel" ({ cls := "OperaMachinesModel", name := "substitute", desc := "(II)I" } : Jvm.MethodName) ({ cls := "OperaMachinesModel", name := "substitute", desc := "(II)I" } : Jvm.MethodName)) ∈ GT := gt_5 (List.mem_of_getElem? (i := 26) (by decide +kernel)) (by decide +kernel)
theorem w5_27 : (Jvm.Cond.code ({ cls := "OperaMachinesModel", name := "substitute", desc := "(II)I" } : Jvm.MethodName) prog_5_method_16_code (4 : Nat) (Option.some Jvm.ClassFile.FieldType.int)) ∈ GT := gt_5 (List.mem_of_getElem? (i := 27) (by decide +kernel)) (by decide +kernel)
theorem w5_28 : (Jvm.Cond.methodLink "OperaMachinesLaw" (110 : Nat) ({ cls := "OperaMachinesModel", name := "bar", desc := "()I" } : Jvm.MethodName)) ∈ GT := gt_5 (List.mem_of_getElem? (i := 28) (by decide +kernel)) (by decide +kernel)
theorem w5_29 : (Jvm.Cond.instanceMethod ({ cls := "OperaMachinesModel", name := "bar", desc := "()I" } : Jvm.MethodName)) ∈ GT := gt_5 (List.mem_of_getElem? (i := 29) (by decide +kernel)) (by decide +kernel)
theorem w5_30 : (Jvm.Cond.selects "OperaMachinesModel" ({ cls := "OperaMachinesModel", name := "bar", desc := "()I" } : Jvm.MethodName) ({ cls := "OperaMachinesModel", name := "bar", desc := "()I" } : Jvm.MethodName)) ∈ GT := gt_5 (List.mem_of_getElem? (i := 30) (by decide +kernel)) (by decide +kernel)
theorem w5_31 : (Jvm.Cond.code ({ cls := "OperaMachinesModel", name := "bar", desc := "()I" } : Jvm.MethodName) prog_5_method_18_code (1 : Nat) (Option.some Jvm.ClassFile.FieldType.int)) ∈ GT := gt_5 (List.mem_of_getElem? (i := 31) (by decide +kernel)) (by decide +kernel)
theorem w5_32 : (Jvm.Cond.methodLink "OperaMachinesModel" (104 : Nat) ({ cls := "OperaMachinesModel", name := "lengthBy", desc := "(I)I" } : Jvm.MethodName)) ∈ GT := gt_5 (List.mem_of_getElem? (i := 32) (by decide +kernel)) (by decide +kernel)
theorem w5_33 : (Jvm.Cond.privateMethod ({ cls := "OperaMachinesModel", name := "lengthBy", desc := "(I)I" } : Jvm.MethodName)) ∈ GT := gt_5 (List.mem_of_getElem? (i := 33) (by decide +kernel)) (by decide +kernel)
theorem w5_34 : (Jvm.Cond.instanceMethod ({ cls := "OperaMachinesModel", name := "lengthBy", desc := "(I)I" } : Jvm.MethodName)) ∈ GT := gt_5 (List.mem_of_getElem? (i := 34) (by decide +kernel)) (by decide +kernel)
theorem w5_35 : (Jvm.Cond.code ({ cls := "OperaMachinesModel", name := "lengthBy", desc := "(I)I" } : Jvm.MethodName) prog_5_method_17_code (3 : Nat) (Option.some Jvm.ClassFile.FieldType.int)) ∈ GT := gt_5 (List.mem_of_getElem? (i := 35) (by decide +kernel)) (by decide +kernel)
theorem w5_36 : (Jvm.Cond.methodLink "OperaMachinesLaw" (114 : Nat) ({ cls := "OperaMachinesModel", name := "end", desc := "()I" } : Jvm.MethodName)) ∈ GT := gt_5 (List.mem_of_getElem? (i := 36) (by decide +kernel)) (by decide +kernel)
theorem w5_37 : (Jvm.Cond.instanceMethod ({ cls := "OperaMachinesModel", name := "end", desc := "()I" } : Jvm.MethodName)) ∈ GT := gt_5 (List.mem_of_getElem? (i := 37) (by decide +kernel)) (by decide +kernel)
theorem w5_38 : (Jvm.Cond.selects "OperaMachinesModel" ({ cls := "OperaMachinesModel", name := "end", desc := "()I" } : Jvm.MethodName) ({ cls := "OperaMachinesModel", name := "end", desc := "()I" } : Jvm.MethodName)) ∈ GT := gt_5 (List.mem_of_getElem? (i := 38) (by decide +kernel)) (by decide +kernel)
theorem w5_39 : (Jvm.Cond.code ({ cls := "OperaMachinesModel", name := "end", desc := "()I" } : Jvm.MethodName) prog_5_method_19_code (1 : Nat) (Option.some Jvm.ClassFile.FieldType.int)) ∈ GT := gt_5 (List.mem_of_getElem? (i := 39) (by decide +kernel)) (by decide +kernel)
theorem w5_40 : (Jvm.Cond.methodLink "OperaMachinesLaw" (117 : Nat) ({ cls := "OperaMachinesModel", name := "place", desc := "(II)I" } : Jvm.MethodName)) ∈ GT := gt_5 (List.mem_of_getElem? (i := 40) (by decide +kernel)) (by decide +kernel)
theorem w5_41 : (Jvm.Cond.instanceMethod ({ cls := "OperaMachinesModel", name := "place", desc := "(II)I" } : Jvm.MethodName)) ∈ GT := gt_5 (List.mem_of_getElem? (i := 41) (by decide +kernel)) (by decide +kernel)
theorem w5_42 : (Jvm.Cond.selects "OperaMachinesModel" ({ cls := "OperaMachinesModel", name := "place", desc := "(II)I" } : Jvm.MethodName) ({ cls := "OperaMachinesModel", name := "place", desc := "(II)I" } : Jvm.MethodName)) ∈ GT := gt_5 (List.mem_of_getElem? (i := 42) (by decide +kernel)) (by decide +kernel)
theorem w5_43 : (Jvm.Cond.code ({ cls := "OperaMachinesModel", name := "place", desc := "(II)I" } : Jvm.MethodName) prog_5_method_24_code (4 : Nat) (Option.some Jvm.ClassFile.FieldType.int)) ∈ GT := gt_5 (List.mem_of_getElem? (i := 43) (by decide +kernel)) (by decide +kernel)
theorem w5_44 : (Jvm.Cond.methodLink "OperaMachinesModel" (119 : Nat) ({ cls := "OperaMachinesModel", name := "placeAt", desc := "(II)I" } : Jvm.MethodName)) ∈ GT := gt_5 (List.mem_of_getElem? (i := 44) (by decide +kernel)) (by decide +kernel)
theorem w5_45 : (Jvm.Cond.privateMethod ({ cls := "OperaMachinesModel", name := "placeAt", desc := "(II)I" } : Jvm.MethodName)) ∈ GT := gt_5 (List.mem_of_getElem? (i := 45) (by decide +kernel)) (by decide +kernel)
theorem w5_46 : (Jvm.Cond.instanceMethod ({ cls := "OperaMachinesModel", name := "placeAt", desc := "(II)I" } : Jvm.MethodName)) ∈ GT := gt_5 (List.mem_of_getElem? (i := 46) (by decide +kernel)) (by decide +kernel)
theorem w5_47 : (Jvm.Cond.code ({ cls := "OperaMachinesModel", name := "placeAt", desc := "(II)I" } : Jvm.MethodName) prog_5_method_23_code (6 : Nat) (Option.some Jvm.ClassFile.FieldType.int)) ∈ GT := gt_5 (List.mem_of_getElem? (i := 47) (by decide +kernel)) (by decide +kernel)
theorem w5_48 : (Jvm.Cond.methodLink "OperaMachinesModel" (108 : Nat) ({ cls := "OperaMachinesModel", name := "sets", desc := "()V" } : Jvm.MethodName)) ∈ GT := gt_5 (List.mem_of_getElem? (i := 48) (by decide +kernel)) (by decide +kernel)
theorem w5_49 : (Jvm.Cond.privateMethod ({ cls := "OperaMachinesModel", name := "sets", desc := "()V" } : Jvm.MethodName)) ∈ GT := gt_5 (List.mem_of_getElem? (i := 49) (by decide +kernel)) (by decide +kernel)
theorem w5_50 : (Jvm.Cond.instanceMethod ({ cls := "OperaMachinesModel", name := "sets", desc := "()V" } : Jvm.MethodName)) ∈ GT := gt_5 (List.mem_of_getElem? (i := 50) (by decide +kernel)) (by decide +kernel)
theorem w5_51 : (Jvm.Cond.code ({ cls := "OperaMachinesModel", name := "sets", desc := "()V" } : Jvm.MethodName) prog_5_method_21_code (2 : Nat) (Option.none : Option Jvm.ClassFile.FieldType)) ∈ GT := gt_5 (List.mem_of_getElem? (i := 51) (by decide +kernel)) (by decide +kernel)
theorem w5_52 : (Jvm.Cond.methodLink "OperaMachinesModel" (111 : Nat) ({ cls := "OperaMachinesModel", name := "effect", desc := "(II)I" } : Jvm.MethodName)) ∈ GT := gt_5 (List.mem_of_getElem? (i := 52) (by decide +kernel)) (by decide +kernel)
theorem w5_53 : (Jvm.Cond.privateMethod ({ cls := "OperaMachinesModel", name := "effect", desc := "(II)I" } : Jvm.MethodName)) ∈ GT := gt_5 (List.mem_of_getElem? (i := 53) (by decide +kernel)) (by decide +kernel)
theorem w5_54 : (Jvm.Cond.instanceMethod ({ cls := "OperaMachinesModel", name := "effect", desc := "(II)I" } : Jvm.MethodName)) ∈ GT := gt_5 (List.mem_of_getElem? (i := 54) (by decide +kernel)) (by decide +kernel)
theorem w5_55 : (Jvm.Cond.code ({ cls := "OperaMachinesModel", name := "effect", desc := "(II)I" } : Jvm.MethodName) prog_5_method_20_code (5 : Nat) (Option.some Jvm.ClassFile.FieldType.int)) ∈ GT := gt_5 (List.mem_of_getElem? (i := 55) (by decide +kernel)) (by decide +kernel)
theorem w5_56 : (Jvm.Cond.methodLink "OperaMachinesModel" (115 : Nat) ({ cls := "OperaMachinesModel", name := "moves", desc := "(I)V" } : Jvm.MethodName)) ∈ GT := gt_5 (List.mem_of_getElem? (i := 56) (by decide +kernel)) (by decide +kernel)
theorem w5_57 : (Jvm.Cond.privateMethod ({ cls := "OperaMachinesModel", name := "moves", desc := "(I)V" } : Jvm.MethodName)) ∈ GT := gt_5 (List.mem_of_getElem? (i := 57) (by decide +kernel)) (by decide +kernel)
theorem w5_58 : (Jvm.Cond.instanceMethod ({ cls := "OperaMachinesModel", name := "moves", desc := "(I)V" } : Jvm.MethodName)) ∈ GT := gt_5 (List.mem_of_getElem? (i := 58) (by decide +kernel)) (by decide +kernel)
theorem w5_59 : (Jvm.Cond.code ({ cls := "OperaMachinesModel", name := "moves", desc := "(I)V" } : Jvm.MethodName) prog_5_method_22_code (4 : Nat) (Option.none : Option Jvm.ClassFile.FieldType)) ∈ GT := gt_5 (List.mem_of_getElem? (i := 59) (by decide +kernel)) (by decide +kernel)
theorem w5_60 : (Jvm.Cond.methodLink "OperaMachinesLaw" (120 : Nat) ({ cls := "OperaMachinesModel", name := "placeAtBar", desc := "(II)I" } : Jvm.MethodName)) ∈ GT := gt_5 (List.mem_of_getElem? (i := 60) (by decide +kernel)) (by decide +kernel)
theorem w5_61 : (Jvm.Cond.instanceMethod ({ cls := "OperaMachinesModel", name := "placeAtBar", desc := "(II)I" } : Jvm.MethodName)) ∈ GT := gt_5 (List.mem_of_getElem? (i := 61) (by decide +kernel)) (by decide +kernel)
theorem w5_62 : (Jvm.Cond.selects "OperaMachinesModel" ({ cls := "OperaMachinesModel", name := "placeAtBar", desc := "(II)I" } : Jvm.MethodName) ({ cls := "OperaMachinesModel", name := "placeAtBar", desc := "(II)I" } : Jvm.MethodName)) ∈ GT := gt_5 (List.mem_of_getElem? (i := 62) (by decide +kernel)) (by decide +kernel)
theorem w5_63 : (Jvm.Cond.code ({ cls := "OperaMachinesModel", name := "placeAtBar", desc := "(II)I" } : Jvm.MethodName) prog_5_method_25_code (4 : Nat) (Option.some Jvm.ClassFile.FieldType.int)) ∈ GT := gt_5 (List.mem_of_getElem? (i := 63) (by decide +kernel)) (by decide +kernel)
theorem w5_64 : (Jvm.Cond.methodLink "OperaMachinesLaw" (124 : Nat) ({ cls := "OperaMachinesModel", name := "meeting", desc := "()I" } : Jvm.MethodName)) ∈ GT := gt_5 (List.mem_of_getElem? (i := 64) (by decide +kernel)) (by decide +kernel)
theorem w5_65 : (Jvm.Cond.instanceMethod ({ cls := "OperaMachinesModel", name := "meeting", desc := "()I" } : Jvm.MethodName)) ∈ GT := gt_5 (List.mem_of_getElem? (i := 65) (by decide +kernel)) (by decide +kernel)
theorem w5_66 : (Jvm.Cond.selects "OperaMachinesModel" ({ cls := "OperaMachinesModel", name := "meeting", desc := "()I" } : Jvm.MethodName) ({ cls := "OperaMachinesModel", name := "meeting", desc := "()I" } : Jvm.MethodName)) ∈ GT := gt_5 (List.mem_of_getElem? (i := 66) (by decide +kernel)) (by decide +kernel)
theorem w5_67 : (Jvm.Cond.code ({ cls := "OperaMachinesModel", name := "meeting", desc := "()I" } : Jvm.MethodName) prog_5_method_29_code (1 : Nat) (Option.some Jvm.ClassFile.FieldType.int)) ∈ GT := gt_5 (List.mem_of_getElem? (i := 67) (by decide +kernel)) (by decide +kernel)
theorem w5_68 : (Jvm.Cond.methodLink "OperaMachinesModel" (135 : Nat) ({ cls := "OperaMachinesModel", name := "plays", desc := "(I)V" } : Jvm.MethodName)) ∈ GT := gt_5 (List.mem_of_getElem? (i := 68) (by decide +kernel)) (by decide +kernel)
theorem w5_69 : (Jvm.Cond.privateMethod ({ cls := "OperaMachinesModel", name := "plays", desc := "(I)V" } : Jvm.MethodName)) ∈ GT := gt_5 (List.mem_of_getElem? (i := 69) (by decide +kernel)) (by decide +kernel)
theorem w5_70 : (Jvm.Cond.instanceMethod ({ cls := "OperaMachinesModel", name := "plays", desc := "(I)V" } : Jvm.MethodName)) ∈ GT := gt_5 (List.mem_of_getElem? (i := 70) (by decide +kernel)) (by decide +kernel)
theorem w5_71 : (Jvm.Cond.code ({ cls := "OperaMachinesModel", name := "plays", desc := "(I)V" } : Jvm.MethodName) prog_5_method_28_code (6 : Nat) (Option.none : Option Jvm.ClassFile.FieldType)) ∈ GT := gt_5 (List.mem_of_getElem? (i := 71) (by decide +kernel)) (by decide +kernel)
theorem w5_72 : (Jvm.Cond.methodLink "OperaMachinesModel" (128 : Nat) ({ cls := "OperaMachinesModel", name := "looks", desc := "(II)V" } : Jvm.MethodName)) ∈ GT := gt_5 (List.mem_of_getElem? (i := 72) (by decide +kernel)) (by decide +kernel)
theorem w5_73 : (Jvm.Cond.privateMethod ({ cls := "OperaMachinesModel", name := "looks", desc := "(II)V" } : Jvm.MethodName)) ∈ GT := gt_5 (List.mem_of_getElem? (i := 73) (by decide +kernel)) (by decide +kernel)
theorem w5_74 : (Jvm.Cond.instanceMethod ({ cls := "OperaMachinesModel", name := "looks", desc := "(II)V" } : Jvm.MethodName)) ∈ GT := gt_5 (List.mem_of_getElem? (i := 74) (by decide +kernel)) (by decide +kernel)
theorem w5_75 : (Jvm.Cond.code ({ cls := "OperaMachinesModel", name := "looks", desc := "(II)V" } : Jvm.MethodName) prog_5_method_27_code (5 : Nat) (Option.none : Option Jvm.ClassFile.FieldType)) ∈ GT := gt_5 (List.mem_of_getElem? (i := 75) (by decide +kernel)) (by decide +kernel)
theorem w5_76 : (Jvm.Cond.methodLink "OperaMachinesModel" (132 : Nat) ({ cls := "OperaMachinesModel", name := "meetsAt", desc := "(I)V" } : Jvm.MethodName)) ∈ GT := gt_5 (List.mem_of_getElem? (i := 76) (by decide +kernel)) (by decide +kernel)
theorem w5_77 : (Jvm.Cond.privateMethod ({ cls := "OperaMachinesModel", name := "meetsAt", desc := "(I)V" } : Jvm.MethodName)) ∈ GT := gt_5 (List.mem_of_getElem? (i := 77) (by decide +kernel)) (by decide +kernel)
theorem w5_78 : (Jvm.Cond.instanceMethod ({ cls := "OperaMachinesModel", name := "meetsAt", desc := "(I)V" } : Jvm.MethodName)) ∈ GT := gt_5 (List.mem_of_getElem? (i := 78) (by decide +kernel)) (by decide +kernel)
theorem w5_79 : (Jvm.Cond.code ({ cls := "OperaMachinesModel", name := "meetsAt", desc := "(I)V" } : Jvm.MethodName) prog_5_method_26_code (5 : Nat) (Option.none : Option Jvm.ClassFile.FieldType)) ∈ GT := gt_5 (List.mem_of_getElem? (i := 79) (by decide +kernel)) (by decide +kernel)
theorem w5_80 : (Jvm.Cond.methodLink "OperaMachinesLaw" (128 : Nat) ({ cls := "OperaMachinesModel", name := "meeters", desc := "()I" } : Jvm.MethodName)) ∈ GT := gt_5 (List.mem_of_getElem? (i := 80) (by decide +kernel)) (by decide +kernel)
theorem w5_81 : (Jvm.Cond.instanceMethod ({ cls := "OperaMachinesModel", name := "meeters", desc := "()I" } : Jvm.MethodName)) ∈ GT := gt_5 (List.mem_of_getElem? (i := 81) (by decide +kernel)) (by decide +kernel)
theorem w5_82 : (Jvm.Cond.selects "OperaMachinesModel" ({ cls := "OperaMachinesModel", name := "meeters", desc := "()I" } : Jvm.MethodName) ({ cls := "OperaMachinesModel", name := "meeters", desc := "()I" } : Jvm.MethodName)) ∈ GT := gt_5 (List.mem_of_getElem? (i := 82) (by decide +kernel)) (by decide +kernel)
theorem w5_83 : (Jvm.Cond.code ({ cls := "OperaMachinesModel", name := "meeters", desc := "()I" } : Jvm.MethodName) prog_5_method_30_code (1 : Nat) (Option.some Jvm.ClassFile.FieldType.int)) ∈ GT := gt_5 (List.mem_of_getElem? (i := 83) (by decide +kernel)) (by decide +kernel)
theorem w5_84 : (Jvm.Cond.methodLink "OperaMachinesLaw" (131 : Nat) ({ cls := "OperaMachinesModel", name := "worker", desc := "(I)I" } : Jvm.MethodName)) ∈ GT := gt_5 (List.mem_of_getElem? (i := 84) (by decide +kernel)) (by decide +kernel)
theorem w5_85 : (Jvm.Cond.instanceMethod ({ cls := "OperaMachinesModel", name := "worker", desc := "(I)I" } : Jvm.MethodName)) ∈ GT := gt_5 (List.mem_of_getElem? (i := 85) (by decide +kernel)) (by decide +kernel)
theorem w5_86 : (Jvm.Cond.selects "OperaMachinesModel" ({ cls := "OperaMachinesModel", name := "worker", desc := "(I)I" } : Jvm.MethodName) ({ cls := "OperaMachinesModel", name := "worker", desc := "(I)I" } : Jvm.MethodName)) ∈ GT := gt_5 (List.mem_of_getElem? (i := 86) (by decide +kernel)) (by decide +kernel)
theorem w5_87 : (Jvm.Cond.code ({ cls := "OperaMachinesModel", name := "worker", desc := "(I)I" } : Jvm.MethodName) prog_5_method_32_code (2 : Nat) (Option.some Jvm.ClassFile.FieldType.int)) ∈ GT := gt_5 (List.mem_of_getElem? (i := 87) (by decide +kernel)) (by decide +kernel)
theorem w5_88 : (Jvm.Cond.methodLink "OperaMachinesModel" (138 : Nat) ({ cls := "OperaMachinesModel", name := "workerOf", desc := "(I)I" } : Jvm.MethodName)) ∈ GT := gt_5 (List.mem_of_getElem? (i := 88) (by decide +kernel)) (by decide +kernel)
theorem w5_89 : (Jvm.Cond.privateMethod ({ cls := "OperaMachinesModel", name := "workerOf", desc := "(I)I" } : Jvm.MethodName)) ∈ GT := gt_5 (List.mem_of_getElem? (i := 89) (by decide +kernel)) (by decide +kernel)
theorem w5_90 : (Jvm.Cond.instanceMethod ({ cls := "OperaMachinesModel", name := "workerOf", desc := "(I)I" } : Jvm.MethodName)) ∈ GT := gt_5 (List.mem_of_getElem? (i := 90) (by decide +kernel)) (by decide +kernel)
theorem w5_91 : (Jvm.Cond.code ({ cls := "OperaMachinesModel", name := "workerOf", desc := "(I)I" } : Jvm.MethodName) prog_5_method_31_code (4 : Nat) (Option.some Jvm.ClassFile.FieldType.int)) ∈ GT := gt_5 (List.mem_of_getElem? (i := 91) (by decide +kernel)) (by decide +kernel)
theorem w5_92 : (Jvm.Cond.methodLink "OperaMachinesLaw" (134 : Nat) ({ cls := "OperaMachinesModel", name := "takes", desc := "(I)I" } : Jvm.MethodName)) ∈ GT := gt_5 (List.mem_of_getElem? (i := 92) (by decide +kernel)) (by decide +kernel)
theorem w5_93 : (Jvm.Cond.instanceMethod ({ cls := "OperaMachinesModel", name := "takes", desc := "(I)I" } : Jvm.MethodName)) ∈ GT := gt_5 (List.mem_of_getElem? (i := 93) (by decide +kernel)) (by decide +kernel)
theorem w5_94 : (Jvm.Cond.selects "OperaMachinesModel" ({ cls := "OperaMachinesModel", name := "takes", desc := "(I)I" } : Jvm.MethodName) ({ cls := "OperaMachinesModel", name := "takes", desc := "(I)I" } : Jvm.MethodName)) ∈ GT := gt_5 (List.mem_of_getElem? (i := 94) (by decide +kernel)) (by decide +kernel)
theorem w5_95 : (Jvm.Cond.code ({ cls := "OperaMachinesModel", name := "takes", desc := "(I)I" } : Jvm.MethodName) prog_5_method_33_code (2 : Nat) (Option.some Jvm.ClassFile.FieldType.int)) ∈ GT := gt_5 (List.mem_of_getElem? (i := 95) (by decide +kernel)) (by decide +kernel)
theorem w5_96 : (Jvm.Cond.methodLink "OperaMachinesLaw" (137 : Nat) ({ cls := "OperaMachinesModel", name := "clashes", desc := "(I)I" } : Jvm.MethodName)) ∈ GT := gt_5 (List.mem_of_getElem? (i := 96) (by decide +kernel)) (by decide +kernel)
theorem w5_97 : (Jvm.Cond.instanceMethod ({ cls := "OperaMachinesModel", name := "clashes", desc := "(I)I" } : Jvm.MethodName)) ∈ GT := gt_5 (List.mem_of_getElem? (i := 97) (by decide +kernel)) (by decide +kernel)
theorem w5_98 : (Jvm.Cond.selects "OperaMachinesModel" ({ cls := "OperaMachinesModel", name := "clashes", desc := "(I)I" } : Jvm.MethodName) ({ cls := "OperaMachinesModel", name := "clashes", desc := "(I)I" } : Jvm.MethodName)) ∈ GT := gt_5 (List.mem_of_getElem? (i := 98) (by decide +kernel)) (by decide +kernel)
theorem w5_99 : (Jvm.Cond.code ({ cls := "OperaMachinesModel", name := "clashes", desc := "(I)I" } : Jvm.MethodName) prog_5_method_38_code (2 : Nat) (Option.some Jvm.ClassFile.FieldType.int)) ∈ GT := gt_5 (List.mem_of_getElem? (i := 99) (by decide +kernel)) (by decide +kernel)
theorem w5_100 : (Jvm.Cond.methodLink "OperaMachinesModel" (151 : Nat) ({ cls := "OperaMachinesModel", name := "clashesOf", desc := "(I)I" } : Jvm.MethodName)) ∈ GT := gt_5 (List.mem_of_getElem? (i := 100) (by decide +kernel)) (by decide +kernel)
theorem w5_101 : (Jvm.Cond.privateMethod ({ cls := "OperaMachinesModel", name := "clashesOf", desc := "(I)I" } : Jvm.MethodName)) ∈ GT := gt_5 (List.mem_of_getElem? (i := 101) (by decide +kernel)) (by decide +kernel)
theorem w5_102 : (Jvm.Cond.instanceMethod ({ cls := "OperaMachinesModel", name := "clashesOf", desc := "(I)I" } : Jvm.MethodName)) ∈ GT := gt_5 (List.mem_of_getElem? (i := 102) (by decide +kernel)) (by decide +kernel)
theorem w5_103 : (Jvm.Cond.code ({ cls := "OperaMachinesModel", name := "clashesOf", desc := "(I)I" } : Jvm.MethodName) prog_5_method_37_code (5 : Nat) (Option.some Jvm.ClassFile.FieldType.int)) ∈ GT := gt_5 (List.mem_of_getElem? (i := 103) (by decide +kernel)) (by decide +kernel)
theorem w5_104 : (Jvm.Cond.methodLink "OperaMachinesModel" (141 : Nat) ({ cls := "OperaMachinesModel", name := "isOf", desc := "(II)Z" } : Jvm.MethodName)) ∈ GT := gt_5 (List.mem_of_getElem? (i := 104) (by decide +kernel)) (by decide +kernel)
theorem w5_105 : (Jvm.Cond.privateMethod ({ cls := "OperaMachinesModel", name := "isOf", desc := "(II)Z" } : Jvm.MethodName)) ∈ GT := gt_5 (List.mem_of_getElem? (i := 105) (by decide +kernel)) (by decide +kernel)
theorem w5_106 : (Jvm.Cond.instanceMethod ({ cls := "OperaMachinesModel", name := "isOf", desc := "(II)Z" } : Jvm.MethodName)) ∈ GT := gt_5 (List.mem_of_getElem? (i := 106) (by decide +kernel)) (by decide +kernel)
theorem w5_107 : (Jvm.Cond.code ({ cls := "OperaMachinesModel", name := "isOf", desc := "(II)Z" } : Jvm.MethodName) prog_5_method_34_code (3 : Nat) (Option.some Jvm.ClassFile.FieldType.boolean)) ∈ GT := gt_5 (List.mem_of_getElem? (i := 107) (by decide +kernel)) (by decide +kernel)
theorem w5_108 : (Jvm.Cond.methodLink "OperaMachinesModel" (148 : Nat) ({ cls := "OperaMachinesModel", name := "nextOf", desc := "(II)I" } : Jvm.MethodName)) ∈ GT := gt_5 (List.mem_of_getElem? (i := 108) (by decide +kernel)) (by decide +kernel)
theorem w5_109 : (Jvm.Cond.privateMethod ({ cls := "OperaMachinesModel", name := "nextOf", desc := "(II)I" } : Jvm.MethodName)) ∈ GT := gt_5 (List.mem_of_getElem? (i := 109) (by decide +kernel)) (by decide +kernel)
theorem w5_110 : (Jvm.Cond.instanceMethod ({ cls := "OperaMachinesModel", name := "nextOf", desc := "(II)I" } : Jvm.MethodName)) ∈ GT := gt_5 (List.mem_of_getElem? (i := 110) (by decide +kernel)) (by decide +kernel)
theorem w5_111 : (Jvm.Cond.code ({ cls := "OperaMachinesModel", name := "nextOf", desc := "(II)I" } : Jvm.MethodName) prog_5_method_36_code (5 : Nat) (Option.some Jvm.ClassFile.FieldType.int)) ∈ GT := gt_5 (List.mem_of_getElem? (i := 111) (by decide +kernel)) (by decide +kernel)
theorem w5_112 : (Jvm.Cond.methodLink "OperaMachinesModel" (145 : Nat) ({ cls := "OperaMachinesModel", name := "isAhead", desc := "(II)Z" } : Jvm.MethodName)) ∈ GT := gt_5 (List.mem_of_getElem? (i := 112) (by decide +kernel)) (by decide +kernel)
theorem w5_113 : (Jvm.Cond.privateMethod ({ cls := "OperaMachinesModel", name := "isAhead", desc := "(II)Z" } : Jvm.MethodName)) ∈ GT := gt_5 (List.mem_of_getElem? (i := 113) (by decide +kernel)) (by decide +kernel)
theorem w5_114 : (Jvm.Cond.instanceMethod ({ cls := "OperaMachinesModel", name := "isAhead", desc := "(II)Z" } : Jvm.MethodName)) ∈ GT := gt_5 (List.mem_of_getElem? (i := 114) (by decide +kernel)) (by decide +kernel)
theorem w5_115 : (Jvm.Cond.code ({ cls := "OperaMachinesModel", name := "isAhead", desc := "(II)Z" } : Jvm.MethodName) prog_5_method_35_code (3 : Nat) (Option.some Jvm.ClassFile.FieldType.boolean)) ∈ GT := gt_5 (List.mem_of_getElem? (i := 115) (by decide +kernel)) (by decide +kernel)
theorem w5_116 : (Jvm.Cond.methodLink "OperaMachinesLaw" (140 : Nat) ({ cls := "OperaMachinesModel", name := "overtime", desc := "(I)I" } : Jvm.MethodName)) ∈ GT := gt_5 (List.mem_of_getElem? (i := 116) (by decide +kernel)) (by decide +kernel)
theorem w5_117 : (Jvm.Cond.instanceMethod ({ cls := "OperaMachinesModel", name := "overtime", desc := "(I)I" } : Jvm.MethodName)) ∈ GT := gt_5 (List.mem_of_getElem? (i := 117) (by decide +kernel)) (by decide +kernel)
theorem w5_118 : (Jvm.Cond.selects "OperaMachinesModel" ({ cls := "OperaMachinesModel", name := "overtime", desc := "(I)I" } : Jvm.MethodName) ({ cls := "OperaMachinesModel", name := "overtime", desc := "(I)I" } : Jvm.MethodName)) ∈ GT := gt_5 (List.mem_of_getElem? (i := 118) (by decide +kernel)) (by decide +kernel)
theorem w5_119 : (Jvm.Cond.code ({ cls := "OperaMachinesModel", name := "overtime", desc := "(I)I" } : Jvm.MethodName) prog_5_method_39_code (6 : Nat) (Option.some Jvm.ClassFile.FieldType.int)) ∈ GT := gt_5 (List.mem_of_getElem? (i := 119) (by decide +kernel)) (by decide +kernel)
theorem w5_120 : (Jvm.Cond.methodLink "OperaMachinesLaw" (145 : Nat) ({ cls := "OperaMachinesModel", name := "isFine", desc := "()Z" } : Jvm.MethodName)) ∈ GT := gt_5 (List.mem_of_getElem? (i := 120) (by decide +kernel)) (by decide +kernel)
theorem w5_121 : (Jvm.Cond.instanceMethod ({ cls := "OperaMachinesModel", name := "isFine", desc := "()Z" } : Jvm.MethodName)) ∈ GT := gt_5 (List.mem_of_getElem? (i := 121) (by decide +kernel)) (by decide +kernel)
theorem w5_122 : (Jvm.Cond.selects "OperaMachinesModel" ({ cls := "OperaMachinesModel", name := "isFine", desc := "()Z" } : Jvm.MethodName) ({ cls := "OperaMachinesModel", name := "isFine", desc := "()Z" } : Jvm.MethodName)) ∈ GT := gt_5 (List.mem_of_getElem? (i := 122) (by decide +kernel)) (by decide +kernel)
theorem w5_123 : (Jvm.Cond.code ({ cls := "OperaMachinesModel", name := "isFine", desc := "()Z" } : Jvm.MethodName) prog_5_method_41_code (1 : Nat) (Option.some Jvm.ClassFile.FieldType.boolean)) ∈ GT := gt_5 (List.mem_of_getElem? (i := 123) (by decide +kernel)) (by decide +kernel)
theorem w5_124 : (Jvm.Cond.methodLink "OperaMachinesModel" (154 : Nat) ({ cls := "OperaMachinesModel", name := "isFineBy", desc := "(I)Z" } : Jvm.MethodName)) ∈ GT := gt_5 (List.mem_of_getElem? (i := 124) (by decide +kernel)) (by decide +kernel)
theorem w5_125 : (Jvm.Cond.privateMethod ({ cls := "OperaMachinesModel", name := "isFineBy", desc := "(I)Z" } : Jvm.MethodName)) ∈ GT := gt_5 (List.mem_of_getElem? (i := 125) (by decide +kernel)) (by decide +kernel)
theorem w5_126 : (Jvm.Cond.instanceMethod ({ cls := "OperaMachinesModel", name := "isFineBy", desc := "(I)Z" } : Jvm.MethodName)) ∈ GT := gt_5 (List.mem_of_getElem? (i := 126) (by decide +kernel)) (by decide +kernel)
theorem w5_127 : (Jvm.Cond.code ({ cls := "OperaMachinesModel", name := "isFineBy", desc := "(I)Z" } : Jvm.MethodName) prog_5_method_40_code (4 : Nat) (Option.some Jvm.ClassFile.FieldType.boolean)) ∈ GT := gt_5 (List.mem_of_getElem? (i := 127) (by decide +kernel)) (by decide +kernel)
theorem w5_128 : (Jvm.Cond.methodLink "OperaMachinesLaw" (149 : Nat) ({ cls := "OperaMachinesModel", name := "fastest", desc := "()I" } : Jvm.MethodName)) ∈ GT := gt_5 (List.mem_of_getElem? (i := 128) (by decide +kernel)) (by decide +kernel)
theorem w5_129 : (Jvm.Cond.instanceMethod ({ cls := "OperaMachinesModel", name := "fastest", desc := "()I" } : Jvm.MethodName)) ∈ GT := gt_5 (List.mem_of_getElem? (i := 129) (by decide +kernel)) (by decide +kernel)
theorem w5_130 : (Jvm.Cond.selects "OperaMachinesModel" ({ cls := "OperaMachinesModel", name := "fastest", desc := "()I" } : Jvm.MethodName) ({ cls := "OperaMachinesModel", name := "fastest", desc := "()I" } : Jvm.MethodName)) ∈ GT := gt_5 (List.mem_of_getElem? (i := 130) (by decide +kernel)) (by decide +kernel)
theorem w5_131 : (Jvm.Cond.code ({ cls := "OperaMachinesModel", name := "fastest", desc := "()I" } : Jvm.MethodName) prog_5_method_42_code (2 : Nat) (Option.some Jvm.ClassFile.FieldType.int)) ∈ GT := gt_5 (List.mem_of_getElem? (i := 131) (by decide +kernel)) (by decide +kernel)
theorem w5_132 : (Jvm.Cond.arrayClass Jvm.ClassFile.FieldType.long) ∈ GT := gt_5 (List.mem_of_getElem? (i := 132) (by decide +kernel)) (by decide +kernel)
theorem w5_133 : (Jvm.Cond.sameMethod "java/lang/Throwable" "java/lang/Throwable" "fillInStackTrace" "(I)Ljava/lang/Throwable;") ∈ GT := gt_5 (List.mem_of_getElem? (i := 133) (by decide +kernel)) (by decide +kernel)
theorem w5_134 : (Jvm.Cond.sameMethod "java/lang/AbstractStringBuilder" "java/lang/AbstractStringBuilder" "append" "(Ljava/lang/String;)Ljava/lang/AbstractStringBuilder;") ∈ GT := gt_5 (List.mem_of_getElem? (i := 134) (by decide +kernel)) (by decide +kernel)
theorem w5_135 : (Jvm.Cond.sameMethod "java/lang/AbstractStringBuilder" "java/lang/AbstractStringBuilder" "appendNull" "()Ljava/lang/AbstractStringBuilder;") ∈ GT := gt_5 (List.mem_of_getElem? (i := 135) (by decide +kernel)) (by decide +kernel)
theorem w5_136 : (Jvm.Cond.sameMethod "java/lang/AbstractStringBuilder" "java/lang/AbstractStringBuilder" "ensureCapacityInternal" "(I)V") ∈ GT := gt_5 (List.mem_of_getElem? (i := 136) (by decide +kernel)) (by decide +kernel)
theorem w5_137 : (Jvm.Cond.sameMethod "java/lang/AbstractStringBuilder" "java/lang/AbstractStringBuilder" "newCapacity" "(I)I") ∈ GT := gt_5 (List.mem_of_getElem? (i := 137) (by decide +kernel)) (by decide +kernel)
theorem w5_138 : (Jvm.Cond.sameMethod "java/lang/AbstractStringBuilder" "java/lang/AbstractStringBuilder" "putStringAt" "(ILjava/lang/String;)V") ∈ GT := gt_5 (List.mem_of_getElem? (i := 138) (by decide +kernel)) (by decide +kernel)
theorem w5_139 : (Jvm.Cond.sameMethod "java/lang/AbstractStringBuilder" "java/lang/AbstractStringBuilder" "inflateIfNeededFor" "(Ljava/lang/String;)V") ∈ GT := gt_5 (List.mem_of_getElem? (i := 139) (by decide +kernel)) (by decide +kernel)
theorem w5_140 : (Jvm.Cond.sameMethod "java/lang/AbstractStringBuilder" "java/lang/AbstractStringBuilder" "inflate" "()V") ∈ GT := gt_5 (List.mem_of_getElem? (i := 140) (by decide +kernel)) (by decide +kernel)
theorem w5_141 : (Jvm.Cond.sameMethod "java/lang/AbstractStringBuilder" "java/lang/AbstractStringBuilder" "append" "(I)Ljava/lang/AbstractStringBuilder;") ∈ GT := gt_5 (List.mem_of_getElem? (i := 141) (by decide +kernel)) (by decide +kernel)
theorem w5_142 : (Jvm.Cond.castable "OperaMachines$Cue" "java/lang/Object") ∈ GT := gt_5 (List.mem_of_getElem? (i := 142) (by decide +kernel)) (by decide +kernel)
theorem w5_143 : (Jvm.Cond.castable "OperaMachines" "java/lang/Object") ∈ GT := gt_5 (List.mem_of_getElem? (i := 143) (by decide +kernel)) (by decide +kernel)
theorem w5_144 : (Jvm.Cond.castable "java/util/ArrayList" "java/lang/Object") ∈ GT := gt_5 (List.mem_of_getElem? (i := 144) (by decide +kernel)) (by decide +kernel)
theorem w5_145 : (Jvm.Cond.castable "OperaMachinesModel" "java/lang/Object") ∈ GT := gt_5 (List.mem_of_getElem? (i := 145) (by decide +kernel)) (by decide +kernel)
theorem w5_146 : (Jvm.Cond.castable "java/lang/IllegalArgumentException" "java/lang/Object") ∈ GT := gt_5 (List.mem_of_getElem? (i := 146) (by decide +kernel)) (by decide +kernel)
theorem w5_147 : (Jvm.Cond.castable "java/lang/IllegalStateException" "java/lang/Object") ∈ GT := gt_5 (List.mem_of_getElem? (i := 147) (by decide +kernel)) (by decide +kernel)
theorem w5_148 : (Jvm.Cond.castable "OperaMachines$Machine" "java/lang/Object") ∈ GT := gt_5 (List.mem_of_getElem? (i := 148) (by decide +kernel)) (by decide +kernel)
theorem w5_149 : (Jvm.Cond.castable "java/lang/IndexOutOfBoundsException" "java/lang/Object") ∈ GT := gt_5 (List.mem_of_getElem? (i := 149) (by decide +kernel)) (by decide +kernel)
theorem w5_150 : (Jvm.Cond.castable "java/lang/StringBuilder" "java/lang/Object") ∈ GT := gt_5 (List.mem_of_getElem? (i := 150) (by decide +kernel)) (by decide +kernel)
theorem w5_151 : (Jvm.Cond.castable "java/lang/String" "java/lang/Object") ∈ GT := gt_5 (List.mem_of_getElem? (i := 151) (by decide +kernel)) (by decide +kernel)
theorem w5_152 : (Jvm.Cond.castable "java/lang/Throwable" "java/lang/Object") ∈ GT := gt_5 (List.mem_of_getElem? (i := 152) (by decide +kernel)) (by decide +kernel)
theorem w5_153 : (Jvm.Cond.sameMethod "[Ljava/lang/Object;" "java/lang/Object" "getClass" "()Ljava/lang/Class;") ∈ GT := gt_5 (List.mem_of_getElem? (i := 153) (by decide +kernel)) (by decide +kernel)
theorem w5_154 : (Jvm.Cond.selects "[Ljava/lang/Object;" ({ cls := "java/lang/Object", name := "getClass", desc := "()Ljava/lang/Class;" } : Jvm.MethodName) ({ cls := "java/lang/Object", name := "getClass", desc := "()Ljava/lang/Class;" } : Jvm.MethodName)) ∈ GT := gt_5 (List.mem_of_getElem? (i := 154) (by decide +kernel)) (by decide +kernel)
theorem w5_155 : (Jvm.Cond.declares ({ cls := "java/lang/Object", name := "getClass", desc := "()Ljava/lang/Class;" } : Jvm.MethodName)) ∈ GT := gt_5 (List.mem_of_getElem? (i := 155) (by decide +kernel)) (by decide +kernel)
theorem w5_156 : (Jvm.Cond.castable "[Z" "java/lang/Object") ∈ GT := gt_5 (List.mem_of_getElem? (i := 156) (by decide +kernel)) (by decide +kernel)
theorem w5_157 : (Jvm.Cond.castable "[I" "java/lang/Object") ∈ GT := gt_5 (List.mem_of_getElem? (i := 157) (by decide +kernel)) (by decide +kernel)
theorem w5_158 : (Jvm.Cond.castable "[B" "java/lang/Object") ∈ GT := gt_5 (List.mem_of_getElem? (i := 158) (by decide +kernel)) (by decide +kernel)
theorem w5_159 : (Jvm.Cond.castable "[LOperaMachines$Cue;" "java/lang/Object") ∈ GT := gt_5 (List.mem_of_getElem? (i := 159) (by decide +kernel)) (by decide +kernel)
theorem w5_160 : (Jvm.Cond.castable "[Ljava/lang/Object;" "java/lang/Object") ∈ GT := gt_5 (List.mem_of_getElem? (i := 160) (by decide +kernel)) (by decide +kernel)
theorem w5_161 : (Jvm.Cond.castable "[J" "java/lang/Object") ∈ GT := gt_5 (List.mem_of_getElem? (i := 161) (by decide +kernel)) (by decide +kernel)
theorem wp_0 : Cond.selects "OperaMachines" (⟨"OperaMachines", "barTicks", "(I)I"⟩ : MethodName) (⟨"OperaMachines", "barTicks", "(I)I"⟩ : MethodName) ∈ GT := gt_p (q := ((⟨"OperaMachines", "barTicks", "(I)I"⟩ : MethodName), 10)) (List.mem_of_getElem? (i := 0) (by decide +kernel))
theorem wp_1 : Cond.selects "OperaMachines" (⟨"OperaMachines", "firstMeeting", "(I)I"⟩ : MethodName) (⟨"OperaMachines", "firstMeeting", "(I)I"⟩ : MethodName) ∈ GT := gt_p (q := ((⟨"OperaMachines", "firstMeeting", "(I)I"⟩ : MethodName), 10)) (List.mem_of_getElem? (i := 1) (by decide +kernel))
theorem wp_2 : Cond.selects "OperaMachines" (⟨"OperaMachines", "rewindAll", "()V"⟩ : MethodName) (⟨"OperaMachines", "rewindAll", "()V"⟩ : MethodName) ∈ GT := gt_p (q := ((⟨"OperaMachines", "rewindAll", "()V"⟩ : MethodName), 10)) (List.mem_of_getElem? (i := 2) (by decide +kernel))
theorem wp_3 : Cond.selects "OperaMachines" (⟨"OperaMachines", "leastPairMeetingNow", "()I"⟩ : MethodName) (⟨"OperaMachines", "leastPairMeetingNow", "()I"⟩ : MethodName) ∈ GT := gt_p (q := ((⟨"OperaMachines", "leastPairMeetingNow", "()I"⟩ : MethodName), 10)) (List.mem_of_getElem? (i := 3) (by decide +kernel))
theorem wp_4 : Cond.selects "OperaMachines" (⟨"OperaMachines", "startBarForAll", "(I)V"⟩ : MethodName) (⟨"OperaMachines", "startBarForAll", "(I)V"⟩ : MethodName) ∈ GT := gt_p (q := ((⟨"OperaMachines", "startBarForAll", "(I)V"⟩ : MethodName), 10)) (List.mem_of_getElem? (i := 4) (by decide +kernel))
theorem wp_5 : Cond.selects "OperaMachines" (⟨"OperaMachines", "goAll", "()Z"⟩ : MethodName) (⟨"OperaMachines", "goAll", "()Z"⟩ : MethodName) ∈ GT := gt_p (q := ((⟨"OperaMachines", "goAll", "()Z"⟩ : MethodName), 10)) (List.mem_of_getElem? (i := 5) (by decide +kernel))
theorem wp_6 : Cond.selects "OperaMachines" (⟨"OperaMachines", "isFineWith", "(I)Z"⟩ : MethodName) (⟨"OperaMachines", "isFineWith", "(I)Z"⟩ : MethodName) ∈ GT := gt_p (q := ((⟨"OperaMachines", "isFineWith", "(I)Z"⟩ : MethodName), 10)) (List.mem_of_getElem? (i := 6) (by decide +kernel))
theorem wp_7 : Cond.selects "OperaMachines" (⟨"OperaMachines", "planWork", "(I)V"⟩ : MethodName) (⟨"OperaMachines", "planWork", "(I)V"⟩ : MethodName) ∈ GT := gt_p (q := ((⟨"OperaMachines", "planWork", "(I)V"⟩ : MethodName), 10)) (List.mem_of_getElem? (i := 7) (by decide +kernel))
theorem wp_8 : Cond.selects "OperaMachines" (⟨"OperaMachines", "plannedAllManned", "()Z"⟩ : MethodName) (⟨"OperaMachines", "plannedAllManned", "()Z"⟩ : MethodName) ∈ GT := gt_p (q := ((⟨"OperaMachines", "plannedAllManned", "()Z"⟩ : MethodName), 10)) (List.mem_of_getElem? (i := 8) (by decide +kernel))
theorem wp_9 : Cond.selects "OperaMachines" (⟨"OperaMachines", "workerTonight", "(LOperaMachines$Cue;)I"⟩ : MethodName) (⟨"OperaMachines", "workerTonight", "(LOperaMachines$Cue;)I"⟩ : MethodName) ∈ GT := gt_p (q := ((⟨"OperaMachines", "workerTonight", "(LOperaMachines$Cue;)I"⟩ : MethodName), 10)) (List.mem_of_getElem? (i := 9) (by decide +kernel))
theorem wp_10 : Cond.selects "OperaMachines" (⟨"OperaMachines", "plannedWithoutClash", "(I)Z"⟩ : MethodName) (⟨"OperaMachines", "plannedWithoutClash", "(I)Z"⟩ : MethodName) ∈ GT := gt_p (q := ((⟨"OperaMachines", "plannedWithoutClash", "(I)Z"⟩ : MethodName), 10)) (List.mem_of_getElem? (i := 10) (by decide +kernel))
theorem wp_11 : Cond.selects "OperaMachines" (⟨"OperaMachines", "plannedClashes", "(II)I"⟩ : MethodName) (⟨"OperaMachines", "plannedClashes", "(II)I"⟩ : MethodName) ∈ GT := gt_p (q := ((⟨"OperaMachines", "plannedClashes", "(II)I"⟩ : MethodName), 10)) (List.mem_of_getElem? (i := 11) (by decide +kernel))
theorem wp_12 : Cond.selects "java/lang/Throwable" (⟨"java/lang/Throwable", "fillInStackTrace", "(I)Ljava/lang/Throwable;"⟩ : MethodName) (⟨"java/lang/Throwable", "fillInStackTrace", "(I)Ljava/lang/Throwable;"⟩ : MethodName) ∈ GT := gt_p (q := ((⟨"java/lang/Throwable", "fillInStackTrace", "(I)Ljava/lang/Throwable;"⟩ : MethodName), 6)) (List.mem_of_getElem? (i := 12) (by decide +kernel))
theorem wp_13 : Cond.selects "OperaMachines" (⟨"OperaMachines", "needRoomForMachine", "()V"⟩ : MethodName) (⟨"OperaMachines", "needRoomForMachine", "()V"⟩ : MethodName) ∈ GT := gt_p (q := ((⟨"OperaMachines", "needRoomForMachine", "()V"⟩ : MethodName), 10)) (List.mem_of_getElem? (i := 13) (by decide +kernel))
theorem wp_14 : Cond.selects "OperaMachines" (⟨"OperaMachines", "add", "(LOperaMachines$Machine;)I"⟩ : MethodName) (⟨"OperaMachines", "add", "(LOperaMachines$Machine;)I"⟩ : MethodName) ∈ GT := gt_p (q := ((⟨"OperaMachines", "add", "(LOperaMachines$Machine;)I"⟩ : MethodName), 10)) (List.mem_of_getElem? (i := 14) (by decide +kernel))
theorem wp_15 : Cond.selects "java/util/ArrayList" (⟨"java/util/ArrayList", "add", "(Ljava/lang/Object;[Ljava/lang/Object;I)V"⟩ : MethodName) (⟨"java/util/ArrayList", "add", "(Ljava/lang/Object;[Ljava/lang/Object;I)V"⟩ : MethodName) ∈ GT := gt_p (q := ((⟨"java/util/ArrayList", "add", "(Ljava/lang/Object;[Ljava/lang/Object;I)V"⟩ : MethodName), 3)) (List.mem_of_getElem? (i := 15) (by decide +kernel))
theorem wp_16 : Cond.selects "java/util/ArrayList" (⟨"java/util/ArrayList", "grow", "()[Ljava/lang/Object;"⟩ : MethodName) (⟨"java/util/ArrayList", "grow", "()[Ljava/lang/Object;"⟩ : MethodName) ∈ GT := gt_p (q := ((⟨"java/util/ArrayList", "grow", "()[Ljava/lang/Object;"⟩ : MethodName), 3)) (List.mem_of_getElem? (i := 16) (by decide +kernel))
theorem wp_17 : Cond.selects "java/util/ArrayList" (⟨"java/util/ArrayList", "grow", "(I)[Ljava/lang/Object;"⟩ : MethodName) (⟨"java/util/ArrayList", "grow", "(I)[Ljava/lang/Object;"⟩ : MethodName) ∈ GT := gt_p (q := ((⟨"java/util/ArrayList", "grow", "(I)[Ljava/lang/Object;"⟩ : MethodName), 3)) (List.mem_of_getElem? (i := 17) (by decide +kernel))
theorem wp_18 : Cond.selects "OperaMachines" (⟨"OperaMachines", "machineNumbered", "(I)LOperaMachines$Machine;"⟩ : MethodName) (⟨"OperaMachines", "machineNumbered", "(I)LOperaMachines$Machine;"⟩ : MethodName) ∈ GT := gt_p (q := ((⟨"OperaMachines", "machineNumbered", "(I)LOperaMachines$Machine;"⟩ : MethodName), 10)) (List.mem_of_getElem? (i := 18) (by decide +kernel))
theorem wp_19 : Cond.selects "OperaMachines" (⟨"OperaMachines", "insertByBar", "(LOperaMachines$Cue;)V"⟩ : MethodName) (⟨"OperaMachines", "insertByBar", "(LOperaMachines$Cue;)V"⟩ : MethodName) ∈ GT := gt_p (q := ((⟨"OperaMachines", "insertByBar", "(LOperaMachines$Cue;)V"⟩ : MethodName), 10)) (List.mem_of_getElem? (i := 19) (by decide +kernel))
theorem wp_20 : Cond.selects "java/util/ArrayList" (⟨"java/util/ArrayList", "rangeCheckForAdd", "(I)V"⟩ : MethodName) (⟨"java/util/ArrayList", "rangeCheckForAdd", "(I)V"⟩ : MethodName) ∈ GT := gt_p (q := ((⟨"java/util/ArrayList", "rangeCheckForAdd", "(I)V"⟩ : MethodName), 3)) (List.mem_of_getElem? (i := 20) (by decide +kernel))
theorem wp_21 : Cond.selects "java/util/ArrayList" (⟨"java/util/ArrayList", "outOfBoundsMsg", "(I)Ljava/lang/String;"⟩ : MethodName) (⟨"java/util/ArrayList", "outOfBoundsMsg", "(I)Ljava/lang/String;"⟩ : MethodName) ∈ GT := gt_p (q := ((⟨"java/util/ArrayList", "outOfBoundsMsg", "(I)Ljava/lang/String;"⟩ : MethodName), 3)) (List.mem_of_getElem? (i := 21) (by decide +kernel))
theorem wp_22 : Cond.selects "OperaMachines" (⟨"OperaMachines", "cueNumbered", "(I)LOperaMachines$Cue;"⟩ : MethodName) (⟨"OperaMachines", "cueNumbered", "(I)LOperaMachines$Cue;"⟩ : MethodName) ∈ GT := gt_p (q := ((⟨"OperaMachines", "cueNumbered", "(I)LOperaMachines$Cue;"⟩ : MethodName), 10)) (List.mem_of_getElem? (i := 22) (by decide +kernel))
theorem wp_23 : Cond.selects "OperaMachines" (⟨"OperaMachines", "highestCue", "(LOperaMachines$Machine;I)LOperaMachines$Cue;"⟩ : MethodName) (⟨"OperaMachines", "highestCue", "(LOperaMachines$Machine;I)LOperaMachines$Cue;"⟩ : MethodName) ∈ GT := gt_p (q := ((⟨"OperaMachines", "highestCue", "(LOperaMachines$Machine;I)LOperaMachines$Cue;"⟩ : MethodName), 10)) (List.mem_of_getElem? (i := 23) (by decide +kernel))
theorem wp_24 : Cond.selects "OperaMachinesModel" (⟨"OperaMachinesModel", "can", "(I)Z"⟩ : MethodName) (⟨"OperaMachinesModel", "can", "(I)Z"⟩ : MethodName) ∈ GT := gt_p (q := ((⟨"OperaMachinesModel", "can", "(I)Z"⟩ : MethodName), 27)) (List.mem_of_getElem? (i := 24) (by decide +kernel))
theorem wp_25 : Cond.selects "OperaMachinesModel" (⟨"OperaMachinesModel", "isMachine", "(I)Z"⟩ : MethodName) (⟨"OperaMachinesModel", "isMachine", "(I)Z"⟩ : MethodName) ∈ GT := gt_p (q := ((⟨"OperaMachinesModel", "isMachine", "(I)Z"⟩ : MethodName), 27)) (List.mem_of_getElem? (i := 25) (by decide +kernel))
theorem wp_26 : Cond.selects "OperaMachinesModel" (⟨"OperaMachinesModel", "isCue", "(I)Z"⟩ : MethodName) (⟨"OperaMachinesModel", "isCue", "(I)Z"⟩ : MethodName) ∈ GT := gt_p (q := ((⟨"OperaMachinesModel", "isCue", "(I)Z"⟩ : MethodName), 27)) (List.mem_of_getElem? (i := 26) (by decide +kernel))
theorem wp_27 : Cond.selects "OperaMachinesModel" (⟨"OperaMachinesModel", "lengthBy", "(I)I"⟩ : MethodName) (⟨"OperaMachinesModel", "lengthBy", "(I)I"⟩ : MethodName) ∈ GT := gt_p (q := ((⟨"OperaMachinesModel", "lengthBy", "(I)I"⟩ : MethodName), 27)) (List.mem_of_getElem? (i := 27) (by decide +kernel))
theorem wp_28 : Cond.selects "OperaMachinesModel" (⟨"OperaMachinesModel", "placeAt", "(II)I"⟩ : MethodName) (⟨"OperaMachinesModel", "placeAt", "(II)I"⟩ : MethodName) ∈ GT := gt_p (q := ((⟨"OperaMachinesModel", "placeAt", "(II)I"⟩ : MethodName), 27)) (List.mem_of_getElem? (i := 28) (by decide +kernel))
theorem wp_29 : Cond.selects "OperaMachinesModel" (⟨"OperaMachinesModel", "sets", "()V"⟩ : MethodName) (⟨"OperaMachinesModel", "sets", "()V"⟩ : MethodName) ∈ GT := gt_p (q := ((⟨"OperaMachinesModel", "sets", "()V"⟩ : MethodName), 27)) (List.mem_of_getElem? (i := 29) (by decide +kernel))
theorem wp_30 : Cond.selects "OperaMachinesModel" (⟨"OperaMachinesModel", "effect", "(II)I"⟩ : MethodName) (⟨"OperaMachinesModel", "effect", "(II)I"⟩ : MethodName) ∈ GT := gt_p (q := ((⟨"OperaMachinesModel", "effect", "(II)I"⟩ : MethodName), 27)) (List.mem_of_getElem? (i := 30) (by decide +kernel))
theorem wp_31 : Cond.selects "OperaMachinesModel" (⟨"OperaMachinesModel", "moves", "(I)V"⟩ : MethodName) (⟨"OperaMachinesModel", "moves", "(I)V"⟩ : MethodName) ∈ GT := gt_p (q := ((⟨"OperaMachinesModel", "moves", "(I)V"⟩ : MethodName), 27)) (List.mem_of_getElem? (i := 31) (by decide +kernel))
theorem wp_32 : Cond.selects "OperaMachinesModel" (⟨"OperaMachinesModel", "plays", "(I)V"⟩ : MethodName) (⟨"OperaMachinesModel", "plays", "(I)V"⟩ : MethodName) ∈ GT := gt_p (q := ((⟨"OperaMachinesModel", "plays", "(I)V"⟩ : MethodName), 27)) (List.mem_of_getElem? (i := 32) (by decide +kernel))
theorem wp_33 : Cond.selects "OperaMachinesModel" (⟨"OperaMachinesModel", "looks", "(II)V"⟩ : MethodName) (⟨"OperaMachinesModel", "looks", "(II)V"⟩ : MethodName) ∈ GT := gt_p (q := ((⟨"OperaMachinesModel", "looks", "(II)V"⟩ : MethodName), 27)) (List.mem_of_getElem? (i := 33) (by decide +kernel))
theorem wp_34 : Cond.selects "OperaMachinesModel" (⟨"OperaMachinesModel", "meetsAt", "(I)V"⟩ : MethodName) (⟨"OperaMachinesModel", "meetsAt", "(I)V"⟩ : MethodName) ∈ GT := gt_p (q := ((⟨"OperaMachinesModel", "meetsAt", "(I)V"⟩ : MethodName), 27)) (List.mem_of_getElem? (i := 34) (by decide +kernel))
theorem wp_35 : Cond.selects "OperaMachinesModel" (⟨"OperaMachinesModel", "workerOf", "(I)I"⟩ : MethodName) (⟨"OperaMachinesModel", "workerOf", "(I)I"⟩ : MethodName) ∈ GT := gt_p (q := ((⟨"OperaMachinesModel", "workerOf", "(I)I"⟩ : MethodName), 27)) (List.mem_of_getElem? (i := 35) (by decide +kernel))
theorem wp_36 : Cond.selects "OperaMachinesModel" (⟨"OperaMachinesModel", "clashesOf", "(I)I"⟩ : MethodName) (⟨"OperaMachinesModel", "clashesOf", "(I)I"⟩ : MethodName) ∈ GT := gt_p (q := ((⟨"OperaMachinesModel", "clashesOf", "(I)I"⟩ : MethodName), 27)) (List.mem_of_getElem? (i := 36) (by decide +kernel))
theorem wp_37 : Cond.selects "OperaMachinesModel" (⟨"OperaMachinesModel", "isOf", "(II)Z"⟩ : MethodName) (⟨"OperaMachinesModel", "isOf", "(II)Z"⟩ : MethodName) ∈ GT := gt_p (q := ((⟨"OperaMachinesModel", "isOf", "(II)Z"⟩ : MethodName), 27)) (List.mem_of_getElem? (i := 37) (by decide +kernel))
theorem wp_38 : Cond.selects "OperaMachinesModel" (⟨"OperaMachinesModel", "nextOf", "(II)I"⟩ : MethodName) (⟨"OperaMachinesModel", "nextOf", "(II)I"⟩ : MethodName) ∈ GT := gt_p (q := ((⟨"OperaMachinesModel", "nextOf", "(II)I"⟩ : MethodName), 27)) (List.mem_of_getElem? (i := 38) (by decide +kernel))
theorem wp_39 : Cond.selects "OperaMachinesModel" (⟨"OperaMachinesModel", "isAhead", "(II)Z"⟩ : MethodName) (⟨"OperaMachinesModel", "isAhead", "(II)Z"⟩ : MethodName) ∈ GT := gt_p (q := ((⟨"OperaMachinesModel", "isAhead", "(II)Z"⟩ : MethodName), 27)) (List.mem_of_getElem? (i := 39) (by decide +kernel))
theorem wp_40 : Cond.selects "OperaMachinesModel" (⟨"OperaMachinesModel", "isFineBy", "(I)Z"⟩ : MethodName) (⟨"OperaMachinesModel", "isFineBy", "(I)Z"⟩ : MethodName) ∈ GT := gt_p (q := ((⟨"OperaMachinesModel", "isFineBy", "(I)Z"⟩ : MethodName), 27)) (List.mem_of_getElem? (i := 40) (by decide +kernel))
end
section
theorem dX0_init_0 : decode cX0_init 0 = .ok (.aload_n 0, 1) := by decide +kernel
theorem dX0_init_1 : decode cX0_init 1 = .ok (.invokespecial 1, 3) := by decide +kernel
theorem dX0_init_4 : decode cX0_init 4 = .ok (.aload_n 0, 1) := by decide +kernel
theorem dX0_init_5 : decode cX0_init 5 = .ok (.aload_n 1, 1) := by decide +kernel
theorem dX0_init_6 : decode cX0_init 6 = .ok (.putfield 7, 3) := by decide +kernel
theorem dX0_init_9 : decode cX0_init 9 = .ok (.aload_n 0, 1) := by decide +kernel
theorem dX0_init_10 : decode cX0_init 10 = .ok (.iload_n 2, 1) := by decide +kernel
theorem dX0_init_11 : decode cX0_init 11 = .ok (.putfield 13, 3) := by decide +kernel
theorem dX0_init_14 : decode cX0_init 14 = .ok (.aload_n 0, 1) := by decide +kernel
theorem dX0_init_15 : decode cX0_init 15 = .ok (.iload_n 3, 1) := by decide +kernel
theorem dX0_init_16 : decode cX0_init 16 = .ok (.putfield 17, 3) := by decide +kernel
theorem dX0_init_19 : decode cX0_init 19 = .ok (.aload_n 0, 1) := by decide +kernel
theorem dX0_init_20 : decode cX0_init 20 = .ok (.iload 4, 2) := by decide +kernel
theorem dX0_init_22 : decode cX0_init 22 = .ok (.putfield 20, 3) := by decide +kernel
theorem dX0_init_25 : decode cX0_init 25 = .ok (.return_, 1) := by decide +kernel
theorem dX1_init_0 : decode cX1_init 0 = .ok (.aload_n 0, 1) := by decide +kernel
theorem dX1_init_1 : decode cX1_init 1 = .ok (.invokespecial 3, 3) := by decide +kernel
theorem dX1_init_4 : decode cX1_init 4 = .ok (.aload_n 0, 1) := by decide +kernel
theorem dX1_init_5 : decode cX1_init 5 = .ok (.bipush 30, 2) := by decide +kernel
theorem dX1_init_7 : decode cX1_init 7 = .ok (.anewarray 9, 3) := by decide +kernel
theorem dX1_init_10 : decode cX1_init 10 = .ok (.putfield 11, 3) := by decide +kernel
theorem dX1_init_13 : decode cX1_init 13 = .ok (.aload_n 0, 1) := by decide +kernel
theorem dX1_init_14 : decode cX1_init 14 = .ok (.iload_n 1, 1) := by decide +kernel
theorem dX1_init_15 : decode cX1_init 15 = .ok (.putfield 17, 3) := by decide +kernel
theorem dX1_init_18 : decode cX1_init 18 = .ok (.aload_n 0, 1) := by decide +kernel
theorem dX1_init_19 : decode cX1_init 19 = .ok (.iload_n 2, 1) := by decide +kernel
theorem dX1_init_20 : decode cX1_init 20 = .ok (.putfield 21, 3) := by decide +kernel
theorem dX1_init_23 : decode cX1_init 23 = .ok (.aload_n 0, 1) := by decide +kernel
theorem dX1_init_24 : decode cX1_init 24 = .ok (.iload_n 3, 1) := by decide +kernel
theorem dX1_init_25 : decode cX1_init 25 = .ok (.putfield 24, 3) := by decide +kernel
theorem dX1_init_28 : decode cX1_init 28 = .ok (.aload_n 0, 1) := by decide +kernel
theorem dX1_init_29 : decode cX1_init 29 = .ok (.iload 4, 2) := by decide +kernel
theorem dX1_init_31 : decode cX1_init 31 = .ok (.putfield 27, 3) := by decide +kernel
theorem dX1_init_34 : decode cX1_init 34 = .ok (.return_, 1) := by decide +kernel
theorem dX1_turns_0 : decode cX1_turns 0 = .ok (.aload_n 0, 1) := by decide +kernel
theorem dX1_turns_1 : decode cX1_turns 1 = .ok (.getfield 17, 3) := by decide +kernel
theorem dX1_turns_4 : decode cX1_turns 4 = .ok (.iconst (-1), 1) := by decide +kernel
theorem dX1_turns_5 : decode cX1_turns 5 = .ok (.if_icmp .ne 7, 3) := by decide +kernel
theorem dX1_turns_8 : decode cX1_turns 8 = .ok (.iconst 1, 1) := by decide +kernel
theorem dX1_turns_9 : decode cX1_turns 9 = .ok (.goto 4, 3) := by decide +kernel
theorem dX1_turns_12 : decode cX1_turns 12 = .ok (.iconst 0, 1) := by decide +kernel
theorem dX1_turns_13 : decode cX1_turns 13 = .ok (.ireturn, 1) := by decide +kernel
theorem dX1_lastPlace_0 : decode cX1_lastPlace 0 = .ok (.aload_n 0, 1) := by decide +kernel
theorem dX1_lastPlace_1 : decode cX1_lastPlace 1 = .ok (.invokevirtual 30, 3) := by decide +kernel
theorem dX1_lastPlace_4 : decode cX1_lastPlace 4 = .ok (.ifCond .eq 9, 3) := by decide +kernel
theorem dX1_lastPlace_7 : decode cX1_lastPlace 7 = .ok (.sipush 359, 3) := by decide +kernel
theorem dX1_lastPlace_10 : decode cX1_lastPlace 10 = .ok (.goto 6, 3) := by decide +kernel
theorem dX1_lastPlace_13 : decode cX1_lastPlace 13 = .ok (.sipush 200, 3) := by decide +kernel
theorem dX1_lastPlace_16 : decode cX1_lastPlace 16 = .ok (.ireturn, 1) := by decide +kernel
theorem dX1_setCueOfBar_0 : decode cX1_setCueOfBar 0 = .ok (.iload_n 1, 1) := by decide +kernel
theorem dX1_setCueOfBar_1 : decode cX1_setCueOfBar 1 = .ok (.ifCond .lt 19, 3) := by decide +kernel
theorem dX1_setCueOfBar_4 : decode cX1_setCueOfBar 4 = .ok (.iload_n 1, 1) := by decide +kernel
theorem dX1_setCueOfBar_5 : decode cX1_setCueOfBar 5 = .ok (.aload_n 0, 1) := by decide +kernel
theorem dX1_setCueOfBar_6 : decode cX1_setCueOfBar 6 = .ok (.getfield 11, 3) := by decide +kernel
theorem dX1_setCueOfBar_9 : decode cX1_setCueOfBar 9 = .ok (.arraylength, 1) := by decide +kernel
theorem dX1_setCueOfBar_10 : decode cX1_setCueOfBar 10 = .ok (.if_icmp .ge 10, 3) := by decide +kernel
theorem dX1_setCueOfBar_13 : decode cX1_setCueOfBar 13 = .ok (.aload_n 0, 1) := by decide +kernel
theorem dX1_setCueOfBar_14 : decode cX1_setCueOfBar 14 = .ok (.getfield 11, 3) := by decide +kernel
theorem dX1_setCueOfBar_17 : decode cX1_setCueOfBar 17 = .ok (.iload_n 1, 1) := by decide +kernel
theorem dX1_setCueOfBar_18 : decode cX1_setCueOfBar 18 = .ok (.aload_n 2, 1) := by decide +kernel
theorem dX1_setCueOfBar_19 : decode cX1_setCueOfBar 19 = .ok (.aastore, 1) := by decide +kernel
theorem dX1_setCueOfBar_20 : decode cX1_setCueOfBar 20 = .ok (.return_, 1) := by decide +kernel
theorem dX1_rewind_0 : decode cX1_rewind 0 = .ok (.aload_n 0, 1) := by decide +kernel
theorem dX1_rewind_1 : decode cX1_rewind 1 = .ok (.aload_n 0, 1) := by decide +kernel
theorem dX1_rewind_2 : decode cX1_rewind 2 = .ok (.getfield 21, 3) := by decide +kernel
theorem dX1_rewind_5 : decode cX1_rewind 5 = .ok (.putfield 34, 3) := by decide +kernel
theorem dX1_rewind_8 : decode cX1_rewind 8 = .ok (.aload_n 0, 1) := by decide +kernel
theorem dX1_rewind_9 : decode cX1_rewind 9 = .ok (.aconst_null, 1) := by decide +kernel
theorem dX1_rewind_10 : decode cX1_rewind 10 = .ok (.putfield 37, 3) := by decide +kernel
theorem dX1_rewind_13 : decode cX1_rewind 13 = .ok (.return_, 1) := by decide +kernel
theorem dX1_startBar_0 : decode cX1_startBar 0 = .ok (.iload_n 1, 1) := by decide +kernel
theorem dX1_startBar_1 : decode cX1_startBar 1 = .ok (.ifCond .lt 31, 3) := by decide +kernel
theorem dX1_startBar_4 : decode cX1_startBar 4 = .ok (.iload_n 1, 1) := by decide +kernel
theorem dX1_startBar_5 : decode cX1_startBar 5 = .ok (.aload_n 0, 1) := by decide +kernel
theorem dX1_startBar_6 : decode cX1_startBar 6 = .ok (.getfield 11, 3) := by decide +kernel
theorem dX1_startBar_9 : decode cX1_startBar 9 = .ok (.arraylength, 1) := by decide +kernel
theorem dX1_startBar_10 : decode cX1_startBar 10 = .ok (.if_icmp .ge 22, 3) := by decide +kernel
theorem dX1_startBar_13 : decode cX1_startBar 13 = .ok (.aload_n 0, 1) := by decide +kernel
theorem dX1_startBar_14 : decode cX1_startBar 14 = .ok (.getfield 11, 3) := by decide +kernel
theorem dX1_startBar_17 : decode cX1_startBar 17 = .ok (.iload_n 1, 1) := by decide +kernel
theorem dX1_startBar_18 : decode cX1_startBar 18 = .ok (.aaload, 1) := by decide +kernel
theorem dX1_startBar_19 : decode cX1_startBar 19 = .ok (.ifnull 13, 3) := by decide +kernel
theorem dX1_startBar_22 : decode cX1_startBar 22 = .ok (.aload_n 0, 1) := by decide +kernel
theorem dX1_startBar_23 : decode cX1_startBar 23 = .ok (.aload_n 0, 1) := by decide +kernel
theorem dX1_startBar_24 : decode cX1_startBar 24 = .ok (.getfield 11, 3) := by decide +kernel
theorem dX1_startBar_27 : decode cX1_startBar 27 = .ok (.iload_n 1, 1) := by decide +kernel
theorem dX1_startBar_28 : decode cX1_startBar 28 = .ok (.aaload, 1) := by decide +kernel
theorem dX1_startBar_29 : decode cX1_startBar 29 = .ok (.putfield 37, 3) := by decide +kernel
theorem dX1_startBar_32 : decode cX1_startBar 32 = .ok (.return_, 1) := by decide +kernel
theorem dX1_wayToTarget_0 : decode cX1_wayToTarget 0 = .ok (.aload_n 0, 1) := by decide +kernel
theorem dX1_wayToTarget_1 : decode cX1_wayToTarget 1 = .ok (.getfield 37, 3) := by decide +kernel
theorem dX1_wayToTarget_4 : decode cX1_wayToTarget 4 = .ok (.ifnonnull 5, 3) := by decide +kernel
theorem dX1_wayToTarget_7 : decode cX1_wayToTarget 7 = .ok (.iconst 0, 1) := by decide +kernel
theorem dX1_wayToTarget_8 : decode cX1_wayToTarget 8 = .ok (.ireturn, 1) := by decide +kernel
theorem dX1_wayToTarget_9 : decode cX1_wayToTarget 9 = .ok (.aload_n 0, 1) := by decide +kernel
theorem dX1_wayToTarget_10 : decode cX1_wayToTarget 10 = .ok (.getfield 37, 3) := by decide +kernel
theorem dX1_wayToTarget_13 : decode cX1_wayToTarget 13 = .ok (.getfield 41, 3) := by decide +kernel
theorem dX1_wayToTarget_16 : decode cX1_wayToTarget 16 = .ok (.aload_n 0, 1) := by decide +kernel
theorem dX1_wayToTarget_17 : decode cX1_wayToTarget 17 = .ok (.getfield 34, 3) := by decide +kernel
theorem dX1_wayToTarget_20 : decode cX1_wayToTarget 20 = .ok (.isub, 1) := by decide +kernel
theorem dX1_wayToTarget_21 : decode cX1_wayToTarget 21 = .ok (.istore_n 1, 1) := by decide +kernel
theorem dX1_wayToTarget_22 : decode cX1_wayToTarget 22 = .ok (.aload_n 0, 1) := by decide +kernel
theorem dX1_wayToTarget_23 : decode cX1_wayToTarget 23 = .ok (.invokevirtual 30, 3) := by decide +kernel
theorem dX1_wayToTarget_26 : decode cX1_wayToTarget 26 = .ok (.ifCond .ne 5, 3) := by decide +kernel
theorem dX1_wayToTarget_29 : decode cX1_wayToTarget 29 = .ok (.iload_n 1, 1) := by decide +kernel
theorem dX1_wayToTarget_30 : decode cX1_wayToTarget 30 = .ok (.ireturn, 1) := by decide +kernel
theorem dX1_wayToTarget_31 : decode cX1_wayToTarget 31 = .ok (.iload_n 1, 1) := by decide +kernel
theorem dX1_wayToTarget_32 : decode cX1_wayToTarget 32 = .ok (.sipush 360, 3) := by decide +kernel
theorem dX1_wayToTarget_35 : decode cX1_wayToTarget 35 = .ok (.invokestatic 44, 3) := by decide +kernel
theorem dX1_wayToTarget_38 : decode cX1_wayToTarget 38 = .ok (.istore_n 2, 1) := by decide +kernel
theorem dX1_wayToTarget_39 : decode cX1_wayToTarget 39 = .ok (.iconst 2, 1) := by decide +kernel
theorem dX1_wayToTarget_40 : decode cX1_wayToTarget 40 = .ok (.iload_n 2, 1) := by decide +kernel
theorem dX1_wayToTarget_41 : decode cX1_wayToTarget 41 = .ok (.imul, 1) := by decide +kernel
theorem dX1_wayToTarget_42 : decode cX1_wayToTarget 42 = .ok (.sipush 360, 3) := by decide +kernel
theorem dX1_wayToTarget_45 : decode cX1_wayToTarget 45 = .ok (.if_icmp .gt 7, 3) := by decide +kernel
theorem dX1_wayToTarget_48 : decode cX1_wayToTarget 48 = .ok (.iload_n 2, 1) := by decide +kernel
theorem dX1_wayToTarget_49 : decode cX1_wayToTarget 49 = .ok (.goto 8, 3) := by decide +kernel
theorem dX1_wayToTarget_52 : decode cX1_wayToTarget 52 = .ok (.iload_n 2, 1) := by decide +kernel
theorem dX1_wayToTarget_53 : decode cX1_wayToTarget 53 = .ok (.sipush 360, 3) := by decide +kernel
theorem dX1_wayToTarget_56 : decode cX1_wayToTarget 56 = .ok (.isub, 1) := by decide +kernel
theorem dX1_wayToTarget_57 : decode cX1_wayToTarget 57 = .ok (.ireturn, 1) := by decide +kernel
theorem dX1_ticksToTarget_0 : decode cX1_ticksToTarget 0 = .ok (.aload_n 0, 1) := by decide +kernel
theorem dX1_ticksToTarget_1 : decode cX1_ticksToTarget 1 = .ok (.getfield 27, 3) := by decide +kernel
theorem dX1_ticksToTarget_4 : decode cX1_ticksToTarget 4 = .ok (.iconst 1, 1) := by decide +kernel
theorem dX1_ticksToTarget_5 : decode cX1_ticksToTarget 5 = .ok (.if_icmp .ge 7, 3) := by decide +kernel
theorem dX1_ticksToTarget_8 : decode cX1_ticksToTarget 8 = .ok (.iconst 0, 1) := by decide +kernel
theorem dX1_ticksToTarget_9 : decode cX1_ticksToTarget 9 = .ok (.goto 22, 3) := by decide +kernel
theorem dX1_ticksToTarget_12 : decode cX1_ticksToTarget 12 = .ok (.aload_n 0, 1) := by decide +kernel
theorem dX1_ticksToTarget_13 : decode cX1_ticksToTarget 13 = .ok (.invokevirtual 50, 3) := by decide +kernel
theorem dX1_ticksToTarget_16 : decode cX1_ticksToTarget 16 = .ok (.invokestatic 54, 3) := by decide +kernel
theorem dX1_ticksToTarget_19 : decode cX1_ticksToTarget 19 = .ok (.aload_n 0, 1) := by decide +kernel
theorem dX1_ticksToTarget_20 : decode cX1_ticksToTarget 20 = .ok (.getfield 27, 3) := by decide +kernel
theorem dX1_ticksToTarget_23 : decode cX1_ticksToTarget 23 = .ok (.iadd, 1) := by decide +kernel
theorem dX1_ticksToTarget_24 : decode cX1_ticksToTarget 24 = .ok (.iconst 1, 1) := by decide +kernel
theorem dX1_ticksToTarget_25 : decode cX1_ticksToTarget 25 = .ok (.isub, 1) := by decide +kernel
theorem dX1_ticksToTarget_26 : decode cX1_ticksToTarget 26 = .ok (.aload_n 0, 1) := by decide +kernel
theorem dX1_ticksToTarget_27 : decode cX1_ticksToTarget 27 = .ok (.getfield 27, 3) := by decide +kernel
theorem dX1_ticksToTarget_30 : decode cX1_ticksToTarget 30 = .ok (.idiv, 1) := by decide +kernel
theorem dX1_ticksToTarget_31 : decode cX1_ticksToTarget 31 = .ok (.ireturn, 1) := by decide +kernel
theorem dX1_go_0 : decode cX1_go 0 = .ok (.aload_n 0, 1) := by decide +kernel
theorem dX1_go_1 : decode cX1_go 1 = .ok (.getfield 27, 3) := by decide +kernel
theorem dX1_go_4 : decode cX1_go 4 = .ok (.iload_n 1, 1) := by decide +kernel
theorem dX1_go_5 : decode cX1_go 5 = .ok (.imul, 1) := by decide +kernel
theorem dX1_go_6 : decode cX1_go 6 = .ok (.istore_n 2, 1) := by decide +kernel
theorem dX1_go_7 : decode cX1_go 7 = .ok (.iload_n 2, 1) := by decide +kernel
theorem dX1_go_8 : decode cX1_go 8 = .ok (.ineg, 1) := by decide +kernel
theorem dX1_go_9 : decode cX1_go 9 = .ok (.iload_n 2, 1) := by decide +kernel
theorem dX1_go_10 : decode cX1_go 10 = .ok (.aload_n 0, 1) := by decide +kernel
theorem dX1_go_11 : decode cX1_go 11 = .ok (.invokevirtual 50, 3) := by decide +kernel
theorem dX1_go_14 : decode cX1_go 14 = .ok (.invokestatic 58, 3) := by decide +kernel
theorem dX1_go_17 : decode cX1_go 17 = .ok (.invokestatic 61, 3) := by decide +kernel
theorem dX1_go_20 : decode cX1_go 20 = .ok (.istore_n 3, 1) := by decide +kernel
theorem dX1_go_21 : decode cX1_go 21 = .ok (.aload_n 0, 1) := by decide +kernel
theorem dX1_go_22 : decode cX1_go 22 = .ok (.dup, 1) := by decide +kernel
theorem dX1_go_23 : decode cX1_go 23 = .ok (.getfield 34, 3) := by decide +kernel
theorem dX1_go_26 : decode cX1_go 26 = .ok (.iload_n 3, 1) := by decide +kernel
theorem dX1_go_27 : decode cX1_go 27 = .ok (.iadd, 1) := by decide +kernel
theorem dX1_go_28 : decode cX1_go 28 = .ok (.putfield 34, 3) := by decide +kernel
theorem dX1_go_31 : decode cX1_go 31 = .ok (.aload_n 0, 1) := by decide +kernel
theorem dX1_go_32 : decode cX1_go 32 = .ok (.invokevirtual 30, 3) := by decide +kernel
theorem dX1_go_35 : decode cX1_go 35 = .ok (.ifCond .eq 17, 3) := by decide +kernel
theorem dX1_go_38 : decode cX1_go 38 = .ok (.aload_n 0, 1) := by decide +kernel
theorem dX1_go_39 : decode cX1_go 39 = .ok (.aload_n 0, 1) := by decide +kernel
theorem dX1_go_40 : decode cX1_go 40 = .ok (.getfield 34, 3) := by decide +kernel
theorem dX1_go_43 : decode cX1_go 43 = .ok (.sipush 360, 3) := by decide +kernel
theorem dX1_go_46 : decode cX1_go 46 = .ok (.invokestatic 44, 3) := by decide +kernel
theorem dX1_go_49 : decode cX1_go 49 = .ok (.putfield 34, 3) := by decide +kernel
theorem dX1_go_52 : decode cX1_go 52 = .ok (.iload_n 3, 1) := by decide +kernel
theorem dX1_go_53 : decode cX1_go 53 = .ok (.ifCond .eq 7, 3) := by decide +kernel
theorem dX1_go_56 : decode cX1_go 56 = .ok (.iconst 1, 1) := by decide +kernel
theorem dX1_go_57 : decode cX1_go 57 = .ok (.goto 4, 3) := by decide +kernel
theorem dX1_go_60 : decode cX1_go 60 = .ok (.iconst 0, 1) := by decide +kernel
theorem dX1_go_61 : decode cX1_go 61 = .ok (.ireturn, 1) := by decide +kernel
theorem dX1_workThroughBar_0 : decode cX1_workThroughBar 0 = .ok (.aload_n 0, 1) := by decide +kernel
theorem dX1_workThroughBar_1 : decode cX1_workThroughBar 1 = .ok (.getfield 37, 3) := by decide +kernel
theorem dX1_workThroughBar_4 : decode cX1_workThroughBar 4 = .ok (.ifnull 23, 3) := by decide +kernel
theorem dX1_workThroughBar_7 : decode cX1_workThroughBar 7 = .ok (.aload_n 0, 1) := by decide +kernel
theorem dX1_workThroughBar_8 : decode cX1_workThroughBar 8 = .ok (.getfield 37, 3) := by decide +kernel
theorem dX1_workThroughBar_11 : decode cX1_workThroughBar 11 = .ok (.dup, 1) := by decide +kernel
theorem dX1_workThroughBar_12 : decode cX1_workThroughBar 12 = .ok (.getfield 64, 3) := by decide +kernel
theorem dX1_workThroughBar_15 : decode cX1_workThroughBar 15 = .ok (.iload_n 1, 1) := by decide +kernel
theorem dX1_workThroughBar_16 : decode cX1_workThroughBar 16 = .ok (.aload_n 0, 1) := by decide +kernel
theorem dX1_workThroughBar_17 : decode cX1_workThroughBar 17 = .ok (.invokevirtual 67, 3) := by decide +kernel
theorem dX1_workThroughBar_20 : decode cX1_workThroughBar 20 = .ok (.invokestatic 58, 3) := by decide +kernel
theorem dX1_workThroughBar_23 : decode cX1_workThroughBar 23 = .ok (.iadd, 1) := by decide +kernel
theorem dX1_workThroughBar_24 : decode cX1_workThroughBar 24 = .ok (.putfield 64, 3) := by decide +kernel
theorem dX1_workThroughBar_27 : decode cX1_workThroughBar 27 = .ok (.aload_n 0, 1) := by decide +kernel
theorem dX1_workThroughBar_28 : decode cX1_workThroughBar 28 = .ok (.iload_n 1, 1) := by decide +kernel
theorem dX1_workThroughBar_29 : decode cX1_workThroughBar 29 = .ok (.invokevirtual 70, 3) := by decide +kernel
theorem dX1_workThroughBar_32 : decode cX1_workThroughBar 32 = .ok (.pop, 1) := by decide +kernel
theorem dX1_workThroughBar_33 : decode cX1_workThroughBar 33 = .ok (.return_, 1) := by decide +kernel
theorem dX1_meets_0 : decode cX1_meets 0 = .ok (.aload_n 0, 1) := by decide +kernel
theorem dX1_meets_1 : decode cX1_meets 1 = .ok (.invokevirtual 30, 3) := by decide +kernel
theorem dX1_meets_4 : decode cX1_meets 4 = .ok (.ifCond .ne 44, 3) := by decide +kernel
theorem dX1_meets_7 : decode cX1_meets 7 = .ok (.aload_n 0, 1) := by decide +kernel
theorem dX1_meets_8 : decode cX1_meets 8 = .ok (.getfield 17, 3) := by decide +kernel
theorem dX1_meets_11 : decode cX1_meets 11 = .ok (.aload_n 1, 1) := by decide +kernel
theorem dX1_meets_12 : decode cX1_meets 12 = .ok (.getfield 17, 3) := by decide +kernel
theorem dX1_meets_15 : decode cX1_meets 15 = .ok (.if_icmp .ne 33, 3) := by decide +kernel
theorem dX1_meets_18 : decode cX1_meets 18 = .ok (.iconst 2, 1) := by decide +kernel
theorem dX1_meets_19 : decode cX1_meets 19 = .ok (.aload_n 0, 1) := by decide +kernel
theorem dX1_meets_20 : decode cX1_meets 20 = .ok (.getfield 34, 3) := by decide +kernel
theorem dX1_meets_23 : decode cX1_meets 23 = .ok (.aload_n 1, 1) := by decide +kernel
theorem dX1_meets_24 : decode cX1_meets 24 = .ok (.getfield 34, 3) := by decide +kernel
theorem dX1_meets_27 : decode cX1_meets 27 = .ok (.isub, 1) := by decide +kernel
theorem dX1_meets_28 : decode cX1_meets 28 = .ok (.invokestatic 54, 3) := by decide +kernel
theorem dX1_meets_31 : decode cX1_meets 31 = .ok (.imul, 1) := by decide +kernel
theorem dX1_meets_32 : decode cX1_meets 32 = .ok (.aload_n 0, 1) := by decide +kernel
theorem dX1_meets_33 : decode cX1_meets 33 = .ok (.getfield 24, 3) := by decide +kernel
theorem dX1_meets_36 : decode cX1_meets 36 = .ok (.aload_n 1, 1) := by decide +kernel
theorem dX1_meets_37 : decode cX1_meets 37 = .ok (.getfield 24, 3) := by decide +kernel
theorem dX1_meets_40 : decode cX1_meets 40 = .ok (.iadd, 1) := by decide +kernel
theorem dX1_meets_41 : decode cX1_meets 41 = .ok (.if_icmp .ge 7, 3) := by decide +kernel
theorem dX1_meets_44 : decode cX1_meets 44 = .ok (.iconst 1, 1) := by decide +kernel
theorem dX1_meets_45 : decode cX1_meets 45 = .ok (.goto 4, 3) := by decide +kernel
theorem dX1_meets_48 : decode cX1_meets 48 = .ok (.iconst 0, 1) := by decide +kernel
theorem dX1_meets_49 : decode cX1_meets 49 = .ok (.ireturn, 1) := by decide +kernel
theorem dX2_init_0 : decode cX2_init 0 = .ok (.aload_n 0, 1) := by decide +kernel
theorem dX2_init_1 : decode cX2_init 1 = .ok (.invokespecial 1, 3) := by decide +kernel
theorem dX2_init_4 : decode cX2_init 4 = .ok (.aload_n 0, 1) := by decide +kernel
theorem dX2_init_5 : decode cX2_init 5 = .ok (.new 7, 3) := by decide +kernel
theorem dX2_init_8 : decode cX2_init 8 = .ok (.dup, 1) := by decide +kernel
theorem dX2_init_9 : decode cX2_init 9 = .ok (.invokespecial 9, 3) := by decide +kernel
theorem dX2_init_12 : decode cX2_init 12 = .ok (.putfield 10, 3) := by decide +kernel
theorem dX2_init_15 : decode cX2_init 15 = .ok (.aload_n 0, 1) := by decide +kernel
theorem dX2_init_16 : decode cX2_init 16 = .ok (.new 7, 3) := by decide +kernel
theorem dX2_init_19 : decode cX2_init 19 = .ok (.dup, 1) := by decide +kernel
theorem dX2_init_20 : decode cX2_init 20 = .ok (.invokespecial 9, 3) := by decide +kernel
theorem dX2_init_23 : decode cX2_init 23 = .ok (.putfield 16, 3) := by decide +kernel
theorem dX2_init_26 : decode cX2_init 26 = .ok (.aload_n 0, 1) := by decide +kernel
theorem dX2_init_27 : decode cX2_init 27 = .ok (.new 7, 3) := by decide +kernel
theorem dX2_init_30 : decode cX2_init 30 = .ok (.dup, 1) := by decide +kernel
theorem dX2_init_31 : decode cX2_init 31 = .ok (.invokespecial 9, 3) := by decide +kernel
theorem dX2_init_34 : decode cX2_init 34 = .ok (.putfield 19, 3) := by decide +kernel
theorem dX2_init_37 : decode cX2_init 37 = .ok (.aload_n 0, 1) := by decide +kernel
theorem dX2_init_38 : decode cX2_init 38 = .ok (.bipush 6, 2) := by decide +kernel
theorem dX2_init_40 : decode cX2_init 40 = .ok (.newarray .boolean, 2) := by decide +kernel
theorem dX2_init_42 : decode cX2_init 42 = .ok (.putfield 22, 3) := by decide +kernel
theorem dX2_init_45 : decode cX2_init 45 = .ok (.aload_n 0, 1) := by decide +kernel
theorem dX2_init_46 : decode cX2_init 46 = .ok (.bipush 6, 2) := by decide +kernel
theorem dX2_init_48 : decode cX2_init 48 = .ok (.newarray .int, 2) := by decide +kernel
theorem dX2_init_50 : decode cX2_init 50 = .ok (.putfield 26, 3) := by decide +kernel
theorem dX2_init_53 : decode cX2_init 53 = .ok (.aload_n 0, 1) := by decide +kernel
theorem dX2_init_54 : decode cX2_init 54 = .ok (.bipush 16, 2) := by decide +kernel
theorem dX2_init_56 : decode cX2_init 56 = .ok (.putfield 30, 3) := by decide +kernel
theorem dX2_init_59 : decode cX2_init 59 = .ok (.aload_n 0, 1) := by decide +kernel
theorem dX2_init_60 : decode cX2_init 60 = .ok (.bipush 20, 2) := by decide +kernel
theorem dX2_init_62 : decode cX2_init 62 = .ok (.putfield 34, 3) := by decide +kernel
theorem dX2_init_65 : decode cX2_init 65 = .ok (.aload_n 0, 1) := by decide +kernel
theorem dX2_init_66 : decode cX2_init 66 = .ok (.bipush 100, 2) := by decide +kernel
theorem dX2_init_68 : decode cX2_init 68 = .ok (.putfield 37, 3) := by decide +kernel
theorem dX2_init_71 : decode cX2_init 71 = .ok (.aload_n 0, 1) := by decide +kernel
theorem dX2_init_72 : decode cX2_init 72 = .ok (.iconst 5, 1) := by decide +kernel
theorem dX2_init_73 : decode cX2_init 73 = .ok (.putfield 40, 3) := by decide +kernel
theorem dX2_init_76 : decode cX2_init 76 = .ok (.aload_n 0, 1) := by decide +kernel
theorem dX2_init_77 : decode cX2_init 77 = .ok (.sipush 400, 3) := by decide +kernel
theorem dX2_init_80 : decode cX2_init 80 = .ok (.putfield 43, 3) := by decide +kernel
theorem dX2_init_83 : decode cX2_init 83 = .ok (.iconst 0, 1) := by decide +kernel
theorem dX2_init_84 : decode cX2_init 84 = .ok (.istore_n 1, 1) := by decide +kernel
theorem dX2_init_85 : decode cX2_init 85 = .ok (.iload_n 1, 1) := by decide +kernel
theorem dX2_init_86 : decode cX2_init 86 = .ok (.bipush 6, 2) := by decide +kernel
theorem dX2_init_88 : decode cX2_init 88 = .ok (.if_icmp .ge 16, 3) := by decide +kernel
theorem dX2_init_91 : decode cX2_init 91 = .ok (.aload_n 0, 1) := by decide +kernel
theorem dX2_init_92 : decode cX2_init 92 = .ok (.getfield 26, 3) := by decide +kernel
theorem dX2_init_95 : decode cX2_init 95 = .ok (.iload_n 1, 1) := by decide +kernel
theorem dX2_init_96 : decode cX2_init 96 = .ok (.iconst (-1), 1) := by decide +kernel
theorem dX2_init_97 : decode cX2_init 97 = .ok (.iastore, 1) := by decide +kernel
theorem dX2_init_98 : decode cX2_init 98 = .ok (.iinc 1 1, 3) := by decide +kernel
theorem dX2_init_101 : decode cX2_init 101 = .ok (.goto (-16), 3) := by decide +kernel
theorem dX2_init_104 : decode cX2_init 104 = .ok (.return_, 1) := by decide +kernel
theorem dX2_wagon_0 : decode cX2_wagon 0 = .ok (.iload_n 1, 1) := by decide +kernel
theorem dX2_wagon_1 : decode cX2_wagon 1 = .ok (.iconst 0, 1) := by decide +kernel
theorem dX2_wagon_2 : decode cX2_wagon 2 = .ok (.iconst 2, 1) := by decide +kernel
theorem dX2_wagon_3 : decode cX2_wagon 3 = .ok (.invokestatic 46, 3) := by decide +kernel
theorem dX2_wagon_6 : decode cX2_wagon 6 = .ok (.ifCond .eq 39, 3) := by decide +kernel
theorem dX2_wagon_9 : decode cX2_wagon 9 = .ok (.iload_n 2, 1) := by decide +kernel
theorem dX2_wagon_10 : decode cX2_wagon 10 = .ok (.iconst 0, 1) := by decide +kernel
theorem dX2_wagon_11 : decode cX2_wagon 11 = .ok (.sipush 200, 3) := by decide +kernel
theorem dX2_wagon_14 : decode cX2_wagon 14 = .ok (.invokestatic 46, 3) := by decide +kernel
theorem dX2_wagon_17 : decode cX2_wagon 17 = .ok (.ifCond .eq 28, 3) := by decide +kernel
theorem dX2_wagon_20 : decode cX2_wagon 20 = .ok (.iload_n 3, 1) := by decide +kernel
theorem dX2_wagon_21 : decode cX2_wagon 21 = .ok (.iconst 1, 1) := by decide +kernel
theorem dX2_wagon_22 : decode cX2_wagon 22 = .ok (.bipush 20, 2) := by decide +kernel
theorem dX2_wagon_24 : decode cX2_wagon 24 = .ok (.invokestatic 46, 3) := by decide +kernel
theorem dX2_wagon_27 : decode cX2_wagon 27 = .ok (.ifCond .eq 18, 3) := by decide +kernel
theorem dX2_wagon_30 : decode cX2_wagon 30 = .ok (.iload 4, 2) := by decide +kernel
theorem dX2_wagon_32 : decode cX2_wagon 32 = .ok (.iconst 1, 1) := by decide +kernel
theorem dX2_wagon_33 : decode cX2_wagon 33 = .ok (.bipush 10, 2) := by decide +kernel
theorem dX2_wagon_35 : decode cX2_wagon 35 = .ok (.invokestatic 46, 3) := by decide +kernel
theorem dX2_wagon_38 : decode cX2_wagon 38 = .ok (.ifCond .eq 7, 3) := by decide +kernel
theorem dX2_wagon_41 : decode cX2_wagon 41 = .ok (.iconst 1, 1) := by decide +kernel
theorem dX2_wagon_42 : decode cX2_wagon 42 = .ok (.goto 4, 3) := by decide +kernel
theorem dX2_wagon_45 : decode cX2_wagon 45 = .ok (.iconst 0, 1) := by decide +kernel
theorem dX2_wagon_46 : decode cX2_wagon 46 = .ok (.invokestatic 50, 3) := by decide +kernel
theorem dX2_wagon_49 : decode cX2_wagon 49 = .ok (.aload_n 0, 1) := by decide +kernel
theorem dX2_wagon_50 : decode cX2_wagon 50 = .ok (.invokevirtual 54, 3) := by decide +kernel
theorem dX2_wagon_53 : decode cX2_wagon 53 = .ok (.aload_n 0, 1) := by decide +kernel
theorem dX2_wagon_54 : decode cX2_wagon 54 = .ok (.new 57, 3) := by decide +kernel
theorem dX2_wagon_57 : decode cX2_wagon 57 = .ok (.dup, 1) := by decide +kernel
theorem dX2_wagon_58 : decode cX2_wagon 58 = .ok (.iload_n 1, 1) := by decide +kernel
theorem dX2_wagon_59 : decode cX2_wagon 59 = .ok (.iload_n 2, 1) := by decide +kernel
theorem dX2_wagon_60 : decode cX2_wagon 60 = .ok (.iload_n 3, 1) := by decide +kernel
theorem dX2_wagon_61 : decode cX2_wagon 61 = .ok (.iload 4, 2) := by decide +kernel
theorem dX2_wagon_63 : decode cX2_wagon 63 = .ok (.invokespecial 59, 3) := by decide +kernel
theorem dX2_wagon_66 : decode cX2_wagon 66 = .ok (.invokevirtual 62, 3) := by decide +kernel
theorem dX2_wagon_69 : decode cX2_wagon 69 = .ok (.ireturn, 1) := by decide +kernel
theorem dX2_turntable_0 : decode cX2_turntable 0 = .ok (.iload_n 1, 1) := by decide +kernel
theorem dX2_turntable_1 : decode cX2_turntable 1 = .ok (.iconst 0, 1) := by decide +kernel
theorem dX2_turntable_2 : decode cX2_turntable 2 = .ok (.sipush 359, 3) := by decide +kernel
theorem dX2_turntable_5 : decode cX2_turntable 5 = .ok (.invokestatic 46, 3) := by decide +kernel
theorem dX2_turntable_8 : decode cX2_turntable 8 = .ok (.ifCond .eq 17, 3) := by decide +kernel
theorem dX2_turntable_11 : decode cX2_turntable 11 = .ok (.iload_n 2, 1) := by decide +kernel
theorem dX2_turntable_12 : decode cX2_turntable 12 = .ok (.iconst 1, 1) := by decide +kernel
theorem dX2_turntable_13 : decode cX2_turntable 13 = .ok (.bipush 10, 2) := by decide +kernel
theorem dX2_turntable_15 : decode cX2_turntable 15 = .ok (.invokestatic 46, 3) := by decide +kernel
theorem dX2_turntable_18 : decode cX2_turntable 18 = .ok (.ifCond .eq 7, 3) := by decide +kernel
theorem dX2_turntable_21 : decode cX2_turntable 21 = .ok (.iconst 1, 1) := by decide +kernel
theorem dX2_turntable_22 : decode cX2_turntable 22 = .ok (.goto 4, 3) := by decide +kernel
theorem dX2_turntable_25 : decode cX2_turntable 25 = .ok (.iconst 0, 1) := by decide +kernel
theorem dX2_turntable_26 : decode cX2_turntable 26 = .ok (.invokestatic 50, 3) := by decide +kernel
theorem dX2_turntable_29 : decode cX2_turntable 29 = .ok (.aload_n 0, 1) := by decide +kernel
theorem dX2_turntable_30 : decode cX2_turntable 30 = .ok (.invokevirtual 54, 3) := by decide +kernel
theorem dX2_turntable_33 : decode cX2_turntable 33 = .ok (.aload_n 0, 1) := by decide +kernel
theorem dX2_turntable_34 : decode cX2_turntable 34 = .ok (.new 57, 3) := by decide +kernel
theorem dX2_turntable_37 : decode cX2_turntable 37 = .ok (.dup, 1) := by decide +kernel
theorem dX2_turntable_38 : decode cX2_turntable 38 = .ok (.iconst (-1), 1) := by decide +kernel
theorem dX2_turntable_39 : decode cX2_turntable 39 = .ok (.iload_n 1, 1) := by decide +kernel
theorem dX2_turntable_40 : decode cX2_turntable 40 = .ok (.iconst 0, 1) := by decide +kernel
theorem dX2_turntable_41 : decode cX2_turntable 41 = .ok (.iload_n 2, 1) := by decide +kernel
theorem dX2_turntable_42 : decode cX2_turntable 42 = .ok (.invokespecial 59, 3) := by decide +kernel
theorem dX2_turntable_45 : decode cX2_turntable 45 = .ok (.invokevirtual 62, 3) := by decide +kernel
theorem dX2_turntable_48 : decode cX2_turntable 48 = .ok (.ireturn, 1) := by decide +kernel
theorem dX2_setScore_0 : decode cX2_setScore 0 = .ok (.iload_n 1, 1) := by decide +kernel
theorem dX2_setScore_1 : decode cX2_setScore 1 = .ok (.iconst 1, 1) := by decide +kernel
theorem dX2_setScore_2 : decode cX2_setScore 2 = .ok (.bipush 30, 2) := by decide +kernel
theorem dX2_setScore_4 : decode cX2_setScore 4 = .ok (.invokestatic 46, 3) := by decide +kernel
theorem dX2_setScore_7 : decode cX2_setScore 7 = .ok (.ifCond .eq 17, 3) := by decide +kernel
theorem dX2_setScore_10 : decode cX2_setScore 10 = .ok (.iload_n 2, 1) := by decide +kernel
theorem dX2_setScore_11 : decode cX2_setScore 11 = .ok (.iconst 1, 1) := by decide +kernel
theorem dX2_setScore_12 : decode cX2_setScore 12 = .ok (.bipush 40, 2) := by decide +kernel
theorem dX2_setScore_14 : decode cX2_setScore 14 = .ok (.invokestatic 46, 3) := by decide +kernel
theorem dX2_setScore_17 : decode cX2_setScore 17 = .ok (.ifCond .eq 7, 3) := by decide +kernel
theorem dX2_setScore_20 : decode cX2_setScore 20 = .ok (.iconst 1, 1) := by decide +kernel
theorem dX2_setScore_21 : decode cX2_setScore 21 = .ok (.goto 4, 3) := by decide +kernel
theorem dX2_setScore_24 : decode cX2_setScore 24 = .ok (.iconst 0, 1) := by decide +kernel
theorem dX2_setScore_25 : decode cX2_setScore 25 = .ok (.invokestatic 50, 3) := by decide +kernel
theorem dX2_setScore_28 : decode cX2_setScore 28 = .ok (.iconst 0, 1) := by decide +kernel
theorem dX2_setScore_29 : decode cX2_setScore 29 = .ok (.istore_n 3, 1) := by decide +kernel
theorem dX2_setScore_30 : decode cX2_setScore 30 = .ok (.iload_n 3, 1) := by decide +kernel
theorem dX2_setScore_31 : decode cX2_setScore 31 = .ok (.aload_n 0, 1) := by decide +kernel
theorem dX2_setScore_32 : decode cX2_setScore 32 = .ok (.getfield 16, 3) := by decide +kernel
theorem dX2_setScore_35 : decode cX2_setScore 35 = .ok (.invokevirtual 66, 3) := by decide +kernel
theorem dX2_setScore_38 : decode cX2_setScore 38 = .ok (.if_icmp .ge 49, 3) := by decide +kernel
theorem dX2_setScore_41 : decode cX2_setScore 41 = .ok (.aload_n 0, 1) := by decide +kernel
theorem dX2_setScore_42 : decode cX2_setScore 42 = .ok (.getfield 16, 3) := by decide +kernel
theorem dX2_setScore_45 : decode cX2_setScore 45 = .ok (.iload_n 3, 1) := by decide +kernel
theorem dX2_setScore_46 : decode cX2_setScore 46 = .ok (.invokevirtual 70, 3) := by decide +kernel
theorem dX2_setScore_49 : decode cX2_setScore 49 = .ok (.checkcast 74, 3) := by decide +kernel
theorem dX2_setScore_52 : decode cX2_setScore 52 = .ok (.astore 4, 2) := by decide +kernel
theorem dX2_setScore_54 : decode cX2_setScore 54 = .ok (.aload 4, 2) := by decide +kernel
theorem dX2_setScore_56 : decode cX2_setScore 56 = .ok (.getfield 76, 3) := by decide +kernel
theorem dX2_setScore_59 : decode cX2_setScore 59 = .ok (.ifCond .ne 22, 3) := by decide +kernel
theorem dX2_setScore_62 : decode cX2_setScore 62 = .ok (.aload 4, 2) := by decide +kernel
theorem dX2_setScore_64 : decode cX2_setScore 64 = .ok (.getfield 80, 3) := by decide +kernel
theorem dX2_setScore_67 : decode cX2_setScore 67 = .ok (.iload_n 1, 1) := by decide +kernel
theorem dX2_setScore_68 : decode cX2_setScore 68 = .ok (.if_icmp .lt 13, 3) := by decide +kernel
theorem dX2_setScore_71 : decode cX2_setScore 71 = .ok (.new 83, 3) := by decide +kernel
theorem dX2_setScore_74 : decode cX2_setScore 74 = .ok (.dup, 1) := by decide +kernel
theorem dX2_setScore_75 : decode cX2_setScore 75 = .ok (.ldc 85, 2) := by decide +kernel
theorem dX2_setScore_77 : decode cX2_setScore 77 = .ok (.invokespecial 87, 3) := by decide +kernel
theorem dX2_setScore_80 : decode cX2_setScore 80 = .ok (.athrow, 1) := by decide +kernel
theorem dX2_setScore_81 : decode cX2_setScore 81 = .ok (.iinc 3 1, 3) := by decide +kernel
theorem dX2_setScore_84 : decode cX2_setScore 84 = .ok (.goto (-54), 3) := by decide +kernel
theorem dX2_setScore_87 : decode cX2_setScore 87 = .ok (.aload_n 0, 1) := by decide +kernel
theorem dX2_setScore_88 : decode cX2_setScore 88 = .ok (.iload_n 1, 1) := by decide +kernel
theorem dX2_setScore_89 : decode cX2_setScore 89 = .ok (.putfield 30, 3) := by decide +kernel
theorem dX2_setScore_92 : decode cX2_setScore 92 = .ok (.aload_n 0, 1) := by decide +kernel
theorem dX2_setScore_93 : decode cX2_setScore 93 = .ok (.iload_n 2, 1) := by decide +kernel
theorem dX2_setScore_94 : decode cX2_setScore 94 = .ok (.putfield 34, 3) := by decide +kernel
theorem dX2_setScore_97 : decode cX2_setScore 97 = .ok (.return_, 1) := by decide +kernel
theorem dX2_cue_0 : decode cX2_cue 0 = .ok (.aload_n 0, 1) := by decide +kernel
theorem dX2_cue_1 : decode cX2_cue 1 = .ok (.iload_n 1, 1) := by decide +kernel
theorem dX2_cue_2 : decode cX2_cue 2 = .ok (.invokevirtual 90, 3) := by decide +kernel
theorem dX2_cue_5 : decode cX2_cue 5 = .ok (.astore 5, 2) := by decide +kernel
theorem dX2_cue_7 : decode cX2_cue 7 = .ok (.iload_n 2, 1) := by decide +kernel
theorem dX2_cue_8 : decode cX2_cue 8 = .ok (.iconst 0, 1) := by decide +kernel
theorem dX2_cue_9 : decode cX2_cue 9 = .ok (.aload_n 0, 1) := by decide +kernel
theorem dX2_cue_10 : decode cX2_cue 10 = .ok (.getfield 30, 3) := by decide +kernel
theorem dX2_cue_13 : decode cX2_cue 13 = .ok (.iconst 1, 1) := by decide +kernel
theorem dX2_cue_14 : decode cX2_cue 14 = .ok (.isub, 1) := by decide +kernel
theorem dX2_cue_15 : decode cX2_cue 15 = .ok (.invokestatic 46, 3) := by decide +kernel
theorem dX2_cue_18 : decode cX2_cue 18 = .ok (.ifCond .eq 28, 3) := by decide +kernel
theorem dX2_cue_21 : decode cX2_cue 21 = .ok (.iload_n 3, 1) := by decide +kernel
theorem dX2_cue_22 : decode cX2_cue 22 = .ok (.iconst 0, 1) := by decide +kernel
theorem dX2_cue_23 : decode cX2_cue 23 = .ok (.aload 5, 2) := by decide +kernel
theorem dX2_cue_25 : decode cX2_cue 25 = .ok (.invokevirtual 94, 3) := by decide +kernel
theorem dX2_cue_28 : decode cX2_cue 28 = .ok (.invokestatic 46, 3) := by decide +kernel
theorem dX2_cue_31 : decode cX2_cue 31 = .ok (.ifCond .eq 15, 3) := by decide +kernel
theorem dX2_cue_34 : decode cX2_cue 34 = .ok (.iload 4, 2) := by decide +kernel
theorem dX2_cue_36 : decode cX2_cue 36 = .ok (.invokestatic 97, 3) := by decide +kernel
theorem dX2_cue_39 : decode cX2_cue 39 = .ok (.ifCond .eq 7, 3) := by decide +kernel
theorem dX2_cue_42 : decode cX2_cue 42 = .ok (.iconst 1, 1) := by decide +kernel
theorem dX2_cue_43 : decode cX2_cue 43 = .ok (.goto 4, 3) := by decide +kernel
theorem dX2_cue_46 : decode cX2_cue 46 = .ok (.iconst 0, 1) := by decide +kernel
theorem dX2_cue_47 : decode cX2_cue 47 = .ok (.invokestatic 50, 3) := by decide +kernel
theorem dX2_cue_50 : decode cX2_cue 50 = .ok (.aload_n 0, 1) := by decide +kernel
theorem dX2_cue_51 : decode cX2_cue 51 = .ok (.getfield 16, 3) := by decide +kernel
theorem dX2_cue_54 : decode cX2_cue 54 = .ok (.invokevirtual 66, 3) := by decide +kernel
theorem dX2_cue_57 : decode cX2_cue 57 = .ok (.bipush 24, 2) := by decide +kernel
theorem dX2_cue_59 : decode cX2_cue 59 = .ok (.if_icmp .lt 13, 3) := by decide +kernel
theorem dX2_cue_62 : decode cX2_cue 62 = .ok (.new 83, 3) := by decide +kernel
theorem dX2_cue_65 : decode cX2_cue 65 = .ok (.dup, 1) := by decide +kernel
theorem dX2_cue_66 : decode cX2_cue 66 = .ok (.ldc 101, 2) := by decide +kernel
theorem dX2_cue_68 : decode cX2_cue 68 = .ok (.invokespecial 87, 3) := by decide +kernel
theorem dX2_cue_71 : decode cX2_cue 71 = .ok (.athrow, 1) := by decide +kernel
theorem dX2_cue_72 : decode cX2_cue 72 = .ok (.new 74, 3) := by decide +kernel
theorem dX2_cue_75 : decode cX2_cue 75 = .ok (.dup, 1) := by decide +kernel
theorem dX2_cue_76 : decode cX2_cue 76 = .ok (.aload 5, 2) := by decide +kernel
theorem dX2_cue_78 : decode cX2_cue 78 = .ok (.iload_n 2, 1) := by decide +kernel
theorem dX2_cue_79 : decode cX2_cue 79 = .ok (.iload_n 3, 1) := by decide +kernel
theorem dX2_cue_80 : decode cX2_cue 80 = .ok (.iload 4, 2) := by decide +kernel
theorem dX2_cue_82 : decode cX2_cue 82 = .ok (.invokespecial 103, 3) := by decide +kernel
theorem dX2_cue_85 : decode cX2_cue 85 = .ok (.astore 6, 2) := by decide +kernel
theorem dX2_cue_87 : decode cX2_cue 87 = .ok (.aload_n 0, 1) := by decide +kernel
theorem dX2_cue_88 : decode cX2_cue 88 = .ok (.getfield 16, 3) := by decide +kernel
theorem dX2_cue_91 : decode cX2_cue 91 = .ok (.aload 6, 2) := by decide +kernel
theorem dX2_cue_93 : decode cX2_cue 93 = .ok (.invokevirtual 106, 3) := by decide +kernel
theorem dX2_cue_96 : decode cX2_cue 96 = .ok (.pop, 1) := by decide +kernel
theorem dX2_cue_97 : decode cX2_cue 97 = .ok (.aload_n 0, 1) := by decide +kernel
theorem dX2_cue_98 : decode cX2_cue 98 = .ok (.aload 6, 2) := by decide +kernel
theorem dX2_cue_100 : decode cX2_cue 100 = .ok (.invokevirtual 109, 3) := by decide +kernel
theorem dX2_cue_103 : decode cX2_cue 103 = .ok (.aload 5, 2) := by decide +kernel
theorem dX2_cue_105 : decode cX2_cue 105 = .ok (.iload_n 2, 1) := by decide +kernel
theorem dX2_cue_106 : decode cX2_cue 106 = .ok (.aload 6, 2) := by decide +kernel
theorem dX2_cue_108 : decode cX2_cue 108 = .ok (.invokevirtual 113, 3) := by decide +kernel
theorem dX2_cue_111 : decode cX2_cue 111 = .ok (.aload_n 0, 1) := by decide +kernel
theorem dX2_cue_112 : decode cX2_cue 112 = .ok (.getfield 16, 3) := by decide +kernel
theorem dX2_cue_115 : decode cX2_cue 115 = .ok (.invokevirtual 66, 3) := by decide +kernel
theorem dX2_cue_118 : decode cX2_cue 118 = .ok (.iconst 1, 1) := by decide +kernel
theorem dX2_cue_119 : decode cX2_cue 119 = .ok (.isub, 1) := by decide +kernel
theorem dX2_cue_120 : decode cX2_cue 120 = .ok (.ireturn, 1) := by decide +kernel
theorem dX2_strikeOut_0 : decode cX2_strikeOut 0 = .ok (.aload_n 0, 1) := by decide +kernel
theorem dX2_strikeOut_1 : decode cX2_strikeOut 1 = .ok (.iload_n 1, 1) := by decide +kernel
theorem dX2_strikeOut_2 : decode cX2_strikeOut 2 = .ok (.invokevirtual 117, 3) := by decide +kernel
theorem dX2_strikeOut_5 : decode cX2_strikeOut 5 = .ok (.astore_n 2, 1) := by decide +kernel
theorem dX2_strikeOut_6 : decode cX2_strikeOut 6 = .ok (.aload_n 2, 1) := by decide +kernel
theorem dX2_strikeOut_7 : decode cX2_strikeOut 7 = .ok (.iconst 1, 1) := by decide +kernel
theorem dX2_strikeOut_8 : decode cX2_strikeOut 8 = .ok (.putfield 76, 3) := by decide +kernel
theorem dX2_strikeOut_11 : decode cX2_strikeOut 11 = .ok (.aload_n 2, 1) := by decide +kernel
theorem dX2_strikeOut_12 : decode cX2_strikeOut 12 = .ok (.getfield 121, 3) := by decide +kernel
theorem dX2_strikeOut_15 : decode cX2_strikeOut 15 = .ok (.aload_n 2, 1) := by decide +kernel
theorem dX2_strikeOut_16 : decode cX2_strikeOut 16 = .ok (.getfield 80, 3) := by decide +kernel
theorem dX2_strikeOut_19 : decode cX2_strikeOut 19 = .ok (.aload_n 0, 1) := by decide +kernel
theorem dX2_strikeOut_20 : decode cX2_strikeOut 20 = .ok (.aload_n 2, 1) := by decide +kernel
theorem dX2_strikeOut_21 : decode cX2_strikeOut 21 = .ok (.getfield 121, 3) := by decide +kernel
theorem dX2_strikeOut_24 : decode cX2_strikeOut 24 = .ok (.aload_n 2, 1) := by decide +kernel
theorem dX2_strikeOut_25 : decode cX2_strikeOut 25 = .ok (.getfield 80, 3) := by decide +kernel
theorem dX2_strikeOut_28 : decode cX2_strikeOut 28 = .ok (.invokevirtual 125, 3) := by decide +kernel
theorem dX2_strikeOut_31 : decode cX2_strikeOut 31 = .ok (.invokevirtual 113, 3) := by decide +kernel
theorem dX2_strikeOut_34 : decode cX2_strikeOut 34 = .ok (.aload_n 2, 1) := by decide +kernel
theorem dX2_strikeOut_35 : decode cX2_strikeOut 35 = .ok (.getfield 80, 3) := by decide +kernel
theorem dX2_strikeOut_38 : decode cX2_strikeOut 38 = .ok (.ireturn, 1) := by decide +kernel
theorem dX2_setTempo_0 : decode cX2_setTempo 0 = .ok (.iload_n 1, 1) := by decide +kernel
theorem dX2_setTempo_1 : decode cX2_setTempo 1 = .ok (.bipush 50, 2) := by decide +kernel
theorem dX2_setTempo_3 : decode cX2_setTempo 3 = .ok (.sipush 200, 3) := by decide +kernel
theorem dX2_setTempo_6 : decode cX2_setTempo 6 = .ok (.invokestatic 46, 3) := by decide +kernel
theorem dX2_setTempo_9 : decode cX2_setTempo 9 = .ok (.invokestatic 50, 3) := by decide +kernel
theorem dX2_setTempo_12 : decode cX2_setTempo 12 = .ok (.aload_n 0, 1) := by decide +kernel
theorem dX2_setTempo_13 : decode cX2_setTempo 13 = .ok (.getfield 37, 3) := by decide +kernel
theorem dX2_setTempo_16 : decode cX2_setTempo 16 = .ok (.istore_n 2, 1) := by decide +kernel
theorem dX2_setTempo_17 : decode cX2_setTempo 17 = .ok (.aload_n 0, 1) := by decide +kernel
theorem dX2_setTempo_18 : decode cX2_setTempo 18 = .ok (.iload_n 1, 1) := by decide +kernel
theorem dX2_setTempo_19 : decode cX2_setTempo 19 = .ok (.putfield 37, 3) := by decide +kernel
theorem dX2_setTempo_22 : decode cX2_setTempo 22 = .ok (.iload_n 2, 1) := by decide +kernel
theorem dX2_setTempo_23 : decode cX2_setTempo 23 = .ok (.ireturn, 1) := by decide +kernel
theorem dX2_setRules_0 : decode cX2_setRules 0 = .ok (.iload_n 1, 1) := by decide +kernel
theorem dX2_setRules_1 : decode cX2_setRules 1 = .ok (.iconst 0, 1) := by decide +kernel
theorem dX2_setRules_2 : decode cX2_setRules 2 = .ok (.bipush 100, 2) := by decide +kernel
theorem dX2_setRules_4 : decode cX2_setRules 4 = .ok (.invokestatic 46, 3) := by decide +kernel
theorem dX2_setRules_7 : decode cX2_setRules 7 = .ok (.ifCond .eq 18, 3) := by decide +kernel
theorem dX2_setRules_10 : decode cX2_setRules 10 = .ok (.iload_n 2, 1) := by decide +kernel
theorem dX2_setRules_11 : decode cX2_setRules 11 = .ok (.iconst 0, 1) := by decide +kernel
theorem dX2_setRules_12 : decode cX2_setRules 12 = .ok (.sipush 2400, 3) := by decide +kernel
theorem dX2_setRules_15 : decode cX2_setRules 15 = .ok (.invokestatic 46, 3) := by decide +kernel
theorem dX2_setRules_18 : decode cX2_setRules 18 = .ok (.ifCond .eq 7, 3) := by decide +kernel
theorem dX2_setRules_21 : decode cX2_setRules 21 = .ok (.iconst 1, 1) := by decide +kernel
theorem dX2_setRules_22 : decode cX2_setRules 22 = .ok (.goto 4, 3) := by decide +kernel
theorem dX2_setRules_25 : decode cX2_setRules 25 = .ok (.iconst 0, 1) := by decide +kernel
theorem dX2_setRules_26 : decode cX2_setRules 26 = .ok (.invokestatic 50, 3) := by decide +kernel
theorem dX2_setRules_29 : decode cX2_setRules 29 = .ok (.aload_n 0, 1) := by decide +kernel
theorem dX2_setRules_30 : decode cX2_setRules 30 = .ok (.iload_n 1, 1) := by decide +kernel
theorem dX2_setRules_31 : decode cX2_setRules 31 = .ok (.putfield 40, 3) := by decide +kernel
theorem dX2_setRules_34 : decode cX2_setRules 34 = .ok (.aload_n 0, 1) := by decide +kernel
theorem dX2_setRules_35 : decode cX2_setRules 35 = .ok (.iload_n 2, 1) := by decide +kernel
theorem dX2_setRules_36 : decode cX2_setRules 36 = .ok (.putfield 43, 3) := by decide +kernel
theorem dX2_setRules_39 : decode cX2_setRules 39 = .ok (.return_, 1) := by decide +kernel
theorem dX2_strike_0 : decode cX2_strike 0 = .ok (.iload_n 1, 1) := by decide +kernel
theorem dX2_strike_1 : decode cX2_strike 1 = .ok (.invokestatic 97, 3) := by decide +kernel
theorem dX2_strike_4 : decode cX2_strike 4 = .ok (.invokestatic 50, 3) := by decide +kernel
theorem dX2_strike_7 : decode cX2_strike 7 = .ok (.aload_n 0, 1) := by decide +kernel
theorem dX2_strike_8 : decode cX2_strike 8 = .ok (.getfield 22, 3) := by decide +kernel
theorem dX2_strike_11 : decode cX2_strike 11 = .ok (.iload_n 1, 1) := by decide +kernel
theorem dX2_strike_12 : decode cX2_strike 12 = .ok (.baload, 1) := by decide +kernel
theorem dX2_strike_13 : decode cX2_strike 13 = .ok (.istore_n 3, 1) := by decide +kernel
theorem dX2_strike_14 : decode cX2_strike 14 = .ok (.aload_n 0, 1) := by decide +kernel
theorem dX2_strike_15 : decode cX2_strike 15 = .ok (.getfield 22, 3) := by decide +kernel
theorem dX2_strike_18 : decode cX2_strike 18 = .ok (.iload_n 1, 1) := by decide +kernel
theorem dX2_strike_19 : decode cX2_strike 19 = .ok (.iload_n 2, 1) := by decide +kernel
theorem dX2_strike_20 : decode cX2_strike 20 = .ok (.bastore, 1) := by decide +kernel
theorem dX2_strike_21 : decode cX2_strike 21 = .ok (.iload_n 3, 1) := by decide +kernel
theorem dX2_strike_22 : decode cX2_strike 22 = .ok (.ireturn, 1) := by decide +kernel
theorem dX2_substitute_0 : decode cX2_substitute 0 = .ok (.iload_n 1, 1) := by decide +kernel
theorem dX2_substitute_1 : decode cX2_substitute 1 = .ok (.invokestatic 97, 3) := by decide +kernel
theorem dX2_substitute_4 : decode cX2_substitute 4 = .ok (.ifCond .eq 19, 3) := by decide +kernel
theorem dX2_substitute_7 : decode cX2_substitute 7 = .ok (.iload_n 2, 1) := by decide +kernel
theorem dX2_substitute_8 : decode cX2_substitute 8 = .ok (.iconst (-1), 1) := by decide +kernel
theorem dX2_substitute_9 : decode cX2_substitute 9 = .ok (.if_icmp .eq 10, 3) := by decide +kernel
theorem dX2_substitute_12 : decode cX2_substitute 12 = .ok (.iload_n 2, 1) := by decide +kernel
theorem dX2_substitute_13 : decode cX2_substitute 13 = .ok (.invokestatic 97, 3) := by decide +kernel
theorem dX2_substitute_16 : decode cX2_substitute 16 = .ok (.ifCond .eq 7, 3) := by decide +kernel
theorem dX2_substitute_19 : decode cX2_substitute 19 = .ok (.iconst 1, 1) := by decide +kernel
theorem dX2_substitute_20 : decode cX2_substitute 20 = .ok (.goto 4, 3) := by decide +kernel
theorem dX2_substitute_23 : decode cX2_substitute 23 = .ok (.iconst 0, 1) := by decide +kernel
theorem dX2_substitute_24 : decode cX2_substitute 24 = .ok (.invokestatic 50, 3) := by decide +kernel
theorem dX2_substitute_27 : decode cX2_substitute 27 = .ok (.aload_n 0, 1) := by decide +kernel
theorem dX2_substitute_28 : decode cX2_substitute 28 = .ok (.getfield 26, 3) := by decide +kernel
theorem dX2_substitute_31 : decode cX2_substitute 31 = .ok (.iload_n 1, 1) := by decide +kernel
theorem dX2_substitute_32 : decode cX2_substitute 32 = .ok (.iaload, 1) := by decide +kernel
theorem dX2_substitute_33 : decode cX2_substitute 33 = .ok (.istore_n 3, 1) := by decide +kernel
theorem dX2_substitute_34 : decode cX2_substitute 34 = .ok (.aload_n 0, 1) := by decide +kernel
theorem dX2_substitute_35 : decode cX2_substitute 35 = .ok (.getfield 26, 3) := by decide +kernel
theorem dX2_substitute_38 : decode cX2_substitute 38 = .ok (.iload_n 1, 1) := by decide +kernel
theorem dX2_substitute_39 : decode cX2_substitute 39 = .ok (.iload_n 2, 1) := by decide +kernel
theorem dX2_substitute_40 : decode cX2_substitute 40 = .ok (.iastore, 1) := by decide +kernel
theorem dX2_substitute_41 : decode cX2_substitute 41 = .ok (.iload_n 3, 1) := by decide +kernel
theorem dX2_substitute_42 : decode cX2_substitute 42 = .ok (.ireturn, 1) := by decide +kernel
theorem dX2_bar_0 : decode cX2_bar 0 = .ok (.aload_n 0, 1) := by decide +kernel
theorem dX2_bar_1 : decode cX2_bar 1 = .ok (.aload_n 0, 1) := by decide +kernel
theorem dX2_bar_2 : decode cX2_bar 2 = .ok (.getfield 37, 3) := by decide +kernel
theorem dX2_bar_5 : decode cX2_bar 5 = .ok (.invokevirtual 129, 3) := by decide +kernel
theorem dX2_bar_8 : decode cX2_bar 8 = .ok (.ireturn, 1) := by decide +kernel
theorem dX2_end_0 : decode cX2_end 0 = .ok (.aload_n 0, 1) := by decide +kernel
theorem dX2_end_1 : decode cX2_end 1 = .ok (.getfield 30, 3) := by decide +kernel
theorem dX2_end_4 : decode cX2_end 4 = .ok (.aload_n 0, 1) := by decide +kernel
theorem dX2_end_5 : decode cX2_end 5 = .ok (.aload_n 0, 1) := by decide +kernel
theorem dX2_end_6 : decode cX2_end 6 = .ok (.getfield 37, 3) := by decide +kernel
theorem dX2_end_9 : decode cX2_end 9 = .ok (.invokevirtual 129, 3) := by decide +kernel
theorem dX2_end_12 : decode cX2_end 12 = .ok (.imul, 1) := by decide +kernel
theorem dX2_end_13 : decode cX2_end 13 = .ok (.ireturn, 1) := by decide +kernel
theorem dX2_place_0 : decode cX2_place 0 = .ok (.aload_n 0, 1) := by decide +kernel
theorem dX2_place_1 : decode cX2_place 1 = .ok (.iload_n 1, 1) := by decide +kernel
theorem dX2_place_2 : decode cX2_place 2 = .ok (.invokevirtual 90, 3) := by decide +kernel
theorem dX2_place_5 : decode cX2_place 5 = .ok (.astore_n 3, 1) := by decide +kernel
theorem dX2_place_6 : decode cX2_place 6 = .ok (.aload_n 0, 1) := by decide +kernel
theorem dX2_place_7 : decode cX2_place 7 = .ok (.aload_n 0, 1) := by decide +kernel
theorem dX2_place_8 : decode cX2_place 8 = .ok (.getfield 37, 3) := by decide +kernel
theorem dX2_place_11 : decode cX2_place 11 = .ok (.invokevirtual 129, 3) := by decide +kernel
theorem dX2_place_14 : decode cX2_place 14 = .ok (.istore 4, 2) := by decide +kernel
theorem dX2_place_16 : decode cX2_place 16 = .ok (.iload_n 2, 1) := by decide +kernel
theorem dX2_place_17 : decode cX2_place 17 = .ok (.iconst 0, 1) := by decide +kernel
theorem dX2_place_18 : decode cX2_place 18 = .ok (.aload_n 0, 1) := by decide +kernel
theorem dX2_place_19 : decode cX2_place 19 = .ok (.getfield 30, 3) := by decide +kernel
theorem dX2_place_22 : decode cX2_place 22 = .ok (.iload 4, 2) := by decide +kernel
theorem dX2_place_24 : decode cX2_place 24 = .ok (.imul, 1) := by decide +kernel
theorem dX2_place_25 : decode cX2_place 25 = .ok (.invokestatic 46, 3) := by decide +kernel
theorem dX2_place_28 : decode cX2_place 28 = .ok (.invokestatic 50, 3) := by decide +kernel
theorem dX2_place_31 : decode cX2_place 31 = .ok (.aload_n 3, 1) := by decide +kernel
theorem dX2_place_32 : decode cX2_place 32 = .ok (.invokevirtual 133, 3) := by decide +kernel
theorem dX2_place_35 : decode cX2_place 35 = .ok (.iconst 0, 1) := by decide +kernel
theorem dX2_place_36 : decode cX2_place 36 = .ok (.istore 5, 2) := by decide +kernel
theorem dX2_place_38 : decode cX2_place 38 = .ok (.iconst 0, 1) := by decide +kernel
theorem dX2_place_39 : decode cX2_place 39 = .ok (.istore 6, 2) := by decide +kernel
theorem dX2_place_41 : decode cX2_place 41 = .ok (.iload 6, 2) := by decide +kernel
theorem dX2_place_43 : decode cX2_place 43 = .ok (.aload_n 0, 1) := by decide +kernel
theorem dX2_place_44 : decode cX2_place 44 = .ok (.getfield 30, 3) := by decide +kernel
theorem dX2_place_47 : decode cX2_place 47 = .ok (.if_icmp .ge 52, 3) := by decide +kernel
theorem dX2_place_50 : decode cX2_place 50 = .ok (.iload 5, 2) := by decide +kernel
theorem dX2_place_52 : decode cX2_place 52 = .ok (.iload_n 2, 1) := by decide +kernel
theorem dX2_place_53 : decode cX2_place 53 = .ok (.if_icmp .ge 46, 3) := by decide +kernel
theorem dX2_place_56 : decode cX2_place 56 = .ok (.aload_n 3, 1) := by decide +kernel
theorem dX2_place_57 : decode cX2_place 57 = .ok (.iload 6, 2) := by decide +kernel
theorem dX2_place_59 : decode cX2_place 59 = .ok (.invokevirtual 136, 3) := by decide +kernel
theorem dX2_place_62 : decode cX2_place 62 = .ok (.iconst 0, 1) := by decide +kernel
theorem dX2_place_63 : decode cX2_place 63 = .ok (.istore 7, 2) := by decide +kernel
theorem dX2_place_65 : decode cX2_place 65 = .ok (.iload 7, 2) := by decide +kernel
theorem dX2_place_67 : decode cX2_place 67 = .ok (.iload 4, 2) := by decide +kernel
theorem dX2_place_69 : decode cX2_place 69 = .ok (.if_icmp .ge 24, 3) := by decide +kernel
theorem dX2_place_72 : decode cX2_place 72 = .ok (.iload 5, 2) := by decide +kernel
theorem dX2_place_74 : decode cX2_place 74 = .ok (.iload_n 2, 1) := by decide +kernel
theorem dX2_place_75 : decode cX2_place 75 = .ok (.if_icmp .ge 18, 3) := by decide +kernel
theorem dX2_place_78 : decode cX2_place 78 = .ok (.aload_n 3, 1) := by decide +kernel
theorem dX2_place_79 : decode cX2_place 79 = .ok (.iconst 1, 1) := by decide +kernel
theorem dX2_place_80 : decode cX2_place 80 = .ok (.invokevirtual 140, 3) := by decide +kernel
theorem dX2_place_83 : decode cX2_place 83 = .ok (.pop, 1) := by decide +kernel
theorem dX2_place_84 : decode cX2_place 84 = .ok (.iinc 5 1, 3) := by decide +kernel
theorem dX2_place_87 : decode cX2_place 87 = .ok (.iinc 7 1, 3) := by decide +kernel
theorem dX2_place_90 : decode cX2_place 90 = .ok (.goto (-25), 3) := by decide +kernel
theorem dX2_place_93 : decode cX2_place 93 = .ok (.iinc 6 1, 3) := by decide +kernel
theorem dX2_place_96 : decode cX2_place 96 = .ok (.goto (-55), 3) := by decide +kernel
theorem dX2_place_99 : decode cX2_place 99 = .ok (.aload_n 3, 1) := by decide +kernel
theorem dX2_place_100 : decode cX2_place 100 = .ok (.getfield 143, 3) := by decide +kernel
theorem dX2_place_103 : decode cX2_place 103 = .ok (.ireturn, 1) := by decide +kernel
theorem dX2_placeAtBar_0 : decode cX2_placeAtBar 0 = .ok (.aload_n 0, 1) := by decide +kernel
theorem dX2_placeAtBar_1 : decode cX2_placeAtBar 1 = .ok (.iload_n 1, 1) := by decide +kernel
theorem dX2_placeAtBar_2 : decode cX2_placeAtBar 2 = .ok (.invokevirtual 90, 3) := by decide +kernel
theorem dX2_placeAtBar_5 : decode cX2_placeAtBar 5 = .ok (.astore_n 3, 1) := by decide +kernel
theorem dX2_placeAtBar_6 : decode cX2_placeAtBar 6 = .ok (.iload_n 2, 1) := by decide +kernel
theorem dX2_placeAtBar_7 : decode cX2_placeAtBar 7 = .ok (.iconst 0, 1) := by decide +kernel
theorem dX2_placeAtBar_8 : decode cX2_placeAtBar 8 = .ok (.aload_n 0, 1) := by decide +kernel
theorem dX2_placeAtBar_9 : decode cX2_placeAtBar 9 = .ok (.getfield 30, 3) := by decide +kernel
theorem dX2_placeAtBar_12 : decode cX2_placeAtBar 12 = .ok (.invokestatic 46, 3) := by decide +kernel
theorem dX2_placeAtBar_15 : decode cX2_placeAtBar 15 = .ok (.invokestatic 50, 3) := by decide +kernel
theorem dX2_placeAtBar_18 : decode cX2_placeAtBar 18 = .ok (.aload_n 0, 1) := by decide +kernel
theorem dX2_placeAtBar_19 : decode cX2_placeAtBar 19 = .ok (.aload_n 0, 1) := by decide +kernel
theorem dX2_placeAtBar_20 : decode cX2_placeAtBar 20 = .ok (.getfield 37, 3) := by decide +kernel
theorem dX2_placeAtBar_23 : decode cX2_placeAtBar 23 = .ok (.invokevirtual 129, 3) := by decide +kernel
theorem dX2_placeAtBar_26 : decode cX2_placeAtBar 26 = .ok (.istore 4, 2) := by decide +kernel
theorem dX2_placeAtBar_28 : decode cX2_placeAtBar 28 = .ok (.aload_n 3, 1) := by decide +kernel
theorem dX2_placeAtBar_29 : decode cX2_placeAtBar 29 = .ok (.invokevirtual 133, 3) := by decide +kernel
theorem dX2_placeAtBar_32 : decode cX2_placeAtBar 32 = .ok (.iconst 0, 1) := by decide +kernel
theorem dX2_placeAtBar_33 : decode cX2_placeAtBar 33 = .ok (.istore 5, 2) := by decide +kernel
theorem dX2_placeAtBar_35 : decode cX2_placeAtBar 35 = .ok (.iload 5, 2) := by decide +kernel
theorem dX2_placeAtBar_37 : decode cX2_placeAtBar 37 = .ok (.iload_n 2, 1) := by decide +kernel
theorem dX2_placeAtBar_38 : decode cX2_placeAtBar 38 = .ok (.if_icmp .ge 22, 3) := by decide +kernel
theorem dX2_placeAtBar_41 : decode cX2_placeAtBar 41 = .ok (.aload_n 3, 1) := by decide +kernel
theorem dX2_placeAtBar_42 : decode cX2_placeAtBar 42 = .ok (.iload 5, 2) := by decide +kernel
theorem dX2_placeAtBar_44 : decode cX2_placeAtBar 44 = .ok (.invokevirtual 136, 3) := by decide +kernel
theorem dX2_placeAtBar_47 : decode cX2_placeAtBar 47 = .ok (.aload_n 3, 1) := by decide +kernel
theorem dX2_placeAtBar_48 : decode cX2_placeAtBar 48 = .ok (.iload 4, 2) := by decide +kernel
theorem dX2_placeAtBar_50 : decode cX2_placeAtBar 50 = .ok (.invokevirtual 140, 3) := by decide +kernel
theorem dX2_placeAtBar_53 : decode cX2_placeAtBar 53 = .ok (.pop, 1) := by decide +kernel
theorem dX2_placeAtBar_54 : decode cX2_placeAtBar 54 = .ok (.iinc 5 1, 3) := by decide +kernel
theorem dX2_placeAtBar_57 : decode cX2_placeAtBar 57 = .ok (.goto (-22), 3) := by decide +kernel
theorem dX2_placeAtBar_60 : decode cX2_placeAtBar 60 = .ok (.aload_n 3, 1) := by decide +kernel
theorem dX2_placeAtBar_61 : decode cX2_placeAtBar 61 = .ok (.getfield 143, 3) := by decide +kernel
theorem dX2_placeAtBar_64 : decode cX2_placeAtBar 64 = .ok (.ireturn, 1) := by decide +kernel
theorem dX2_meeting_0 : decode cX2_meeting 0 = .ok (.aload_n 0, 1) := by decide +kernel
theorem dX2_meeting_1 : decode cX2_meeting 1 = .ok (.aload_n 0, 1) := by decide +kernel
theorem dX2_meeting_2 : decode cX2_meeting 2 = .ok (.aload_n 0, 1) := by decide +kernel
theorem dX2_meeting_3 : decode cX2_meeting 3 = .ok (.getfield 37, 3) := by decide +kernel
theorem dX2_meeting_6 : decode cX2_meeting 6 = .ok (.invokevirtual 129, 3) := by decide +kernel
theorem dX2_meeting_9 : decode cX2_meeting 9 = .ok (.invokevirtual 146, 3) := by decide +kernel
theorem dX2_meeting_12 : decode cX2_meeting 12 = .ok (.ireturn, 1) := by decide +kernel
theorem dX2_meeters_0 : decode cX2_meeters 0 = .ok (.aload_n 0, 1) := by decide +kernel
theorem dX2_meeters_1 : decode cX2_meeters 1 = .ok (.aload_n 0, 1) := by decide +kernel
theorem dX2_meeters_2 : decode cX2_meeters 2 = .ok (.aload_n 0, 1) := by decide +kernel
theorem dX2_meeters_3 : decode cX2_meeters 3 = .ok (.getfield 37, 3) := by decide +kernel
theorem dX2_meeters_6 : decode cX2_meeters 6 = .ok (.invokevirtual 129, 3) := by decide +kernel
theorem dX2_meeters_9 : decode cX2_meeters 9 = .ok (.invokevirtual 146, 3) := by decide +kernel
theorem dX2_meeters_12 : decode cX2_meeters 12 = .ok (.iconst (-1), 1) := by decide +kernel
theorem dX2_meeters_13 : decode cX2_meeters 13 = .ok (.if_icmp .ne 7, 3) := by decide +kernel
theorem dX2_meeters_16 : decode cX2_meeters 16 = .ok (.iconst (-1), 1) := by decide +kernel
theorem dX2_meeters_17 : decode cX2_meeters 17 = .ok (.goto 7, 3) := by decide +kernel
theorem dX2_meeters_20 : decode cX2_meeters 20 = .ok (.aload_n 0, 1) := by decide +kernel
theorem dX2_meeters_21 : decode cX2_meeters 21 = .ok (.invokevirtual 149, 3) := by decide +kernel
theorem dX2_meeters_24 : decode cX2_meeters 24 = .ok (.ireturn, 1) := by decide +kernel
theorem dX2_worker_0 : decode cX2_worker 0 = .ok (.aload_n 0, 1) := by decide +kernel
theorem dX2_worker_1 : decode cX2_worker 1 = .ok (.aload_n 0, 1) := by decide +kernel
theorem dX2_worker_2 : decode cX2_worker 2 = .ok (.iload_n 1, 1) := by decide +kernel
theorem dX2_worker_3 : decode cX2_worker 3 = .ok (.invokevirtual 117, 3) := by decide +kernel
theorem dX2_worker_6 : decode cX2_worker 6 = .ok (.invokevirtual 152, 3) := by decide +kernel
theorem dX2_worker_9 : decode cX2_worker 9 = .ok (.ireturn, 1) := by decide +kernel
theorem dX2_takes_0 : decode cX2_takes 0 = .ok (.aload_n 0, 1) := by decide +kernel
theorem dX2_takes_1 : decode cX2_takes 1 = .ok (.iload_n 1, 1) := by decide +kernel
theorem dX2_takes_2 : decode cX2_takes 2 = .ok (.invokevirtual 117, 3) := by decide +kernel
theorem dX2_takes_5 : decode cX2_takes 5 = .ok (.astore_n 2, 1) := by decide +kernel
theorem dX2_takes_6 : decode cX2_takes 6 = .ok (.aload_n 0, 1) := by decide +kernel
theorem dX2_takes_7 : decode cX2_takes 7 = .ok (.aload_n 0, 1) := by decide +kernel
theorem dX2_takes_8 : decode cX2_takes 8 = .ok (.aload_n 0, 1) := by decide +kernel
theorem dX2_takes_9 : decode cX2_takes 9 = .ok (.getfield 37, 3) := by decide +kernel
theorem dX2_takes_12 : decode cX2_takes 12 = .ok (.invokevirtual 129, 3) := by decide +kernel
theorem dX2_takes_15 : decode cX2_takes 15 = .ok (.invokevirtual 156, 3) := by decide +kernel
theorem dX2_takes_18 : decode cX2_takes 18 = .ok (.aload_n 2, 1) := by decide +kernel
theorem dX2_takes_19 : decode cX2_takes 19 = .ok (.getfield 159, 3) := by decide +kernel
theorem dX2_takes_22 : decode cX2_takes 22 = .ok (.ireturn, 1) := by decide +kernel
theorem dX2_clashes_0 : decode cX2_clashes 0 = .ok (.iload_n 1, 1) := by decide +kernel
theorem dX2_clashes_1 : decode cX2_clashes 1 = .ok (.invokestatic 97, 3) := by decide +kernel
theorem dX2_clashes_4 : decode cX2_clashes 4 = .ok (.invokestatic 50, 3) := by decide +kernel
theorem dX2_clashes_7 : decode cX2_clashes 7 = .ok (.aload_n 0, 1) := by decide +kernel
theorem dX2_clashes_8 : decode cX2_clashes 8 = .ok (.aload_n 0, 1) := by decide +kernel
theorem dX2_clashes_9 : decode cX2_clashes 9 = .ok (.getfield 37, 3) := by decide +kernel
theorem dX2_clashes_12 : decode cX2_clashes 12 = .ok (.invokevirtual 129, 3) := by decide +kernel
theorem dX2_clashes_15 : decode cX2_clashes 15 = .ok (.istore_n 2, 1) := by decide +kernel
theorem dX2_clashes_16 : decode cX2_clashes 16 = .ok (.aload_n 0, 1) := by decide +kernel
theorem dX2_clashes_17 : decode cX2_clashes 17 = .ok (.iload_n 2, 1) := by decide +kernel
theorem dX2_clashes_18 : decode cX2_clashes 18 = .ok (.invokevirtual 156, 3) := by decide +kernel
theorem dX2_clashes_21 : decode cX2_clashes 21 = .ok (.aload_n 0, 1) := by decide +kernel
theorem dX2_clashes_22 : decode cX2_clashes 22 = .ok (.iload_n 1, 1) := by decide +kernel
theorem dX2_clashes_23 : decode cX2_clashes 23 = .ok (.iload_n 2, 1) := by decide +kernel
theorem dX2_clashes_24 : decode cX2_clashes 24 = .ok (.invokevirtual 162, 3) := by decide +kernel
theorem dX2_clashes_27 : decode cX2_clashes 27 = .ok (.ireturn, 1) := by decide +kernel
theorem dX2_overtime_0 : decode cX2_overtime 0 = .ok (.iload_n 1, 1) := by decide +kernel
theorem dX2_overtime_1 : decode cX2_overtime 1 = .ok (.invokestatic 97, 3) := by decide +kernel
theorem dX2_overtime_4 : decode cX2_overtime 4 = .ok (.invokestatic 50, 3) := by decide +kernel
theorem dX2_overtime_7 : decode cX2_overtime 7 = .ok (.aload_n 0, 1) := by decide +kernel
theorem dX2_overtime_8 : decode cX2_overtime 8 = .ok (.aload_n 0, 1) := by decide +kernel
theorem dX2_overtime_9 : decode cX2_overtime 9 = .ok (.getfield 37, 3) := by decide +kernel
theorem dX2_overtime_12 : decode cX2_overtime 12 = .ok (.invokevirtual 129, 3) := by decide +kernel
theorem dX2_overtime_15 : decode cX2_overtime 15 = .ok (.istore_n 2, 1) := by decide +kernel
theorem dX2_overtime_16 : decode cX2_overtime 16 = .ok (.aload_n 0, 1) := by decide +kernel
theorem dX2_overtime_17 : decode cX2_overtime 17 = .ok (.iload_n 2, 1) := by decide +kernel
theorem dX2_overtime_18 : decode cX2_overtime 18 = .ok (.invokevirtual 156, 3) := by decide +kernel
theorem dX2_overtime_21 : decode cX2_overtime 21 = .ok (.iconst 0, 1) := by decide +kernel
theorem dX2_overtime_22 : decode cX2_overtime 22 = .ok (.istore_n 3, 1) := by decide +kernel
theorem dX2_overtime_23 : decode cX2_overtime 23 = .ok (.aload_n 0, 1) := by decide +kernel
theorem dX2_overtime_24 : decode cX2_overtime 24 = .ok (.getfield 43, 3) := by decide +kernel
theorem dX2_overtime_27 : decode cX2_overtime 27 = .ok (.istore 4, 2) := by decide +kernel
theorem dX2_overtime_29 : decode cX2_overtime 29 = .ok (.iconst 0, 1) := by decide +kernel
theorem dX2_overtime_30 : decode cX2_overtime 30 = .ok (.istore 5, 2) := by decide +kernel
theorem dX2_overtime_32 : decode cX2_overtime 32 = .ok (.iload 5, 2) := by decide +kernel
theorem dX2_overtime_34 : decode cX2_overtime 34 = .ok (.aload_n 0, 1) := by decide +kernel
theorem dX2_overtime_35 : decode cX2_overtime 35 = .ok (.getfield 19, 3) := by decide +kernel
theorem dX2_overtime_38 : decode cX2_overtime 38 = .ok (.invokevirtual 66, 3) := by decide +kernel
theorem dX2_overtime_41 : decode cX2_overtime 41 = .ok (.if_icmp .ge 86, 3) := by decide +kernel
theorem dX2_overtime_44 : decode cX2_overtime 44 = .ok (.aload_n 0, 1) := by decide +kernel
theorem dX2_overtime_45 : decode cX2_overtime 45 = .ok (.getfield 19, 3) := by decide +kernel
theorem dX2_overtime_48 : decode cX2_overtime 48 = .ok (.iload 5, 2) := by decide +kernel
theorem dX2_overtime_50 : decode cX2_overtime 50 = .ok (.invokevirtual 70, 3) := by decide +kernel
theorem dX2_overtime_53 : decode cX2_overtime 53 = .ok (.checkcast 74, 3) := by decide +kernel
theorem dX2_overtime_56 : decode cX2_overtime 56 = .ok (.astore 6, 2) := by decide +kernel
theorem dX2_overtime_58 : decode cX2_overtime 58 = .ok (.aload 6, 2) := by decide +kernel
theorem dX2_overtime_60 : decode cX2_overtime 60 = .ok (.getfield 159, 3) := by decide +kernel
theorem dX2_overtime_63 : decode cX2_overtime 63 = .ok (.ifCond .le 58, 3) := by decide +kernel
theorem dX2_overtime_66 : decode cX2_overtime 66 = .ok (.aload_n 0, 1) := by decide +kernel
theorem dX2_overtime_67 : decode cX2_overtime 67 = .ok (.aload 6, 2) := by decide +kernel
theorem dX2_overtime_69 : decode cX2_overtime 69 = .ok (.invokevirtual 152, 3) := by decide +kernel
theorem dX2_overtime_72 : decode cX2_overtime 72 = .ok (.iload_n 1, 1) := by decide +kernel
theorem dX2_overtime_73 : decode cX2_overtime 73 = .ok (.if_icmp .ne 48, 3) := by decide +kernel
theorem dX2_overtime_76 : decode cX2_overtime 76 = .ok (.aload 6, 2) := by decide +kernel
theorem dX2_overtime_78 : decode cX2_overtime 78 = .ok (.getfield 80, 3) := by decide +kernel
theorem dX2_overtime_81 : decode cX2_overtime 81 = .ok (.iload_n 2, 1) := by decide +kernel
theorem dX2_overtime_82 : decode cX2_overtime 82 = .ok (.imul, 1) := by decide +kernel
theorem dX2_overtime_83 : decode cX2_overtime 83 = .ok (.istore 7, 2) := by decide +kernel
theorem dX2_overtime_85 : decode cX2_overtime 85 = .ok (.iload 7, 2) := by decide +kernel
theorem dX2_overtime_87 : decode cX2_overtime 87 = .ok (.aload 6, 2) := by decide +kernel
theorem dX2_overtime_89 : decode cX2_overtime 89 = .ok (.getfield 159, 3) := by decide +kernel
theorem dX2_overtime_92 : decode cX2_overtime 92 = .ok (.iadd, 1) := by decide +kernel
theorem dX2_overtime_93 : decode cX2_overtime 93 = .ok (.istore 8, 2) := by decide +kernel
theorem dX2_overtime_95 : decode cX2_overtime 95 = .ok (.iload_n 3, 1) := by decide +kernel
theorem dX2_overtime_96 : decode cX2_overtime 96 = .ok (.iconst 0, 1) := by decide +kernel
theorem dX2_overtime_97 : decode cX2_overtime 97 = .ok (.iload 8, 2) := by decide +kernel
theorem dX2_overtime_99 : decode cX2_overtime 99 = .ok (.iload 4, 2) := by decide +kernel
theorem dX2_overtime_101 : decode cX2_overtime 101 = .ok (.iload 7, 2) := by decide +kernel
theorem dX2_overtime_103 : decode cX2_overtime 103 = .ok (.invokestatic 166, 3) := by decide +kernel
theorem dX2_overtime_106 : decode cX2_overtime 106 = .ok (.isub, 1) := by decide +kernel
theorem dX2_overtime_107 : decode cX2_overtime 107 = .ok (.invokestatic 166, 3) := by decide +kernel
theorem dX2_overtime_110 : decode cX2_overtime 110 = .ok (.iadd, 1) := by decide +kernel
theorem dX2_overtime_111 : decode cX2_overtime 111 = .ok (.istore_n 3, 1) := by decide +kernel
theorem dX2_overtime_112 : decode cX2_overtime 112 = .ok (.iload 4, 2) := by decide +kernel
theorem dX2_overtime_114 : decode cX2_overtime 114 = .ok (.iload 8, 2) := by decide +kernel
theorem dX2_overtime_116 : decode cX2_overtime 116 = .ok (.invokestatic 166, 3) := by decide +kernel
theorem dX2_overtime_119 : decode cX2_overtime 119 = .ok (.istore 4, 2) := by decide +kernel
theorem dX2_overtime_121 : decode cX2_overtime 121 = .ok (.iinc 5 1, 3) := by decide +kernel
theorem dX2_overtime_124 : decode cX2_overtime 124 = .ok (.goto (-92), 3) := by decide +kernel
theorem dX2_overtime_127 : decode cX2_overtime 127 = .ok (.iload_n 3, 1) := by decide +kernel
theorem dX2_overtime_128 : decode cX2_overtime 128 = .ok (.ireturn, 1) := by decide +kernel
theorem dX2_isFine_0 : decode cX2_isFine 0 = .ok (.aload_n 0, 1) := by decide +kernel
theorem dX2_isFine_1 : decode cX2_isFine 1 = .ok (.aload_n 0, 1) := by decide +kernel
theorem dX2_isFine_2 : decode cX2_isFine 2 = .ok (.getfield 37, 3) := by decide +kernel
theorem dX2_isFine_5 : decode cX2_isFine 5 = .ok (.invokevirtual 171, 3) := by decide +kernel
theorem dX2_isFine_8 : decode cX2_isFine 8 = .ok (.ireturn, 1) := by decide +kernel
theorem dX2_fastest_0 : decode cX2_fastest 0 = .ok (.sipush 200, 3) := by decide +kernel
theorem dX2_fastest_3 : decode cX2_fastest 3 = .ok (.istore_n 1, 1) := by decide +kernel
theorem dX2_fastest_4 : decode cX2_fastest 4 = .ok (.iload_n 1, 1) := by decide +kernel
theorem dX2_fastest_5 : decode cX2_fastest 5 = .ok (.bipush 50, 2) := by decide +kernel
theorem dX2_fastest_7 : decode cX2_fastest 7 = .ok (.if_icmp .lt 19, 3) := by decide +kernel
theorem dX2_fastest_10 : decode cX2_fastest 10 = .ok (.aload_n 0, 1) := by decide +kernel
theorem dX2_fastest_11 : decode cX2_fastest 11 = .ok (.iload_n 1, 1) := by decide +kernel
theorem dX2_fastest_12 : decode cX2_fastest 12 = .ok (.invokevirtual 171, 3) := by decide +kernel
theorem dX2_fastest_15 : decode cX2_fastest 15 = .ok (.ifCond .eq 5, 3) := by decide +kernel
theorem dX2_fastest_18 : decode cX2_fastest 18 = .ok (.iload_n 1, 1) := by decide +kernel
theorem dX2_fastest_19 : decode cX2_fastest 19 = .ok (.ireturn, 1) := by decide +kernel
theorem dX2_fastest_20 : decode cX2_fastest 20 = .ok (.iinc 1 (-10), 3) := by decide +kernel
theorem dX2_fastest_23 : decode cX2_fastest 23 = .ok (.goto (-19), 3) := by decide +kernel
theorem dX2_fastest_26 : decode cX2_fastest 26 = .ok (.iconst (-1), 1) := by decide +kernel
theorem dX2_fastest_27 : decode cX2_fastest 27 = .ok (.ireturn, 1) := by decide +kernel
theorem dX2_within_0 : decode cX2_within 0 = .ok (.iload_n 0, 1) := by decide +kernel
theorem dX2_within_1 : decode cX2_within 1 = .ok (.iload_n 1, 1) := by decide +kernel
theorem dX2_within_2 : decode cX2_within 2 = .ok (.if_icmp .lt 12, 3) := by decide +kernel
theorem dX2_within_5 : decode cX2_within 5 = .ok (.iload_n 0, 1) := by decide +kernel
theorem dX2_within_6 : decode cX2_within 6 = .ok (.iload_n 2, 1) := by decide +kernel
theorem dX2_within_7 : decode cX2_within 7 = .ok (.if_icmp .gt 7, 3) := by decide +kernel
theorem dX2_within_10 : decode cX2_within 10 = .ok (.iconst 1, 1) := by decide +kernel
theorem dX2_within_11 : decode cX2_within 11 = .ok (.goto 4, 3) := by decide +kernel
theorem dX2_within_14 : decode cX2_within 14 = .ok (.iconst 0, 1) := by decide +kernel
theorem dX2_within_15 : decode cX2_within 15 = .ok (.ireturn, 1) := by decide +kernel
theorem dX2_isWorker_0 : decode cX2_isWorker 0 = .ok (.iload_n 0, 1) := by decide +kernel
theorem dX2_isWorker_1 : decode cX2_isWorker 1 = .ok (.iconst 0, 1) := by decide +kernel
theorem dX2_isWorker_2 : decode cX2_isWorker 2 = .ok (.iconst 5, 1) := by decide +kernel
theorem dX2_isWorker_3 : decode cX2_isWorker 3 = .ok (.invokestatic 46, 3) := by decide +kernel
theorem dX2_isWorker_6 : decode cX2_isWorker 6 = .ok (.ireturn, 1) := by decide +kernel
theorem dX2_allow_0 : decode cX2_allow 0 = .ok (.iload_n 0, 1) := by decide +kernel
theorem dX2_allow_1 : decode cX2_allow 1 = .ok (.ifCond .ne 13, 3) := by decide +kernel
theorem dX2_allow_4 : decode cX2_allow 4 = .ok (.new 174, 3) := by decide +kernel
theorem dX2_allow_7 : decode cX2_allow 7 = .ok (.dup, 1) := by decide +kernel
theorem dX2_allow_8 : decode cX2_allow 8 = .ok (.ldc 176, 2) := by decide +kernel
theorem dX2_allow_10 : decode cX2_allow 10 = .ok (.invokespecial 178, 3) := by decide +kernel
theorem dX2_allow_13 : decode cX2_allow 13 = .ok (.athrow, 1) := by decide +kernel
theorem dX2_allow_14 : decode cX2_allow 14 = .ok (.return_, 1) := by decide +kernel
theorem dX2_machineNumbered_0 : decode cX2_machineNumbered 0 = .ok (.iload_n 1, 1) := by decide +kernel
theorem dX2_machineNumbered_1 : decode cX2_machineNumbered 1 = .ok (.ifCond .lt 14, 3) := by decide +kernel
theorem dX2_machineNumbered_4 : decode cX2_machineNumbered 4 = .ok (.iload_n 1, 1) := by decide +kernel
theorem dX2_machineNumbered_5 : decode cX2_machineNumbered 5 = .ok (.aload_n 0, 1) := by decide +kernel
theorem dX2_machineNumbered_6 : decode cX2_machineNumbered 6 = .ok (.getfield 10, 3) := by decide +kernel
theorem dX2_machineNumbered_9 : decode cX2_machineNumbered 9 = .ok (.invokevirtual 66, 3) := by decide +kernel
theorem dX2_machineNumbered_12 : decode cX2_machineNumbered 12 = .ok (.if_icmp .lt 13, 3) := by decide +kernel
theorem dX2_machineNumbered_15 : decode cX2_machineNumbered 15 = .ok (.new 179, 3) := by decide +kernel
theorem dX2_machineNumbered_18 : decode cX2_machineNumbered 18 = .ok (.dup, 1) := by decide +kernel
theorem dX2_machineNumbered_19 : decode cX2_machineNumbered 19 = .ok (.ldc 181, 2) := by decide +kernel
theorem dX2_machineNumbered_21 : decode cX2_machineNumbered 21 = .ok (.invokespecial 183, 3) := by decide +kernel
theorem dX2_machineNumbered_24 : decode cX2_machineNumbered 24 = .ok (.athrow, 1) := by decide +kernel
theorem dX2_machineNumbered_25 : decode cX2_machineNumbered 25 = .ok (.aload_n 0, 1) := by decide +kernel
theorem dX2_machineNumbered_26 : decode cX2_machineNumbered 26 = .ok (.getfield 10, 3) := by decide +kernel
theorem dX2_machineNumbered_29 : decode cX2_machineNumbered 29 = .ok (.iload_n 1, 1) := by decide +kernel
theorem dX2_machineNumbered_30 : decode cX2_machineNumbered 30 = .ok (.invokevirtual 70, 3) := by decide +kernel
theorem dX2_machineNumbered_33 : decode cX2_machineNumbered 33 = .ok (.checkcast 57, 3) := by decide +kernel
theorem dX2_machineNumbered_36 : decode cX2_machineNumbered 36 = .ok (.areturn, 1) := by decide +kernel
theorem dX2_cueNumbered_0 : decode cX2_cueNumbered 0 = .ok (.iload_n 1, 1) := by decide +kernel
theorem dX2_cueNumbered_1 : decode cX2_cueNumbered 1 = .ok (.ifCond .lt 31, 3) := by decide +kernel
theorem dX2_cueNumbered_4 : decode cX2_cueNumbered 4 = .ok (.iload_n 1, 1) := by decide +kernel
theorem dX2_cueNumbered_5 : decode cX2_cueNumbered 5 = .ok (.aload_n 0, 1) := by decide +kernel
theorem dX2_cueNumbered_6 : decode cX2_cueNumbered 6 = .ok (.getfield 16, 3) := by decide +kernel
theorem dX2_cueNumbered_9 : decode cX2_cueNumbered 9 = .ok (.invokevirtual 66, 3) := by decide +kernel
theorem dX2_cueNumbered_12 : decode cX2_cueNumbered 12 = .ok (.if_icmp .ge 20, 3) := by decide +kernel
theorem dX2_cueNumbered_15 : decode cX2_cueNumbered 15 = .ok (.aload_n 0, 1) := by decide +kernel
theorem dX2_cueNumbered_16 : decode cX2_cueNumbered 16 = .ok (.getfield 16, 3) := by decide +kernel
theorem dX2_cueNumbered_19 : decode cX2_cueNumbered 19 = .ok (.iload_n 1, 1) := by decide +kernel
theorem dX2_cueNumbered_20 : decode cX2_cueNumbered 20 = .ok (.invokevirtual 70, 3) := by decide +kernel
theorem dX2_cueNumbered_23 : decode cX2_cueNumbered 23 = .ok (.checkcast 74, 3) := by decide +kernel
theorem dX2_cueNumbered_26 : decode cX2_cueNumbered 26 = .ok (.getfield 76, 3) := by decide +kernel
theorem dX2_cueNumbered_29 : decode cX2_cueNumbered 29 = .ok (.ifCond .eq 13, 3) := by decide +kernel
theorem dX2_cueNumbered_32 : decode cX2_cueNumbered 32 = .ok (.new 179, 3) := by decide +kernel
theorem dX2_cueNumbered_35 : decode cX2_cueNumbered 35 = .ok (.dup, 1) := by decide +kernel
theorem dX2_cueNumbered_36 : decode cX2_cueNumbered 36 = .ok (.ldc 184, 2) := by decide +kernel
theorem dX2_cueNumbered_38 : decode cX2_cueNumbered 38 = .ok (.invokespecial 183, 3) := by decide +kernel
theorem dX2_cueNumbered_41 : decode cX2_cueNumbered 41 = .ok (.athrow, 1) := by decide +kernel
theorem dX2_cueNumbered_42 : decode cX2_cueNumbered 42 = .ok (.aload_n 0, 1) := by decide +kernel
theorem dX2_cueNumbered_43 : decode cX2_cueNumbered 43 = .ok (.getfield 16, 3) := by decide +kernel
theorem dX2_cueNumbered_46 : decode cX2_cueNumbered 46 = .ok (.iload_n 1, 1) := by decide +kernel
theorem dX2_cueNumbered_47 : decode cX2_cueNumbered 47 = .ok (.invokevirtual 70, 3) := by decide +kernel
theorem dX2_cueNumbered_50 : decode cX2_cueNumbered 50 = .ok (.checkcast 74, 3) := by decide +kernel
theorem dX2_cueNumbered_53 : decode cX2_cueNumbered 53 = .ok (.areturn, 1) := by decide +kernel
theorem dX2_needRoomForMachine_0 : decode cX2_needRoomForMachine 0 = .ok (.aload_n 0, 1) := by decide +kernel
theorem dX2_needRoomForMachine_1 : decode cX2_needRoomForMachine 1 = .ok (.getfield 10, 3) := by decide +kernel
theorem dX2_needRoomForMachine_4 : decode cX2_needRoomForMachine 4 = .ok (.invokevirtual 66, 3) := by decide +kernel
theorem dX2_needRoomForMachine_7 : decode cX2_needRoomForMachine 7 = .ok (.bipush 6, 2) := by decide +kernel
theorem dX2_needRoomForMachine_9 : decode cX2_needRoomForMachine 9 = .ok (.if_icmp .lt 13, 3) := by decide +kernel
theorem dX2_needRoomForMachine_12 : decode cX2_needRoomForMachine 12 = .ok (.new 83, 3) := by decide +kernel
theorem dX2_needRoomForMachine_15 : decode cX2_needRoomForMachine 15 = .ok (.dup, 1) := by decide +kernel
theorem dX2_needRoomForMachine_16 : decode cX2_needRoomForMachine 16 = .ok (.ldc 186, 2) := by decide +kernel
theorem dX2_needRoomForMachine_18 : decode cX2_needRoomForMachine 18 = .ok (.invokespecial 87, 3) := by decide +kernel
theorem dX2_needRoomForMachine_21 : decode cX2_needRoomForMachine 21 = .ok (.athrow, 1) := by decide +kernel
theorem dX2_needRoomForMachine_22 : decode cX2_needRoomForMachine 22 = .ok (.return_, 1) := by decide +kernel
theorem dX2_add_0 : decode cX2_add 0 = .ok (.aload_n 0, 1) := by decide +kernel
theorem dX2_add_1 : decode cX2_add 1 = .ok (.getfield 10, 3) := by decide +kernel
theorem dX2_add_4 : decode cX2_add 4 = .ok (.aload_n 1, 1) := by decide +kernel
theorem dX2_add_5 : decode cX2_add 5 = .ok (.invokevirtual 106, 3) := by decide +kernel
theorem dX2_add_8 : decode cX2_add 8 = .ok (.pop, 1) := by decide +kernel
theorem dX2_add_9 : decode cX2_add 9 = .ok (.aload_n 0, 1) := by decide +kernel
theorem dX2_add_10 : decode cX2_add 10 = .ok (.getfield 10, 3) := by decide +kernel
theorem dX2_add_13 : decode cX2_add 13 = .ok (.invokevirtual 66, 3) := by decide +kernel
theorem dX2_add_16 : decode cX2_add 16 = .ok (.iconst 1, 1) := by decide +kernel
theorem dX2_add_17 : decode cX2_add 17 = .ok (.isub, 1) := by decide +kernel
theorem dX2_add_18 : decode cX2_add 18 = .ok (.ireturn, 1) := by decide +kernel
theorem dX2_insertByBar_0 : decode cX2_insertByBar 0 = .ok (.aload_n 0, 1) := by decide +kernel
theorem dX2_insertByBar_1 : decode cX2_insertByBar 1 = .ok (.getfield 19, 3) := by decide +kernel
theorem dX2_insertByBar_4 : decode cX2_insertByBar 4 = .ok (.invokevirtual 66, 3) := by decide +kernel
theorem dX2_insertByBar_7 : decode cX2_insertByBar 7 = .ok (.istore_n 2, 1) := by decide +kernel
theorem dX2_insertByBar_8 : decode cX2_insertByBar 8 = .ok (.iload_n 2, 1) := by decide +kernel
theorem dX2_insertByBar_9 : decode cX2_insertByBar 9 = .ok (.ifCond .le 32, 3) := by decide +kernel
theorem dX2_insertByBar_12 : decode cX2_insertByBar 12 = .ok (.aload_n 0, 1) := by decide +kernel
theorem dX2_insertByBar_13 : decode cX2_insertByBar 13 = .ok (.getfield 19, 3) := by decide +kernel
theorem dX2_insertByBar_16 : decode cX2_insertByBar 16 = .ok (.iload_n 2, 1) := by decide +kernel
theorem dX2_insertByBar_17 : decode cX2_insertByBar 17 = .ok (.iconst 1, 1) := by decide +kernel
theorem dX2_insertByBar_18 : decode cX2_insertByBar 18 = .ok (.isub, 1) := by decide +kernel
theorem dX2_insertByBar_19 : decode cX2_insertByBar 19 = .ok (.invokevirtual 70, 3) := by decide +kernel
theorem dX2_insertByBar_22 : decode cX2_insertByBar 22 = .ok (.checkcast 74, 3) := by decide +kernel
theorem dX2_insertByBar_25 : decode cX2_insertByBar 25 = .ok (.getfield 80, 3) := by decide +kernel
theorem dX2_insertByBar_28 : decode cX2_insertByBar 28 = .ok (.aload_n 1, 1) := by decide +kernel
theorem dX2_insertByBar_29 : decode cX2_insertByBar 29 = .ok (.getfield 80, 3) := by decide +kernel
theorem dX2_insertByBar_32 : decode cX2_insertByBar 32 = .ok (.if_icmp .le 9, 3) := by decide +kernel
theorem dX2_insertByBar_35 : decode cX2_insertByBar 35 = .ok (.iinc 2 (-1), 3) := by decide +kernel
theorem dX2_insertByBar_38 : decode cX2_insertByBar 38 = .ok (.goto (-30), 3) := by decide +kernel
theorem dX2_insertByBar_41 : decode cX2_insertByBar 41 = .ok (.aload_n 0, 1) := by decide +kernel
theorem dX2_insertByBar_42 : decode cX2_insertByBar 42 = .ok (.getfield 19, 3) := by decide +kernel
theorem dX2_insertByBar_45 : decode cX2_insertByBar 45 = .ok (.iload_n 2, 1) := by decide +kernel
theorem dX2_insertByBar_46 : decode cX2_insertByBar 46 = .ok (.aload_n 1, 1) := by decide +kernel
theorem dX2_insertByBar_47 : decode cX2_insertByBar 47 = .ok (.invokevirtual 188, 3) := by decide +kernel
theorem dX2_insertByBar_50 : decode cX2_insertByBar 50 = .ok (.return_, 1) := by decide +kernel
theorem dX2_highestCue_0 : decode cX2_highestCue 0 = .ok (.aload_n 0, 1) := by decide +kernel
theorem dX2_highestCue_1 : decode cX2_highestCue 1 = .ok (.getfield 16, 3) := by decide +kernel
theorem dX2_highestCue_4 : decode cX2_highestCue 4 = .ok (.invokevirtual 66, 3) := by decide +kernel
theorem dX2_highestCue_7 : decode cX2_highestCue 7 = .ok (.iconst 1, 1) := by decide +kernel
theorem dX2_highestCue_8 : decode cX2_highestCue 8 = .ok (.isub, 1) := by decide +kernel
theorem dX2_highestCue_9 : decode cX2_highestCue 9 = .ok (.istore_n 3, 1) := by decide +kernel
theorem dX2_highestCue_10 : decode cX2_highestCue 10 = .ok (.iload_n 3, 1) := by decide +kernel
theorem dX2_highestCue_11 : decode cX2_highestCue 11 = .ok (.ifCond .lt 51, 3) := by decide +kernel
theorem dX2_highestCue_14 : decode cX2_highestCue 14 = .ok (.aload_n 0, 1) := by decide +kernel
theorem dX2_highestCue_15 : decode cX2_highestCue 15 = .ok (.getfield 16, 3) := by decide +kernel
theorem dX2_highestCue_18 : decode cX2_highestCue 18 = .ok (.iload_n 3, 1) := by decide +kernel
theorem dX2_highestCue_19 : decode cX2_highestCue 19 = .ok (.invokevirtual 70, 3) := by decide +kernel
theorem dX2_highestCue_22 : decode cX2_highestCue 22 = .ok (.checkcast 74, 3) := by decide +kernel
theorem dX2_highestCue_25 : decode cX2_highestCue 25 = .ok (.astore 4, 2) := by decide +kernel
theorem dX2_highestCue_27 : decode cX2_highestCue 27 = .ok (.aload 4, 2) := by decide +kernel
theorem dX2_highestCue_29 : decode cX2_highestCue 29 = .ok (.getfield 76, 3) := by decide +kernel
theorem dX2_highestCue_32 : decode cX2_highestCue 32 = .ok (.ifCond .ne 24, 3) := by decide +kernel
theorem dX2_highestCue_35 : decode cX2_highestCue 35 = .ok (.aload 4, 2) := by decide +kernel
theorem dX2_highestCue_37 : decode cX2_highestCue 37 = .ok (.getfield 121, 3) := by decide +kernel
theorem dX2_highestCue_40 : decode cX2_highestCue 40 = .ok (.aload_n 1, 1) := by decide +kernel
theorem dX2_highestCue_41 : decode cX2_highestCue 41 = .ok (.if_acmp .ne 15, 3) := by decide +kernel
theorem dX2_highestCue_44 : decode cX2_highestCue 44 = .ok (.aload 4, 2) := by decide +kernel
theorem dX2_highestCue_46 : decode cX2_highestCue 46 = .ok (.getfield 80, 3) := by decide +kernel
theorem dX2_highestCue_49 : decode cX2_highestCue 49 = .ok (.iload_n 2, 1) := by decide +kernel
theorem dX2_highestCue_50 : decode cX2_highestCue 50 = .ok (.if_icmp .ne 6, 3) := by decide +kernel
theorem dX2_highestCue_53 : decode cX2_highestCue 53 = .ok (.aload 4, 2) := by decide +kernel
theorem dX2_highestCue_55 : decode cX2_highestCue 55 = .ok (.areturn, 1) := by decide +kernel
theorem dX2_highestCue_56 : decode cX2_highestCue 56 = .ok (.iinc 3 (-1), 3) := by decide +kernel
theorem dX2_highestCue_59 : decode cX2_highestCue 59 = .ok (.goto (-49), 3) := by decide +kernel
theorem dX2_highestCue_62 : decode cX2_highestCue 62 = .ok (.aconst_null, 1) := by decide +kernel
theorem dX2_highestCue_63 : decode cX2_highestCue 63 = .ok (.areturn, 1) := by decide +kernel
theorem dX2_barTicks_0 : decode cX2_barTicks 0 = .ok (.iload_n 1, 1) := by decide +kernel
theorem dX2_barTicks_1 : decode cX2_barTicks 1 = .ok (.iconst 1, 1) := by decide +kernel
theorem dX2_barTicks_2 : decode cX2_barTicks 2 = .ok (.if_icmp .ge 7, 3) := by decide +kernel
theorem dX2_barTicks_5 : decode cX2_barTicks 5 = .ok (.iconst 1, 1) := by decide +kernel
theorem dX2_barTicks_6 : decode cX2_barTicks 6 = .ok (.goto 16, 3) := by decide +kernel
theorem dX2_barTicks_9 : decode cX2_barTicks 9 = .ok (.iconst 1, 1) := by decide +kernel
theorem dX2_barTicks_10 : decode cX2_barTicks 10 = .ok (.aload_n 0, 1) := by decide +kernel
theorem dX2_barTicks_11 : decode cX2_barTicks 11 = .ok (.getfield 34, 3) := by decide +kernel
theorem dX2_barTicks_14 : decode cX2_barTicks 14 = .ok (.bipush 100, 2) := by decide +kernel
theorem dX2_barTicks_16 : decode cX2_barTicks 16 = .ok (.imul, 1) := by decide +kernel
theorem dX2_barTicks_17 : decode cX2_barTicks 17 = .ok (.iload_n 1, 1) := by decide +kernel
theorem dX2_barTicks_18 : decode cX2_barTicks 18 = .ok (.idiv, 1) := by decide +kernel
theorem dX2_barTicks_19 : decode cX2_barTicks 19 = .ok (.invokestatic 166, 3) := by decide +kernel
theorem dX2_barTicks_22 : decode cX2_barTicks 22 = .ok (.ireturn, 1) := by decide +kernel
theorem dX2_rewindAll_0 : decode cX2_rewindAll 0 = .ok (.iconst 0, 1) := by decide +kernel
theorem dX2_rewindAll_1 : decode cX2_rewindAll 1 = .ok (.istore_n 1, 1) := by decide +kernel
theorem dX2_rewindAll_2 : decode cX2_rewindAll 2 = .ok (.iload_n 1, 1) := by decide +kernel
theorem dX2_rewindAll_3 : decode cX2_rewindAll 3 = .ok (.aload_n 0, 1) := by decide +kernel
theorem dX2_rewindAll_4 : decode cX2_rewindAll 4 = .ok (.getfield 10, 3) := by decide +kernel
theorem dX2_rewindAll_7 : decode cX2_rewindAll 7 = .ok (.invokevirtual 66, 3) := by decide +kernel
theorem dX2_rewindAll_10 : decode cX2_rewindAll 10 = .ok (.if_icmp .ge 23, 3) := by decide +kernel
theorem dX2_rewindAll_13 : decode cX2_rewindAll 13 = .ok (.aload_n 0, 1) := by decide +kernel
theorem dX2_rewindAll_14 : decode cX2_rewindAll 14 = .ok (.getfield 10, 3) := by decide +kernel
theorem dX2_rewindAll_17 : decode cX2_rewindAll 17 = .ok (.iload_n 1, 1) := by decide +kernel
theorem dX2_rewindAll_18 : decode cX2_rewindAll 18 = .ok (.invokevirtual 70, 3) := by decide +kernel
theorem dX2_rewindAll_21 : decode cX2_rewindAll 21 = .ok (.checkcast 57, 3) := by decide +kernel
theorem dX2_rewindAll_24 : decode cX2_rewindAll 24 = .ok (.invokevirtual 133, 3) := by decide +kernel
theorem dX2_rewindAll_27 : decode cX2_rewindAll 27 = .ok (.iinc 1 1, 3) := by decide +kernel
theorem dX2_rewindAll_30 : decode cX2_rewindAll 30 = .ok (.goto (-28), 3) := by decide +kernel
theorem dX2_rewindAll_33 : decode cX2_rewindAll 33 = .ok (.return_, 1) := by decide +kernel
theorem dX2_startBarForAll_0 : decode cX2_startBarForAll 0 = .ok (.iconst 0, 1) := by decide +kernel
theorem dX2_startBarForAll_1 : decode cX2_startBarForAll 1 = .ok (.istore_n 2, 1) := by decide +kernel
theorem dX2_startBarForAll_2 : decode cX2_startBarForAll 2 = .ok (.iload_n 2, 1) := by decide +kernel
theorem dX2_startBarForAll_3 : decode cX2_startBarForAll 3 = .ok (.aload_n 0, 1) := by decide +kernel
theorem dX2_startBarForAll_4 : decode cX2_startBarForAll 4 = .ok (.getfield 10, 3) := by decide +kernel
theorem dX2_startBarForAll_7 : decode cX2_startBarForAll 7 = .ok (.invokevirtual 66, 3) := by decide +kernel
theorem dX2_startBarForAll_10 : decode cX2_startBarForAll 10 = .ok (.if_icmp .ge 24, 3) := by decide +kernel
theorem dX2_startBarForAll_13 : decode cX2_startBarForAll 13 = .ok (.aload_n 0, 1) := by decide +kernel
theorem dX2_startBarForAll_14 : decode cX2_startBarForAll 14 = .ok (.getfield 10, 3) := by decide +kernel
theorem dX2_startBarForAll_17 : decode cX2_startBarForAll 17 = .ok (.iload_n 2, 1) := by decide +kernel
theorem dX2_startBarForAll_18 : decode cX2_startBarForAll 18 = .ok (.invokevirtual 70, 3) := by decide +kernel
theorem dX2_startBarForAll_21 : decode cX2_startBarForAll 21 = .ok (.checkcast 57, 3) := by decide +kernel
theorem dX2_startBarForAll_24 : decode cX2_startBarForAll 24 = .ok (.iload_n 1, 1) := by decide +kernel
theorem dX2_startBarForAll_25 : decode cX2_startBarForAll 25 = .ok (.invokevirtual 136, 3) := by decide +kernel
theorem dX2_startBarForAll_28 : decode cX2_startBarForAll 28 = .ok (.iinc 2 1, 3) := by decide +kernel
theorem dX2_startBarForAll_31 : decode cX2_startBarForAll 31 = .ok (.goto (-29), 3) := by decide +kernel
theorem dX2_startBarForAll_34 : decode cX2_startBarForAll 34 = .ok (.return_, 1) := by decide +kernel
theorem dX2_goAll_0 : decode cX2_goAll 0 = .ok (.iconst 0, 1) := by decide +kernel
theorem dX2_goAll_1 : decode cX2_goAll 1 = .ok (.istore_n 1, 1) := by decide +kernel
theorem dX2_goAll_2 : decode cX2_goAll 2 = .ok (.iconst 0, 1) := by decide +kernel
theorem dX2_goAll_3 : decode cX2_goAll 3 = .ok (.istore_n 2, 1) := by decide +kernel
theorem dX2_goAll_4 : decode cX2_goAll 4 = .ok (.iload_n 2, 1) := by decide +kernel
theorem dX2_goAll_5 : decode cX2_goAll 5 = .ok (.aload_n 0, 1) := by decide +kernel
theorem dX2_goAll_6 : decode cX2_goAll 6 = .ok (.getfield 10, 3) := by decide +kernel
theorem dX2_goAll_9 : decode cX2_goAll 9 = .ok (.invokevirtual 66, 3) := by decide +kernel
theorem dX2_goAll_12 : decode cX2_goAll 12 = .ok (.if_icmp .ge 29, 3) := by decide +kernel
theorem dX2_goAll_15 : decode cX2_goAll 15 = .ok (.aload_n 0, 1) := by decide +kernel
theorem dX2_goAll_16 : decode cX2_goAll 16 = .ok (.getfield 10, 3) := by decide +kernel
theorem dX2_goAll_19 : decode cX2_goAll 19 = .ok (.iload_n 2, 1) := by decide +kernel
theorem dX2_goAll_20 : decode cX2_goAll 20 = .ok (.invokevirtual 70, 3) := by decide +kernel
theorem dX2_goAll_23 : decode cX2_goAll 23 = .ok (.checkcast 57, 3) := by decide +kernel
theorem dX2_goAll_26 : decode cX2_goAll 26 = .ok (.iconst 1, 1) := by decide +kernel
theorem dX2_goAll_27 : decode cX2_goAll 27 = .ok (.invokevirtual 140, 3) := by decide +kernel
theorem dX2_goAll_30 : decode cX2_goAll 30 = .ok (.ifCond .eq 5, 3) := by decide +kernel
theorem dX2_goAll_33 : decode cX2_goAll 33 = .ok (.iconst 1, 1) := by decide +kernel
theorem dX2_goAll_34 : decode cX2_goAll 34 = .ok (.istore_n 1, 1) := by decide +kernel
theorem dX2_goAll_35 : decode cX2_goAll 35 = .ok (.iinc 2 1, 3) := by decide +kernel
theorem dX2_goAll_38 : decode cX2_goAll 38 = .ok (.goto (-34), 3) := by decide +kernel
theorem dX2_goAll_41 : decode cX2_goAll 41 = .ok (.iload_n 1, 1) := by decide +kernel
theorem dX2_goAll_42 : decode cX2_goAll 42 = .ok (.ireturn, 1) := by decide +kernel
theorem dX2_firstMeeting_0 : decode cX2_firstMeeting 0 = .ok (.aload_n 0, 1) := by decide +kernel
theorem dX2_firstMeeting_1 : decode cX2_firstMeeting 1 = .ok (.invokevirtual 191, 3) := by decide +kernel
theorem dX2_firstMeeting_4 : decode cX2_firstMeeting 4 = .ok (.aload_n 0, 1) := by decide +kernel
theorem dX2_firstMeeting_5 : decode cX2_firstMeeting 5 = .ok (.invokevirtual 149, 3) := by decide +kernel
theorem dX2_firstMeeting_8 : decode cX2_firstMeeting 8 = .ok (.iconst (-1), 1) := by decide +kernel
theorem dX2_firstMeeting_9 : decode cX2_firstMeeting 9 = .ok (.if_icmp .eq 5, 3) := by decide +kernel
theorem dX2_firstMeeting_12 : decode cX2_firstMeeting 12 = .ok (.iconst 0, 1) := by decide +kernel
theorem dX2_firstMeeting_13 : decode cX2_firstMeeting 13 = .ok (.ireturn, 1) := by decide +kernel
theorem dX2_firstMeeting_14 : decode cX2_firstMeeting 14 = .ok (.iconst 0, 1) := by decide +kernel
theorem dX2_firstMeeting_15 : decode cX2_firstMeeting 15 = .ok (.istore_n 2, 1) := by decide +kernel
theorem dX2_firstMeeting_16 : decode cX2_firstMeeting 16 = .ok (.iload_n 2, 1) := by decide +kernel
theorem dX2_firstMeeting_17 : decode cX2_firstMeeting 17 = .ok (.aload_n 0, 1) := by decide +kernel
theorem dX2_firstMeeting_18 : decode cX2_firstMeeting 18 = .ok (.getfield 30, 3) := by decide +kernel
theorem dX2_firstMeeting_21 : decode cX2_firstMeeting 21 = .ok (.if_icmp .ge 48, 3) := by decide +kernel
theorem dX2_firstMeeting_24 : decode cX2_firstMeeting 24 = .ok (.aload_n 0, 1) := by decide +kernel
theorem dX2_firstMeeting_25 : decode cX2_firstMeeting 25 = .ok (.iload_n 2, 1) := by decide +kernel
theorem dX2_firstMeeting_26 : decode cX2_firstMeeting 26 = .ok (.invokevirtual 194, 3) := by decide +kernel
theorem dX2_firstMeeting_29 : decode cX2_firstMeeting 29 = .ok (.iconst 1, 1) := by decide +kernel
theorem dX2_firstMeeting_30 : decode cX2_firstMeeting 30 = .ok (.istore_n 3, 1) := by decide +kernel
theorem dX2_firstMeeting_31 : decode cX2_firstMeeting 31 = .ok (.iload_n 3, 1) := by decide +kernel
theorem dX2_firstMeeting_32 : decode cX2_firstMeeting 32 = .ok (.iload_n 1, 1) := by decide +kernel
theorem dX2_firstMeeting_33 : decode cX2_firstMeeting 33 = .ok (.if_icmp .gt 30, 3) := by decide +kernel
theorem dX2_firstMeeting_36 : decode cX2_firstMeeting 36 = .ok (.aload_n 0, 1) := by decide +kernel
theorem dX2_firstMeeting_37 : decode cX2_firstMeeting 37 = .ok (.invokevirtual 197, 3) := by decide +kernel
theorem dX2_firstMeeting_40 : decode cX2_firstMeeting 40 = .ok (.ifCond .eq 23, 3) := by decide +kernel
theorem dX2_firstMeeting_43 : decode cX2_firstMeeting 43 = .ok (.aload_n 0, 1) := by decide +kernel
theorem dX2_firstMeeting_44 : decode cX2_firstMeeting 44 = .ok (.invokevirtual 149, 3) := by decide +kernel
theorem dX2_firstMeeting_47 : decode cX2_firstMeeting 47 = .ok (.iconst (-1), 1) := by decide +kernel
theorem dX2_firstMeeting_48 : decode cX2_firstMeeting 48 = .ok (.if_icmp .eq 9, 3) := by decide +kernel
theorem dX2_firstMeeting_51 : decode cX2_firstMeeting 51 = .ok (.iload_n 2, 1) := by decide +kernel
theorem dX2_firstMeeting_52 : decode cX2_firstMeeting 52 = .ok (.iload_n 1, 1) := by decide +kernel
theorem dX2_firstMeeting_53 : decode cX2_firstMeeting 53 = .ok (.imul, 1) := by decide +kernel
theorem dX2_firstMeeting_54 : decode cX2_firstMeeting 54 = .ok (.iload_n 3, 1) := by decide +kernel
theorem dX2_firstMeeting_55 : decode cX2_firstMeeting 55 = .ok (.iadd, 1) := by decide +kernel
theorem dX2_firstMeeting_56 : decode cX2_firstMeeting 56 = .ok (.ireturn, 1) := by decide +kernel
theorem dX2_firstMeeting_57 : decode cX2_firstMeeting 57 = .ok (.iinc 3 1, 3) := by decide +kernel
theorem dX2_firstMeeting_60 : decode cX2_firstMeeting 60 = .ok (.goto (-29), 3) := by decide +kernel
theorem dX2_firstMeeting_63 : decode cX2_firstMeeting 63 = .ok (.iinc 2 1, 3) := by decide +kernel
theorem dX2_firstMeeting_66 : decode cX2_firstMeeting 66 = .ok (.goto (-50), 3) := by decide +kernel
theorem dX2_firstMeeting_69 : decode cX2_firstMeeting 69 = .ok (.iconst (-1), 1) := by decide +kernel
theorem dX2_firstMeeting_70 : decode cX2_firstMeeting 70 = .ok (.ireturn, 1) := by decide +kernel
theorem dX2_leastPairMeetingNow_0 : decode cX2_leastPairMeetingNow 0 = .ok (.iconst 0, 1) := by decide +kernel
theorem dX2_leastPairMeetingNow_1 : decode cX2_leastPairMeetingNow 1 = .ok (.istore_n 1, 1) := by decide +kernel
theorem dX2_leastPairMeetingNow_2 : decode cX2_leastPairMeetingNow 2 = .ok (.iload_n 1, 1) := by decide +kernel
theorem dX2_leastPairMeetingNow_3 : decode cX2_leastPairMeetingNow 3 = .ok (.aload_n 0, 1) := by decide +kernel
theorem dX2_leastPairMeetingNow_4 : decode cX2_leastPairMeetingNow 4 = .ok (.getfield 10, 3) := by decide +kernel
theorem dX2_leastPairMeetingNow_7 : decode cX2_leastPairMeetingNow 7 = .ok (.invokevirtual 66, 3) := by decide +kernel
theorem dX2_leastPairMeetingNow_10 : decode cX2_leastPairMeetingNow 10 = .ok (.if_icmp .ge 67, 3) := by decide +kernel
theorem dX2_leastPairMeetingNow_13 : decode cX2_leastPairMeetingNow 13 = .ok (.aload_n 0, 1) := by decide +kernel
theorem dX2_leastPairMeetingNow_14 : decode cX2_leastPairMeetingNow 14 = .ok (.getfield 10, 3) := by decide +kernel
theorem dX2_leastPairMeetingNow_17 : decode cX2_leastPairMeetingNow 17 = .ok (.iload_n 1, 1) := by decide +kernel
theorem dX2_leastPairMeetingNow_18 : decode cX2_leastPairMeetingNow 18 = .ok (.invokevirtual 70, 3) := by decide +kernel
theorem dX2_leastPairMeetingNow_21 : decode cX2_leastPairMeetingNow 21 = .ok (.checkcast 57, 3) := by decide +kernel
theorem dX2_leastPairMeetingNow_24 : decode cX2_leastPairMeetingNow 24 = .ok (.astore_n 2, 1) := by decide +kernel
theorem dX2_leastPairMeetingNow_25 : decode cX2_leastPairMeetingNow 25 = .ok (.iload_n 1, 1) := by decide +kernel
theorem dX2_leastPairMeetingNow_26 : decode cX2_leastPairMeetingNow 26 = .ok (.iconst 1, 1) := by decide +kernel
theorem dX2_leastPairMeetingNow_27 : decode cX2_leastPairMeetingNow 27 = .ok (.iadd, 1) := by decide +kernel
theorem dX2_leastPairMeetingNow_28 : decode cX2_leastPairMeetingNow 28 = .ok (.istore_n 3, 1) := by decide +kernel
theorem dX2_leastPairMeetingNow_29 : decode cX2_leastPairMeetingNow 29 = .ok (.iload_n 3, 1) := by decide +kernel
theorem dX2_leastPairMeetingNow_30 : decode cX2_leastPairMeetingNow 30 = .ok (.aload_n 0, 1) := by decide +kernel
theorem dX2_leastPairMeetingNow_31 : decode cX2_leastPairMeetingNow 31 = .ok (.getfield 10, 3) := by decide +kernel
theorem dX2_leastPairMeetingNow_34 : decode cX2_leastPairMeetingNow 34 = .ok (.invokevirtual 66, 3) := by decide +kernel
theorem dX2_leastPairMeetingNow_37 : decode cX2_leastPairMeetingNow 37 = .ok (.if_icmp .ge 34, 3) := by decide +kernel
theorem dX2_leastPairMeetingNow_40 : decode cX2_leastPairMeetingNow 40 = .ok (.aload_n 2, 1) := by decide +kernel
theorem dX2_leastPairMeetingNow_41 : decode cX2_leastPairMeetingNow 41 = .ok (.aload_n 0, 1) := by decide +kernel
theorem dX2_leastPairMeetingNow_42 : decode cX2_leastPairMeetingNow 42 = .ok (.getfield 10, 3) := by decide +kernel
theorem dX2_leastPairMeetingNow_45 : decode cX2_leastPairMeetingNow 45 = .ok (.iload_n 3, 1) := by decide +kernel
theorem dX2_leastPairMeetingNow_46 : decode cX2_leastPairMeetingNow 46 = .ok (.invokevirtual 70, 3) := by decide +kernel
theorem dX2_leastPairMeetingNow_49 : decode cX2_leastPairMeetingNow 49 = .ok (.checkcast 57, 3) := by decide +kernel
theorem dX2_leastPairMeetingNow_52 : decode cX2_leastPairMeetingNow 52 = .ok (.invokevirtual 201, 3) := by decide +kernel
theorem dX2_leastPairMeetingNow_55 : decode cX2_leastPairMeetingNow 55 = .ok (.ifCond .eq 10, 3) := by decide +kernel
theorem dX2_leastPairMeetingNow_58 : decode cX2_leastPairMeetingNow 58 = .ok (.bipush 10, 2) := by decide +kernel
theorem dX2_leastPairMeetingNow_60 : decode cX2_leastPairMeetingNow 60 = .ok (.iload_n 1, 1) := by decide +kernel
theorem dX2_leastPairMeetingNow_61 : decode cX2_leastPairMeetingNow 61 = .ok (.imul, 1) := by decide +kernel
theorem dX2_leastPairMeetingNow_62 : decode cX2_leastPairMeetingNow 62 = .ok (.iload_n 3, 1) := by decide +kernel
theorem dX2_leastPairMeetingNow_63 : decode cX2_leastPairMeetingNow 63 = .ok (.iadd, 1) := by decide +kernel
theorem dX2_leastPairMeetingNow_64 : decode cX2_leastPairMeetingNow 64 = .ok (.ireturn, 1) := by decide +kernel
theorem dX2_leastPairMeetingNow_65 : decode cX2_leastPairMeetingNow 65 = .ok (.iinc 3 1, 3) := by decide +kernel
theorem dX2_leastPairMeetingNow_68 : decode cX2_leastPairMeetingNow 68 = .ok (.goto (-39), 3) := by decide +kernel
theorem dX2_leastPairMeetingNow_71 : decode cX2_leastPairMeetingNow 71 = .ok (.iinc 1 1, 3) := by decide +kernel
theorem dX2_leastPairMeetingNow_74 : decode cX2_leastPairMeetingNow 74 = .ok (.goto (-72), 3) := by decide +kernel
theorem dX2_leastPairMeetingNow_77 : decode cX2_leastPairMeetingNow 77 = .ok (.iconst (-1), 1) := by decide +kernel
theorem dX2_leastPairMeetingNow_78 : decode cX2_leastPairMeetingNow 78 = .ok (.ireturn, 1) := by decide +kernel
theorem dX2_workerTonight_0 : decode cX2_workerTonight 0 = .ok (.aload_n 1, 1) := by decide +kernel
theorem dX2_workerTonight_1 : decode cX2_workerTonight 1 = .ok (.getfield 205, 3) := by decide +kernel
theorem dX2_workerTonight_4 : decode cX2_workerTonight 4 = .ok (.istore_n 2, 1) := by decide +kernel
theorem dX2_workerTonight_5 : decode cX2_workerTonight 5 = .ok (.iconst 0, 1) := by decide +kernel
theorem dX2_workerTonight_6 : decode cX2_workerTonight 6 = .ok (.istore_n 3, 1) := by decide +kernel
theorem dX2_workerTonight_7 : decode cX2_workerTonight 7 = .ok (.iload_n 3, 1) := by decide +kernel
theorem dX2_workerTonight_8 : decode cX2_workerTonight 8 = .ok (.bipush 6, 2) := by decide +kernel
theorem dX2_workerTonight_10 : decode cX2_workerTonight 10 = .ok (.if_icmp .ge 34, 3) := by decide +kernel
theorem dX2_workerTonight_13 : decode cX2_workerTonight 13 = .ok (.iload_n 2, 1) := by decide +kernel
theorem dX2_workerTonight_14 : decode cX2_workerTonight 14 = .ok (.invokestatic 97, 3) := by decide +kernel
theorem dX2_workerTonight_17 : decode cX2_workerTonight 17 = .ok (.ifCond .eq 27, 3) := by decide +kernel
theorem dX2_workerTonight_20 : decode cX2_workerTonight 20 = .ok (.aload_n 0, 1) := by decide +kernel
theorem dX2_workerTonight_21 : decode cX2_workerTonight 21 = .ok (.getfield 22, 3) := by decide +kernel
theorem dX2_workerTonight_24 : decode cX2_workerTonight 24 = .ok (.iload_n 2, 1) := by decide +kernel
theorem dX2_workerTonight_25 : decode cX2_workerTonight 25 = .ok (.baload, 1) := by decide +kernel
theorem dX2_workerTonight_26 : decode cX2_workerTonight 26 = .ok (.ifCond .ne 5, 3) := by decide +kernel
theorem dX2_workerTonight_29 : decode cX2_workerTonight 29 = .ok (.iload_n 2, 1) := by decide +kernel
theorem dX2_workerTonight_30 : decode cX2_workerTonight 30 = .ok (.ireturn, 1) := by decide +kernel
theorem dX2_workerTonight_31 : decode cX2_workerTonight 31 = .ok (.aload_n 0, 1) := by decide +kernel
theorem dX2_workerTonight_32 : decode cX2_workerTonight 32 = .ok (.getfield 26, 3) := by decide +kernel
theorem dX2_workerTonight_35 : decode cX2_workerTonight 35 = .ok (.iload_n 2, 1) := by decide +kernel
theorem dX2_workerTonight_36 : decode cX2_workerTonight 36 = .ok (.iaload, 1) := by decide +kernel
theorem dX2_workerTonight_37 : decode cX2_workerTonight 37 = .ok (.istore_n 2, 1) := by decide +kernel
theorem dX2_workerTonight_38 : decode cX2_workerTonight 38 = .ok (.iinc 3 1, 3) := by decide +kernel
theorem dX2_workerTonight_41 : decode cX2_workerTonight 41 = .ok (.goto (-34), 3) := by decide +kernel
theorem dX2_workerTonight_44 : decode cX2_workerTonight 44 = .ok (.iconst (-1), 1) := by decide +kernel
theorem dX2_workerTonight_45 : decode cX2_workerTonight 45 = .ok (.ireturn, 1) := by decide +kernel
theorem dX2_planWork_0 : decode cX2_planWork 0 = .ok (.iconst 0, 1) := by decide +kernel
theorem dX2_planWork_1 : decode cX2_planWork 1 = .ok (.istore_n 2, 1) := by decide +kernel
theorem dX2_planWork_2 : decode cX2_planWork 2 = .ok (.iload_n 2, 1) := by decide +kernel
theorem dX2_planWork_3 : decode cX2_planWork 3 = .ok (.aload_n 0, 1) := by decide +kernel
theorem dX2_planWork_4 : decode cX2_planWork 4 = .ok (.getfield 16, 3) := by decide +kernel
theorem dX2_planWork_7 : decode cX2_planWork 7 = .ok (.invokevirtual 66, 3) := by decide +kernel
theorem dX2_planWork_10 : decode cX2_planWork 10 = .ok (.if_icmp .ge 24, 3) := by decide +kernel
theorem dX2_planWork_13 : decode cX2_planWork 13 = .ok (.aload_n 0, 1) := by decide +kernel
theorem dX2_planWork_14 : decode cX2_planWork 14 = .ok (.getfield 16, 3) := by decide +kernel
theorem dX2_planWork_17 : decode cX2_planWork 17 = .ok (.iload_n 2, 1) := by decide +kernel
theorem dX2_planWork_18 : decode cX2_planWork 18 = .ok (.invokevirtual 70, 3) := by decide +kernel
theorem dX2_planWork_21 : decode cX2_planWork 21 = .ok (.checkcast 74, 3) := by decide +kernel
theorem dX2_planWork_24 : decode cX2_planWork 24 = .ok (.iconst 0, 1) := by decide +kernel
theorem dX2_planWork_25 : decode cX2_planWork 25 = .ok (.putfield 159, 3) := by decide +kernel
theorem dX2_planWork_28 : decode cX2_planWork 28 = .ok (.iinc 2 1, 3) := by decide +kernel
theorem dX2_planWork_31 : decode cX2_planWork 31 = .ok (.goto (-29), 3) := by decide +kernel
theorem dX2_planWork_34 : decode cX2_planWork 34 = .ok (.aload_n 0, 1) := by decide +kernel
theorem dX2_planWork_35 : decode cX2_planWork 35 = .ok (.invokevirtual 191, 3) := by decide +kernel
theorem dX2_planWork_38 : decode cX2_planWork 38 = .ok (.iconst 0, 1) := by decide +kernel
theorem dX2_planWork_39 : decode cX2_planWork 39 = .ok (.istore_n 2, 1) := by decide +kernel
theorem dX2_planWork_40 : decode cX2_planWork 40 = .ok (.iload_n 2, 1) := by decide +kernel
theorem dX2_planWork_41 : decode cX2_planWork 41 = .ok (.aload_n 0, 1) := by decide +kernel
theorem dX2_planWork_42 : decode cX2_planWork 42 = .ok (.getfield 30, 3) := by decide +kernel
theorem dX2_planWork_45 : decode cX2_planWork 45 = .ok (.if_icmp .ge 48, 3) := by decide +kernel
theorem dX2_planWork_48 : decode cX2_planWork 48 = .ok (.aload_n 0, 1) := by decide +kernel
theorem dX2_planWork_49 : decode cX2_planWork 49 = .ok (.iload_n 2, 1) := by decide +kernel
theorem dX2_planWork_50 : decode cX2_planWork 50 = .ok (.invokevirtual 194, 3) := by decide +kernel
theorem dX2_planWork_53 : decode cX2_planWork 53 = .ok (.iconst 0, 1) := by decide +kernel
theorem dX2_planWork_54 : decode cX2_planWork 54 = .ok (.istore_n 3, 1) := by decide +kernel
theorem dX2_planWork_55 : decode cX2_planWork 55 = .ok (.iload_n 3, 1) := by decide +kernel
theorem dX2_planWork_56 : decode cX2_planWork 56 = .ok (.aload_n 0, 1) := by decide +kernel
theorem dX2_planWork_57 : decode cX2_planWork 57 = .ok (.getfield 10, 3) := by decide +kernel
theorem dX2_planWork_60 : decode cX2_planWork 60 = .ok (.invokevirtual 66, 3) := by decide +kernel
theorem dX2_planWork_63 : decode cX2_planWork 63 = .ok (.if_icmp .ge 24, 3) := by decide +kernel
theorem dX2_planWork_66 : decode cX2_planWork 66 = .ok (.aload_n 0, 1) := by decide +kernel
theorem dX2_planWork_67 : decode cX2_planWork 67 = .ok (.getfield 10, 3) := by decide +kernel
theorem dX2_planWork_70 : decode cX2_planWork 70 = .ok (.iload_n 3, 1) := by decide +kernel
theorem dX2_planWork_71 : decode cX2_planWork 71 = .ok (.invokevirtual 70, 3) := by decide +kernel
theorem dX2_planWork_74 : decode cX2_planWork 74 = .ok (.checkcast 57, 3) := by decide +kernel
theorem dX2_planWork_77 : decode cX2_planWork 77 = .ok (.iload_n 1, 1) := by decide +kernel
theorem dX2_planWork_78 : decode cX2_planWork 78 = .ok (.invokevirtual 208, 3) := by decide +kernel
theorem dX2_planWork_81 : decode cX2_planWork 81 = .ok (.iinc 3 1, 3) := by decide +kernel
theorem dX2_planWork_84 : decode cX2_planWork 84 = .ok (.goto (-29), 3) := by decide +kernel
theorem dX2_planWork_87 : decode cX2_planWork 87 = .ok (.iinc 2 1, 3) := by decide +kernel
theorem dX2_planWork_90 : decode cX2_planWork 90 = .ok (.goto (-50), 3) := by decide +kernel
theorem dX2_planWork_93 : decode cX2_planWork 93 = .ok (.return_, 1) := by decide +kernel
theorem dX2_plannedClashes_0 : decode cX2_plannedClashes 0 = .ok (.iconst 0, 1) := by decide +kernel
theorem dX2_plannedClashes_1 : decode cX2_plannedClashes 1 = .ok (.istore_n 3, 1) := by decide +kernel
theorem dX2_plannedClashes_2 : decode cX2_plannedClashes 2 = .ok (.iconst 0, 1) := by decide +kernel
theorem dX2_plannedClashes_3 : decode cX2_plannedClashes 3 = .ok (.istore 4, 2) := by decide +kernel
theorem dX2_plannedClashes_5 : decode cX2_plannedClashes 5 = .ok (.iconst 0, 1) := by decide +kernel
theorem dX2_plannedClashes_6 : decode cX2_plannedClashes 6 = .ok (.istore 5, 2) := by decide +kernel
theorem dX2_plannedClashes_8 : decode cX2_plannedClashes 8 = .ok (.iconst 0, 1) := by decide +kernel
theorem dX2_plannedClashes_9 : decode cX2_plannedClashes 9 = .ok (.istore 6, 2) := by decide +kernel
theorem dX2_plannedClashes_11 : decode cX2_plannedClashes 11 = .ok (.iload 6, 2) := by decide +kernel
theorem dX2_plannedClashes_13 : decode cX2_plannedClashes 13 = .ok (.aload_n 0, 1) := by decide +kernel
theorem dX2_plannedClashes_14 : decode cX2_plannedClashes 14 = .ok (.getfield 19, 3) := by decide +kernel
theorem dX2_plannedClashes_17 : decode cX2_plannedClashes 17 = .ok (.invokevirtual 66, 3) := by decide +kernel
theorem dX2_plannedClashes_20 : decode cX2_plannedClashes 20 = .ok (.if_icmp .ge 83, 3) := by decide +kernel
theorem dX2_plannedClashes_23 : decode cX2_plannedClashes 23 = .ok (.aload_n 0, 1) := by decide +kernel
theorem dX2_plannedClashes_24 : decode cX2_plannedClashes 24 = .ok (.getfield 19, 3) := by decide +kernel
theorem dX2_plannedClashes_27 : decode cX2_plannedClashes 27 = .ok (.iload 6, 2) := by decide +kernel
theorem dX2_plannedClashes_29 : decode cX2_plannedClashes 29 = .ok (.invokevirtual 70, 3) := by decide +kernel
theorem dX2_plannedClashes_32 : decode cX2_plannedClashes 32 = .ok (.checkcast 74, 3) := by decide +kernel
theorem dX2_plannedClashes_35 : decode cX2_plannedClashes 35 = .ok (.astore 7, 2) := by decide +kernel
theorem dX2_plannedClashes_37 : decode cX2_plannedClashes 37 = .ok (.aload 7, 2) := by decide +kernel
theorem dX2_plannedClashes_39 : decode cX2_plannedClashes 39 = .ok (.getfield 159, 3) := by decide +kernel
theorem dX2_plannedClashes_42 : decode cX2_plannedClashes 42 = .ok (.ifCond .le 55, 3) := by decide +kernel
theorem dX2_plannedClashes_45 : decode cX2_plannedClashes 45 = .ok (.aload_n 0, 1) := by decide +kernel
theorem dX2_plannedClashes_46 : decode cX2_plannedClashes 46 = .ok (.aload 7, 2) := by decide +kernel
theorem dX2_plannedClashes_48 : decode cX2_plannedClashes 48 = .ok (.invokevirtual 152, 3) := by decide +kernel
theorem dX2_plannedClashes_51 : decode cX2_plannedClashes 51 = .ok (.iload_n 1, 1) := by decide +kernel
theorem dX2_plannedClashes_52 : decode cX2_plannedClashes 52 = .ok (.if_icmp .ne 45, 3) := by decide +kernel
theorem dX2_plannedClashes_55 : decode cX2_plannedClashes 55 = .ok (.aload 7, 2) := by decide +kernel
theorem dX2_plannedClashes_57 : decode cX2_plannedClashes 57 = .ok (.getfield 80, 3) := by decide +kernel
theorem dX2_plannedClashes_60 : decode cX2_plannedClashes 60 = .ok (.iload_n 2, 1) := by decide +kernel
theorem dX2_plannedClashes_61 : decode cX2_plannedClashes 61 = .ok (.imul, 1) := by decide +kernel
theorem dX2_plannedClashes_62 : decode cX2_plannedClashes 62 = .ok (.istore 8, 2) := by decide +kernel
theorem dX2_plannedClashes_64 : decode cX2_plannedClashes 64 = .ok (.iload 4, 2) := by decide +kernel
theorem dX2_plannedClashes_66 : decode cX2_plannedClashes 66 = .ok (.ifCond .eq 18, 3) := by decide +kernel
theorem dX2_plannedClashes_69 : decode cX2_plannedClashes 69 = .ok (.iload 8, 2) := by decide +kernel
theorem dX2_plannedClashes_71 : decode cX2_plannedClashes 71 = .ok (.iload 5, 2) := by decide +kernel
theorem dX2_plannedClashes_73 : decode cX2_plannedClashes 73 = .ok (.aload_n 0, 1) := by decide +kernel
theorem dX2_plannedClashes_74 : decode cX2_plannedClashes 74 = .ok (.getfield 40, 3) := by decide +kernel
theorem dX2_plannedClashes_77 : decode cX2_plannedClashes 77 = .ok (.iadd, 1) := by decide +kernel
theorem dX2_plannedClashes_78 : decode cX2_plannedClashes 78 = .ok (.if_icmp .ge 6, 3) := by decide +kernel
theorem dX2_plannedClashes_81 : decode cX2_plannedClashes 81 = .ok (.iinc 3 1, 3) := by decide +kernel
theorem dX2_plannedClashes_84 : decode cX2_plannedClashes 84 = .ok (.iconst 1, 1) := by decide +kernel
theorem dX2_plannedClashes_85 : decode cX2_plannedClashes 85 = .ok (.istore 4, 2) := by decide +kernel
theorem dX2_plannedClashes_87 : decode cX2_plannedClashes 87 = .ok (.iload 8, 2) := by decide +kernel
theorem dX2_plannedClashes_89 : decode cX2_plannedClashes 89 = .ok (.aload 7, 2) := by decide +kernel
theorem dX2_plannedClashes_91 : decode cX2_plannedClashes 91 = .ok (.getfield 159, 3) := by decide +kernel
theorem dX2_plannedClashes_94 : decode cX2_plannedClashes 94 = .ok (.iadd, 1) := by decide +kernel
theorem dX2_plannedClashes_95 : decode cX2_plannedClashes 95 = .ok (.istore 5, 2) := by decide +kernel
theorem dX2_plannedClashes_97 : decode cX2_plannedClashes 97 = .ok (.iinc 6 1, 3) := by decide +kernel
theorem dX2_plannedClashes_100 : decode cX2_plannedClashes 100 = .ok (.goto (-89), 3) := by decide +kernel
theorem dX2_plannedClashes_103 : decode cX2_plannedClashes 103 = .ok (.iload_n 3, 1) := by decide +kernel
theorem dX2_plannedClashes_104 : decode cX2_plannedClashes 104 = .ok (.ireturn, 1) := by decide +kernel
theorem dX2_plannedAllManned_0 : decode cX2_plannedAllManned 0 = .ok (.iconst 0, 1) := by decide +kernel
theorem dX2_plannedAllManned_1 : decode cX2_plannedAllManned 1 = .ok (.istore_n 1, 1) := by decide +kernel
theorem dX2_plannedAllManned_2 : decode cX2_plannedAllManned 2 = .ok (.iload_n 1, 1) := by decide +kernel
theorem dX2_plannedAllManned_3 : decode cX2_plannedAllManned 3 = .ok (.aload_n 0, 1) := by decide +kernel
theorem dX2_plannedAllManned_4 : decode cX2_plannedAllManned 4 = .ok (.getfield 16, 3) := by decide +kernel
theorem dX2_plannedAllManned_7 : decode cX2_plannedAllManned 7 = .ok (.invokevirtual 66, 3) := by decide +kernel
theorem dX2_plannedAllManned_10 : decode cX2_plannedAllManned 10 = .ok (.if_icmp .ge 39, 3) := by decide +kernel
theorem dX2_plannedAllManned_13 : decode cX2_plannedAllManned 13 = .ok (.aload_n 0, 1) := by decide +kernel
theorem dX2_plannedAllManned_14 : decode cX2_plannedAllManned 14 = .ok (.getfield 16, 3) := by decide +kernel
theorem dX2_plannedAllManned_17 : decode cX2_plannedAllManned 17 = .ok (.iload_n 1, 1) := by decide +kernel
theorem dX2_plannedAllManned_18 : decode cX2_plannedAllManned 18 = .ok (.invokevirtual 70, 3) := by decide +kernel
theorem dX2_plannedAllManned_21 : decode cX2_plannedAllManned 21 = .ok (.checkcast 74, 3) := by decide +kernel
theorem dX2_plannedAllManned_24 : decode cX2_plannedAllManned 24 = .ok (.astore_n 2, 1) := by decide +kernel
theorem dX2_plannedAllManned_25 : decode cX2_plannedAllManned 25 = .ok (.aload_n 2, 1) := by decide +kernel
theorem dX2_plannedAllManned_26 : decode cX2_plannedAllManned 26 = .ok (.getfield 159, 3) := by decide +kernel
theorem dX2_plannedAllManned_29 : decode cX2_plannedAllManned 29 = .ok (.ifCond .le 14, 3) := by decide +kernel
theorem dX2_plannedAllManned_32 : decode cX2_plannedAllManned 32 = .ok (.aload_n 0, 1) := by decide +kernel
theorem dX2_plannedAllManned_33 : decode cX2_plannedAllManned 33 = .ok (.aload_n 2, 1) := by decide +kernel
theorem dX2_plannedAllManned_34 : decode cX2_plannedAllManned 34 = .ok (.invokevirtual 152, 3) := by decide +kernel
theorem dX2_plannedAllManned_37 : decode cX2_plannedAllManned 37 = .ok (.iconst (-1), 1) := by decide +kernel
theorem dX2_plannedAllManned_38 : decode cX2_plannedAllManned 38 = .ok (.if_icmp .ne 5, 3) := by decide +kernel
theorem dX2_plannedAllManned_41 : decode cX2_plannedAllManned 41 = .ok (.iconst 0, 1) := by decide +kernel
theorem dX2_plannedAllManned_42 : decode cX2_plannedAllManned 42 = .ok (.ireturn, 1) := by decide +kernel
theorem dX2_plannedAllManned_43 : decode cX2_plannedAllManned 43 = .ok (.iinc 1 1, 3) := by decide +kernel
theorem dX2_plannedAllManned_46 : decode cX2_plannedAllManned 46 = .ok (.goto (-44), 3) := by decide +kernel
theorem dX2_plannedAllManned_49 : decode cX2_plannedAllManned 49 = .ok (.iconst 1, 1) := by decide +kernel
theorem dX2_plannedAllManned_50 : decode cX2_plannedAllManned 50 = .ok (.ireturn, 1) := by decide +kernel
theorem dX2_plannedWithoutClash_0 : decode cX2_plannedWithoutClash 0 = .ok (.iconst 0, 1) := by decide +kernel
theorem dX2_plannedWithoutClash_1 : decode cX2_plannedWithoutClash 1 = .ok (.istore_n 2, 1) := by decide +kernel
theorem dX2_plannedWithoutClash_2 : decode cX2_plannedWithoutClash 2 = .ok (.iload_n 2, 1) := by decide +kernel
theorem dX2_plannedWithoutClash_3 : decode cX2_plannedWithoutClash 3 = .ok (.bipush 6, 2) := by decide +kernel
theorem dX2_plannedWithoutClash_5 : decode cX2_plannedWithoutClash 5 = .ok (.if_icmp .ge 20, 3) := by decide +kernel
theorem dX2_plannedWithoutClash_8 : decode cX2_plannedWithoutClash 8 = .ok (.aload_n 0, 1) := by decide +kernel
theorem dX2_plannedWithoutClash_9 : decode cX2_plannedWithoutClash 9 = .ok (.iload_n 2, 1) := by decide +kernel
theorem dX2_plannedWithoutClash_10 : decode cX2_plannedWithoutClash 10 = .ok (.iload_n 1, 1) := by decide +kernel
theorem dX2_plannedWithoutClash_11 : decode cX2_plannedWithoutClash 11 = .ok (.invokevirtual 162, 3) := by decide +kernel
theorem dX2_plannedWithoutClash_14 : decode cX2_plannedWithoutClash 14 = .ok (.ifCond .le 5, 3) := by decide +kernel
theorem dX2_plannedWithoutClash_17 : decode cX2_plannedWithoutClash 17 = .ok (.iconst 0, 1) := by decide +kernel
theorem dX2_plannedWithoutClash_18 : decode cX2_plannedWithoutClash 18 = .ok (.ireturn, 1) := by decide +kernel
theorem dX2_plannedWithoutClash_19 : decode cX2_plannedWithoutClash 19 = .ok (.iinc 2 1, 3) := by decide +kernel
theorem dX2_plannedWithoutClash_22 : decode cX2_plannedWithoutClash 22 = .ok (.goto (-20), 3) := by decide +kernel
theorem dX2_plannedWithoutClash_25 : decode cX2_plannedWithoutClash 25 = .ok (.iconst 1, 1) := by decide +kernel
theorem dX2_plannedWithoutClash_26 : decode cX2_plannedWithoutClash 26 = .ok (.ireturn, 1) := by decide +kernel
theorem dX2_isFineWith_0 : decode cX2_isFineWith 0 = .ok (.aload_n 0, 1) := by decide +kernel
theorem dX2_isFineWith_1 : decode cX2_isFineWith 1 = .ok (.iload_n 1, 1) := by decide +kernel
theorem dX2_isFineWith_2 : decode cX2_isFineWith 2 = .ok (.invokevirtual 129, 3) := by decide +kernel
theorem dX2_isFineWith_5 : decode cX2_isFineWith 5 = .ok (.istore_n 2, 1) := by decide +kernel
theorem dX2_isFineWith_6 : decode cX2_isFineWith 6 = .ok (.aload_n 0, 1) := by decide +kernel
theorem dX2_isFineWith_7 : decode cX2_isFineWith 7 = .ok (.iload_n 2, 1) := by decide +kernel
theorem dX2_isFineWith_8 : decode cX2_isFineWith 8 = .ok (.invokevirtual 156, 3) := by decide +kernel
theorem dX2_isFineWith_11 : decode cX2_isFineWith 11 = .ok (.aload_n 0, 1) := by decide +kernel
theorem dX2_isFineWith_12 : decode cX2_isFineWith 12 = .ok (.invokevirtual 211, 3) := by decide +kernel
theorem dX2_isFineWith_15 : decode cX2_isFineWith 15 = .ok (.ifCond .eq 24, 3) := by decide +kernel
theorem dX2_isFineWith_18 : decode cX2_isFineWith 18 = .ok (.aload_n 0, 1) := by decide +kernel
theorem dX2_isFineWith_19 : decode cX2_isFineWith 19 = .ok (.iload_n 2, 1) := by decide +kernel
theorem dX2_isFineWith_20 : decode cX2_isFineWith 20 = .ok (.invokevirtual 214, 3) := by decide +kernel
theorem dX2_isFineWith_23 : decode cX2_isFineWith 23 = .ok (.ifCond .eq 16, 3) := by decide +kernel
theorem dX2_isFineWith_26 : decode cX2_isFineWith 26 = .ok (.aload_n 0, 1) := by decide +kernel
theorem dX2_isFineWith_27 : decode cX2_isFineWith 27 = .ok (.iload_n 2, 1) := by decide +kernel
theorem dX2_isFineWith_28 : decode cX2_isFineWith 28 = .ok (.invokevirtual 146, 3) := by decide +kernel
theorem dX2_isFineWith_31 : decode cX2_isFineWith 31 = .ok (.iconst (-1), 1) := by decide +kernel
theorem dX2_isFineWith_32 : decode cX2_isFineWith 32 = .ok (.if_icmp .ne 7, 3) := by decide +kernel
theorem dX2_isFineWith_35 : decode cX2_isFineWith 35 = .ok (.iconst 1, 1) := by decide +kernel
theorem dX2_isFineWith_36 : decode cX2_isFineWith 36 = .ok (.goto 4, 3) := by decide +kernel
theorem dX2_isFineWith_39 : decode cX2_isFineWith 39 = .ok (.iconst 0, 1) := by decide +kernel
theorem dX2_isFineWith_40 : decode cX2_isFineWith 40 = .ok (.ireturn, 1) := by decide +kernel
theorem dX3_init_0 : decode cX3_init 0 = .ok (.aload_n 0, 1) := by decide +kernel
theorem dX3_init_1 : decode cX3_init 1 = .ok (.invokespecial 1, 3) := by decide +kernel
theorem dX3_init_4 : decode cX3_init 4 = .ok (.aload_n 0, 1) := by decide +kernel
theorem dX3_init_5 : decode cX3_init 5 = .ok (.bipush 6, 2) := by decide +kernel
theorem dX3_init_7 : decode cX3_init 7 = .ok (.newarray .boolean, 2) := by decide +kernel
theorem dX3_init_9 : decode cX3_init 9 = .ok (.putfield 7, 3) := by decide +kernel
theorem dX3_init_12 : decode cX3_init 12 = .ok (.aload_n 0, 1) := by decide +kernel
theorem dX3_init_13 : decode cX3_init 13 = .ok (.bipush 6, 2) := by decide +kernel
theorem dX3_init_15 : decode cX3_init 15 = .ok (.newarray .int, 2) := by decide +kernel
theorem dX3_init_17 : decode cX3_init 17 = .ok (.putfield 13, 3) := by decide +kernel
theorem dX3_init_20 : decode cX3_init 20 = .ok (.aload_n 0, 1) := by decide +kernel
theorem dX3_init_21 : decode cX3_init 21 = .ok (.bipush 6, 2) := by decide +kernel
theorem dX3_init_23 : decode cX3_init 23 = .ok (.newarray .int, 2) := by decide +kernel
theorem dX3_init_25 : decode cX3_init 25 = .ok (.putfield 17, 3) := by decide +kernel
theorem dX3_init_28 : decode cX3_init 28 = .ok (.aload_n 0, 1) := by decide +kernel
theorem dX3_init_29 : decode cX3_init 29 = .ok (.bipush 6, 2) := by decide +kernel
theorem dX3_init_31 : decode cX3_init 31 = .ok (.newarray .int, 2) := by decide +kernel
theorem dX3_init_33 : decode cX3_init 33 = .ok (.putfield 20, 3) := by decide +kernel
theorem dX3_init_36 : decode cX3_init 36 = .ok (.aload_n 0, 1) := by decide +kernel
theorem dX3_init_37 : decode cX3_init 37 = .ok (.bipush 6, 2) := by decide +kernel
theorem dX3_init_39 : decode cX3_init 39 = .ok (.newarray .int, 2) := by decide +kernel
theorem dX3_init_41 : decode cX3_init 41 = .ok (.putfield 23, 3) := by decide +kernel
theorem dX3_init_44 : decode cX3_init 44 = .ok (.aload_n 0, 1) := by decide +kernel
theorem dX3_init_45 : decode cX3_init 45 = .ok (.bipush 24, 2) := by decide +kernel
theorem dX3_init_47 : decode cX3_init 47 = .ok (.newarray .int, 2) := by decide +kernel
theorem dX3_init_49 : decode cX3_init 49 = .ok (.putfield 26, 3) := by decide +kernel
theorem dX3_init_52 : decode cX3_init 52 = .ok (.aload_n 0, 1) := by decide +kernel
theorem dX3_init_53 : decode cX3_init 53 = .ok (.bipush 24, 2) := by decide +kernel
theorem dX3_init_55 : decode cX3_init 55 = .ok (.newarray .int, 2) := by decide +kernel
theorem dX3_init_57 : decode cX3_init 57 = .ok (.putfield 29, 3) := by decide +kernel
theorem dX3_init_60 : decode cX3_init 60 = .ok (.aload_n 0, 1) := by decide +kernel
theorem dX3_init_61 : decode cX3_init 61 = .ok (.bipush 24, 2) := by decide +kernel
theorem dX3_init_63 : decode cX3_init 63 = .ok (.newarray .int, 2) := by decide +kernel
theorem dX3_init_65 : decode cX3_init 65 = .ok (.putfield 32, 3) := by decide +kernel
theorem dX3_init_68 : decode cX3_init 68 = .ok (.aload_n 0, 1) := by decide +kernel
theorem dX3_init_69 : decode cX3_init 69 = .ok (.bipush 24, 2) := by decide +kernel
theorem dX3_init_71 : decode cX3_init 71 = .ok (.newarray .int, 2) := by decide +kernel
theorem dX3_init_73 : decode cX3_init 73 = .ok (.putfield 35, 3) := by decide +kernel
theorem dX3_init_76 : decode cX3_init 76 = .ok (.aload_n 0, 1) := by decide +kernel
theorem dX3_init_77 : decode cX3_init 77 = .ok (.bipush 24, 2) := by decide +kernel
theorem dX3_init_79 : decode cX3_init 79 = .ok (.newarray .boolean, 2) := by decide +kernel
theorem dX3_init_81 : decode cX3_init 81 = .ok (.putfield 38, 3) := by decide +kernel
theorem dX3_init_84 : decode cX3_init 84 = .ok (.aload_n 0, 1) := by decide +kernel
theorem dX3_init_85 : decode cX3_init 85 = .ok (.bipush 16, 2) := by decide +kernel
theorem dX3_init_87 : decode cX3_init 87 = .ok (.putfield 41, 3) := by decide +kernel
theorem dX3_init_90 : decode cX3_init 90 = .ok (.aload_n 0, 1) := by decide +kernel
theorem dX3_init_91 : decode cX3_init 91 = .ok (.bipush 20, 2) := by decide +kernel
theorem dX3_init_93 : decode cX3_init 93 = .ok (.putfield 45, 3) := by decide +kernel
theorem dX3_init_96 : decode cX3_init 96 = .ok (.aload_n 0, 1) := by decide +kernel
theorem dX3_init_97 : decode cX3_init 97 = .ok (.bipush 100, 2) := by decide +kernel
theorem dX3_init_99 : decode cX3_init 99 = .ok (.putfield 48, 3) := by decide +kernel
theorem dX3_init_102 : decode cX3_init 102 = .ok (.aload_n 0, 1) := by decide +kernel
theorem dX3_init_103 : decode cX3_init 103 = .ok (.iconst 5, 1) := by decide +kernel
theorem dX3_init_104 : decode cX3_init 104 = .ok (.putfield 51, 3) := by decide +kernel
theorem dX3_init_107 : decode cX3_init 107 = .ok (.aload_n 0, 1) := by decide +kernel
theorem dX3_init_108 : decode cX3_init 108 = .ok (.sipush 400, 3) := by decide +kernel
theorem dX3_init_111 : decode cX3_init 111 = .ok (.putfield 54, 3) := by decide +kernel
theorem dX3_init_114 : decode cX3_init 114 = .ok (.aload_n 0, 1) := by decide +kernel
theorem dX3_init_115 : decode cX3_init 115 = .ok (.bipush 6, 2) := by decide +kernel
theorem dX3_init_117 : decode cX3_init 117 = .ok (.newarray .boolean, 2) := by decide +kernel
theorem dX3_init_119 : decode cX3_init 119 = .ok (.putfield 57, 3) := by decide +kernel
theorem dX3_init_122 : decode cX3_init 122 = .ok (.aload_n 0, 1) := by decide +kernel
theorem dX3_init_123 : decode cX3_init 123 = .ok (.bipush 6, 2) := by decide +kernel
theorem dX3_init_125 : decode cX3_init 125 = .ok (.newarray .int, 2) := by decide +kernel
theorem dX3_init_127 : decode cX3_init 127 = .ok (.putfield 60, 3) := by decide +kernel
theorem dX3_init_130 : decode cX3_init 130 = .ok (.aload_n 0, 1) := by decide +kernel
theorem dX3_init_131 : decode cX3_init 131 = .ok (.bipush 6, 2) := by decide +kernel
theorem dX3_init_133 : decode cX3_init 133 = .ok (.newarray .int, 2) := by decide +kernel
theorem dX3_init_135 : decode cX3_init 135 = .ok (.putfield 63, 3) := by decide +kernel
theorem dX3_init_138 : decode cX3_init 138 = .ok (.aload_n 0, 1) := by decide +kernel
theorem dX3_init_139 : decode cX3_init 139 = .ok (.bipush 6, 2) := by decide +kernel
theorem dX3_init_141 : decode cX3_init 141 = .ok (.newarray .int, 2) := by decide +kernel
theorem dX3_init_143 : decode cX3_init 143 = .ok (.putfield 66, 3) := by decide +kernel
theorem dX3_init_146 : decode cX3_init 146 = .ok (.aload_n 0, 1) := by decide +kernel
theorem dX3_init_147 : decode cX3_init 147 = .ok (.bipush 6, 2) := by decide +kernel
theorem dX3_init_149 : decode cX3_init 149 = .ok (.newarray .int, 2) := by decide +kernel
theorem dX3_init_151 : decode cX3_init 151 = .ok (.putfield 69, 3) := by decide +kernel
theorem dX3_init_154 : decode cX3_init 154 = .ok (.aload_n 0, 1) := by decide +kernel
theorem dX3_init_155 : decode cX3_init 155 = .ok (.bipush 24, 2) := by decide +kernel
theorem dX3_init_157 : decode cX3_init 157 = .ok (.newarray .int, 2) := by decide +kernel
theorem dX3_init_159 : decode cX3_init 159 = .ok (.putfield 72, 3) := by decide +kernel
theorem dX3_init_162 : decode cX3_init 162 = .ok (.aload_n 0, 1) := by decide +kernel
theorem dX3_init_163 : decode cX3_init 163 = .ok (.bipush 24, 2) := by decide +kernel
theorem dX3_init_165 : decode cX3_init 165 = .ok (.newarray .int, 2) := by decide +kernel
theorem dX3_init_167 : decode cX3_init 167 = .ok (.putfield 75, 3) := by decide +kernel
theorem dX3_init_170 : decode cX3_init 170 = .ok (.iconst 0, 1) := by decide +kernel
theorem dX3_init_171 : decode cX3_init 171 = .ok (.istore_n 1, 1) := by decide +kernel
theorem dX3_init_172 : decode cX3_init 172 = .ok (.iload_n 1, 1) := by decide +kernel
theorem dX3_init_173 : decode cX3_init 173 = .ok (.bipush 6, 2) := by decide +kernel
theorem dX3_init_175 : decode cX3_init 175 = .ok (.if_icmp .ge 16, 3) := by decide +kernel
theorem dX3_init_178 : decode cX3_init 178 = .ok (.aload_n 0, 1) := by decide +kernel
theorem dX3_init_179 : decode cX3_init 179 = .ok (.getfield 60, 3) := by decide +kernel
theorem dX3_init_182 : decode cX3_init 182 = .ok (.iload_n 1, 1) := by decide +kernel
theorem dX3_init_183 : decode cX3_init 183 = .ok (.iconst (-1), 1) := by decide +kernel
theorem dX3_init_184 : decode cX3_init 184 = .ok (.iastore, 1) := by decide +kernel
theorem dX3_init_185 : decode cX3_init 185 = .ok (.iinc 1 1, 3) := by decide +kernel
theorem dX3_init_188 : decode cX3_init 188 = .ok (.goto (-16), 3) := by decide +kernel
theorem dX3_init_191 : decode cX3_init 191 = .ok (.return_, 1) := by decide +kernel
theorem dX3_thrown_0 : decode cX3_thrown 0 = .ok (.aload_n 0, 1) := by decide +kernel
theorem dX3_thrown_1 : decode cX3_thrown 1 = .ok (.getfield 78, 3) := by decide +kernel
theorem dX3_thrown_4 : decode cX3_thrown 4 = .ok (.ireturn, 1) := by decide +kernel
theorem dX3_can_0 : decode cX3_can 0 = .ok (.aload_n 0, 1) := by decide +kernel
theorem dX3_can_1 : decode cX3_can 1 = .ok (.iload_n 1, 1) := by decide +kernel
theorem dX3_can_2 : decode cX3_can 2 = .ok (.putfield 78, 3) := by decide +kernel
theorem dX3_can_5 : decode cX3_can 5 = .ok (.iload_n 1, 1) := by decide +kernel
theorem dX3_can_6 : decode cX3_can 6 = .ok (.ifCond .ne 7, 3) := by decide +kernel
theorem dX3_can_9 : decode cX3_can 9 = .ok (.iconst 1, 1) := by decide +kernel
theorem dX3_can_10 : decode cX3_can 10 = .ok (.goto 4, 3) := by decide +kernel
theorem dX3_can_13 : decode cX3_can 13 = .ok (.iconst 0, 1) := by decide +kernel
theorem dX3_can_14 : decode cX3_can 14 = .ok (.ireturn, 1) := by decide +kernel
theorem dX3_isIn_0 : decode cX3_isIn 0 = .ok (.iload_n 0, 1) := by decide +kernel
theorem dX3_isIn_1 : decode cX3_isIn 1 = .ok (.iload_n 1, 1) := by decide +kernel
theorem dX3_isIn_2 : decode cX3_isIn 2 = .ok (.if_icmp .lt 12, 3) := by decide +kernel
theorem dX3_isIn_5 : decode cX3_isIn 5 = .ok (.iload_n 0, 1) := by decide +kernel
theorem dX3_isIn_6 : decode cX3_isIn 6 = .ok (.iload_n 2, 1) := by decide +kernel
theorem dX3_isIn_7 : decode cX3_isIn 7 = .ok (.if_icmp .gt 7, 3) := by decide +kernel
theorem dX3_isIn_10 : decode cX3_isIn 10 = .ok (.iconst 1, 1) := by decide +kernel
theorem dX3_isIn_11 : decode cX3_isIn 11 = .ok (.goto 4, 3) := by decide +kernel
theorem dX3_isIn_14 : decode cX3_isIn 14 = .ok (.iconst 0, 1) := by decide +kernel
theorem dX3_isIn_15 : decode cX3_isIn 15 = .ok (.ireturn, 1) := by decide +kernel
theorem dX3_isMachine_0 : decode cX3_isMachine 0 = .ok (.iload_n 1, 1) := by decide +kernel
theorem dX3_isMachine_1 : decode cX3_isMachine 1 = .ok (.iconst 0, 1) := by decide +kernel
theorem dX3_isMachine_2 : decode cX3_isMachine 2 = .ok (.aload_n 0, 1) := by decide +kernel
theorem dX3_isMachine_3 : decode cX3_isMachine 3 = .ok (.getfield 81, 3) := by decide +kernel
theorem dX3_isMachine_6 : decode cX3_isMachine 6 = .ok (.iconst 1, 1) := by decide +kernel
theorem dX3_isMachine_7 : decode cX3_isMachine 7 = .ok (.isub, 1) := by decide +kernel
theorem dX3_isMachine_8 : decode cX3_isMachine 8 = .ok (.invokestatic 84, 3) := by decide +kernel
theorem dX3_isMachine_11 : decode cX3_isMachine 11 = .ok (.ireturn, 1) := by decide +kernel
theorem dX3_isWorker_0 : decode cX3_isWorker 0 = .ok (.iload_n 0, 1) := by decide +kernel
theorem dX3_isWorker_1 : decode cX3_isWorker 1 = .ok (.iconst 0, 1) := by decide +kernel
theorem dX3_isWorker_2 : decode cX3_isWorker 2 = .ok (.iconst 5, 1) := by decide +kernel
theorem dX3_isWorker_3 : decode cX3_isWorker 3 = .ok (.invokestatic 84, 3) := by decide +kernel
theorem dX3_isWorker_6 : decode cX3_isWorker 6 = .ok (.ireturn, 1) := by decide +kernel
theorem dX3_wagon_0 : decode cX3_wagon 0 = .ok (.iload_n 1, 1) := by decide +kernel
theorem dX3_wagon_1 : decode cX3_wagon 1 = .ok (.iconst 0, 1) := by decide +kernel
theorem dX3_wagon_2 : decode cX3_wagon 2 = .ok (.iconst 2, 1) := by decide +kernel
theorem dX3_wagon_3 : decode cX3_wagon 3 = .ok (.invokestatic 84, 3) := by decide +kernel
theorem dX3_wagon_6 : decode cX3_wagon 6 = .ok (.ifCond .eq 39, 3) := by decide +kernel
theorem dX3_wagon_9 : decode cX3_wagon 9 = .ok (.iload_n 2, 1) := by decide +kernel
theorem dX3_wagon_10 : decode cX3_wagon 10 = .ok (.iconst 0, 1) := by decide +kernel
theorem dX3_wagon_11 : decode cX3_wagon 11 = .ok (.sipush 200, 3) := by decide +kernel
theorem dX3_wagon_14 : decode cX3_wagon 14 = .ok (.invokestatic 84, 3) := by decide +kernel
theorem dX3_wagon_17 : decode cX3_wagon 17 = .ok (.ifCond .eq 28, 3) := by decide +kernel
theorem dX3_wagon_20 : decode cX3_wagon 20 = .ok (.iload_n 3, 1) := by decide +kernel
theorem dX3_wagon_21 : decode cX3_wagon 21 = .ok (.iconst 1, 1) := by decide +kernel
theorem dX3_wagon_22 : decode cX3_wagon 22 = .ok (.bipush 20, 2) := by decide +kernel
theorem dX3_wagon_24 : decode cX3_wagon 24 = .ok (.invokestatic 84, 3) := by decide +kernel
theorem dX3_wagon_27 : decode cX3_wagon 27 = .ok (.ifCond .eq 18, 3) := by decide +kernel
theorem dX3_wagon_30 : decode cX3_wagon 30 = .ok (.iload 4, 2) := by decide +kernel
theorem dX3_wagon_32 : decode cX3_wagon 32 = .ok (.iconst 1, 1) := by decide +kernel
theorem dX3_wagon_33 : decode cX3_wagon 33 = .ok (.bipush 10, 2) := by decide +kernel
theorem dX3_wagon_35 : decode cX3_wagon 35 = .ok (.invokestatic 84, 3) := by decide +kernel
theorem dX3_wagon_38 : decode cX3_wagon 38 = .ok (.ifCond .eq 7, 3) := by decide +kernel
theorem dX3_wagon_41 : decode cX3_wagon 41 = .ok (.iconst 1, 1) := by decide +kernel
theorem dX3_wagon_42 : decode cX3_wagon 42 = .ok (.goto 4, 3) := by decide +kernel
theorem dX3_wagon_45 : decode cX3_wagon 45 = .ok (.iconst 0, 1) := by decide +kernel
theorem dX3_wagon_46 : decode cX3_wagon 46 = .ok (.istore 5, 2) := by decide +kernel
theorem dX3_wagon_48 : decode cX3_wagon 48 = .ok (.aload_n 0, 1) := by decide +kernel
theorem dX3_wagon_49 : decode cX3_wagon 49 = .ok (.iload 5, 2) := by decide +kernel
theorem dX3_wagon_51 : decode cX3_wagon 51 = .ok (.ifCond .ne 7, 3) := by decide +kernel
theorem dX3_wagon_54 : decode cX3_wagon 54 = .ok (.iconst 1, 1) := by decide +kernel
theorem dX3_wagon_55 : decode cX3_wagon 55 = .ok (.goto 17, 3) := by decide +kernel
theorem dX3_wagon_58 : decode cX3_wagon 58 = .ok (.aload_n 0, 1) := by decide +kernel
theorem dX3_wagon_59 : decode cX3_wagon 59 = .ok (.getfield 81, 3) := by decide +kernel
theorem dX3_wagon_62 : decode cX3_wagon 62 = .ok (.bipush 6, 2) := by decide +kernel
theorem dX3_wagon_64 : decode cX3_wagon 64 = .ok (.if_icmp .ne 7, 3) := by decide +kernel
theorem dX3_wagon_67 : decode cX3_wagon 67 = .ok (.iconst 2, 1) := by decide +kernel
theorem dX3_wagon_68 : decode cX3_wagon 68 = .ok (.goto 4, 3) := by decide +kernel
theorem dX3_wagon_71 : decode cX3_wagon 71 = .ok (.iconst 0, 1) := by decide +kernel
theorem dX3_wagon_72 : decode cX3_wagon 72 = .ok (.invokevirtual 88, 3) := by decide +kernel
theorem dX3_wagon_75 : decode cX3_wagon 75 = .ok (.ifCond .ne 5, 3) := by decide +kernel
theorem dX3_wagon_78 : decode cX3_wagon 78 = .ok (.iconst 0, 1) := by decide +kernel
theorem dX3_wagon_79 : decode cX3_wagon 79 = .ok (.ireturn, 1) := by decide +kernel
theorem dX3_wagon_80 : decode cX3_wagon 80 = .ok (.aload_n 0, 1) := by decide +kernel
theorem dX3_wagon_81 : decode cX3_wagon 81 = .ok (.getfield 13, 3) := by decide +kernel
theorem dX3_wagon_84 : decode cX3_wagon 84 = .ok (.aload_n 0, 1) := by decide +kernel
theorem dX3_wagon_85 : decode cX3_wagon 85 = .ok (.getfield 81, 3) := by decide +kernel
theorem dX3_wagon_88 : decode cX3_wagon 88 = .ok (.iload_n 1, 1) := by decide +kernel
theorem dX3_wagon_89 : decode cX3_wagon 89 = .ok (.iastore, 1) := by decide +kernel
theorem dX3_wagon_90 : decode cX3_wagon 90 = .ok (.aload_n 0, 1) := by decide +kernel
theorem dX3_wagon_91 : decode cX3_wagon 91 = .ok (.getfield 17, 3) := by decide +kernel
theorem dX3_wagon_94 : decode cX3_wagon 94 = .ok (.aload_n 0, 1) := by decide +kernel
theorem dX3_wagon_95 : decode cX3_wagon 95 = .ok (.getfield 81, 3) := by decide +kernel
theorem dX3_wagon_98 : decode cX3_wagon 98 = .ok (.iload_n 3, 1) := by decide +kernel
theorem dX3_wagon_99 : decode cX3_wagon 99 = .ok (.iastore, 1) := by decide +kernel
theorem dX3_wagon_100 : decode cX3_wagon 100 = .ok (.aload_n 0, 1) := by decide +kernel
theorem dX3_wagon_101 : decode cX3_wagon 101 = .ok (.getfield 20, 3) := by decide +kernel
theorem dX3_wagon_104 : decode cX3_wagon 104 = .ok (.aload_n 0, 1) := by decide +kernel
theorem dX3_wagon_105 : decode cX3_wagon 105 = .ok (.getfield 81, 3) := by decide +kernel
theorem dX3_wagon_108 : decode cX3_wagon 108 = .ok (.iload 4, 2) := by decide +kernel
theorem dX3_wagon_110 : decode cX3_wagon 110 = .ok (.iastore, 1) := by decide +kernel
theorem dX3_wagon_111 : decode cX3_wagon 111 = .ok (.aload_n 0, 1) := by decide +kernel
theorem dX3_wagon_112 : decode cX3_wagon 112 = .ok (.getfield 23, 3) := by decide +kernel
theorem dX3_wagon_115 : decode cX3_wagon 115 = .ok (.aload_n 0, 1) := by decide +kernel
theorem dX3_wagon_116 : decode cX3_wagon 116 = .ok (.getfield 81, 3) := by decide +kernel
theorem dX3_wagon_119 : decode cX3_wagon 119 = .ok (.iload_n 2, 1) := by decide +kernel
theorem dX3_wagon_120 : decode cX3_wagon 120 = .ok (.iastore, 1) := by decide +kernel
theorem dX3_wagon_121 : decode cX3_wagon 121 = .ok (.aload_n 0, 1) := by decide +kernel
theorem dX3_wagon_122 : decode cX3_wagon 122 = .ok (.dup, 1) := by decide +kernel
theorem dX3_wagon_123 : decode cX3_wagon 123 = .ok (.getfield 81, 3) := by decide +kernel
theorem dX3_wagon_126 : decode cX3_wagon 126 = .ok (.iconst 1, 1) := by decide +kernel
theorem dX3_wagon_127 : decode cX3_wagon 127 = .ok (.iadd, 1) := by decide +kernel
theorem dX3_wagon_128 : decode cX3_wagon 128 = .ok (.putfield 81, 3) := by decide +kernel
theorem dX3_wagon_131 : decode cX3_wagon 131 = .ok (.aload_n 0, 1) := by decide +kernel
theorem dX3_wagon_132 : decode cX3_wagon 132 = .ok (.getfield 81, 3) := by decide +kernel
theorem dX3_wagon_135 : decode cX3_wagon 135 = .ok (.iconst 1, 1) := by decide +kernel
theorem dX3_wagon_136 : decode cX3_wagon 136 = .ok (.isub, 1) := by decide +kernel
theorem dX3_wagon_137 : decode cX3_wagon 137 = .ok (.ireturn, 1) := by decide +kernel
theorem dX3_turntable_0 : decode cX3_turntable 0 = .ok (.aload_n 0, 1) := by decide +kernel
theorem dX3_turntable_1 : decode cX3_turntable 1 = .ok (.iload_n 1, 1) := by decide +kernel
theorem dX3_turntable_2 : decode cX3_turntable 2 = .ok (.iconst 0, 1) := by decide +kernel
theorem dX3_turntable_3 : decode cX3_turntable 3 = .ok (.sipush 359, 3) := by decide +kernel
theorem dX3_turntable_6 : decode cX3_turntable 6 = .ok (.invokestatic 84, 3) := by decide +kernel
theorem dX3_turntable_9 : decode cX3_turntable 9 = .ok (.ifCond .eq 13, 3) := by decide +kernel
theorem dX3_turntable_12 : decode cX3_turntable 12 = .ok (.iload_n 2, 1) := by decide +kernel
theorem dX3_turntable_13 : decode cX3_turntable 13 = .ok (.iconst 1, 1) := by decide +kernel
theorem dX3_turntable_14 : decode cX3_turntable 14 = .ok (.bipush 10, 2) := by decide +kernel
theorem dX3_turntable_16 : decode cX3_turntable 16 = .ok (.invokestatic 84, 3) := by decide +kernel
theorem dX3_turntable_19 : decode cX3_turntable 19 = .ok (.ifCond .ne 7, 3) := by decide +kernel
theorem dX3_turntable_22 : decode cX3_turntable 22 = .ok (.iconst 1, 1) := by decide +kernel
theorem dX3_turntable_23 : decode cX3_turntable 23 = .ok (.goto 17, 3) := by decide +kernel
theorem dX3_turntable_26 : decode cX3_turntable 26 = .ok (.aload_n 0, 1) := by decide +kernel
theorem dX3_turntable_27 : decode cX3_turntable 27 = .ok (.getfield 81, 3) := by decide +kernel
theorem dX3_turntable_30 : decode cX3_turntable 30 = .ok (.bipush 6, 2) := by decide +kernel
theorem dX3_turntable_32 : decode cX3_turntable 32 = .ok (.if_icmp .ne 7, 3) := by decide +kernel
theorem dX3_turntable_35 : decode cX3_turntable 35 = .ok (.iconst 2, 1) := by decide +kernel
theorem dX3_turntable_36 : decode cX3_turntable 36 = .ok (.goto 4, 3) := by decide +kernel
theorem dX3_turntable_39 : decode cX3_turntable 39 = .ok (.iconst 0, 1) := by decide +kernel
theorem dX3_turntable_40 : decode cX3_turntable 40 = .ok (.invokevirtual 88, 3) := by decide +kernel
theorem dX3_turntable_43 : decode cX3_turntable 43 = .ok (.ifCond .ne 5, 3) := by decide +kernel
theorem dX3_turntable_46 : decode cX3_turntable 46 = .ok (.iconst 0, 1) := by decide +kernel
theorem dX3_turntable_47 : decode cX3_turntable 47 = .ok (.ireturn, 1) := by decide +kernel
theorem dX3_turntable_48 : decode cX3_turntable 48 = .ok (.aload_n 0, 1) := by decide +kernel
theorem dX3_turntable_49 : decode cX3_turntable 49 = .ok (.getfield 7, 3) := by decide +kernel
theorem dX3_turntable_52 : decode cX3_turntable 52 = .ok (.aload_n 0, 1) := by decide +kernel
theorem dX3_turntable_53 : decode cX3_turntable 53 = .ok (.getfield 81, 3) := by decide +kernel
theorem dX3_turntable_56 : decode cX3_turntable 56 = .ok (.iconst 1, 1) := by decide +kernel
theorem dX3_turntable_57 : decode cX3_turntable 57 = .ok (.bastore, 1) := by decide +kernel
theorem dX3_turntable_58 : decode cX3_turntable 58 = .ok (.aload_n 0, 1) := by decide +kernel
theorem dX3_turntable_59 : decode cX3_turntable 59 = .ok (.getfield 20, 3) := by decide +kernel
theorem dX3_turntable_62 : decode cX3_turntable 62 = .ok (.aload_n 0, 1) := by decide +kernel
theorem dX3_turntable_63 : decode cX3_turntable 63 = .ok (.getfield 81, 3) := by decide +kernel
theorem dX3_turntable_66 : decode cX3_turntable 66 = .ok (.iload_n 2, 1) := by decide +kernel
theorem dX3_turntable_67 : decode cX3_turntable 67 = .ok (.iastore, 1) := by decide +kernel
theorem dX3_turntable_68 : decode cX3_turntable 68 = .ok (.aload_n 0, 1) := by decide +kernel
theorem dX3_turntable_69 : decode cX3_turntable 69 = .ok (.getfield 23, 3) := by decide +kernel
theorem dX3_turntable_72 : decode cX3_turntable 72 = .ok (.aload_n 0, 1) := by decide +kernel
theorem dX3_turntable_73 : decode cX3_turntable 73 = .ok (.getfield 81, 3) := by decide +kernel
theorem dX3_turntable_76 : decode cX3_turntable 76 = .ok (.iload_n 1, 1) := by decide +kernel
theorem dX3_turntable_77 : decode cX3_turntable 77 = .ok (.iastore, 1) := by decide +kernel
theorem dX3_turntable_78 : decode cX3_turntable 78 = .ok (.aload_n 0, 1) := by decide +kernel
theorem dX3_turntable_79 : decode cX3_turntable 79 = .ok (.dup, 1) := by decide +kernel
theorem dX3_turntable_80 : decode cX3_turntable 80 = .ok (.getfield 81, 3) := by decide +kernel
theorem dX3_turntable_83 : decode cX3_turntable 83 = .ok (.iconst 1, 1) := by decide +kernel
theorem dX3_turntable_84 : decode cX3_turntable 84 = .ok (.iadd, 1) := by decide +kernel
theorem dX3_turntable_85 : decode cX3_turntable 85 = .ok (.putfield 81, 3) := by decide +kernel
theorem dX3_turntable_88 : decode cX3_turntable 88 = .ok (.aload_n 0, 1) := by decide +kernel
theorem dX3_turntable_89 : decode cX3_turntable 89 = .ok (.getfield 81, 3) := by decide +kernel
theorem dX3_turntable_92 : decode cX3_turntable 92 = .ok (.iconst 1, 1) := by decide +kernel
theorem dX3_turntable_93 : decode cX3_turntable 93 = .ok (.isub, 1) := by decide +kernel
theorem dX3_turntable_94 : decode cX3_turntable 94 = .ok (.ireturn, 1) := by decide +kernel
theorem dX3_setScore_0 : decode cX3_setScore 0 = .ok (.iconst 1, 1) := by decide +kernel
theorem dX3_setScore_1 : decode cX3_setScore 1 = .ok (.istore_n 3, 1) := by decide +kernel
theorem dX3_setScore_2 : decode cX3_setScore 2 = .ok (.iconst 0, 1) := by decide +kernel
theorem dX3_setScore_3 : decode cX3_setScore 3 = .ok (.istore 4, 2) := by decide +kernel
theorem dX3_setScore_5 : decode cX3_setScore 5 = .ok (.iload 4, 2) := by decide +kernel
theorem dX3_setScore_7 : decode cX3_setScore 7 = .ok (.aload_n 0, 1) := by decide +kernel
theorem dX3_setScore_8 : decode cX3_setScore 8 = .ok (.getfield 92, 3) := by decide +kernel
theorem dX3_setScore_11 : decode cX3_setScore 11 = .ok (.if_icmp .ge 40, 3) := by decide +kernel
theorem dX3_setScore_14 : decode cX3_setScore 14 = .ok (.iload_n 3, 1) := by decide +kernel
theorem dX3_setScore_15 : decode cX3_setScore 15 = .ok (.ifCond .eq 28, 3) := by decide +kernel
theorem dX3_setScore_18 : decode cX3_setScore 18 = .ok (.aload_n 0, 1) := by decide +kernel
theorem dX3_setScore_19 : decode cX3_setScore 19 = .ok (.getfield 38, 3) := by decide +kernel
theorem dX3_setScore_22 : decode cX3_setScore 22 = .ok (.iload 4, 2) := by decide +kernel
theorem dX3_setScore_24 : decode cX3_setScore 24 = .ok (.baload, 1) := by decide +kernel
theorem dX3_setScore_25 : decode cX3_setScore 25 = .ok (.ifCond .ne 14, 3) := by decide +kernel
theorem dX3_setScore_28 : decode cX3_setScore 28 = .ok (.aload_n 0, 1) := by decide +kernel
theorem dX3_setScore_29 : decode cX3_setScore 29 = .ok (.getfield 26, 3) := by decide +kernel
theorem dX3_setScore_32 : decode cX3_setScore 32 = .ok (.iload 4, 2) := by decide +kernel
theorem dX3_setScore_34 : decode cX3_setScore 34 = .ok (.iaload, 1) := by decide +kernel
theorem dX3_setScore_35 : decode cX3_setScore 35 = .ok (.iload_n 1, 1) := by decide +kernel
theorem dX3_setScore_36 : decode cX3_setScore 36 = .ok (.if_icmp .ge 7, 3) := by decide +kernel
theorem dX3_setScore_39 : decode cX3_setScore 39 = .ok (.iconst 1, 1) := by decide +kernel
theorem dX3_setScore_40 : decode cX3_setScore 40 = .ok (.goto 4, 3) := by decide +kernel
theorem dX3_setScore_43 : decode cX3_setScore 43 = .ok (.iconst 0, 1) := by decide +kernel
theorem dX3_setScore_44 : decode cX3_setScore 44 = .ok (.istore_n 3, 1) := by decide +kernel
theorem dX3_setScore_45 : decode cX3_setScore 45 = .ok (.iinc 4 1, 3) := by decide +kernel
theorem dX3_setScore_48 : decode cX3_setScore 48 = .ok (.goto (-43), 3) := by decide +kernel
theorem dX3_setScore_51 : decode cX3_setScore 51 = .ok (.aload_n 0, 1) := by decide +kernel
theorem dX3_setScore_52 : decode cX3_setScore 52 = .ok (.iload_n 1, 1) := by decide +kernel
theorem dX3_setScore_53 : decode cX3_setScore 53 = .ok (.iconst 1, 1) := by decide +kernel
theorem dX3_setScore_54 : decode cX3_setScore 54 = .ok (.bipush 30, 2) := by decide +kernel
theorem dX3_setScore_56 : decode cX3_setScore 56 = .ok (.invokestatic 84, 3) := by decide +kernel
theorem dX3_setScore_59 : decode cX3_setScore 59 = .ok (.ifCond .eq 13, 3) := by decide +kernel
theorem dX3_setScore_62 : decode cX3_setScore 62 = .ok (.iload_n 2, 1) := by decide +kernel
theorem dX3_setScore_63 : decode cX3_setScore 63 = .ok (.iconst 1, 1) := by decide +kernel
theorem dX3_setScore_64 : decode cX3_setScore 64 = .ok (.bipush 40, 2) := by decide +kernel
theorem dX3_setScore_66 : decode cX3_setScore 66 = .ok (.invokestatic 84, 3) := by decide +kernel
theorem dX3_setScore_69 : decode cX3_setScore 69 = .ok (.ifCond .ne 7, 3) := by decide +kernel
theorem dX3_setScore_72 : decode cX3_setScore 72 = .ok (.iconst 1, 1) := by decide +kernel
theorem dX3_setScore_73 : decode cX3_setScore 73 = .ok (.goto 12, 3) := by decide +kernel
theorem dX3_setScore_76 : decode cX3_setScore 76 = .ok (.iload_n 3, 1) := by decide +kernel
theorem dX3_setScore_77 : decode cX3_setScore 77 = .ok (.ifCond .eq 7, 3) := by decide +kernel
theorem dX3_setScore_80 : decode cX3_setScore 80 = .ok (.iconst 0, 1) := by decide +kernel
theorem dX3_setScore_81 : decode cX3_setScore 81 = .ok (.goto 4, 3) := by decide +kernel
theorem dX3_setScore_84 : decode cX3_setScore 84 = .ok (.iconst 2, 1) := by decide +kernel
theorem dX3_setScore_85 : decode cX3_setScore 85 = .ok (.invokevirtual 88, 3) := by decide +kernel
theorem dX3_setScore_88 : decode cX3_setScore 88 = .ok (.ifCond .eq 13, 3) := by decide +kernel
theorem dX3_setScore_91 : decode cX3_setScore 91 = .ok (.aload_n 0, 1) := by decide +kernel
theorem dX3_setScore_92 : decode cX3_setScore 92 = .ok (.iload_n 1, 1) := by decide +kernel
theorem dX3_setScore_93 : decode cX3_setScore 93 = .ok (.putfield 41, 3) := by decide +kernel
theorem dX3_setScore_96 : decode cX3_setScore 96 = .ok (.aload_n 0, 1) := by decide +kernel
theorem dX3_setScore_97 : decode cX3_setScore 97 = .ok (.iload_n 2, 1) := by decide +kernel
theorem dX3_setScore_98 : decode cX3_setScore 98 = .ok (.putfield 45, 3) := by decide +kernel
theorem dX3_setScore_101 : decode cX3_setScore 101 = .ok (.return_, 1) := by decide +kernel
theorem dX3_cue_0 : decode cX3_cue 0 = .ok (.aload_n 0, 1) := by decide +kernel
theorem dX3_cue_1 : decode cX3_cue 1 = .ok (.iload_n 1, 1) := by decide +kernel
theorem dX3_cue_2 : decode cX3_cue 2 = .ok (.invokevirtual 95, 3) := by decide +kernel
theorem dX3_cue_5 : decode cX3_cue 5 = .ok (.istore 5, 2) := by decide +kernel
theorem dX3_cue_7 : decode cX3_cue 7 = .ok (.iload 5, 2) := by decide +kernel
theorem dX3_cue_9 : decode cX3_cue 9 = .ok (.ifCond .eq 55, 3) := by decide +kernel
theorem dX3_cue_12 : decode cX3_cue 12 = .ok (.iload_n 2, 1) := by decide +kernel
theorem dX3_cue_13 : decode cX3_cue 13 = .ok (.iconst 0, 1) := by decide +kernel
theorem dX3_cue_14 : decode cX3_cue 14 = .ok (.aload_n 0, 1) := by decide +kernel
theorem dX3_cue_15 : decode cX3_cue 15 = .ok (.getfield 41, 3) := by decide +kernel
theorem dX3_cue_18 : decode cX3_cue 18 = .ok (.iconst 1, 1) := by decide +kernel
theorem dX3_cue_19 : decode cX3_cue 19 = .ok (.isub, 1) := by decide +kernel
theorem dX3_cue_20 : decode cX3_cue 20 = .ok (.invokestatic 84, 3) := by decide +kernel
theorem dX3_cue_23 : decode cX3_cue 23 = .ok (.ifCond .eq 41, 3) := by decide +kernel
theorem dX3_cue_26 : decode cX3_cue 26 = .ok (.iload_n 3, 1) := by decide +kernel
theorem dX3_cue_27 : decode cX3_cue 27 = .ok (.iconst 0, 1) := by decide +kernel
theorem dX3_cue_28 : decode cX3_cue 28 = .ok (.aload_n 0, 1) := by decide +kernel
theorem dX3_cue_29 : decode cX3_cue 29 = .ok (.getfield 7, 3) := by decide +kernel
theorem dX3_cue_32 : decode cX3_cue 32 = .ok (.iload_n 1, 1) := by decide +kernel
theorem dX3_cue_33 : decode cX3_cue 33 = .ok (.baload, 1) := by decide +kernel
theorem dX3_cue_34 : decode cX3_cue 34 = .ok (.ifCond .eq 9, 3) := by decide +kernel
theorem dX3_cue_37 : decode cX3_cue 37 = .ok (.sipush 359, 3) := by decide +kernel
theorem dX3_cue_40 : decode cX3_cue 40 = .ok (.goto 6, 3) := by decide +kernel
theorem dX3_cue_43 : decode cX3_cue 43 = .ok (.sipush 200, 3) := by decide +kernel
theorem dX3_cue_46 : decode cX3_cue 46 = .ok (.invokestatic 84, 3) := by decide +kernel
theorem dX3_cue_49 : decode cX3_cue 49 = .ok (.ifCond .eq 15, 3) := by decide +kernel
theorem dX3_cue_52 : decode cX3_cue 52 = .ok (.iload 4, 2) := by decide +kernel
theorem dX3_cue_54 : decode cX3_cue 54 = .ok (.invokestatic 98, 3) := by decide +kernel
theorem dX3_cue_57 : decode cX3_cue 57 = .ok (.ifCond .eq 7, 3) := by decide +kernel
theorem dX3_cue_60 : decode cX3_cue 60 = .ok (.iconst 1, 1) := by decide +kernel
theorem dX3_cue_61 : decode cX3_cue 61 = .ok (.goto 4, 3) := by decide +kernel
theorem dX3_cue_64 : decode cX3_cue 64 = .ok (.iconst 0, 1) := by decide +kernel
theorem dX3_cue_65 : decode cX3_cue 65 = .ok (.istore 6, 2) := by decide +kernel
theorem dX3_cue_67 : decode cX3_cue 67 = .ok (.aload_n 0, 1) := by decide +kernel
theorem dX3_cue_68 : decode cX3_cue 68 = .ok (.iload 5, 2) := by decide +kernel
theorem dX3_cue_70 : decode cX3_cue 70 = .ok (.ifCond .ne 7, 3) := by decide +kernel
theorem dX3_cue_73 : decode cX3_cue 73 = .ok (.iconst 1, 1) := by decide +kernel
theorem dX3_cue_74 : decode cX3_cue 74 = .ok (.goto 26, 3) := by decide +kernel
theorem dX3_cue_77 : decode cX3_cue 77 = .ok (.iload 6, 2) := by decide +kernel
theorem dX3_cue_79 : decode cX3_cue 79 = .ok (.ifCond .ne 7, 3) := by decide +kernel
theorem dX3_cue_82 : decode cX3_cue 82 = .ok (.iconst 2, 1) := by decide +kernel
theorem dX3_cue_83 : decode cX3_cue 83 = .ok (.goto 17, 3) := by decide +kernel
theorem dX3_cue_86 : decode cX3_cue 86 = .ok (.aload_n 0, 1) := by decide +kernel
theorem dX3_cue_87 : decode cX3_cue 87 = .ok (.getfield 92, 3) := by decide +kernel
theorem dX3_cue_90 : decode cX3_cue 90 = .ok (.bipush 24, 2) := by decide +kernel
theorem dX3_cue_92 : decode cX3_cue 92 = .ok (.if_icmp .ne 7, 3) := by decide +kernel
theorem dX3_cue_95 : decode cX3_cue 95 = .ok (.iconst 3, 1) := by decide +kernel
theorem dX3_cue_96 : decode cX3_cue 96 = .ok (.goto 4, 3) := by decide +kernel
theorem dX3_cue_99 : decode cX3_cue 99 = .ok (.iconst 0, 1) := by decide +kernel
theorem dX3_cue_100 : decode cX3_cue 100 = .ok (.invokevirtual 88, 3) := by decide +kernel
theorem dX3_cue_103 : decode cX3_cue 103 = .ok (.ifCond .ne 5, 3) := by decide +kernel
theorem dX3_cue_106 : decode cX3_cue 106 = .ok (.iconst 0, 1) := by decide +kernel
theorem dX3_cue_107 : decode cX3_cue 107 = .ok (.ireturn, 1) := by decide +kernel
theorem dX3_cue_108 : decode cX3_cue 108 = .ok (.aload_n 0, 1) := by decide +kernel
theorem dX3_cue_109 : decode cX3_cue 109 = .ok (.getfield 29, 3) := by decide +kernel
theorem dX3_cue_112 : decode cX3_cue 112 = .ok (.aload_n 0, 1) := by decide +kernel
theorem dX3_cue_113 : decode cX3_cue 113 = .ok (.getfield 92, 3) := by decide +kernel
theorem dX3_cue_116 : decode cX3_cue 116 = .ok (.iload_n 1, 1) := by decide +kernel
theorem dX3_cue_117 : decode cX3_cue 117 = .ok (.iastore, 1) := by decide +kernel
theorem dX3_cue_118 : decode cX3_cue 118 = .ok (.aload_n 0, 1) := by decide +kernel
theorem dX3_cue_119 : decode cX3_cue 119 = .ok (.getfield 26, 3) := by decide +kernel
theorem dX3_cue_122 : decode cX3_cue 122 = .ok (.aload_n 0, 1) := by decide +kernel
theorem dX3_cue_123 : decode cX3_cue 123 = .ok (.getfield 92, 3) := by decide +kernel
theorem dX3_cue_126 : decode cX3_cue 126 = .ok (.iload_n 2, 1) := by decide +kernel
theorem dX3_cue_127 : decode cX3_cue 127 = .ok (.iastore, 1) := by decide +kernel
theorem dX3_cue_128 : decode cX3_cue 128 = .ok (.aload_n 0, 1) := by decide +kernel
theorem dX3_cue_129 : decode cX3_cue 129 = .ok (.getfield 32, 3) := by decide +kernel
theorem dX3_cue_132 : decode cX3_cue 132 = .ok (.aload_n 0, 1) := by decide +kernel
theorem dX3_cue_133 : decode cX3_cue 133 = .ok (.getfield 92, 3) := by decide +kernel
theorem dX3_cue_136 : decode cX3_cue 136 = .ok (.iload_n 3, 1) := by decide +kernel
theorem dX3_cue_137 : decode cX3_cue 137 = .ok (.iastore, 1) := by decide +kernel
theorem dX3_cue_138 : decode cX3_cue 138 = .ok (.aload_n 0, 1) := by decide +kernel
theorem dX3_cue_139 : decode cX3_cue 139 = .ok (.getfield 35, 3) := by decide +kernel
theorem dX3_cue_142 : decode cX3_cue 142 = .ok (.aload_n 0, 1) := by decide +kernel
theorem dX3_cue_143 : decode cX3_cue 143 = .ok (.getfield 92, 3) := by decide +kernel
theorem dX3_cue_146 : decode cX3_cue 146 = .ok (.iload 4, 2) := by decide +kernel
theorem dX3_cue_148 : decode cX3_cue 148 = .ok (.iastore, 1) := by decide +kernel
theorem dX3_cue_149 : decode cX3_cue 149 = .ok (.aload_n 0, 1) := by decide +kernel
theorem dX3_cue_150 : decode cX3_cue 150 = .ok (.dup, 1) := by decide +kernel
theorem dX3_cue_151 : decode cX3_cue 151 = .ok (.getfield 92, 3) := by decide +kernel
theorem dX3_cue_154 : decode cX3_cue 154 = .ok (.iconst 1, 1) := by decide +kernel
theorem dX3_cue_155 : decode cX3_cue 155 = .ok (.iadd, 1) := by decide +kernel
theorem dX3_cue_156 : decode cX3_cue 156 = .ok (.putfield 92, 3) := by decide +kernel
theorem dX3_cue_159 : decode cX3_cue 159 = .ok (.aload_n 0, 1) := by decide +kernel
theorem dX3_cue_160 : decode cX3_cue 160 = .ok (.getfield 92, 3) := by decide +kernel
theorem dX3_cue_163 : decode cX3_cue 163 = .ok (.iconst 1, 1) := by decide +kernel
theorem dX3_cue_164 : decode cX3_cue 164 = .ok (.isub, 1) := by decide +kernel
theorem dX3_cue_165 : decode cX3_cue 165 = .ok (.ireturn, 1) := by decide +kernel
theorem dX3_isCue_0 : decode cX3_isCue 0 = .ok (.iload_n 1, 1) := by decide +kernel
theorem dX3_isCue_1 : decode cX3_isCue 1 = .ok (.iconst 0, 1) := by decide +kernel
theorem dX3_isCue_2 : decode cX3_isCue 2 = .ok (.aload_n 0, 1) := by decide +kernel
theorem dX3_isCue_3 : decode cX3_isCue 3 = .ok (.getfield 92, 3) := by decide +kernel
theorem dX3_isCue_6 : decode cX3_isCue 6 = .ok (.iconst 1, 1) := by decide +kernel
theorem dX3_isCue_7 : decode cX3_isCue 7 = .ok (.isub, 1) := by decide +kernel
theorem dX3_isCue_8 : decode cX3_isCue 8 = .ok (.invokestatic 84, 3) := by decide +kernel
theorem dX3_isCue_11 : decode cX3_isCue 11 = .ok (.ifCond .eq 16, 3) := by decide +kernel
theorem dX3_isCue_14 : decode cX3_isCue 14 = .ok (.aload_n 0, 1) := by decide +kernel
theorem dX3_isCue_15 : decode cX3_isCue 15 = .ok (.getfield 38, 3) := by decide +kernel
theorem dX3_isCue_18 : decode cX3_isCue 18 = .ok (.iload_n 1, 1) := by decide +kernel
theorem dX3_isCue_19 : decode cX3_isCue 19 = .ok (.baload, 1) := by decide +kernel
theorem dX3_isCue_20 : decode cX3_isCue 20 = .ok (.ifCond .ne 7, 3) := by decide +kernel
theorem dX3_isCue_23 : decode cX3_isCue 23 = .ok (.iconst 1, 1) := by decide +kernel
theorem dX3_isCue_24 : decode cX3_isCue 24 = .ok (.goto 4, 3) := by decide +kernel
theorem dX3_isCue_27 : decode cX3_isCue 27 = .ok (.iconst 0, 1) := by decide +kernel
theorem dX3_isCue_28 : decode cX3_isCue 28 = .ok (.ireturn, 1) := by decide +kernel
theorem dX3_strikeOut_0 : decode cX3_strikeOut 0 = .ok (.aload_n 0, 1) := by decide +kernel
theorem dX3_strikeOut_1 : decode cX3_strikeOut 1 = .ok (.aload_n 0, 1) := by decide +kernel
theorem dX3_strikeOut_2 : decode cX3_strikeOut 2 = .ok (.iload_n 1, 1) := by decide +kernel
theorem dX3_strikeOut_3 : decode cX3_strikeOut 3 = .ok (.invokevirtual 101, 3) := by decide +kernel
theorem dX3_strikeOut_6 : decode cX3_strikeOut 6 = .ok (.ifCond .eq 7, 3) := by decide +kernel
theorem dX3_strikeOut_9 : decode cX3_strikeOut 9 = .ok (.iconst 0, 1) := by decide +kernel
theorem dX3_strikeOut_10 : decode cX3_strikeOut 10 = .ok (.goto 4, 3) := by decide +kernel
theorem dX3_strikeOut_13 : decode cX3_strikeOut 13 = .ok (.iconst 1, 1) := by decide +kernel
theorem dX3_strikeOut_14 : decode cX3_strikeOut 14 = .ok (.invokevirtual 88, 3) := by decide +kernel
theorem dX3_strikeOut_17 : decode cX3_strikeOut 17 = .ok (.ifCond .ne 5, 3) := by decide +kernel
theorem dX3_strikeOut_20 : decode cX3_strikeOut 20 = .ok (.iconst 0, 1) := by decide +kernel
theorem dX3_strikeOut_21 : decode cX3_strikeOut 21 = .ok (.ireturn, 1) := by decide +kernel
theorem dX3_strikeOut_22 : decode cX3_strikeOut 22 = .ok (.aload_n 0, 1) := by decide +kernel
theorem dX3_strikeOut_23 : decode cX3_strikeOut 23 = .ok (.getfield 38, 3) := by decide +kernel
theorem dX3_strikeOut_26 : decode cX3_strikeOut 26 = .ok (.iload_n 1, 1) := by decide +kernel
theorem dX3_strikeOut_27 : decode cX3_strikeOut 27 = .ok (.iconst 1, 1) := by decide +kernel
theorem dX3_strikeOut_28 : decode cX3_strikeOut 28 = .ok (.bastore, 1) := by decide +kernel
theorem dX3_strikeOut_29 : decode cX3_strikeOut 29 = .ok (.aload_n 0, 1) := by decide +kernel
theorem dX3_strikeOut_30 : decode cX3_strikeOut 30 = .ok (.getfield 26, 3) := by decide +kernel
theorem dX3_strikeOut_33 : decode cX3_strikeOut 33 = .ok (.iload_n 1, 1) := by decide +kernel
theorem dX3_strikeOut_34 : decode cX3_strikeOut 34 = .ok (.iaload, 1) := by decide +kernel
theorem dX3_strikeOut_35 : decode cX3_strikeOut 35 = .ok (.ireturn, 1) := by decide +kernel
theorem dX3_setTempo_0 : decode cX3_setTempo 0 = .ok (.aload_n 0, 1) := by decide +kernel
theorem dX3_setTempo_1 : decode cX3_setTempo 1 = .ok (.iload_n 1, 1) := by decide +kernel
theorem dX3_setTempo_2 : decode cX3_setTempo 2 = .ok (.bipush 50, 2) := by decide +kernel
theorem dX3_setTempo_4 : decode cX3_setTempo 4 = .ok (.sipush 200, 3) := by decide +kernel
theorem dX3_setTempo_7 : decode cX3_setTempo 7 = .ok (.invokestatic 84, 3) := by decide +kernel
theorem dX3_setTempo_10 : decode cX3_setTempo 10 = .ok (.ifCond .eq 7, 3) := by decide +kernel
theorem dX3_setTempo_13 : decode cX3_setTempo 13 = .ok (.iconst 0, 1) := by decide +kernel
theorem dX3_setTempo_14 : decode cX3_setTempo 14 = .ok (.goto 4, 3) := by decide +kernel
theorem dX3_setTempo_17 : decode cX3_setTempo 17 = .ok (.iconst 1, 1) := by decide +kernel
theorem dX3_setTempo_18 : decode cX3_setTempo 18 = .ok (.invokevirtual 88, 3) := by decide +kernel
theorem dX3_setTempo_21 : decode cX3_setTempo 21 = .ok (.ifCond .ne 5, 3) := by decide +kernel
theorem dX3_setTempo_24 : decode cX3_setTempo 24 = .ok (.iconst 0, 1) := by decide +kernel
theorem dX3_setTempo_25 : decode cX3_setTempo 25 = .ok (.ireturn, 1) := by decide +kernel
theorem dX3_setTempo_26 : decode cX3_setTempo 26 = .ok (.aload_n 0, 1) := by decide +kernel
theorem dX3_setTempo_27 : decode cX3_setTempo 27 = .ok (.getfield 48, 3) := by decide +kernel
theorem dX3_setTempo_30 : decode cX3_setTempo 30 = .ok (.istore_n 2, 1) := by decide +kernel
theorem dX3_setTempo_31 : decode cX3_setTempo 31 = .ok (.aload_n 0, 1) := by decide +kernel
theorem dX3_setTempo_32 : decode cX3_setTempo 32 = .ok (.iload_n 1, 1) := by decide +kernel
theorem dX3_setTempo_33 : decode cX3_setTempo 33 = .ok (.putfield 48, 3) := by decide +kernel
theorem dX3_setTempo_36 : decode cX3_setTempo 36 = .ok (.iload_n 2, 1) := by decide +kernel
theorem dX3_setTempo_37 : decode cX3_setTempo 37 = .ok (.ireturn, 1) := by decide +kernel
theorem dX3_setRules_0 : decode cX3_setRules 0 = .ok (.aload_n 0, 1) := by decide +kernel
theorem dX3_setRules_1 : decode cX3_setRules 1 = .ok (.iload_n 1, 1) := by decide +kernel
theorem dX3_setRules_2 : decode cX3_setRules 2 = .ok (.iconst 0, 1) := by decide +kernel
theorem dX3_setRules_3 : decode cX3_setRules 3 = .ok (.bipush 100, 2) := by decide +kernel
theorem dX3_setRules_5 : decode cX3_setRules 5 = .ok (.invokestatic 84, 3) := by decide +kernel
theorem dX3_setRules_8 : decode cX3_setRules 8 = .ok (.ifCond .eq 18, 3) := by decide +kernel
theorem dX3_setRules_11 : decode cX3_setRules 11 = .ok (.iload_n 2, 1) := by decide +kernel
theorem dX3_setRules_12 : decode cX3_setRules 12 = .ok (.iconst 0, 1) := by decide +kernel
theorem dX3_setRules_13 : decode cX3_setRules 13 = .ok (.sipush 2400, 3) := by decide +kernel
theorem dX3_setRules_16 : decode cX3_setRules 16 = .ok (.invokestatic 84, 3) := by decide +kernel
theorem dX3_setRules_19 : decode cX3_setRules 19 = .ok (.ifCond .eq 7, 3) := by decide +kernel
theorem dX3_setRules_22 : decode cX3_setRules 22 = .ok (.iconst 0, 1) := by decide +kernel
theorem dX3_setRules_23 : decode cX3_setRules 23 = .ok (.goto 4, 3) := by decide +kernel
theorem dX3_setRules_26 : decode cX3_setRules 26 = .ok (.iconst 1, 1) := by decide +kernel
theorem dX3_setRules_27 : decode cX3_setRules 27 = .ok (.invokevirtual 88, 3) := by decide +kernel
theorem dX3_setRules_30 : decode cX3_setRules 30 = .ok (.ifCond .eq 13, 3) := by decide +kernel
theorem dX3_setRules_33 : decode cX3_setRules 33 = .ok (.aload_n 0, 1) := by decide +kernel
theorem dX3_setRules_34 : decode cX3_setRules 34 = .ok (.iload_n 1, 1) := by decide +kernel
theorem dX3_setRules_35 : decode cX3_setRules 35 = .ok (.putfield 51, 3) := by decide +kernel
theorem dX3_setRules_38 : decode cX3_setRules 38 = .ok (.aload_n 0, 1) := by decide +kernel
theorem dX3_setRules_39 : decode cX3_setRules 39 = .ok (.iload_n 2, 1) := by decide +kernel
theorem dX3_setRules_40 : decode cX3_setRules 40 = .ok (.putfield 54, 3) := by decide +kernel
theorem dX3_setRules_43 : decode cX3_setRules 43 = .ok (.return_, 1) := by decide +kernel
theorem dX3_strike_0 : decode cX3_strike 0 = .ok (.aload_n 0, 1) := by decide +kernel
theorem dX3_strike_1 : decode cX3_strike 1 = .ok (.iload_n 1, 1) := by decide +kernel
theorem dX3_strike_2 : decode cX3_strike 2 = .ok (.invokestatic 98, 3) := by decide +kernel
theorem dX3_strike_5 : decode cX3_strike 5 = .ok (.ifCond .eq 7, 3) := by decide +kernel
theorem dX3_strike_8 : decode cX3_strike 8 = .ok (.iconst 0, 1) := by decide +kernel
theorem dX3_strike_9 : decode cX3_strike 9 = .ok (.goto 4, 3) := by decide +kernel
theorem dX3_strike_12 : decode cX3_strike 12 = .ok (.iconst 1, 1) := by decide +kernel
theorem dX3_strike_13 : decode cX3_strike 13 = .ok (.invokevirtual 88, 3) := by decide +kernel
theorem dX3_strike_16 : decode cX3_strike 16 = .ok (.ifCond .ne 5, 3) := by decide +kernel
theorem dX3_strike_19 : decode cX3_strike 19 = .ok (.iconst 0, 1) := by decide +kernel
theorem dX3_strike_20 : decode cX3_strike 20 = .ok (.ireturn, 1) := by decide +kernel
theorem dX3_strike_21 : decode cX3_strike 21 = .ok (.aload_n 0, 1) := by decide +kernel
theorem dX3_strike_22 : decode cX3_strike 22 = .ok (.getfield 57, 3) := by decide +kernel
theorem dX3_strike_25 : decode cX3_strike 25 = .ok (.iload_n 1, 1) := by decide +kernel
theorem dX3_strike_26 : decode cX3_strike 26 = .ok (.baload, 1) := by decide +kernel
theorem dX3_strike_27 : decode cX3_strike 27 = .ok (.istore_n 3, 1) := by decide +kernel
theorem dX3_strike_28 : decode cX3_strike 28 = .ok (.aload_n 0, 1) := by decide +kernel
theorem dX3_strike_29 : decode cX3_strike 29 = .ok (.getfield 57, 3) := by decide +kernel
theorem dX3_strike_32 : decode cX3_strike 32 = .ok (.iload_n 1, 1) := by decide +kernel
theorem dX3_strike_33 : decode cX3_strike 33 = .ok (.iload_n 2, 1) := by decide +kernel
theorem dX3_strike_34 : decode cX3_strike 34 = .ok (.bastore, 1) := by decide +kernel
theorem dX3_strike_35 : decode cX3_strike 35 = .ok (.iload_n 3, 1) := by decide +kernel
theorem dX3_strike_36 : decode cX3_strike 36 = .ok (.ireturn, 1) := by decide +kernel
theorem dX3_substitute_0 : decode cX3_substitute 0 = .ok (.aload_n 0, 1) := by decide +kernel
theorem dX3_substitute_1 : decode cX3_substitute 1 = .ok (.iload_n 1, 1) := by decide +kernel
theorem dX3_substitute_2 : decode cX3_substitute 2 = .ok (.invokestatic 98, 3) := by decide +kernel
theorem dX3_substitute_5 : decode cX3_substitute 5 = .ok (.ifCond .eq 16, 3) := by decide +kernel
theorem dX3_substitute_8 : decode cX3_substitute 8 = .ok (.iload_n 2, 1) := by decide +kernel
theorem dX3_substitute_9 : decode cX3_substitute 9 = .ok (.iconst (-1), 1) := by decide +kernel
theorem dX3_substitute_10 : decode cX3_substitute 10 = .ok (.iconst 5, 1) := by decide +kernel
theorem dX3_substitute_11 : decode cX3_substitute 11 = .ok (.invokestatic 84, 3) := by decide +kernel
theorem dX3_substitute_14 : decode cX3_substitute 14 = .ok (.ifCond .eq 7, 3) := by decide +kernel
theorem dX3_substitute_17 : decode cX3_substitute 17 = .ok (.iconst 0, 1) := by decide +kernel
theorem dX3_substitute_18 : decode cX3_substitute 18 = .ok (.goto 4, 3) := by decide +kernel
theorem dX3_substitute_21 : decode cX3_substitute 21 = .ok (.iconst 1, 1) := by decide +kernel
theorem dX3_substitute_22 : decode cX3_substitute 22 = .ok (.invokevirtual 88, 3) := by decide +kernel
theorem dX3_substitute_25 : decode cX3_substitute 25 = .ok (.ifCond .ne 5, 3) := by decide +kernel
theorem dX3_substitute_28 : decode cX3_substitute 28 = .ok (.iconst 0, 1) := by decide +kernel
theorem dX3_substitute_29 : decode cX3_substitute 29 = .ok (.ireturn, 1) := by decide +kernel
theorem dX3_substitute_30 : decode cX3_substitute 30 = .ok (.aload_n 0, 1) := by decide +kernel
theorem dX3_substitute_31 : decode cX3_substitute 31 = .ok (.getfield 60, 3) := by decide +kernel
theorem dX3_substitute_34 : decode cX3_substitute 34 = .ok (.iload_n 1, 1) := by decide +kernel
theorem dX3_substitute_35 : decode cX3_substitute 35 = .ok (.iaload, 1) := by decide +kernel
theorem dX3_substitute_36 : decode cX3_substitute 36 = .ok (.istore_n 3, 1) := by decide +kernel
theorem dX3_substitute_37 : decode cX3_substitute 37 = .ok (.aload_n 0, 1) := by decide +kernel
theorem dX3_substitute_38 : decode cX3_substitute 38 = .ok (.getfield 60, 3) := by decide +kernel
theorem dX3_substitute_41 : decode cX3_substitute 41 = .ok (.iload_n 1, 1) := by decide +kernel
theorem dX3_substitute_42 : decode cX3_substitute 42 = .ok (.iload_n 2, 1) := by decide +kernel
theorem dX3_substitute_43 : decode cX3_substitute 43 = .ok (.iastore, 1) := by decide +kernel
theorem dX3_substitute_44 : decode cX3_substitute 44 = .ok (.iload_n 3, 1) := by decide +kernel
theorem dX3_substitute_45 : decode cX3_substitute 45 = .ok (.ireturn, 1) := by decide +kernel
theorem dX3_lengthBy_0 : decode cX3_lengthBy 0 = .ok (.aload_n 0, 1) := by decide +kernel
theorem dX3_lengthBy_1 : decode cX3_lengthBy 1 = .ok (.getfield 45, 3) := by decide +kernel
theorem dX3_lengthBy_4 : decode cX3_lengthBy 4 = .ok (.bipush 100, 2) := by decide +kernel
theorem dX3_lengthBy_6 : decode cX3_lengthBy 6 = .ok (.imul, 1) := by decide +kernel
theorem dX3_lengthBy_7 : decode cX3_lengthBy 7 = .ok (.iload_n 1, 1) := by decide +kernel
theorem dX3_lengthBy_8 : decode cX3_lengthBy 8 = .ok (.idiv, 1) := by decide +kernel
theorem dX3_lengthBy_9 : decode cX3_lengthBy 9 = .ok (.istore_n 2, 1) := by decide +kernel
theorem dX3_lengthBy_10 : decode cX3_lengthBy 10 = .ok (.iload_n 2, 1) := by decide +kernel
theorem dX3_lengthBy_11 : decode cX3_lengthBy 11 = .ok (.iconst 1, 1) := by decide +kernel
theorem dX3_lengthBy_12 : decode cX3_lengthBy 12 = .ok (.if_icmp .ge 7, 3) := by decide +kernel
theorem dX3_lengthBy_15 : decode cX3_lengthBy 15 = .ok (.iconst 1, 1) := by decide +kernel
theorem dX3_lengthBy_16 : decode cX3_lengthBy 16 = .ok (.goto 4, 3) := by decide +kernel
theorem dX3_lengthBy_19 : decode cX3_lengthBy 19 = .ok (.iload_n 2, 1) := by decide +kernel
theorem dX3_lengthBy_20 : decode cX3_lengthBy 20 = .ok (.ireturn, 1) := by decide +kernel
theorem dX3_bar_0 : decode cX3_bar 0 = .ok (.aload_n 0, 1) := by decide +kernel
theorem dX3_bar_1 : decode cX3_bar 1 = .ok (.iconst 0, 1) := by decide +kernel
theorem dX3_bar_2 : decode cX3_bar 2 = .ok (.putfield 78, 3) := by decide +kernel
theorem dX3_bar_5 : decode cX3_bar 5 = .ok (.aload_n 0, 1) := by decide +kernel
theorem dX3_bar_6 : decode cX3_bar 6 = .ok (.aload_n 0, 1) := by decide +kernel
theorem dX3_bar_7 : decode cX3_bar 7 = .ok (.getfield 48, 3) := by decide +kernel
theorem dX3_bar_10 : decode cX3_bar 10 = .ok (.invokevirtual 104, 3) := by decide +kernel
theorem dX3_bar_13 : decode cX3_bar 13 = .ok (.ireturn, 1) := by decide +kernel
theorem dX3_end_0 : decode cX3_end 0 = .ok (.aload_n 0, 1) := by decide +kernel
theorem dX3_end_1 : decode cX3_end 1 = .ok (.iconst 0, 1) := by decide +kernel
theorem dX3_end_2 : decode cX3_end 2 = .ok (.putfield 78, 3) := by decide +kernel
theorem dX3_end_5 : decode cX3_end 5 = .ok (.aload_n 0, 1) := by decide +kernel
theorem dX3_end_6 : decode cX3_end 6 = .ok (.getfield 41, 3) := by decide +kernel
theorem dX3_end_9 : decode cX3_end 9 = .ok (.aload_n 0, 1) := by decide +kernel
theorem dX3_end_10 : decode cX3_end 10 = .ok (.aload_n 0, 1) := by decide +kernel
theorem dX3_end_11 : decode cX3_end 11 = .ok (.getfield 48, 3) := by decide +kernel
theorem dX3_end_14 : decode cX3_end 14 = .ok (.invokevirtual 104, 3) := by decide +kernel
theorem dX3_end_17 : decode cX3_end 17 = .ok (.imul, 1) := by decide +kernel
theorem dX3_end_18 : decode cX3_end 18 = .ok (.ireturn, 1) := by decide +kernel
theorem dX3_effect_0 : decode cX3_effect 0 = .ok (.iconst (-1), 1) := by decide +kernel
theorem dX3_effect_1 : decode cX3_effect 1 = .ok (.istore_n 3, 1) := by decide +kernel
theorem dX3_effect_2 : decode cX3_effect 2 = .ok (.iconst 0, 1) := by decide +kernel
theorem dX3_effect_3 : decode cX3_effect 3 = .ok (.istore 4, 2) := by decide +kernel
theorem dX3_effect_5 : decode cX3_effect 5 = .ok (.iload 4, 2) := by decide +kernel
theorem dX3_effect_7 : decode cX3_effect 7 = .ok (.aload_n 0, 1) := by decide +kernel
theorem dX3_effect_8 : decode cX3_effect 8 = .ok (.getfield 92, 3) := by decide +kernel
theorem dX3_effect_11 : decode cX3_effect 11 = .ok (.if_icmp .ge 48, 3) := by decide +kernel
theorem dX3_effect_14 : decode cX3_effect 14 = .ok (.aload_n 0, 1) := by decide +kernel
theorem dX3_effect_15 : decode cX3_effect 15 = .ok (.getfield 38, 3) := by decide +kernel
theorem dX3_effect_18 : decode cX3_effect 18 = .ok (.iload 4, 2) := by decide +kernel
theorem dX3_effect_20 : decode cX3_effect 20 = .ok (.baload, 1) := by decide +kernel
theorem dX3_effect_21 : decode cX3_effect 21 = .ok (.ifCond .ne 30, 3) := by decide +kernel
theorem dX3_effect_24 : decode cX3_effect 24 = .ok (.aload_n 0, 1) := by decide +kernel
theorem dX3_effect_25 : decode cX3_effect 25 = .ok (.getfield 29, 3) := by decide +kernel
theorem dX3_effect_28 : decode cX3_effect 28 = .ok (.iload 4, 2) := by decide +kernel
theorem dX3_effect_30 : decode cX3_effect 30 = .ok (.iaload, 1) := by decide +kernel
theorem dX3_effect_31 : decode cX3_effect 31 = .ok (.iload_n 1, 1) := by decide +kernel
theorem dX3_effect_32 : decode cX3_effect 32 = .ok (.if_icmp .ne 19, 3) := by decide +kernel
theorem dX3_effect_35 : decode cX3_effect 35 = .ok (.aload_n 0, 1) := by decide +kernel
theorem dX3_effect_36 : decode cX3_effect 36 = .ok (.getfield 26, 3) := by decide +kernel
theorem dX3_effect_39 : decode cX3_effect 39 = .ok (.iload 4, 2) := by decide +kernel
theorem dX3_effect_41 : decode cX3_effect 41 = .ok (.iaload, 1) := by decide +kernel
theorem dX3_effect_42 : decode cX3_effect 42 = .ok (.iload_n 2, 1) := by decide +kernel
theorem dX3_effect_43 : decode cX3_effect 43 = .ok (.if_icmp .ne 8, 3) := by decide +kernel
theorem dX3_effect_46 : decode cX3_effect 46 = .ok (.iload 4, 2) := by decide +kernel
theorem dX3_effect_48 : decode cX3_effect 48 = .ok (.goto 4, 3) := by decide +kernel
theorem dX3_effect_51 : decode cX3_effect 51 = .ok (.iload_n 3, 1) := by decide +kernel
theorem dX3_effect_52 : decode cX3_effect 52 = .ok (.istore_n 3, 1) := by decide +kernel
theorem dX3_effect_53 : decode cX3_effect 53 = .ok (.iinc 4 1, 3) := by decide +kernel
theorem dX3_effect_56 : decode cX3_effect 56 = .ok (.goto (-51), 3) := by decide +kernel
theorem dX3_effect_59 : decode cX3_effect 59 = .ok (.iload_n 3, 1) := by decide +kernel
theorem dX3_effect_60 : decode cX3_effect 60 = .ok (.ireturn, 1) := by decide +kernel
theorem dX3_sets_0 : decode cX3_sets 0 = .ok (.iconst 0, 1) := by decide +kernel
theorem dX3_sets_1 : decode cX3_sets 1 = .ok (.istore_n 1, 1) := by decide +kernel
theorem dX3_sets_2 : decode cX3_sets 2 = .ok (.iload_n 1, 1) := by decide +kernel
theorem dX3_sets_3 : decode cX3_sets 3 = .ok (.aload_n 0, 1) := by decide +kernel
theorem dX3_sets_4 : decode cX3_sets 4 = .ok (.getfield 81, 3) := by decide +kernel
theorem dX3_sets_7 : decode cX3_sets 7 = .ok (.if_icmp .ge 40, 3) := by decide +kernel
theorem dX3_sets_10 : decode cX3_sets 10 = .ok (.aload_n 0, 1) := by decide +kernel
theorem dX3_sets_11 : decode cX3_sets 11 = .ok (.getfield 63, 3) := by decide +kernel
theorem dX3_sets_14 : decode cX3_sets 14 = .ok (.iload_n 1, 1) := by decide +kernel
theorem dX3_sets_15 : decode cX3_sets 15 = .ok (.aload_n 0, 1) := by decide +kernel
theorem dX3_sets_16 : decode cX3_sets 16 = .ok (.getfield 23, 3) := by decide +kernel
theorem dX3_sets_19 : decode cX3_sets 19 = .ok (.iload_n 1, 1) := by decide +kernel
theorem dX3_sets_20 : decode cX3_sets 20 = .ok (.iaload, 1) := by decide +kernel
theorem dX3_sets_21 : decode cX3_sets 21 = .ok (.iastore, 1) := by decide +kernel
theorem dX3_sets_22 : decode cX3_sets 22 = .ok (.aload_n 0, 1) := by decide +kernel
theorem dX3_sets_23 : decode cX3_sets 23 = .ok (.getfield 66, 3) := by decide +kernel
theorem dX3_sets_26 : decode cX3_sets 26 = .ok (.iload_n 1, 1) := by decide +kernel
theorem dX3_sets_27 : decode cX3_sets 27 = .ok (.aload_n 0, 1) := by decide +kernel
theorem dX3_sets_28 : decode cX3_sets 28 = .ok (.getfield 23, 3) := by decide +kernel
theorem dX3_sets_31 : decode cX3_sets 31 = .ok (.iload_n 1, 1) := by decide +kernel
theorem dX3_sets_32 : decode cX3_sets 32 = .ok (.iaload, 1) := by decide +kernel
theorem dX3_sets_33 : decode cX3_sets 33 = .ok (.iastore, 1) := by decide +kernel
theorem dX3_sets_34 : decode cX3_sets 34 = .ok (.aload_n 0, 1) := by decide +kernel
theorem dX3_sets_35 : decode cX3_sets 35 = .ok (.getfield 69, 3) := by decide +kernel
theorem dX3_sets_38 : decode cX3_sets 38 = .ok (.iload_n 1, 1) := by decide +kernel
theorem dX3_sets_39 : decode cX3_sets 39 = .ok (.iconst (-1), 1) := by decide +kernel
theorem dX3_sets_40 : decode cX3_sets 40 = .ok (.iastore, 1) := by decide +kernel
theorem dX3_sets_41 : decode cX3_sets 41 = .ok (.iinc 1 1, 3) := by decide +kernel
theorem dX3_sets_44 : decode cX3_sets 44 = .ok (.goto (-42), 3) := by decide +kernel
theorem dX3_sets_47 : decode cX3_sets 47 = .ok (.return_, 1) := by decide +kernel
theorem dX3_moves_0 : decode cX3_moves 0 = .ok (.aload_n 0, 1) := by decide +kernel
theorem dX3_moves_1 : decode cX3_moves 1 = .ok (.getfield 66, 3) := by decide +kernel
theorem dX3_moves_4 : decode cX3_moves 4 = .ok (.iload_n 1, 1) := by decide +kernel
theorem dX3_moves_5 : decode cX3_moves 5 = .ok (.iaload, 1) := by decide +kernel
theorem dX3_moves_6 : decode cX3_moves 6 = .ok (.aload_n 0, 1) := by decide +kernel
theorem dX3_moves_7 : decode cX3_moves 7 = .ok (.getfield 63, 3) := by decide +kernel
theorem dX3_moves_10 : decode cX3_moves 10 = .ok (.iload_n 1, 1) := by decide +kernel
theorem dX3_moves_11 : decode cX3_moves 11 = .ok (.iaload, 1) := by decide +kernel
theorem dX3_moves_12 : decode cX3_moves 12 = .ok (.isub, 1) := by decide +kernel
theorem dX3_moves_13 : decode cX3_moves 13 = .ok (.istore_n 2, 1) := by decide +kernel
theorem dX3_moves_14 : decode cX3_moves 14 = .ok (.aload_n 0, 1) := by decide +kernel
theorem dX3_moves_15 : decode cX3_moves 15 = .ok (.getfield 7, 3) := by decide +kernel
theorem dX3_moves_18 : decode cX3_moves 18 = .ok (.iload_n 1, 1) := by decide +kernel
theorem dX3_moves_19 : decode cX3_moves 19 = .ok (.baload, 1) := by decide +kernel
theorem dX3_moves_20 : decode cX3_moves 20 = .ok (.ifCond .eq 34, 3) := by decide +kernel
theorem dX3_moves_23 : decode cX3_moves 23 = .ok (.iload_n 2, 1) := by decide +kernel
theorem dX3_moves_24 : decode cX3_moves 24 = .ok (.ifCond .ge 11, 3) := by decide +kernel
theorem dX3_moves_27 : decode cX3_moves 27 = .ok (.iload_n 2, 1) := by decide +kernel
theorem dX3_moves_28 : decode cX3_moves 28 = .ok (.sipush 360, 3) := by decide +kernel
theorem dX3_moves_31 : decode cX3_moves 31 = .ok (.iadd, 1) := by decide +kernel
theorem dX3_moves_32 : decode cX3_moves 32 = .ok (.goto 4, 3) := by decide +kernel
theorem dX3_moves_35 : decode cX3_moves 35 = .ok (.iload_n 2, 1) := by decide +kernel
theorem dX3_moves_36 : decode cX3_moves 36 = .ok (.istore_n 2, 1) := by decide +kernel
theorem dX3_moves_37 : decode cX3_moves 37 = .ok (.iload_n 2, 1) := by decide +kernel
theorem dX3_moves_38 : decode cX3_moves 38 = .ok (.sipush 180, 3) := by decide +kernel
theorem dX3_moves_41 : decode cX3_moves 41 = .ok (.if_icmp .le 11, 3) := by decide +kernel
theorem dX3_moves_44 : decode cX3_moves 44 = .ok (.iload_n 2, 1) := by decide +kernel
theorem dX3_moves_45 : decode cX3_moves 45 = .ok (.sipush 360, 3) := by decide +kernel
theorem dX3_moves_48 : decode cX3_moves 48 = .ok (.isub, 1) := by decide +kernel
theorem dX3_moves_49 : decode cX3_moves 49 = .ok (.goto 4, 3) := by decide +kernel
theorem dX3_moves_52 : decode cX3_moves 52 = .ok (.iload_n 2, 1) := by decide +kernel
theorem dX3_moves_53 : decode cX3_moves 53 = .ok (.istore_n 2, 1) := by decide +kernel
theorem dX3_moves_54 : decode cX3_moves 54 = .ok (.aload_n 0, 1) := by decide +kernel
theorem dX3_moves_55 : decode cX3_moves 55 = .ok (.getfield 20, 3) := by decide +kernel
theorem dX3_moves_58 : decode cX3_moves 58 = .ok (.iload_n 1, 1) := by decide +kernel
theorem dX3_moves_59 : decode cX3_moves 59 = .ok (.iaload, 1) := by decide +kernel
theorem dX3_moves_60 : decode cX3_moves 60 = .ok (.istore_n 3, 1) := by decide +kernel
theorem dX3_moves_61 : decode cX3_moves 61 = .ok (.iload_n 2, 1) := by decide +kernel
theorem dX3_moves_62 : decode cX3_moves 62 = .ok (.iload_n 3, 1) := by decide +kernel
theorem dX3_moves_63 : decode cX3_moves 63 = .ok (.if_icmp .le 7, 3) := by decide +kernel
theorem dX3_moves_66 : decode cX3_moves 66 = .ok (.iload_n 3, 1) := by decide +kernel
theorem dX3_moves_67 : decode cX3_moves 67 = .ok (.goto 15, 3) := by decide +kernel
theorem dX3_moves_70 : decode cX3_moves 70 = .ok (.iload_n 2, 1) := by decide +kernel
theorem dX3_moves_71 : decode cX3_moves 71 = .ok (.iload_n 3, 1) := by decide +kernel
theorem dX3_moves_72 : decode cX3_moves 72 = .ok (.ineg, 1) := by decide +kernel
theorem dX3_moves_73 : decode cX3_moves 73 = .ok (.if_icmp .ge 8, 3) := by decide +kernel
theorem dX3_moves_76 : decode cX3_moves 76 = .ok (.iload_n 3, 1) := by decide +kernel
theorem dX3_moves_77 : decode cX3_moves 77 = .ok (.ineg, 1) := by decide +kernel
theorem dX3_moves_78 : decode cX3_moves 78 = .ok (.goto 4, 3) := by decide +kernel
theorem dX3_moves_81 : decode cX3_moves 81 = .ok (.iload_n 2, 1) := by decide +kernel
theorem dX3_moves_82 : decode cX3_moves 82 = .ok (.istore_n 2, 1) := by decide +kernel
theorem dX3_moves_83 : decode cX3_moves 83 = .ok (.aload_n 0, 1) := by decide +kernel
theorem dX3_moves_84 : decode cX3_moves 84 = .ok (.getfield 63, 3) := by decide +kernel
theorem dX3_moves_87 : decode cX3_moves 87 = .ok (.iload_n 1, 1) := by decide +kernel
theorem dX3_moves_88 : decode cX3_moves 88 = .ok (.dup2, 1) := by decide +kernel
theorem dX3_moves_89 : decode cX3_moves 89 = .ok (.iaload, 1) := by decide +kernel
theorem dX3_moves_90 : decode cX3_moves 90 = .ok (.iload_n 2, 1) := by decide +kernel
theorem dX3_moves_91 : decode cX3_moves 91 = .ok (.iadd, 1) := by decide +kernel
theorem dX3_moves_92 : decode cX3_moves 92 = .ok (.iastore, 1) := by decide +kernel
theorem dX3_moves_93 : decode cX3_moves 93 = .ok (.aload_n 0, 1) := by decide +kernel
theorem dX3_moves_94 : decode cX3_moves 94 = .ok (.getfield 7, 3) := by decide +kernel
theorem dX3_moves_97 : decode cX3_moves 97 = .ok (.iload_n 1, 1) := by decide +kernel
theorem dX3_moves_98 : decode cX3_moves 98 = .ok (.baload, 1) := by decide +kernel
theorem dX3_moves_99 : decode cX3_moves 99 = .ok (.ifCond .eq 23, 3) := by decide +kernel
theorem dX3_moves_102 : decode cX3_moves 102 = .ok (.aload_n 0, 1) := by decide +kernel
theorem dX3_moves_103 : decode cX3_moves 103 = .ok (.getfield 63, 3) := by decide +kernel
theorem dX3_moves_106 : decode cX3_moves 106 = .ok (.iload_n 1, 1) := by decide +kernel
theorem dX3_moves_107 : decode cX3_moves 107 = .ok (.aload_n 0, 1) := by decide +kernel
theorem dX3_moves_108 : decode cX3_moves 108 = .ok (.getfield 63, 3) := by decide +kernel
theorem dX3_moves_111 : decode cX3_moves 111 = .ok (.iload_n 1, 1) := by decide +kernel
theorem dX3_moves_112 : decode cX3_moves 112 = .ok (.iaload, 1) := by decide +kernel
theorem dX3_moves_113 : decode cX3_moves 113 = .ok (.sipush 360, 3) := by decide +kernel
theorem dX3_moves_116 : decode cX3_moves 116 = .ok (.iadd, 1) := by decide +kernel
theorem dX3_moves_117 : decode cX3_moves 117 = .ok (.sipush 360, 3) := by decide +kernel
theorem dX3_moves_120 : decode cX3_moves 120 = .ok (.irem, 1) := by decide +kernel
theorem dX3_moves_121 : decode cX3_moves 121 = .ok (.iastore, 1) := by decide +kernel
theorem dX3_moves_122 : decode cX3_moves 122 = .ok (.return_, 1) := by decide +kernel
theorem dX3_placeAt_0 : decode cX3_placeAt 0 = .ok (.aload_n 0, 1) := by decide +kernel
theorem dX3_placeAt_1 : decode cX3_placeAt 1 = .ok (.aload_n 0, 1) := by decide +kernel
theorem dX3_placeAt_2 : decode cX3_placeAt 2 = .ok (.getfield 48, 3) := by decide +kernel
theorem dX3_placeAt_5 : decode cX3_placeAt 5 = .ok (.invokevirtual 104, 3) := by decide +kernel
theorem dX3_placeAt_8 : decode cX3_placeAt 8 = .ok (.istore_n 3, 1) := by decide +kernel
theorem dX3_placeAt_9 : decode cX3_placeAt 9 = .ok (.aload_n 0, 1) := by decide +kernel
theorem dX3_placeAt_10 : decode cX3_placeAt 10 = .ok (.invokevirtual 108, 3) := by decide +kernel
theorem dX3_placeAt_13 : decode cX3_placeAt 13 = .ok (.iconst 0, 1) := by decide +kernel
theorem dX3_placeAt_14 : decode cX3_placeAt 14 = .ok (.istore 4, 2) := by decide +kernel
theorem dX3_placeAt_16 : decode cX3_placeAt 16 = .ok (.iload 4, 2) := by decide +kernel
theorem dX3_placeAt_18 : decode cX3_placeAt 18 = .ok (.iload_n 2, 1) := by decide +kernel
theorem dX3_placeAt_19 : decode cX3_placeAt 19 = .ok (.if_icmp .ge 64, 3) := by decide +kernel
theorem dX3_placeAt_22 : decode cX3_placeAt 22 = .ok (.iload 4, 2) := by decide +kernel
theorem dX3_placeAt_24 : decode cX3_placeAt 24 = .ok (.iload_n 3, 1) := by decide +kernel
theorem dX3_placeAt_25 : decode cX3_placeAt 25 = .ok (.irem, 1) := by decide +kernel
theorem dX3_placeAt_26 : decode cX3_placeAt 26 = .ok (.ifCond .ne 15, 3) := by decide +kernel
theorem dX3_placeAt_29 : decode cX3_placeAt 29 = .ok (.aload_n 0, 1) := by decide +kernel
theorem dX3_placeAt_30 : decode cX3_placeAt 30 = .ok (.iload_n 1, 1) := by decide +kernel
theorem dX3_placeAt_31 : decode cX3_placeAt 31 = .ok (.iload 4, 2) := by decide +kernel
theorem dX3_placeAt_33 : decode cX3_placeAt 33 = .ok (.iload_n 3, 1) := by decide +kernel
theorem dX3_placeAt_34 : decode cX3_placeAt 34 = .ok (.idiv, 1) := by decide +kernel
theorem dX3_placeAt_35 : decode cX3_placeAt 35 = .ok (.invokevirtual 111, 3) := by decide +kernel
theorem dX3_placeAt_38 : decode cX3_placeAt 38 = .ok (.goto 4, 3) := by decide +kernel
theorem dX3_placeAt_41 : decode cX3_placeAt 41 = .ok (.iconst (-1), 1) := by decide +kernel
theorem dX3_placeAt_42 : decode cX3_placeAt 42 = .ok (.istore 5, 2) := by decide +kernel
theorem dX3_placeAt_44 : decode cX3_placeAt 44 = .ok (.aload_n 0, 1) := by decide +kernel
theorem dX3_placeAt_45 : decode cX3_placeAt 45 = .ok (.getfield 66, 3) := by decide +kernel
theorem dX3_placeAt_48 : decode cX3_placeAt 48 = .ok (.iload_n 1, 1) := by decide +kernel
theorem dX3_placeAt_49 : decode cX3_placeAt 49 = .ok (.iload 5, 2) := by decide +kernel
theorem dX3_placeAt_51 : decode cX3_placeAt 51 = .ok (.iconst (-1), 1) := by decide +kernel
theorem dX3_placeAt_52 : decode cX3_placeAt 52 = .ok (.if_icmp .ne 12, 3) := by decide +kernel
theorem dX3_placeAt_55 : decode cX3_placeAt 55 = .ok (.aload_n 0, 1) := by decide +kernel
theorem dX3_placeAt_56 : decode cX3_placeAt 56 = .ok (.getfield 66, 3) := by decide +kernel
theorem dX3_placeAt_59 : decode cX3_placeAt 59 = .ok (.iload_n 1, 1) := by decide +kernel
theorem dX3_placeAt_60 : decode cX3_placeAt 60 = .ok (.iaload, 1) := by decide +kernel
theorem dX3_placeAt_61 : decode cX3_placeAt 61 = .ok (.goto 10, 3) := by decide +kernel
theorem dX3_placeAt_64 : decode cX3_placeAt 64 = .ok (.aload_n 0, 1) := by decide +kernel
theorem dX3_placeAt_65 : decode cX3_placeAt 65 = .ok (.getfield 32, 3) := by decide +kernel
theorem dX3_placeAt_68 : decode cX3_placeAt 68 = .ok (.iload 5, 2) := by decide +kernel
theorem dX3_placeAt_70 : decode cX3_placeAt 70 = .ok (.iaload, 1) := by decide +kernel
theorem dX3_placeAt_71 : decode cX3_placeAt 71 = .ok (.iastore, 1) := by decide +kernel
theorem dX3_placeAt_72 : decode cX3_placeAt 72 = .ok (.aload_n 0, 1) := by decide +kernel
theorem dX3_placeAt_73 : decode cX3_placeAt 73 = .ok (.iload_n 1, 1) := by decide +kernel
theorem dX3_placeAt_74 : decode cX3_placeAt 74 = .ok (.invokevirtual 115, 3) := by decide +kernel
theorem dX3_placeAt_77 : decode cX3_placeAt 77 = .ok (.iinc 4 1, 3) := by decide +kernel
theorem dX3_placeAt_80 : decode cX3_placeAt 80 = .ok (.goto (-64), 3) := by decide +kernel
theorem dX3_placeAt_83 : decode cX3_placeAt 83 = .ok (.aload_n 0, 1) := by decide +kernel
theorem dX3_placeAt_84 : decode cX3_placeAt 84 = .ok (.getfield 63, 3) := by decide +kernel
theorem dX3_placeAt_87 : decode cX3_placeAt 87 = .ok (.iload_n 1, 1) := by decide +kernel
theorem dX3_placeAt_88 : decode cX3_placeAt 88 = .ok (.iaload, 1) := by decide +kernel
theorem dX3_placeAt_89 : decode cX3_placeAt 89 = .ok (.ireturn, 1) := by decide +kernel
theorem dX3_place_0 : decode cX3_place 0 = .ok (.aload_n 0, 1) := by decide +kernel
theorem dX3_place_1 : decode cX3_place 1 = .ok (.iload_n 1, 1) := by decide +kernel
theorem dX3_place_2 : decode cX3_place 2 = .ok (.invokevirtual 95, 3) := by decide +kernel
theorem dX3_place_5 : decode cX3_place 5 = .ok (.istore_n 3, 1) := by decide +kernel
theorem dX3_place_6 : decode cX3_place 6 = .ok (.aload_n 0, 1) := by decide +kernel
theorem dX3_place_7 : decode cX3_place 7 = .ok (.iload_n 3, 1) := by decide +kernel
theorem dX3_place_8 : decode cX3_place 8 = .ok (.ifCond .ne 7, 3) := by decide +kernel
theorem dX3_place_11 : decode cX3_place 11 = .ok (.iconst 1, 1) := by decide +kernel
theorem dX3_place_12 : decode cX3_place 12 = .ok (.goto 29, 3) := by decide +kernel
theorem dX3_place_15 : decode cX3_place 15 = .ok (.iload_n 2, 1) := by decide +kernel
theorem dX3_place_16 : decode cX3_place 16 = .ok (.iconst 0, 1) := by decide +kernel
theorem dX3_place_17 : decode cX3_place 17 = .ok (.aload_n 0, 1) := by decide +kernel
theorem dX3_place_18 : decode cX3_place 18 = .ok (.getfield 41, 3) := by decide +kernel
theorem dX3_place_21 : decode cX3_place 21 = .ok (.aload_n 0, 1) := by decide +kernel
theorem dX3_place_22 : decode cX3_place 22 = .ok (.aload_n 0, 1) := by decide +kernel
theorem dX3_place_23 : decode cX3_place 23 = .ok (.getfield 48, 3) := by decide +kernel
theorem dX3_place_26 : decode cX3_place 26 = .ok (.invokevirtual 104, 3) := by decide +kernel
theorem dX3_place_29 : decode cX3_place 29 = .ok (.imul, 1) := by decide +kernel
theorem dX3_place_30 : decode cX3_place 30 = .ok (.invokestatic 84, 3) := by decide +kernel
theorem dX3_place_33 : decode cX3_place 33 = .ok (.ifCond .eq 7, 3) := by decide +kernel
theorem dX3_place_36 : decode cX3_place 36 = .ok (.iconst 0, 1) := by decide +kernel
theorem dX3_place_37 : decode cX3_place 37 = .ok (.goto 4, 3) := by decide +kernel
theorem dX3_place_40 : decode cX3_place 40 = .ok (.iconst 2, 1) := by decide +kernel
theorem dX3_place_41 : decode cX3_place 41 = .ok (.invokevirtual 88, 3) := by decide +kernel
theorem dX3_place_44 : decode cX3_place 44 = .ok (.ifCond .eq 12, 3) := by decide +kernel
theorem dX3_place_47 : decode cX3_place 47 = .ok (.aload_n 0, 1) := by decide +kernel
theorem dX3_place_48 : decode cX3_place 48 = .ok (.iload_n 1, 1) := by decide +kernel
theorem dX3_place_49 : decode cX3_place 49 = .ok (.iload_n 2, 1) := by decide +kernel
theorem dX3_place_50 : decode cX3_place 50 = .ok (.invokevirtual 119, 3) := by decide +kernel
theorem dX3_place_53 : decode cX3_place 53 = .ok (.goto 4, 3) := by decide +kernel
theorem dX3_place_56 : decode cX3_place 56 = .ok (.iconst 0, 1) := by decide +kernel
theorem dX3_place_57 : decode cX3_place 57 = .ok (.ireturn, 1) := by decide +kernel
theorem dX3_placeAtBar_0 : decode cX3_placeAtBar 0 = .ok (.aload_n 0, 1) := by decide +kernel
theorem dX3_placeAtBar_1 : decode cX3_placeAtBar 1 = .ok (.iload_n 1, 1) := by decide +kernel
theorem dX3_placeAtBar_2 : decode cX3_placeAtBar 2 = .ok (.invokevirtual 95, 3) := by decide +kernel
theorem dX3_placeAtBar_5 : decode cX3_placeAtBar 5 = .ok (.istore_n 3, 1) := by decide +kernel
theorem dX3_placeAtBar_6 : decode cX3_placeAtBar 6 = .ok (.aload_n 0, 1) := by decide +kernel
theorem dX3_placeAtBar_7 : decode cX3_placeAtBar 7 = .ok (.iload_n 3, 1) := by decide +kernel
theorem dX3_placeAtBar_8 : decode cX3_placeAtBar 8 = .ok (.ifCond .ne 7, 3) := by decide +kernel
theorem dX3_placeAtBar_11 : decode cX3_placeAtBar 11 = .ok (.iconst 1, 1) := by decide +kernel
theorem dX3_placeAtBar_12 : decode cX3_placeAtBar 12 = .ok (.goto 20, 3) := by decide +kernel
theorem dX3_placeAtBar_15 : decode cX3_placeAtBar 15 = .ok (.iload_n 2, 1) := by decide +kernel
theorem dX3_placeAtBar_16 : decode cX3_placeAtBar 16 = .ok (.iconst 0, 1) := by decide +kernel
theorem dX3_placeAtBar_17 : decode cX3_placeAtBar 17 = .ok (.aload_n 0, 1) := by decide +kernel
theorem dX3_placeAtBar_18 : decode cX3_placeAtBar 18 = .ok (.getfield 41, 3) := by decide +kernel
theorem dX3_placeAtBar_21 : decode cX3_placeAtBar 21 = .ok (.invokestatic 84, 3) := by decide +kernel
theorem dX3_placeAtBar_24 : decode cX3_placeAtBar 24 = .ok (.ifCond .eq 7, 3) := by decide +kernel
theorem dX3_placeAtBar_27 : decode cX3_placeAtBar 27 = .ok (.iconst 0, 1) := by decide +kernel
theorem dX3_placeAtBar_28 : decode cX3_placeAtBar 28 = .ok (.goto 4, 3) := by decide +kernel
theorem dX3_placeAtBar_31 : decode cX3_placeAtBar 31 = .ok (.iconst 2, 1) := by decide +kernel
theorem dX3_placeAtBar_32 : decode cX3_placeAtBar 32 = .ok (.invokevirtual 88, 3) := by decide +kernel
theorem dX3_placeAtBar_35 : decode cX3_placeAtBar 35 = .ok (.ifCond .eq 21, 3) := by decide +kernel
theorem dX3_placeAtBar_38 : decode cX3_placeAtBar 38 = .ok (.aload_n 0, 1) := by decide +kernel
theorem dX3_placeAtBar_39 : decode cX3_placeAtBar 39 = .ok (.iload_n 1, 1) := by decide +kernel
theorem dX3_placeAtBar_40 : decode cX3_placeAtBar 40 = .ok (.iload_n 2, 1) := by decide +kernel
theorem dX3_placeAtBar_41 : decode cX3_placeAtBar 41 = .ok (.aload_n 0, 1) := by decide +kernel
theorem dX3_placeAtBar_42 : decode cX3_placeAtBar 42 = .ok (.aload_n 0, 1) := by decide +kernel
theorem dX3_placeAtBar_43 : decode cX3_placeAtBar 43 = .ok (.getfield 48, 3) := by decide +kernel
theorem dX3_placeAtBar_46 : decode cX3_placeAtBar 46 = .ok (.invokevirtual 104, 3) := by decide +kernel
theorem dX3_placeAtBar_49 : decode cX3_placeAtBar 49 = .ok (.imul, 1) := by decide +kernel
theorem dX3_placeAtBar_50 : decode cX3_placeAtBar 50 = .ok (.invokevirtual 119, 3) := by decide +kernel
theorem dX3_placeAtBar_53 : decode cX3_placeAtBar 53 = .ok (.goto 4, 3) := by decide +kernel
theorem dX3_placeAtBar_56 : decode cX3_placeAtBar 56 = .ok (.iconst 0, 1) := by decide +kernel
theorem dX3_placeAtBar_57 : decode cX3_placeAtBar 57 = .ok (.ireturn, 1) := by decide +kernel
theorem dX3_meetsAt_0 : decode cX3_meetsAt 0 = .ok (.iconst 0, 1) := by decide +kernel
theorem dX3_meetsAt_1 : decode cX3_meetsAt 1 = .ok (.istore_n 2, 1) := by decide +kernel
theorem dX3_meetsAt_2 : decode cX3_meetsAt 2 = .ok (.iload_n 2, 1) := by decide +kernel
theorem dX3_meetsAt_3 : decode cX3_meetsAt 3 = .ok (.aload_n 0, 1) := by decide +kernel
theorem dX3_meetsAt_4 : decode cX3_meetsAt 4 = .ok (.getfield 81, 3) := by decide +kernel
theorem dX3_meetsAt_7 : decode cX3_meetsAt 7 = .ok (.if_icmp .ge 149, 3) := by decide +kernel
theorem dX3_meetsAt_10 : decode cX3_meetsAt 10 = .ok (.iload_n 2, 1) := by decide +kernel
theorem dX3_meetsAt_11 : decode cX3_meetsAt 11 = .ok (.iconst 1, 1) := by decide +kernel
theorem dX3_meetsAt_12 : decode cX3_meetsAt 12 = .ok (.iadd, 1) := by decide +kernel
theorem dX3_meetsAt_13 : decode cX3_meetsAt 13 = .ok (.istore_n 3, 1) := by decide +kernel
theorem dX3_meetsAt_14 : decode cX3_meetsAt 14 = .ok (.iload_n 3, 1) := by decide +kernel
theorem dX3_meetsAt_15 : decode cX3_meetsAt 15 = .ok (.aload_n 0, 1) := by decide +kernel
theorem dX3_meetsAt_16 : decode cX3_meetsAt 16 = .ok (.getfield 81, 3) := by decide +kernel
theorem dX3_meetsAt_19 : decode cX3_meetsAt 19 = .ok (.if_icmp .ge 131, 3) := by decide +kernel
theorem dX3_meetsAt_22 : decode cX3_meetsAt 22 = .ok (.aload_n 0, 1) := by decide +kernel
theorem dX3_meetsAt_23 : decode cX3_meetsAt 23 = .ok (.getfield 63, 3) := by decide +kernel
theorem dX3_meetsAt_26 : decode cX3_meetsAt 26 = .ok (.iload_n 2, 1) := by decide +kernel
theorem dX3_meetsAt_27 : decode cX3_meetsAt 27 = .ok (.iaload, 1) := by decide +kernel
theorem dX3_meetsAt_28 : decode cX3_meetsAt 28 = .ok (.aload_n 0, 1) := by decide +kernel
theorem dX3_meetsAt_29 : decode cX3_meetsAt 29 = .ok (.getfield 63, 3) := by decide +kernel
theorem dX3_meetsAt_32 : decode cX3_meetsAt 32 = .ok (.iload_n 3, 1) := by decide +kernel
theorem dX3_meetsAt_33 : decode cX3_meetsAt 33 = .ok (.iaload, 1) := by decide +kernel
theorem dX3_meetsAt_34 : decode cX3_meetsAt 34 = .ok (.if_icmp .ge 19, 3) := by decide +kernel
theorem dX3_meetsAt_37 : decode cX3_meetsAt 37 = .ok (.aload_n 0, 1) := by decide +kernel
theorem dX3_meetsAt_38 : decode cX3_meetsAt 38 = .ok (.getfield 63, 3) := by decide +kernel
theorem dX3_meetsAt_41 : decode cX3_meetsAt 41 = .ok (.iload_n 3, 1) := by decide +kernel
theorem dX3_meetsAt_42 : decode cX3_meetsAt 42 = .ok (.iaload, 1) := by decide +kernel
theorem dX3_meetsAt_43 : decode cX3_meetsAt 43 = .ok (.aload_n 0, 1) := by decide +kernel
theorem dX3_meetsAt_44 : decode cX3_meetsAt 44 = .ok (.getfield 63, 3) := by decide +kernel
theorem dX3_meetsAt_47 : decode cX3_meetsAt 47 = .ok (.iload_n 2, 1) := by decide +kernel
theorem dX3_meetsAt_48 : decode cX3_meetsAt 48 = .ok (.iaload, 1) := by decide +kernel
theorem dX3_meetsAt_49 : decode cX3_meetsAt 49 = .ok (.isub, 1) := by decide +kernel
theorem dX3_meetsAt_50 : decode cX3_meetsAt 50 = .ok (.goto 16, 3) := by decide +kernel
theorem dX3_meetsAt_53 : decode cX3_meetsAt 53 = .ok (.aload_n 0, 1) := by decide +kernel
theorem dX3_meetsAt_54 : decode cX3_meetsAt 54 = .ok (.getfield 63, 3) := by decide +kernel
theorem dX3_meetsAt_57 : decode cX3_meetsAt 57 = .ok (.iload_n 2, 1) := by decide +kernel
theorem dX3_meetsAt_58 : decode cX3_meetsAt 58 = .ok (.iaload, 1) := by decide +kernel
theorem dX3_meetsAt_59 : decode cX3_meetsAt 59 = .ok (.aload_n 0, 1) := by decide +kernel
theorem dX3_meetsAt_60 : decode cX3_meetsAt 60 = .ok (.getfield 63, 3) := by decide +kernel
theorem dX3_meetsAt_63 : decode cX3_meetsAt 63 = .ok (.iload_n 3, 1) := by decide +kernel
theorem dX3_meetsAt_64 : decode cX3_meetsAt 64 = .ok (.iaload, 1) := by decide +kernel
theorem dX3_meetsAt_65 : decode cX3_meetsAt 65 = .ok (.isub, 1) := by decide +kernel
theorem dX3_meetsAt_66 : decode cX3_meetsAt 66 = .ok (.istore 4, 2) := by decide +kernel
theorem dX3_meetsAt_68 : decode cX3_meetsAt 68 = .ok (.aload_n 0, 1) := by decide +kernel
theorem dX3_meetsAt_69 : decode cX3_meetsAt 69 = .ok (.getfield 122, 3) := by decide +kernel
theorem dX3_meetsAt_72 : decode cX3_meetsAt 72 = .ok (.iconst (-1), 1) := by decide +kernel
theorem dX3_meetsAt_73 : decode cX3_meetsAt 73 = .ok (.if_icmp .ne 71, 3) := by decide +kernel
theorem dX3_meetsAt_76 : decode cX3_meetsAt 76 = .ok (.aload_n 0, 1) := by decide +kernel
theorem dX3_meetsAt_77 : decode cX3_meetsAt 77 = .ok (.getfield 7, 3) := by decide +kernel
theorem dX3_meetsAt_80 : decode cX3_meetsAt 80 = .ok (.iload_n 2, 1) := by decide +kernel
theorem dX3_meetsAt_81 : decode cX3_meetsAt 81 = .ok (.baload, 1) := by decide +kernel
theorem dX3_meetsAt_82 : decode cX3_meetsAt 82 = .ok (.ifCond .ne 62, 3) := by decide +kernel
theorem dX3_meetsAt_85 : decode cX3_meetsAt 85 = .ok (.aload_n 0, 1) := by decide +kernel
theorem dX3_meetsAt_86 : decode cX3_meetsAt 86 = .ok (.getfield 7, 3) := by decide +kernel
theorem dX3_meetsAt_89 : decode cX3_meetsAt 89 = .ok (.iload_n 3, 1) := by decide +kernel
theorem dX3_meetsAt_90 : decode cX3_meetsAt 90 = .ok (.baload, 1) := by decide +kernel
theorem dX3_meetsAt_91 : decode cX3_meetsAt 91 = .ok (.ifCond .ne 53, 3) := by decide +kernel
theorem dX3_meetsAt_94 : decode cX3_meetsAt 94 = .ok (.aload_n 0, 1) := by decide +kernel
theorem dX3_meetsAt_95 : decode cX3_meetsAt 95 = .ok (.getfield 13, 3) := by decide +kernel
theorem dX3_meetsAt_98 : decode cX3_meetsAt 98 = .ok (.iload_n 2, 1) := by decide +kernel
theorem dX3_meetsAt_99 : decode cX3_meetsAt 99 = .ok (.iaload, 1) := by decide +kernel
theorem dX3_meetsAt_100 : decode cX3_meetsAt 100 = .ok (.aload_n 0, 1) := by decide +kernel
theorem dX3_meetsAt_101 : decode cX3_meetsAt 101 = .ok (.getfield 13, 3) := by decide +kernel
theorem dX3_meetsAt_104 : decode cX3_meetsAt 104 = .ok (.iload_n 3, 1) := by decide +kernel
theorem dX3_meetsAt_105 : decode cX3_meetsAt 105 = .ok (.iaload, 1) := by decide +kernel
theorem dX3_meetsAt_106 : decode cX3_meetsAt 106 = .ok (.if_icmp .ne 38, 3) := by decide +kernel
theorem dX3_meetsAt_109 : decode cX3_meetsAt 109 = .ok (.iconst 2, 1) := by decide +kernel
theorem dX3_meetsAt_110 : decode cX3_meetsAt 110 = .ok (.iload 4, 2) := by decide +kernel
theorem dX3_meetsAt_112 : decode cX3_meetsAt 112 = .ok (.imul, 1) := by decide +kernel
theorem dX3_meetsAt_113 : decode cX3_meetsAt 113 = .ok (.aload_n 0, 1) := by decide +kernel
theorem dX3_meetsAt_114 : decode cX3_meetsAt 114 = .ok (.getfield 17, 3) := by decide +kernel
theorem dX3_meetsAt_117 : decode cX3_meetsAt 117 = .ok (.iload_n 2, 1) := by decide +kernel
theorem dX3_meetsAt_118 : decode cX3_meetsAt 118 = .ok (.iaload, 1) := by decide +kernel
theorem dX3_meetsAt_119 : decode cX3_meetsAt 119 = .ok (.aload_n 0, 1) := by decide +kernel
theorem dX3_meetsAt_120 : decode cX3_meetsAt 120 = .ok (.getfield 17, 3) := by decide +kernel
theorem dX3_meetsAt_123 : decode cX3_meetsAt 123 = .ok (.iload_n 3, 1) := by decide +kernel
theorem dX3_meetsAt_124 : decode cX3_meetsAt 124 = .ok (.iaload, 1) := by decide +kernel
theorem dX3_meetsAt_125 : decode cX3_meetsAt 125 = .ok (.iadd, 1) := by decide +kernel
theorem dX3_meetsAt_126 : decode cX3_meetsAt 126 = .ok (.if_icmp .ge 18, 3) := by decide +kernel
theorem dX3_meetsAt_129 : decode cX3_meetsAt 129 = .ok (.aload_n 0, 1) := by decide +kernel
theorem dX3_meetsAt_130 : decode cX3_meetsAt 130 = .ok (.iload_n 1, 1) := by decide +kernel
theorem dX3_meetsAt_131 : decode cX3_meetsAt 131 = .ok (.putfield 125, 3) := by decide +kernel
theorem dX3_meetsAt_134 : decode cX3_meetsAt 134 = .ok (.aload_n 0, 1) := by decide +kernel
theorem dX3_meetsAt_135 : decode cX3_meetsAt 135 = .ok (.bipush 10, 2) := by decide +kernel
theorem dX3_meetsAt_137 : decode cX3_meetsAt 137 = .ok (.iload_n 2, 1) := by decide +kernel
theorem dX3_meetsAt_138 : decode cX3_meetsAt 138 = .ok (.imul, 1) := by decide +kernel
theorem dX3_meetsAt_139 : decode cX3_meetsAt 139 = .ok (.iload_n 3, 1) := by decide +kernel
theorem dX3_meetsAt_140 : decode cX3_meetsAt 140 = .ok (.iadd, 1) := by decide +kernel
theorem dX3_meetsAt_141 : decode cX3_meetsAt 141 = .ok (.putfield 122, 3) := by decide +kernel
theorem dX3_meetsAt_144 : decode cX3_meetsAt 144 = .ok (.iinc 3 1, 3) := by decide +kernel
theorem dX3_meetsAt_147 : decode cX3_meetsAt 147 = .ok (.goto (-133), 3) := by decide +kernel
theorem dX3_meetsAt_150 : decode cX3_meetsAt 150 = .ok (.iinc 2 1, 3) := by decide +kernel
theorem dX3_meetsAt_153 : decode cX3_meetsAt 153 = .ok (.goto (-151), 3) := by decide +kernel
theorem dX3_meetsAt_156 : decode cX3_meetsAt 156 = .ok (.return_, 1) := by decide +kernel
theorem dX3_looks_0 : decode cX3_looks 0 = .ok (.iconst 0, 1) := by decide +kernel
theorem dX3_looks_1 : decode cX3_looks 1 = .ok (.istore_n 3, 1) := by decide +kernel
theorem dX3_looks_2 : decode cX3_looks 2 = .ok (.iload_n 3, 1) := by decide +kernel
theorem dX3_looks_3 : decode cX3_looks 3 = .ok (.aload_n 0, 1) := by decide +kernel
theorem dX3_looks_4 : decode cX3_looks 4 = .ok (.getfield 81, 3) := by decide +kernel
theorem dX3_looks_7 : decode cX3_looks 7 = .ok (.if_icmp .ge 130, 3) := by decide +kernel
theorem dX3_looks_10 : decode cX3_looks 10 = .ok (.iload_n 1, 1) := by decide +kernel
theorem dX3_looks_11 : decode cX3_looks 11 = .ok (.iload_n 2, 1) := by decide +kernel
theorem dX3_looks_12 : decode cX3_looks 12 = .ok (.irem, 1) := by decide +kernel
theorem dX3_looks_13 : decode cX3_looks 13 = .ok (.ifCond .ne 14, 3) := by decide +kernel
theorem dX3_looks_16 : decode cX3_looks 16 = .ok (.aload_n 0, 1) := by decide +kernel
theorem dX3_looks_17 : decode cX3_looks 17 = .ok (.iload_n 3, 1) := by decide +kernel
theorem dX3_looks_18 : decode cX3_looks 18 = .ok (.iload_n 1, 1) := by decide +kernel
theorem dX3_looks_19 : decode cX3_looks 19 = .ok (.iload_n 2, 1) := by decide +kernel
theorem dX3_looks_20 : decode cX3_looks 20 = .ok (.idiv, 1) := by decide +kernel
theorem dX3_looks_21 : decode cX3_looks 21 = .ok (.invokevirtual 111, 3) := by decide +kernel
theorem dX3_looks_24 : decode cX3_looks 24 = .ok (.goto 4, 3) := by decide +kernel
theorem dX3_looks_27 : decode cX3_looks 27 = .ok (.iconst (-1), 1) := by decide +kernel
theorem dX3_looks_28 : decode cX3_looks 28 = .ok (.istore 4, 2) := by decide +kernel
theorem dX3_looks_30 : decode cX3_looks 30 = .ok (.iload 4, 2) := by decide +kernel
theorem dX3_looks_32 : decode cX3_looks 32 = .ok (.iconst (-1), 1) := by decide +kernel
theorem dX3_looks_33 : decode cX3_looks 33 = .ok (.if_icmp .eq 54, 3) := by decide +kernel
theorem dX3_looks_36 : decode cX3_looks 36 = .ok (.aload_n 0, 1) := by decide +kernel
theorem dX3_looks_37 : decode cX3_looks 37 = .ok (.getfield 69, 3) := by decide +kernel
theorem dX3_looks_40 : decode cX3_looks 40 = .ok (.iload_n 3, 1) := by decide +kernel
theorem dX3_looks_41 : decode cX3_looks 41 = .ok (.iaload, 1) := by decide +kernel
theorem dX3_looks_42 : decode cX3_looks 42 = .ok (.iconst (-1), 1) := by decide +kernel
theorem dX3_looks_43 : decode cX3_looks 43 = .ok (.if_icmp .eq 15, 3) := by decide +kernel
theorem dX3_looks_46 : decode cX3_looks 46 = .ok (.aload_n 0, 1) := by decide +kernel
theorem dX3_looks_47 : decode cX3_looks 47 = .ok (.getfield 75, 3) := by decide +kernel
theorem dX3_looks_50 : decode cX3_looks 50 = .ok (.aload_n 0, 1) := by decide +kernel
theorem dX3_looks_51 : decode cX3_looks 51 = .ok (.getfield 69, 3) := by decide +kernel
theorem dX3_looks_54 : decode cX3_looks 54 = .ok (.iload_n 3, 1) := by decide +kernel
theorem dX3_looks_55 : decode cX3_looks 55 = .ok (.iaload, 1) := by decide +kernel
theorem dX3_looks_56 : decode cX3_looks 56 = .ok (.iload_n 1, 1) := by decide +kernel
theorem dX3_looks_57 : decode cX3_looks 57 = .ok (.iastore, 1) := by decide +kernel
theorem dX3_looks_58 : decode cX3_looks 58 = .ok (.aload_n 0, 1) := by decide +kernel
theorem dX3_looks_59 : decode cX3_looks 59 = .ok (.getfield 72, 3) := by decide +kernel
theorem dX3_looks_62 : decode cX3_looks 62 = .ok (.iload 4, 2) := by decide +kernel
theorem dX3_looks_64 : decode cX3_looks 64 = .ok (.iload_n 1, 1) := by decide +kernel
theorem dX3_looks_65 : decode cX3_looks 65 = .ok (.iastore, 1) := by decide +kernel
theorem dX3_looks_66 : decode cX3_looks 66 = .ok (.aload_n 0, 1) := by decide +kernel
theorem dX3_looks_67 : decode cX3_looks 67 = .ok (.getfield 69, 3) := by decide +kernel
theorem dX3_looks_70 : decode cX3_looks 70 = .ok (.iload_n 3, 1) := by decide +kernel
theorem dX3_looks_71 : decode cX3_looks 71 = .ok (.iload 4, 2) := by decide +kernel
theorem dX3_looks_73 : decode cX3_looks 73 = .ok (.iastore, 1) := by decide +kernel
theorem dX3_looks_74 : decode cX3_looks 74 = .ok (.aload_n 0, 1) := by decide +kernel
theorem dX3_looks_75 : decode cX3_looks 75 = .ok (.getfield 66, 3) := by decide +kernel
theorem dX3_looks_78 : decode cX3_looks 78 = .ok (.iload_n 3, 1) := by decide +kernel
theorem dX3_looks_79 : decode cX3_looks 79 = .ok (.aload_n 0, 1) := by decide +kernel
theorem dX3_looks_80 : decode cX3_looks 80 = .ok (.getfield 32, 3) := by decide +kernel
theorem dX3_looks_83 : decode cX3_looks 83 = .ok (.iload 4, 2) := by decide +kernel
theorem dX3_looks_85 : decode cX3_looks 85 = .ok (.iaload, 1) := by decide +kernel
theorem dX3_looks_86 : decode cX3_looks 86 = .ok (.iastore, 1) := by decide +kernel
theorem dX3_looks_87 : decode cX3_looks 87 = .ok (.aload_n 0, 1) := by decide +kernel
theorem dX3_looks_88 : decode cX3_looks 88 = .ok (.getfield 69, 3) := by decide +kernel
theorem dX3_looks_91 : decode cX3_looks 91 = .ok (.iload_n 3, 1) := by decide +kernel
theorem dX3_looks_92 : decode cX3_looks 92 = .ok (.iaload, 1) := by decide +kernel
theorem dX3_looks_93 : decode cX3_looks 93 = .ok (.iconst (-1), 1) := by decide +kernel
theorem dX3_looks_94 : decode cX3_looks 94 = .ok (.if_icmp .eq 37, 3) := by decide +kernel
theorem dX3_looks_97 : decode cX3_looks 97 = .ok (.aload_n 0, 1) := by decide +kernel
theorem dX3_looks_98 : decode cX3_looks 98 = .ok (.getfield 63, 3) := by decide +kernel
theorem dX3_looks_101 : decode cX3_looks 101 = .ok (.iload_n 3, 1) := by decide +kernel
theorem dX3_looks_102 : decode cX3_looks 102 = .ok (.iaload, 1) := by decide +kernel
theorem dX3_looks_103 : decode cX3_looks 103 = .ok (.aload_n 0, 1) := by decide +kernel
theorem dX3_looks_104 : decode cX3_looks 104 = .ok (.getfield 66, 3) := by decide +kernel
theorem dX3_looks_107 : decode cX3_looks 107 = .ok (.iload_n 3, 1) := by decide +kernel
theorem dX3_looks_108 : decode cX3_looks 108 = .ok (.iaload, 1) := by decide +kernel
theorem dX3_looks_109 : decode cX3_looks 109 = .ok (.if_icmp .ne 22, 3) := by decide +kernel
theorem dX3_looks_112 : decode cX3_looks 112 = .ok (.aload_n 0, 1) := by decide +kernel
theorem dX3_looks_113 : decode cX3_looks 113 = .ok (.getfield 75, 3) := by decide +kernel
theorem dX3_looks_116 : decode cX3_looks 116 = .ok (.aload_n 0, 1) := by decide +kernel
theorem dX3_looks_117 : decode cX3_looks 117 = .ok (.getfield 69, 3) := by decide +kernel
theorem dX3_looks_120 : decode cX3_looks 120 = .ok (.iload_n 3, 1) := by decide +kernel
theorem dX3_looks_121 : decode cX3_looks 121 = .ok (.iaload, 1) := by decide +kernel
theorem dX3_looks_122 : decode cX3_looks 122 = .ok (.iload_n 1, 1) := by decide +kernel
theorem dX3_looks_123 : decode cX3_looks 123 = .ok (.iastore, 1) := by decide +kernel
theorem dX3_looks_124 : decode cX3_looks 124 = .ok (.aload_n 0, 1) := by decide +kernel
theorem dX3_looks_125 : decode cX3_looks 125 = .ok (.getfield 69, 3) := by decide +kernel
theorem dX3_looks_128 : decode cX3_looks 128 = .ok (.iload_n 3, 1) := by decide +kernel
theorem dX3_looks_129 : decode cX3_looks 129 = .ok (.iconst (-1), 1) := by decide +kernel
theorem dX3_looks_130 : decode cX3_looks 130 = .ok (.iastore, 1) := by decide +kernel
theorem dX3_looks_131 : decode cX3_looks 131 = .ok (.iinc 3 1, 3) := by decide +kernel
theorem dX3_looks_134 : decode cX3_looks 134 = .ok (.goto (-132), 3) := by decide +kernel
theorem dX3_looks_137 : decode cX3_looks 137 = .ok (.return_, 1) := by decide +kernel
theorem dX3_plays_0 : decode cX3_plays 0 = .ok (.aload_n 0, 1) := by decide +kernel
theorem dX3_plays_1 : decode cX3_plays 1 = .ok (.iload_n 1, 1) := by decide +kernel
theorem dX3_plays_2 : decode cX3_plays 2 = .ok (.invokevirtual 104, 3) := by decide +kernel
theorem dX3_plays_5 : decode cX3_plays 5 = .ok (.istore_n 2, 1) := by decide +kernel
theorem dX3_plays_6 : decode cX3_plays 6 = .ok (.aload_n 0, 1) := by decide +kernel
theorem dX3_plays_7 : decode cX3_plays 7 = .ok (.getfield 41, 3) := by decide +kernel
theorem dX3_plays_10 : decode cX3_plays 10 = .ok (.iload_n 2, 1) := by decide +kernel
theorem dX3_plays_11 : decode cX3_plays 11 = .ok (.imul, 1) := by decide +kernel
theorem dX3_plays_12 : decode cX3_plays 12 = .ok (.istore_n 3, 1) := by decide +kernel
theorem dX3_plays_13 : decode cX3_plays 13 = .ok (.aload_n 0, 1) := by decide +kernel
theorem dX3_plays_14 : decode cX3_plays 14 = .ok (.invokevirtual 108, 3) := by decide +kernel
theorem dX3_plays_17 : decode cX3_plays 17 = .ok (.aload_n 0, 1) := by decide +kernel
theorem dX3_plays_18 : decode cX3_plays 18 = .ok (.iconst (-1), 1) := by decide +kernel
theorem dX3_plays_19 : decode cX3_plays 19 = .ok (.putfield 125, 3) := by decide +kernel
theorem dX3_plays_22 : decode cX3_plays 22 = .ok (.aload_n 0, 1) := by decide +kernel
theorem dX3_plays_23 : decode cX3_plays 23 = .ok (.iconst (-1), 1) := by decide +kernel
theorem dX3_plays_24 : decode cX3_plays 24 = .ok (.putfield 122, 3) := by decide +kernel
theorem dX3_plays_27 : decode cX3_plays 27 = .ok (.iconst 0, 1) := by decide +kernel
theorem dX3_plays_28 : decode cX3_plays 28 = .ok (.istore 4, 2) := by decide +kernel
theorem dX3_plays_30 : decode cX3_plays 30 = .ok (.iload 4, 2) := by decide +kernel
theorem dX3_plays_32 : decode cX3_plays 32 = .ok (.bipush 24, 2) := by decide +kernel
theorem dX3_plays_34 : decode cX3_plays 34 = .ok (.if_icmp .ge 25, 3) := by decide +kernel
theorem dX3_plays_37 : decode cX3_plays 37 = .ok (.aload_n 0, 1) := by decide +kernel
theorem dX3_plays_38 : decode cX3_plays 38 = .ok (.getfield 72, 3) := by decide +kernel
theorem dX3_plays_41 : decode cX3_plays 41 = .ok (.iload 4, 2) := by decide +kernel
theorem dX3_plays_43 : decode cX3_plays 43 = .ok (.iconst 0, 1) := by decide +kernel
theorem dX3_plays_44 : decode cX3_plays 44 = .ok (.iastore, 1) := by decide +kernel
theorem dX3_plays_45 : decode cX3_plays 45 = .ok (.aload_n 0, 1) := by decide +kernel
theorem dX3_plays_46 : decode cX3_plays 46 = .ok (.getfield 75, 3) := by decide +kernel
theorem dX3_plays_49 : decode cX3_plays 49 = .ok (.iload 4, 2) := by decide +kernel
theorem dX3_plays_51 : decode cX3_plays 51 = .ok (.iconst 0, 1) := by decide +kernel
theorem dX3_plays_52 : decode cX3_plays 52 = .ok (.iastore, 1) := by decide +kernel
theorem dX3_plays_53 : decode cX3_plays 53 = .ok (.iinc 4 1, 3) := by decide +kernel
theorem dX3_plays_56 : decode cX3_plays 56 = .ok (.goto (-26), 3) := by decide +kernel
theorem dX3_plays_59 : decode cX3_plays 59 = .ok (.iconst 0, 1) := by decide +kernel
theorem dX3_plays_60 : decode cX3_plays 60 = .ok (.istore 4, 2) := by decide +kernel
theorem dX3_plays_62 : decode cX3_plays 62 = .ok (.iload 4, 2) := by decide +kernel
theorem dX3_plays_64 : decode cX3_plays 64 = .ok (.iload_n 3, 1) := by decide +kernel
theorem dX3_plays_65 : decode cX3_plays 65 = .ok (.if_icmp .ge 46, 3) := by decide +kernel
theorem dX3_plays_68 : decode cX3_plays 68 = .ok (.aload_n 0, 1) := by decide +kernel
theorem dX3_plays_69 : decode cX3_plays 69 = .ok (.iload 4, 2) := by decide +kernel
theorem dX3_plays_71 : decode cX3_plays 71 = .ok (.iload_n 2, 1) := by decide +kernel
theorem dX3_plays_72 : decode cX3_plays 72 = .ok (.invokevirtual 128, 3) := by decide +kernel
theorem dX3_plays_75 : decode cX3_plays 75 = .ok (.aload_n 0, 1) := by decide +kernel
theorem dX3_plays_76 : decode cX3_plays 76 = .ok (.iload 4, 2) := by decide +kernel
theorem dX3_plays_78 : decode cX3_plays 78 = .ok (.invokevirtual 132, 3) := by decide +kernel
theorem dX3_plays_81 : decode cX3_plays 81 = .ok (.iconst 0, 1) := by decide +kernel
theorem dX3_plays_82 : decode cX3_plays 82 = .ok (.istore 5, 2) := by decide +kernel
theorem dX3_plays_84 : decode cX3_plays 84 = .ok (.iload 5, 2) := by decide +kernel
theorem dX3_plays_86 : decode cX3_plays 86 = .ok (.aload_n 0, 1) := by decide +kernel
theorem dX3_plays_87 : decode cX3_plays 87 = .ok (.getfield 81, 3) := by decide +kernel
theorem dX3_plays_90 : decode cX3_plays 90 = .ok (.if_icmp .ge 15, 3) := by decide +kernel
theorem dX3_plays_93 : decode cX3_plays 93 = .ok (.aload_n 0, 1) := by decide +kernel
theorem dX3_plays_94 : decode cX3_plays 94 = .ok (.iload 5, 2) := by decide +kernel
theorem dX3_plays_96 : decode cX3_plays 96 = .ok (.invokevirtual 115, 3) := by decide +kernel
theorem dX3_plays_99 : decode cX3_plays 99 = .ok (.iinc 5 1, 3) := by decide +kernel
theorem dX3_plays_102 : decode cX3_plays 102 = .ok (.goto (-18), 3) := by decide +kernel
theorem dX3_plays_105 : decode cX3_plays 105 = .ok (.iinc 4 1, 3) := by decide +kernel
theorem dX3_plays_108 : decode cX3_plays 108 = .ok (.goto (-46), 3) := by decide +kernel
theorem dX3_plays_111 : decode cX3_plays 111 = .ok (.aload_n 0, 1) := by decide +kernel
theorem dX3_plays_112 : decode cX3_plays 112 = .ok (.iload_n 3, 1) := by decide +kernel
theorem dX3_plays_113 : decode cX3_plays 113 = .ok (.invokevirtual 132, 3) := by decide +kernel
theorem dX3_plays_116 : decode cX3_plays 116 = .ok (.iconst 0, 1) := by decide +kernel
theorem dX3_plays_117 : decode cX3_plays 117 = .ok (.istore 4, 2) := by decide +kernel
theorem dX3_plays_119 : decode cX3_plays 119 = .ok (.iload 4, 2) := by decide +kernel
theorem dX3_plays_121 : decode cX3_plays 121 = .ok (.aload_n 0, 1) := by decide +kernel
theorem dX3_plays_122 : decode cX3_plays 122 = .ok (.getfield 81, 3) := by decide +kernel
theorem dX3_plays_125 : decode cX3_plays 125 = .ok (.if_icmp .ge 33, 3) := by decide +kernel
theorem dX3_plays_128 : decode cX3_plays 128 = .ok (.aload_n 0, 1) := by decide +kernel
theorem dX3_plays_129 : decode cX3_plays 129 = .ok (.getfield 69, 3) := by decide +kernel
theorem dX3_plays_132 : decode cX3_plays 132 = .ok (.iload 4, 2) := by decide +kernel
theorem dX3_plays_134 : decode cX3_plays 134 = .ok (.iaload, 1) := by decide +kernel
theorem dX3_plays_135 : decode cX3_plays 135 = .ok (.iconst (-1), 1) := by decide +kernel
theorem dX3_plays_136 : decode cX3_plays 136 = .ok (.if_icmp .eq 16, 3) := by decide +kernel
theorem dX3_plays_139 : decode cX3_plays 139 = .ok (.aload_n 0, 1) := by decide +kernel
theorem dX3_plays_140 : decode cX3_plays 140 = .ok (.getfield 75, 3) := by decide +kernel
theorem dX3_plays_143 : decode cX3_plays 143 = .ok (.aload_n 0, 1) := by decide +kernel
theorem dX3_plays_144 : decode cX3_plays 144 = .ok (.getfield 69, 3) := by decide +kernel
theorem dX3_plays_147 : decode cX3_plays 147 = .ok (.iload 4, 2) := by decide +kernel
theorem dX3_plays_149 : decode cX3_plays 149 = .ok (.iaload, 1) := by decide +kernel
theorem dX3_plays_150 : decode cX3_plays 150 = .ok (.iload_n 3, 1) := by decide +kernel
theorem dX3_plays_151 : decode cX3_plays 151 = .ok (.iastore, 1) := by decide +kernel
theorem dX3_plays_152 : decode cX3_plays 152 = .ok (.iinc 4 1, 3) := by decide +kernel
theorem dX3_plays_155 : decode cX3_plays 155 = .ok (.goto (-36), 3) := by decide +kernel
theorem dX3_plays_158 : decode cX3_plays 158 = .ok (.return_, 1) := by decide +kernel
theorem dX3_meeting_0 : decode cX3_meeting 0 = .ok (.aload_n 0, 1) := by decide +kernel
theorem dX3_meeting_1 : decode cX3_meeting 1 = .ok (.iconst 0, 1) := by decide +kernel
theorem dX3_meeting_2 : decode cX3_meeting 2 = .ok (.putfield 78, 3) := by decide +kernel
theorem dX3_meeting_5 : decode cX3_meeting 5 = .ok (.aload_n 0, 1) := by decide +kernel
theorem dX3_meeting_6 : decode cX3_meeting 6 = .ok (.aload_n 0, 1) := by decide +kernel
theorem dX3_meeting_7 : decode cX3_meeting 7 = .ok (.getfield 48, 3) := by decide +kernel
theorem dX3_meeting_10 : decode cX3_meeting 10 = .ok (.invokevirtual 135, 3) := by decide +kernel
theorem dX3_meeting_13 : decode cX3_meeting 13 = .ok (.aload_n 0, 1) := by decide +kernel
theorem dX3_meeting_14 : decode cX3_meeting 14 = .ok (.getfield 125, 3) := by decide +kernel
theorem dX3_meeting_17 : decode cX3_meeting 17 = .ok (.ireturn, 1) := by decide +kernel
theorem dX3_meeters_0 : decode cX3_meeters 0 = .ok (.aload_n 0, 1) := by decide +kernel
theorem dX3_meeters_1 : decode cX3_meeters 1 = .ok (.iconst 0, 1) := by decide +kernel
theorem dX3_meeters_2 : decode cX3_meeters 2 = .ok (.putfield 78, 3) := by decide +kernel
theorem dX3_meeters_5 : decode cX3_meeters 5 = .ok (.aload_n 0, 1) := by decide +kernel
theorem dX3_meeters_6 : decode cX3_meeters 6 = .ok (.aload_n 0, 1) := by decide +kernel
theorem dX3_meeters_7 : decode cX3_meeters 7 = .ok (.getfield 48, 3) := by decide +kernel
theorem dX3_meeters_10 : decode cX3_meeters 10 = .ok (.invokevirtual 135, 3) := by decide +kernel
theorem dX3_meeters_13 : decode cX3_meeters 13 = .ok (.aload_n 0, 1) := by decide +kernel
theorem dX3_meeters_14 : decode cX3_meeters 14 = .ok (.getfield 122, 3) := by decide +kernel
theorem dX3_meeters_17 : decode cX3_meeters 17 = .ok (.ireturn, 1) := by decide +kernel
theorem dX3_workerOf_0 : decode cX3_workerOf 0 = .ok (.aload_n 0, 1) := by decide +kernel
theorem dX3_workerOf_1 : decode cX3_workerOf 1 = .ok (.getfield 35, 3) := by decide +kernel
theorem dX3_workerOf_4 : decode cX3_workerOf 4 = .ok (.iload_n 1, 1) := by decide +kernel
theorem dX3_workerOf_5 : decode cX3_workerOf 5 = .ok (.iaload, 1) := by decide +kernel
theorem dX3_workerOf_6 : decode cX3_workerOf 6 = .ok (.istore_n 2, 1) := by decide +kernel
theorem dX3_workerOf_7 : decode cX3_workerOf 7 = .ok (.iconst 0, 1) := by decide +kernel
theorem dX3_workerOf_8 : decode cX3_workerOf 8 = .ok (.istore_n 3, 1) := by decide +kernel
theorem dX3_workerOf_9 : decode cX3_workerOf 9 = .ok (.iload_n 3, 1) := by decide +kernel
theorem dX3_workerOf_10 : decode cX3_workerOf 10 = .ok (.bipush 6, 2) := by decide +kernel
theorem dX3_workerOf_12 : decode cX3_workerOf 12 = .ok (.if_icmp .ge 30, 3) := by decide +kernel
theorem dX3_workerOf_15 : decode cX3_workerOf 15 = .ok (.iload_n 2, 1) := by decide +kernel
theorem dX3_workerOf_16 : decode cX3_workerOf 16 = .ok (.iconst (-1), 1) := by decide +kernel
theorem dX3_workerOf_17 : decode cX3_workerOf 17 = .ok (.if_icmp .eq 25, 3) := by decide +kernel
theorem dX3_workerOf_20 : decode cX3_workerOf 20 = .ok (.aload_n 0, 1) := by decide +kernel
theorem dX3_workerOf_21 : decode cX3_workerOf 21 = .ok (.getfield 57, 3) := by decide +kernel
theorem dX3_workerOf_24 : decode cX3_workerOf 24 = .ok (.iload_n 2, 1) := by decide +kernel
theorem dX3_workerOf_25 : decode cX3_workerOf 25 = .ok (.baload, 1) := by decide +kernel
theorem dX3_workerOf_26 : decode cX3_workerOf 26 = .ok (.ifCond .eq 16, 3) := by decide +kernel
theorem dX3_workerOf_29 : decode cX3_workerOf 29 = .ok (.aload_n 0, 1) := by decide +kernel
theorem dX3_workerOf_30 : decode cX3_workerOf 30 = .ok (.getfield 60, 3) := by decide +kernel
theorem dX3_workerOf_33 : decode cX3_workerOf 33 = .ok (.iload_n 2, 1) := by decide +kernel
theorem dX3_workerOf_34 : decode cX3_workerOf 34 = .ok (.iaload, 1) := by decide +kernel
theorem dX3_workerOf_35 : decode cX3_workerOf 35 = .ok (.istore_n 2, 1) := by decide +kernel
theorem dX3_workerOf_36 : decode cX3_workerOf 36 = .ok (.iinc 3 1, 3) := by decide +kernel
theorem dX3_workerOf_39 : decode cX3_workerOf 39 = .ok (.goto (-30), 3) := by decide +kernel
theorem dX3_workerOf_42 : decode cX3_workerOf 42 = .ok (.iload_n 2, 1) := by decide +kernel
theorem dX3_workerOf_43 : decode cX3_workerOf 43 = .ok (.iconst (-1), 1) := by decide +kernel
theorem dX3_workerOf_44 : decode cX3_workerOf 44 = .ok (.if_icmp .eq 12, 3) := by decide +kernel
theorem dX3_workerOf_47 : decode cX3_workerOf 47 = .ok (.aload_n 0, 1) := by decide +kernel
theorem dX3_workerOf_48 : decode cX3_workerOf 48 = .ok (.getfield 57, 3) := by decide +kernel
theorem dX3_workerOf_51 : decode cX3_workerOf 51 = .ok (.iload_n 2, 1) := by decide +kernel
theorem dX3_workerOf_52 : decode cX3_workerOf 52 = .ok (.baload, 1) := by decide +kernel
theorem dX3_workerOf_53 : decode cX3_workerOf 53 = .ok (.ifCond .eq 7, 3) := by decide +kernel
theorem dX3_workerOf_56 : decode cX3_workerOf 56 = .ok (.iconst (-1), 1) := by decide +kernel
theorem dX3_workerOf_57 : decode cX3_workerOf 57 = .ok (.goto 4, 3) := by decide +kernel
theorem dX3_workerOf_60 : decode cX3_workerOf 60 = .ok (.iload_n 2, 1) := by decide +kernel
theorem dX3_workerOf_61 : decode cX3_workerOf 61 = .ok (.ireturn, 1) := by decide +kernel
theorem dX3_worker_0 : decode cX3_worker 0 = .ok (.aload_n 0, 1) := by decide +kernel
theorem dX3_worker_1 : decode cX3_worker 1 = .ok (.aload_n 0, 1) := by decide +kernel
theorem dX3_worker_2 : decode cX3_worker 2 = .ok (.iload_n 1, 1) := by decide +kernel
theorem dX3_worker_3 : decode cX3_worker 3 = .ok (.invokevirtual 101, 3) := by decide +kernel
theorem dX3_worker_6 : decode cX3_worker 6 = .ok (.ifCond .eq 7, 3) := by decide +kernel
theorem dX3_worker_9 : decode cX3_worker 9 = .ok (.iconst 0, 1) := by decide +kernel
theorem dX3_worker_10 : decode cX3_worker 10 = .ok (.goto 4, 3) := by decide +kernel
theorem dX3_worker_13 : decode cX3_worker 13 = .ok (.iconst 1, 1) := by decide +kernel
theorem dX3_worker_14 : decode cX3_worker 14 = .ok (.invokevirtual 88, 3) := by decide +kernel
theorem dX3_worker_17 : decode cX3_worker 17 = .ok (.ifCond .eq 11, 3) := by decide +kernel
theorem dX3_worker_20 : decode cX3_worker 20 = .ok (.aload_n 0, 1) := by decide +kernel
theorem dX3_worker_21 : decode cX3_worker 21 = .ok (.iload_n 1, 1) := by decide +kernel
theorem dX3_worker_22 : decode cX3_worker 22 = .ok (.invokevirtual 138, 3) := by decide +kernel
theorem dX3_worker_25 : decode cX3_worker 25 = .ok (.goto 4, 3) := by decide +kernel
theorem dX3_worker_28 : decode cX3_worker 28 = .ok (.iconst 0, 1) := by decide +kernel
theorem dX3_worker_29 : decode cX3_worker 29 = .ok (.ireturn, 1) := by decide +kernel
theorem dX3_takes_0 : decode cX3_takes 0 = .ok (.aload_n 0, 1) := by decide +kernel
theorem dX3_takes_1 : decode cX3_takes 1 = .ok (.aload_n 0, 1) := by decide +kernel
theorem dX3_takes_2 : decode cX3_takes 2 = .ok (.iload_n 1, 1) := by decide +kernel
theorem dX3_takes_3 : decode cX3_takes 3 = .ok (.invokevirtual 101, 3) := by decide +kernel
theorem dX3_takes_6 : decode cX3_takes 6 = .ok (.ifCond .eq 7, 3) := by decide +kernel
theorem dX3_takes_9 : decode cX3_takes 9 = .ok (.iconst 0, 1) := by decide +kernel
theorem dX3_takes_10 : decode cX3_takes 10 = .ok (.goto 4, 3) := by decide +kernel
theorem dX3_takes_13 : decode cX3_takes 13 = .ok (.iconst 1, 1) := by decide +kernel
theorem dX3_takes_14 : decode cX3_takes 14 = .ok (.invokevirtual 88, 3) := by decide +kernel
theorem dX3_takes_17 : decode cX3_takes 17 = .ok (.ifCond .ne 5, 3) := by decide +kernel
theorem dX3_takes_20 : decode cX3_takes 20 = .ok (.iconst 0, 1) := by decide +kernel
theorem dX3_takes_21 : decode cX3_takes 21 = .ok (.ireturn, 1) := by decide +kernel
theorem dX3_takes_22 : decode cX3_takes 22 = .ok (.aload_n 0, 1) := by decide +kernel
theorem dX3_takes_23 : decode cX3_takes 23 = .ok (.aload_n 0, 1) := by decide +kernel
theorem dX3_takes_24 : decode cX3_takes 24 = .ok (.getfield 48, 3) := by decide +kernel
theorem dX3_takes_27 : decode cX3_takes 27 = .ok (.invokevirtual 135, 3) := by decide +kernel
theorem dX3_takes_30 : decode cX3_takes 30 = .ok (.aload_n 0, 1) := by decide +kernel
theorem dX3_takes_31 : decode cX3_takes 31 = .ok (.getfield 75, 3) := by decide +kernel
theorem dX3_takes_34 : decode cX3_takes 34 = .ok (.iload_n 1, 1) := by decide +kernel
theorem dX3_takes_35 : decode cX3_takes 35 = .ok (.iaload, 1) := by decide +kernel
theorem dX3_takes_36 : decode cX3_takes 36 = .ok (.aload_n 0, 1) := by decide +kernel
theorem dX3_takes_37 : decode cX3_takes 37 = .ok (.getfield 72, 3) := by decide +kernel
theorem dX3_takes_40 : decode cX3_takes 40 = .ok (.iload_n 1, 1) := by decide +kernel
theorem dX3_takes_41 : decode cX3_takes 41 = .ok (.iaload, 1) := by decide +kernel
theorem dX3_takes_42 : decode cX3_takes 42 = .ok (.isub, 1) := by decide +kernel
theorem dX3_takes_43 : decode cX3_takes 43 = .ok (.ireturn, 1) := by decide +kernel
theorem dX3_isOf_0 : decode cX3_isOf 0 = .ok (.iload_n 1, 1) := by decide +kernel
theorem dX3_isOf_1 : decode cX3_isOf 1 = .ok (.aload_n 0, 1) := by decide +kernel
theorem dX3_isOf_2 : decode cX3_isOf 2 = .ok (.getfield 92, 3) := by decide +kernel
theorem dX3_isOf_5 : decode cX3_isOf 5 = .ok (.if_icmp .ge 40, 3) := by decide +kernel
theorem dX3_isOf_8 : decode cX3_isOf 8 = .ok (.aload_n 0, 1) := by decide +kernel
theorem dX3_isOf_9 : decode cX3_isOf 9 = .ok (.getfield 38, 3) := by decide +kernel
theorem dX3_isOf_12 : decode cX3_isOf 12 = .ok (.iload_n 1, 1) := by decide +kernel
theorem dX3_isOf_13 : decode cX3_isOf 13 = .ok (.baload, 1) := by decide +kernel
theorem dX3_isOf_14 : decode cX3_isOf 14 = .ok (.ifCond .ne 31, 3) := by decide +kernel
theorem dX3_isOf_17 : decode cX3_isOf 17 = .ok (.aload_n 0, 1) := by decide +kernel
theorem dX3_isOf_18 : decode cX3_isOf 18 = .ok (.getfield 75, 3) := by decide +kernel
theorem dX3_isOf_21 : decode cX3_isOf 21 = .ok (.iload_n 1, 1) := by decide +kernel
theorem dX3_isOf_22 : decode cX3_isOf 22 = .ok (.iaload, 1) := by decide +kernel
theorem dX3_isOf_23 : decode cX3_isOf 23 = .ok (.aload_n 0, 1) := by decide +kernel
theorem dX3_isOf_24 : decode cX3_isOf 24 = .ok (.getfield 72, 3) := by decide +kernel
theorem dX3_isOf_27 : decode cX3_isOf 27 = .ok (.iload_n 1, 1) := by decide +kernel
theorem dX3_isOf_28 : decode cX3_isOf 28 = .ok (.iaload, 1) := by decide +kernel
theorem dX3_isOf_29 : decode cX3_isOf 29 = .ok (.if_icmp .le 16, 3) := by decide +kernel
theorem dX3_isOf_32 : decode cX3_isOf 32 = .ok (.aload_n 0, 1) := by decide +kernel
theorem dX3_isOf_33 : decode cX3_isOf 33 = .ok (.iload_n 1, 1) := by decide +kernel
theorem dX3_isOf_34 : decode cX3_isOf 34 = .ok (.invokevirtual 138, 3) := by decide +kernel
theorem dX3_isOf_37 : decode cX3_isOf 37 = .ok (.iload_n 2, 1) := by decide +kernel
theorem dX3_isOf_38 : decode cX3_isOf 38 = .ok (.if_icmp .ne 7, 3) := by decide +kernel
theorem dX3_isOf_41 : decode cX3_isOf 41 = .ok (.iconst 1, 1) := by decide +kernel
theorem dX3_isOf_42 : decode cX3_isOf 42 = .ok (.goto 4, 3) := by decide +kernel
theorem dX3_isOf_45 : decode cX3_isOf 45 = .ok (.iconst 0, 1) := by decide +kernel
theorem dX3_isOf_46 : decode cX3_isOf 46 = .ok (.ireturn, 1) := by decide +kernel
theorem dX3_isAhead_0 : decode cX3_isAhead 0 = .ok (.aload_n 0, 1) := by decide +kernel
theorem dX3_isAhead_1 : decode cX3_isAhead 1 = .ok (.getfield 72, 3) := by decide +kernel
theorem dX3_isAhead_4 : decode cX3_isAhead 4 = .ok (.iload_n 1, 1) := by decide +kernel
theorem dX3_isAhead_5 : decode cX3_isAhead 5 = .ok (.iaload, 1) := by decide +kernel
theorem dX3_isAhead_6 : decode cX3_isAhead 6 = .ok (.aload_n 0, 1) := by decide +kernel
theorem dX3_isAhead_7 : decode cX3_isAhead 7 = .ok (.getfield 72, 3) := by decide +kernel
theorem dX3_isAhead_10 : decode cX3_isAhead 10 = .ok (.iload_n 2, 1) := by decide +kernel
theorem dX3_isAhead_11 : decode cX3_isAhead 11 = .ok (.iaload, 1) := by decide +kernel
theorem dX3_isAhead_12 : decode cX3_isAhead 12 = .ok (.if_icmp .lt 23, 3) := by decide +kernel
theorem dX3_isAhead_15 : decode cX3_isAhead 15 = .ok (.aload_n 0, 1) := by decide +kernel
theorem dX3_isAhead_16 : decode cX3_isAhead 16 = .ok (.getfield 72, 3) := by decide +kernel
theorem dX3_isAhead_19 : decode cX3_isAhead 19 = .ok (.iload_n 1, 1) := by decide +kernel
theorem dX3_isAhead_20 : decode cX3_isAhead 20 = .ok (.iaload, 1) := by decide +kernel
theorem dX3_isAhead_21 : decode cX3_isAhead 21 = .ok (.aload_n 0, 1) := by decide +kernel
theorem dX3_isAhead_22 : decode cX3_isAhead 22 = .ok (.getfield 72, 3) := by decide +kernel
theorem dX3_isAhead_25 : decode cX3_isAhead 25 = .ok (.iload_n 2, 1) := by decide +kernel
theorem dX3_isAhead_26 : decode cX3_isAhead 26 = .ok (.iaload, 1) := by decide +kernel
theorem dX3_isAhead_27 : decode cX3_isAhead 27 = .ok (.if_icmp .ne 12, 3) := by decide +kernel
theorem dX3_isAhead_30 : decode cX3_isAhead 30 = .ok (.iload_n 1, 1) := by decide +kernel
theorem dX3_isAhead_31 : decode cX3_isAhead 31 = .ok (.iload_n 2, 1) := by decide +kernel
theorem dX3_isAhead_32 : decode cX3_isAhead 32 = .ok (.if_icmp .ge 7, 3) := by decide +kernel
theorem dX3_isAhead_35 : decode cX3_isAhead 35 = .ok (.iconst 1, 1) := by decide +kernel
theorem dX3_isAhead_36 : decode cX3_isAhead 36 = .ok (.goto 4, 3) := by decide +kernel
theorem dX3_isAhead_39 : decode cX3_isAhead 39 = .ok (.iconst 0, 1) := by decide +kernel
theorem dX3_isAhead_40 : decode cX3_isAhead 40 = .ok (.ireturn, 1) := by decide +kernel
theorem dX3_nextOf_0 : decode cX3_nextOf 0 = .ok (.iconst (-1), 1) := by decide +kernel
theorem dX3_nextOf_1 : decode cX3_nextOf 1 = .ok (.istore_n 3, 1) := by decide +kernel
theorem dX3_nextOf_2 : decode cX3_nextOf 2 = .ok (.iconst 0, 1) := by decide +kernel
theorem dX3_nextOf_3 : decode cX3_nextOf 3 = .ok (.istore 4, 2) := by decide +kernel
theorem dX3_nextOf_5 : decode cX3_nextOf 5 = .ok (.iload 4, 2) := by decide +kernel
theorem dX3_nextOf_7 : decode cX3_nextOf 7 = .ok (.aload_n 0, 1) := by decide +kernel
theorem dX3_nextOf_8 : decode cX3_nextOf 8 = .ok (.getfield 92, 3) := by decide +kernel
theorem dX3_nextOf_11 : decode cX3_nextOf 11 = .ok (.if_icmp .ge 51, 3) := by decide +kernel
theorem dX3_nextOf_14 : decode cX3_nextOf 14 = .ok (.aload_n 0, 1) := by decide +kernel
theorem dX3_nextOf_15 : decode cX3_nextOf 15 = .ok (.iload 4, 2) := by decide +kernel
theorem dX3_nextOf_17 : decode cX3_nextOf 17 = .ok (.iload_n 2, 1) := by decide +kernel
theorem dX3_nextOf_18 : decode cX3_nextOf 18 = .ok (.invokevirtual 141, 3) := by decide +kernel
theorem dX3_nextOf_21 : decode cX3_nextOf 21 = .ok (.ifCond .eq 33, 3) := by decide +kernel
theorem dX3_nextOf_24 : decode cX3_nextOf 24 = .ok (.aload_n 0, 1) := by decide +kernel
theorem dX3_nextOf_25 : decode cX3_nextOf 25 = .ok (.iload_n 1, 1) := by decide +kernel
theorem dX3_nextOf_26 : decode cX3_nextOf 26 = .ok (.iload 4, 2) := by decide +kernel
theorem dX3_nextOf_28 : decode cX3_nextOf 28 = .ok (.invokevirtual 145, 3) := by decide +kernel
theorem dX3_nextOf_31 : decode cX3_nextOf 31 = .ok (.ifCond .eq 23, 3) := by decide +kernel
theorem dX3_nextOf_34 : decode cX3_nextOf 34 = .ok (.iload_n 3, 1) := by decide +kernel
theorem dX3_nextOf_35 : decode cX3_nextOf 35 = .ok (.iconst (-1), 1) := by decide +kernel
theorem dX3_nextOf_36 : decode cX3_nextOf 36 = .ok (.if_icmp .eq 13, 3) := by decide +kernel
theorem dX3_nextOf_39 : decode cX3_nextOf 39 = .ok (.aload_n 0, 1) := by decide +kernel
theorem dX3_nextOf_40 : decode cX3_nextOf 40 = .ok (.iload 4, 2) := by decide +kernel
theorem dX3_nextOf_42 : decode cX3_nextOf 42 = .ok (.iload_n 3, 1) := by decide +kernel
theorem dX3_nextOf_43 : decode cX3_nextOf 43 = .ok (.invokevirtual 145, 3) := by decide +kernel
theorem dX3_nextOf_46 : decode cX3_nextOf 46 = .ok (.ifCond .eq 8, 3) := by decide +kernel
theorem dX3_nextOf_49 : decode cX3_nextOf 49 = .ok (.iload 4, 2) := by decide +kernel
theorem dX3_nextOf_51 : decode cX3_nextOf 51 = .ok (.goto 4, 3) := by decide +kernel
theorem dX3_nextOf_54 : decode cX3_nextOf 54 = .ok (.iload_n 3, 1) := by decide +kernel
theorem dX3_nextOf_55 : decode cX3_nextOf 55 = .ok (.istore_n 3, 1) := by decide +kernel
theorem dX3_nextOf_56 : decode cX3_nextOf 56 = .ok (.iinc 4 1, 3) := by decide +kernel
theorem dX3_nextOf_59 : decode cX3_nextOf 59 = .ok (.goto (-54), 3) := by decide +kernel
theorem dX3_nextOf_62 : decode cX3_nextOf 62 = .ok (.iload_n 3, 1) := by decide +kernel
theorem dX3_nextOf_63 : decode cX3_nextOf 63 = .ok (.ireturn, 1) := by decide +kernel
theorem dX3_clashesOf_0 : decode cX3_clashesOf 0 = .ok (.iconst 0, 1) := by decide +kernel
theorem dX3_clashesOf_1 : decode cX3_clashesOf 1 = .ok (.istore_n 2, 1) := by decide +kernel
theorem dX3_clashesOf_2 : decode cX3_clashesOf 2 = .ok (.iconst 0, 1) := by decide +kernel
theorem dX3_clashesOf_3 : decode cX3_clashesOf 3 = .ok (.istore_n 3, 1) := by decide +kernel
theorem dX3_clashesOf_4 : decode cX3_clashesOf 4 = .ok (.iload_n 3, 1) := by decide +kernel
theorem dX3_clashesOf_5 : decode cX3_clashesOf 5 = .ok (.aload_n 0, 1) := by decide +kernel
theorem dX3_clashesOf_6 : decode cX3_clashesOf 6 = .ok (.getfield 92, 3) := by decide +kernel
theorem dX3_clashesOf_9 : decode cX3_clashesOf 9 = .ok (.if_icmp .ge 65, 3) := by decide +kernel
theorem dX3_clashesOf_12 : decode cX3_clashesOf 12 = .ok (.aload_n 0, 1) := by decide +kernel
theorem dX3_clashesOf_13 : decode cX3_clashesOf 13 = .ok (.iload_n 3, 1) := by decide +kernel
theorem dX3_clashesOf_14 : decode cX3_clashesOf 14 = .ok (.iload_n 1, 1) := by decide +kernel
theorem dX3_clashesOf_15 : decode cX3_clashesOf 15 = .ok (.invokevirtual 141, 3) := by decide +kernel
theorem dX3_clashesOf_18 : decode cX3_clashesOf 18 = .ok (.ifCond .eq 12, 3) := by decide +kernel
theorem dX3_clashesOf_21 : decode cX3_clashesOf 21 = .ok (.aload_n 0, 1) := by decide +kernel
theorem dX3_clashesOf_22 : decode cX3_clashesOf 22 = .ok (.iload_n 3, 1) := by decide +kernel
theorem dX3_clashesOf_23 : decode cX3_clashesOf 23 = .ok (.iload_n 1, 1) := by decide +kernel
theorem dX3_clashesOf_24 : decode cX3_clashesOf 24 = .ok (.invokevirtual 148, 3) := by decide +kernel
theorem dX3_clashesOf_27 : decode cX3_clashesOf 27 = .ok (.goto 4, 3) := by decide +kernel
theorem dX3_clashesOf_30 : decode cX3_clashesOf 30 = .ok (.iconst (-1), 1) := by decide +kernel
theorem dX3_clashesOf_31 : decode cX3_clashesOf 31 = .ok (.istore 4, 2) := by decide +kernel
theorem dX3_clashesOf_33 : decode cX3_clashesOf 33 = .ok (.iload_n 2, 1) := by decide +kernel
theorem dX3_clashesOf_34 : decode cX3_clashesOf 34 = .ok (.iload 4, 2) := by decide +kernel
theorem dX3_clashesOf_36 : decode cX3_clashesOf 36 = .ok (.iconst (-1), 1) := by decide +kernel
theorem dX3_clashesOf_37 : decode cX3_clashesOf 37 = .ok (.if_icmp .eq 28, 3) := by decide +kernel
theorem dX3_clashesOf_40 : decode cX3_clashesOf 40 = .ok (.aload_n 0, 1) := by decide +kernel
theorem dX3_clashesOf_41 : decode cX3_clashesOf 41 = .ok (.getfield 72, 3) := by decide +kernel
theorem dX3_clashesOf_44 : decode cX3_clashesOf 44 = .ok (.iload 4, 2) := by decide +kernel
theorem dX3_clashesOf_46 : decode cX3_clashesOf 46 = .ok (.iaload, 1) := by decide +kernel
theorem dX3_clashesOf_47 : decode cX3_clashesOf 47 = .ok (.aload_n 0, 1) := by decide +kernel
theorem dX3_clashesOf_48 : decode cX3_clashesOf 48 = .ok (.getfield 75, 3) := by decide +kernel
theorem dX3_clashesOf_51 : decode cX3_clashesOf 51 = .ok (.iload_n 3, 1) := by decide +kernel
theorem dX3_clashesOf_52 : decode cX3_clashesOf 52 = .ok (.iaload, 1) := by decide +kernel
theorem dX3_clashesOf_53 : decode cX3_clashesOf 53 = .ok (.aload_n 0, 1) := by decide +kernel
theorem dX3_clashesOf_54 : decode cX3_clashesOf 54 = .ok (.getfield 51, 3) := by decide +kernel
theorem dX3_clashesOf_57 : decode cX3_clashesOf 57 = .ok (.iadd, 1) := by decide +kernel
theorem dX3_clashesOf_58 : decode cX3_clashesOf 58 = .ok (.if_icmp .ge 7, 3) := by decide +kernel
theorem dX3_clashesOf_61 : decode cX3_clashesOf 61 = .ok (.iconst 1, 1) := by decide +kernel
theorem dX3_clashesOf_62 : decode cX3_clashesOf 62 = .ok (.goto 4, 3) := by decide +kernel
theorem dX3_clashesOf_65 : decode cX3_clashesOf 65 = .ok (.iconst 0, 1) := by decide +kernel
theorem dX3_clashesOf_66 : decode cX3_clashesOf 66 = .ok (.iadd, 1) := by decide +kernel
theorem dX3_clashesOf_67 : decode cX3_clashesOf 67 = .ok (.istore_n 2, 1) := by decide +kernel
theorem dX3_clashesOf_68 : decode cX3_clashesOf 68 = .ok (.iinc 3 1, 3) := by decide +kernel
theorem dX3_clashesOf_71 : decode cX3_clashesOf 71 = .ok (.goto (-67), 3) := by decide +kernel
theorem dX3_clashesOf_74 : decode cX3_clashesOf 74 = .ok (.iload_n 2, 1) := by decide +kernel
theorem dX3_clashesOf_75 : decode cX3_clashesOf 75 = .ok (.ireturn, 1) := by decide +kernel
theorem dX3_clashes_0 : decode cX3_clashes 0 = .ok (.aload_n 0, 1) := by decide +kernel
theorem dX3_clashes_1 : decode cX3_clashes 1 = .ok (.iload_n 1, 1) := by decide +kernel
theorem dX3_clashes_2 : decode cX3_clashes 2 = .ok (.invokestatic 98, 3) := by decide +kernel
theorem dX3_clashes_5 : decode cX3_clashes 5 = .ok (.ifCond .eq 7, 3) := by decide +kernel
theorem dX3_clashes_8 : decode cX3_clashes 8 = .ok (.iconst 0, 1) := by decide +kernel
theorem dX3_clashes_9 : decode cX3_clashes 9 = .ok (.goto 4, 3) := by decide +kernel
theorem dX3_clashes_12 : decode cX3_clashes 12 = .ok (.iconst 1, 1) := by decide +kernel
theorem dX3_clashes_13 : decode cX3_clashes 13 = .ok (.invokevirtual 88, 3) := by decide +kernel
theorem dX3_clashes_16 : decode cX3_clashes 16 = .ok (.ifCond .ne 5, 3) := by decide +kernel
theorem dX3_clashes_19 : decode cX3_clashes 19 = .ok (.iconst 0, 1) := by decide +kernel
theorem dX3_clashes_20 : decode cX3_clashes 20 = .ok (.ireturn, 1) := by decide +kernel
theorem dX3_clashes_21 : decode cX3_clashes 21 = .ok (.aload_n 0, 1) := by decide +kernel
theorem dX3_clashes_22 : decode cX3_clashes 22 = .ok (.aload_n 0, 1) := by decide +kernel
theorem dX3_clashes_23 : decode cX3_clashes 23 = .ok (.getfield 48, 3) := by decide +kernel
theorem dX3_clashes_26 : decode cX3_clashes 26 = .ok (.invokevirtual 135, 3) := by decide +kernel
theorem dX3_clashes_29 : decode cX3_clashes 29 = .ok (.aload_n 0, 1) := by decide +kernel
theorem dX3_clashes_30 : decode cX3_clashes 30 = .ok (.iload_n 1, 1) := by decide +kernel
theorem dX3_clashes_31 : decode cX3_clashes 31 = .ok (.invokevirtual 151, 3) := by decide +kernel
theorem dX3_clashes_34 : decode cX3_clashes 34 = .ok (.ireturn, 1) := by decide +kernel
theorem dX3_overtime_0 : decode cX3_overtime 0 = .ok (.aload_n 0, 1) := by decide +kernel
theorem dX3_overtime_1 : decode cX3_overtime 1 = .ok (.iload_n 1, 1) := by decide +kernel
theorem dX3_overtime_2 : decode cX3_overtime 2 = .ok (.invokestatic 98, 3) := by decide +kernel
theorem dX3_overtime_5 : decode cX3_overtime 5 = .ok (.ifCond .eq 7, 3) := by decide +kernel
theorem dX3_overtime_8 : decode cX3_overtime 8 = .ok (.iconst 0, 1) := by decide +kernel
theorem dX3_overtime_9 : decode cX3_overtime 9 = .ok (.goto 4, 3) := by decide +kernel
theorem dX3_overtime_12 : decode cX3_overtime 12 = .ok (.iconst 1, 1) := by decide +kernel
theorem dX3_overtime_13 : decode cX3_overtime 13 = .ok (.invokevirtual 88, 3) := by decide +kernel
theorem dX3_overtime_16 : decode cX3_overtime 16 = .ok (.ifCond .ne 5, 3) := by decide +kernel
theorem dX3_overtime_19 : decode cX3_overtime 19 = .ok (.iconst 0, 1) := by decide +kernel
theorem dX3_overtime_20 : decode cX3_overtime 20 = .ok (.ireturn, 1) := by decide +kernel
theorem dX3_overtime_21 : decode cX3_overtime 21 = .ok (.aload_n 0, 1) := by decide +kernel
theorem dX3_overtime_22 : decode cX3_overtime 22 = .ok (.aload_n 0, 1) := by decide +kernel
theorem dX3_overtime_23 : decode cX3_overtime 23 = .ok (.getfield 48, 3) := by decide +kernel
theorem dX3_overtime_26 : decode cX3_overtime 26 = .ok (.invokevirtual 135, 3) := by decide +kernel
theorem dX3_overtime_29 : decode cX3_overtime 29 = .ok (.iconst 0, 1) := by decide +kernel
theorem dX3_overtime_30 : decode cX3_overtime 30 = .ok (.istore_n 2, 1) := by decide +kernel
theorem dX3_overtime_31 : decode cX3_overtime 31 = .ok (.aload_n 0, 1) := by decide +kernel
theorem dX3_overtime_32 : decode cX3_overtime 32 = .ok (.getfield 54, 3) := by decide +kernel
theorem dX3_overtime_35 : decode cX3_overtime 35 = .ok (.istore_n 3, 1) := by decide +kernel
theorem dX3_overtime_36 : decode cX3_overtime 36 = .ok (.iload_n 3, 1) := by decide +kernel
theorem dX3_overtime_37 : decode cX3_overtime 37 = .ok (.aload_n 0, 1) := by decide +kernel
theorem dX3_overtime_38 : decode cX3_overtime 38 = .ok (.getfield 41, 3) := by decide +kernel
theorem dX3_overtime_41 : decode cX3_overtime 41 = .ok (.aload_n 0, 1) := by decide +kernel
theorem dX3_overtime_42 : decode cX3_overtime 42 = .ok (.aload_n 0, 1) := by decide +kernel
theorem dX3_overtime_43 : decode cX3_overtime 43 = .ok (.getfield 48, 3) := by decide +kernel
theorem dX3_overtime_46 : decode cX3_overtime 46 = .ok (.invokevirtual 104, 3) := by decide +kernel
theorem dX3_overtime_49 : decode cX3_overtime 49 = .ok (.imul, 1) := by decide +kernel
theorem dX3_overtime_50 : decode cX3_overtime 50 = .ok (.if_icmp .ge 88, 3) := by decide +kernel
theorem dX3_overtime_53 : decode cX3_overtime 53 = .ok (.iconst 0, 1) := by decide +kernel
theorem dX3_overtime_54 : decode cX3_overtime 54 = .ok (.istore 4, 2) := by decide +kernel
theorem dX3_overtime_56 : decode cX3_overtime 56 = .ok (.iconst 0, 1) := by decide +kernel
theorem dX3_overtime_57 : decode cX3_overtime 57 = .ok (.istore 5, 2) := by decide +kernel
theorem dX3_overtime_59 : decode cX3_overtime 59 = .ok (.iload 5, 2) := by decide +kernel
theorem dX3_overtime_61 : decode cX3_overtime 61 = .ok (.aload_n 0, 1) := by decide +kernel
theorem dX3_overtime_62 : decode cX3_overtime 62 = .ok (.getfield 92, 3) := by decide +kernel
theorem dX3_overtime_65 : decode cX3_overtime 65 = .ok (.if_icmp .ge 54, 3) := by decide +kernel
theorem dX3_overtime_68 : decode cX3_overtime 68 = .ok (.iload 4, 2) := by decide +kernel
theorem dX3_overtime_70 : decode cX3_overtime 70 = .ok (.ifCond .ne 36, 3) := by decide +kernel
theorem dX3_overtime_73 : decode cX3_overtime 73 = .ok (.aload_n 0, 1) := by decide +kernel
theorem dX3_overtime_74 : decode cX3_overtime 74 = .ok (.iload 5, 2) := by decide +kernel
theorem dX3_overtime_76 : decode cX3_overtime 76 = .ok (.iload_n 1, 1) := by decide +kernel
theorem dX3_overtime_77 : decode cX3_overtime 77 = .ok (.invokevirtual 141, 3) := by decide +kernel
theorem dX3_overtime_80 : decode cX3_overtime 80 = .ok (.ifCond .eq 30, 3) := by decide +kernel
theorem dX3_overtime_83 : decode cX3_overtime 83 = .ok (.iload_n 3, 1) := by decide +kernel
theorem dX3_overtime_84 : decode cX3_overtime 84 = .ok (.aload_n 0, 1) := by decide +kernel
theorem dX3_overtime_85 : decode cX3_overtime 85 = .ok (.getfield 72, 3) := by decide +kernel
theorem dX3_overtime_88 : decode cX3_overtime 88 = .ok (.iload 5, 2) := by decide +kernel
theorem dX3_overtime_90 : decode cX3_overtime 90 = .ok (.iaload, 1) := by decide +kernel
theorem dX3_overtime_91 : decode cX3_overtime 91 = .ok (.aload_n 0, 1) := by decide +kernel
theorem dX3_overtime_92 : decode cX3_overtime 92 = .ok (.getfield 75, 3) := by decide +kernel
theorem dX3_overtime_95 : decode cX3_overtime 95 = .ok (.iload 5, 2) := by decide +kernel
theorem dX3_overtime_97 : decode cX3_overtime 97 = .ok (.iaload, 1) := by decide +kernel
theorem dX3_overtime_98 : decode cX3_overtime 98 = .ok (.iconst 1, 1) := by decide +kernel
theorem dX3_overtime_99 : decode cX3_overtime 99 = .ok (.isub, 1) := by decide +kernel
theorem dX3_overtime_100 : decode cX3_overtime 100 = .ok (.invokestatic 84, 3) := by decide +kernel
theorem dX3_overtime_103 : decode cX3_overtime 103 = .ok (.ifCond .eq 7, 3) := by decide +kernel
theorem dX3_overtime_106 : decode cX3_overtime 106 = .ok (.iconst 1, 1) := by decide +kernel
theorem dX3_overtime_107 : decode cX3_overtime 107 = .ok (.goto 4, 3) := by decide +kernel
theorem dX3_overtime_110 : decode cX3_overtime 110 = .ok (.iconst 0, 1) := by decide +kernel
theorem dX3_overtime_111 : decode cX3_overtime 111 = .ok (.istore 4, 2) := by decide +kernel
theorem dX3_overtime_113 : decode cX3_overtime 113 = .ok (.iinc 5 1, 3) := by decide +kernel
theorem dX3_overtime_116 : decode cX3_overtime 116 = .ok (.goto (-57), 3) := by decide +kernel
theorem dX3_overtime_119 : decode cX3_overtime 119 = .ok (.iload_n 2, 1) := by decide +kernel
theorem dX3_overtime_120 : decode cX3_overtime 120 = .ok (.iload 4, 2) := by decide +kernel
theorem dX3_overtime_122 : decode cX3_overtime 122 = .ok (.ifCond .eq 7, 3) := by decide +kernel
theorem dX3_overtime_125 : decode cX3_overtime 125 = .ok (.iconst 1, 1) := by decide +kernel
theorem dX3_overtime_126 : decode cX3_overtime 126 = .ok (.goto 4, 3) := by decide +kernel
theorem dX3_overtime_129 : decode cX3_overtime 129 = .ok (.iconst 0, 1) := by decide +kernel
theorem dX3_overtime_130 : decode cX3_overtime 130 = .ok (.iadd, 1) := by decide +kernel
theorem dX3_overtime_131 : decode cX3_overtime 131 = .ok (.istore_n 2, 1) := by decide +kernel
theorem dX3_overtime_132 : decode cX3_overtime 132 = .ok (.iinc 3 1, 3) := by decide +kernel
theorem dX3_overtime_135 : decode cX3_overtime 135 = .ok (.goto (-99), 3) := by decide +kernel
theorem dX3_overtime_138 : decode cX3_overtime 138 = .ok (.iload_n 2, 1) := by decide +kernel
theorem dX3_overtime_139 : decode cX3_overtime 139 = .ok (.ireturn, 1) := by decide +kernel
theorem dX3_isFineBy_0 : decode cX3_isFineBy 0 = .ok (.aload_n 0, 1) := by decide +kernel
theorem dX3_isFineBy_1 : decode cX3_isFineBy 1 = .ok (.iload_n 1, 1) := by decide +kernel
theorem dX3_isFineBy_2 : decode cX3_isFineBy 2 = .ok (.invokevirtual 135, 3) := by decide +kernel
theorem dX3_isFineBy_5 : decode cX3_isFineBy 5 = .ok (.aload_n 0, 1) := by decide +kernel
theorem dX3_isFineBy_6 : decode cX3_isFineBy 6 = .ok (.getfield 125, 3) := by decide +kernel
theorem dX3_isFineBy_9 : decode cX3_isFineBy 9 = .ok (.iconst (-1), 1) := by decide +kernel
theorem dX3_isFineBy_10 : decode cX3_isFineBy 10 = .ok (.if_icmp .ne 7, 3) := by decide +kernel
theorem dX3_isFineBy_13 : decode cX3_isFineBy 13 = .ok (.iconst 1, 1) := by decide +kernel
theorem dX3_isFineBy_14 : decode cX3_isFineBy 14 = .ok (.goto 4, 3) := by decide +kernel
theorem dX3_isFineBy_17 : decode cX3_isFineBy 17 = .ok (.iconst 0, 1) := by decide +kernel
theorem dX3_isFineBy_18 : decode cX3_isFineBy 18 = .ok (.istore_n 2, 1) := by decide +kernel
theorem dX3_isFineBy_19 : decode cX3_isFineBy 19 = .ok (.iconst 0, 1) := by decide +kernel
theorem dX3_isFineBy_20 : decode cX3_isFineBy 20 = .ok (.istore_n 3, 1) := by decide +kernel
theorem dX3_isFineBy_21 : decode cX3_isFineBy 21 = .ok (.iload_n 3, 1) := by decide +kernel
theorem dX3_isFineBy_22 : decode cX3_isFineBy 22 = .ok (.aload_n 0, 1) := by decide +kernel
theorem dX3_isFineBy_23 : decode cX3_isFineBy 23 = .ok (.getfield 92, 3) := by decide +kernel
theorem dX3_isFineBy_26 : decode cX3_isFineBy 26 = .ok (.if_icmp .ge 28, 3) := by decide +kernel
theorem dX3_isFineBy_29 : decode cX3_isFineBy 29 = .ok (.iload_n 2, 1) := by decide +kernel
theorem dX3_isFineBy_30 : decode cX3_isFineBy 30 = .ok (.ifCond .eq 16, 3) := by decide +kernel
theorem dX3_isFineBy_33 : decode cX3_isFineBy 33 = .ok (.aload_n 0, 1) := by decide +kernel
theorem dX3_isFineBy_34 : decode cX3_isFineBy 34 = .ok (.iload_n 3, 1) := by decide +kernel
theorem dX3_isFineBy_35 : decode cX3_isFineBy 35 = .ok (.iconst (-1), 1) := by decide +kernel
theorem dX3_isFineBy_36 : decode cX3_isFineBy 36 = .ok (.invokevirtual 141, 3) := by decide +kernel
theorem dX3_isFineBy_39 : decode cX3_isFineBy 39 = .ok (.ifCond .ne 7, 3) := by decide +kernel
theorem dX3_isFineBy_42 : decode cX3_isFineBy 42 = .ok (.iconst 1, 1) := by decide +kernel
theorem dX3_isFineBy_43 : decode cX3_isFineBy 43 = .ok (.goto 4, 3) := by decide +kernel
theorem dX3_isFineBy_46 : decode cX3_isFineBy 46 = .ok (.iconst 0, 1) := by decide +kernel
theorem dX3_isFineBy_47 : decode cX3_isFineBy 47 = .ok (.istore_n 2, 1) := by decide +kernel
theorem dX3_isFineBy_48 : decode cX3_isFineBy 48 = .ok (.iinc 3 1, 3) := by decide +kernel
theorem dX3_isFineBy_51 : decode cX3_isFineBy 51 = .ok (.goto (-30), 3) := by decide +kernel
theorem dX3_isFineBy_54 : decode cX3_isFineBy 54 = .ok (.iconst 0, 1) := by decide +kernel
theorem dX3_isFineBy_55 : decode cX3_isFineBy 55 = .ok (.istore_n 3, 1) := by decide +kernel
theorem dX3_isFineBy_56 : decode cX3_isFineBy 56 = .ok (.iload_n 3, 1) := by decide +kernel
theorem dX3_isFineBy_57 : decode cX3_isFineBy 57 = .ok (.bipush 6, 2) := by decide +kernel
theorem dX3_isFineBy_59 : decode cX3_isFineBy 59 = .ok (.if_icmp .ge 27, 3) := by decide +kernel
theorem dX3_isFineBy_62 : decode cX3_isFineBy 62 = .ok (.iload_n 2, 1) := by decide +kernel
theorem dX3_isFineBy_63 : decode cX3_isFineBy 63 = .ok (.ifCond .eq 23, 3) := by decide +kernel
theorem dX3_isFineBy_66 : decode cX3_isFineBy 66 = .ok (.aload_n 0, 1) := by decide +kernel
theorem dX3_isFineBy_67 : decode cX3_isFineBy 67 = .ok (.iload_n 3, 1) := by decide +kernel
theorem dX3_isFineBy_68 : decode cX3_isFineBy 68 = .ok (.invokevirtual 151, 3) := by decide +kernel
theorem dX3_isFineBy_71 : decode cX3_isFineBy 71 = .ok (.ifCond .ne 7, 3) := by decide +kernel
theorem dX3_isFineBy_74 : decode cX3_isFineBy 74 = .ok (.iconst 1, 1) := by decide +kernel
theorem dX3_isFineBy_75 : decode cX3_isFineBy 75 = .ok (.goto 4, 3) := by decide +kernel
theorem dX3_isFineBy_78 : decode cX3_isFineBy 78 = .ok (.iconst 0, 1) := by decide +kernel
theorem dX3_isFineBy_79 : decode cX3_isFineBy 79 = .ok (.istore_n 2, 1) := by decide +kernel
theorem dX3_isFineBy_80 : decode cX3_isFineBy 80 = .ok (.iinc 3 1, 3) := by decide +kernel
theorem dX3_isFineBy_83 : decode cX3_isFineBy 83 = .ok (.goto (-27), 3) := by decide +kernel
theorem dX3_isFineBy_86 : decode cX3_isFineBy 86 = .ok (.iload_n 2, 1) := by decide +kernel
theorem dX3_isFineBy_87 : decode cX3_isFineBy 87 = .ok (.ireturn, 1) := by decide +kernel
theorem dX3_isFine_0 : decode cX3_isFine 0 = .ok (.aload_n 0, 1) := by decide +kernel
theorem dX3_isFine_1 : decode cX3_isFine 1 = .ok (.iconst 0, 1) := by decide +kernel
theorem dX3_isFine_2 : decode cX3_isFine 2 = .ok (.putfield 78, 3) := by decide +kernel
theorem dX3_isFine_5 : decode cX3_isFine 5 = .ok (.aload_n 0, 1) := by decide +kernel
theorem dX3_isFine_6 : decode cX3_isFine 6 = .ok (.aload_n 0, 1) := by decide +kernel
theorem dX3_isFine_7 : decode cX3_isFine 7 = .ok (.getfield 48, 3) := by decide +kernel
theorem dX3_isFine_10 : decode cX3_isFine 10 = .ok (.invokevirtual 154, 3) := by decide +kernel
theorem dX3_isFine_13 : decode cX3_isFine 13 = .ok (.ireturn, 1) := by decide +kernel
theorem dX3_fastest_0 : decode cX3_fastest 0 = .ok (.aload_n 0, 1) := by decide +kernel
theorem dX3_fastest_1 : decode cX3_fastest 1 = .ok (.iconst 0, 1) := by decide +kernel
theorem dX3_fastest_2 : decode cX3_fastest 2 = .ok (.putfield 78, 3) := by decide +kernel
theorem dX3_fastest_5 : decode cX3_fastest 5 = .ok (.sipush 200, 3) := by decide +kernel
theorem dX3_fastest_8 : decode cX3_fastest 8 = .ok (.istore_n 1, 1) := by decide +kernel
theorem dX3_fastest_9 : decode cX3_fastest 9 = .ok (.iload_n 1, 1) := by decide +kernel
theorem dX3_fastest_10 : decode cX3_fastest 10 = .ok (.bipush 50, 2) := by decide +kernel
theorem dX3_fastest_12 : decode cX3_fastest 12 = .ok (.if_icmp .lt 17, 3) := by decide +kernel
theorem dX3_fastest_15 : decode cX3_fastest 15 = .ok (.aload_n 0, 1) := by decide +kernel
theorem dX3_fastest_16 : decode cX3_fastest 16 = .ok (.iload_n 1, 1) := by decide +kernel
theorem dX3_fastest_17 : decode cX3_fastest 17 = .ok (.invokevirtual 154, 3) := by decide +kernel
theorem dX3_fastest_20 : decode cX3_fastest 20 = .ok (.ifCond .ne 9, 3) := by decide +kernel
theorem dX3_fastest_23 : decode cX3_fastest 23 = .ok (.iinc 1 (-10), 3) := by decide +kernel
theorem dX3_fastest_26 : decode cX3_fastest 26 = .ok (.goto (-17), 3) := by decide +kernel
theorem dX3_fastest_29 : decode cX3_fastest 29 = .ok (.iload_n 1, 1) := by decide +kernel
theorem dX3_fastest_30 : decode cX3_fastest 30 = .ok (.bipush 50, 2) := by decide +kernel
theorem dX3_fastest_32 : decode cX3_fastest 32 = .ok (.if_icmp .ge 7, 3) := by decide +kernel
theorem dX3_fastest_35 : decode cX3_fastest 35 = .ok (.iconst (-1), 1) := by decide +kernel
theorem dX3_fastest_36 : decode cX3_fastest 36 = .ok (.goto 4, 3) := by decide +kernel
theorem dX3_fastest_39 : decode cX3_fastest 39 = .ok (.iload_n 1, 1) := by decide +kernel
theorem dX3_fastest_40 : decode cX3_fastest 40 = .ok (.ireturn, 1) := by decide +kernel
theorem dJ9_floorMod_7cf53_0 : decode cJ9_floorMod_7cf53 0 = .ok (.iload_n 0, 1) := by decide +kernel
theorem dJ9_floorMod_7cf53_1 : decode cJ9_floorMod_7cf53 1 = .ok (.iload_n 1, 1) := by decide +kernel
theorem dJ9_floorMod_7cf53_2 : decode cJ9_floorMod_7cf53 2 = .ok (.irem, 1) := by decide +kernel
theorem dJ9_floorMod_7cf53_3 : decode cJ9_floorMod_7cf53 3 = .ok (.istore_n 2, 1) := by decide +kernel
theorem dJ9_floorMod_7cf53_4 : decode cJ9_floorMod_7cf53 4 = .ok (.iload_n 0, 1) := by decide +kernel
theorem dJ9_floorMod_7cf53_5 : decode cJ9_floorMod_7cf53 5 = .ok (.iload_n 1, 1) := by decide +kernel
theorem dJ9_floorMod_7cf53_6 : decode cJ9_floorMod_7cf53 6 = .ok (.ixor, 1) := by decide +kernel
theorem dJ9_floorMod_7cf53_7 : decode cJ9_floorMod_7cf53 7 = .ok (.ifCond .ge 11, 3) := by decide +kernel
theorem dJ9_floorMod_7cf53_10 : decode cJ9_floorMod_7cf53 10 = .ok (.iload_n 2, 1) := by decide +kernel
theorem dJ9_floorMod_7cf53_11 : decode cJ9_floorMod_7cf53 11 = .ok (.ifCond .eq 7, 3) := by decide +kernel
theorem dJ9_floorMod_7cf53_14 : decode cJ9_floorMod_7cf53 14 = .ok (.iload_n 2, 1) := by decide +kernel
theorem dJ9_floorMod_7cf53_15 : decode cJ9_floorMod_7cf53 15 = .ok (.iload_n 1, 1) := by decide +kernel
theorem dJ9_floorMod_7cf53_16 : decode cJ9_floorMod_7cf53 16 = .ok (.iadd, 1) := by decide +kernel
theorem dJ9_floorMod_7cf53_17 : decode cJ9_floorMod_7cf53 17 = .ok (.ireturn, 1) := by decide +kernel
theorem dJ9_floorMod_7cf53_18 : decode cJ9_floorMod_7cf53 18 = .ok (.iload_n 2, 1) := by decide +kernel
theorem dJ9_floorMod_7cf53_19 : decode cJ9_floorMod_7cf53 19 = .ok (.ireturn, 1) := by decide +kernel
theorem dJxa1e45_init_da8c8_0 : decode cJxa1e45_init_da8c8 0 = .ok (.aload_n 0, 1) := by decide +kernel
theorem dJxa1e45_init_da8c8_1 : decode cJxa1e45_init_da8c8 1 = .ok (.invokespecial 1, 3) := by decide +kernel
theorem dJxa1e45_init_da8c8_4 : decode cJxa1e45_init_da8c8 4 = .ok (.return_, 1) := by decide +kernel
theorem dJxc12de_init_da8c8_0 : decode cJxc12de_init_da8c8 0 = .ok (.aload_n 0, 1) := by decide +kernel
theorem dJxc12de_init_da8c8_1 : decode cJxc12de_init_da8c8 1 = .ok (.invokespecial 1, 3) := by decide +kernel
theorem dJxc12de_init_da8c8_4 : decode cJxc12de_init_da8c8 4 = .ok (.aload_n 0, 1) := by decide +kernel
theorem dJxc12de_init_da8c8_5 : decode cJxc12de_init_da8c8 5 = .ok (.iconst 0, 1) := by decide +kernel
theorem dJxc12de_init_da8c8_6 : decode cJxc12de_init_da8c8 6 = .ok (.putfield 7, 3) := by decide +kernel
theorem dJxc12de_init_da8c8_9 : decode cJxc12de_init_da8c8 9 = .ok (.return_, 1) := by decide +kernel
theorem dJx4a65c_init_da8c8_0 : decode cJx4a65c_init_da8c8 0 = .ok (.aload_n 0, 1) := by decide +kernel
theorem dJx4a65c_init_da8c8_1 : decode cJx4a65c_init_da8c8 1 = .ok (.invokespecial 1, 3) := by decide +kernel
theorem dJx4a65c_init_da8c8_4 : decode cJx4a65c_init_da8c8 4 = .ok (.aload_n 0, 1) := by decide +kernel
theorem dJx4a65c_init_da8c8_5 : decode cJx4a65c_init_da8c8 5 = .ok (.getstatic 39, 3) := by decide +kernel
theorem dJx4a65c_init_da8c8_8 : decode cJx4a65c_init_da8c8 8 = .ok (.putfield 9, 3) := by decide +kernel
theorem dJx4a65c_init_da8c8_11 : decode cJx4a65c_init_da8c8 11 = .ok (.return_, 1) := by decide +kernel
theorem dJx4a65c_grow_92f84_0 : decode cJx4a65c_grow_92f84 0 = .ok (.aload_n 0, 1) := by decide +kernel
theorem dJx4a65c_grow_92f84_1 : decode cJx4a65c_grow_92f84 1 = .ok (.getfield 9, 3) := by decide +kernel
theorem dJx4a65c_grow_92f84_4 : decode cJx4a65c_grow_92f84 4 = .ok (.arraylength, 1) := by decide +kernel
theorem dJx4a65c_grow_92f84_5 : decode cJx4a65c_grow_92f84 5 = .ok (.istore_n 2, 1) := by decide +kernel
theorem dJx4a65c_grow_92f84_6 : decode cJx4a65c_grow_92f84 6 = .ok (.iload_n 2, 1) := by decide +kernel
theorem dJx4a65c_grow_92f84_7 : decode cJx4a65c_grow_92f84 7 = .ok (.ifCond .gt 13, 3) := by decide +kernel
theorem dJx4a65c_grow_92f84_10 : decode cJx4a65c_grow_92f84 10 = .ok (.aload_n 0, 1) := by decide +kernel
theorem dJx4a65c_grow_92f84_11 : decode cJx4a65c_grow_92f84 11 = .ok (.getfield 9, 3) := by decide +kernel
theorem dJx4a65c_grow_92f84_14 : decode cJx4a65c_grow_92f84 14 = .ok (.getstatic 39, 3) := by decide +kernel
theorem dJx4a65c_grow_92f84_17 : decode cJx4a65c_grow_92f84 17 = .ok (.if_acmp .eq 28, 3) := by decide +kernel
theorem dJx4a65c_grow_92f84_20 : decode cJx4a65c_grow_92f84 20 = .ok (.iload_n 2, 1) := by decide +kernel
theorem dJx4a65c_grow_92f84_21 : decode cJx4a65c_grow_92f84 21 = .ok (.iload_n 1, 1) := by decide +kernel
theorem dJx4a65c_grow_92f84_22 : decode cJx4a65c_grow_92f84 22 = .ok (.iload_n 2, 1) := by decide +kernel
theorem dJx4a65c_grow_92f84_23 : decode cJx4a65c_grow_92f84 23 = .ok (.isub, 1) := by decide +kernel
theorem dJx4a65c_grow_92f84_24 : decode cJx4a65c_grow_92f84 24 = .ok (.iload_n 2, 1) := by decide +kernel
theorem dJx4a65c_grow_92f84_25 : decode cJx4a65c_grow_92f84 25 = .ok (.iconst 1, 1) := by decide +kernel
theorem dJx4a65c_grow_92f84_26 : decode cJx4a65c_grow_92f84 26 = .ok (.ishr, 1) := by decide +kernel
theorem dJx4a65c_grow_92f84_27 : decode cJx4a65c_grow_92f84 27 = .ok (.invokestatic 73, 3) := by decide +kernel
theorem dJx4a65c_grow_92f84_30 : decode cJx4a65c_grow_92f84 30 = .ok (.istore_n 3, 1) := by decide +kernel
theorem dJx4a65c_grow_92f84_31 : decode cJx4a65c_grow_92f84 31 = .ok (.aload_n 0, 1) := by decide +kernel
theorem dJx4a65c_grow_92f84_32 : decode cJx4a65c_grow_92f84 32 = .ok (.aload_n 0, 1) := by decide +kernel
theorem dJx4a65c_grow_92f84_33 : decode cJx4a65c_grow_92f84 33 = .ok (.getfield 9, 3) := by decide +kernel
theorem dJx4a65c_grow_92f84_36 : decode cJx4a65c_grow_92f84 36 = .ok (.iload_n 3, 1) := by decide +kernel
theorem dJx4a65c_grow_92f84_37 : decode cJx4a65c_grow_92f84 37 = .ok (.invokestatic 66, 3) := by decide +kernel
theorem dJx4a65c_grow_92f84_40 : decode cJx4a65c_grow_92f84 40 = .ok (.dup_x1, 1) := by decide +kernel
theorem dJx4a65c_grow_92f84_41 : decode cJx4a65c_grow_92f84 41 = .ok (.putfield 9, 3) := by decide +kernel
theorem dJx4a65c_grow_92f84_44 : decode cJx4a65c_grow_92f84 44 = .ok (.areturn, 1) := by decide +kernel
theorem dJx4a65c_grow_92f84_45 : decode cJx4a65c_grow_92f84 45 = .ok (.aload_n 0, 1) := by decide +kernel
theorem dJx4a65c_grow_92f84_46 : decode cJx4a65c_grow_92f84 46 = .ok (.bipush 10, 2) := by decide +kernel
theorem dJx4a65c_grow_92f84_48 : decode cJx4a65c_grow_92f84 48 = .ok (.iload_n 1, 1) := by decide +kernel
theorem dJx4a65c_grow_92f84_49 : decode cJx4a65c_grow_92f84 49 = .ok (.invokestatic 79, 3) := by decide +kernel
theorem dJx4a65c_grow_92f84_52 : decode cJx4a65c_grow_92f84 52 = .ok (.anewarray 7, 3) := by decide +kernel
theorem dJx4a65c_grow_92f84_55 : decode cJx4a65c_grow_92f84 55 = .ok (.dup_x1, 1) := by decide +kernel
theorem dJx4a65c_grow_92f84_56 : decode cJx4a65c_grow_92f84 56 = .ok (.putfield 9, 3) := by decide +kernel
theorem dJx4a65c_grow_92f84_59 : decode cJx4a65c_grow_92f84 59 = .ok (.areturn, 1) := by decide +kernel
theorem dJx4a65c_grow_d5877_0 : decode cJx4a65c_grow_d5877 0 = .ok (.aload_n 0, 1) := by decide +kernel
theorem dJx4a65c_grow_d5877_1 : decode cJx4a65c_grow_d5877 1 = .ok (.aload_n 0, 1) := by decide +kernel
theorem dJx4a65c_grow_d5877_2 : decode cJx4a65c_grow_d5877 2 = .ok (.getfield 48, 3) := by decide +kernel
theorem dJx4a65c_grow_d5877_5 : decode cJx4a65c_grow_d5877 5 = .ok (.iconst 1, 1) := by decide +kernel
theorem dJx4a65c_grow_d5877_6 : decode cJx4a65c_grow_d5877 6 = .ok (.iadd, 1) := by decide +kernel
theorem dJx4a65c_grow_d5877_7 : decode cJx4a65c_grow_d5877 7 = .ok (.invokevirtual 69, 3) := by decide +kernel
theorem dJx4a65c_grow_d5877_10 : decode cJx4a65c_grow_d5877 10 = .ok (.areturn, 1) := by decide +kernel
theorem dJx4a65c_size_8abf5_0 : decode cJx4a65c_size_8abf5 0 = .ok (.aload_n 0, 1) := by decide +kernel
theorem dJx4a65c_size_8abf5_1 : decode cJx4a65c_size_8abf5 1 = .ok (.getfield 48, 3) := by decide +kernel
theorem dJx4a65c_size_8abf5_4 : decode cJx4a65c_size_8abf5 4 = .ok (.ireturn, 1) := by decide +kernel
theorem dJx4a65c_elementData_915e3_0 : decode cJx4a65c_elementData_915e3 0 = .ok (.aload_n 0, 1) := by decide +kernel
theorem dJx4a65c_elementData_915e3_1 : decode cJx4a65c_elementData_915e3 1 = .ok (.getfield 9, 3) := by decide +kernel
theorem dJx4a65c_elementData_915e3_4 : decode cJx4a65c_elementData_915e3 4 = .ok (.iload_n 1, 1) := by decide +kernel
theorem dJx4a65c_elementData_915e3_5 : decode cJx4a65c_elementData_915e3 5 = .ok (.aaload, 1) := by decide +kernel
theorem dJx4a65c_elementData_915e3_6 : decode cJx4a65c_elementData_915e3 6 = .ok (.areturn, 1) := by decide +kernel
theorem dJx4a65c_get_915e3_0 : decode cJx4a65c_get_915e3 0 = .ok (.iload_n 1, 1) := by decide +kernel
theorem dJx4a65c_get_915e3_1 : decode cJx4a65c_get_915e3 1 = .ok (.aload_n 0, 1) := by decide +kernel
theorem dJx4a65c_get_915e3_2 : decode cJx4a65c_get_915e3 2 = .ok (.getfield 48, 3) := by decide +kernel
theorem dJx4a65c_get_915e3_5 : decode cJx4a65c_get_915e3 5 = .ok (.invokestatic 118, 3) := by decide +kernel
theorem dJx4a65c_get_915e3_8 : decode cJx4a65c_get_915e3 8 = .ok (.pop, 1) := by decide +kernel
theorem dJx4a65c_get_915e3_9 : decode cJx4a65c_get_915e3 9 = .ok (.aload_n 0, 1) := by decide +kernel
theorem dJx4a65c_get_915e3_10 : decode cJx4a65c_get_915e3 10 = .ok (.iload_n 1, 1) := by decide +kernel
theorem dJx4a65c_get_915e3_11 : decode cJx4a65c_get_915e3 11 = .ok (.invokevirtual 123, 3) := by decide +kernel
theorem dJx4a65c_get_915e3_14 : decode cJx4a65c_get_915e3 14 = .ok (.areturn, 1) := by decide +kernel
theorem dJx4a65c_add_72be8_0 : decode cJx4a65c_add_72be8 0 = .ok (.iload_n 3, 1) := by decide +kernel
theorem dJx4a65c_add_72be8_1 : decode cJx4a65c_add_72be8 1 = .ok (.aload_n 2, 1) := by decide +kernel
theorem dJx4a65c_add_72be8_2 : decode cJx4a65c_add_72be8 2 = .ok (.arraylength, 1) := by decide +kernel
theorem dJx4a65c_add_72be8_3 : decode cJx4a65c_add_72be8 3 = .ok (.if_icmp .ne 8, 3) := by decide +kernel
theorem dJx4a65c_add_72be8_6 : decode cJx4a65c_add_72be8 6 = .ok (.aload_n 0, 1) := by decide +kernel
theorem dJx4a65c_add_72be8_7 : decode cJx4a65c_add_72be8 7 = .ok (.invokevirtual 129, 3) := by decide +kernel
theorem dJx4a65c_add_72be8_10 : decode cJx4a65c_add_72be8 10 = .ok (.astore_n 2, 1) := by decide +kernel
theorem dJx4a65c_add_72be8_11 : decode cJx4a65c_add_72be8 11 = .ok (.aload_n 2, 1) := by decide +kernel
theorem dJx4a65c_add_72be8_12 : decode cJx4a65c_add_72be8 12 = .ok (.iload_n 3, 1) := by decide +kernel
theorem dJx4a65c_add_72be8_13 : decode cJx4a65c_add_72be8 13 = .ok (.aload_n 1, 1) := by decide +kernel
theorem dJx4a65c_add_72be8_14 : decode cJx4a65c_add_72be8 14 = .ok (.aastore, 1) := by decide +kernel
theorem dJx4a65c_add_72be8_15 : decode cJx4a65c_add_72be8 15 = .ok (.aload_n 0, 1) := by decide +kernel
theorem dJx4a65c_add_72be8_16 : decode cJx4a65c_add_72be8 16 = .ok (.iload_n 3, 1) := by decide +kernel
theorem dJx4a65c_add_72be8_17 : decode cJx4a65c_add_72be8 17 = .ok (.iconst 1, 1) := by decide +kernel
theorem dJx4a65c_add_72be8_18 : decode cJx4a65c_add_72be8 18 = .ok (.iadd, 1) := by decide +kernel
theorem dJx4a65c_add_72be8_19 : decode cJx4a65c_add_72be8 19 = .ok (.putfield 48, 3) := by decide +kernel
theorem dJx4a65c_add_72be8_22 : decode cJx4a65c_add_72be8 22 = .ok (.return_, 1) := by decide +kernel
theorem dJx4a65c_add_9ea2d_0 : decode cJx4a65c_add_9ea2d 0 = .ok (.aload_n 0, 1) := by decide +kernel
theorem dJx4a65c_add_9ea2d_1 : decode cJx4a65c_add_9ea2d 1 = .ok (.dup, 1) := by decide +kernel
theorem dJx4a65c_add_9ea2d_2 : decode cJx4a65c_add_9ea2d 2 = .ok (.getfield 63, 3) := by decide +kernel
theorem dJx4a65c_add_9ea2d_5 : decode cJx4a65c_add_9ea2d 5 = .ok (.iconst 1, 1) := by decide +kernel
theorem dJx4a65c_add_9ea2d_6 : decode cJx4a65c_add_9ea2d 6 = .ok (.iadd, 1) := by decide +kernel
theorem dJx4a65c_add_9ea2d_7 : decode cJx4a65c_add_9ea2d 7 = .ok (.putfield 63, 3) := by decide +kernel
theorem dJx4a65c_add_9ea2d_10 : decode cJx4a65c_add_9ea2d 10 = .ok (.aload_n 0, 1) := by decide +kernel
theorem dJx4a65c_add_9ea2d_11 : decode cJx4a65c_add_9ea2d 11 = .ok (.aload_n 1, 1) := by decide +kernel
theorem dJx4a65c_add_9ea2d_12 : decode cJx4a65c_add_9ea2d 12 = .ok (.aload_n 0, 1) := by decide +kernel
theorem dJx4a65c_add_9ea2d_13 : decode cJx4a65c_add_9ea2d 13 = .ok (.getfield 9, 3) := by decide +kernel
theorem dJx4a65c_add_9ea2d_16 : decode cJx4a65c_add_9ea2d 16 = .ok (.aload_n 0, 1) := by decide +kernel
theorem dJx4a65c_add_9ea2d_17 : decode cJx4a65c_add_9ea2d 17 = .ok (.getfield 48, 3) := by decide +kernel
theorem dJx4a65c_add_9ea2d_20 : decode cJx4a65c_add_9ea2d 20 = .ok (.invokevirtual 131, 3) := by decide +kernel
theorem dJx4a65c_add_9ea2d_23 : decode cJx4a65c_add_9ea2d 23 = .ok (.iconst 1, 1) := by decide +kernel
theorem dJx4a65c_add_9ea2d_24 : decode cJx4a65c_add_9ea2d 24 = .ok (.ireturn, 1) := by decide +kernel
theorem dJx4a65c_add_7a177_0 : decode cJx4a65c_add_7a177 0 = .ok (.aload_n 0, 1) := by decide +kernel
theorem dJx4a65c_add_7a177_1 : decode cJx4a65c_add_7a177 1 = .ok (.iload_n 1, 1) := by decide +kernel
theorem dJx4a65c_add_7a177_2 : decode cJx4a65c_add_7a177 2 = .ok (.invokevirtual 135, 3) := by decide +kernel
theorem dJx4a65c_add_7a177_5 : decode cJx4a65c_add_7a177 5 = .ok (.aload_n 0, 1) := by decide +kernel
theorem dJx4a65c_add_7a177_6 : decode cJx4a65c_add_7a177 6 = .ok (.dup, 1) := by decide +kernel
theorem dJx4a65c_add_7a177_7 : decode cJx4a65c_add_7a177 7 = .ok (.getfield 63, 3) := by decide +kernel
theorem dJx4a65c_add_7a177_10 : decode cJx4a65c_add_7a177 10 = .ok (.iconst 1, 1) := by decide +kernel
theorem dJx4a65c_add_7a177_11 : decode cJx4a65c_add_7a177 11 = .ok (.iadd, 1) := by decide +kernel
theorem dJx4a65c_add_7a177_12 : decode cJx4a65c_add_7a177 12 = .ok (.putfield 63, 3) := by decide +kernel
theorem dJx4a65c_add_7a177_15 : decode cJx4a65c_add_7a177 15 = .ok (.aload_n 0, 1) := by decide +kernel
theorem dJx4a65c_add_7a177_16 : decode cJx4a65c_add_7a177 16 = .ok (.getfield 48, 3) := by decide +kernel
theorem dJx4a65c_add_7a177_19 : decode cJx4a65c_add_7a177 19 = .ok (.dup, 1) := by decide +kernel
theorem dJx4a65c_add_7a177_20 : decode cJx4a65c_add_7a177 20 = .ok (.istore_n 3, 1) := by decide +kernel
theorem dJx4a65c_add_7a177_21 : decode cJx4a65c_add_7a177 21 = .ok (.aload_n 0, 1) := by decide +kernel
theorem dJx4a65c_add_7a177_22 : decode cJx4a65c_add_7a177 22 = .ok (.getfield 9, 3) := by decide +kernel
theorem dJx4a65c_add_7a177_25 : decode cJx4a65c_add_7a177 25 = .ok (.dup, 1) := by decide +kernel
theorem dJx4a65c_add_7a177_26 : decode cJx4a65c_add_7a177 26 = .ok (.astore 4, 2) := by decide +kernel
theorem dJx4a65c_add_7a177_28 : decode cJx4a65c_add_7a177 28 = .ok (.arraylength, 1) := by decide +kernel
theorem dJx4a65c_add_7a177_29 : decode cJx4a65c_add_7a177 29 = .ok (.if_icmp .ne 9, 3) := by decide +kernel
theorem dJx4a65c_add_7a177_32 : decode cJx4a65c_add_7a177 32 = .ok (.aload_n 0, 1) := by decide +kernel
theorem dJx4a65c_add_7a177_33 : decode cJx4a65c_add_7a177 33 = .ok (.invokevirtual 129, 3) := by decide +kernel
theorem dJx4a65c_add_7a177_36 : decode cJx4a65c_add_7a177 36 = .ok (.astore 4, 2) := by decide +kernel
theorem dJx4a65c_add_7a177_38 : decode cJx4a65c_add_7a177 38 = .ok (.aload 4, 2) := by decide +kernel
theorem dJx4a65c_add_7a177_40 : decode cJx4a65c_add_7a177 40 = .ok (.iload_n 1, 1) := by decide +kernel
theorem dJx4a65c_add_7a177_41 : decode cJx4a65c_add_7a177 41 = .ok (.aload 4, 2) := by decide +kernel
theorem dJx4a65c_add_7a177_43 : decode cJx4a65c_add_7a177 43 = .ok (.iload_n 1, 1) := by decide +kernel
theorem dJx4a65c_add_7a177_44 : decode cJx4a65c_add_7a177 44 = .ok (.iconst 1, 1) := by decide +kernel
theorem dJx4a65c_add_7a177_45 : decode cJx4a65c_add_7a177 45 = .ok (.iadd, 1) := by decide +kernel
theorem dJx4a65c_add_7a177_46 : decode cJx4a65c_add_7a177 46 = .ok (.iload_n 3, 1) := by decide +kernel
theorem dJx4a65c_add_7a177_47 : decode cJx4a65c_add_7a177 47 = .ok (.iload_n 1, 1) := by decide +kernel
theorem dJx4a65c_add_7a177_48 : decode cJx4a65c_add_7a177 48 = .ok (.isub, 1) := by decide +kernel
theorem dJx4a65c_add_7a177_49 : decode cJx4a65c_add_7a177 49 = .ok (.invokestatic 112, 3) := by decide +kernel
theorem dJx4a65c_add_7a177_52 : decode cJx4a65c_add_7a177 52 = .ok (.aload 4, 2) := by decide +kernel
theorem dJx4a65c_add_7a177_54 : decode cJx4a65c_add_7a177 54 = .ok (.iload_n 1, 1) := by decide +kernel
theorem dJx4a65c_add_7a177_55 : decode cJx4a65c_add_7a177 55 = .ok (.aload_n 2, 1) := by decide +kernel
theorem dJx4a65c_add_7a177_56 : decode cJx4a65c_add_7a177 56 = .ok (.aastore, 1) := by decide +kernel
theorem dJx4a65c_add_7a177_57 : decode cJx4a65c_add_7a177 57 = .ok (.aload_n 0, 1) := by decide +kernel
theorem dJx4a65c_add_7a177_58 : decode cJx4a65c_add_7a177 58 = .ok (.iload_n 3, 1) := by decide +kernel
theorem dJx4a65c_add_7a177_59 : decode cJx4a65c_add_7a177 59 = .ok (.iconst 1, 1) := by decide +kernel
theorem dJx4a65c_add_7a177_60 : decode cJx4a65c_add_7a177 60 = .ok (.iadd, 1) := by decide +kernel
theorem dJx4a65c_add_7a177_61 : decode cJx4a65c_add_7a177 61 = .ok (.putfield 48, 3) := by decide +kernel
theorem dJx4a65c_add_7a177_64 : decode cJx4a65c_add_7a177 64 = .ok (.return_, 1) := by decide +kernel
theorem dJx4a65c_rangeCheckForAdd_d00df_0 : decode cJx4a65c_rangeCheckForAdd_d00df 0 = .ok (.iload_n 1, 1) := by decide +kernel
theorem dJx4a65c_rangeCheckForAdd_d00df_1 : decode cJx4a65c_rangeCheckForAdd_d00df 1 = .ok (.aload_n 0, 1) := by decide +kernel
theorem dJx4a65c_rangeCheckForAdd_d00df_2 : decode cJx4a65c_rangeCheckForAdd_d00df 2 = .ok (.getfield 48, 3) := by decide +kernel
theorem dJx4a65c_rangeCheckForAdd_d00df_5 : decode cJx4a65c_rangeCheckForAdd_d00df 5 = .ok (.if_icmp .gt 7, 3) := by decide +kernel
theorem dJx4a65c_rangeCheckForAdd_d00df_8 : decode cJx4a65c_rangeCheckForAdd_d00df 8 = .ok (.iload_n 1, 1) := by decide +kernel
theorem dJx4a65c_rangeCheckForAdd_d00df_9 : decode cJx4a65c_rangeCheckForAdd_d00df 9 = .ok (.ifCond .ge 16, 3) := by decide +kernel
theorem dJx4a65c_rangeCheckForAdd_d00df_12 : decode cJx4a65c_rangeCheckForAdd_d00df 12 = .ok (.new 187, 3) := by decide +kernel
theorem dJx4a65c_rangeCheckForAdd_d00df_15 : decode cJx4a65c_rangeCheckForAdd_d00df 15 = .ok (.dup, 1) := by decide +kernel
theorem dJx4a65c_rangeCheckForAdd_d00df_16 : decode cJx4a65c_rangeCheckForAdd_d00df 16 = .ok (.aload_n 0, 1) := by decide +kernel
theorem dJx4a65c_rangeCheckForAdd_d00df_17 : decode cJx4a65c_rangeCheckForAdd_d00df 17 = .ok (.iload_n 1, 1) := by decide +kernel
theorem dJx4a65c_rangeCheckForAdd_d00df_18 : decode cJx4a65c_rangeCheckForAdd_d00df 18 = .ok (.invokevirtual 198, 3) := by decide +kernel
theorem dJx4a65c_rangeCheckForAdd_d00df_21 : decode cJx4a65c_rangeCheckForAdd_d00df 21 = .ok (.invokespecial 193, 3) := by decide +kernel
theorem dJx4a65c_rangeCheckForAdd_d00df_24 : decode cJx4a65c_rangeCheckForAdd_d00df 24 = .ok (.athrow, 1) := by decide +kernel
theorem dJx4a65c_rangeCheckForAdd_d00df_25 : decode cJx4a65c_rangeCheckForAdd_d00df 25 = .ok (.return_, 1) := by decide +kernel
theorem dJ7_copyOf_1904c_0 : decode cJ7_copyOf_1904c 0 = .ok (.aload_n 0, 1) := by decide +kernel
theorem dJ7_copyOf_1904c_1 : decode cJ7_copyOf_1904c 1 = .ok (.iload_n 1, 1) := by decide +kernel
theorem dJ7_copyOf_1904c_2 : decode cJ7_copyOf_1904c 2 = .ok (.aload_n 0, 1) := by decide +kernel
theorem dJ7_copyOf_1904c_3 : decode cJ7_copyOf_1904c 3 = .ok (.invokevirtual 86, 3) := by decide +kernel
theorem dJ7_copyOf_1904c_6 : decode cJ7_copyOf_1904c 6 = .ok (.invokestatic 300, 3) := by decide +kernel
theorem dJ7_copyOf_1904c_9 : decode cJ7_copyOf_1904c 9 = .ok (.areturn, 1) := by decide +kernel
theorem dJ7_copyOf_6403c_0 : decode cJ7_copyOf_6403c 0 = .ok (.aload_n 2, 1) := by decide +kernel
theorem dJ7_copyOf_6403c_1 : decode cJ7_copyOf_6403c 1 = .ok (.ldc 110, 2) := by decide +kernel
theorem dJ7_copyOf_6403c_3 : decode cJ7_copyOf_6403c 3 = .ok (.if_acmp .ne 10, 3) := by decide +kernel
theorem dJ7_copyOf_6403c_6 : decode cJ7_copyOf_6403c 6 = .ok (.iload_n 1, 1) := by decide +kernel
theorem dJ7_copyOf_6403c_7 : decode cJ7_copyOf_6403c 7 = .ok (.anewarray 2, 3) := by decide +kernel
theorem dJ7_copyOf_6403c_10 : decode cJ7_copyOf_6403c 10 = .ok (.goto 14, 3) := by decide +kernel
theorem dJ7_copyOf_6403c_13 : decode cJ7_copyOf_6403c 13 = .ok (.aload_n 2, 1) := by decide +kernel
theorem dJ7_copyOf_6403c_14 : decode cJ7_copyOf_6403c 14 = .ok (.invokevirtual 90, 3) := by decide +kernel
theorem dJ7_copyOf_6403c_17 : decode cJ7_copyOf_6403c 17 = .ok (.iload_n 1, 1) := by decide +kernel
theorem dJ7_copyOf_6403c_18 : decode cJ7_copyOf_6403c 18 = .ok (.invokestatic 95, 3) := by decide +kernel
theorem dJ7_copyOf_6403c_21 : decode cJ7_copyOf_6403c 21 = .ok (.checkcast 110, 3) := by decide +kernel
theorem dJ7_copyOf_6403c_24 : decode cJ7_copyOf_6403c 24 = .ok (.astore_n 3, 1) := by decide +kernel
theorem dJ7_copyOf_6403c_25 : decode cJ7_copyOf_6403c 25 = .ok (.aload_n 0, 1) := by decide +kernel
theorem dJ7_copyOf_6403c_26 : decode cJ7_copyOf_6403c 26 = .ok (.iconst 0, 1) := by decide +kernel
theorem dJ7_copyOf_6403c_27 : decode cJ7_copyOf_6403c 27 = .ok (.aload_n 3, 1) := by decide +kernel
theorem dJ7_copyOf_6403c_28 : decode cJ7_copyOf_6403c 28 = .ok (.iconst 0, 1) := by decide +kernel
theorem dJ7_copyOf_6403c_29 : decode cJ7_copyOf_6403c 29 = .ok (.aload_n 0, 1) := by decide +kernel
theorem dJ7_copyOf_6403c_30 : decode cJ7_copyOf_6403c 30 = .ok (.arraylength, 1) := by decide +kernel
theorem dJ7_copyOf_6403c_31 : decode cJ7_copyOf_6403c 31 = .ok (.iload_n 1, 1) := by decide +kernel
theorem dJ7_copyOf_6403c_32 : decode cJ7_copyOf_6403c 32 = .ok (.invokestatic 304, 3) := by decide +kernel
theorem dJ7_copyOf_6403c_35 : decode cJ7_copyOf_6403c 35 = .ok (.invokestatic 150, 3) := by decide +kernel
theorem dJ7_copyOf_6403c_38 : decode cJ7_copyOf_6403c 38 = .ok (.aload_n 3, 1) := by decide +kernel
theorem dJ7_copyOf_6403c_39 : decode cJ7_copyOf_6403c 39 = .ok (.areturn, 1) := by decide +kernel
theorem dJ15_checkIndex_7cf53_0 : decode cJ15_checkIndex_7cf53 0 = .ok (.iload_n 0, 1) := by decide +kernel
theorem dJ15_checkIndex_7cf53_1 : decode cJ15_checkIndex_7cf53 1 = .ok (.iload_n 1, 1) := by decide +kernel
theorem dJ15_checkIndex_7cf53_2 : decode cJ15_checkIndex_7cf53 2 = .ok (.aconst_null, 1) := by decide +kernel
theorem dJ15_checkIndex_7cf53_3 : decode cJ15_checkIndex_7cf53 3 = .ok (.invokestatic 105, 3) := by decide +kernel
theorem dJ15_checkIndex_7cf53_6 : decode cJ15_checkIndex_7cf53 6 = .ok (.ireturn, 1) := by decide +kernel
theorem dJ8_newLength_cabcc_0 : decode cJ8_newLength_cabcc 0 = .ok (.iload_n 0, 1) := by decide +kernel
theorem dJ8_newLength_cabcc_1 : decode cJ8_newLength_cabcc 1 = .ok (.iload_n 1, 1) := by decide +kernel
theorem dJ8_newLength_cabcc_2 : decode cJ8_newLength_cabcc 2 = .ok (.iload_n 2, 1) := by decide +kernel
theorem dJ8_newLength_cabcc_3 : decode cJ8_newLength_cabcc 3 = .ok (.invokestatic 194, 3) := by decide +kernel
theorem dJ8_newLength_cabcc_6 : decode cJ8_newLength_cabcc 6 = .ok (.iadd, 1) := by decide +kernel
theorem dJ8_newLength_cabcc_7 : decode cJ8_newLength_cabcc 7 = .ok (.istore_n 3, 1) := by decide +kernel
theorem dJ8_newLength_cabcc_8 : decode cJ8_newLength_cabcc 8 = .ok (.iconst 0, 1) := by decide +kernel
theorem dJ8_newLength_cabcc_9 : decode cJ8_newLength_cabcc 9 = .ok (.iload_n 3, 1) := by decide +kernel
theorem dJ8_newLength_cabcc_10 : decode cJ8_newLength_cabcc 10 = .ok (.if_icmp .ge 11, 3) := by decide +kernel
theorem dJ8_newLength_cabcc_13 : decode cJ8_newLength_cabcc 13 = .ok (.iload_n 3, 1) := by decide +kernel
theorem dJ8_newLength_cabcc_14 : decode cJ8_newLength_cabcc 14 = .ok (.ldc 200, 2) := by decide +kernel
theorem dJ8_newLength_cabcc_16 : decode cJ8_newLength_cabcc 16 = .ok (.if_icmp .gt 5, 3) := by decide +kernel
theorem dJ8_newLength_cabcc_19 : decode cJ8_newLength_cabcc 19 = .ok (.iload_n 3, 1) := by decide +kernel
theorem dJ8_newLength_cabcc_20 : decode cJ8_newLength_cabcc 20 = .ok (.ireturn, 1) := by decide +kernel
theorem dJ8_newLength_cabcc_21 : decode cJ8_newLength_cabcc 21 = .ok (.iload_n 0, 1) := by decide +kernel
theorem dJ8_newLength_cabcc_22 : decode cJ8_newLength_cabcc 22 = .ok (.iload_n 1, 1) := by decide +kernel
theorem dJ8_newLength_cabcc_23 : decode cJ8_newLength_cabcc 23 = .ok (.invokestatic 201, 3) := by decide +kernel
theorem dJ8_newLength_cabcc_26 : decode cJ8_newLength_cabcc 26 = .ok (.ireturn, 1) := by decide +kernel
theorem dJ3_checkIndex_8e157_0 : decode cJ3_checkIndex_8e157 0 = .ok (.iload_n 0, 1) := by decide +kernel
theorem dJ3_checkIndex_8e157_1 : decode cJ3_checkIndex_8e157 1 = .ok (.ifCond .lt 8, 3) := by decide +kernel
theorem dJ3_checkIndex_8e157_4 : decode cJ3_checkIndex_8e157 4 = .ok (.iload_n 0, 1) := by decide +kernel
theorem dJ3_checkIndex_8e157_5 : decode cJ3_checkIndex_8e157 5 = .ok (.iload_n 1, 1) := by decide +kernel
theorem dJ3_checkIndex_8e157_6 : decode cJ3_checkIndex_8e157 6 = .ok (.if_icmp .lt 10, 3) := by decide +kernel
theorem dJ3_checkIndex_8e157_9 : decode cJ3_checkIndex_8e157 9 = .ok (.aload_n 2, 1) := by decide +kernel
theorem dJ3_checkIndex_8e157_10 : decode cJ3_checkIndex_8e157 10 = .ok (.iload_n 0, 1) := by decide +kernel
theorem dJ3_checkIndex_8e157_11 : decode cJ3_checkIndex_8e157 11 = .ok (.iload_n 1, 1) := by decide +kernel
theorem dJ3_checkIndex_8e157_12 : decode cJ3_checkIndex_8e157 12 = .ok (.invokestatic 95, 3) := by decide +kernel
theorem dJ3_checkIndex_8e157_15 : decode cJ3_checkIndex_8e157 15 = .ok (.athrow, 1) := by decide +kernel
theorem dJ3_checkIndex_8e157_16 : decode cJ3_checkIndex_8e157 16 = .ok (.iload_n 0, 1) := by decide +kernel
theorem dJ3_checkIndex_8e157_17 : decode cJ3_checkIndex_8e157 17 = .ok (.ireturn, 1) := by decide +kernel
theorem dL_wagon_0 : decode cL_wagon 0 = .ok (.aload 5, 2) := by decide +kernel
theorem dL_wagon_2 : decode cL_wagon 2 = .ok (.iconst 0, 1) := by decide +kernel
theorem dL_wagon_3 : decode cL_wagon 3 = .ok (.aload_n 0, 1) := by decide +kernel
theorem dL_wagon_4 : decode cL_wagon 4 = .ok (.iload_n 1, 1) := by decide +kernel
theorem dL_wagon_5 : decode cL_wagon 5 = .ok (.iload_n 2, 1) := by decide +kernel
theorem dL_wagon_6 : decode cL_wagon 6 = .ok (.iload_n 3, 1) := by decide +kernel
theorem dL_wagon_7 : decode cL_wagon 7 = .ok (.iload 4, 2) := by decide +kernel
theorem dL_wagon_9 : decode cL_wagon 9 = .ok (.invokevirtual 7, 3) := by decide +kernel
theorem dL_wagon_12 : decode cL_wagon 12 = .ok (.i2l, 1) := by decide +kernel
theorem dL_wagon_13 : decode cL_wagon 13 = .ok (.lastore, 1) := by decide +kernel
theorem dL_wagon_14 : decode cL_wagon 14 = .ok (.goto 11, 3) := by decide +kernel
theorem dL_wagon_17 : decode cL_wagon 17 = .ok (.astore 6, 2) := by decide +kernel
theorem dL_wagon_19 : decode cL_wagon 19 = .ok (.iconst 1, 1) := by decide +kernel
theorem dL_wagon_20 : decode cL_wagon 20 = .ok (.ireturn, 1) := by decide +kernel
theorem dL_wagon_21 : decode cL_wagon 21 = .ok (.astore 6, 2) := by decide +kernel
theorem dL_wagon_23 : decode cL_wagon 23 = .ok (.iconst 2, 1) := by decide +kernel
theorem dL_wagon_24 : decode cL_wagon 24 = .ok (.ireturn, 1) := by decide +kernel
theorem dL_wagon_25 : decode cL_wagon 25 = .ok (.iconst 0, 1) := by decide +kernel
theorem dL_wagon_26 : decode cL_wagon 26 = .ok (.ireturn, 1) := by decide +kernel
theorem dL_turntable_0 : decode cL_turntable 0 = .ok (.aload_n 3, 1) := by decide +kernel
theorem dL_turntable_1 : decode cL_turntable 1 = .ok (.iconst 0, 1) := by decide +kernel
theorem dL_turntable_2 : decode cL_turntable 2 = .ok (.aload_n 0, 1) := by decide +kernel
theorem dL_turntable_3 : decode cL_turntable 3 = .ok (.iload_n 1, 1) := by decide +kernel
theorem dL_turntable_4 : decode cL_turntable 4 = .ok (.iload_n 2, 1) := by decide +kernel
theorem dL_turntable_5 : decode cL_turntable 5 = .ok (.invokevirtual 17, 3) := by decide +kernel
theorem dL_turntable_8 : decode cL_turntable 8 = .ok (.i2l, 1) := by decide +kernel
theorem dL_turntable_9 : decode cL_turntable 9 = .ok (.lastore, 1) := by decide +kernel
theorem dL_turntable_10 : decode cL_turntable 10 = .ok (.goto 11, 3) := by decide +kernel
theorem dL_turntable_13 : decode cL_turntable 13 = .ok (.astore 4, 2) := by decide +kernel
theorem dL_turntable_15 : decode cL_turntable 15 = .ok (.iconst 1, 1) := by decide +kernel
theorem dL_turntable_16 : decode cL_turntable 16 = .ok (.ireturn, 1) := by decide +kernel
theorem dL_turntable_17 : decode cL_turntable 17 = .ok (.astore 4, 2) := by decide +kernel
theorem dL_turntable_19 : decode cL_turntable 19 = .ok (.iconst 2, 1) := by decide +kernel
theorem dL_turntable_20 : decode cL_turntable 20 = .ok (.ireturn, 1) := by decide +kernel
theorem dL_turntable_21 : decode cL_turntable 21 = .ok (.iconst 0, 1) := by decide +kernel
theorem dL_turntable_22 : decode cL_turntable 22 = .ok (.ireturn, 1) := by decide +kernel
theorem dL_setScore_0 : decode cL_setScore 0 = .ok (.aload_n 0, 1) := by decide +kernel
theorem dL_setScore_1 : decode cL_setScore 1 = .ok (.iload_n 1, 1) := by decide +kernel
theorem dL_setScore_2 : decode cL_setScore 2 = .ok (.iload_n 2, 1) := by decide +kernel
theorem dL_setScore_3 : decode cL_setScore 3 = .ok (.invokevirtual 21, 3) := by decide +kernel
theorem dL_setScore_6 : decode cL_setScore 6 = .ok (.goto 9, 3) := by decide +kernel
theorem dL_setScore_9 : decode cL_setScore 9 = .ok (.astore_n 3, 1) := by decide +kernel
theorem dL_setScore_10 : decode cL_setScore 10 = .ok (.iconst 1, 1) := by decide +kernel
theorem dL_setScore_11 : decode cL_setScore 11 = .ok (.ireturn, 1) := by decide +kernel
theorem dL_setScore_12 : decode cL_setScore 12 = .ok (.astore_n 3, 1) := by decide +kernel
theorem dL_setScore_13 : decode cL_setScore 13 = .ok (.iconst 2, 1) := by decide +kernel
theorem dL_setScore_14 : decode cL_setScore 14 = .ok (.ireturn, 1) := by decide +kernel
theorem dL_setScore_15 : decode cL_setScore 15 = .ok (.iconst 0, 1) := by decide +kernel
theorem dL_setScore_16 : decode cL_setScore 16 = .ok (.ireturn, 1) := by decide +kernel
theorem dL_cue_0 : decode cL_cue 0 = .ok (.aload 5, 2) := by decide +kernel
theorem dL_cue_2 : decode cL_cue 2 = .ok (.iconst 0, 1) := by decide +kernel
theorem dL_cue_3 : decode cL_cue 3 = .ok (.aload_n 0, 1) := by decide +kernel
theorem dL_cue_4 : decode cL_cue 4 = .ok (.iload_n 1, 1) := by decide +kernel
theorem dL_cue_5 : decode cL_cue 5 = .ok (.iload_n 2, 1) := by decide +kernel
theorem dL_cue_6 : decode cL_cue 6 = .ok (.iload_n 3, 1) := by decide +kernel
theorem dL_cue_7 : decode cL_cue 7 = .ok (.iload 4, 2) := by decide +kernel
theorem dL_cue_9 : decode cL_cue 9 = .ok (.invokevirtual 25, 3) := by decide +kernel
theorem dL_cue_12 : decode cL_cue 12 = .ok (.i2l, 1) := by decide +kernel
theorem dL_cue_13 : decode cL_cue 13 = .ok (.lastore, 1) := by decide +kernel
theorem dL_cue_14 : decode cL_cue 14 = .ok (.goto 15, 3) := by decide +kernel
theorem dL_cue_17 : decode cL_cue 17 = .ok (.astore 6, 2) := by decide +kernel
theorem dL_cue_19 : decode cL_cue 19 = .ok (.iconst 1, 1) := by decide +kernel
theorem dL_cue_20 : decode cL_cue 20 = .ok (.ireturn, 1) := by decide +kernel
theorem dL_cue_21 : decode cL_cue 21 = .ok (.astore 6, 2) := by decide +kernel
theorem dL_cue_23 : decode cL_cue 23 = .ok (.iconst 2, 1) := by decide +kernel
theorem dL_cue_24 : decode cL_cue 24 = .ok (.ireturn, 1) := by decide +kernel
theorem dL_cue_25 : decode cL_cue 25 = .ok (.astore 6, 2) := by decide +kernel
theorem dL_cue_27 : decode cL_cue 27 = .ok (.iconst 3, 1) := by decide +kernel
theorem dL_cue_28 : decode cL_cue 28 = .ok (.ireturn, 1) := by decide +kernel
theorem dL_cue_29 : decode cL_cue 29 = .ok (.iconst 0, 1) := by decide +kernel
theorem dL_cue_30 : decode cL_cue 30 = .ok (.ireturn, 1) := by decide +kernel
theorem dL_strikeOut_0 : decode cL_strikeOut 0 = .ok (.aload_n 2, 1) := by decide +kernel
theorem dL_strikeOut_1 : decode cL_strikeOut 1 = .ok (.iconst 0, 1) := by decide +kernel
theorem dL_strikeOut_2 : decode cL_strikeOut 2 = .ok (.aload_n 0, 1) := by decide +kernel
theorem dL_strikeOut_3 : decode cL_strikeOut 3 = .ok (.iload_n 1, 1) := by decide +kernel
theorem dL_strikeOut_4 : decode cL_strikeOut 4 = .ok (.invokevirtual 30, 3) := by decide +kernel
theorem dL_strikeOut_7 : decode cL_strikeOut 7 = .ok (.i2l, 1) := by decide +kernel
theorem dL_strikeOut_8 : decode cL_strikeOut 8 = .ok (.lastore, 1) := by decide +kernel
theorem dL_strikeOut_9 : decode cL_strikeOut 9 = .ok (.goto 6, 3) := by decide +kernel
theorem dL_strikeOut_12 : decode cL_strikeOut 12 = .ok (.astore_n 3, 1) := by decide +kernel
theorem dL_strikeOut_13 : decode cL_strikeOut 13 = .ok (.iconst 1, 1) := by decide +kernel
theorem dL_strikeOut_14 : decode cL_strikeOut 14 = .ok (.ireturn, 1) := by decide +kernel
theorem dL_strikeOut_15 : decode cL_strikeOut 15 = .ok (.iconst 0, 1) := by decide +kernel
theorem dL_strikeOut_16 : decode cL_strikeOut 16 = .ok (.ireturn, 1) := by decide +kernel
theorem dL_setTempo_0 : decode cL_setTempo 0 = .ok (.aload_n 2, 1) := by decide +kernel
theorem dL_setTempo_1 : decode cL_setTempo 1 = .ok (.iconst 0, 1) := by decide +kernel
theorem dL_setTempo_2 : decode cL_setTempo 2 = .ok (.aload_n 0, 1) := by decide +kernel
theorem dL_setTempo_3 : decode cL_setTempo 3 = .ok (.iload_n 1, 1) := by decide +kernel
theorem dL_setTempo_4 : decode cL_setTempo 4 = .ok (.invokevirtual 34, 3) := by decide +kernel
theorem dL_setTempo_7 : decode cL_setTempo 7 = .ok (.i2l, 1) := by decide +kernel
theorem dL_setTempo_8 : decode cL_setTempo 8 = .ok (.lastore, 1) := by decide +kernel
theorem dL_setTempo_9 : decode cL_setTempo 9 = .ok (.goto 6, 3) := by decide +kernel
theorem dL_setTempo_12 : decode cL_setTempo 12 = .ok (.astore_n 3, 1) := by decide +kernel
theorem dL_setTempo_13 : decode cL_setTempo 13 = .ok (.iconst 1, 1) := by decide +kernel
theorem dL_setTempo_14 : decode cL_setTempo 14 = .ok (.ireturn, 1) := by decide +kernel
theorem dL_setTempo_15 : decode cL_setTempo 15 = .ok (.iconst 0, 1) := by decide +kernel
theorem dL_setTempo_16 : decode cL_setTempo 16 = .ok (.ireturn, 1) := by decide +kernel
theorem dL_setRules_0 : decode cL_setRules 0 = .ok (.aload_n 0, 1) := by decide +kernel
theorem dL_setRules_1 : decode cL_setRules 1 = .ok (.iload_n 1, 1) := by decide +kernel
theorem dL_setRules_2 : decode cL_setRules 2 = .ok (.iload_n 2, 1) := by decide +kernel
theorem dL_setRules_3 : decode cL_setRules 3 = .ok (.invokevirtual 37, 3) := by decide +kernel
theorem dL_setRules_6 : decode cL_setRules 6 = .ok (.goto 6, 3) := by decide +kernel
theorem dL_setRules_9 : decode cL_setRules 9 = .ok (.astore_n 3, 1) := by decide +kernel
theorem dL_setRules_10 : decode cL_setRules 10 = .ok (.iconst 1, 1) := by decide +kernel
theorem dL_setRules_11 : decode cL_setRules 11 = .ok (.ireturn, 1) := by decide +kernel
theorem dL_setRules_12 : decode cL_setRules 12 = .ok (.iconst 0, 1) := by decide +kernel
theorem dL_setRules_13 : decode cL_setRules 13 = .ok (.ireturn, 1) := by decide +kernel
theorem dL_strike_0 : decode cL_strike 0 = .ok (.aload_n 3, 1) := by decide +kernel
theorem dL_strike_1 : decode cL_strike 1 = .ok (.iconst 0, 1) := by decide +kernel
theorem dL_strike_2 : decode cL_strike 2 = .ok (.aload_n 0, 1) := by decide +kernel
theorem dL_strike_3 : decode cL_strike 3 = .ok (.iload_n 1, 1) := by decide +kernel
theorem dL_strike_4 : decode cL_strike 4 = .ok (.iload_n 2, 1) := by decide +kernel
theorem dL_strike_5 : decode cL_strike 5 = .ok (.invokevirtual 40, 3) := by decide +kernel
theorem dL_strike_8 : decode cL_strike 8 = .ok (.ifCond .eq 7, 3) := by decide +kernel
theorem dL_strike_11 : decode cL_strike 11 = .ok (.lconst 1, 1) := by decide +kernel
theorem dL_strike_12 : decode cL_strike 12 = .ok (.goto 4, 3) := by decide +kernel
theorem dL_strike_15 : decode cL_strike 15 = .ok (.lconst 0, 1) := by decide +kernel
theorem dL_strike_16 : decode cL_strike 16 = .ok (.lastore, 1) := by decide +kernel
theorem dL_strike_17 : decode cL_strike 17 = .ok (.goto 7, 3) := by decide +kernel
theorem dL_strike_20 : decode cL_strike 20 = .ok (.astore 4, 2) := by decide +kernel
theorem dL_strike_22 : decode cL_strike 22 = .ok (.iconst 1, 1) := by decide +kernel
theorem dL_strike_23 : decode cL_strike 23 = .ok (.ireturn, 1) := by decide +kernel
theorem dL_strike_24 : decode cL_strike 24 = .ok (.iconst 0, 1) := by decide +kernel
theorem dL_strike_25 : decode cL_strike 25 = .ok (.ireturn, 1) := by decide +kernel
theorem dL_substitute_0 : decode cL_substitute 0 = .ok (.aload_n 3, 1) := by decide +kernel
theorem dL_substitute_1 : decode cL_substitute 1 = .ok (.iconst 0, 1) := by decide +kernel
theorem dL_substitute_2 : decode cL_substitute 2 = .ok (.aload_n 0, 1) := by decide +kernel
theorem dL_substitute_3 : decode cL_substitute 3 = .ok (.iload_n 1, 1) := by decide +kernel
theorem dL_substitute_4 : decode cL_substitute 4 = .ok (.iload_n 2, 1) := by decide +kernel
theorem dL_substitute_5 : decode cL_substitute 5 = .ok (.invokevirtual 44, 3) := by decide +kernel
theorem dL_substitute_8 : decode cL_substitute 8 = .ok (.i2l, 1) := by decide +kernel
theorem dL_substitute_9 : decode cL_substitute 9 = .ok (.lastore, 1) := by decide +kernel
theorem dL_substitute_10 : decode cL_substitute 10 = .ok (.goto 7, 3) := by decide +kernel
theorem dL_substitute_13 : decode cL_substitute 13 = .ok (.astore 4, 2) := by decide +kernel
theorem dL_substitute_15 : decode cL_substitute 15 = .ok (.iconst 1, 1) := by decide +kernel
theorem dL_substitute_16 : decode cL_substitute 16 = .ok (.ireturn, 1) := by decide +kernel
theorem dL_substitute_17 : decode cL_substitute 17 = .ok (.iconst 0, 1) := by decide +kernel
theorem dL_substitute_18 : decode cL_substitute 18 = .ok (.ireturn, 1) := by decide +kernel
theorem dL_place_0 : decode cL_place 0 = .ok (.aload_n 3, 1) := by decide +kernel
theorem dL_place_1 : decode cL_place 1 = .ok (.iconst 0, 1) := by decide +kernel
theorem dL_place_2 : decode cL_place 2 = .ok (.aload_n 0, 1) := by decide +kernel
theorem dL_place_3 : decode cL_place 3 = .ok (.iload_n 1, 1) := by decide +kernel
theorem dL_place_4 : decode cL_place 4 = .ok (.iload_n 2, 1) := by decide +kernel
theorem dL_place_5 : decode cL_place 5 = .ok (.invokevirtual 47, 3) := by decide +kernel
theorem dL_place_8 : decode cL_place 8 = .ok (.i2l, 1) := by decide +kernel
theorem dL_place_9 : decode cL_place 9 = .ok (.lastore, 1) := by decide +kernel
theorem dL_place_10 : decode cL_place 10 = .ok (.goto 11, 3) := by decide +kernel
theorem dL_place_13 : decode cL_place 13 = .ok (.astore 4, 2) := by decide +kernel
theorem dL_place_15 : decode cL_place 15 = .ok (.iconst 1, 1) := by decide +kernel
theorem dL_place_16 : decode cL_place 16 = .ok (.ireturn, 1) := by decide +kernel
theorem dL_place_17 : decode cL_place 17 = .ok (.astore 4, 2) := by decide +kernel
theorem dL_place_19 : decode cL_place 19 = .ok (.iconst 2, 1) := by decide +kernel
theorem dL_place_20 : decode cL_place 20 = .ok (.ireturn, 1) := by decide +kernel
theorem dL_place_21 : decode cL_place 21 = .ok (.iconst 0, 1) := by decide +kernel
theorem dL_place_22 : decode cL_place 22 = .ok (.ireturn, 1) := by decide +kernel
theorem dL_placeAtBar_0 : decode cL_placeAtBar 0 = .ok (.aload_n 3, 1) := by decide +kernel
theorem dL_placeAtBar_1 : decode cL_placeAtBar 1 = .ok (.iconst 0, 1) := by decide +kernel
theorem dL_placeAtBar_2 : decode cL_placeAtBar 2 = .ok (.aload_n 0, 1) := by decide +kernel
theorem dL_placeAtBar_3 : decode cL_placeAtBar 3 = .ok (.iload_n 1, 1) := by decide +kernel
theorem dL_placeAtBar_4 : decode cL_placeAtBar 4 = .ok (.iload_n 2, 1) := by decide +kernel
theorem dL_placeAtBar_5 : decode cL_placeAtBar 5 = .ok (.invokevirtual 50, 3) := by decide +kernel
theorem dL_placeAtBar_8 : decode cL_placeAtBar 8 = .ok (.i2l, 1) := by decide +kernel
theorem dL_placeAtBar_9 : decode cL_placeAtBar 9 = .ok (.lastore, 1) := by decide +kernel
theorem dL_placeAtBar_10 : decode cL_placeAtBar 10 = .ok (.goto 11, 3) := by decide +kernel
theorem dL_placeAtBar_13 : decode cL_placeAtBar 13 = .ok (.astore 4, 2) := by decide +kernel
theorem dL_placeAtBar_15 : decode cL_placeAtBar 15 = .ok (.iconst 1, 1) := by decide +kernel
theorem dL_placeAtBar_16 : decode cL_placeAtBar 16 = .ok (.ireturn, 1) := by decide +kernel
theorem dL_placeAtBar_17 : decode cL_placeAtBar 17 = .ok (.astore 4, 2) := by decide +kernel
theorem dL_placeAtBar_19 : decode cL_placeAtBar 19 = .ok (.iconst 2, 1) := by decide +kernel
theorem dL_placeAtBar_20 : decode cL_placeAtBar 20 = .ok (.ireturn, 1) := by decide +kernel
theorem dL_placeAtBar_21 : decode cL_placeAtBar 21 = .ok (.iconst 0, 1) := by decide +kernel
theorem dL_placeAtBar_22 : decode cL_placeAtBar 22 = .ok (.ireturn, 1) := by decide +kernel
theorem dL_worker_0 : decode cL_worker 0 = .ok (.aload_n 2, 1) := by decide +kernel
theorem dL_worker_1 : decode cL_worker 1 = .ok (.iconst 0, 1) := by decide +kernel
theorem dL_worker_2 : decode cL_worker 2 = .ok (.aload_n 0, 1) := by decide +kernel
theorem dL_worker_3 : decode cL_worker 3 = .ok (.iload_n 1, 1) := by decide +kernel
theorem dL_worker_4 : decode cL_worker 4 = .ok (.invokevirtual 53, 3) := by decide +kernel
theorem dL_worker_7 : decode cL_worker 7 = .ok (.i2l, 1) := by decide +kernel
theorem dL_worker_8 : decode cL_worker 8 = .ok (.lastore, 1) := by decide +kernel
theorem dL_worker_9 : decode cL_worker 9 = .ok (.goto 6, 3) := by decide +kernel
theorem dL_worker_12 : decode cL_worker 12 = .ok (.astore_n 3, 1) := by decide +kernel
theorem dL_worker_13 : decode cL_worker 13 = .ok (.iconst 1, 1) := by decide +kernel
theorem dL_worker_14 : decode cL_worker 14 = .ok (.ireturn, 1) := by decide +kernel
theorem dL_worker_15 : decode cL_worker 15 = .ok (.iconst 0, 1) := by decide +kernel
theorem dL_worker_16 : decode cL_worker 16 = .ok (.ireturn, 1) := by decide +kernel
theorem dL_takes_0 : decode cL_takes 0 = .ok (.aload_n 2, 1) := by decide +kernel
theorem dL_takes_1 : decode cL_takes 1 = .ok (.iconst 0, 1) := by decide +kernel
theorem dL_takes_2 : decode cL_takes 2 = .ok (.aload_n 0, 1) := by decide +kernel
theorem dL_takes_3 : decode cL_takes 3 = .ok (.iload_n 1, 1) := by decide +kernel
theorem dL_takes_4 : decode cL_takes 4 = .ok (.invokevirtual 56, 3) := by decide +kernel
theorem dL_takes_7 : decode cL_takes 7 = .ok (.i2l, 1) := by decide +kernel
theorem dL_takes_8 : decode cL_takes 8 = .ok (.lastore, 1) := by decide +kernel
theorem dL_takes_9 : decode cL_takes 9 = .ok (.goto 6, 3) := by decide +kernel
theorem dL_takes_12 : decode cL_takes 12 = .ok (.astore_n 3, 1) := by decide +kernel
theorem dL_takes_13 : decode cL_takes 13 = .ok (.iconst 1, 1) := by decide +kernel
theorem dL_takes_14 : decode cL_takes 14 = .ok (.ireturn, 1) := by decide +kernel
theorem dL_takes_15 : decode cL_takes 15 = .ok (.iconst 0, 1) := by decide +kernel
theorem dL_takes_16 : decode cL_takes 16 = .ok (.ireturn, 1) := by decide +kernel
theorem dL_clashes_0 : decode cL_clashes 0 = .ok (.aload_n 2, 1) := by decide +kernel
theorem dL_clashes_1 : decode cL_clashes 1 = .ok (.iconst 0, 1) := by decide +kernel
theorem dL_clashes_2 : decode cL_clashes 2 = .ok (.aload_n 0, 1) := by decide +kernel
theorem dL_clashes_3 : decode cL_clashes 3 = .ok (.iload_n 1, 1) := by decide +kernel
theorem dL_clashes_4 : decode cL_clashes 4 = .ok (.invokevirtual 59, 3) := by decide +kernel
theorem dL_clashes_7 : decode cL_clashes 7 = .ok (.i2l, 1) := by decide +kernel
theorem dL_clashes_8 : decode cL_clashes 8 = .ok (.lastore, 1) := by decide +kernel
theorem dL_clashes_9 : decode cL_clashes 9 = .ok (.goto 6, 3) := by decide +kernel
theorem dL_clashes_12 : decode cL_clashes 12 = .ok (.astore_n 3, 1) := by decide +kernel
theorem dL_clashes_13 : decode cL_clashes 13 = .ok (.iconst 1, 1) := by decide +kernel
theorem dL_clashes_14 : decode cL_clashes 14 = .ok (.ireturn, 1) := by decide +kernel
theorem dL_clashes_15 : decode cL_clashes 15 = .ok (.iconst 0, 1) := by decide +kernel
theorem dL_clashes_16 : decode cL_clashes 16 = .ok (.ireturn, 1) := by decide +kernel
theorem dL_overtime_0 : decode cL_overtime 0 = .ok (.aload_n 2, 1) := by decide +kernel
theorem dL_overtime_1 : decode cL_overtime 1 = .ok (.iconst 0, 1) := by decide +kernel
theorem dL_overtime_2 : decode cL_overtime 2 = .ok (.aload_n 0, 1) := by decide +kernel
theorem dL_overtime_3 : decode cL_overtime 3 = .ok (.iload_n 1, 1) := by decide +kernel
theorem dL_overtime_4 : decode cL_overtime 4 = .ok (.invokevirtual 62, 3) := by decide +kernel
theorem dL_overtime_7 : decode cL_overtime 7 = .ok (.i2l, 1) := by decide +kernel
theorem dL_overtime_8 : decode cL_overtime 8 = .ok (.lastore, 1) := by decide +kernel
theorem dL_overtime_9 : decode cL_overtime 9 = .ok (.goto 6, 3) := by decide +kernel
theorem dL_overtime_12 : decode cL_overtime 12 = .ok (.astore_n 3, 1) := by decide +kernel
theorem dL_overtime_13 : decode cL_overtime 13 = .ok (.iconst 1, 1) := by decide +kernel
theorem dL_overtime_14 : decode cL_overtime 14 = .ok (.ireturn, 1) := by decide +kernel
theorem dL_overtime_15 : decode cL_overtime 15 = .ok (.iconst 0, 1) := by decide +kernel
theorem dL_overtime_16 : decode cL_overtime 16 = .ok (.ireturn, 1) := by decide +kernel
end
section
/-! worlds are functions from addresses; a walk over them: every later row speaks of them alone -/
section NK1
abbrev Wd : Type := Nat → Option va_E
def wup (σ : Wd) (a : Nat) (e : va_E) : Wd := fun q => if q = a then some e else σ q
theorem wup_s (σ : Wd) (a : Nat) (e : va_E) : wup σ a e a = some e := if_pos rfl
theorem wup_n {σ : Wd} {a q : Nat} {e : va_E} (h : q ≠ a) : wup σ a e q = σ q := if_neg h
def wR (σ : Wd) (ws : va_W) : Prop := ∀ (a : Nat) (e : va_E), σ a = some e ↔ (a, e) ∈ ws
theorem wR.cell {σ : Wd} {ws : va_W} {a : Nat} {e : va_E} (h : wR σ ws) (ha : σ a = some e) : ∃ k : Nat, ws[k]? = some (a, e) := List.getElem?_of_mem ((h a e).mp ha)
theorem wR.set {A : Nat → Prop} {σ : Wd} {ws : va_W} {a k : Nat} {e0 e : va_E} (h : wR σ ws) (hD : va_D A ws) (hk : ws[k]? = some (a, e0)) : wR (wup σ a e) (ws.set k (a, e)) := by
  intro b f
  have hl := (List.getElem?_eq_some_iff.mp hk).1
  constructor
  · intro hb
    by_cases hba : b = a
    · subst hba
      rw [wup_s] at hb
      cases hb
      exact List.mem_of_getElem? (i := k) (List.getElem?_set_self hl)
    · rw [wup_n hba] at hb
      obtain ⟨j, hj⟩ := h.cell hb
      have hjk : k ≠ j := fun q => by
        subst q
        rw [hk] at hj
        cases hj
        exact hba rfl
      exact List.mem_of_getElem? (i := j) (by rw [List.getElem?_set_ne hjk]; exact hj)
  · intro hb
    obtain ⟨j, hj⟩ := List.getElem?_of_mem hb
    by_cases hjk : k = j
    · subst hjk
      rw [List.getElem?_set_self hl] at hj
      cases hj
      exact wup_s ..
    · rw [List.getElem?_set_ne hjk] at hj
      have hba : b ≠ a := fun q => hjk (hD.1 k j (a, e0) (b, f) hk hj q.symm)
      rw [wup_n hba]
      exact (h b f).mpr (List.mem_of_getElem? hj)
theorem wR.push {A : Nat → Prop} {σ : Wd} {ws : va_W} {q : Nat} {e : va_E} (h : wR σ ws) (hD : va_D A (ws ++ [(q, e)])) : wR (wup σ q e) (ws ++ [(q, e)]) := by
  have hq : (ws ++ [(q, e)])[ws.length]? = some (q, e) := by rw [List.getElem?_append_right (Nat.le_refl _), Nat.sub_self]; rfl
  intro b f
  constructor
  · intro hb
    by_cases hba : b = q
    · subst hba
      rw [wup_s] at hb
      cases hb
      exact List.mem_append_right _ List.mem_cons_self
    · rw [wup_n hba] at hb
      exact List.mem_append_left _ ((h b f).mp hb)
  · intro hb
    rcases List.mem_append.mp hb with hb | hb
    · obtain ⟨j, hj⟩ := List.getElem?_of_mem hb
      have hl := (List.getElem?_eq_some_iff.mp hj).1
      have hba : b ≠ q := fun z => by
        have := hD.1 j ws.length (b, f) (q, e) (by rw [List.getElem?_append_left hl]; exact hj) hq z
        omega
      rw [wup_n hba]
      exact (h b f).mpr hb
    · have h1 := List.mem_singleton.mp hb
      cases h1
      exact wup_s ..
theorem wR.one {A : Nat → Prop} {σ : Wd} {ws : va_W} {a : Nat} {e : va_E} (h : wR σ ws) (hD : va_D A ws) (ha : σ a = some e) : A a := by
  obtain ⟨k, hk⟩ := h.cell ha
  exact hD.2 k _ hk
/-- the claim's tables: class numbers; of int[], boolean[], long[], Object[], Cue[] -/
abbrev KG : Type := va_G × ClassId × ClassId × ClassId × ClassId × ClassId
def kI (κ : KG) : ClassId := κ.2.1
def kZ (κ : KG) : ClassId := κ.2.2.1
def kJ (κ : KG) : ClassId := κ.2.2.2.1
def kO (κ : KG) : ClassId := κ.2.2.2.2.1
def kC (κ : KG) : ClassId := κ.2.2.2.2.2
def kT (κ : KG) : List (ClassId × FieldType) := [(kI κ, .int), (kZ κ, .boolean), (kJ κ, .long), (kO κ, .object "java/lang/Object"), (kC κ, .object "OperaMachines$Cue")]
/-- whole numbers as the machine holds them -/
def iI (x : Int) : Int32 := Int32.ofInt x
def iv (x : Int) : Value := .int (iI x)
def rg (x : Int) : Prop := -2147483648 ≤ x ∧ x < 2147483648
theorem iI_t {x : Int} (h : rg x) : (iI x).toInt = x := Int32.toInt_ofInt_of_le (by unfold rg at h; omega) (by unfold rg at h; omega)
theorem iI_o (x : Int32) : iI x.toInt = x := Int32.ofInt_toInt x
theorem rg_t (x : Int32) : rg x.toInt := ⟨by have := Int32.le_toInt x; omega, by have := Int32.toInt_lt x; omega⟩
theorem iI_c {x : Int} (h : rg x) : (iI x).toNatClampNeg = x.toNat := by
  show (iI x).toInt.toNat = _
  rw [iI_t h]
theorem iI_add (a b : Int) : iI a + iI b = iI (a + b) := (Int32.ofInt_add a b).symm
theorem iI_sub (a b : Int) : iI a - iI b = iI (a - b) := (Int32.ofInt_sub a b).symm
theorem iI_mul (a b : Int) : iI a * iI b = iI (a * b) := (Int32.ofInt_mul a b).symm
theorem iI_neg (a : Int) : - iI a = iI (-a) := (Int32.ofInt_neg a).symm
theorem iI_lt {a b : Int} (ha : rg a) (hb : rg b) : iI a < iI b ↔ a < b := by rw [Int32.lt_iff_toInt_lt, iI_t ha, iI_t hb]
theorem iI_le {a b : Int} (ha : rg a) (hb : rg b) : iI a ≤ iI b ↔ a ≤ b := by rw [Int32.le_iff_toInt_le, iI_t ha, iI_t hb]
theorem iI_eq {a b : Int} (ha : rg a) (hb : rg b) : iI a = iI b ↔ a = b := by rw [← Int32.toInt_inj, iI_t ha, iI_t hb]
theorem iI_0 : iI 0 = 0 := rfl
theorem iI_n (n : Nat) : iI (n : Int) = nI n := Int32.ofInt_eq_ofNat
theorem rg_0 : rg 0 := by unfold rg; omega
theorem iI_in {x : Int} {n : Nat} (h0 : 0 ≤ x) (h : x < n) (hn : n < 2147483648) : vp_in (iI x) n := by
  have hr : rg x := by unfold rg; omega
  exact vp_in_iff.mpr ⟨by rw [iI_t hr]; exact h0, by rw [iI_t hr]; exact h⟩
theorem iI_div {a b : Int} (ha : rg a) (hb : rg b) (h : b ≠ -1) : iI a / iI b = iI (a.tdiv b) := by
  have hne : iI b ≠ -1 := fun q => h (by have h1 := congrArg Int32.toInt q; rw [iI_t hb] at h1; exact h1)
  have h1 := Int32.toInt_div_of_ne_right (iI a) (iI b) hne
  rw [iI_t ha, iI_t hb] at h1
  rw [← h1, iI_o]
theorem iI_rem {a b : Int} (ha : rg a) (hb : rg b) (h : b ≠ -1) : iI a - iI a / iI b * iI b = iI (a.tmod b) := by
  rw [iI_div ha hb h, iI_mul, iI_sub]
  congr 1
  have := Int.tdiv_mul_add_tmod a b
  omega
/-- array entries -/
def eI (κ : KG) (n : Nat) (f : Nat → Int) : va_E := .inl (kI κ, n, .inl (fun j => iI (f j)))
def eZ (κ : KG) (n : Nat) (f : Nat → Int) : va_E := .inl (kZ κ, n, .inl (fun j => iI (f j)))
def eJ (κ : KG) (n : Nat) (f : Nat → Int64) : va_E := .inl (kJ κ, n, .inr (.inl f))
def eO (κ : KG) (n : Nat) (f : Nat → Option Nat) : va_E := .inl (kO κ, n, .inr (.inr (.inr (.inr f))))
def eC (κ : KG) (n : Nat) (f : Nat → Option Nat) : va_E := .inl (kC κ, n, .inr (.inr (.inr (.inr f))))
def upI (f : Nat → Int) (k : Nat) (x : Int) : Nat → Int := fun j => if j = k then x else f j
theorem upI_s (f : Nat → Int) (k : Nat) (x : Int) : upI f k x k = x := if_pos rfl
theorem upI_n {f : Nat → Int} {k j : Nat} {x : Int} (h : j ≠ k) : upI f k x j = f j := if_neg h
theorem upI_c (f : Nat → Int) (k : Nat) (x : Int) : upd (fun j => iI (f j)) k (iI x) = fun j => iI (upI f k x j) := by
  funext j
  unfold upd upI
  split <;> rfl
theorem nar_z {x : Int} (h : x = 0 ∨ x = 1) : vp_nar .boolean (iI x) = iI x := by rcases h with rfl | rfl <;> rfl
/-- the locals, by number -/
def lk : List (Nat × Value) → Nat → Option Value
  | [], _ => none
  | (j, v) :: r, i => bif Nat.beq j i then some v else lk r i
theorem lk_at {ls : Array Slot} {nL : Nat} {lv : List (Nat × Value)} (h : lv_has ls nL lv) {i : Nat} {v : Value} (hk : lk lv i = some v) : ls[i]? = some (.val v) := by
  have h2 := h.2.2
  clear h
  induction lv with
  | nil => cases hk
  | cons q r ih =>
    obtain ⟨j, w⟩ := q
    unfold lk at hk
    cases hb : Nat.beq j i with
    | true =>
      rw [hb] at hk
      cases hk
      have := Nat.eq_of_beq_eq_true hb
      subst this
      exact h2 _ List.mem_cons_self
    | false =>
      rw [hb] at hk
      exact ih hk (fun q hq => h2 q (List.mem_cons_of_mem _ hq))
theorem lk_m {lv : List (Nat × Value)} {i : Nat} {v : Value} (hk : lk lv i = some v) : ∃ k : Nat, lv[k]? = some (i, v) := by
  induction lv with
  | nil => cases hk
  | cons q r ih =>
    obtain ⟨j, w⟩ := q
    unfold lk at hk
    cases hb : Nat.beq j i with
    | true =>
      rw [hb] at hk
      cases hk
      have := Nat.eq_of_beq_eq_true hb
      subst this
      exact ⟨0, rfl⟩
    | false =>
      rw [hb] at hk
      obtain ⟨k, h⟩ := ih hk
      exact ⟨k + 1, h⟩
def sp (lv : List (Nat × Value)) (i : Nat) (v : Value) : List (Nat × Value) := (i, v) :: lv.filter (fun q => !(q.1 == i) && !(q.1 + 1 == i && q.2.category == 2))
/-- what lies outside the worlds, and is read: two statics, the class object, texts -/
abbrev EpT : Type := Nat × Nat × (Nat → Nat)
def txts : List (Nat × String) := [(176, "out of range"), (186, "there are 6 machines"), (85, "a cue has a bar that there would not be"), (181, "no such machine"), (101, "there were 24 cues"), (184, "no such cue")]
def EF (ε : EpT) (A : Nat → Prop) (U : State) (H : Heap) : Prop :=
  va_Z "java/util/ArrayList" "DEFAULTCAPACITY_EMPTY_ELEMENTDATA" "[Ljava/lang/Object;" (.ref ε.1) A U H ∧ va_T (.object "java/lang/Object") ε.1 0 (fun _ => .null) A U H ∧
  vx_Zq Bundle.tN "UNASSIGNED_STACK" Bundle.steD A U H ∧ vx_Zq Bundle.tN "SUPPRESSED_SENTINEL" Bundle.listD A U H ∧
  va_AO "java/lang/Object" U ∧ va_AO "OperaMachines$Cue" U ∧ va_Mi "[Ljava/lang/Object;" ε.2.1 U ∧ ∀ q ∈ txts, vk_R "OperaMachines" q.1 q.2 (ε.2.2 q.1) U
theorem EF.go {ε : EpT} {A B : Nat → Prop} {s U : State} {H : Heap} (h : EF ε A s s.heap) (hW : s.WarmedH U.vm) (hq : ∀ a : Nat, a < s.heap.size → ¬ A a → H[a]? = s.heap[a]?) (hAB : ∀ q, B q → A q) : EF ε B U H := by
  obtain ⟨h1, h2, h3, h4, h5, h6, h7, h8⟩ := h
  have hv := hW.alike
  exact ⟨((h1.kept hq).moved hv).narrow hAB, ((h2.kept hq).moved hv).narrow hAB, ((h3.kept hq).moved hv).narrow hAB, ((h4.kept hq).moved hv).narrow hAB, h5.moved hv, h6.moved hv, h7.moved hv, fun q hm => vk_R.warm hW (h8 q hm)⟩
theorem EF.same {ε : EpT} {A : Nat → Prop} {u U : State} {H : Heap} (hv : U.vm = u.vm) (h : EF ε A u H) : EF ε A U H := by
  obtain ⟨h1, h2, h3, h4, h5, h6, h7, h8⟩ := h
  have ha : u.vm.Alike U.vm := by rw [hv]; exact Vm.Alike.refl _
  exact ⟨h1.moved ha, h2.moved ha, h3.moved ha, h4.moved ha, h5.moved ha, h6.moved ha, h7.moved ha, fun q hm => vk_R.same hv (h8 q hm)⟩
end NK1
end
section
/-! the walk N: at pc, with the locals lv and the stack st, in the world σ, k cells and n slots made so far -/
section NK2
abbrev Gx : Type := Launch × KG × EpT
abbrev Fx : Type := Program × Launch × Env × Room × State × MethodId × Array Value × List Frame × Method × Code × (Nat → Prop) × KG × EpT × Nat × (State → Prop)
def fN (Φ : Fx) : Nat := Φ.2.2.2.2.2.2.2.2.2.2.2.2.2.1
def fY (Φ : Fx) : String := Φ.2.2.2.2.2.2.2.2.1.name
def N (Φ : Fx) (k n : Nat) (σ : Wd) (pc : Nat) (lv : List (Nat × Value)) (st : List Value) : Prop := match Φ with
  | (p, l, e, R, s, m, args, below, meth, c, A, κ, _, nL, Q) => ∀ (ws : va_W) (H : Heap) (locs : List Loc) (ls : Array Slot), wR σ ws → va_P κ.1 vwCl ws H → va_D A ws → va_S A s.heap H locs → lv_has ls nL lv → W p l e R s m args below meth c H locs k n Q (F0 m pc ls st)
/-- .. with an exception of class E thrown there -/
def NX (Φ : Fx) (k n : Nat) (σ : Wd) (pc : Nat) (lv : List (Nat × Value)) (E : String) : Prop := match Φ with
  | (p, l, e, R, s, m, args, below, meth, c, A, κ, _, nL, Q) => ∀ (ws : va_W) (H : Heap) (locs : List Loc) (ls : Array Slot) (q : Addr) (ce : Cell) (rest : List Value), wR σ ws → va_P κ.1 vwCl ws H → va_D A ws → va_S A s.heap H locs → lv_has ls nL lv → H[q]? = some ce → ce.vm = .none → s.vm.findClass E = some ce.cls → vx_W p l e R s m args below meth c H locs k n Q (F0 m pc ls rest) q
/-- what stands throughout a method's body: its code, its class, the words, the room (of depth d), the statics -/
def Ok (g : Gx) (Φ : Fx) (cc : ByteArray) (own : String) (ret : Option FieldType) (d mc ms : Nat) : Prop := match Φ with
  | (p, l, _, R, s, m, args, _, meth, c, A, κ, ε, nL, _) => g = (l, κ, ε) ∧ p.tables.exec = Jvm.exec ∧ c.code = cc ∧ c.maxLocals = nL ∧ s.vm.findClass own = some m.cls ∧ meth.sig.returnType = ret ∧ (∀ w ∈ GT, w.before args s = true) ∧ va_K κ.1 vwCl (kT κ) s ∧ meth.locks = false ∧ (∀ q, s.heap.size ≤ q → A q) ∧ EF ε A s s.heap ∧ l.stackTraces = false ∧ 12 + d ≤ R.frames ∧ 200 + 40 * d ≤ R.locals ∧ R.cells = mc ∧ R.slots = ms
def fr (σ : Wd) (sz : Nat) : Nat → Prop := fun q => σ q ≠ none ∨ sz ≤ q
def Pcc (κ : KG) (ε : EpT) (av : List Value) (σ : Wd) (sz : Nat) : Array Value → State → Prop := fun v U => v = av.toArray ∧ U.heap.size = sz ∧ (∃ ws, wR σ ws ∧ va_P κ.1 vwCl ws U.heap ∧ va_D (fun _ => True) ws) ∧ va_K κ.1 vwCl (kT κ) U ∧ EF ε (fr σ sz) U U.heap
def Qcc (κ : KG) (σ : Wd) (sz : Nat) (Po : Option Value → Wd → Prop) : Array Value → State → Outcome → State → Prop := fun _ st oc t => (∃ (r : Option Value) (σ' : Wd), oc = .returned r ∧ Po r σ' ∧ ∃ ws, wR σ' ws ∧ va_P κ.1 vwCl ws t.heap ∧ va_D (fr σ sz) ws) ∧ va_F (fr σ sz) st t
def Xcc (κ : KG) (σ : Wd) (sz : Nat) (Px : String → Wd → Prop) : String → State → State → Prop := fun E st t => (∃ σ' : Wd, Px E σ' ∧ ∃ ws, wR σ' ws ∧ va_P κ.1 vwCl ws t.heap ∧ va_D (fr σ sz) ws) ∧ va_F (fr σ sz) st t
def rmd (d mc ms : Nat) : Room := { frames := 12 + d, cells := mc, slots := ms, locals := 200 + 40 * d }
/-- a contract: from the world σ, with the arguments av, the method answers and leaves a world by Po, or throws by Px; it makes at most mc cells of ms slots -/
def CT (g : Gx) (y : MethodName) (cc : ByteArray) (nL : Nat) (ret : Option FieldType) (d mc ms : Nat) (av : List Value) (σ : Wd) (Po : Option Value → Wd → Prop) (Px : String → Wd → Prop) : Prop :=
  ∀ sz : Nat, vx_Met g.1 y (.code y cc nL ret :: GT) (rmd d mc ms) (Pcc g.2.1 g.2.2 av σ sz) (Qcc g.2.1 σ sz Po) (Xcc g.2.1 σ sz Px) mc ms (fr σ sz)
/-- how a body under such a contract ends -/
def Rt (Φ : Fx) (σ0 : Wd) (Po : Option Value → Wd → Prop) (Px : String → Wd → Prop) (mc ms : Nat) : Prop := match Φ with
  | (_, _, _, _, s, _, args, below, _, c, A, κ, _, _, Q) => A = fr σ0 s.heap.size ∧ Q = vx_MQ below (Qcc κ σ0 s.heap.size Po) (Xcc κ σ0 s.heap.size Px) args s mc ms (fr σ0 s.heap.size) ∧ ∀ x ∈ c.exceptionTable.toList, False
theorem fr_D {σ : Wd} {sz : Nat} {A : Nat → Prop} {ws : va_W} (hR : wR σ ws) (hD : va_D A ws) : va_D (fr σ sz) ws := ⟨hD.1, fun k q hk => Or.inl (by
  rw [(hR q.1 q.2).mpr (List.mem_of_getElem? hk)]
  exact fun h => by cases h)⟩
theorem fr_A {σ : Wd} {ws : va_W} {A : Nat → Prop} {H0 H : Heap} {locs : List Loc} (hR : wR σ ws) (hD : va_D A ws) (hS : va_S A H0 H locs) (hA : ∀ q, H0.size ≤ q → A q) : ∀ q, fr σ H.size q → A q := by
  intro q hq
  rcases hq with hq | hq
  · cases h : σ q with
    | none => exact absurd h hq
    | some e => exact hR.one hD h
  · exact hA q (Nat.le_trans hS.1 hq)
theorem Pcc_blind {κ : KG} {ε : EpT} {av : List Value} {σ : Wd} {sz : Nat} : FrameBlind (Pcc κ ε av σ sz) := fun a U g mk ⟨h1, h2, h3, h4, h5⟩ => ⟨h1, h2, h3, va_K.moved (u := U) (U := U.calling g mk a) (Vm.Alike.refl U.vm) h4, EF.same (u := U) (U := U.calling g mk a) rfl h5⟩
theorem CT.of {g : Gx} {y : MethodName} {cc : ByteArray} {nL : Nat} {ret : Option FieldType} {d mc ms : Nat} {av : List Value} {σ : Wd} {Po : Option Value → Wd → Prop} {Px : String → Wd → Prop} (hst : g.1.stackTraces = false) (hy : plainName y.cls = true) (hL : (lg_sl av).length ≤ nL)
    (body : ∀ Φ : Fx, Ok g Φ cc y.cls ret d mc ms → Rt Φ σ Po Px mc ms → fY Φ = y.name → fN Φ = nL → N Φ 0 0 σ 0 (lv_args 0 av) []) : CT g y cc nL ret d mc ms av σ Po Px := by
  obtain ⟨l, κ, ε⟩ := g
  intro sz
  refine vx_ofW (cc := cc) (maxL := nL) (ret := ret) hy rfl ?_
  intro p e s m args below meth c s₁ B hml ht hv
  obtain ⟨rfl, hsz, ⟨ws, hR, hP, hD⟩, hK, hE⟩ := hv
  subst hsz
  have hts : ∀ w ∈ GT, w.before av.toArray s = true := fun w h => atoms_spec (ws := .code y cc nL ret :: GT) B.pre w (List.mem_cons_of_mem _ h)
  have hown : s.vm.findClass y.cls = some m.cls := findClass_of_methodNamed B.named
  have hl := lv_entry av (n := nL) hL
  rw [lg_entry_eq]
  exact body (p, l, e, (headSpec (.code y cc nL ret :: GT) (rmd d mc ms)).room, s, m, av.toArray, below, meth, c, fr σ s.heap.size, κ, ε, nL, _) ⟨rfl, B.exec, B.bytes, hml, hown, B.returns, hts, hK, B.notSynchronized, fun q h => Or.inr h, hE, hst, Nat.le_refl _, Nat.le_refl _, rfl, rfl⟩ ⟨rfl, rfl, ht⟩ (name_of_methodNamed B.named B.method).1 rfl ws s.heap [] _ hR hP (fr_D hR hD) va_S.rf hl
section Rows
variable {g : Gx} {Φ : Fx} {cc : ByteArray} {own : String} {ret : Option FieldType} {d mc ms k n : Nat} {σ : Wd} {pc : Nat} {lv lv' : List (Nat × Value)} {st : List Value} {Po : Option Value → Wd → Prop} {Px : String → Wd → Prop} {σ0 : Wd}
theorem n_wd {σ' : Wd} (h : σ = σ') (K : N Φ k n σ' pc lv st) : N Φ k n σ pc lv st := h ▸ K
theorem n_widen {k' n' : Nat} (h1 : k ≤ k') (h2 : n ≤ n') (K : N Φ k' n' σ pc lv st) : N Φ k n σ pc lv st := by
  obtain ⟨p, l, e, R, s, m, args, below, meth, c, A, κ, ε, nL, Q⟩ := Φ
  intro ws H locs ls hR hP hD hS hl
  exact W.widen h1 h2 (K ws H locs ls hR hP hD hS hl)
theorem n_lv (h : ∀ q ∈ lv', q ∈ lv) (K : N Φ k n σ pc lv' st) : N Φ k n σ pc lv st := by
  obtain ⟨p, l, e, R, s, m, args, below, meth, c, A, κ, ε, nL, Q⟩ := Φ
  intro ws H locs ls hR hP hD hS hl
  exact K ws H locs ls hR hP hD hS ⟨hl.1, hl.2.1, fun q hq => hl.2.2 q (h q hq)⟩
/-- fewer listed locals, by number -/
theorem n_keep (ks : List Nat) (h : ks.filterMap (fun i => (lk lv i).map (fun v => (i, v))) = lv') (K : N Φ k n σ pc lv' st) : N Φ k n σ pc lv st := by
  refine n_lv (fun q hq => ?_) K
  rw [← h] at hq
  obtain ⟨i, -, hi⟩ := List.mem_filterMap.mp hq
  cases hv : lk lv i with
  | none => rw [hv] at hi; cases hi
  | some v =>
    rw [hv] at hi
    cases hi
    obtain ⟨j, hj⟩ := lk_m hv
    exact List.mem_of_getElem? hj
theorem n_iconst (C : Ok g Φ cc own ret d mc ms) {x : Int} (hd : decode cc pc = .ok (.iconst x, 1)) (K : N Φ k n σ (pc + 1) lv (iv x :: st)) : N Φ k n σ pc lv st := by
  obtain ⟨p, l, e, R, s, m, args, below, meth, c, A, κ, ε, nL, Q⟩ := Φ
  intro ws H locs ls hR hP hD hS hl
  exact lv_iconst C.2.1 C.2.2.1 hd rfl (K ws H locs ls hR hP hD hS hl)
theorem n_bipush (C : Ok g Φ cc own ret d mc ms) {x : Int} (hd : decode cc pc = .ok (.bipush x, 2)) (hv : (Int8.ofInt x).toInt32 = iI x) (K : N Φ k n σ (pc + 2) lv (iv x :: st)) : N Φ k n σ pc lv st := by
  obtain ⟨p, l, e, R, s, m, args, below, meth, c, A, κ, ε, nL, Q⟩ := Φ
  intro ws H locs ls hR hP hD hS hl
  exact lv_bipush C.2.1 C.2.2.1 hd hv (K ws H locs ls hR hP hD hS hl)
theorem n_sipush (C : Ok g Φ cc own ret d mc ms) {x : Int} (hd : decode cc pc = .ok (.sipush x, 3)) (hv : (Int16.ofInt x).toInt32 = iI x) (K : N Φ k n σ (pc + 3) lv (iv x :: st)) : N Φ k n σ pc lv st := by
  obtain ⟨p, l, e, R, s, m, args, below, meth, c, A, κ, ε, nL, Q⟩ := Φ
  intro ws H locs ls hR hP hD hS hl
  exact lv_sipush C.2.1 C.2.2.1 hd hv (K ws H locs ls hR hP hD hS hl)
theorem n_iload_n (C : Ok g Φ cc own ret d mc ms) {i : Fin 4} {x : Int} (hd : decode cc pc = .ok (.iload_n i, 1)) (hk : lk lv (i : Nat) = some (iv x)) (K : N Φ k n σ (pc + 1) lv (iv x :: st)) : N Φ k n σ pc lv st := by
  obtain ⟨p, l, e, R, s, m, args, below, meth, c, A, κ, ε, nL, Q⟩ := Φ
  intro ws H locs ls hR hP hD hS hl
  exact lv_iload_n C.2.1 C.2.2.1 hd rfl (lk_at hl hk) (K ws H locs ls hR hP hD hS hl)
theorem n_iload (C : Ok g Φ cc own ret d mc ms) {i : Nat} {x : Int} (hd : decode cc pc = .ok (.iload i, 2)) (hk : lk lv i = some (iv x)) (K : N Φ k n σ (pc + 2) lv (iv x :: st)) : N Φ k n σ pc lv st := by
  obtain ⟨p, l, e, R, s, m, args, below, meth, c, A, κ, ε, nL, Q⟩ := Φ
  intro ws H locs ls hR hP hD hS hl
  exact lv_iload C.2.1 C.2.2.1 hd (lk_at hl hk) (K ws H locs ls hR hP hD hS hl)
theorem n_aload_n (C : Ok g Φ cc own ret d mc ms) {i : Fin 4} {a : Nat} (hd : decode cc pc = .ok (.aload_n i, 1)) (hk : lk lv (i : Nat) = some (.ref a)) (K : N Φ k n σ (pc + 1) lv (.ref a :: st)) : N Φ k n σ pc lv st := by
  obtain ⟨p, l, e, R, s, m, args, below, meth, c, A, κ, ε, nL, Q⟩ := Φ
  intro ws H locs ls hR hP hD hS hl
  exact lv_aload_n C.2.1 C.2.2.1 hd rfl (lk_at hl hk) (K ws H locs ls hR hP hD hS hl)
theorem n_aload (C : Ok g Φ cc own ret d mc ms) {i : Nat} {a : Nat} (hd : decode cc pc = .ok (.aload i, 2)) (hk : lk lv i = some (.ref a)) (K : N Φ k n σ (pc + 2) lv (.ref a :: st)) : N Φ k n σ pc lv st := by
  obtain ⟨p, l, e, R, s, m, args, below, meth, c, A, κ, ε, nL, Q⟩ := Φ
  intro ws H locs ls hR hP hD hS hl
  exact lv_aload C.2.1 C.2.2.1 hd (lk_at hl hk) (K ws H locs ls hR hP hD hS hl)
theorem n_aload_nN (C : Ok g Φ cc own ret d mc ms) {i : Fin 4} (hd : decode cc pc = .ok (.aload_n i, 1)) (hk : lk lv (i : Nat) = some .null) (K : N Φ k n σ (pc + 1) lv (.null :: st)) : N Φ k n σ pc lv st := by
  obtain ⟨p, l, e, R, s, m, args, below, meth, c, A, κ, ε, nL, Q⟩ := Φ
  intro ws H locs ls hR hP hD hS hl
  exact lv_aload_nN C.2.1 C.2.2.1 hd rfl (lk_at hl hk) (K ws H locs ls hR hP hD hS hl)
theorem n_aload_nO (C : Ok g Φ cc own ret d mc ms) {i : Fin 4} {r : Option Nat} (hd : decode cc pc = .ok (.aload_n i, 1)) (hk : lk lv (i : Nat) = some (va_rf r)) (K : N Φ k n σ (pc + 1) lv (va_rf r :: st)) : N Φ k n σ pc lv st := by
  cases r with
  | none => exact n_aload_nN C hd hk K
  | some a => exact n_aload_n C hd hk K
theorem n_istore_n (C : Ok g Φ cc own ret d mc ms) {i : Fin 4} {x : Int} (hd : decode cc pc = .ok (.istore_n i, 1)) (hn : (i : Nat) < fN Φ) (hl' : sp lv (i : Nat) (iv x) = lv') (K : N Φ k n σ (pc + 1) lv' st) : N Φ k n σ pc lv (iv x :: st) := by
  obtain ⟨p, l, e, R, s, m, args, below, meth, c, A, κ, ε, nL, Q⟩ := Φ
  intro ws H locs ls hR hP hD hS hl
  exact lv_istore_n C.2.1 C.2.2.1 hd rfl hl hn hl' (fun ls hl => K ws H locs ls hR hP hD hS hl)
theorem n_istore (C : Ok g Φ cc own ret d mc ms) {i : Nat} {x : Int} (hd : decode cc pc = .ok (.istore i, 2)) (hn : i < fN Φ) (hl' : sp lv i (iv x) = lv') (K : N Φ k n σ (pc + 2) lv' st) : N Φ k n σ pc lv (iv x :: st) := by
  obtain ⟨p, l, e, R, s, m, args, below, meth, c, A, κ, ε, nL, Q⟩ := Φ
  intro ws H locs ls hR hP hD hS hl
  exact lv_istore C.2.1 C.2.2.1 hd hl hn hl' (fun ls hl => K ws H locs ls hR hP hD hS hl)
theorem n_astore_n (C : Ok g Φ cc own ret d mc ms) {i : Fin 4} {a : Nat} (hd : decode cc pc = .ok (.astore_n i, 1)) (hn : (i : Nat) < fN Φ) (hl' : sp lv (i : Nat) (.ref a) = lv') (K : N Φ k n σ (pc + 1) lv' st) : N Φ k n σ pc lv (.ref a :: st) := by
  obtain ⟨p, l, e, R, s, m, args, below, meth, c, A, κ, ε, nL, Q⟩ := Φ
  intro ws H locs ls hR hP hD hS hl
  exact lv_astore_n C.2.1 C.2.2.1 hd rfl hl hn hl' (fun ls hl => K ws H locs ls hR hP hD hS hl)
theorem n_astore (C : Ok g Φ cc own ret d mc ms) {i : Nat} {a : Nat} (hd : decode cc pc = .ok (.astore i, 2)) (hn : i < fN Φ) (hl' : sp lv i (.ref a) = lv') (K : N Φ k n σ (pc + 2) lv' st) : N Φ k n σ pc lv (.ref a :: st) := by
  obtain ⟨p, l, e, R, s, m, args, below, meth, c, A, κ, ε, nL, Q⟩ := Φ
  intro ws H locs ls hR hP hD hS hl
  exact lv_astore C.2.1 C.2.2.1 hd hl hn hl' (fun ls hl => K ws H locs ls hR hP hD hS hl)
theorem n_iinc (C : Ok g Φ cc own ret d mc ms) {i : Nat} {z x : Int} (hd : decode cc pc = .ok (.iinc i z, 3)) (hk : lk lv i = some (iv x)) (hn : i < fN Φ) (hl' : sp lv i (iv (x + z)) = lv') (K : N Φ k n σ (pc + 3) lv' st) : N Φ k n σ pc lv st := by
  obtain ⟨p, l, e, R, s, m, args, below, meth, c, A, κ, ε, nL, Q⟩ := Φ
  intro ws H locs ls hR hP hD hS hl
  obtain ⟨j, hj⟩ := lk_m hk
  exact lv_iinc C.2.1 C.2.2.1 hd hl hj (iI_add x z) hn hl' (fun ls hl => K ws H locs ls hR hP hD hS hl)
theorem n_iadd (C : Ok g Φ cc own ret d mc ms) {x y : Int} (hd : decode cc pc = .ok (.iadd, 1)) (K : N Φ k n σ (pc + 1) lv (iv (x + y) :: st)) : N Φ k n σ pc lv (iv y :: iv x :: st) := by
  obtain ⟨p, l, e, R, s, m, args, below, meth, c, A, κ, ε, nL, Q⟩ := Φ
  intro ws H locs ls hR hP hD hS hl
  have K := K ws H locs ls hR hP hD hS hl
  unfold iv at K
  rw [← iI_add] at K
  exact lv_iadd C.2.1 C.2.2.1 hd K
theorem n_isub (C : Ok g Φ cc own ret d mc ms) {x y : Int} (hd : decode cc pc = .ok (.isub, 1)) (K : N Φ k n σ (pc + 1) lv (iv (x - y) :: st)) : N Φ k n σ pc lv (iv y :: iv x :: st) := by
  obtain ⟨p, l, e, R, s, m, args, below, meth, c, A, κ, ε, nL, Q⟩ := Φ
  intro ws H locs ls hR hP hD hS hl
  have K := K ws H locs ls hR hP hD hS hl
  unfold iv at K
  rw [← iI_sub] at K
  exact lv_isub C.2.1 C.2.2.1 hd K
theorem n_imul (C : Ok g Φ cc own ret d mc ms) {x y : Int} (hd : decode cc pc = .ok (.imul, 1)) (K : N Φ k n σ (pc + 1) lv (iv (x * y) :: st)) : N Φ k n σ pc lv (iv y :: iv x :: st) := by
  obtain ⟨p, l, e, R, s, m, args, below, meth, c, A, κ, ε, nL, Q⟩ := Φ
  intro ws H locs ls hR hP hD hS hl
  have K := K ws H locs ls hR hP hD hS hl
  unfold iv at K
  rw [← iI_mul] at K
  exact lv_imul C.2.1 C.2.2.1 hd K
theorem n_ineg (C : Ok g Φ cc own ret d mc ms) {x : Int} (hd : decode cc pc = .ok (.ineg, 1)) (K : N Φ k n σ (pc + 1) lv (iv (-x) :: st)) : N Φ k n σ pc lv (iv x :: st) := by
  obtain ⟨p, l, e, R, s, m, args, below, meth, c, A, κ, ε, nL, Q⟩ := Φ
  intro ws H locs ls hR hP hD hS hl
  have K := K ws H locs ls hR hP hD hS hl
  unfold iv at K
  rw [← iI_neg] at K
  exact lv_ineg C.2.1 C.2.2.1 hd K
theorem n_idiv (C : Ok g Φ cc own ret d mc ms) {x y : Int} (hd : decode cc pc = .ok (.idiv, 1)) (hx : rg x) (hy : rg y) (h0 : y ≠ 0) (h1 : y ≠ -1) (K : N Φ k n σ (pc + 1) lv (iv (x.tdiv y) :: st)) : N Φ k n σ pc lv (iv y :: iv x :: st) := by
  obtain ⟨p, l, e, R, s, m, args, below, meth, c, A, κ, ε, nL, Q⟩ := Φ
  intro ws H locs ls hR hP hD hS hl
  have K := K ws H locs ls hR hP hD hS hl
  unfold iv at K
  rw [← iI_div hx hy h1] at K
  exact lv_idiv C.2.1 C.2.2.1 hd (fun q => h0 ((iI_eq hy rg_0).mp q)) K
theorem n_irem (C : Ok g Φ cc own ret d mc ms) {x y : Int} (hd : decode cc pc = .ok (.irem, 1)) (hx : rg x) (hy : rg y) (h0 : y ≠ 0) (h1 : y ≠ -1) (K : N Φ k n σ (pc + 1) lv (iv (x.tmod y) :: st)) : N Φ k n σ pc lv (iv y :: iv x :: st) := by
  obtain ⟨p, l, e, R, s, m, args, below, meth, c, A, κ, ε, nL, Q⟩ := Φ
  intro ws H locs ls hR hP hD hS hl
  have K := K ws H locs ls hR hP hD hS hl
  unfold iv at K
  rw [← iI_rem hx hy h1] at K
  exact lv_irem C.2.1 C.2.2.1 hd (fun q => h0 ((iI_eq hy rg_0).mp q)) K
theorem n_idivP (C : Ok g Φ cc own ret d mc ms) {x y : Int} (hd : decode cc pc = .ok (.idiv, 1)) (hx : rg x) (hy : rg y) (h0 : 0 ≤ x) (h1 : 0 < y) (K : N Φ k n σ (pc + 1) lv (iv (x / y) :: st)) : N Φ k n σ pc lv (iv y :: iv x :: st) :=
  n_idiv C hd hx hy (by omega) (by omega) (by rw [Int.tdiv_eq_ediv_of_nonneg h0]; exact K)
theorem n_iremP (C : Ok g Φ cc own ret d mc ms) {x y : Int} (hd : decode cc pc = .ok (.irem, 1)) (hx : rg x) (hy : rg y) (h0 : 0 ≤ x) (h1 : 0 < y) (K : N Φ k n σ (pc + 1) lv (iv (x % y) :: st)) : N Φ k n σ pc lv (iv y :: iv x :: st) :=
  n_irem C hd hx hy (by omega) (by omega) (by rw [Int.tmod_eq_emod_of_nonneg h0]; exact K)
/-- ixor, ishr: the answer is named by what it is in the machine -/
theorem n_ixor (C : Ok g Φ cc own ret d mc ms) {x y z : Int} (hd : decode cc pc = .ok (.ixor, 1)) (hz : iI x ^^^ iI y = iI z) (K : N Φ k n σ (pc + 1) lv (iv z :: st)) : N Φ k n σ pc lv (iv y :: iv x :: st) := by
  obtain ⟨p, l, e, R, s, m, args, below, meth, c, A, κ, ε, nL, Q⟩ := Φ
  intro ws H locs ls hR hP hD hS hl
  have K := K ws H locs ls hR hP hD hS hl
  unfold iv at K
  rw [← hz] at K
  exact lv_ixor C.2.1 C.2.2.1 hd K
theorem n_ishr (C : Ok g Φ cc own ret d mc ms) {x y z : Int} (hd : decode cc pc = .ok (.ishr, 1)) (hz : iI x >>> (iI y &&& 31) = iI z) (K : N Φ k n σ (pc + 1) lv (iv z :: st)) : N Φ k n σ pc lv (iv y :: iv x :: st) := by
  obtain ⟨p, l, e, R, s, m, args, below, meth, c, A, κ, ε, nL, Q⟩ := Φ
  intro ws H locs ls hR hP hD hS hl
  have K := K ws H locs ls hR hP hD hS hl
  unfold iv at K
  rw [← hz] at K
  exact lv_ishr C.2.1 C.2.2.1 hd K
theorem n_iand (C : Ok g Φ cc own ret d mc ms) {x y z : Int} (hd : decode cc pc = .ok (.iand, 1)) (hz : iI x &&& iI y = iI z) (K : N Φ k n σ (pc + 1) lv (iv z :: st)) : N Φ k n σ pc lv (iv y :: iv x :: st) := by
  obtain ⟨p, l, e, R, s, m, args, below, meth, c, A, κ, ε, nL, Q⟩ := Φ
  intro ws H locs ls hR hP hD hS hl
  have K := K ws H locs ls hR hP hD hS hl
  unfold iv at K
  rw [← hz] at K
  exact lv_iand C.2.1 C.2.2.1 hd K
theorem n_dup (C : Ok g Φ cc own ret d mc ms) {v : Value} (hd : decode cc pc = .ok (.dup, 1)) (hv : v.category = 1) (K : N Φ k n σ (pc + 1) lv (v :: v :: st)) : N Φ k n σ pc lv (v :: st) := by
  obtain ⟨p, l, e, R, s, m, args, below, meth, c, A, κ, ε, nL, Q⟩ := Φ
  intro ws H locs ls hR hP hD hS hl
  exact lv_dup C.2.1 C.2.2.1 hd hv (K ws H locs ls hR hP hD hS hl)
theorem n_dup_x1 (C : Ok g Φ cc own ret d mc ms) {v w : Value} (hd : decode cc pc = .ok (.dup_x1, 1)) (hv : v.category = 1) (hw : w.category = 1) (K : N Φ k n σ (pc + 1) lv (v :: w :: v :: st)) : N Φ k n σ pc lv (v :: w :: st) := by
  obtain ⟨p, l, e, R, s, m, args, below, meth, c, A, κ, ε, nL, Q⟩ := Φ
  intro ws H locs ls hR hP hD hS hl
  exact lv_dup_x1 C.2.1 C.2.2.1 hd hv hw (K ws H locs ls hR hP hD hS hl)
theorem n_dup2 (C : Ok g Φ cc own ret d mc ms) {v w : Value} (hd : decode cc pc = .ok (.dup2, 1)) (hv : v.category = 1) (hw : w.category = 1) (K : N Φ k n σ (pc + 1) lv (v :: w :: v :: w :: st)) : N Φ k n σ pc lv (v :: w :: st) := by
  obtain ⟨p, l, e, R, s, m, args, below, meth, c, A, κ, ε, nL, Q⟩ := Φ
  intro ws H locs ls hR hP hD hS hl
  exact lv_dup2_11 C.2.1 C.2.2.1 hd hv hw (K ws H locs ls hR hP hD hS hl)
theorem n_pop (C : Ok g Φ cc own ret d mc ms) {v : Value} (hd : decode cc pc = .ok (.pop, 1)) (hv : v.category = 1) (K : N Φ k n σ (pc + 1) lv st) : N Φ k n σ pc lv (v :: st) := by
  obtain ⟨p, l, e, R, s, m, args, below, meth, c, A, κ, ε, nL, Q⟩ := Φ
  intro ws H locs ls hR hP hD hS hl
  exact lv_pop C.2.1 C.2.2.1 hd hv (K ws H locs ls hR hP hD hS hl)
theorem n_goto (C : Ok g Φ cc own ret d mc ms) {off : Int} (tgt : Nat) (hd : decode cc pc = .ok (.goto off, 3)) (ht : (pc : Int) + off = (tgt : Int)) (K : N Φ k n σ tgt lv st) : N Φ k n σ pc lv st := by
  obtain ⟨p, l, e, R, s, m, args, below, meth, c, A, κ, ε, nL, Q⟩ := Φ
  intro ws H locs ls hR hP hD hS hl
  exact lv_goto C.2.1 C.2.2.1 hd ht (K ws H locs ls hR hP hD hS hl)
theorem n_null (C : Ok g Φ cc own ret d mc ms) (hd : decode cc pc = .ok (.aconst_null, 1)) (K : N Φ k n σ (pc + 1) lv (.null :: st)) : N Φ k n σ pc lv st := by
  obtain ⟨p, l, e, R, s, m, args, below, meth, c, A, κ, ε, nL, Q⟩ := Φ
  intro ws H locs ls hR hP hD hS hl
  exact lv_null C.2.1 C.2.2.1 hd (K ws H locs ls hR hP hD hS hl)
theorem n_if_eq (C : Ok g Φ cc own ret d mc ms) {x : Int} {off : Int} (tgt : Nat) (hd : decode cc pc = .ok (.ifCond .eq off, 3)) (ht : (pc : Int) + off = (tgt : Int)) (hx : rg x) (kt : x = 0 → N Φ k n σ tgt lv st) (kf : x ≠ 0 → N Φ k n σ (pc + 3) lv st) : N Φ k n σ pc lv (iv x :: st) := by
  obtain ⟨p, l, e, R, s, m, args, below, meth, c, A, κ, ε, nL, Q⟩ := Φ
  intro ws H locs ls hR hP hD hS hl
  exact lv_if_eq C.2.1 C.2.2.1 hd ht (fun h => kt (by have h := (iI_eq hx rg_0).mp h; omega) ws H locs ls hR hP hD hS hl) (fun h => kf (by have h := mt (iI_eq hx rg_0).mpr h; omega) ws H locs ls hR hP hD hS hl)
theorem n_icmp_eq (C : Ok g Φ cc own ret d mc ms) {x y : Int} {off : Int} (tgt : Nat) (hd : decode cc pc = .ok (.if_icmp .eq off, 3)) (ht : (pc : Int) + off = (tgt : Int)) (hx : rg x) (hy : rg y) (kt : x = y → N Φ k n σ tgt lv st) (kf : x ≠ y → N Φ k n σ (pc + 3) lv st) : N Φ k n σ pc lv (iv y :: iv x :: st) := by
  obtain ⟨p, l, e, R, s, m, args, below, meth, c, A, κ, ε, nL, Q⟩ := Φ
  intro ws H locs ls hR hP hD hS hl
  exact lv_icmp_eq C.2.1 C.2.2.1 hd ht (fun h => kt (by have h := (iI_eq hx hy).mp h; omega) ws H locs ls hR hP hD hS hl) (fun h => kf (by have h := mt (iI_eq hx hy).mpr h; omega) ws H locs ls hR hP hD hS hl)
theorem n_if_lt (C : Ok g Φ cc own ret d mc ms) {x : Int} {off : Int} (tgt : Nat) (hd : decode cc pc = .ok (.ifCond .lt off, 3)) (ht : (pc : Int) + off = (tgt : Int)) (hx : rg x) (kt : x < 0 → N Φ k n σ tgt lv st) (kf : 0 ≤ x → N Φ k n σ (pc + 3) lv st) : N Φ k n σ pc lv (iv x :: st) := by
  obtain ⟨p, l, e, R, s, m, args, below, meth, c, A, κ, ε, nL, Q⟩ := Φ
  intro ws H locs ls hR hP hD hS hl
  exact lv_if_lt C.2.1 C.2.2.1 hd ht (fun h => kt (by have h := (iI_lt hx rg_0).mp h; omega) ws H locs ls hR hP hD hS hl) (fun h => kf (by have h := mt (iI_lt hx rg_0).mpr h; omega) ws H locs ls hR hP hD hS hl)
theorem n_icmp_lt (C : Ok g Φ cc own ret d mc ms) {x y : Int} {off : Int} (tgt : Nat) (hd : decode cc pc = .ok (.if_icmp .lt off, 3)) (ht : (pc : Int) + off = (tgt : Int)) (hx : rg x) (hy : rg y) (kt : x < y → N Φ k n σ tgt lv st) (kf : y ≤ x → N Φ k n σ (pc + 3) lv st) : N Φ k n σ pc lv (iv y :: iv x :: st) := by
  obtain ⟨p, l, e, R, s, m, args, below, meth, c, A, κ, ε, nL, Q⟩ := Φ
  intro ws H locs ls hR hP hD hS hl
  exact lv_icmp_lt C.2.1 C.2.2.1 hd ht (fun h => kt (by have h := (iI_lt hx hy).mp h; omega) ws H locs ls hR hP hD hS hl) (fun h => kf (by have h := mt (iI_lt hx hy).mpr h; omega) ws H locs ls hR hP hD hS hl)
theorem n_if_ge (C : Ok g Φ cc own ret d mc ms) {x : Int} {off : Int} (tgt : Nat) (hd : decode cc pc = .ok (.ifCond .ge off, 3)) (ht : (pc : Int) + off = (tgt : Int)) (hx : rg x) (kt : 0 ≤ x → N Φ k n σ tgt lv st) (kf : x < 0 → N Φ k n σ (pc + 3) lv st) : N Φ k n σ pc lv (iv x :: st) := by
  obtain ⟨p, l, e, R, s, m, args, below, meth, c, A, κ, ε, nL, Q⟩ := Φ
  intro ws H locs ls hR hP hD hS hl
  exact lv_if_ge C.2.1 C.2.2.1 hd ht (fun h => kt (by have h := (iI_le rg_0 hx).mp h; omega) ws H locs ls hR hP hD hS hl) (fun h => kf (by have h := mt (iI_le rg_0 hx).mpr h; omega) ws H locs ls hR hP hD hS hl)
theorem n_icmp_ge (C : Ok g Φ cc own ret d mc ms) {x y : Int} {off : Int} (tgt : Nat) (hd : decode cc pc = .ok (.if_icmp .ge off, 3)) (ht : (pc : Int) + off = (tgt : Int)) (hx : rg x) (hy : rg y) (kt : y ≤ x → N Φ k n σ tgt lv st) (kf : x < y → N Φ k n σ (pc + 3) lv st) : N Φ k n σ pc lv (iv y :: iv x :: st) := by
  obtain ⟨p, l, e, R, s, m, args, below, meth, c, A, κ, ε, nL, Q⟩ := Φ
  intro ws H locs ls hR hP hD hS hl
  exact lv_icmp_ge C.2.1 C.2.2.1 hd ht (fun h => kt (by have h := (iI_le hy hx).mp h; omega) ws H locs ls hR hP hD hS hl) (fun h => kf (by have h := mt (iI_le hy hx).mpr h; omega) ws H locs ls hR hP hD hS hl)
theorem n_if_gt (C : Ok g Φ cc own ret d mc ms) {x : Int} {off : Int} (tgt : Nat) (hd : decode cc pc = .ok (.ifCond .gt off, 3)) (ht : (pc : Int) + off = (tgt : Int)) (hx : rg x) (kt : 0 < x → N Φ k n σ tgt lv st) (kf : x ≤ 0 → N Φ k n σ (pc + 3) lv st) : N Φ k n σ pc lv (iv x :: st) := by
  obtain ⟨p, l, e, R, s, m, args, below, meth, c, A, κ, ε, nL, Q⟩ := Φ
  intro ws H locs ls hR hP hD hS hl
  exact lv_if_gt C.2.1 C.2.2.1 hd ht (fun h => kt (by have h := (iI_lt rg_0 hx).mp h; omega) ws H locs ls hR hP hD hS hl) (fun h => kf (by have h := mt (iI_lt rg_0 hx).mpr h; omega) ws H locs ls hR hP hD hS hl)
theorem n_icmp_gt (C : Ok g Φ cc own ret d mc ms) {x y : Int} {off : Int} (tgt : Nat) (hd : decode cc pc = .ok (.if_icmp .gt off, 3)) (ht : (pc : Int) + off = (tgt : Int)) (hx : rg x) (hy : rg y) (kt : y < x → N Φ k n σ tgt lv st) (kf : x ≤ y → N Φ k n σ (pc + 3) lv st) : N Φ k n σ pc lv (iv y :: iv x :: st) := by
  obtain ⟨p, l, e, R, s, m, args, below, meth, c, A, κ, ε, nL, Q⟩ := Φ
  intro ws H locs ls hR hP hD hS hl
  exact lv_icmp_gt C.2.1 C.2.2.1 hd ht (fun h => kt (by have h := (iI_lt hy hx).mp h; omega) ws H locs ls hR hP hD hS hl) (fun h => kf (by have h := mt (iI_lt hy hx).mpr h; omega) ws H locs ls hR hP hD hS hl)
theorem n_if_le (C : Ok g Φ cc own ret d mc ms) {x : Int} {off : Int} (tgt : Nat) (hd : decode cc pc = .ok (.ifCond .le off, 3)) (ht : (pc : Int) + off = (tgt : Int)) (hx : rg x) (kt : x ≤ 0 → N Φ k n σ tgt lv st) (kf : 0 < x → N Φ k n σ (pc + 3) lv st) : N Φ k n σ pc lv (iv x :: st) := by
  obtain ⟨p, l, e, R, s, m, args, below, meth, c, A, κ, ε, nL, Q⟩ := Φ
  intro ws H locs ls hR hP hD hS hl
  exact lv_if_le C.2.1 C.2.2.1 hd ht (fun h => kt (by have h := (iI_le hx rg_0).mp h; omega) ws H locs ls hR hP hD hS hl) (fun h => kf (by have h := mt (iI_le hx rg_0).mpr h; omega) ws H locs ls hR hP hD hS hl)
theorem n_icmp_le (C : Ok g Φ cc own ret d mc ms) {x y : Int} {off : Int} (tgt : Nat) (hd : decode cc pc = .ok (.if_icmp .le off, 3)) (ht : (pc : Int) + off = (tgt : Int)) (hx : rg x) (hy : rg y) (kt : x ≤ y → N Φ k n σ tgt lv st) (kf : y < x → N Φ k n σ (pc + 3) lv st) : N Φ k n σ pc lv (iv y :: iv x :: st) := by
  obtain ⟨p, l, e, R, s, m, args, below, meth, c, A, κ, ε, nL, Q⟩ := Φ
  intro ws H locs ls hR hP hD hS hl
  exact lv_icmp_le C.2.1 C.2.2.1 hd ht (fun h => kt (by have h := (iI_le hx hy).mp h; omega) ws H locs ls hR hP hD hS hl) (fun h => kf (by have h := mt (iI_le hx hy).mpr h; omega) ws H locs ls hR hP hD hS hl)
theorem n_if_ne (C : Ok g Φ cc own ret d mc ms) {x : Int} {off : Int} (tgt : Nat) (hd : decode cc pc = .ok (.ifCond .ne off, 3)) (ht : (pc : Int) + off = (tgt : Int)) (hx : rg x) (kt : x ≠ 0 → N Φ k n σ tgt lv st) (kf : x = 0 → N Φ k n σ (pc + 3) lv st) : N Φ k n σ pc lv (iv x :: st) := by
  obtain ⟨p, l, e, R, s, m, args, below, meth, c, A, κ, ε, nL, Q⟩ := Φ
  intro ws H locs ls hR hP hD hS hl
  exact lv_if_ne C.2.1 C.2.2.1 hd ht (fun h => kt (fun q => h ((iI_eq hx rg_0).mpr q)) ws H locs ls hR hP hD hS hl) (fun h => kf (by first | exact (iI_eq hx rg_0).mp h | exact (iI_eq hx rg_0).mp (Classical.not_not.mp h)) ws H locs ls hR hP hD hS hl)
theorem n_icmp_ne (C : Ok g Φ cc own ret d mc ms) {x y : Int} {off : Int} (tgt : Nat) (hd : decode cc pc = .ok (.if_icmp .ne off, 3)) (ht : (pc : Int) + off = (tgt : Int)) (hx : rg x) (hy : rg y) (kt : x ≠ y → N Φ k n σ tgt lv st) (kf : x = y → N Φ k n σ (pc + 3) lv st) : N Φ k n σ pc lv (iv y :: iv x :: st) := by
  obtain ⟨p, l, e, R, s, m, args, below, meth, c, A, κ, ε, nL, Q⟩ := Φ
  intro ws H locs ls hR hP hD hS hl
  exact lv_icmp_ne C.2.1 C.2.2.1 hd ht (fun h => kt (fun q => h ((iI_eq hx hy).mpr q)) ws H locs ls hR hP hD hS hl) (fun h => kf (by first | exact (iI_eq hx hy).mp h | exact (iI_eq hx hy).mp (Classical.not_not.mp h)) ws H locs ls hR hP hD hS hl)
theorem n_ifnonnull (C : Ok g Φ cc own ret d mc ms) {r : Option Nat} {off : Int} (tgt : Nat) (hd : decode cc pc = .ok (.ifnonnull off, 3)) (ht : (pc : Int) + off = (tgt : Int)) (kt : ∀ a, r = some a → N Φ k n σ tgt lv st) (kf : r = none → N Φ k n σ (pc + 3) lv st) : N Φ k n σ pc lv (va_rf r :: st) := by
  obtain ⟨p, l, e, R, s, m, args, below, meth, c, A, κ, ε, nL, Q⟩ := Φ
  intro ws H locs ls hR hP hD hS hl
  cases r with
  | none => exact lv_ifnonnullN C.2.1 C.2.2.1 hd (kf rfl ws H locs ls hR hP hD hS hl)
  | some a => exact lv_ifnonnull C.2.1 C.2.2.1 hd ht (kt a rfl ws H locs ls hR hP hD hS hl)
theorem n_ifnull (C : Ok g Φ cc own ret d mc ms) {r : Option Nat} {off : Int} (tgt : Nat) (hd : decode cc pc = .ok (.ifnull off, 3)) (ht : (pc : Int) + off = (tgt : Int)) (kt : r = none → N Φ k n σ tgt lv st) (kf : ∀ a, r = some a → N Φ k n σ (pc + 3) lv st) : N Φ k n σ pc lv (va_rf r :: st) := by
  obtain ⟨p, l, e, R, s, m, args, below, meth, c, A, κ, ε, nL, Q⟩ := Φ
  intro ws H locs ls hR hP hD hS hl
  cases r with
  | none => exact lv_ifnullN C.2.1 C.2.2.1 hd ht (kt rfl ws H locs ls hR hP hD hS hl)
  | some a => exact lv_ifnull C.2.1 C.2.2.1 hd (kf a rfl ws H locs ls hR hP hD hS hl)
theorem n_acmp_ne (C : Ok g Φ cc own ret d mc ms) {a b : Nat} {off : Int} (tgt : Nat) (hd : decode cc pc = .ok (.if_acmp .ne off, 3)) (ht : (pc : Int) + off = (tgt : Int)) (kt : a ≠ b → N Φ k n σ tgt lv st) (kf : a = b → N Φ k n σ (pc + 3) lv st) : N Φ k n σ pc lv (.ref b :: .ref a :: st) := by
  obtain ⟨p, l, e, R, s, m, args, below, meth, c, A, κ, ε, nL, Q⟩ := Φ
  intro ws H locs ls hR hP hD hS hl
  exact lv_acmp_ne (rx := some a) (ry := some b) C.2.1 C.2.2.1 hd ht (fun h => kt (fun q => h (by rw [q])) ws H locs ls hR hP hD hS hl) (fun h => kf (by first | exact Option.some.inj h | exact Option.some.inj (Classical.not_not.mp h)) ws H locs ls hR hP hD hS hl)
theorem n_acmp_eq (C : Ok g Φ cc own ret d mc ms) {a b : Nat} {off : Int} (tgt : Nat) (hd : decode cc pc = .ok (.if_acmp .eq off, 3)) (ht : (pc : Int) + off = (tgt : Int)) (kt : a = b → N Φ k n σ tgt lv st) (kf : a ≠ b → N Φ k n σ (pc + 3) lv st) : N Φ k n σ pc lv (.ref b :: .ref a :: st) := by
  obtain ⟨p, l, e, R, s, m, args, below, meth, c, A, κ, ε, nL, Q⟩ := Φ
  intro ws H locs ls hR hP hD hS hl
  exact lv_acmp_eq (rx := some a) (ry := some b) C.2.1 C.2.2.1 hd ht (fun h => kt (Option.some.inj h) ws H locs ls hR hP hD hS hl) (fun h => kf (fun q => h (by rw [q])) ws H locs ls hR hP hD hS hl)
end Rows
end NK2
end
section
/-! rows of the heap, of calls and of ends -/
section NK3
variable {g : Gx} {Φ : Fx} {cc : ByteArray} {own : String} {ret : Option FieldType} {d mc ms k n : Nat} {σ : Wd} {pc : Nat} {lv lv' : List (Nat × Value)} {st : List Value} {Po : Option Value → Wd → Prop} {Px : String → Wd → Prop} {σ0 : Wd}
/-- a field's words: its class's rows of the tables, and the link -/
def fG (C : String) (T : u_T) (M : Nat) : Prop := ∀ w ∈ u_ws C T M, w ∈ GT
theorem n_get (C : Ok g Φ cc own ret d mc ms) {ref cls : String} {T : u_T} {M ci idx a : Nat} {fs : List Value} {v : Value} (hσ : σ a = some (.inr (ci, fs))) (hc : vwCl[ci]? = some (cls, T, M)) (hin : fG cls T M) (j : Nat) (hj : j < M) (hw : Cond.fieldLink own idx ref (T j).2.1 (T j).2.2.1 ∈ GT) (hs : (T j).1 = ref) (hv : fs[j]? = some v) (hd : decode cc pc = .ok (.getfield idx, 3)) (K : N Φ k n σ (pc + 3) lv (v :: st)) : N Φ k n σ pc lv (.ref a :: st) := by
  obtain ⟨p, l, e, R, s, m, args, below, meth, c, A, κ, ε, nL, Q⟩ := Φ
  obtain ⟨-, hx, hb, hml, hown, hret, hts, hK, -⟩ := C
  intro ws H locs ls hR hP hD hS hl
  obtain ⟨q, hq⟩ := hR.cell hσ
  exact va_get hx hb hts hin hown hK hP q hq hc j hj (hts _ hw) (fun x h => by rw [← hs]; exact h) hv hd (K ws H locs ls hR hP hD hS hl)
/-- .. of a field that is declared above the class that the link names -/
theorem n_getU (C : Ok g Φ cc own ret d mc ms) {ref cls : String} {T : u_T} {M ci idx a : Nat} {fs : List Value} {v : Value} (hσ : σ a = some (.inr (ci, fs))) (hc : vwCl[ci]? = some (cls, T, M)) (hin : fG cls T M) (j : Nat) (hj : j < M) (hw : Cond.fieldLink own idx ref (T j).2.1 (T j).2.2.1 ∈ GT) (hs : Cond.sameField ref (T j).1 (T j).2.1 (T j).2.2.1 ∈ GT) (hv : fs[j]? = some v) (hd : decode cc pc = .ok (.getfield idx, 3)) (K : N Φ k n σ (pc + 3) lv (v :: st)) : N Φ k n σ pc lv (.ref a :: st) := by
  obtain ⟨p, l, e, R, s, m, args, below, meth, c, A, κ, ε, nL, Q⟩ := Φ
  obtain ⟨-, hx, hb, hml, hown, hret, hts, hK, -⟩ := C
  intro ws H locs ls hR hP hD hS hl
  obtain ⟨q, hq⟩ := hR.cell hσ
  exact va_get hx hb hts hin hown hK hP q hq hc j hj (hts _ hw) (fun x h => u_same (hts _ hs) x h) hv hd (K ws H locs ls hR hP hD hS hl)
theorem n_put (C : Ok g Φ cc own ret d mc ms) {ref cls : String} {T : u_T} {M ci idx a : Nat} {fs : List Value} {v : Value} (hσ : σ a = some (.inr (ci, fs))) (hc : vwCl[ci]? = some (cls, T, M)) (hin : fG cls T M) (ty0 : Nat → FieldType) (hty : ∀ k, k < M → parseFieldDescriptor (T k).2.2.1 = some (ty0 k)) (hnm : ∀ a, a < M → ∀ b, b < M → a ≠ b → (T a).2.1 ≠ (T b).2.1) (j : Nat) (hj : j < M) (hw : Cond.fieldLink own idx ref (T j).2.1 (T j).2.2.1 ∈ GT) (hs : (T j).1 = ref) (hfin : (T j).2.2.2 = false) (hn : narrow (ty0 j) v = v) (hf : fits (ty0 j) v = true) (hlen : j < fs.length) (hd : decode cc pc = .ok (.putfield idx, 3)) (K : N Φ k n (wup σ a (.inr (ci, fs.set j v))) (pc + 3) lv st) : N Φ k n σ pc lv (v :: .ref a :: st) := by
  obtain ⟨p, l, e, R, s, m, args, below, meth, c, A, κ, ε, nL, Q⟩ := Φ
  obtain ⟨-, hx, hb, hml, hown, hret, hts, hK, -⟩ := C
  intro ws H locs ls hR hP hD hS hl
  obtain ⟨q, hq⟩ := hR.cell hσ
  exact va_put hx hb hts hin ty0 hty hnm hown hK hP hD hS q hq hc j hj (hts _ hw) (fun x h => by rw [← hs]; exact h) hfin (hty j hj) hn hf hlen hd (fun H1 locs1 hP1 hD1 hS1 => K _ H1 locs1 ls (hR.set hD hq) hP1 hD1 hS1 hl)
theorem n_putU (C : Ok g Φ cc own ret d mc ms) {ref cls : String} {T : u_T} {M ci idx a : Nat} {fs : List Value} {v : Value} (hσ : σ a = some (.inr (ci, fs))) (hc : vwCl[ci]? = some (cls, T, M)) (hin : fG cls T M) (ty0 : Nat → FieldType) (hty : ∀ k, k < M → parseFieldDescriptor (T k).2.2.1 = some (ty0 k)) (hnm : ∀ a, a < M → ∀ b, b < M → a ≠ b → (T a).2.1 ≠ (T b).2.1) (j : Nat) (hj : j < M) (hw : Cond.fieldLink own idx ref (T j).2.1 (T j).2.2.1 ∈ GT) (hs : Cond.sameField ref (T j).1 (T j).2.1 (T j).2.2.1 ∈ GT) (hfin : (T j).2.2.2 = false) (hn : narrow (ty0 j) v = v) (hf : fits (ty0 j) v = true) (hlen : j < fs.length) (hd : decode cc pc = .ok (.putfield idx, 3)) (K : N Φ k n (wup σ a (.inr (ci, fs.set j v))) (pc + 3) lv st) : N Φ k n σ pc lv (v :: .ref a :: st) := by
  obtain ⟨p, l, e, R, s, m, args, below, meth, c, A, κ, ε, nL, Q⟩ := Φ
  obtain ⟨-, hx, hb, hml, hown, hret, hts, hK, -⟩ := C
  intro ws H locs ls hR hP hD hS hl
  obtain ⟨q, hq⟩ := hR.cell hσ
  exact va_put hx hb hts hin ty0 hty hnm hown hK hP hD hS q hq hc j hj (hts _ hw) (fun x h => u_same (hts _ hs) x h) hfin (hty j hj) hn hf hlen hd (fun H1 locs1 hP1 hD1 hS1 => K _ H1 locs1 ls (hR.set hD hq) hP1 hD1 hS1 hl)
theorem n_putF (C : Ok g Φ cc own ret d mc ms) {ref cls : String} {T : u_T} {M ci idx a : Nat} {fs : List Value} {v : Value} (hinit : fY Φ = "<init>") (hσ : σ a = some (.inr (ci, fs))) (hc : vwCl[ci]? = some (cls, T, M)) (hin : fG cls T M) (ty0 : Nat → FieldType) (hty : ∀ k, k < M → parseFieldDescriptor (T k).2.2.1 = some (ty0 k)) (hnm : ∀ a, a < M → ∀ b, b < M → a ≠ b → (T a).2.1 ≠ (T b).2.1) (j : Nat) (hj : j < M) (hw : Cond.fieldLink own idx ref (T j).2.1 (T j).2.2.1 ∈ GT) (hs : (T j).1 = ref) (hown' : (T j).1 = own) (hfin : (T j).2.2.2 = true) (hn : narrow (ty0 j) v = v) (hf : fits (ty0 j) v = true) (hlen : j < fs.length) (hd : decode cc pc = .ok (.putfield idx, 3)) (K : N Φ k n (wup σ a (.inr (ci, fs.set j v))) (pc + 3) lv st) : N Φ k n σ pc lv (v :: .ref a :: st) := by
  obtain ⟨p, l, e, R, s, m, args, below, meth, c, A, κ, ε, nL, Q⟩ := Φ
  obtain ⟨-, hx, hb, hml, hown, hret, hts, hK, -⟩ := C
  intro ws H locs ls hR hP hD hS hl
  obtain ⟨q, hq⟩ := hR.cell hσ
  exact va_putF hx hb hts hin ty0 hty hnm hown hK hP hD hS q hq hc j hj (hts _ hw) (fun x h => by rw [← hs]; exact h) hfin hinit hown' (hty j hj) hn hf hlen hd (fun H1 locs1 hP1 hD1 hS1 => K _ H1 locs1 ls (hR.set hD hq) hP1 hD1 hS1 hl)
theorem fits_iv_i (x : Int) : fits .int (iv x) = true := rfl
theorem kT_I {κ : KG} : (kT κ)[0]? = some (kI κ, .int) := rfl
theorem n_iald (C : Ok g Φ cc own ret d mc ms) {a M : Nat} {f : Nat → Int} {j : Int} (hσ : σ a = some (eI g.2.1 M f)) (h0 : 0 ≤ j) (h1 : j < M) (hM : M < 2147483648) (hd : decode cc pc = .ok (.iaload, 1)) (K : N Φ k n σ (pc + 1) lv (iv (f j.toNat) :: st)) : N Φ k n σ pc lv (iv j :: .ref a :: st) := by
  obtain ⟨p, l, e, R, s, m, args, below, meth, c, A, κ, ε, nL, Q⟩ := Φ
  obtain ⟨rfl, hx, hb, hml, hown, hret, hts, hK, -⟩ := C
  intro ws H locs ls hR hP hD hS hl
  obtain ⟨q, hq⟩ := hR.cell hσ
  have K := K ws H locs ls hR hP hD hS hl
  refine va_iald hx hb hK hP q 0 hq rfl (iI_in h0 h1 hM) hd ?_
  rw [iI_c (by unfold rg; omega)]
  exact K
theorem n_iast (C : Ok g Φ cc own ret d mc ms) {a M : Nat} {f : Nat → Int} {j x : Int} (hσ : σ a = some (eI g.2.1 M f)) (h0 : 0 ≤ j) (h1 : j < M) (hM : M < 2147483648) (hd : decode cc pc = .ok (.iastore, 1)) (K : N Φ k n (wup σ a (eI g.2.1 M (upI f j.toNat x))) (pc + 1) lv st) : N Φ k n σ pc lv (iv x :: iv j :: .ref a :: st) := by
  obtain ⟨p, l, e, R, s, m, args, below, meth, c, A, κ, ε, nL, Q⟩ := Φ
  obtain ⟨rfl, hx, hb, hml, hown, hret, hts, hK, -⟩ := C
  intro ws H locs ls hR hP hD hS hl
  obtain ⟨q, hq⟩ := hR.cell hσ
  refine va_iast hx hb hK hP hD hS q 0 hq rfl (iI_in h0 h1 hM) hd (fun H1 locs1 hP1 hD1 hS1 => ?_)
  rw [iI_c (by unfold rg; omega)] at hP1 hD1
  first | rw [upI_c] at hP1 hD1 | rw [vp_nar_i, upI_c] at hP1 hD1 | simp only [upI_c] at hP1 hD1
  exact K _ H1 locs1 ls (hR.set hD hq) hP1 hD1 hS1 hl
theorem n_zald (C : Ok g Φ cc own ret d mc ms) {a M : Nat} {f : Nat → Int} {j : Int} (hσ : σ a = some (eZ g.2.1 M f)) (h0 : 0 ≤ j) (h1 : j < M) (hM : M < 2147483648) (hd : decode cc pc = .ok (.baload, 1)) (K : N Φ k n σ (pc + 1) lv (iv (f j.toNat) :: st)) : N Φ k n σ pc lv (iv j :: .ref a :: st) := by
  obtain ⟨p, l, e, R, s, m, args, below, meth, c, A, κ, ε, nL, Q⟩ := Φ
  obtain ⟨rfl, hx, hb, hml, hown, hret, hts, hK, -⟩ := C
  intro ws H locs ls hR hP hD hS hl
  obtain ⟨q, hq⟩ := hR.cell hσ
  have K := K ws H locs ls hR hP hD hS hl
  refine va_zald hx hb hK hP q 1 hq rfl (iI_in h0 h1 hM) hd ?_
  rw [iI_c (by unfold rg; omega)]
  exact K
theorem n_zast (C : Ok g Φ cc own ret d mc ms) {a M : Nat} {f : Nat → Int} {j x : Int} (hσ : σ a = some (eZ g.2.1 M f)) (h0 : 0 ≤ j) (h1 : j < M) (hM : M < 2147483648) (hx01 : x = 0 ∨ x = 1) (hd : decode cc pc = .ok (.bastore, 1)) (K : N Φ k n (wup σ a (eZ g.2.1 M (upI f j.toNat x))) (pc + 1) lv st) : N Φ k n σ pc lv (iv x :: iv j :: .ref a :: st) := by
  obtain ⟨p, l, e, R, s, m, args, below, meth, c, A, κ, ε, nL, Q⟩ := Φ
  obtain ⟨rfl, hx, hb, hml, hown, hret, hts, hK, -⟩ := C
  intro ws H locs ls hR hP hD hS hl
  obtain ⟨q, hq⟩ := hR.cell hσ
  refine va_zast hx hb hK hP hD hS q 1 hq rfl (iI_in h0 h1 hM) hd (fun H1 locs1 hP1 hD1 hS1 => ?_)
  rw [iI_c (by unfold rg; omega), nar_z hx01, upI_c] at hP1 hD1
  exact K _ H1 locs1 ls (hR.set hD hq) hP1 hD1 hS1 hl
theorem n_lald (C : Ok g Φ cc own ret d mc ms) {a M : Nat} {f : Nat → Int64} {j : Int} (hσ : σ a = some (eJ g.2.1 M f)) (h0 : 0 ≤ j) (h1 : j < M) (hM : M < 2147483648) (hd : decode cc pc = .ok (.laload, 1)) (K : N Φ k n σ (pc + 1) lv (.long (f j.toNat) :: st)) : N Φ k n σ pc lv (iv j :: .ref a :: st) := by
  obtain ⟨p, l, e, R, s, m, args, below, meth, c, A, κ, ε, nL, Q⟩ := Φ
  obtain ⟨rfl, hx, hb, hml, hown, hret, hts, hK, -⟩ := C
  intro ws H locs ls hR hP hD hS hl
  obtain ⟨q, hq⟩ := hR.cell hσ
  have K := K ws H locs ls hR hP hD hS hl
  refine va_lald hx hb hK hP q 2 hq rfl (iI_in h0 h1 hM) hd ?_
  rw [iI_c (by unfold rg; omega)]
  exact K
theorem n_last (C : Ok g Φ cc own ret d mc ms) {a M : Nat} {f : Nat → Int64} {j : Int} {x : Int64} (hσ : σ a = some (eJ g.2.1 M f)) (h0 : 0 ≤ j) (h1 : j < M) (hM : M < 2147483648) (hd : decode cc pc = .ok (.lastore, 1)) (K : N Φ k n (wup σ a (eJ g.2.1 M (vp_updL f j.toNat x))) (pc + 1) lv st) : N Φ k n σ pc lv (.long x :: iv j :: .ref a :: st) := by
  obtain ⟨p, l, e, R, s, m, args, below, meth, c, A, κ, ε, nL, Q⟩ := Φ
  obtain ⟨rfl, hx, hb, hml, hown, hret, hts, hK, -⟩ := C
  intro ws H locs ls hR hP hD hS hl
  obtain ⟨q, hq⟩ := hR.cell hσ
  refine va_last hx hb hK hP hD hS q 2 hq rfl (iI_in h0 h1 hM) hd (fun H1 locs1 hP1 hD1 hS1 => ?_)
  rw [iI_c (by unfold rg; omega)] at hP1 hD1
  exact K _ H1 locs1 ls (hR.set hD hq) hP1 hD1 hS1 hl
theorem n_aaldO (C : Ok g Φ cc own ret d mc ms) {a M : Nat} {f : Nat → Option Nat} {j : Int} (hσ : σ a = some (eO g.2.1 M f)) (h0 : 0 ≤ j) (h1 : j < M) (hM : M < 2147483648) (hd : decode cc pc = .ok (.aaload, 1)) (K : N Φ k n σ (pc + 1) lv (va_rf (f j.toNat) :: st)) : N Φ k n σ pc lv (iv j :: .ref a :: st) := by
  obtain ⟨p, l, e, R, s, m, args, below, meth, c, A, κ, ε, nL, Q⟩ := Φ
  obtain ⟨rfl, hx, hb, hml, hown, hret, hts, hK, -⟩ := C
  intro ws H locs ls hR hP hD hS hl
  obtain ⟨q, hq⟩ := hR.cell hσ
  have K := K ws H locs ls hR hP hD hS hl
  refine va_aldq hx hb hK hP q 3 hq rfl (iI_in h0 h1 hM) hd ?_
  rw [iI_c (by unfold rg; omega)]
  exact K
theorem n_aaldC (C : Ok g Φ cc own ret d mc ms) {a M : Nat} {f : Nat → Option Nat} {j : Int} (hσ : σ a = some (eC g.2.1 M f)) (h0 : 0 ≤ j) (h1 : j < M) (hM : M < 2147483648) (hd : decode cc pc = .ok (.aaload, 1)) (K : N Φ k n σ (pc + 1) lv (va_rf (f j.toNat) :: st)) : N Φ k n σ pc lv (iv j :: .ref a :: st) := by
  obtain ⟨p, l, e, R, s, m, args, below, meth, c, A, κ, ε, nL, Q⟩ := Φ
  obtain ⟨rfl, hx, hb, hml, hown, hret, hts, hK, -⟩ := C
  intro ws H locs ls hR hP hD hS hl
  obtain ⟨q, hq⟩ := hR.cell hσ
  have K := K ws H locs ls hR hP hD hS hl
  refine va_aldq hx hb hK hP q 4 hq rfl (iI_in h0 h1 hM) hd ?_
  rw [iI_c (by unfold rg; omega)]
  exact K
/-- a cue, or nothing, into a row of cues -/
theorem n_aastC (C : Ok g Φ cc own ret d mc ms) {a M : Nat} {f : Nat → Option Nat} {j : Int} {r : Option Nat} (hσ : σ a = some (eC g.2.1 M f)) (hr : ∀ y, r = some y → ∃ fs, σ y = some (.inr (3, fs))) (h0 : 0 ≤ j) (h1 : j < M) (hM : M < 2147483648) (hd : decode cc pc = .ok (.aastore, 1)) (K : N Φ k n (wup σ a (eC g.2.1 M (va_up f j.toNat r))) (pc + 1) lv st) : N Φ k n σ pc lv (va_rf r :: iv j :: .ref a :: st) := by
  obtain ⟨p, l, e, R, s, m, args, below, meth, c, A, κ, ε, nL, Q⟩ := Φ
  obtain ⟨rfl, hx, hb, hml, hown, hret, hts, hK, -⟩ := C
  intro ws H locs ls hR hP hD hS hl
  obtain ⟨q, hq⟩ := hR.cell hσ
  cases r with
  | none =>
    refine va_astqN (C := "OperaMachines$Cue") hx hb hK hP hD hS q 4 hq rfl (iI_in h0 h1 hM) hd (fun H1 locs1 hP1 hD1 hS1 => ?_)
    rw [iI_c (by unfold rg; omega)] at hP1 hD1
    exact K _ H1 locs1 ls (hR.set hD hq) hP1 hD1 hS1 hl
  | some y =>
    obtain ⟨fs, hy⟩ := hr y rfl
    obtain ⟨q2, hq2⟩ := hR.cell hy
    refine va_astq (r := (RX0, TX0, 6)) (ci := 3) hx hb hK hP hD hS q 4 q2 hq rfl hq2 rfl (iI_in h0 h1 hM) hd (fun H1 locs1 hP1 hD1 hS1 => ?_)
    rw [iI_c (by unfold rg; omega)] at hP1 hD1
    exact K _ H1 locs1 ls (hR.set hD hq) hP1 hD1 hS1 hl
/-- an object of a class that can be an Object into a row of Objects -/
theorem n_aastO (C : Ok g Φ cc own ret d mc ms) {a M : Nat} {f : Nat → Option Nat} {j : Int} {y ci : Nat} {fs : List Value} {r : vw_C} (hσ : σ a = some (eO g.2.1 M f)) (hy : σ y = some (.inr (ci, fs))) (hc : vwCl[ci]? = some r) (hca : Cond.castable r.1 "java/lang/Object" ∈ GT) (h0 : 0 ≤ j) (h1 : j < M) (hM : M < 2147483648) (hd : decode cc pc = .ok (.aastore, 1)) (K : N Φ k n (wup σ a (eO g.2.1 M (va_up f j.toNat (some y)))) (pc + 1) lv st) : N Φ k n σ pc lv (.ref y :: iv j :: .ref a :: st) := by
  obtain ⟨p, l, e, R, s, m, args, below, meth, c, A, κ, ε, nL, Q⟩ := Φ
  obtain ⟨rfl, hx, hb, hml, hown, hret, hts, hK, -⟩ := C
  intro ws H locs ls hR hP hD hS hl
  obtain ⟨q, hq⟩ := hR.cell hσ
  obtain ⟨q2, hq2⟩ := hR.cell hy
  refine va_astqO (E := "java/lang/Object") hx hb hK hP hD hS q 3 q2 ci hq rfl (va_any rfl (hts _ hca)) hq2 hc (iI_in h0 h1 hM) hd (fun H1 locs1 hP1 hD1 hS1 => ?_)
  rw [iI_c (by unfold rg; omega)] at hP1 hD1
  exact K _ H1 locs1 ls (hR.set hD hq) hP1 hD1 hS1 hl
theorem n_alenO (C : Ok g Φ cc own ret d mc ms) {a M : Nat} {f : Nat → Option Nat} (hσ : σ a = some (eO g.2.1 M f)) (hd : decode cc pc = .ok (.arraylength, 1)) (K : N Φ k n σ (pc + 1) lv (iv M :: st)) : N Φ k n σ pc lv (.ref a :: st) := by
  obtain ⟨p, l, e, R, s, m, args, below, meth, c, A, κ, ε, nL, Q⟩ := Φ
  obtain ⟨rfl, hx, hb, hml, hown, hret, hts, hK, -⟩ := C
  intro ws H locs ls hR hP hD hS hl
  obtain ⟨q, hq⟩ := hR.cell hσ
  exact va_alen hx hb hK hP q 3 hq rfl (v := iI M) (iI_n M).symm hd (K ws H locs ls hR hP hD hS hl)
theorem n_alenC (C : Ok g Φ cc own ret d mc ms) {a M : Nat} {f : Nat → Option Nat} (hσ : σ a = some (eC g.2.1 M f)) (hd : decode cc pc = .ok (.arraylength, 1)) (K : N Φ k n σ (pc + 1) lv (iv M :: st)) : N Φ k n σ pc lv (.ref a :: st) := by
  obtain ⟨p, l, e, R, s, m, args, below, meth, c, A, κ, ε, nL, Q⟩ := Φ
  obtain ⟨rfl, hx, hb, hml, hown, hret, hts, hK, -⟩ := C
  intro ws H locs ls hR hP hD hS hl
  obtain ⟨q, hq⟩ := hR.cell hσ
  exact va_alen hx hb hK hP q 4 hq rfl (v := iI M) (iI_n M).symm hd (K ws H locs ls hR hP hD hS hl)
/-- the empty row that a new list holds -/
theorem n_alenE (C : Ok g Φ cc own ret d mc ms) (hd : decode cc pc = .ok (.arraylength, 1)) (K : N Φ k n σ (pc + 1) lv (iv 0 :: st)) : N Φ k n σ pc lv (.ref g.2.2.1 :: st) := by
  obtain ⟨p, l, e, R, s, m, args, below, meth, c, A, κ, ε, nL, Q⟩ := Φ
  obtain ⟨rfl, hx, hb, hml, hown, hret, hts, hK, hlk, hA, hE, -⟩ := C
  intro ws H locs ls hR hP hD hS hl
  exact va_tlen hx hb hE.2.1 hS (v := iI 0) rfl hd (K ws H locs ls hR hP hD hS hl)
theorem n_getsE (C : Ok g Φ cc "java/util/ArrayList" ret d mc ms) {idx : Nat} (hw : Cond.fieldLink "java/util/ArrayList" idx "java/util/ArrayList" "DEFAULTCAPACITY_EMPTY_ELEMENTDATA" "[Ljava/lang/Object;" ∈ GT) (hd : decode cc pc = .ok (.getstatic idx, 3)) (K : N Φ k n σ (pc + 3) lv (.ref g.2.2.1 :: st)) : N Φ k n σ pc lv st := by
  obtain ⟨p, l, e, R, s, m, args, below, meth, c, A, κ, ε, nL, Q⟩ := Φ
  obtain ⟨rfl, hx, hb, hml, hown, hret, hts, hK, hlk, hA, hE, -⟩ := C
  intro ws H locs ls hR hP hD hS hl
  exact va_gets hx hb hE.1 hS hown (hts _ hw) (fun x h => h) hd (K ws H locs ls hR hP hD hS hl)
/-- the address that a row's make takes is new -/
theorem n_new (C : Ok g Φ cc own ret d mc ms) {cls : String} {T : u_T} {M ci idx : Nat} (fs : List Value) (hc : vwCl[ci]? = some (cls, T, M)) (hin : fG cls T M) (ty : Nat → FieldType) (hty : ∀ k, k < M → parseFieldDescriptor (T k).2.2.1 = some (ty k)) (hw1 : Cond.classLink own idx cls ∈ GT) (hw2 : Cond.instantiable cls M ∈ GT) (hw3 : Cond.initialized cls ∈ GT) (hfs : ∀ j, j < M → defaultValue (ty j) = vp_V fs j) (h1 : k + 1 ≤ mc) (h2 : n + M ≤ ms) (hd : decode cc pc = .ok (.new idx, 3)) (K : ∀ q : Nat, σ q = none → N Φ (k + 1) (n + M) (wup σ q (.inr (ci, fs))) (pc + 3) lv (.ref q :: st)) : N Φ k n σ pc lv st := by
  obtain ⟨p, l, e, R, s, m, args, below, meth, c, A, κ, ε, nL, Q⟩ := Φ
  obtain ⟨rfl, hx, hb, hml, hown, hret, hts, hK, hlk, hA, hE, hst, hR1, hR2, rfl, rfl⟩ := C
  intro ws H locs ls hR hP hD hS hl
  refine va_new hx hb hts hin ty hty hown (hts _ hw1) (hts _ hw2) (hts _ hw3) hK hP hD hS hA hc hfs h1 h2 hd (fun q H1 hP1 hD1 hS1 => ?_)
  have hq : σ q = none := by
    cases h : σ q with
    | none => rfl
    | some e =>
      obtain ⟨j, hj⟩ := hR.cell h
      have hl' := (List.getElem?_eq_some_iff.mp hj).1
      have := hD1.1 j ws.length (q, e) (q, .inr (ci, fs)) (by rw [List.getElem?_append_left hl']; exact hj) (by rw [List.getElem?_append_right (Nat.le_refl _), Nat.sub_self]; rfl) rfl
      omega
  exact K q hq _ H1 locs ls (hR.push hD1) hP1 hD1 hS1 hl
end NK3
end
section
/-! ===== BEGIN a constructor that throws (launches without stack traces) ===== -/
section VXIA
variable {p : Program} {l : Launch} {e : Env} {R : Room} {s : State} {m : MethodId} {args : Array Value} {below : List Frame} {meth : Method} {c : Code} {T : State} {locs : List Loc} {cells slots : Nat}
theorem vx_callI (X : Stand p l e R s m args below meth c T locs cells slots) (hexec : p.tables.exec = Jvm.exec) {own : String} {index : Nat} {y : MethodName} {bytes : ByteArray} {maxL : Nat}
    (hown : s.vm.findClass own = some m.cls) (hy1 : y.name = "<init>") (hlink : (Cond.methodLink own index y).before args s = true) (hinst : (Cond.instanceMethod y).before args s = true)
    (hcode : (Cond.code y bytes maxL none).before args s = true) (hy : y.cls ≠ "java/lang/invoke/MethodHandle" ∧ y.cls ≠ "java/lang/invoke/VarHandle")
    {W9 : Nat} {Pre : Pt → Array Value → Prop} {Post : Pt → Array Value → Option Value → Pt → Prop} {PostX : Pt → Array Value → Addr → Pt → Prop} (hK : vx_Back l R p e below s args y 3 W9 Pre Post PostX)
    {g : JFrame} (hg : g.method = m) (hsize : g.locals.size = c.maxLocals) {a : Addr} {argsL rest : List Value} (hlen : ∀ sig, parseMethodDescriptor y.desc = some sig → argsL.length = sig.parameters.length)
    (hstack : g.stack = argsL.reverse ++ .ref a :: rest) (hW : 2 * g.monitorRoom + (rest.map fun v => v.category).sum ≤ W9) (hdg : decode c.code g.pc = .ok (.invokespecial index, 3))
    (hpre : ∀ vm₁, s.WarmedH vm₁ → Pre ⟨T.setVm vm₁, locs, cells, slots⟩ (Value.ref a :: argsL).toArray) :
    (∃ (v : Option Value) (vm₁ : Vm) (B : Pt), s.WarmedH vm₁ ∧ Stand p l e R s m args below meth c B.U B.locs B.cells B.slots ∧ Post ⟨T.setVm vm₁, locs, cells, slots⟩ (Value.ref a :: argsL).toArray v B ∧
      ∀ target, Steps p.tables e below (B.U.setTop { g with pc := g.pc + 3, stack := v.toList ++ rest }) target → Steps p.tables e below (T.setTop g) target) ∨
    (∃ (q : Addr) (vm₁ : Vm) (B : Pt), s.WarmedH vm₁ ∧ Stand p l e R s m args below meth c B.U B.locs B.cells B.slots ∧ PostX ⟨T.setVm vm₁, locs, cells, slots⟩ (Value.ref a :: argsL).toArray q B ∧
      Steps p.tables e below (T.setTop g) ((B.U.setTop { g with stack := rest }).pushFrame (.throwing q))) := by
  subst hg
  have hpl : e.platform.magicAccessors = ({} : Platform).magicAccessors := by rw [X.admits.platform]
  obtain ⟨mk, methM, cM, kP, vm₁, hnamed, hmethM, hcodeM, -, hlocalsM, -, hkP, -, hW₁, hstep₁⟩ := Steps.initColdArgs (e := e) X.here hexec X.warmed hpl hown hy1 hy hlink hinst hcode (f := g) rfl hlen hstack hdg
  have X₁ := X.noted hW₁
  rcases hK g.method meth c ⟨T.setVm vm₁, locs, cells, slots⟩ { g with stack := rest } (.invokespecial index) mk (Value.ref a :: argsL).toArray X₁ rfl hsize hdg hW (X₁.named hnamed) (hpre vm₁ X₁.warmed) with ⟨v, B, X', hpost, hsteps⟩ | ⟨q, B, X', hpost, hsteps⟩
  · exact Or.inl ⟨v, vm₁, B, X₁.warmed, X', hpost, fun target h => hstep₁ _ fun acts => by rw [doInvoke_state]; exact hsteps.trans h⟩
  · exact Or.inr ⟨q, vm₁, B, X₁.warmed, X', hpost, hstep₁ _ fun acts => by rw [doInvoke_state]; exact hsteps⟩
end VXIA
section VXIB
variable {p : Program} {l : Launch} {e : Env} {R : Room} {s : State} {m : MethodId} {args : Array Value} {below : List Frame} {meth : Method} {c : Code} {H : Heap} {locs : List Loc} {cells slots : Nat}
variable {y : MethodName} {bytes cc : ByteArray} {maxL nL mc ms n index : Nat} {ret : Option FieldType} {ws : List Cond} {rm : Room} {Pc : Array Value → State → Prop} {Qc : Array Value → State → Outcome → State → Prop} {XC : String → State → State → Prop} {free : Addr → Prop} {Ts : List Cond} {own C : String} {b : Addr} {As rest : List Value} {g : JFrame}
theorem vx_runI (S : CallFix p m c cc nL s args Ts own) (hM : vx_Met l y ws rm Pc Qc XC mc ms free) (cw : CallB R s args own index y bytes maxL none ws rm mc ms n ∧ y.name = "<init>" ∧ (Cond.instanceMethod y).before args s = true) (hp : PreS s H Pc (.ref b :: As))
    (hg : g.method = m) (hn : As.length = n) (hsize : g.locals.size = nL) (hstack : g.stack = As.reverse ++ .ref b :: rest) (hW : 2 * g.monitorRoom + (rest.map fun v => v.category).sum ≤ 8) (hdg : decode cc g.pc = .ok (.invokespecial index, 3)) (hf : cells + mc ≤ R.cells ∧ slots + ms ≤ R.slots) :
    vx_Run p l e R s m args below meth c H locs cells slots mc ms g rest (Qc (Value.ref b :: As).toArray) XC free := by
  have hK : vx_Back l R p e below s args y 3 8 (PreOf R mc ms Pc) (PostOf Qc mc ms free) (vx_Post XC mc ms free) := vx_callBack cw.1 hM hp.1
  obtain ⟨⟨-, -, -, -, -, -, hcode, -, hy, hlen, hl⟩, hy1, hin⟩ := cw
  obtain ⟨hx, hb, hml, ho, -⟩ := S
  have hPc := hp.2
  intro T hT X
  rcases vx_callI X hx (bytes := bytes) (maxL := maxL) ho hy1 hl hin hcode hy hK hg (hsize.trans hml.symm) (a := b) (argsL := As) (rest := rest) (fun sig h => hn.trans (hlen sig h)) hstack hW (by rw [hb]; exact hdg)
    (fun vm₁ hW₁ => ⟨hf.1, hf.2, hPc (T.setVm vm₁) hT hW₁⟩) with ⟨v, vm₁, ⟨U', l2, c2, s2⟩, hW₁, X', ⟨g', mk, t, L, e1, e2, hq, h1, hL, h2, h3⟩, st⟩ | ⟨q, vm₁, ⟨U', l2, c2, s2⟩, hW₁, X', ⟨g', mk, t, L, E, ce, e1, e2, hq, hce, hcv, hcl, h1, hL, h2, h3⟩, st⟩
  · dsimp only [Pt.U, Pt.locs, Pt.cells, Pt.slots] at X' e1 e2 h1 h2 h3 st
    subst h1; subst h2; subst h3
    exact Or.inl ⟨v, (T.setVm vm₁).calling g' mk (Value.ref b :: As).toArray, t, U', L, hT, X', hL, e1, e2, hq, st⟩
  · dsimp only [Pt.U, Pt.locs, Pt.cells, Pt.slots] at X' e1 e2 h1 h2 h3 st hcl
    subst h1; subst h2; subst h3
    exact Or.inr ⟨q, (T.setVm vm₁).calling g' mk (Value.ref b :: As).toArray, t, U', L, E, ce, hT, X', hL, e1, e2, hq, hce, hcv, vx_cls hW₁ hcl, st⟩
end VXIB
/-! ===== END ===== -/
section NK4
variable {g : Gx} {Φ : Fx} {cc : ByteArray} {own : String} {ret : Option FieldType} {d mc ms k n : Nat} {σ : Wd} {pc : Nat} {lv lv' : List (Nat × Value)} {st : List Value} {Po : Option Value → Wd → Prop} {Px : String → Wd → Prop} {σ0 : Wd}
theorem n_fresh {A : Nat → Prop} {ws : va_W} {q : Nat} {e : va_E} (hR : wR σ ws) (hD : va_D A (ws ++ [(q, e)])) : σ q = none := by
  cases h : σ q with
  | none => rfl
  | some e' =>
    obtain ⟨j, hj⟩ := hR.cell h
    have hl' := (List.getElem?_eq_some_iff.mp hj).1
    have := hD.1 j ws.length (q, e') (q, e) (by rw [List.getElem?_append_left hl']; exact hj) (by rw [List.getElem?_append_right (Nat.le_refl _), Nat.sub_self]; rfl) rfl
    omega
theorem n_newI (C : Ok g Φ cc own ret d mc ms) {M : Nat} (hM : M ≤ 100000) (hw : Cond.arrayClass .int ∈ GT) (h1 : k + 1 ≤ mc) (h2 : n + M ≤ ms) (hd : decode cc pc = .ok (.newarray .int, 2)) (K : ∀ q : Nat, σ q = none → N Φ (k + 1) (n + M) (wup σ q (eI g.2.1 M (fun _ => 0))) (pc + 2) lv (.ref q :: st)) : N Φ k n σ pc lv (iv M :: st) := by
  obtain ⟨p, l, e, R, s, m, args, below, meth, c, A, κ, ε, nL, Q⟩ := Φ
  obtain ⟨rfl, hx, hb, hml, hown, hret, hts, hK, hlk, hA, hE, hst, hR1, hR2, rfl, rfl⟩ := C
  intro ws H locs ls hR hP hD hS hl
  have hr : rg (M : Int) := by unfold rg; omega
  refine va_newa (atype := .int) (ty := .int) (N' := M) (a0 := (M, .inl (fun _ => iI 0))) hx hb (hts _ hw) rfl hK hP hD hS hA (fun _ => rfl) (fun h => by have := (iI_lt hr rg_0).mp h; omega) (by rw [iI_c hr]; omega) (by show M * 4 ≤ _; omega) h1 h2 hd (fun q cA H1 hK1 hP1 hD1 hS1 => ?_)
  have e1 : s.vm.findClass "[I" = some cA := (hK1.2 5 (cA, .int) rfl).2
  have e2 : s.vm.findClass "[I" = some (kI κ) := (hK.2 0 (kI κ, .int) rfl).2
  have e3 : cA = kI κ := Option.some.inj (e1.symm.trans e2)
  subst e3
  exact K q (n_fresh hR hD1) _ H1 locs ls (hR.push hD1) hP1 hD1 hS1 hl
theorem n_newZ (C : Ok g Φ cc own ret d mc ms) {M : Nat} (hM : M ≤ 100000) (hw : Cond.arrayClass .boolean ∈ GT) (h1 : k + 1 ≤ mc) (h2 : n + M ≤ ms) (hd : decode cc pc = .ok (.newarray .boolean, 2)) (K : ∀ q : Nat, σ q = none → N Φ (k + 1) (n + M) (wup σ q (eZ g.2.1 M (fun _ => 0))) (pc + 2) lv (.ref q :: st)) : N Φ k n σ pc lv (iv M :: st) := by
  obtain ⟨p, l, e, R, s, m, args, below, meth, c, A, κ, ε, nL, Q⟩ := Φ
  obtain ⟨rfl, hx, hb, hml, hown, hret, hts, hK, hlk, hA, hE, hst, hR1, hR2, rfl, rfl⟩ := C
  intro ws H locs ls hR hP hD hS hl
  have hr : rg (M : Int) := by unfold rg; omega
  refine va_newa (atype := .boolean) (ty := .boolean) (N' := M) (a0 := (M, .inl (fun _ => iI 0))) hx hb (hts _ hw) rfl hK hP hD hS hA (fun _ => rfl) (fun h => by have := (iI_lt hr rg_0).mp h; omega) (by rw [iI_c hr]; omega) (by show M * 1 ≤ _; omega) h1 h2 hd (fun q cA H1 hK1 hP1 hD1 hS1 => ?_)
  have e1 : s.vm.findClass "[Z" = some cA := (hK1.2 5 (cA, .boolean) rfl).2
  have e2 : s.vm.findClass "[Z" = some (kZ κ) := (hK.2 1 (kZ κ, .boolean) rfl).2
  have e3 : cA = kZ κ := Option.some.inj (e1.symm.trans e2)
  subst e3
  exact K q (n_fresh hR hD1) _ H1 locs ls (hR.push hD1) hP1 hD1 hS1 hl
theorem n_newJ (C : Ok g Φ cc own ret d mc ms) {M : Nat} (hM : M ≤ 100000) (hw : Cond.arrayClass .long ∈ GT) (h1 : k + 1 ≤ mc) (h2 : n + M ≤ ms) (hd : decode cc pc = .ok (.newarray .long, 2)) (K : ∀ q : Nat, σ q = none → N Φ (k + 1) (n + M) (wup σ q (eJ g.2.1 M (fun _ => 0))) (pc + 2) lv (.ref q :: st)) : N Φ k n σ pc lv (iv M :: st) := by
  obtain ⟨p, l, e, R, s, m, args, below, meth, c, A, κ, ε, nL, Q⟩ := Φ
  obtain ⟨rfl, hx, hb, hml, hown, hret, hts, hK, hlk, hA, hE, hst, hR1, hR2, rfl, rfl⟩ := C
  intro ws H locs ls hR hP hD hS hl
  have hr : rg (M : Int) := by unfold rg; omega
  refine va_newa (atype := .long) (ty := .long) (N' := M) (a0 := (M, .inr (.inl (fun _ => 0)))) hx hb (hts _ hw) rfl hK hP hD hS hA (fun _ => rfl) (fun h => by have := (iI_lt hr rg_0).mp h; omega) (by rw [iI_c hr]; omega) (by show M * 8 ≤ _; omega) h1 h2 hd (fun q cA H1 hK1 hP1 hD1 hS1 => ?_)
  have e1 : s.vm.findClass "[J" = some cA := (hK1.2 5 (cA, .long) rfl).2
  have e2 : s.vm.findClass "[J" = some (kJ κ) := (hK.2 2 (kJ κ, .long) rfl).2
  have e3 : cA = kJ κ := Option.some.inj (e1.symm.trans e2)
  subst e3
  exact K q (n_fresh hR hD1) _ H1 locs ls (hR.push hD1) hP1 hD1 hS1 hl
theorem n_newO (C : Ok g Φ cc own ret d mc ms) {M idx : Nat} (hM : M ≤ 100000) (hw : Cond.classLink own idx "java/lang/Object" ∈ GT) (h1 : k + 1 ≤ mc) (h2 : n + M ≤ ms) (hd : decode cc pc = .ok (.anewarray idx, 3)) (K : ∀ q : Nat, σ q = none → N Φ (k + 1) (n + M) (wup σ q (eO g.2.1 M (fun _ => none))) (pc + 3) lv (.ref q :: st)) : N Φ k n σ pc lv (iv M :: st) := by
  obtain ⟨p, l, e, R, s, m, args, below, meth, c, A, κ, ε, nL, Q⟩ := Φ
  obtain ⟨rfl, hx, hb, hml, hown, hret, hts, hK, hlk, hA, hE, hst, hR1, hR2, rfl, rfl⟩ := C
  intro ws H locs ls hR hP hD hS hl
  have hr : rg (M : Int) := by unfold rg; omega
  refine va_newq (C := "java/lang/Object") (N' := M) hx hb hown (hts _ hw) hE.2.2.2.2.1 hK hP hD hS hA (fun h => by have := (iI_lt hr rg_0).mp h; omega) (by rw [iI_c hr]; omega) (by omega) h1 h2 hd (fun q cA H1 hK1 hP1 hD1 hS1 => ?_)
  obtain ⟨-, -, -, -, -, e1⟩ := (hK1.2 5 (cA, .object "java/lang/Object") rfl).2
  obtain ⟨-, -, -, -, -, e2⟩ := (hK.2 3 (kO κ, .object "java/lang/Object") rfl).2
  have e3 : cA = kO κ := Option.some.inj (e1.symm.trans e2)
  subst e3
  exact K q (n_fresh hR hD1) _ H1 locs ls (hR.push hD1) hP1 hD1 hS1 hl
theorem n_newC (C : Ok g Φ cc own ret d mc ms) {M idx : Nat} (hM : M ≤ 100000) (hw : Cond.classLink own idx "OperaMachines$Cue" ∈ GT) (h1 : k + 1 ≤ mc) (h2 : n + M ≤ ms) (hd : decode cc pc = .ok (.anewarray idx, 3)) (K : ∀ q : Nat, σ q = none → N Φ (k + 1) (n + M) (wup σ q (eC g.2.1 M (fun _ => none))) (pc + 3) lv (.ref q :: st)) : N Φ k n σ pc lv (iv M :: st) := by
  obtain ⟨p, l, e, R, s, m, args, below, meth, c, A, κ, ε, nL, Q⟩ := Φ
  obtain ⟨rfl, hx, hb, hml, hown, hret, hts, hK, hlk, hA, hE, hst, hR1, hR2, rfl, rfl⟩ := C
  intro ws H locs ls hR hP hD hS hl
  have hr : rg (M : Int) := by unfold rg; omega
  refine va_newq (C := "OperaMachines$Cue") (N' := M) hx hb hown (hts _ hw) hE.2.2.2.2.2.1 hK hP hD hS hA (fun h => by have := (iI_lt hr rg_0).mp h; omega) (by rw [iI_c hr]; omega) (by omega) h1 h2 hd (fun q cA H1 hK1 hP1 hD1 hS1 => ?_)
  obtain ⟨-, -, -, -, -, e1⟩ := (hK1.2 5 (cA, .object "OperaMachines$Cue") rfl).2
  obtain ⟨-, -, -, -, -, e2⟩ := (hK.2 4 (kC κ, .object "OperaMachines$Cue") rfl).2
  have e3 : cA = kC κ := Option.some.inj (e1.symm.trans e2)
  subst e3
  exact K q (n_fresh hR hD1) _ H1 locs ls (hR.push hD1) hP1 hD1 hS1 hl
theorem n_cast (C : Ok g Φ cc own ret d mc ms) {a ci idx : Nat} {fs : List Value} {r : vw_C} (hσ : σ a = some (.inr (ci, fs))) (hc : vwCl[ci]? = some r) (hw : Cond.classLink own idx r.1 ∈ GT) (hd : decode cc pc = .ok (.checkcast idx, 3)) (K : N Φ k n σ (pc + 3) lv (.ref a :: st)) : N Φ k n σ pc lv (.ref a :: st) := by
  obtain ⟨p, l, e, R, s, m, args, below, meth, c, A, κ, ε, nL, Q⟩ := Φ
  obtain ⟨rfl, hx, hb, hml, hown, hret, hts, hK, -⟩ := C
  intro ws H locs ls hR hP hD hS hl
  obtain ⟨q, hq⟩ := hR.cell hσ
  exact va_castS hx hb hown (hts _ hw) (hK.1 ci r hc).2 (va_recv hK hP hc hq) hd (K ws H locs ls hR hP hD hS hl)
theorem n_objInit (C : Ok g Φ cc own ret d mc ms) {a idx : Nat} (hw1 : Cond.methodLink own idx Lib.objectInit ∈ GT) (hw2 : Cond.instanceMethod Lib.objectInit ∈ GT) (hw3 : Cond.code Lib.objectInit ⟨#[0xb1]⟩ 1 none ∈ GT) (hs : (st.map fun v => v.category).sum ≤ 100) (hd : decode cc pc = .ok (.invokespecial idx, 3)) (K : N Φ k n σ (pc + 3) lv st) : N Φ k n σ pc lv (.ref a :: st) := by
  obtain ⟨p, l, e, R, s, m, args, below, meth, c, A, κ, ε, nL, Q⟩ := Φ
  obtain ⟨rfl, hx, hb, hml, hown, hret, hts, hK, hlk, hA, hE, hst, hR1, hR2, rfl, rfl⟩ := C
  intro ws H locs ls hR hP hD hS hl
  refine W.objInit hx hb hown (hts _ hw1) (hts _ hw2) (hts _ hw3) rfl (by rw [hml]; exact hl.1) rfl hd (by omega) ?_ ?_
  · show 2 * 0 + _ + 12 ≤ R.locals
    omega
  · exact K ws H locs ls hR hP hD hS hl
theorem n_max (C : Ok g Φ cc own ret d mc ms) {x y : Int} {idx : Nat} (hx' : rg x) (hy' : rg y) (hw1 : Cond.methodLink own idx Lib.Math.max.name ∈ GT) (hw2 : Cond.static Lib.Math.max.name ∈ GT) (hw3 : Cond.initialized "java/lang/Math" ∈ GT) (hw4 : Cond.code Lib.Math.max.name Lib.Math.max.code 2 (some .int) ∈ GT) (hs : (st.map fun v => v.category).sum ≤ 100) (h1 : k ≤ mc) (h2 : n ≤ ms) (hd : decode cc pc = .ok (.invokestatic idx, 3)) (K : N Φ k n σ (pc + 3) lv (iv (max x y) :: st)) : N Φ k n σ pc lv (iv y :: iv x :: st) := by
  obtain ⟨p, l, e, R, s, m, args, below, meth, c, A, κ, ε, nL, Q⟩ := Φ
  obtain ⟨rfl, hx, hb, hml, hown, hret, hts, hK, hlk, hA, hE, hst, hR1, hR2, rfl, rfl⟩ := C
  intro ws H locs ls hR hP hD hS hl
  refine va_mmax hx hb (by rw [hml]; exact hl.1.symm) hown (hts _ hw1) (hts _ hw2) (hts _ hw3) (hts _ hw4) (by omega) (by omega) h1 h2 hd ?_
  have e1 : (if iI x < iI y then iI y else iI x) = iI (max x y) := by
    by_cases q : x < y
    · rw [if_pos ((iI_lt hx' hy').mpr q), show max x y = y by omega]
    · rw [if_neg (mt (iI_lt hx' hy').mp q), show max x y = x by omega]
  rw [e1]
  exact K ws H locs ls hR hP hD hS hl
theorem n_min (C : Ok g Φ cc own ret d mc ms) {x y : Int} {idx : Nat} (hx' : rg x) (hy' : rg y) (hw1 : Cond.methodLink own idx Lib.Math.min.name ∈ GT) (hw2 : Cond.static Lib.Math.min.name ∈ GT) (hw3 : Cond.initialized "java/lang/Math" ∈ GT) (hw4 : Cond.code Lib.Math.min.name Lib.Math.min.code 2 (some .int) ∈ GT) (hs : (st.map fun v => v.category).sum ≤ 100) (h1 : k ≤ mc) (h2 : n ≤ ms) (hd : decode cc pc = .ok (.invokestatic idx, 3)) (K : N Φ k n σ (pc + 3) lv (iv (min x y) :: st)) : N Φ k n σ pc lv (iv y :: iv x :: st) := by
  obtain ⟨p, l, e, R, s, m, args, below, meth, c, A, κ, ε, nL, Q⟩ := Φ
  obtain ⟨rfl, hx, hb, hml, hown, hret, hts, hK, hlk, hA, hE, hst, hR1, hR2, rfl, rfl⟩ := C
  intro ws H locs ls hR hP hD hS hl
  refine va_mmin hx hb (by rw [hml]; exact hl.1.symm) hown (hts _ hw1) (hts _ hw2) (hts _ hw3) (hts _ hw4) (by omega) (by omega) h1 h2 hd ?_
  have e1 : (if iI y < iI x then iI y else iI x) = iI (min x y) := by
    by_cases q : y < x
    · rw [if_pos ((iI_lt hy' hx').mpr q), show min x y = y by omega]
    · rw [if_neg (mt (iI_lt hy' hx').mp q), show min x y = x by omega]
  rw [e1]
  exact K ws H locs ls hR hP hD hS hl
theorem n_abs (C : Ok g Φ cc own ret d mc ms) {x : Int} {idx : Nat} (hx' : rg x) (hw1 : Cond.methodLink own idx Lib.Math.abs.name ∈ GT) (hw2 : Cond.static Lib.Math.abs.name ∈ GT) (hw3 : Cond.initialized "java/lang/Math" ∈ GT) (hw4 : Cond.code Lib.Math.abs.name Lib.Math.abs.code 1 (some .int) ∈ GT) (hs : (st.map fun v => v.category).sum ≤ 100) (h1 : k ≤ mc) (h2 : n ≤ ms) (hd : decode cc pc = .ok (.invokestatic idx, 3)) (K : N Φ k n σ (pc + 3) lv (iv (if 0 ≤ x then x else -x) :: st)) : N Φ k n σ pc lv (iv x :: st) := by
  obtain ⟨p, l, e, R, s, m, args, below, meth, c, A, κ, ε, nL, Q⟩ := Φ
  obtain ⟨rfl, hx, hb, hml, hown, hret, hts, hK, hlk, hA, hE, hst, hR1, hR2, rfl, rfl⟩ := C
  intro ws H locs ls hR hP hD hS hl
  refine va_mabs hx hb (by rw [hml]; exact hl.1.symm) hown (hts _ hw1) (hts _ hw2) (hts _ hw3) (hts _ hw4) (by omega) (by omega) h1 h2 hd ?_
  have e1 : (if 0 ≤ iI x then iI x else 0 - iI x) = iI (if 0 ≤ x then x else -x) := by
    by_cases q : 0 ≤ x
    · show (if iI 0 ≤ iI x then iI x else iI 0 - iI x) = _
      rw [if_pos ((iI_le rg_0 hx').mpr q), if_pos q]
    · show (if iI 0 ≤ iI x then iI x else iI 0 - iI x) = _
      rw [if_neg (mt (iI_le rg_0 hx').mp q), if_neg q, iI_sub, Int.zero_sub]
  rw [e1]
  exact K ws H locs ls hR hP hD hS hl
theorem n_ireturn {ty : FieldType} (C : Ok g Φ cc own (some ty) d mc ms) (Rr : Rt Φ σ0 Po Px mc ms) {x : Int} (hn : narrow ty (iv x) = iv x) (hp : Po (some (iv x)) σ) (h1 : k ≤ mc) (h2 : n ≤ ms) (hd : decode cc pc = .ok (.ireturn, 1)) : N Φ k n σ pc lv [iv x] := by
  obtain ⟨p, l, e, R, s, m, args, below, meth, c, A, κ, ε, nL, Q⟩ := Φ
  obtain ⟨rfl, hx, hb, hml, hown, hret, hts, hK, hlk, -⟩ := C
  obtain ⟨rfl, rfl, -⟩ := Rr
  intro ws H locs ls hR hP hD hS hl
  refine W.widen h1 h2 (vx_ret ?_)
  exact W.zret hx hb hret hn (fun t ht hW => ⟨⟨some (iv x), σ, rfl, hp, ws, hR, by rw [ht]; exact hP, hD⟩, hS.F ht⟩) hS.2.2 hd hlk
theorem n_return (C : Ok g Φ cc own none d mc ms) (Rr : Rt Φ σ0 Po Px mc ms) (hp : Po none σ) (h1 : k ≤ mc) (h2 : n ≤ ms) (hd : decode cc pc = .ok (.return_, 1)) : N Φ k n σ pc lv [] := by
  obtain ⟨p, l, e, R, s, m, args, below, meth, c, A, κ, ε, nL, Q⟩ := Φ
  obtain ⟨rfl, hx, hb, hml, hown, hret, hts, hK, hlk, -⟩ := C
  obtain ⟨rfl, rfl, -⟩ := Rr
  intro ws H locs ls hR hP hD hS hl
  refine W.widen h1 h2 (vx_ret ?_)
  exact W.vret hx hb hret (fun t ht hW => ⟨⟨none, σ, rfl, hp, ws, hR, by rw [ht]; exact hP, hD⟩, hS.F ht⟩) hS.2.2 hd hlk
theorem n_areturn {rt : FieldType} (C : Ok g Φ cc own (some rt) d mc ms) (Rr : Rt Φ σ0 Po Px mc ms) (hrt : (∃ n, rt = .object n) ∨ ∃ t, rt = .array t) {v : Value} (hv : v = .null ∨ ∃ a, v = .ref a) (hp : Po (some v) σ) (h1 : k ≤ mc) (h2 : n ≤ ms) (hd : decode cc pc = .ok (.areturn, 1)) : N Φ k n σ pc lv [v] := by
  obtain ⟨p, l, e, R, s, m, args, below, meth, c, A, κ, ε, nL, Q⟩ := Φ
  obtain ⟨rfl, hx, hb, hml, hown, hret, hts, hK, hlk, -⟩ := C
  obtain ⟨rfl, rfl, -⟩ := Rr
  intro ws H locs ls hR hP hD hS hl
  refine W.widen h1 h2 (vx_ret ?_)
  exact W.aret hx hb hret hrt hv (fun t ht hW => ⟨⟨some v, σ, rfl, hp, ws, hR, by rw [ht]; exact hP, hD⟩, hS.F ht⟩) hS.2.2 hd hlk
theorem n_out {E : String} (C : Ok g Φ cc own ret d mc ms) (Rr : Rt Φ σ0 Po Px mc ms) (hp : Px E σ) (h1 : k ≤ mc) (h2 : n ≤ ms) : NX Φ k n σ pc lv E := by
  obtain ⟨p, l, e, R, s, m, args, below, meth, c, A, κ, ε, nL, Q⟩ := Φ
  obtain ⟨rfl, hx, hb, hml, hown, hret, hts, hK, hlk, -⟩ := C
  obtain ⟨rfl, rfl, hT⟩ := Rr
  intro ws H locs ls q ce rest hR hP hD hS hl hc1 hc2 hc3
  exact vx_out (fun x hx => (hT x hx).elim) hlk hc1 hc2 hc3 (fun t ht hv => ⟨⟨σ, hp, ws, hR, by rw [ht]; exact hP, hD⟩, hS.F ht⟩) hS.2.2 h1 h2
theorem n_throw (C : Ok g Φ cc "OperaMachines" ret d mc ms) (Rr : Rt Φ σ0 Po Px mc ms) {cls text : String} {names : List String} {ik is ic : Nat} (hm : (is, text) ∈ txts) (hcls : Bundle.fit cls = true) (hnames : ∀ n ∈ names, Bundle.fit n = true) (hn : names.length ≤ 3) (hk : Cond.classLink "OperaMachines" ik cls ∈ GT) (hini : Cond.initialized cls ∈ GT) (hat : ∀ w ∈ vx_atS "OperaMachines" ic cls names, w ∈ GT) (hgood : ∀ w ∈ Cond.classLink "OperaMachines" ik cls :: Cond.initialized cls :: vx_atS "OperaMachines" ic cls names, vx_ot w = true)
    (d0 : decode cc pc = .ok (.new ik, 3)) (d3 : decode cc (pc + 3) = .ok (.dup, 1)) (d4 : decode cc (pc + 4) = .ok (.ldc is, 2)) (d6 : decode cc (pc + 6) = .ok (.invokespecial ic, 3)) (d9 : decode cc (pc + 9) = .ok (.athrow, 1)) (hs : (st.map fun v => v.category).sum ≤ 100) (hp : Px cls σ) (h1 : k + 1 ≤ mc) (h2 : n + 6 ≤ ms) : N Φ k n σ pc lv st := by
  obtain ⟨p, l, e, R, s, m, args, below, meth, c, A, κ, ε, nL, Q⟩ := Φ
  obtain ⟨rfl, hx, hb, hml, hown, hret, hts, hK, hlk, hA, hE, hst, hR1, hR2, rfl, rfl⟩ := C
  obtain ⟨rfl, rfl, hT⟩ := Rr
  intro ws H locs ls hR hP hD hS hl
  refine vx_throwS (names := names) (text := text) (sa := ε.2.2 is) hx hb hst hown hcls hnames (hts _ hk) (hts _ hini) (hE.2.2.2.2.2.2.2 _ hm) (fun w h => hts w (hat w h)) hgood hE.2.2.1 hE.2.2.2.1 hS (by rw [hml]; exact hl.1) d0 d3 d4 d6 d9 (fun x hx => (hT x hx).elim) (by omega) ?_ h1 h2 hlk (fun t hv hz hq => ?_) hS.2.2 h1 h2
  · have : 13 * (names.length + 1) ≤ 52 := by omega
    omega
  · refine ⟨⟨σ, hp, ws, hR, hP.kept (fun k q hk => hq q.1 (hP k q hk).lt), hD⟩, Nat.le_trans hS.1 hz, fun q h1 h2 => ?_⟩
    rw [hq q (Nat.lt_of_lt_of_le h1 hS.1)]
    exact hS.2.1 q h1 h2
/-- behind a call -/
theorem nx_tail {p : Program} {l : Launch} {e : Env} {R : Room} {s : State} {m : MethodId} {args : Array Value} {below : List Frame} {meth : Method} {c : Code} {A : Nat → Prop} {κ : KG} {ε : EpT} {nL : Nat} {Q : State → Prop} {ws : va_W} {H : Heap} {locs : List Loc} {ls : Array Slot} {mc' ms' : Nat} {Po' : Option Value → Wd → Prop} {Px' : String → Wd → Prop} {a : Array Value} {st0 : List Value}
    (hR : wR σ ws) (hD : va_D A ws) (hS : va_S A s.heap H locs) (hl : lv_has ls nL lv) (hA : ∀ q, s.heap.size ≤ q → A q)
    (hr : vx_Run p l e R s m args below meth c H locs k n mc' ms' (F0 m pc ls st0) st (Qcc κ σ H.size Po' a) (Xcc κ σ H.size Px') (fr σ H.size))
    (K : ∀ r σ', Po' r σ' → N (p, l, e, R, s, m, args, below, meth, c, A, κ, ε, nL, Q) (k + mc') (n + ms') σ' (pc + 3) lv (r.toList ++ st)) (KX : ∀ E σ', Px' E σ' → NX (p, l, e, R, s, m, args, below, meth, c, A, κ, ε, nL, Q) (k + mc') (n + ms') σ' pc lv E) :
    W p l e R s m args below meth c H locs k n Q (F0 m pc ls st0) := by
  intro T hT X
  have frA := fr_A hR hD hS hA
  rcases hr T hT X with ⟨v, st₀, t, T', L, h0, X', hL, e1, e2, ⟨⟨r, σ', hv, hp, ws', hR', hP', hD'⟩, hF⟩, stp⟩ | ⟨q, st₀, t, T', L, E, ce, h0, X', hL, e1, e2, ⟨⟨σ', hp, ws', hR', hP', hD'⟩, hF⟩, hce, hcv, hcl, stp⟩
  · cases hv
    obtain ⟨k1, k2, k3⟩ := vx_keep h0 e1 hS (fun q _ h => frA q h) frA hL hF
    obtain ⟨t2, a1, b1⟩ := K v σ' hp ws' T'.heap (locs ++ L) ls hR' (by rw [e1]; exact hP') (hD'.weaken (fun k q _ h => frA _ h)) k3 hl T' rfl X'
    exact ⟨t2, stp t2 a1, b1⟩
  · obtain ⟨k1, k2, k3⟩ := vx_keep h0 e1 hS (fun q _ h => frA q h) frA hL hF
    obtain ⟨t2, a1, b1⟩ := KX E σ' hp ws' T'.heap (locs ++ L) ls q ce st hR' (by rw [e1]; exact hP') (hD'.weaken (fun k q _ h => frA _ h)) k3 hl (by rw [e1]; exact hce) hcv hcl T' rfl X'
    exact ⟨t2, stp.trans a1, b1⟩
theorem gt_go {s : State} {args : Array Value} (hts : ∀ w ∈ GT, w.before args s = true) {w0 : Cond} (h0 : w0 ∈ GT) : ∀ w ∈ w0 :: GT, ∀ (a' : Array Value) (U : State), s.WarmedH U.vm → w.before a' U = true := by
  intro w hw a' U hW
  have h1 : w ∈ GT := by
    rcases List.mem_cons.mp hw with rfl | h
    · exact h0
    · exact h
  exact tw_at hW (List.mem_filter.mp h1).2 (hts w h1)
/-- the words of a call -/
def cG (own : String) (idx : Nat) (y : MethodName) (cc' : ByteArray) (nL' : Nat) (ret' : Option FieldType) (np : Nat) : Prop :=
  Cond.methodLink own idx y ∈ GT ∧ Cond.code y cc' nL' ret' ∈ GT ∧ Cond.initialized y.cls ∈ GT ∧ (y.cls ≠ "java/lang/invoke/MethodHandle" ∧ y.cls ≠ "java/lang/invoke/VarHandle") ∧ (parseMethodDescriptor y.desc).map (fun d => d.parameters.length) = some np ∧ nL' ≤ 20
theorem cG.len {own : String} {idx : Nat} {y : MethodName} {cc' : ByteArray} {nL' : Nat} {ret' : Option FieldType} {np : Nat} (h : cG own idx y cc' nL' ret' np) : ∀ sig, parseMethodDescriptor y.desc = some sig → np = sig.parameters.length := by
  intro sig hs
  have h2 := h.2.2.2.2.1
  rw [hs] at h2
  exact (Option.some.inj h2).symm
theorem n_invV (C : Ok g Φ cc own ret d mc ms) {idx b ci d' mc' ms' nL' : Nat} {y : MethodName} {cc' : ByteArray} {ret' : Option FieldType} {As fs : List Value} {T : u_T} {M : Nat} {Po' : Option Value → Wd → Prop} {Px' : String → Wd → Prop} (hM : CT g y cc' nL' ret' d' mc' ms' (.ref b :: As) σ Po' Px') (hw : cG own idx y cc' nL' ret' As.length) (hi : Cond.instanceMethod y ∈ GT) (hsel : Cond.selects y.cls y y ∈ GT) (hσ : σ b = some (.inr (ci, fs))) (hc : vwCl[ci]? = some (y.cls, T, M)) (hdd : d' + 1 ≤ d) (h1 : k + mc' ≤ mc) (h2 : n + ms' ≤ ms) (hs : (st.map fun v => v.category).sum ≤ 8) {st0 : List Value} (hst0 : st0 = As.reverse ++ .ref b :: st) (hd : decode cc pc = .ok (.invokevirtual idx, 3))
    (K : ∀ r σ', Po' r σ' → N Φ (k + mc') (n + ms') σ' (pc + 3) lv (r.toList ++ st)) (KX : ∀ E σ', Px' E σ' → NX Φ (k + mc') (n + ms') σ' pc lv E) : N Φ k n σ pc lv st0 := by
  obtain ⟨p, l, e, R, s, m, args, below, meth, c, A, κ, ε, nL, Q⟩ := Φ
  obtain ⟨rfl, hx, hb, hml, hown, hret, hts, hK, hlk, hA, hE, hst, hR1, hR2, rfl, rfl⟩ := C
  obtain ⟨w1, w2, w3, w4, w5, w6⟩ := id hw
  subst hst0
  intro ws H locs ls hR hP hD hS hl
  obtain ⟨q, hq⟩ := hR.cell hσ
  have frA := fr_A hR hD hS hA
  refine nx_tail hR hD hS hl hA (vx_runV (Ts := GT) ⟨hx, hb, hml, hown, hts⟩ (hM H.size) (C := y.cls) (n := As.length) (bytes := cc') (maxL := nL') (ret := ret') ⟨⟨rfl, rfl, by show 12 + d' + 1 ≤ R.frames; omega, by show 8 + (nL' + 11) + (200 + 40 * d') ≤ R.locals; omega, gt_go hts w2, List.mem_cons_self, hts _ w2, hts _ w3, w4, hw.len, hts _ w1⟩, hts _ hi, hts _ hsel⟩
    ⟨Pcc_blind, va_recv hK hP hc hq, fun U hU hW => ⟨rfl, by rw [hU], ⟨ws, hR, by rw [hU]; exact hP, hD.weaken (fun _ _ _ _ => trivial)⟩, va_K.moved hW.alike hK, by rw [hU]; exact hE.go hW hS.2.1 frA⟩⟩ rfl rfl hl.1 rfl (lv_room hs) hd ⟨h1, h2⟩) K KX
theorem n_invS (C : Ok g Φ cc own ret d mc ms) {idx d' mc' ms' nL' : Nat} {y : MethodName} {cc' : ByteArray} {ret' : Option FieldType} {As : List Value} {Po' : Option Value → Wd → Prop} {Px' : String → Wd → Prop} (hM : CT g y cc' nL' ret' d' mc' ms' As σ Po' Px') (hw : cG own idx y cc' nL' ret' As.length) (hi : Cond.static y ∈ GT) (hdd : d' + 1 ≤ d) (h1 : k + mc' ≤ mc) (h2 : n + ms' ≤ ms) (hs : (st.map fun v => v.category).sum ≤ 8) {st0 : List Value} (hst0 : st0 = As.reverse ++ st) (hd : decode cc pc = .ok (.invokestatic idx, 3))
    (K : ∀ r σ', Po' r σ' → N Φ (k + mc') (n + ms') σ' (pc + 3) lv (r.toList ++ st)) (KX : ∀ E σ', Px' E σ' → NX Φ (k + mc') (n + ms') σ' pc lv E) : N Φ k n σ pc lv st0 := by
  obtain ⟨p, l, e, R, s, m, args, below, meth, c, A, κ, ε, nL, Q⟩ := Φ
  obtain ⟨rfl, hx, hb, hml, hown, hret, hts, hK, hlk, hA, hE, hst, hR1, hR2, rfl, rfl⟩ := C
  obtain ⟨w1, w2, w3, w4, w5, w6⟩ := id hw
  subst hst0
  intro ws H locs ls hR hP hD hS hl
  have frA := fr_A hR hD hS hA
  refine nx_tail hR hD hS hl hA (vx_runS (Ts := GT) ⟨hx, hb, hml, hown, hts⟩ (hM H.size) (n := As.length) (bytes := cc') (maxL := nL') (ret := ret') ⟨⟨rfl, rfl, by show 12 + d' + 1 ≤ R.frames; omega, by show 8 + (nL' + 11) + (200 + 40 * d') ≤ R.locals; omega, gt_go hts w2, List.mem_cons_self, hts _ w2, hts _ w3, w4, hw.len, hts _ w1⟩, hts _ hi⟩
    ⟨Pcc_blind, fun U hU hW => ⟨rfl, by rw [hU], ⟨ws, hR, by rw [hU]; exact hP, hD.weaken (fun _ _ _ _ => trivial)⟩, va_K.moved hW.alike hK, by rw [hU]; exact hE.go hW hS.2.1 frA⟩⟩ rfl rfl hl.1 rfl (lv_room hs) hd ⟨h1, h2⟩) K KX
theorem n_invI (C : Ok g Φ cc own ret d mc ms) {idx b d' mc' ms' nL' : Nat} {y : MethodName} {cc' : ByteArray} {As : List Value} {Po' : Option Value → Wd → Prop} {Px' : String → Wd → Prop} (hM : CT g y cc' nL' none d' mc' ms' (.ref b :: As) σ Po' Px') (hw : cG own idx y cc' nL' none As.length) (hi : Cond.instanceMethod y ∈ GT) (hy : y.name = "<init>") (hdd : d' + 1 ≤ d) (h1 : k + mc' ≤ mc) (h2 : n + ms' ≤ ms) (hs : (st.map fun v => v.category).sum ≤ 8) {st0 : List Value} (hst0 : st0 = As.reverse ++ .ref b :: st) (hd : decode cc pc = .ok (.invokespecial idx, 3))
    (K : ∀ r σ', Po' r σ' → N Φ (k + mc') (n + ms') σ' (pc + 3) lv (r.toList ++ st)) (KX : ∀ E σ', Px' E σ' → NX Φ (k + mc') (n + ms') σ' pc lv E) : N Φ k n σ pc lv st0 := by
  obtain ⟨p, l, e, R, s, m, args, below, meth, c, A, κ, ε, nL, Q⟩ := Φ
  obtain ⟨rfl, hx, hb, hml, hown, hret, hts, hK, hlk, hA, hE, hst, hR1, hR2, rfl, rfl⟩ := C
  obtain ⟨w1, w2, w3, w4, w5, w6⟩ := id hw
  subst hst0
  intro ws H locs ls hR hP hD hS hl
  have frA := fr_A hR hD hS hA
  refine nx_tail hR hD hS hl hA (vx_runI (Ts := GT) ⟨hx, hb, hml, hown, hts⟩ (hM H.size) (n := As.length) (bytes := cc') (maxL := nL') ⟨⟨rfl, rfl, by show 12 + d' + 1 ≤ R.frames; omega, by show 8 + (nL' + 11) + (200 + 40 * d') ≤ R.locals; omega, gt_go hts w2, List.mem_cons_self, hts _ w2, hts _ w3, w4, hw.len, hts _ w1⟩, hy, hts _ hi⟩
    ⟨Pcc_blind, fun U hU hW => ⟨rfl, by rw [hU], ⟨ws, hR, by rw [hU]; exact hP, hD.weaken (fun _ _ _ _ => trivial)⟩, va_K.moved hW.alike hK, by rw [hU]; exact hE.go hW hS.2.1 frA⟩⟩ rfl rfl hl.1 rfl (lv_room hs) hd ⟨h1, h2⟩) K KX
end NK4
end
section
/-! the reference's object: a table of whole numbers, row k the field k (a number: place 0) -/
section RM
abbrev Tb : Type := Nat → Nat → Int
def tu (M : Tb) (k j : Nat) (x : Int) : Tb := fun a b => if a = k ∧ b = j then x else M a b
theorem tu_s (M : Tb) (k j : Nat) (x : Int) : tu M k j x k j = x := if_pos ⟨rfl, rfl⟩
theorem tu_k {M : Tb} {k j a b : Nat} {x : Int} (h : a ≠ k) : tu M k j x a b = M a b := if_neg (fun q => h q.1)
theorem tu_j {M : Tb} {k j a b : Nat} {x : Int} (h : b ≠ j) : tu M k j x a b = M a b := if_neg (fun q => h q.2)
theorem tu_row (M : Tb) (k j : Nat) (x : Int) : tu M k j x k = upI (M k) j x := by
  funext b
  unfold tu upI
  by_cases h : b = j
  · rw [if_pos ⟨rfl, h⟩, if_pos h]
  · rw [if_neg (fun q => h q.2), if_neg h]
theorem tu_rowN {M : Tb} {k j a : Nat} {x : Int} (h : a ≠ k) : tu M k j x a = M a := by
  funext b
  exact tu_k h
/-- the rows below 19: what a caller has built; from 19 on: what a night's play leaves -/
def cut (M : Tb) : Tb := fun k j => if k < 19 then M k j else 0
theorem cut_at {M c : Tb} (h : cut M = c) {k : Nat} (hk : k < 19) (j : Nat) : M k j = c k j := by
  rw [← h]
  exact (if_pos hk).symm
theorem cut_tu {M : Tb} {k j : Nat} {x : Int} (hk : 19 ≤ k) : cut (tu M k j x) = cut M := by
  funext a b
  unfold cut
  split
  · exact tu_k (by omega)
  · rfl
theorem cut_tuc {M : Tb} {k j : Nat} {x : Int} (hk : k < 19) : cut (tu M k j x) = tu (cut M) k j x := by
  funext a b
  unfold cut tu
  by_cases h : a = k ∧ b = j
  · rw [if_pos h, if_pos h]
    simp only [h.1, hk, if_true]
  · rw [if_neg h, if_neg h]
theorem cut_cut (M : Tb) : cut (cut M) = cut M := by
  funext a b
  unfold cut
  split <;> rfl
def isA (k : Nat) : Bool := match k with
  | 0 | 6 | 12 | 13 | 14 | 15 | 16 | 24 | 25 | 26 => false
  | _ => Nat.blt k 27
def isZ (k : Nat) : Bool := match k with
  | 1 | 11 | 17 => true
  | _ => false
def aLen (k : Nat) : Nat := match k with
  | 7 | 8 | 9 | 10 | 11 | 22 | 23 => 24
  | _ => 6
def rfs (ar : Nat → Nat) (M : Tb) : List Value := [iv (M 0 0), .ref (ar 1), .ref (ar 2), .ref (ar 3), .ref (ar 4), .ref (ar 5), iv (M 6 0), .ref (ar 7), .ref (ar 8), .ref (ar 9), .ref (ar 10), .ref (ar 11), iv (M 12 0), iv (M 13 0), iv (M 14 0), iv (M 15 0), iv (M 16 0), .ref (ar 17), .ref (ar 18), .ref (ar 19), .ref (ar 20), .ref (ar 21), .ref (ar 22), .ref (ar 23), iv (M 24 0), iv (M 25 0), iv (M 26 0)]
def aEnt (κ : KG) (k : Nat) (f : Nat → Int) : va_E := if isZ k = true then eZ κ (aLen k) f else eI κ (aLen k) f
/-- its world: the object at o, its rows at ar k; all else as in β -/
def MW (κ : KG) (o : Nat) (ar : Nat → Nat) (β : Wd) (M : Tb) (σ : Wd) : Prop :=
  σ o = some (.inr (6, rfs ar M)) ∧ (∀ k, isA k = true → σ (ar k) = some (aEnt κ k (M k))) ∧ (∀ a, a ≠ o → (∀ k, isA k = true → a ≠ ar k) → σ a = β a)
def RI (o : Nat) (ar : Nat → Nat) : Prop := (∀ k, isA k = true → ar k ≠ o) ∧ ∀ k j, isA k = true → isA j = true → ar k = ar j → k = j
theorem MW.put {κ : KG} {o : Nat} {ar : Nat → Nat} {β : Wd} {M M' : Tb} {σ : Wd} {fs : List Value} (I : RI o ar) (h : MW κ o ar β M σ) (hf : fs = rfs ar M') (hM : ∀ k, isA k = true → M' k = M k) : MW κ o ar β M' (wup σ o (.inr (6, fs))) := by
  subst hf
  refine ⟨wup_s .., fun k hk => ?_, fun a h1 h2 => ?_⟩
  · rw [wup_n (I.1 k hk), hM k hk]
    exact h.2.1 k hk
  · rw [wup_n h1]
    exact h.2.2 a h1 h2
theorem MW.row {κ : KG} {o : Nat} {ar : Nat → Nat} {β : Wd} {M M' : Tb} {σ : Wd} {e : va_E} {k : Nat} (I : RI o ar) (hk : isA k = true) (h : MW κ o ar β M σ) (he : e = aEnt κ k (M' k)) (hM : ∀ j, j ≠ k → M' j = M j) : MW κ o ar β M' (wup σ (ar k) e) := by
  subst he
  have hne : o ≠ ar k := fun q => I.1 k hk q.symm
  have hf : rfs ar M' = rfs ar M := by
    unfold rfs
    have z : ∀ j, isA j = false → M' j = M j := fun j hj => hM j (fun q => by rw [q, hk] at hj; cases hj)
    rw [z 0 rfl, z 6 rfl, z 12 rfl, z 13 rfl, z 14 rfl, z 15 rfl, z 16 rfl, z 24 rfl, z 25 rfl, z 26 rfl]
  refine ⟨by rw [wup_n hne, hf]; exact h.1, fun j hj => ?_, fun a h1 h2 => ?_⟩
  · by_cases q : j = k
    · subst q
      exact wup_s ..
    · rw [wup_n (fun z => q (I.2 j k hj hk z)), hM j q]
      exact h.2.1 j hj
  · rw [wup_n (h2 k hk)]
    exact h.2.2 a h1 h2
theorem in3 : fG "OperaMachinesModel" TX3 27 := by
  unfold fG
  decide +kernel
section Rows
variable {g : Gx} {Φ : Fx} {cc : ByteArray} {own : String} {ret : Option FieldType} {d mc ms k n : Nat} {σ β : Wd} {pc : Nat} {lv lv' : List (Nat × Value)} {st : List Value} {o : Nat} {ar : Nat → Nat} {M : Tb}
theorem r_get (C : Ok g Φ cc own ret d mc ms) (hM : MW g.2.1 o ar β M σ) {idx : Nat} {v : Value} (j : Nat) (hj : j < 27) (hw : Cond.fieldLink own idx "OperaMachinesModel" (TX3 j).2.1 (TX3 j).2.2.1 ∈ GT) (hs : (TX3 j).1 = "OperaMachinesModel") (hv : (rfs ar M)[j]? = some v) (hd : decode cc pc = .ok (.getfield idx, 3)) (K : N Φ k n σ (pc + 3) lv (v :: st)) : N Φ k n σ pc lv (.ref o :: st) :=
  n_get C hM.1 (show vwCl[6]? = some ("OperaMachinesModel", TX3, 27) from rfl) in3 j hj hw hs hv hd K
theorem r_put (C : Ok g Φ cc own ret d mc ms) (I : RI o ar) (hM : MW g.2.1 o ar β M σ) {idx : Nat} {x : Int} (j : Nat) (hj : j < 27) (hA : isA j = false) (hw : Cond.fieldLink own idx "OperaMachinesModel" (TX3 j).2.1 (TX3 j).2.2.1 ∈ GT) (hs : (TX3 j).1 = "OperaMachinesModel") (hfin : (TX3 j).2.2.2 = false) (hty : tyX3 j = .int) (hf : (rfs ar M).set j (iv x) = rfs ar (tu M j 0 x)) (hd : decode cc pc = .ok (.putfield idx, 3)) (K : ∀ σ', MW g.2.1 o ar β (tu M j 0 x) σ' → N Φ k n σ' (pc + 3) lv st) : N Φ k n σ pc lv (iv x :: .ref o :: st) :=
  n_put C hM.1 (show vwCl[6]? = some ("OperaMachinesModel", TX3, 27) from rfl) in3 tyX3 tyX3_ok nmX3 j hj hw hs hfin (by rw [hty]; rfl) (by rw [hty]; rfl) hj hd (K _ (hM.put I hf (fun a ha => tu_rowN (fun q => by rw [q, hA] at ha; cases ha))))
theorem aEnt_I {κ : KG} {a : Nat} {f : Nat → Int} (h : isZ a = false) : aEnt κ a f = eI κ (aLen a) f := by
  unfold aEnt
  rw [h]
  rfl
theorem aEnt_Z {κ : KG} {a : Nat} {f : Nat → Int} (h : isZ a = true) : aEnt κ a f = eZ κ (aLen a) f := if_pos h
theorem aLen_lt (a : Nat) : aLen a < 2147483648 := by
  unfold aLen
  split <;> decide
theorem r_iald (C : Ok g Φ cc own ret d mc ms) (hM : MW g.2.1 o ar β M σ) (a : Nat) (hA : isA a = true) (hZ : isZ a = false) (j : Nat) {x : Int} (hj : x = (j : Int)) (hl : j < aLen a) (hd : decode cc pc = .ok (.iaload, 1)) (K : N Φ k n σ (pc + 1) lv (iv (M a j) :: st)) : N Φ k n σ pc lv (iv x :: .ref (ar a) :: st) := by
  subst hj
  have h := hM.2.1 a hA
  rw [aEnt_I hZ] at h
  exact n_iald C h (by omega) (by omega) (aLen_lt a) hd K
theorem r_zald (C : Ok g Φ cc own ret d mc ms) (hM : MW g.2.1 o ar β M σ) (a : Nat) (hA : isA a = true) (hZ : isZ a = true) (j : Nat) {x : Int} (hj : x = (j : Int)) (hl : j < aLen a) (hd : decode cc pc = .ok (.baload, 1)) (K : N Φ k n σ (pc + 1) lv (iv (M a j) :: st)) : N Φ k n σ pc lv (iv x :: .ref (ar a) :: st) := by
  subst hj
  have h := hM.2.1 a hA
  rw [aEnt_Z hZ] at h
  exact n_zald C h (by omega) (by omega) (aLen_lt a) hd K
theorem r_iast (C : Ok g Φ cc own ret d mc ms) (I : RI o ar) (hM : MW g.2.1 o ar β M σ) (a : Nat) (hA : isA a = true) (hZ : isZ a = false) (j : Nat) {x y : Int} (hj : x = (j : Int)) (hl : j < aLen a) (hd : decode cc pc = .ok (.iastore, 1)) (K : ∀ σ', MW g.2.1 o ar β (tu M a j y) σ' → N Φ k n σ' (pc + 1) lv st) : N Φ k n σ pc lv (iv y :: iv x :: .ref (ar a) :: st) := by
  subst hj
  have h := hM.2.1 a hA
  rw [aEnt_I hZ] at h
  refine n_iast C h (by omega) (by omega) (aLen_lt a) hd (K _ (hM.row I hA ?_ (fun b hb => tu_rowN hb)))
  rw [aEnt_I hZ, tu_row, Int.toNat_natCast]
theorem r_zast (C : Ok g Φ cc own ret d mc ms) (I : RI o ar) (hM : MW g.2.1 o ar β M σ) (a : Nat) (hA : isA a = true) (hZ : isZ a = true) (j : Nat) {x y : Int} (hj : x = (j : Int)) (hl : j < aLen a) (hy : y = 0 ∨ y = 1) (hd : decode cc pc = .ok (.bastore, 1)) (K : ∀ σ', MW g.2.1 o ar β (tu M a j y) σ' → N Φ k n σ' (pc + 1) lv st) : N Φ k n σ pc lv (iv y :: iv x :: .ref (ar a) :: st) := by
  subst hj
  have h := hM.2.1 a hA
  rw [aEnt_Z hZ] at h
  refine n_zast C h (by omega) (by omega) (aLen_lt a) hy hd (K _ (hM.row I hA ?_ (fun b hb => tu_rowN hb)))
  rw [aEnt_Z hZ, tu_row, Int.toNat_natCast]
theorem r_getc {c : Tb} (C : Ok g Φ cc own ret d mc ms) (hM : MW g.2.1 o ar β M σ) (hc : cut M = c) {idx : Nat} (j : Nat) (hj : j < 19) (hw : Cond.fieldLink own idx "OperaMachinesModel" (TX3 j).2.1 (TX3 j).2.2.1 ∈ GT) (hs : (TX3 j).1 = "OperaMachinesModel") (hv : (rfs ar M)[j]? = some (iv (M j 0))) (hd : decode cc pc = .ok (.getfield idx, 3)) (K : N Φ k n σ (pc + 3) lv (iv (c j 0) :: st)) : N Φ k n σ pc lv (.ref o :: st) := by
  rw [cut_at hc hj] at hv
  exact r_get C hM j (by omega) hw hs hv hd K
theorem r_ialdc {c : Tb} (C : Ok g Φ cc own ret d mc ms) (hM : MW g.2.1 o ar β M σ) (hc : cut M = c) (a : Nat) (ha : a < 19) (hA : isA a = true) (hZ : isZ a = false) (j : Nat) {x : Int} (hj : x = (j : Int)) (hl : j < aLen a) (hd : decode cc pc = .ok (.iaload, 1)) (K : N Φ k n σ (pc + 1) lv (iv (c a j) :: st)) : N Φ k n σ pc lv (iv x :: .ref (ar a) :: st) := by
  rw [← cut_at hc ha] at K
  exact r_iald C hM a hA hZ j hj hl hd K
theorem r_zaldc {c : Tb} (C : Ok g Φ cc own ret d mc ms) (hM : MW g.2.1 o ar β M σ) (hc : cut M = c) (a : Nat) (ha : a < 19) (hA : isA a = true) (hZ : isZ a = true) (j : Nat) {x : Int} (hj : x = (j : Int)) (hl : j < aLen a) (hd : decode cc pc = .ok (.baload, 1)) (K : N Φ k n σ (pc + 1) lv (iv (c a j) :: st)) : N Φ k n σ pc lv (iv x :: .ref (ar a) :: st) := by
  rw [← cut_at hc ha] at K
  exact r_zald C hM a hA hZ j hj hl hd K
end Rows
end RM
end
section
/-! what the reference's methods work out, of the table c (rows below 19) -/
section RS
/-- ticks of a bar at a tempo -/
def lenB (c : Tb) (T : Int) : Int := if c 13 0 * 100 / T < 1 then 1 else c 13 0 * 100 / T
/-- the highest of the first q cues that takes effect for machine i at bar b -/
def effN (c : Tb) (i b : Int) : Nat → Int
  | 0 => -1
  | q + 1 => if c 11 q = 0 ∧ c 8 q = i ∧ c 7 q = b then (q : Int) else effN c i b q
def eff (c : Tb) (i b : Int) : Int := effN c i b (c 6 0).toNat
/-- one tick's move: table or not, speed, place, aim -/
def mv (tb sp a m : Int) : Int :=
  let f0 := m - a
  let f1 := if tb = 0 then f0 else (let h := if f0 < 0 then f0 + 360 else f0; if 180 < h then h - 360 else h)
  let f2 := if sp < f1 then sp else if f1 < -sp then -sp else f1
  if tb = 0 then a + f2 else (a + f2 + 360) % 360
/-- place and running cue (-1: none) of machine i behind t ticks, bars of L ticks -/
def tr (c : Tb) (L : Nat) (i : Nat) : Nat → Int × Int
  | 0 => (c 5 i, -1)
  | t + 1 =>
    let p := tr c L i t
    let e := if t % L = 0 then eff c i (t / L : Nat) else -1
    let r := if e = -1 then p.2 else e
    (mv (c 1 i) (c 4 i) p.1 (if r = -1 then c 5 i else c 9 r.toNat), r)
def aimOf (c : Tb) (i : Nat) (r : Int) : Int := if r = -1 then c 5 i else c 9 r.toNat
/-- what callers may build -/
def WF (c : Tb) : Prop := (0 ≤ c 0 0 ∧ c 0 0 ≤ 6) ∧ (0 ≤ c 6 0 ∧ c 6 0 ≤ 24) ∧ (1 ≤ c 12 0 ∧ c 12 0 ≤ 30) ∧ (1 ≤ c 13 0 ∧ c 13 0 ≤ 40) ∧ (50 ≤ c 14 0 ∧ c 14 0 ≤ 200) ∧ (0 ≤ c 15 0 ∧ c 15 0 ≤ 100) ∧ (0 ≤ c 16 0 ∧ c 16 0 ≤ 2400) ∧
  (∀ i : Nat, (c 1 i = 0 ∨ c 1 i = 1) ∧ (c 0 0 ≤ i → c 1 i = 0) ∧ (0 ≤ c 2 i ∧ c 2 i ≤ 2) ∧ (0 ≤ c 3 i ∧ c 3 i ≤ 20) ∧ (0 ≤ c 4 i ∧ c 4 i ≤ 10) ∧ (i < c 0 0 → 1 ≤ c 4 i) ∧ (0 ≤ c 5 i ∧ c 5 i ≤ 359) ∧ (c 1 i = 0 → c 5 i ≤ 200)) ∧
  (∀ q : Nat, (0 ≤ c 7 q ∧ c 7 q < 30) ∧ (q < c 6 0 → c 11 q = 0 → c 7 q < c 12 0) ∧ 0 ≤ c 8 q ∧ (q < c 6 0 → c 8 q < c 0 0) ∧ (0 ≤ c 9 q ∧ c 9 q ≤ 359) ∧ (q < c 6 0 → c 1 (c 8 q).toNat = 0 → c 9 q ≤ 200) ∧ (0 ≤ c 10 q ∧ c 10 q ≤ 5) ∧ (c 11 q = 0 ∨ c 11 q = 1) ∧ (c 6 0 ≤ q → c 11 q = 0)) ∧
  (∀ w : Nat, (c 17 w = 0 ∨ c 17 w = 1) ∧ -1 ≤ c 18 w ∧ c 18 w ≤ 5)
theorem nar_bv {x : Int} (h : x = 0 ∨ x = 1) : narrow .boolean (iv x) = iv x := by rcases h with rfl | rfl <;> rfl
theorem tu_tu (M : Tb) (k j : Nat) (x y : Int) : tu (tu M k j x) k j y = tu M k j y := by
  funext a b
  unfold tu
  split <;> rfl
theorem effN_m1 (c : Tb) (i b : Int) : ∀ q : Nat, effN c i b q = -1 ∨ ∃ j : Nat, j < q ∧ effN c i b q = j ∧ c 11 j = 0 ∧ c 8 j = i ∧ c 7 j = b
  | 0 => Or.inl rfl
  | q + 1 => by
    unfold effN
    by_cases h : c 11 q = 0 ∧ c 8 q = i ∧ c 7 q = b
    · rw [if_pos h]
      exact Or.inr ⟨q, Nat.lt_succ_self q, rfl, h⟩
    · rw [if_neg h]
      rcases effN_m1 c i b q with h1 | ⟨j, h1, h2⟩
      · exact Or.inl h1
      · exact Or.inr ⟨j, Nat.lt_succ_of_lt h1, h2⟩
theorem eff_rg (c : Tb) (i b : Int) (q : Nat) (h : q ≤ 24) : -1 ≤ effN c i b q ∧ effN c i b q < q := by
  rcases effN_m1 c i b q with h1 | ⟨j, h1, h2, -⟩
  · rw [h1]; omega
  · rw [h2]; omega
theorem lenB_rg {c : Tb} (hw : WF c) {T : Int} (h : 50 ≤ T) : 1 ≤ lenB c T ∧ lenB c T ≤ 80 := by
  obtain ⟨-, -, -, h1, -⟩ := hw
  have h2 : c 13 0 * 100 / T ≤ 80 := by
    have : c 13 0 * 100 / T ≤ 4000 / T := Int.ediv_le_ediv (by omega) (by omega)
    have : (4000 : Int) / T ≤ 80 := Int.ediv_le_of_le_mul (by omega) (by omega)
    omega
  unfold lenB
  split <;> omega
end RS
end
section
set_option maxRecDepth 100000 in
set_option maxHeartbeats 4000000 in
theorem c_isIn {g : Gx} (hst : g.1.stackTraces = false) {a b e : Int} (ha : rg a) (hb : rg b) (he : rg e) {σ : Wd} : CT g yX3_isIn cX3_isIn 3 (some .boolean) 0 0 0 [iv a, iv b, iv e] σ (fun r σ' => ∃ x : Int, r = some (iv x) ∧ σ' = σ ∧ ((x = 1 ∧ b ≤ a ∧ a ≤ e) ∨ (x = 0 ∧ ¬ (b ≤ a ∧ a ≤ e)))) (fun _ _ => False) := by
  refine CT.of hst (by decide +kernel) (Nat.le_of_ble_eq_true rfl) (fun Φ C Rr hY hN => ?_)
  show N Φ 0 0 σ 0 [(0, iv a), (1, iv b), (2, iv e)] []
  unfold rg at ha hb he
  refine n_iload_n C dX3_isIn_0 rfl ?_
  refine n_iload_n C dX3_isIn_1 rfl ?_
  refine n_icmp_lt C 14 dX3_isIn_2 (by decide) (by unfold rg; omega) (by unfold rg; omega) (fun b2 => ?_) (fun b2 => ?_)
  · refine n_iconst (x := 0) C dX3_isIn_14 ?_
    exact n_ireturn C Rr (nar_bv (by first | decide | omega)) ⟨_, rfl, rfl, by omega⟩ (by omega) (by omega) dX3_isIn_15
  · refine n_iload_n C dX3_isIn_5 rfl ?_
    refine n_iload_n C dX3_isIn_6 rfl ?_
    refine n_icmp_gt C 14 dX3_isIn_7 (by decide) (by unfold rg; omega) (by unfold rg; omega) (fun b7 => ?_) (fun b7 => ?_)
    · refine n_iconst (x := 0) C dX3_isIn_14 ?_
      exact n_ireturn C Rr (nar_bv (by first | decide | omega)) ⟨_, rfl, rfl, by omega⟩ (by omega) (by omega) dX3_isIn_15
    · refine n_iconst (x := 1) C dX3_isIn_10 ?_
      refine n_goto C 15 dX3_isIn_11 (by decide) ?_
      exact n_ireturn C Rr (nar_bv (by first | decide | omega)) ⟨_, rfl, rfl, by omega⟩ (by omega) (by omega) dX3_isIn_15
set_option maxRecDepth 100000 in
set_option maxHeartbeats 4000000 in
theorem c_isWorker {g : Gx} (hst : g.1.stackTraces = false) {a : Int} (ha : rg a) {σ : Wd} : CT g yX3_isWorker cX3_isWorker 1 (some .boolean) 1 0 0 [iv a] σ (fun r σ' => ∃ x : Int, r = some (iv x) ∧ σ' = σ ∧ ((x = 1 ∧ 0 ≤ a ∧ a ≤ 5) ∨ (x = 0 ∧ ¬ (0 ≤ a ∧ a ≤ 5)))) (fun _ _ => False) := by
  refine CT.of hst (by decide +kernel) (Nat.le_of_ble_eq_true rfl) (fun Φ C Rr hY hN => ?_)
  show N Φ 0 0 σ 0 [(0, iv a)] []
  unfold rg at ha
  refine n_iload_n C dX3_isWorker_0 rfl ?_
  refine n_iconst (x := 0) C dX3_isWorker_1 ?_
  refine n_iconst (x := 5) C dX3_isWorker_2 ?_
  refine n_invS C (c_isIn hst (by unfold rg; omega) (by unfold rg; omega) (by unfold rg; omega)) ⟨w4_218, w4_220, w1_5, ⟨by decide, by decide⟩, by show _ = some 3; decide +kernel, by decide⟩ w4_219 (by decide) (by omega) (by omega) (Nat.le_of_ble_eq_true rfl) rfl dX3_isWorker_3 (fun r σ' h => ?_) (fun _ _ h => h.elim)
  obtain ⟨x, rfl, rfl, hx⟩ := h
  exact n_ireturn C Rr (nar_bv (by first | decide | omega)) ⟨x, rfl, rfl, by omega⟩ (by omega) (by omega) dX3_isWorker_6
set_option maxRecDepth 100000 in
set_option maxHeartbeats 4000000 in
theorem c_can {g : Gx} (hst : g.1.stackTraces = false) {f : Int} (hf : 0 ≤ f ∧ f ≤ 9) {o : Nat} {ar : Nat → Nat} {β : Wd} {M c : Tb} (I : RI o ar) {σ : Wd} (hM : MW g.2.1 o ar β M σ) (hc : cut M = c) : CT g yX3_can cX3_can 2 (some .boolean) 0 0 0 [.ref o, iv f] σ (fun r σ' => ∃ (x : Int) (M' : Tb), r = some (iv x) ∧ MW g.2.1 o ar β M' σ' ∧ cut M' = c ∧ M' 26 0 = f ∧ ((x = 1 ∧ f = 0) ∨ (x = 0 ∧ f ≠ 0))) (fun _ _ => False) := by
  refine CT.of hst (by decide +kernel) (Nat.le_of_ble_eq_true rfl) (fun Φ C Rr hY hN => ?_)
  show N Φ 0 0 σ 0 [(0, .ref o), (1, iv f)] []
  refine n_aload_n C dX3_can_0 rfl ?_
  refine n_iload_n C dX3_can_1 rfl ?_
  refine r_put C I hM 26 (by decide) rfl w4_154 rfl rfl rfl rfl dX3_can_2 (fun σ hM => ?_)
  replace hc : cut (tu M 26 0 f) = c := (cut_tu (by decide)).trans hc
  refine n_iload_n C dX3_can_5 rfl ?_
  refine n_if_ne C 13 dX3_can_6 (by decide) (by unfold rg; omega) (fun b6 => ?_) (fun b6 => ?_)
  · refine n_iconst (x := 0) C dX3_can_13 ?_
    exact n_ireturn C Rr (nar_bv (by first | decide | omega)) ⟨0, _, rfl, hM, hc, rfl, by omega⟩ (by omega) (by omega) dX3_can_14
  · refine n_iconst (x := 1) C dX3_can_9 ?_
    refine n_goto C 14 dX3_can_10 (by decide) ?_
    exact n_ireturn C Rr (nar_bv (by first | decide | omega)) ⟨1, _, rfl, hM, hc, rfl, by omega⟩ (by omega) (by omega) dX3_can_14
set_option maxRecDepth 100000 in
set_option maxHeartbeats 4000000 in
theorem c_thrown {g : Gx} (hst : g.1.stackTraces = false) {o : Nat} {ar : Nat → Nat} {β : Wd} {M c : Tb} (I : RI o ar) {σ : Wd} (hM : MW g.2.1 o ar β M σ) (hc : cut M = c) : CT g yX3_thrown cX3_thrown 1 (some .int) 0 0 0 [.ref o] σ (fun r σ' => r = some (iv (M 26 0)) ∧ σ' = σ) (fun _ _ => False) := by
  refine CT.of hst (by decide +kernel) (Nat.le_of_ble_eq_true rfl) (fun Φ C Rr hY hN => ?_)
  show N Φ 0 0 σ 0 [(0, .ref o)] []
  refine n_aload_n C dX3_thrown_0 rfl ?_
  refine r_get C hM 26 (by decide) w4_154 rfl rfl dX3_thrown_1 ?_
  exact n_ireturn C Rr rfl ⟨rfl, rfl⟩ (by omega) (by omega) dX3_thrown_4
set_option maxRecDepth 100000 in
set_option maxHeartbeats 4000000 in
theorem c_isMachine {g : Gx} (hst : g.1.stackTraces = false) {a : Int} (ha : rg a) {o : Nat} {ar : Nat → Nat} {β : Wd} {M c : Tb} (I : RI o ar) {σ : Wd} (hM : MW g.2.1 o ar β M σ) (hc : cut M = c) (hw : WF c) : CT g yX3_isMachine cX3_isMachine 2 (some .boolean) 1 0 0 [.ref o, iv a] σ (fun r σ' => ∃ x : Int, r = some (iv x) ∧ σ' = σ ∧ ((x = 1 ∧ 0 ≤ a ∧ a < c 0 0) ∨ (x = 0 ∧ ¬ (0 ≤ a ∧ a < c 0 0)))) (fun _ _ => False) := by
  refine CT.of hst (by decide +kernel) (Nat.le_of_ble_eq_true rfl) (fun Φ C Rr hY hN => ?_)
  show N Φ 0 0 σ 0 [(0, .ref o), (1, iv a)] []
  unfold rg at ha
  obtain ⟨w0, w6, w12, w13, w14, w15, w16, wm, wq, ww⟩ := id hw
  refine n_iload_n C dX3_isMachine_0 rfl ?_
  refine n_iconst (x := 0) C dX3_isMachine_1 ?_
  refine n_aload_n C dX3_isMachine_2 rfl ?_
  refine r_getc C hM hc 0 (by decide) w4_128 rfl rfl dX3_isMachine_3 ?_
  refine n_iconst (x := 1) C dX3_isMachine_6 ?_
  refine n_isub C dX3_isMachine_7 ?_
  refine n_invS C (c_isIn hst (by unfold rg; omega) (by unfold rg; omega) (by unfold rg; omega)) ⟨w4_218, w4_220, w1_5, ⟨by decide, by decide⟩, by show _ = some 3; decide +kernel, by decide⟩ w4_219 (by decide) (by omega) (by omega) (Nat.le_of_ble_eq_true rfl) rfl dX3_isMachine_8 (fun r σ' h => ?_) (fun _ _ h => h.elim)
  obtain ⟨x, rfl, rfl, hx⟩ := h
  exact n_ireturn C Rr (nar_bv (by first | decide | omega)) ⟨x, rfl, rfl, by omega⟩ (by omega) (by omega) dX3_isMachine_11
set_option maxRecDepth 100000 in
set_option maxHeartbeats 4000000 in
theorem c_isCue {g : Gx} (hst : g.1.stackTraces = false) {a : Int} (ha : rg a) {o : Nat} {ar : Nat → Nat} {β : Wd} {M c : Tb} (I : RI o ar) {σ : Wd} (hM : MW g.2.1 o ar β M σ) (hc : cut M = c) (hw : WF c) : CT g yX3_isCue cX3_isCue 2 (some .boolean) 1 0 0 [.ref o, iv a] σ (fun r σ' => ∃ x : Int, r = some (iv x) ∧ σ' = σ ∧ ((x = 1 ∧ 0 ≤ a ∧ a < c 6 0 ∧ c 11 a.toNat = 0) ∨ (x = 0 ∧ ¬ (0 ≤ a ∧ a < c 6 0 ∧ c 11 a.toNat = 0)))) (fun _ _ => False) := by
  refine CT.of hst (by decide +kernel) (Nat.le_of_ble_eq_true rfl) (fun Φ C Rr hY hN => ?_)
  show N Φ 0 0 σ 0 [(0, .ref o), (1, iv a)] []
  unfold rg at ha
  obtain ⟨w0, w6, w12, w13, w14, w15, w16, wm, wq, ww⟩ := id hw
  refine n_iload_n C dX3_isCue_0 rfl ?_
  refine n_iconst (x := 0) C dX3_isCue_1 ?_
  refine n_aload_n C dX3_isCue_2 rfl ?_
  refine r_getc C hM hc 6 (by decide) w4_134 rfl rfl dX3_isCue_3 ?_
  refine n_iconst (x := 1) C dX3_isCue_6 ?_
  refine n_isub C dX3_isCue_7 ?_
  refine n_invS C (c_isIn hst (by unfold rg; omega) (by unfold rg; omega) (by unfold rg; omega)) ⟨w4_218, w4_220, w1_5, ⟨by decide, by decide⟩, by show _ = some 3; decide +kernel, by decide⟩ w4_219 (by decide) (by omega) (by omega) (Nat.le_of_ble_eq_true rfl) rfl dX3_isCue_8 (fun r σ' h => ?_) (fun _ _ h => h.elim)
  obtain ⟨x, rfl, rfl, hx⟩ := h
  refine n_if_eq C 27 dX3_isCue_11 (by decide) (by unfold rg; omega) (fun b11 => ?_) (fun b11 => ?_)
  · refine n_iconst (x := 0) C dX3_isCue_27 ?_
    exact n_ireturn C Rr (nar_bv (by first | decide | omega)) ⟨_, rfl, rfl, by omega⟩ (by omega) (by omega) dX3_isCue_28
  · obtain ⟨q, rfl⟩ : ∃ q : Nat, a = q := ⟨a.toNat, by omega⟩
    have w1 := (wq q).2.2.2.2.2.2.2.1
    refine n_aload_n C dX3_isCue_14 rfl ?_
    refine r_get C hM 11 (by decide) w4_139 rfl rfl dX3_isCue_15 ?_
    refine n_iload_n C dX3_isCue_18 rfl ?_
    refine r_zaldc C hM hc 11 (by decide) rfl rfl q rfl (show _ < 24 by omega) dX3_isCue_19 ?_
    refine n_if_ne C 27 dX3_isCue_20 (by decide) (by unfold rg; omega) (fun b20 => ?_) (fun b20 => ?_)
    · refine n_iconst (x := 0) C dX3_isCue_27 ?_
      exact n_ireturn C Rr (nar_bv (by first | decide | omega)) ⟨_, rfl, rfl, by rw [Int.toNat_natCast]; omega⟩ (by omega) (by omega) dX3_isCue_28
    · refine n_iconst (x := 1) C dX3_isCue_23 ?_
      refine n_goto C 28 dX3_isCue_24 (by decide) ?_
      exact n_ireturn C Rr (nar_bv (by first | decide | omega)) ⟨_, rfl, rfl, by rw [Int.toNat_natCast]; omega⟩ (by omega) (by omega) dX3_isCue_28
set_option maxRecDepth 100000 in
set_option maxHeartbeats 4000000 in
theorem c_lengthBy {g : Gx} (hst : g.1.stackTraces = false) {T : Int} (hT : 50 ≤ T ∧ T ≤ 200) {o : Nat} {ar : Nat → Nat} {β : Wd} {M c : Tb} (I : RI o ar) {σ : Wd} (hM : MW g.2.1 o ar β M σ) (hc : cut M = c) (hw : WF c) : CT g yX3_lengthBy cX3_lengthBy 3 (some .int) 0 0 0 [.ref o, iv T] σ (fun r σ' => r = some (iv (lenB c T)) ∧ σ' = σ) (fun _ _ => False) := by
  refine CT.of hst (by decide +kernel) (Nat.le_of_ble_eq_true rfl) (fun Φ C Rr hY hN => ?_)
  show N Φ 0 0 σ 0 [(0, .ref o), (1, iv T)] []
  obtain ⟨w0, w6, w12, w13, w14, w15, w16, wm, wq, ww⟩ := id hw
  refine n_aload_n C dX3_lengthBy_0 rfl ?_
  refine r_getc C hM hc 13 (by decide) w4_141 rfl rfl dX3_lengthBy_1 ?_
  refine n_bipush (x := 100) C dX3_lengthBy_4 (by decide) ?_
  refine n_imul C dX3_lengthBy_6 ?_
  refine n_iload_n C dX3_lengthBy_7 rfl ?_
  refine n_idivP C dX3_lengthBy_8 (by unfold rg; omega) (by unfold rg; omega) (by omega) (by omega) ?_
  refine n_istore_n (lv' := [(2, iv (((c 13 0) * 100) / T)), (0, .ref o), (1, iv T)]) C dX3_lengthBy_9 (by rw [hN]; decide) rfl ?_
  refine n_iload_n C dX3_lengthBy_10 rfl ?_
  refine n_iconst (x := 1) C dX3_lengthBy_11 ?_
  have q1 : 0 ≤ c 13 0 * 100 / T := Int.ediv_nonneg (by omega) (by omega)
  have q2 : c 13 0 * 100 / T ≤ c 13 0 * 100 := Int.ediv_le_self _ (by omega)
  refine n_icmp_ge C 19 dX3_lengthBy_12 (by decide) (by unfold rg; omega) (by unfold rg; omega) (fun b12 => ?_) (fun b12 => ?_)
  · refine n_iload_n C dX3_lengthBy_19 rfl ?_
    exact n_ireturn C Rr rfl ⟨by unfold lenB; rw [if_neg (by omega)], rfl⟩ (by omega) (by omega) dX3_lengthBy_20
  · refine n_iconst (x := 1) C dX3_lengthBy_15 ?_
    refine n_goto C 20 dX3_lengthBy_16 (by decide) ?_
    exact n_ireturn C Rr rfl ⟨by unfold lenB; rw [if_pos (by omega)], rfl⟩ (by omega) (by omega) dX3_lengthBy_20
end
section
set_option maxRecDepth 100000 in
set_option maxHeartbeats 4000000 in
theorem c_bar {g : Gx} (hst : g.1.stackTraces = false) {o : Nat} {ar : Nat → Nat} {β : Wd} {M c : Tb} (I : RI o ar) {σ : Wd} (hM : MW g.2.1 o ar β M σ) (hc : cut M = c) (hw : WF c) : CT g yX3_bar cX3_bar 1 (some .int) 1 0 0 [.ref o] σ (fun r σ' => ∃ M', r = some (iv (lenB c (c 14 0))) ∧ MW g.2.1 o ar β M' σ' ∧ cut M' = c ∧ M' 26 0 = 0) (fun _ _ => False) := by
  refine CT.of hst (by decide +kernel) (Nat.le_of_ble_eq_true rfl) (fun Φ C Rr hY hN => ?_)
  show N Φ 0 0 σ 0 [(0, .ref o)] []
  obtain ⟨w0, w6, w12, w13, w14, w15, w16, wm, wq, ww⟩ := id hw
  refine n_aload_n C dX3_bar_0 rfl ?_
  refine n_iconst (x := 0) C dX3_bar_1 ?_
  refine r_put C I hM 26 (by decide) rfl w4_154 rfl rfl rfl rfl dX3_bar_2 (fun σ hM => ?_)
  replace hc : cut (tu M 26 0 0) = c := (cut_tu (by decide)).trans hc
  refine n_aload_n C dX3_bar_5 rfl ?_
  refine n_aload_n C dX3_bar_6 rfl ?_
  refine r_getc C hM hc 14 (by decide) w4_142 rfl rfl dX3_bar_7 ?_
  refine n_invV C (c_lengthBy hst (by omega) I hM hc hw) ⟨w5_32, w5_35, w1_5, ⟨by decide, by decide⟩, by show _ = some 1; decide +kernel, by decide⟩ w5_34 wp_27 hM.1 (show vwCl[6]? = some ("OperaMachinesModel", TX3, 27) from rfl) (by decide) (by omega) (by omega) (Nat.le_of_ble_eq_true rfl) rfl dX3_bar_10 (fun r σ' h => ?_) (fun _ _ h => h.elim)
  obtain ⟨rfl, rfl⟩ := h
  exact n_ireturn C Rr rfl ⟨_, rfl, hM, hc, rfl⟩ (by omega) (by omega) dX3_bar_13
set_option maxRecDepth 100000 in
set_option maxHeartbeats 4000000 in
theorem c_end {g : Gx} (hst : g.1.stackTraces = false) {o : Nat} {ar : Nat → Nat} {β : Wd} {M c : Tb} (I : RI o ar) {σ : Wd} (hM : MW g.2.1 o ar β M σ) (hc : cut M = c) (hw : WF c) : CT g yX3_end cX3_end 2 (some .int) 1 0 0 [.ref o] σ (fun r σ' => ∃ M', r = some (iv (c 12 0 * lenB c (c 14 0))) ∧ MW g.2.1 o ar β M' σ' ∧ cut M' = c ∧ M' 26 0 = 0) (fun _ _ => False) := by
  refine CT.of hst (by decide +kernel) (Nat.le_of_ble_eq_true rfl) (fun Φ C Rr hY hN => ?_)
  show N Φ 0 0 σ 0 [(0, .ref o)] []
  obtain ⟨w0, w6, w12, w13, w14, w15, w16, wm, wq, ww⟩ := id hw
  refine n_aload_n C dX3_end_0 rfl ?_
  refine n_iconst (x := 0) C dX3_end_1 ?_
  refine r_put C I hM 26 (by decide) rfl w4_154 rfl rfl rfl rfl dX3_end_2 (fun σ hM => ?_)
  replace hc : cut (tu M 26 0 0) = c := (cut_tu (by decide)).trans hc
  refine n_aload_n C dX3_end_5 rfl ?_
  refine r_getc C hM hc 12 (by decide) w4_140 rfl rfl dX3_end_6 ?_
  refine n_aload_n C dX3_end_9 rfl ?_
  refine n_aload_n C dX3_end_10 rfl ?_
  refine r_getc C hM hc 14 (by decide) w4_142 rfl rfl dX3_end_11 ?_
  refine n_invV C (c_lengthBy hst (by omega) I hM hc hw) ⟨w5_32, w5_35, w1_5, ⟨by decide, by decide⟩, by show _ = some 1; decide +kernel, by decide⟩ w5_34 wp_27 hM.1 (show vwCl[6]? = some ("OperaMachinesModel", TX3, 27) from rfl) (by decide) (by omega) (by omega) (Nat.le_of_ble_eq_true rfl) rfl dX3_end_14 (fun r σ' h => ?_) (fun _ _ h => h.elim)
  obtain ⟨rfl, rfl⟩ := h
  refine n_imul C dX3_end_17 ?_
  exact n_ireturn C Rr rfl ⟨_, rfl, hM, hc, rfl⟩ (by omega) (by omega) dX3_end_18
set_option maxRecDepth 100000 in
set_option maxHeartbeats 4000000 in
theorem c_effect {g : Gx} (hst : g.1.stackTraces = false) {i b : Int} (hi : 0 ≤ i ∧ i < 6) (hb : 0 ≤ b ∧ b ≤ 30) {o : Nat} {ar : Nat → Nat} {β : Wd} {M c : Tb} (I : RI o ar) {σ : Wd} (hM : MW g.2.1 o ar β M σ) (hc : cut M = c) (hw : WF c) : CT g yX3_effect cX3_effect 5 (some .int) 0 0 0 [.ref o, iv i, iv b] σ (fun r σ' => r = some (iv (eff c i b)) ∧ σ' = σ) (fun _ _ => False) := by
  refine CT.of hst (by decide +kernel) (Nat.le_of_ble_eq_true rfl) (fun Φ C Rr hY hN => ?_)
  show N Φ 0 0 σ 0 [(0, .ref o), (1, iv i), (2, iv b)] []
  obtain ⟨w0, w6, w12, w13, w14, w15, w16, wm, wq, ww⟩ := id hw
  refine n_iconst (x := (-1)) C dX3_effect_0 ?_
  refine n_istore_n (lv' := [(3, iv (-1)), (0, .ref o), (1, iv i), (2, iv b)]) C dX3_effect_1 (by rw [hN]; decide) rfl ?_
  refine n_iconst (x := 0) C dX3_effect_2 ?_
  refine n_istore (lv' := [(4, iv 0), (3, iv (-1)), (0, .ref o), (1, iv i), (2, iv b)]) C dX3_effect_3 (by rw [hN]; decide) rfl ?_
  have LP : ∀ (fu : Nat) (k : Nat) (f : Int) (hf : f = effN c i b k) (h1 : k ≤ c 6 0) (h2 : c 6 0 + 1 ≤ k + fu), N Φ 0 0 σ 5 [(4, iv (k : Int)), (3, iv f), (0, .ref o), (1, iv i), (2, iv b)] [] := by
    intro fu
    induction fu with
    | zero =>
      intro k f hf h1 h2
      omega
    | succ fu ih =>
      intro k f hf h1 h2
      refine n_iload C dX3_effect_5 rfl ?_
      refine n_aload_n C dX3_effect_7 rfl ?_
      refine r_getc C hM hc 6 (by decide) w4_134 rfl rfl dX3_effect_8 ?_
      refine n_icmp_ge C 59 dX3_effect_11 (by decide) (by unfold rg; omega) (by unfold rg; omega) (fun b11 => ?_) (fun b11 => ?_)
      · refine n_iload_n C dX3_effect_59 rfl ?_
        exact n_ireturn C Rr rfl ⟨by rw [hf]; unfold eff; rw [show (c 6 0).toNat = k by omega], rfl⟩ (by omega) (by omega) dX3_effect_60
      · have w1 := wq k
        have w2 := eff_rg c i b k (by omega)
        refine n_aload_n C dX3_effect_14 rfl ?_
        refine r_get C hM 11 (by decide) w4_139 rfl rfl dX3_effect_15 ?_
        refine n_iload C dX3_effect_18 rfl ?_
        refine r_zaldc C hM hc 11 (by decide) rfl rfl k rfl (show _ < 24 by omega) dX3_effect_20 ?_
        refine n_if_ne C 51 dX3_effect_21 (by decide) (by unfold rg; omega) (fun b21 => ?_) (fun b21 => ?_)
        · refine n_iload_n C dX3_effect_51 rfl ?_
          refine n_istore_n (lv' := [(3, iv f), (4, iv (k : Int)), (0, .ref o), (1, iv i), (2, iv b)]) C dX3_effect_52 (by rw [hN]; decide) rfl ?_
          refine n_iinc (lv' := [(4, iv ((k : Int) + 1)), (3, iv f), (0, .ref o), (1, iv i), (2, iv b)]) C dX3_effect_53 rfl (by rw [hN]; decide) rfl ?_
          refine n_goto C 5 dX3_effect_56 (by decide) ?_
          exact ih (k + 1) _ (by unfold effN; rw [if_neg (by omega)]; exact hf) (by omega) (by omega)
        · refine n_aload_n C dX3_effect_24 rfl ?_
          refine r_get C hM 8 (by decide) w4_136 rfl rfl dX3_effect_25 ?_
          refine n_iload C dX3_effect_28 rfl ?_
          refine r_ialdc C hM hc 8 (by decide) rfl rfl k rfl (show _ < 24 by omega) dX3_effect_30 ?_
          refine n_iload_n C dX3_effect_31 rfl ?_
          refine n_icmp_ne C 51 dX3_effect_32 (by decide) (by unfold rg; omega) (by unfold rg; omega) (fun b32 => ?_) (fun b32 => ?_)
          · refine n_iload_n C dX3_effect_51 rfl ?_
            refine n_istore_n (lv' := [(3, iv f), (4, iv (k : Int)), (0, .ref o), (1, iv i), (2, iv b)]) C dX3_effect_52 (by rw [hN]; decide) rfl ?_
            refine n_iinc (lv' := [(4, iv ((k : Int) + 1)), (3, iv f), (0, .ref o), (1, iv i), (2, iv b)]) C dX3_effect_53 rfl (by rw [hN]; decide) rfl ?_
            refine n_goto C 5 dX3_effect_56 (by decide) ?_
            exact ih (k + 1) _ (by unfold effN; rw [if_neg (by omega)]; exact hf) (by omega) (by omega)
          · refine n_aload_n C dX3_effect_35 rfl ?_
            refine r_get C hM 7 (by decide) w4_135 rfl rfl dX3_effect_36 ?_
            refine n_iload C dX3_effect_39 rfl ?_
            refine r_ialdc C hM hc 7 (by decide) rfl rfl k rfl (show _ < 24 by omega) dX3_effect_41 ?_
            refine n_iload_n C dX3_effect_42 rfl ?_
            refine n_icmp_ne C 51 dX3_effect_43 (by decide) (by unfold rg; omega) (by unfold rg; omega) (fun b43 => ?_) (fun b43 => ?_)
            · refine n_iload_n C dX3_effect_51 rfl ?_
              refine n_istore_n (lv' := [(3, iv f), (4, iv (k : Int)), (0, .ref o), (1, iv i), (2, iv b)]) C dX3_effect_52 (by rw [hN]; decide) rfl ?_
              refine n_iinc (lv' := [(4, iv ((k : Int) + 1)), (3, iv f), (0, .ref o), (1, iv i), (2, iv b)]) C dX3_effect_53 rfl (by rw [hN]; decide) rfl ?_
              refine n_goto C 5 dX3_effect_56 (by decide) ?_
              exact ih (k + 1) _ (by unfold effN; rw [if_neg (by omega)]; exact hf) (by omega) (by omega)
            · refine n_iload C dX3_effect_46 rfl ?_
              refine n_goto C 52 dX3_effect_48 (by decide) ?_
              refine n_istore_n (lv' := [(3, iv (k : Int)), (4, iv (k : Int)), (0, .ref o), (1, iv i), (2, iv b)]) C dX3_effect_52 (by rw [hN]; decide) rfl ?_
              refine n_iinc (lv' := [(4, iv ((k : Int) + 1)), (3, iv (k : Int)), (0, .ref o), (1, iv i), (2, iv b)]) C dX3_effect_53 rfl (by rw [hN]; decide) rfl ?_
              refine n_goto C 5 dX3_effect_56 (by decide) ?_
              exact ih (k + 1) _ (by unfold effN; rw [if_pos ⟨by omega, by omega, by omega⟩]) (by omega) (by omega)
  exact LP 25 0 _ rfl (by omega) (by omega)
set_option maxRecDepth 100000 in
set_option maxHeartbeats 4000000 in
theorem c_sets {g : Gx} (hst : g.1.stackTraces = false) {o : Nat} {ar : Nat → Nat} {β : Wd} {M c : Tb} (I : RI o ar) {σ : Wd} (hM : MW g.2.1 o ar β M σ) (hc : cut M = c) (hw : WF c) : CT g yX3_sets cX3_sets 2 none 0 0 0 [.ref o] σ (fun r σ' => ∃ M', r = none ∧ MW g.2.1 o ar β M' σ' ∧ cut M' = c ∧ (∀ j : Nat, j < c 0 0 → M' 19 j = c 5 j ∧ M' 20 j = c 5 j ∧ M' 21 j = -1) ∧ M' 26 0 = M 26 0) (fun _ _ => False) := by
  refine CT.of hst (by decide +kernel) (Nat.le_of_ble_eq_true rfl) (fun Φ C Rr hY hN => ?_)
  show N Φ 0 0 σ 0 [(0, .ref o)] []
  obtain ⟨w0, w6, w12, w13, w14, w15, w16, wm, wq, ww⟩ := id hw
  refine n_iconst (x := 0) C dX3_sets_0 ?_
  refine n_istore_n (lv' := [(1, iv 0), (0, .ref o)]) C dX3_sets_1 (by rw [hN]; decide) rfl ?_
  have LP : ∀ (fu : Nat) (k : Nat) (σ : Wd) (M1 : Tb) (hM : MW g.2.1 o ar β M1 σ) (hc : cut M1 = c) (h1 : k ≤ c 0 0) (h2 : c 0 0 + 1 ≤ k + fu) (h3 : (∀ j : Nat, j < k → M1 19 j = c 5 j ∧ M1 20 j = c 5 j ∧ M1 21 j = -1) ∧ M1 26 0 = M 26 0), N Φ 0 0 σ 2 [(1, iv (k : Int)), (0, .ref o)] [] := by
    intro fu
    induction fu with
    | zero =>
      intro k σ M1 hM hc h1 h2 h3
      omega
    | succ fu ih =>
      intro k σ M1 hM hc h1 h2 h3
      refine n_iload_n C dX3_sets_2 rfl ?_
      refine n_aload_n C dX3_sets_3 rfl ?_
      refine r_getc C hM hc 0 (by decide) w4_128 rfl rfl dX3_sets_4 ?_
      refine n_icmp_ge C 47 dX3_sets_7 (by decide) (by unfold rg; omega) (by unfold rg; omega) (fun b7 => ?_) (fun b7 => ?_)
      · exact n_return C Rr ⟨_, rfl, hM, hc, fun j hj => h3.1 j (by omega), h3.2⟩ (by omega) (by omega) dX3_sets_47
      · have w1 := wm k
        refine n_aload_n C dX3_sets_10 rfl ?_
        refine r_get C hM 19 (by decide) w4_147 rfl rfl dX3_sets_11 ?_
        refine n_iload_n C dX3_sets_14 rfl ?_
        refine n_aload_n C dX3_sets_15 rfl ?_
        refine r_get C hM 5 (by decide) w4_133 rfl rfl dX3_sets_16 ?_
        refine n_iload_n C dX3_sets_19 rfl ?_
        refine r_ialdc C hM hc 5 (by decide) rfl rfl k rfl (show _ < 6 by omega) dX3_sets_20 ?_
        refine r_iast C I hM 19 rfl rfl k rfl (show _ < 6 by omega) dX3_sets_21 (fun σ hM => ?_)
        replace hc : cut (tu M1 19 k (c 5 k)) = c := (cut_tu (by decide)).trans hc
        refine n_aload_n C dX3_sets_22 rfl ?_
        refine r_get C hM 20 (by decide) w4_148 rfl rfl dX3_sets_23 ?_
        refine n_iload_n C dX3_sets_26 rfl ?_
        refine n_aload_n C dX3_sets_27 rfl ?_
        refine r_get C hM 5 (by decide) w4_133 rfl rfl dX3_sets_28 ?_
        refine n_iload_n C dX3_sets_31 rfl ?_
        refine r_ialdc C hM hc 5 (by decide) rfl rfl k rfl (show _ < 6 by omega) dX3_sets_32 ?_
        refine r_iast C I hM 20 rfl rfl k rfl (show _ < 6 by omega) dX3_sets_33 (fun σ hM => ?_)
        replace hc : cut (tu (tu M1 19 k (c 5 k)) 20 k (c 5 k)) = c := (cut_tu (by decide)).trans hc
        refine n_aload_n C dX3_sets_34 rfl ?_
        refine r_get C hM 21 (by decide) w4_149 rfl rfl dX3_sets_35 ?_
        refine n_iload_n C dX3_sets_38 rfl ?_
        refine n_iconst (x := (-1)) C dX3_sets_39 ?_
        refine r_iast C I hM 21 rfl rfl k rfl (show _ < 6 by omega) dX3_sets_40 (fun σ hM => ?_)
        replace hc : cut (tu (tu (tu M1 19 k (c 5 k)) 20 k (c 5 k)) 21 k (-1)) = c := (cut_tu (by decide)).trans hc
        refine n_iinc (lv' := [(1, iv ((k : Int) + 1)), (0, .ref o)]) C dX3_sets_41 rfl (by rw [hN]; decide) rfl ?_
        refine n_goto C 2 dX3_sets_44 (by decide) ?_
        refine ih (k + 1) _ _ hM hc (by omega) (by omega) ⟨fun j hj => ?_, by rw [tu_k (by decide), tu_k (by decide), tu_k (by decide)]; exact h3.2⟩
        by_cases q : j = k
        · subst q
          exact ⟨by rw [tu_k (by decide), tu_k (by decide), tu_s], by rw [tu_k (by decide), tu_s], by rw [tu_s]⟩
        · have q2 := h3.1 j (by omega)
          exact ⟨by rw [tu_k (by decide), tu_k (by decide), tu_j q]; exact q2.1, by rw [tu_k (by decide), tu_j q, tu_k (by decide)]; exact q2.2.1, by rw [tu_j q, tu_k (by decide), tu_k (by decide)]; exact q2.2.2⟩
  exact LP 7 0 _ _ hM hc (by omega) (by omega) ⟨fun j hj => absurd hj (Nat.not_lt_zero j), rfl⟩
set_option maxRecDepth 100000 in
set_option maxHeartbeats 4000000 in
theorem c_moves {g : Gx} (hst : g.1.stackTraces = false) {o : Nat} {ar : Nat → Nat} {β : Wd} {M c : Tb} (I : RI o ar) {σ : Wd} (hM : MW g.2.1 o ar β M σ) (hc : cut M = c) (hw : WF c) {i : Nat} (hi : i < 6) (h19 : 0 ≤ M 19 i ∧ M 19 i ≤ 359) (h20 : 0 ≤ M 20 i ∧ M 20 i ≤ 359) : CT g yX3_moves cX3_moves 4 none 0 0 0 [.ref o, iv (i : Int)] σ (fun r σ' => ∃ M', r = none ∧ MW g.2.1 o ar β M' σ' ∧ cut M' = c ∧ M' = tu M 19 i (mv (c 1 i) (c 4 i) (M 19 i) (M 20 i))) (fun _ _ => False) := by
  refine CT.of hst (by decide +kernel) (Nat.le_of_ble_eq_true rfl) (fun Φ C Rr hY hN => ?_)
  show N Φ 0 0 σ 0 [(0, .ref o), (1, iv (i : Int))] []
  obtain ⟨w0, w6, w12, w13, w14, w15, w16, wm, wq, ww⟩ := id hw
  have w1 := wm i
  refine n_aload_n C dX3_moves_0 rfl ?_
  refine r_get C hM 20 (by decide) w4_148 rfl rfl dX3_moves_1 ?_
  refine n_iload_n C dX3_moves_4 rfl ?_
  refine r_iald C hM 20 rfl rfl i rfl (show _ < 6 by omega) dX3_moves_5 ?_
  refine n_aload_n C dX3_moves_6 rfl ?_
  refine r_get C hM 19 (by decide) w4_147 rfl rfl dX3_moves_7 ?_
  refine n_iload_n C dX3_moves_10 rfl ?_
  refine r_iald C hM 19 rfl rfl i rfl (show _ < 6 by omega) dX3_moves_11 ?_
  refine n_isub C dX3_moves_12 ?_
  refine n_istore_n (lv' := [(2, iv ((M 20 i) - (M 19 i))), (0, .ref o), (1, iv (i : Int))]) C dX3_moves_13 (by rw [hN]; decide) rfl ?_
  refine n_aload_n C dX3_moves_14 rfl ?_
  refine r_get C hM 1 (by decide) w4_129 rfl rfl dX3_moves_15 ?_
  refine n_iload_n C dX3_moves_18 rfl ?_
  refine r_zaldc C hM hc 1 (by decide) rfl rfl i rfl (show _ < 6 by omega) dX3_moves_19 ?_
  have J54 : ∀ (f1 : Int) (e1 : f1 = (if c 1 i = 0 then M 20 i - M 19 i else (let h := if M 20 i - M 19 i < 0 then M 20 i - M 19 i + 360 else M 20 i - M 19 i; if 180 < h then h - 360 else h))), N Φ 0 0 σ 54 [(0, .ref o), (1, iv (i : Int)), (2, iv f1)] [] := by
    intro f1 e1
    have b1 : -359 ≤ f1 ∧ f1 ≤ 359 := by rw [e1]; simp only []; split <;> (try split) <;> (try split) <;> omega
    have J82 : ∀ (f2 : Int) (e2 : f2 = if c 4 i < f1 then c 4 i else if f1 < -c 4 i then -c 4 i else f1), N Φ 0 0 σ 82 [(0, .ref o), (1, iv (i : Int)), (3, iv (c 4 i))] [iv f2] := by
      intro f2 e2
      have b2 : -10 ≤ f2 ∧ f2 ≤ 10 := by omega
      refine n_istore_n (lv' := [(2, iv f2), (0, .ref o), (1, iv (i : Int)), (3, iv (c 4 i))]) C dX3_moves_82 (by rw [hN]; decide) rfl ?_
      refine n_aload_n C dX3_moves_83 rfl ?_
      refine r_get C hM 19 (by decide) w4_147 rfl rfl dX3_moves_84 ?_
      refine n_iload_n C dX3_moves_87 rfl ?_
      refine n_dup2 C dX3_moves_88 rfl rfl ?_
      refine r_iald C hM 19 rfl rfl i rfl (show _ < 6 by omega) dX3_moves_89 ?_
      refine n_iload_n C dX3_moves_90 rfl ?_
      refine n_iadd C dX3_moves_91 ?_
      refine r_iast C I hM 19 rfl rfl i rfl (show _ < 6 by omega) dX3_moves_92 (fun σ hM => ?_)
      replace hc : cut (tu M 19 i ((M 19 i) + f2)) = c := (cut_tu (by decide)).trans hc
      refine n_aload_n C dX3_moves_93 rfl ?_
      refine r_get C hM 1 (by decide) w4_129 rfl rfl dX3_moves_94 ?_
      refine n_iload_n C dX3_moves_97 rfl ?_
      refine r_zaldc C hM hc 1 (by decide) rfl rfl i rfl (show _ < 6 by omega) dX3_moves_98 ?_
      refine n_if_eq C 122 dX3_moves_99 (by decide) (by unfold rg; omega) (fun b99 => ?_) (fun b99 => ?_)
      · exact n_return C Rr ⟨_, rfl, hM, hc, by unfold mv; simp only []; rw [← e1, ← e2, if_pos (by omega)]⟩ (by omega) (by omega) dX3_moves_122
      · refine n_aload_n C dX3_moves_102 rfl ?_
        refine r_get C hM 19 (by decide) w4_147 rfl rfl dX3_moves_103 ?_
        refine n_iload_n C dX3_moves_106 rfl ?_
        refine n_aload_n C dX3_moves_107 rfl ?_
        refine r_get C hM 19 (by decide) w4_147 rfl rfl dX3_moves_108 ?_
        refine n_iload_n C dX3_moves_111 rfl ?_
        refine r_iald C hM 19 rfl rfl i rfl (show _ < 6 by omega) dX3_moves_112 ?_
        rw [tu_s]
        refine n_sipush (x := 360) C dX3_moves_113 (by decide) ?_
        refine n_iadd C dX3_moves_116 ?_
        refine n_sipush (x := 360) C dX3_moves_117 (by decide) ?_
        refine n_iremP C dX3_moves_120 (by unfold rg; omega) (by unfold rg; omega) (by omega) (by omega) ?_
        refine r_iast C I hM 19 rfl rfl i rfl (show _ < 6 by omega) dX3_moves_121 (fun σ hM => ?_)
        replace hc : cut (tu (tu M 19 i ((M 19 i) + f2)) 19 i (((M 19 i + f2) + 360) % 360)) = c := (cut_tu (by decide)).trans hc
        rw [tu_tu] at hM hc
        exact n_return C Rr ⟨_, rfl, hM, hc, by unfold mv; simp only []; rw [← e1, ← e2, if_neg (by omega)]⟩ (by omega) (by omega) dX3_moves_122
    refine n_aload_n C dX3_moves_54 rfl ?_
    refine r_get C hM 4 (by decide) w4_132 rfl rfl dX3_moves_55 ?_
    refine n_iload_n C dX3_moves_58 rfl ?_
    refine r_ialdc C hM hc 4 (by decide) rfl rfl i rfl (show _ < 6 by omega) dX3_moves_59 ?_
    refine n_istore_n (lv' := [(3, iv (c 4 i)), (0, .ref o), (1, iv (i : Int)), (2, iv f1)]) C dX3_moves_60 (by rw [hN]; decide) rfl ?_
    refine n_iload_n C dX3_moves_61 rfl ?_
    refine n_iload_n C dX3_moves_62 rfl ?_
    refine n_icmp_le C 70 dX3_moves_63 (by decide) (by unfold rg; omega) (by unfold rg; omega) (fun b63 => ?_) (fun b63 => ?_)
    · refine n_iload_n C dX3_moves_70 rfl ?_
      refine n_iload_n C dX3_moves_71 rfl ?_
      refine n_ineg C dX3_moves_72 ?_
      refine n_icmp_ge C 81 dX3_moves_73 (by decide) (by unfold rg; omega) (by unfold rg; omega) (fun b73 => ?_) (fun b73 => ?_)
      · refine n_iload_n C dX3_moves_81 rfl ?_
        refine n_keep (lv' := [(0, .ref o), (1, iv (i : Int)), (3, iv (c 4 i))]) [0, 1, 3] rfl ?_
        exact J82 _ (by rw [if_neg (by omega), if_neg (by omega)])
      · refine n_iload_n C dX3_moves_76 rfl ?_
        refine n_ineg C dX3_moves_77 ?_
        refine n_goto C 82 dX3_moves_78 (by decide) ?_
        refine n_keep (lv' := [(0, .ref o), (1, iv (i : Int)), (3, iv (c 4 i))]) [0, 1, 3] rfl ?_
        exact J82 _ (by rw [if_neg (by omega), if_pos (by omega)])
    · refine n_iload_n C dX3_moves_66 rfl ?_
      refine n_goto C 82 dX3_moves_67 (by decide) ?_
      refine n_keep (lv' := [(0, .ref o), (1, iv (i : Int)), (3, iv (c 4 i))]) [0, 1, 3] rfl ?_
      exact J82 _ (by rw [if_pos (by omega)])
  refine n_if_eq C 54 dX3_moves_20 (by decide) (by unfold rg; omega) (fun b20 => ?_) (fun b20 => ?_)
  · refine n_keep (lv' := [(0, .ref o), (1, iv (i : Int)), (2, iv ((M 20 i) - (M 19 i)))]) [0, 1, 2] rfl ?_
    exact J54 _ (by rw [if_pos (by omega)])
  · refine n_iload_n C dX3_moves_23 rfl ?_
    refine n_if_ge C 35 dX3_moves_24 (by decide) (by unfold rg; omega) (fun b24 => ?_) (fun b24 => ?_)
    · refine n_iload_n C dX3_moves_35 rfl ?_
      refine n_istore_n (lv' := [(2, iv ((M 20 i) - (M 19 i))), (0, .ref o), (1, iv (i : Int))]) C dX3_moves_36 (by rw [hN]; decide) rfl ?_
      refine n_iload_n C dX3_moves_37 rfl ?_
      refine n_sipush (x := 180) C dX3_moves_38 (by decide) ?_
      refine n_icmp_le C 52 dX3_moves_41 (by decide) (by unfold rg; omega) (by unfold rg; omega) (fun b41 => ?_) (fun b41 => ?_)
      · refine n_iload_n C dX3_moves_52 rfl ?_
        refine n_istore_n (lv' := [(2, iv ((M 20 i) - (M 19 i))), (0, .ref o), (1, iv (i : Int))]) C dX3_moves_53 (by rw [hN]; decide) rfl ?_
        refine n_keep (lv' := [(0, .ref o), (1, iv (i : Int)), (2, iv ((M 20 i) - (M 19 i)))]) [0, 1, 2] rfl ?_
        exact J54 _ (by simp only []; (repeat' split) <;> omega)
      · refine n_iload_n C dX3_moves_44 rfl ?_
        refine n_sipush (x := 360) C dX3_moves_45 (by decide) ?_
        refine n_isub C dX3_moves_48 ?_
        refine n_goto C 53 dX3_moves_49 (by decide) ?_
        refine n_istore_n (lv' := [(2, iv (((M 20 i) - (M 19 i)) - 360)), (0, .ref o), (1, iv (i : Int))]) C dX3_moves_53 (by rw [hN]; decide) rfl ?_
        refine n_keep (lv' := [(0, .ref o), (1, iv (i : Int)), (2, iv (((M 20 i) - (M 19 i)) - 360))]) [0, 1, 2] rfl ?_
        exact J54 _ (by simp only []; (repeat' split) <;> omega)
    · refine n_iload_n C dX3_moves_27 rfl ?_
      refine n_sipush (x := 360) C dX3_moves_28 (by decide) ?_
      refine n_iadd C dX3_moves_31 ?_
      refine n_goto C 36 dX3_moves_32 (by decide) ?_
      refine n_istore_n (lv' := [(2, iv (((M 20 i) - (M 19 i)) + 360)), (0, .ref o), (1, iv (i : Int))]) C dX3_moves_36 (by rw [hN]; decide) rfl ?_
      refine n_iload_n C dX3_moves_37 rfl ?_
      refine n_sipush (x := 180) C dX3_moves_38 (by decide) ?_
      refine n_icmp_le C 52 dX3_moves_41 (by decide) (by unfold rg; omega) (by unfold rg; omega) (fun b41 => ?_) (fun b41 => ?_)
      · refine n_iload_n C dX3_moves_52 rfl ?_
        refine n_istore_n (lv' := [(2, iv (((M 20 i) - (M 19 i)) + 360)), (0, .ref o), (1, iv (i : Int))]) C dX3_moves_53 (by rw [hN]; decide) rfl ?_
        refine n_keep (lv' := [(0, .ref o), (1, iv (i : Int)), (2, iv (((M 20 i) - (M 19 i)) + 360))]) [0, 1, 2] rfl ?_
        exact J54 _ (by simp only []; (repeat' split) <;> omega)
      · refine n_iload_n C dX3_moves_44 rfl ?_
        refine n_sipush (x := 360) C dX3_moves_45 (by decide) ?_
        refine n_isub C dX3_moves_48 ?_
        refine n_goto C 53 dX3_moves_49 (by decide) ?_
        refine n_istore_n (lv' := [(2, iv ((((M 20 i) - (M 19 i)) + 360) - 360)), (0, .ref o), (1, iv (i : Int))]) C dX3_moves_53 (by rw [hN]; decide) rfl ?_
        refine n_keep (lv' := [(0, .ref o), (1, iv (i : Int)), (2, iv ((((M 20 i) - (M 19 i)) + 360) - 360))]) [0, 1, 2] rfl ?_
        exact J54 _ (by simp only []; (repeat' split) <;> omega)
end
section
section RS2
theorem mv_rg {tb sp a m : Int} (ha : 0 ≤ a ∧ a ≤ 359) (hm : 0 ≤ m ∧ m ≤ 359) (hs : 0 ≤ sp ∧ sp ≤ 10) : 0 ≤ mv tb sp a m ∧ mv tb sp a m ≤ 359 := by
  unfold mv
  simp only []
  by_cases h : tb = 0
  · simp only [if_pos h]
    (repeat' split) <;> omega
  · simp only [if_neg h]
    omega
theorem aim_rg {c : Tb} (hw : WF c) {i : Nat} {r : Int} : 0 ≤ aimOf c i r ∧ aimOf c i r ≤ 359 := by
  obtain ⟨-, -, -, -, -, -, -, wm, wq, -⟩ := hw
  unfold aimOf
  split
  · exact (wm i).2.2.2.2.2.2.1
  · exact (wq r.toNat).2.2.2.2.1
theorem tr_s (c : Tb) (L i t : Nat) : tr c L i (t + 1) = (mv (c 1 i) (c 4 i) (tr c L i t).1 (aimOf c i (if (if t % L = 0 then eff c i (t / L : Nat) else -1) = -1 then (tr c L i t).2 else (if t % L = 0 then eff c i (t / L : Nat) else -1))), if (if t % L = 0 then eff c i (t / L : Nat) else -1) = -1 then (tr c L i t).2 else (if t % L = 0 then eff c i (t / L : Nat) else -1)) := rfl
theorem tr_rg {c : Tb} (hw : WF c) (L i : Nat) : ∀ t : Nat, 0 ≤ (tr c L i t).1 ∧ (tr c L i t).1 ≤ 359
  | 0 => (hw.2.2.2.2.2.2.2.1 i).2.2.2.2.2.2.1
  | t + 1 => by
    rw [tr_s]
    exact mv_rg (tr_rg hw L i t) (aim_rg hw) (hw.2.2.2.2.2.2.2.1 i).2.2.2.2.1
theorem aim_n {c : Tb} {i : Nat} {e r : Int} (h : e = -1) : aimOf c i (if e = -1 then r else e) = aimOf c i r := by rw [if_pos h]
theorem aim_y {c : Tb} {i : Nat} {e r : Int} (h : e ≠ -1) : aimOf c i (if e = -1 then r else e) = c 9 e.toNat := by
  rw [if_neg h]
  exact if_neg h
/-- codes (0: it goes, else the place in the throws clause) and answers -/
def LL (c : Tb) : Nat := (lenB c (c 14 0)).toNat
def cdPlace (c : Tb) (a t : Int) : Int := if 0 ≤ a ∧ a < c 0 0 then (if 0 ≤ t ∧ t ≤ c 12 0 * lenB c (c 14 0) then 0 else 2) else 1
def cdBar (c : Tb) (a b : Int) : Int := if 0 ≤ a ∧ a < c 0 0 then (if 0 ≤ b ∧ b ≤ c 12 0 then 0 else 2) else 1
def vlPlace (c : Tb) (a t : Int) : Int := (tr c (LL c) a.toNat t.toNat).1
end RS2
set_option maxRecDepth 100000 in
set_option maxHeartbeats 4000000 in
theorem c_placeAt {g : Gx} (hst : g.1.stackTraces = false) {o : Nat} {ar : Nat → Nat} {β : Wd} {M c : Tb} (I : RI o ar) {σ : Wd} (hM : MW g.2.1 o ar β M σ) (hc : cut M = c) (hw : WF c) {i t : Nat} (hi : i < 6) (hi2 : i < c 0 0) (ht : t ≤ c 12 0 * lenB c (c 14 0)) (ht2 : c 12 0 * lenB c (c 14 0) ≤ 2400) : CT g yX3_placeAt cX3_placeAt 6 (some .int) 3 0 0 [.ref o, iv (i : Int), iv (t : Int)] σ (fun r σ' => ∃ M', r = some (iv (tr c (LL c) i t).1) ∧ MW g.2.1 o ar β M' σ' ∧ cut M' = c ∧ M' 26 0 = M 26 0) (fun _ _ => False) := by
  refine CT.of hst (by decide +kernel) (Nat.le_of_ble_eq_true rfl) (fun Φ C Rr hY hN => ?_)
  show N Φ 0 0 σ 0 [(0, .ref o), (1, iv (i : Int)), (2, iv (t : Int))] []
  obtain ⟨w0, w6, w12, w13, w14, w15, w16, wm, wq, ww⟩ := id hw
  obtain ⟨L, hL⟩ : ∃ L : Nat, lenB c (c 14 0) = L := ⟨(lenB c (c 14 0)).toNat, by have := lenB_rg hw (T := c 14 0) (by omega); omega⟩
  have hLr := lenB_rg hw (T := c 14 0) (by omega)
  rw [hL] at hLr ht ht2
  have hLL : LL c = L := by unfold LL; rw [hL, Int.toNat_natCast]
  refine n_aload_n C dX3_placeAt_0 rfl ?_
  refine n_aload_n C dX3_placeAt_1 rfl ?_
  refine r_getc C hM hc 14 (by decide) w4_142 rfl rfl dX3_placeAt_2 ?_
  refine n_invV C (c_lengthBy hst (by omega) I hM hc hw) ⟨w5_32, w5_35, w1_5, ⟨by decide, by decide⟩, by show _ = some 1; decide +kernel, by decide⟩ w5_34 wp_27 hM.1 (show vwCl[6]? = some ("OperaMachinesModel", TX3, 27) from rfl) (by decide) (by omega) (by omega) (Nat.le_of_ble_eq_true rfl) rfl dX3_placeAt_5 (fun r σ' h => ?_) (fun _ _ h => h.elim)
  obtain ⟨rfl, rfl⟩ := h
  rw [hL]
  refine n_istore_n (lv' := [(3, iv (L : Int)), (0, .ref o), (1, iv (i : Int)), (2, iv (t : Int))]) C dX3_placeAt_8 (by rw [hN]; decide) rfl ?_
  refine n_aload_n C dX3_placeAt_9 rfl ?_
  refine n_invV C (c_sets hst I hM hc hw) ⟨w5_48, w5_51, w1_5, ⟨by decide, by decide⟩, by show _ = some 0; decide +kernel, by decide⟩ w5_50 wp_29 hM.1 (show vwCl[6]? = some ("OperaMachinesModel", TX3, 27) from rfl) (by decide) (by omega) (by omega) (Nat.le_of_ble_eq_true rfl) rfl dX3_placeAt_10 (fun r σ h => ?_) (fun _ _ h => h.elim)
  obtain ⟨M1, rfl, hM, hc, hz, h26⟩ := h
  refine n_iconst (x := 0) C dX3_placeAt_13 ?_
  refine n_istore (lv' := [(4, iv 0), (3, iv (L : Int)), (0, .ref o), (1, iv (i : Int)), (2, iv (t : Int))]) C dX3_placeAt_14 (by rw [hN]; decide) rfl ?_
  have LP : ∀ (fu : Nat) (τ : Nat) (σ : Wd) (M1 : Tb) (hM : MW g.2.1 o ar β M1 σ) (hc : cut M1 = c) (h1 : τ ≤ t) (h2 : t + 1 ≤ τ + fu) (h19 : M1 19 i = (tr c L i τ).1) (h20 : M1 20 i = aimOf c i (tr c L i τ).2) (h26 : M1 26 0 = M 26 0), N Φ 0 0 σ 16 [(4, iv (τ : Int)), (3, iv (L : Int)), (0, .ref o), (1, iv (i : Int)), (2, iv (t : Int))] [] := by
    intro fu
    induction fu with
    | zero =>
      intro τ σ M1 hM hc h1 h2 h19 h20 h26
      omega
    | succ fu ih =>
      intro τ σ M1 hM hc h1 h2 h19 h20 h26
      have w1 := wm i
      have q0 := tr_rg hw L i τ
      have q1 := aim_rg hw (i := i) (r := (tr c L i τ).2)
      refine n_iload C dX3_placeAt_16 rfl ?_
      refine n_iload_n C dX3_placeAt_18 rfl ?_
      refine n_icmp_ge C 83 dX3_placeAt_19 (by decide) (by unfold rg; omega) (by unfold rg; omega) (fun b19 => ?_) (fun b19 => ?_)
      · have e1 : τ = t := by omega
        subst e1
        refine n_aload_n C dX3_placeAt_83 rfl ?_
        refine r_get C hM 19 (by decide) w4_147 rfl rfl dX3_placeAt_84 ?_
        refine n_iload_n C dX3_placeAt_87 rfl ?_
        refine r_iald C hM 19 rfl rfl i rfl (show _ < 6 by omega) dX3_placeAt_88 ?_
        exact n_ireturn C Rr rfl ⟨_, by rw [h19, hLL], hM, hc, h26⟩ (by omega) (by omega) dX3_placeAt_89
      · have hdv : τ / L < 30 := by
          have z : τ < 30 * L := by
            have : c 12 0 * (L : Int) ≤ 30 * (L : Int) := Int.mul_le_mul_of_nonneg_right (by omega) (by omega)
            omega
          exact Nat.div_lt_of_lt_mul (by rw [Nat.mul_comm]; exact z)
        have hdI : (0 : Int) ≤ ((τ / L : Nat) : Int) ∧ ((τ / L : Nat) : Int) ≤ 30 := ⟨Int.natCast_nonneg _, Int.ofNat_le.mpr (Nat.le_of_lt hdv)⟩
        have J42 : ∀ (e : Int) (e1 : e = if τ % L = 0 then eff c i (τ / L : Nat) else -1), N Φ 0 0 σ 42 [(4, iv (τ : Int)), (3, iv (L : Int)), (0, .ref o), (1, iv (i : Int)), (2, iv (t : Int))] [iv e] := by
          intro e e1
          have e2 : -1 ≤ e ∧ e < 24 := by
            rw [e1]
            split
            · have := eff_rg c i (τ / L : Nat) (c 6 0).toNat (by omega)
              unfold eff; omega
            · omega
          refine n_istore (lv' := [(5, iv e), (4, iv (τ : Int)), (3, iv (L : Int)), (0, .ref o), (1, iv (i : Int)), (2, iv (t : Int))]) C dX3_placeAt_42 (by rw [hN]; decide) rfl ?_
          refine n_aload_n C dX3_placeAt_44 rfl ?_
          refine r_get C hM 20 (by decide) w4_148 rfl rfl dX3_placeAt_45 ?_
          refine n_iload_n C dX3_placeAt_48 rfl ?_
          refine n_iload C dX3_placeAt_49 rfl ?_
          refine n_iconst (x := (-1)) C dX3_placeAt_51 ?_
          refine n_icmp_ne C 64 dX3_placeAt_52 (by decide) (by unfold rg; omega) (by unfold rg; omega) (fun b52 => ?_) (fun b52 => ?_)
          · refine n_aload_n C dX3_placeAt_64 rfl ?_
            refine r_get C hM 9 (by decide) w4_137 rfl rfl dX3_placeAt_65 ?_
            refine n_iload C dX3_placeAt_68 rfl ?_
            refine r_ialdc C hM hc 9 (by decide) rfl rfl ((e).toNat) (by omega) (show _ < 24 by omega) dX3_placeAt_70 ?_
            refine r_iast C I hM 20 rfl rfl i rfl (show _ < 6 by omega) dX3_placeAt_71 (fun σ hM => ?_)
            replace hc : cut (tu M1 20 i (c 9 ((e).toNat))) = c := (cut_tu (by decide)).trans hc
            refine n_aload_n C dX3_placeAt_72 rfl ?_
            refine n_iload_n C dX3_placeAt_73 rfl ?_
            refine n_invV C (c_moves hst I hM hc hw hi (by rw [tu_k (by decide)]; omega) (by rw [tu_s]; exact (wq e.toNat).2.2.2.2.1)) ⟨w5_56, w5_59, w1_5, ⟨by decide, by decide⟩, by show _ = some 1; decide +kernel, by decide⟩ w5_58 wp_31 hM.1 (show vwCl[6]? = some ("OperaMachinesModel", TX3, 27) from rfl) (by decide) (by omega) (by omega) (Nat.le_of_ble_eq_true rfl) rfl dX3_placeAt_74 (fun r σ h => ?_) (fun _ _ h => h.elim)
            obtain ⟨M3, rfl, hM, hc, rfl⟩ := h
            rw [tu_s, tu_k (show (19 : Nat) ≠ 20 by decide)] at hM hc
            refine n_iinc (lv' := [(4, iv ((τ : Int) + 1)), (5, iv e), (3, iv (L : Int)), (0, .ref o), (1, iv (i : Int)), (2, iv (t : Int))]) C dX3_placeAt_77 rfl (by rw [hN]; decide) rfl ?_
            refine n_goto C 16 dX3_placeAt_80 (by decide) ?_
            refine n_keep (lv' := [(4, iv ((τ : Int) + 1)), (3, iv (L : Int)), (0, .ref o), (1, iv (i : Int)), (2, iv (t : Int))]) [4, 3, 0, 1, 2] rfl ?_
            refine ih (τ + 1) _ _ hM hc (by omega) (by omega) ?_ ?_ (by rw [tu_k (by decide), tu_k (by decide)]; exact h26)
            · rw [tu_s, tr_s, ← e1, aim_y (by omega), h19]
            · rw [tu_k (by decide), tu_s, tr_s, ← e1]
              show _ = aimOf c i (if e = -1 then _ else e)
              rw [aim_y (by omega)]
          · refine n_aload_n C dX3_placeAt_55 rfl ?_
            refine r_get C hM 20 (by decide) w4_148 rfl rfl dX3_placeAt_56 ?_
            refine n_iload_n C dX3_placeAt_59 rfl ?_
            refine r_iald C hM 20 rfl rfl i rfl (show _ < 6 by omega) dX3_placeAt_60 ?_
            refine n_goto C 71 dX3_placeAt_61 (by decide) ?_
            refine r_iast C I hM 20 rfl rfl i rfl (show _ < 6 by omega) dX3_placeAt_71 (fun σ hM => ?_)
            replace hc : cut (tu M1 20 i (M1 20 i)) = c := (cut_tu (by decide)).trans hc
            refine n_aload_n C dX3_placeAt_72 rfl ?_
            refine n_iload_n C dX3_placeAt_73 rfl ?_
            refine n_invV C (c_moves hst I hM hc hw hi (by rw [tu_k (by decide)]; omega) (by rw [tu_s]; omega)) ⟨w5_56, w5_59, w1_5, ⟨by decide, by decide⟩, by show _ = some 1; decide +kernel, by decide⟩ w5_58 wp_31 hM.1 (show vwCl[6]? = some ("OperaMachinesModel", TX3, 27) from rfl) (by decide) (by omega) (by omega) (Nat.le_of_ble_eq_true rfl) rfl dX3_placeAt_74 (fun r σ h => ?_) (fun _ _ h => h.elim)
            obtain ⟨M3, rfl, hM, hc, rfl⟩ := h
            rw [tu_s, tu_k (show (19 : Nat) ≠ 20 by decide)] at hM hc
            refine n_iinc (lv' := [(4, iv ((τ : Int) + 1)), (5, iv e), (3, iv (L : Int)), (0, .ref o), (1, iv (i : Int)), (2, iv (t : Int))]) C dX3_placeAt_77 rfl (by rw [hN]; decide) rfl ?_
            refine n_goto C 16 dX3_placeAt_80 (by decide) ?_
            refine n_keep (lv' := [(4, iv ((τ : Int) + 1)), (3, iv (L : Int)), (0, .ref o), (1, iv (i : Int)), (2, iv (t : Int))]) [4, 3, 0, 1, 2] rfl ?_
            refine ih (τ + 1) _ _ hM hc (by omega) (by omega) ?_ ?_ (by rw [tu_k (by decide), tu_k (by decide)]; exact h26)
            · rw [tu_s, tr_s, ← e1, aim_n (by omega), h19, h20]
            · rw [tu_k (by decide), tu_s, tr_s, ← e1]
              show _ = aimOf c i (if e = -1 then _ else e)
              rw [aim_n (by omega), h20]
        refine n_iload C dX3_placeAt_22 rfl ?_
        refine n_iload_n C dX3_placeAt_24 rfl ?_
        refine n_iremP C dX3_placeAt_25 (by unfold rg; omega) (by unfold rg; omega) (by omega) (by omega) ?_
        have hm0 : ((τ : Int) % (L : Int)) = ((τ % L : Nat) : Int) := rfl
        have hm1 : τ % L < L := Nat.mod_lt _ (by omega)
        rw [hm0]
        refine n_if_ne C 41 dX3_placeAt_26 (by decide) (by unfold rg; omega) (fun b26 => ?_) (fun b26 => ?_)
        · have hm : ¬ τ % L = 0 := by omega
          refine n_iconst (x := (-1)) C dX3_placeAt_41 ?_
          exact J42 _ (by rw [if_neg hm])
        · have hm : τ % L = 0 := by omega
          refine n_aload_n C dX3_placeAt_29 rfl ?_
          refine n_iload_n C dX3_placeAt_30 rfl ?_
          refine n_iload C dX3_placeAt_31 rfl ?_
          refine n_iload_n C dX3_placeAt_33 rfl ?_
          refine n_idivP C dX3_placeAt_34 (by unfold rg; omega) (by unfold rg; omega) (by omega) (by omega) ?_
          refine n_invV C (c_effect (b := ((τ / L : Nat) : Int)) hst (by omega) hdI I hM hc hw) ⟨w5_52, w5_55, w1_5, ⟨by decide, by decide⟩, by show _ = some 2; decide +kernel, by decide⟩ w5_54 wp_30 hM.1 (show vwCl[6]? = some ("OperaMachinesModel", TX3, 27) from rfl) (by decide) (by omega) (by omega) (Nat.le_of_ble_eq_true rfl) rfl dX3_placeAt_35 (fun r σ' h => ?_) (fun _ _ h => h.elim)
          obtain ⟨rfl, rfl⟩ := h
          refine n_goto C 42 dX3_placeAt_38 (by decide) ?_
          exact J42 _ (by rw [if_pos hm])
  exact LP (t + 1) 0 _ _ hM hc (by omega) (by omega) (hz i (by omega)).1 (by rw [(hz i (by omega)).2.1]; rfl) h26
end
section
section RS3
theorem r_ialdv {g : Gx} {Φ : Fx} {cc : ByteArray} {own : String} {ret : Option FieldType} {d mc ms k n : Nat} {σ β : Wd} {pc : Nat} {lv : List (Nat × Value)} {st : List Value} {o : Nat} {ar : Nat → Nat} {M : Tb} (C : Ok g Φ cc own ret d mc ms) (hM : MW g.2.1 o ar β M σ) (a : Nat) (hA : isA a = true) (hZ : isZ a = false) (j : Nat) {x y : Int} (hj : x = (j : Int)) (hl : j < aLen a) (hv : M a j = y) (hd : decode cc pc = .ok (.iaload, 1)) (K : N Φ k n σ (pc + 1) lv (iv y :: st)) : N Φ k n σ pc lv (iv x :: .ref (ar a) :: st) := by
  rw [← hv] at K
  exact r_iald C hM a hA hZ j hj hl hd K
theorem r_zaldv {g : Gx} {Φ : Fx} {cc : ByteArray} {own : String} {ret : Option FieldType} {d mc ms k n : Nat} {σ β : Wd} {pc : Nat} {lv : List (Nat × Value)} {st : List Value} {o : Nat} {ar : Nat → Nat} {M : Tb} (C : Ok g Φ cc own ret d mc ms) (hM : MW g.2.1 o ar β M σ) (a : Nat) (hA : isA a = true) (hZ : isZ a = true) (j : Nat) {x y : Int} (hj : x = (j : Int)) (hl : j < aLen a) (hv : M a j = y) (hd : decode cc pc = .ok (.baload, 1)) (K : N Φ k n σ (pc + 1) lv (iv y :: st)) : N Φ k n σ pc lv (iv x :: .ref (ar a) :: st) := by
  rw [← hv] at K
  exact r_zald C hM a hA hZ j hj hl hd K
/-- codes: 0 where the call goes through, else which exception of its throws clause; values; what the table becomes -/
def cdWagon (c : Tb) (t p w s : Int) : Int := if (0 ≤ t ∧ t ≤ 2) ∧ (0 ≤ p ∧ p ≤ 200) ∧ (1 ≤ w ∧ w ≤ 20) ∧ (1 ≤ s ∧ s ≤ 10) then (if c 0 0 = 6 then 2 else 0) else 1
def nxWagon (c : Tb) (t p w s : Int) : Tb := tu (tu (tu (tu (tu c 2 (c 0 0).toNat t) 3 (c 0 0).toNat w) 4 (c 0 0).toNat s) 5 (c 0 0).toNat p) 0 0 (c 0 0 + 1)
def cdTable (c : Tb) (a s : Int) : Int := if (0 ≤ a ∧ a ≤ 359) ∧ (1 ≤ s ∧ s ≤ 10) then (if c 0 0 = 6 then 2 else 0) else 1
def nxTable (c : Tb) (a s : Int) : Tb := tu (tu (tu (tu c 1 (c 0 0).toNat 1) 4 (c 0 0).toNat s) 5 (c 0 0).toNat a) 0 0 (c 0 0 + 1)
def fitB (c : Tb) (b : Int) : Nat → Bool
  | 0 => true
  | k + 1 => fitB c b k && (decide (c 11 k ≠ 0) || decide (c 7 k < b))
def cdScore (c : Tb) (b t : Int) : Int := if (1 ≤ b ∧ b ≤ 30) ∧ (1 ≤ t ∧ t ≤ 40) then (if fitB c b (c 6 0).toNat = true then 0 else 2) else 1
def nxScore (c : Tb) (b t : Int) : Tb := tu (tu c 12 0 b) 13 0 t
def cdCue (c : Tb) (a b t w : Int) : Int := if 0 ≤ a ∧ a < c 0 0 then (if (0 ≤ b ∧ b ≤ c 12 0 - 1) ∧ (0 ≤ t ∧ t ≤ (if c 1 a.toNat = 0 then 200 else 359)) ∧ (0 ≤ w ∧ w ≤ 5) then (if c 6 0 = 24 then 3 else 0) else 2) else 1
def nxCue (c : Tb) (a b t w : Int) : Tb := tu (tu (tu (tu (tu c 8 (c 6 0).toNat a) 7 (c 6 0).toNat b) 9 (c 6 0).toNat t) 10 (c 6 0).toNat w) 6 0 (c 6 0 + 1)
def cdIs (c : Tb) (q : Int) : Int := if 0 ≤ q ∧ q < c 6 0 ∧ c 11 q.toNat = 0 then 0 else 1
def nxOut (c : Tb) (q : Int) : Tb := tu c 11 q.toNat 1
def cdTempo (T : Int) : Int := if 50 ≤ T ∧ T ≤ 200 then 0 else 1
def nxTempo (c : Tb) (T : Int) : Tb := tu c 14 0 T
def cdRules (r l : Int) : Int := if (0 ≤ r ∧ r ≤ 100) ∧ (0 ≤ l ∧ l ≤ 2400) then 0 else 1
def nxRules (c : Tb) (r l : Int) : Tb := tu (tu c 15 0 r) 16 0 l
def cdWork (w : Int) : Int := if 0 ≤ w ∧ w ≤ 5 then 0 else 1
def nxStrike (c : Tb) (w s : Int) : Tb := tu c 17 w.toNat s
def cdSub (w s : Int) : Int := if (0 ≤ w ∧ w ≤ 5) ∧ (-1 ≤ s ∧ s ≤ 5) then 0 else 1
def nxSub (c : Tb) (w s : Int) : Tb := tu c 18 w.toNat s
end RS3
set_option maxRecDepth 100000 in
set_option maxHeartbeats 4000000 in
theorem c_rwagon {g : Gx} (hst : g.1.stackTraces = false) {t : Int} (hrt : rg t) {p : Int} (hrp : rg p) {z : Int} (hrz : rg z) {v : Int} (hrv : rg v) {o : Nat} {ar : Nat → Nat} {β : Wd} {M c : Tb} (I : RI o ar) {σ : Wd} (hM : MW g.2.1 o ar β M σ) (hc : cut M = c) (hw : WF c) : CT g yX3_wagon cX3_wagon 6 (some .int) 1 0 0 [.ref o, iv t, iv p, iv z, iv v] σ (fun r σ' => ∃ (x : Int) (M' : Tb), r = some (iv x) ∧ MW g.2.1 o ar β M' σ' ∧ M' 26 0 = cdWagon c t p z v ∧ (cdWagon c t p z v = 0 → x = c 0 0 ∧ cut M' = nxWagon c t p z v) ∧ (cdWagon c t p z v ≠ 0 → cut M' = c)) (fun _ _ => False) := by
  refine CT.of hst (by decide +kernel) (Nat.le_of_ble_eq_true rfl) (fun Φ C Rr hY hN => ?_)
  show N Φ 0 0 σ 0 [(0, .ref o), (1, iv t), (2, iv p), (3, iv z), (4, iv v)] []
  unfold rg at hrt hrp hrz hrv
  obtain ⟨w0, w6, w12, w13, w14, w15, w16, wm, wq, ww⟩ := id hw
  refine n_iload_n C dX3_wagon_0 rfl ?_
  refine n_iconst (x := 0) C dX3_wagon_1 ?_
  refine n_iconst (x := 2) C dX3_wagon_2 ?_
  refine n_invS C (c_isIn hst (by unfold rg; omega) (by unfold rg; omega) (by unfold rg; omega)) ⟨w4_218, w4_220, w1_5, ⟨by decide, by decide⟩, by show _ = some 3; decide +kernel, by decide⟩ w4_219 (by decide) (by omega) (by omega) (Nat.le_of_ble_eq_true rfl) rfl dX3_wagon_3 (fun r σ' h => ?_) (fun _ _ h => h.elim)
  obtain ⟨x0, rfl, rfl, hx0⟩ := h
  refine n_if_eq C 45 dX3_wagon_6 (by decide) (by unfold rg; omega) (fun b6 => ?_) (fun b6 => ?_)
  · refine n_iconst (x := 0) C dX3_wagon_45 ?_
    refine n_istore (lv' := [(5, iv 0), (0, .ref o), (1, iv t), (2, iv p), (3, iv z), (4, iv v)]) C dX3_wagon_46 (by rw [hN]; decide) rfl ?_
    refine n_aload_n C dX3_wagon_48 rfl ?_
    refine n_iload C dX3_wagon_49 rfl ?_
    refine n_if_ne C 58 dX3_wagon_51 (by decide) (by unfold rg; omega) (fun b51 => ?_) (fun b51 => ?_)
    · exfalso; omega
    · refine n_iconst (x := 1) C dX3_wagon_54 ?_
      refine n_goto C 72 dX3_wagon_55 (by decide) ?_
      refine n_invV C (c_can hst (by omega) I hM hc) ⟨w4_221, w4_224, w1_5, ⟨by decide, by decide⟩, by show _ = some 1; decide +kernel, by decide⟩ w4_223 wp_24 hM.1 (show vwCl[6]? = some ("OperaMachinesModel", TX3, 27) from rfl) (by decide) (by omega) (by omega) (Nat.le_of_ble_eq_true rfl) rfl dX3_wagon_72 (fun r σ h => ?_) (fun _ _ h => h.elim)
      obtain ⟨xc, M1, rfl, hM, hc, h26, hxc⟩ := h
      refine n_if_ne C 80 dX3_wagon_75 (by decide) (by unfold rg; omega) (fun b75 => ?_) (fun b75 => ?_)
      · exfalso; omega
      · have hcd : cdWagon c t p z v = 1 := by unfold cdWagon; rw [if_neg (by omega)]
        refine n_iconst (x := 0) C dX3_wagon_78 ?_
        exact n_ireturn C Rr rfl ⟨_, _, rfl, hM, h26.trans hcd.symm, fun q => absurd (hcd.symm.trans q) (by decide), fun _ => hc⟩ (by omega) (by omega) dX3_wagon_79
  · refine n_iload_n C dX3_wagon_9 rfl ?_
    refine n_iconst (x := 0) C dX3_wagon_10 ?_
    refine n_sipush (x := 200) C dX3_wagon_11 (by decide) ?_
    refine n_invS C (c_isIn hst (by unfold rg; omega) (by unfold rg; omega) (by unfold rg; omega)) ⟨w4_218, w4_220, w1_5, ⟨by decide, by decide⟩, by show _ = some 3; decide +kernel, by decide⟩ w4_219 (by decide) (by omega) (by omega) (Nat.le_of_ble_eq_true rfl) rfl dX3_wagon_14 (fun r σ' h => ?_) (fun _ _ h => h.elim)
    obtain ⟨x9, rfl, rfl, hx9⟩ := h
    refine n_if_eq C 45 dX3_wagon_17 (by decide) (by unfold rg; omega) (fun b17 => ?_) (fun b17 => ?_)
    · refine n_iconst (x := 0) C dX3_wagon_45 ?_
      refine n_istore (lv' := [(5, iv 0), (0, .ref o), (1, iv t), (2, iv p), (3, iv z), (4, iv v)]) C dX3_wagon_46 (by rw [hN]; decide) rfl ?_
      refine n_aload_n C dX3_wagon_48 rfl ?_
      refine n_iload C dX3_wagon_49 rfl ?_
      refine n_if_ne C 58 dX3_wagon_51 (by decide) (by unfold rg; omega) (fun b51 => ?_) (fun b51 => ?_)
      · exfalso; omega
      · refine n_iconst (x := 1) C dX3_wagon_54 ?_
        refine n_goto C 72 dX3_wagon_55 (by decide) ?_
        refine n_invV C (c_can hst (by omega) I hM hc) ⟨w4_221, w4_224, w1_5, ⟨by decide, by decide⟩, by show _ = some 1; decide +kernel, by decide⟩ w4_223 wp_24 hM.1 (show vwCl[6]? = some ("OperaMachinesModel", TX3, 27) from rfl) (by decide) (by omega) (by omega) (Nat.le_of_ble_eq_true rfl) rfl dX3_wagon_72 (fun r σ h => ?_) (fun _ _ h => h.elim)
        obtain ⟨xc, M1, rfl, hM, hc, h26, hxc⟩ := h
        refine n_if_ne C 80 dX3_wagon_75 (by decide) (by unfold rg; omega) (fun b75 => ?_) (fun b75 => ?_)
        · exfalso; omega
        · have hcd : cdWagon c t p z v = 1 := by unfold cdWagon; rw [if_neg (by omega)]
          refine n_iconst (x := 0) C dX3_wagon_78 ?_
          exact n_ireturn C Rr rfl ⟨_, _, rfl, hM, h26.trans hcd.symm, fun q => absurd (hcd.symm.trans q) (by decide), fun _ => hc⟩ (by omega) (by omega) dX3_wagon_79
    · refine n_iload_n C dX3_wagon_20 rfl ?_
      refine n_iconst (x := 1) C dX3_wagon_21 ?_
      refine n_bipush (x := 20) C dX3_wagon_22 (by decide) ?_
      refine n_invS C (c_isIn hst (by unfold rg; omega) (by unfold rg; omega) (by unfold rg; omega)) ⟨w4_218, w4_220, w1_5, ⟨by decide, by decide⟩, by show _ = some 3; decide +kernel, by decide⟩ w4_219 (by decide) (by omega) (by omega) (Nat.le_of_ble_eq_true rfl) rfl dX3_wagon_24 (fun r σ' h => ?_) (fun _ _ h => h.elim)
      obtain ⟨x20, rfl, rfl, hx20⟩ := h
      refine n_if_eq C 45 dX3_wagon_27 (by decide) (by unfold rg; omega) (fun b27 => ?_) (fun b27 => ?_)
      · refine n_iconst (x := 0) C dX3_wagon_45 ?_
        refine n_istore (lv' := [(5, iv 0), (0, .ref o), (1, iv t), (2, iv p), (3, iv z), (4, iv v)]) C dX3_wagon_46 (by rw [hN]; decide) rfl ?_
        refine n_aload_n C dX3_wagon_48 rfl ?_
        refine n_iload C dX3_wagon_49 rfl ?_
        refine n_if_ne C 58 dX3_wagon_51 (by decide) (by unfold rg; omega) (fun b51 => ?_) (fun b51 => ?_)
        · exfalso; omega
        · refine n_iconst (x := 1) C dX3_wagon_54 ?_
          refine n_goto C 72 dX3_wagon_55 (by decide) ?_
          refine n_invV C (c_can hst (by omega) I hM hc) ⟨w4_221, w4_224, w1_5, ⟨by decide, by decide⟩, by show _ = some 1; decide +kernel, by decide⟩ w4_223 wp_24 hM.1 (show vwCl[6]? = some ("OperaMachinesModel", TX3, 27) from rfl) (by decide) (by omega) (by omega) (Nat.le_of_ble_eq_true rfl) rfl dX3_wagon_72 (fun r σ h => ?_) (fun _ _ h => h.elim)
          obtain ⟨xc, M1, rfl, hM, hc, h26, hxc⟩ := h
          refine n_if_ne C 80 dX3_wagon_75 (by decide) (by unfold rg; omega) (fun b75 => ?_) (fun b75 => ?_)
          · exfalso; omega
          · have hcd : cdWagon c t p z v = 1 := by unfold cdWagon; rw [if_neg (by omega)]
            refine n_iconst (x := 0) C dX3_wagon_78 ?_
            exact n_ireturn C Rr rfl ⟨_, _, rfl, hM, h26.trans hcd.symm, fun q => absurd (hcd.symm.trans q) (by decide), fun _ => hc⟩ (by omega) (by omega) dX3_wagon_79
      · refine n_iload C dX3_wagon_30 rfl ?_
        refine n_iconst (x := 1) C dX3_wagon_32 ?_
        refine n_bipush (x := 10) C dX3_wagon_33 (by decide) ?_
        refine n_invS C (c_isIn hst (by unfold rg; omega) (by unfold rg; omega) (by unfold rg; omega)) ⟨w4_218, w4_220, w1_5, ⟨by decide, by decide⟩, by show _ = some 3; decide +kernel, by decide⟩ w4_219 (by decide) (by omega) (by omega) (Nat.le_of_ble_eq_true rfl) rfl dX3_wagon_35 (fun r σ' h => ?_) (fun _ _ h => h.elim)
        obtain ⟨x30, rfl, rfl, hx30⟩ := h
        refine n_if_eq C 45 dX3_wagon_38 (by decide) (by unfold rg; omega) (fun b38 => ?_) (fun b38 => ?_)
        · refine n_iconst (x := 0) C dX3_wagon_45 ?_
          refine n_istore (lv' := [(5, iv 0), (0, .ref o), (1, iv t), (2, iv p), (3, iv z), (4, iv v)]) C dX3_wagon_46 (by rw [hN]; decide) rfl ?_
          refine n_aload_n C dX3_wagon_48 rfl ?_
          refine n_iload C dX3_wagon_49 rfl ?_
          refine n_if_ne C 58 dX3_wagon_51 (by decide) (by unfold rg; omega) (fun b51 => ?_) (fun b51 => ?_)
          · exfalso; omega
          · refine n_iconst (x := 1) C dX3_wagon_54 ?_
            refine n_goto C 72 dX3_wagon_55 (by decide) ?_
            refine n_invV C (c_can hst (by omega) I hM hc) ⟨w4_221, w4_224, w1_5, ⟨by decide, by decide⟩, by show _ = some 1; decide +kernel, by decide⟩ w4_223 wp_24 hM.1 (show vwCl[6]? = some ("OperaMachinesModel", TX3, 27) from rfl) (by decide) (by omega) (by omega) (Nat.le_of_ble_eq_true rfl) rfl dX3_wagon_72 (fun r σ h => ?_) (fun _ _ h => h.elim)
            obtain ⟨xc, M1, rfl, hM, hc, h26, hxc⟩ := h
            refine n_if_ne C 80 dX3_wagon_75 (by decide) (by unfold rg; omega) (fun b75 => ?_) (fun b75 => ?_)
            · exfalso; omega
            · have hcd : cdWagon c t p z v = 1 := by unfold cdWagon; rw [if_neg (by omega)]
              refine n_iconst (x := 0) C dX3_wagon_78 ?_
              exact n_ireturn C Rr rfl ⟨_, _, rfl, hM, h26.trans hcd.symm, fun q => absurd (hcd.symm.trans q) (by decide), fun _ => hc⟩ (by omega) (by omega) dX3_wagon_79
        · refine n_iconst (x := 1) C dX3_wagon_41 ?_
          refine n_goto C 46 dX3_wagon_42 (by decide) ?_
          refine n_istore (lv' := [(5, iv 1), (0, .ref o), (1, iv t), (2, iv p), (3, iv z), (4, iv v)]) C dX3_wagon_46 (by rw [hN]; decide) rfl ?_
          refine n_aload_n C dX3_wagon_48 rfl ?_
          refine n_iload C dX3_wagon_49 rfl ?_
          refine n_if_ne C 58 dX3_wagon_51 (by decide) (by unfold rg; omega) (fun b51 => ?_) (fun b51 => ?_)
          · refine n_aload_n C dX3_wagon_58 rfl ?_
            refine r_get (v := iv (c 0 0)) C hM 0 (by decide) w4_128 rfl (congrArg (fun z => some (iv z)) (cut_at hc (by decide) 0)) dX3_wagon_59 ?_
            refine n_bipush (x := 6) C dX3_wagon_62 (by decide) ?_
            refine n_icmp_ne C 71 dX3_wagon_64 (by decide) (by unfold rg; omega) (by unfold rg; omega) (fun b64 => ?_) (fun b64 => ?_)
            · refine n_iconst (x := 0) C dX3_wagon_71 ?_
              refine n_invV C (c_can hst (by omega) I hM hc) ⟨w4_221, w4_224, w1_5, ⟨by decide, by decide⟩, by show _ = some 1; decide +kernel, by decide⟩ w4_223 wp_24 hM.1 (show vwCl[6]? = some ("OperaMachinesModel", TX3, 27) from rfl) (by decide) (by omega) (by omega) (Nat.le_of_ble_eq_true rfl) rfl dX3_wagon_72 (fun r σ h => ?_) (fun _ _ h => h.elim)
              obtain ⟨xc, M1, rfl, hM, hc, h26, hxc⟩ := h
              refine n_if_ne C 80 dX3_wagon_75 (by decide) (by unfold rg; omega) (fun b75 => ?_) (fun b75 => ?_)
              · have hcd : cdWagon c t p z v = 0 := by unfold cdWagon; rw [if_pos (by omega), if_neg (by omega)]
                refine n_aload_n C dX3_wagon_80 rfl ?_
                refine r_get C hM 2 (by decide) w4_130 rfl rfl dX3_wagon_81 ?_
                refine n_aload_n C dX3_wagon_84 rfl ?_
                refine r_get (v := iv (c 0 0)) C hM 0 (by decide) w4_128 rfl (congrArg (fun z => some (iv z)) (cut_at hc (by decide) 0)) dX3_wagon_85 ?_
                refine n_iload_n C dX3_wagon_88 rfl ?_
                refine r_iast C I hM 2 rfl rfl (((c 0 0)).toNat) (by omega) (show _ < 6 by omega) dX3_wagon_89 (fun σ hM => ?_)
                refine n_aload_n C dX3_wagon_90 rfl ?_
                refine r_get C hM 3 (by decide) w4_131 rfl rfl dX3_wagon_91 ?_
                refine n_aload_n C dX3_wagon_94 rfl ?_
                refine r_get (v := iv (c 0 0)) C hM 0 (by decide) w4_128 rfl (congrArg (fun z => some (iv z)) (cut_at hc (by decide) 0)) dX3_wagon_95 ?_
                refine n_iload_n C dX3_wagon_98 rfl ?_
                refine r_iast C I hM 3 rfl rfl (((c 0 0)).toNat) (by omega) (show _ < 6 by omega) dX3_wagon_99 (fun σ hM => ?_)
                refine n_aload_n C dX3_wagon_100 rfl ?_
                refine r_get C hM 4 (by decide) w4_132 rfl rfl dX3_wagon_101 ?_
                refine n_aload_n C dX3_wagon_104 rfl ?_
                refine r_get (v := iv (c 0 0)) C hM 0 (by decide) w4_128 rfl (congrArg (fun z => some (iv z)) (cut_at hc (by decide) 0)) dX3_wagon_105 ?_
                refine n_iload C dX3_wagon_108 rfl ?_
                refine r_iast C I hM 4 rfl rfl (((c 0 0)).toNat) (by omega) (show _ < 6 by omega) dX3_wagon_110 (fun σ hM => ?_)
                refine n_aload_n C dX3_wagon_111 rfl ?_
                refine r_get C hM 5 (by decide) w4_133 rfl rfl dX3_wagon_112 ?_
                refine n_aload_n C dX3_wagon_115 rfl ?_
                refine r_get (v := iv (c 0 0)) C hM 0 (by decide) w4_128 rfl (congrArg (fun z => some (iv z)) (cut_at hc (by decide) 0)) dX3_wagon_116 ?_
                refine n_iload_n C dX3_wagon_119 rfl ?_
                refine r_iast C I hM 5 rfl rfl (((c 0 0)).toNat) (by omega) (show _ < 6 by omega) dX3_wagon_120 (fun σ hM => ?_)
                refine n_aload_n C dX3_wagon_121 rfl ?_
                refine n_dup C dX3_wagon_122 rfl ?_
                refine r_get (v := iv (c 0 0)) C hM 0 (by decide) w4_128 rfl (congrArg (fun z => some (iv z)) (cut_at hc (by decide) 0)) dX3_wagon_123 ?_
                refine n_iconst (x := 1) C dX3_wagon_126 ?_
                refine n_iadd C dX3_wagon_127 ?_
                refine r_put C I hM 0 (by decide) rfl w4_128 rfl rfl rfl rfl dX3_wagon_128 (fun σ hM => ?_)
                refine n_aload_n C dX3_wagon_131 rfl ?_
                refine r_get (v := iv ((c 0 0) + 1)) C hM 0 (by decide) w4_128 rfl rfl dX3_wagon_132 ?_
                refine n_iconst (x := 1) C dX3_wagon_135 ?_
                refine n_isub C dX3_wagon_136 ?_
                exact n_ireturn C Rr rfl ⟨_, _, rfl, hM, (by rw [tu_k (by decide), tu_k (by decide), tu_k (by decide), tu_k (by decide), tu_k (by decide)]; exact h26.trans hcd.symm), fun _ => ⟨by first | rfl | omega, (by rw [cut_tuc (by decide), cut_tuc (by decide), cut_tuc (by decide), cut_tuc (by decide), cut_tuc (by decide), hc]; rfl)⟩, fun q => absurd hcd q⟩ (by omega) (by omega) dX3_wagon_137
              · exfalso; omega
            · refine n_iconst (x := 2) C dX3_wagon_67 ?_
              refine n_goto C 72 dX3_wagon_68 (by decide) ?_
              refine n_invV C (c_can hst (by omega) I hM hc) ⟨w4_221, w4_224, w1_5, ⟨by decide, by decide⟩, by show _ = some 1; decide +kernel, by decide⟩ w4_223 wp_24 hM.1 (show vwCl[6]? = some ("OperaMachinesModel", TX3, 27) from rfl) (by decide) (by omega) (by omega) (Nat.le_of_ble_eq_true rfl) rfl dX3_wagon_72 (fun r σ h => ?_) (fun _ _ h => h.elim)
              obtain ⟨xc, M1, rfl, hM, hc, h26, hxc⟩ := h
              refine n_if_ne C 80 dX3_wagon_75 (by decide) (by unfold rg; omega) (fun b75 => ?_) (fun b75 => ?_)
              · exfalso; omega
              · have hcd : cdWagon c t p z v = 2 := by unfold cdWagon; rw [if_pos (by omega), if_pos (by omega)]
                refine n_iconst (x := 0) C dX3_wagon_78 ?_
                exact n_ireturn C Rr rfl ⟨_, _, rfl, hM, h26.trans hcd.symm, fun q => absurd (hcd.symm.trans q) (by decide), fun _ => hc⟩ (by omega) (by omega) dX3_wagon_79
          · exfalso; omega
set_option maxRecDepth 100000 in
set_option maxHeartbeats 4000000 in
theorem c_rturntable {g : Gx} (hst : g.1.stackTraces = false) {a : Int} (hra : rg a) {v : Int} (hrv : rg v) {o : Nat} {ar : Nat → Nat} {β : Wd} {M c : Tb} (I : RI o ar) {σ : Wd} (hM : MW g.2.1 o ar β M σ) (hc : cut M = c) (hw : WF c) : CT g yX3_turntable cX3_turntable 3 (some .int) 1 0 0 [.ref o, iv a, iv v] σ (fun r σ' => ∃ (x : Int) (M' : Tb), r = some (iv x) ∧ MW g.2.1 o ar β M' σ' ∧ M' 26 0 = cdTable c a v ∧ (cdTable c a v = 0 → x = c 0 0 ∧ cut M' = nxTable c a v) ∧ (cdTable c a v ≠ 0 → cut M' = c)) (fun _ _ => False) := by
  refine CT.of hst (by decide +kernel) (Nat.le_of_ble_eq_true rfl) (fun Φ C Rr hY hN => ?_)
  show N Φ 0 0 σ 0 [(0, .ref o), (1, iv a), (2, iv v)] []
  unfold rg at hra hrv
  obtain ⟨w0, w6, w12, w13, w14, w15, w16, wm, wq, ww⟩ := id hw
  refine n_aload_n C dX3_turntable_0 rfl ?_
  refine n_iload_n C dX3_turntable_1 rfl ?_
  refine n_iconst (x := 0) C dX3_turntable_2 ?_
  refine n_sipush (x := 359) C dX3_turntable_3 (by decide) ?_
  refine n_invS C (c_isIn hst (by unfold rg; omega) (by unfold rg; omega) (by unfold rg; omega)) ⟨w4_218, w4_220, w1_5, ⟨by decide, by decide⟩, by show _ = some 3; decide +kernel, by decide⟩ w4_219 (by decide) (by omega) (by omega) (Nat.le_of_ble_eq_true rfl) rfl dX3_turntable_6 (fun r σ' h => ?_) (fun _ _ h => h.elim)
  obtain ⟨x0, rfl, rfl, hx0⟩ := h
  refine n_if_eq C 22 dX3_turntable_9 (by decide) (by unfold rg; omega) (fun b9 => ?_) (fun b9 => ?_)
  · refine n_iconst (x := 1) C dX3_turntable_22 ?_
    refine n_goto C 40 dX3_turntable_23 (by decide) ?_
    refine n_invV C (c_can hst (by omega) I hM hc) ⟨w4_221, w4_224, w1_5, ⟨by decide, by decide⟩, by show _ = some 1; decide +kernel, by decide⟩ w4_223 wp_24 hM.1 (show vwCl[6]? = some ("OperaMachinesModel", TX3, 27) from rfl) (by decide) (by omega) (by omega) (Nat.le_of_ble_eq_true rfl) rfl dX3_turntable_40 (fun r σ h => ?_) (fun _ _ h => h.elim)
    obtain ⟨xc, M1, rfl, hM, hc, h26, hxc⟩ := h
    refine n_if_ne C 48 dX3_turntable_43 (by decide) (by unfold rg; omega) (fun b43 => ?_) (fun b43 => ?_)
    · exfalso; omega
    · have hcd : cdTable c a v = 1 := by unfold cdTable; rw [if_neg (by omega)]
      refine n_iconst (x := 0) C dX3_turntable_46 ?_
      exact n_ireturn C Rr rfl ⟨_, _, rfl, hM, h26.trans hcd.symm, fun q => absurd (hcd.symm.trans q) (by decide), fun _ => hc⟩ (by omega) (by omega) dX3_turntable_47
  · refine n_iload_n C dX3_turntable_12 rfl ?_
    refine n_iconst (x := 1) C dX3_turntable_13 ?_
    refine n_bipush (x := 10) C dX3_turntable_14 (by decide) ?_
    refine n_invS C (c_isIn hst (by unfold rg; omega) (by unfold rg; omega) (by unfold rg; omega)) ⟨w4_218, w4_220, w1_5, ⟨by decide, by decide⟩, by show _ = some 3; decide +kernel, by decide⟩ w4_219 (by decide) (by omega) (by omega) (Nat.le_of_ble_eq_true rfl) rfl dX3_turntable_16 (fun r σ' h => ?_) (fun _ _ h => h.elim)
    obtain ⟨x12, rfl, rfl, hx12⟩ := h
    refine n_if_ne C 26 dX3_turntable_19 (by decide) (by unfold rg; omega) (fun b19 => ?_) (fun b19 => ?_)
    · refine n_aload_n C dX3_turntable_26 rfl ?_
      refine r_get (v := iv (c 0 0)) C hM 0 (by decide) w4_128 rfl (congrArg (fun z => some (iv z)) (cut_at hc (by decide) 0)) dX3_turntable_27 ?_
      refine n_bipush (x := 6) C dX3_turntable_30 (by decide) ?_
      refine n_icmp_ne C 39 dX3_turntable_32 (by decide) (by unfold rg; omega) (by unfold rg; omega) (fun b32 => ?_) (fun b32 => ?_)
      · refine n_iconst (x := 0) C dX3_turntable_39 ?_
        refine n_invV C (c_can hst (by omega) I hM hc) ⟨w4_221, w4_224, w1_5, ⟨by decide, by decide⟩, by show _ = some 1; decide +kernel, by decide⟩ w4_223 wp_24 hM.1 (show vwCl[6]? = some ("OperaMachinesModel", TX3, 27) from rfl) (by decide) (by omega) (by omega) (Nat.le_of_ble_eq_true rfl) rfl dX3_turntable_40 (fun r σ h => ?_) (fun _ _ h => h.elim)
        obtain ⟨xc, M1, rfl, hM, hc, h26, hxc⟩ := h
        refine n_if_ne C 48 dX3_turntable_43 (by decide) (by unfold rg; omega) (fun b43 => ?_) (fun b43 => ?_)
        · have hcd : cdTable c a v = 0 := by unfold cdTable; rw [if_pos (by omega), if_neg (by omega)]
          refine n_aload_n C dX3_turntable_48 rfl ?_
          refine r_get C hM 1 (by decide) w4_129 rfl rfl dX3_turntable_49 ?_
          refine n_aload_n C dX3_turntable_52 rfl ?_
          refine r_get (v := iv (c 0 0)) C hM 0 (by decide) w4_128 rfl (congrArg (fun z => some (iv z)) (cut_at hc (by decide) 0)) dX3_turntable_53 ?_
          refine n_iconst (x := 1) C dX3_turntable_56 ?_
          refine r_zast C I hM 1 rfl rfl (((c 0 0)).toNat) (by omega) (show _ < 6 by omega) (by omega) dX3_turntable_57 (fun σ hM => ?_)
          refine n_aload_n C dX3_turntable_58 rfl ?_
          refine r_get C hM 4 (by decide) w4_132 rfl rfl dX3_turntable_59 ?_
          refine n_aload_n C dX3_turntable_62 rfl ?_
          refine r_get (v := iv (c 0 0)) C hM 0 (by decide) w4_128 rfl (congrArg (fun z => some (iv z)) (cut_at hc (by decide) 0)) dX3_turntable_63 ?_
          refine n_iload_n C dX3_turntable_66 rfl ?_
          refine r_iast C I hM 4 rfl rfl (((c 0 0)).toNat) (by omega) (show _ < 6 by omega) dX3_turntable_67 (fun σ hM => ?_)
          refine n_aload_n C dX3_turntable_68 rfl ?_
          refine r_get C hM 5 (by decide) w4_133 rfl rfl dX3_turntable_69 ?_
          refine n_aload_n C dX3_turntable_72 rfl ?_
          refine r_get (v := iv (c 0 0)) C hM 0 (by decide) w4_128 rfl (congrArg (fun z => some (iv z)) (cut_at hc (by decide) 0)) dX3_turntable_73 ?_
          refine n_iload_n C dX3_turntable_76 rfl ?_
          refine r_iast C I hM 5 rfl rfl (((c 0 0)).toNat) (by omega) (show _ < 6 by omega) dX3_turntable_77 (fun σ hM => ?_)
          refine n_aload_n C dX3_turntable_78 rfl ?_
          refine n_dup C dX3_turntable_79 rfl ?_
          refine r_get (v := iv (c 0 0)) C hM 0 (by decide) w4_128 rfl (congrArg (fun z => some (iv z)) (cut_at hc (by decide) 0)) dX3_turntable_80 ?_
          refine n_iconst (x := 1) C dX3_turntable_83 ?_
          refine n_iadd C dX3_turntable_84 ?_
          refine r_put C I hM 0 (by decide) rfl w4_128 rfl rfl rfl rfl dX3_turntable_85 (fun σ hM => ?_)
          refine n_aload_n C dX3_turntable_88 rfl ?_
          refine r_get (v := iv ((c 0 0) + 1)) C hM 0 (by decide) w4_128 rfl rfl dX3_turntable_89 ?_
          refine n_iconst (x := 1) C dX3_turntable_92 ?_
          refine n_isub C dX3_turntable_93 ?_
          exact n_ireturn C Rr rfl ⟨_, _, rfl, hM, (by rw [tu_k (by decide), tu_k (by decide), tu_k (by decide), tu_k (by decide)]; exact h26.trans hcd.symm), fun _ => ⟨by first | rfl | omega, (by rw [cut_tuc (by decide), cut_tuc (by decide), cut_tuc (by decide), cut_tuc (by decide), hc]; rfl)⟩, fun q => absurd hcd q⟩ (by omega) (by omega) dX3_turntable_94
        · exfalso; omega
      · refine n_iconst (x := 2) C dX3_turntable_35 ?_
        refine n_goto C 40 dX3_turntable_36 (by decide) ?_
        refine n_invV C (c_can hst (by omega) I hM hc) ⟨w4_221, w4_224, w1_5, ⟨by decide, by decide⟩, by show _ = some 1; decide +kernel, by decide⟩ w4_223 wp_24 hM.1 (show vwCl[6]? = some ("OperaMachinesModel", TX3, 27) from rfl) (by decide) (by omega) (by omega) (Nat.le_of_ble_eq_true rfl) rfl dX3_turntable_40 (fun r σ h => ?_) (fun _ _ h => h.elim)
        obtain ⟨xc, M1, rfl, hM, hc, h26, hxc⟩ := h
        refine n_if_ne C 48 dX3_turntable_43 (by decide) (by unfold rg; omega) (fun b43 => ?_) (fun b43 => ?_)
        · exfalso; omega
        · have hcd : cdTable c a v = 2 := by unfold cdTable; rw [if_pos (by omega), if_pos (by omega)]
          refine n_iconst (x := 0) C dX3_turntable_46 ?_
          exact n_ireturn C Rr rfl ⟨_, _, rfl, hM, h26.trans hcd.symm, fun q => absurd (hcd.symm.trans q) (by decide), fun _ => hc⟩ (by omega) (by omega) dX3_turntable_47
    · refine n_iconst (x := 1) C dX3_turntable_22 ?_
      refine n_goto C 40 dX3_turntable_23 (by decide) ?_
      refine n_invV C (c_can hst (by omega) I hM hc) ⟨w4_221, w4_224, w1_5, ⟨by decide, by decide⟩, by show _ = some 1; decide +kernel, by decide⟩ w4_223 wp_24 hM.1 (show vwCl[6]? = some ("OperaMachinesModel", TX3, 27) from rfl) (by decide) (by omega) (by omega) (Nat.le_of_ble_eq_true rfl) rfl dX3_turntable_40 (fun r σ h => ?_) (fun _ _ h => h.elim)
      obtain ⟨xc, M1, rfl, hM, hc, h26, hxc⟩ := h
      refine n_if_ne C 48 dX3_turntable_43 (by decide) (by unfold rg; omega) (fun b43 => ?_) (fun b43 => ?_)
      · exfalso; omega
      · have hcd : cdTable c a v = 1 := by unfold cdTable; rw [if_neg (by omega)]
        refine n_iconst (x := 0) C dX3_turntable_46 ?_
        exact n_ireturn C Rr rfl ⟨_, _, rfl, hM, h26.trans hcd.symm, fun q => absurd (hcd.symm.trans q) (by decide), fun _ => hc⟩ (by omega) (by omega) dX3_turntable_47
set_option maxRecDepth 100000 in
set_option maxHeartbeats 4000000 in
theorem c_rsetTempo {g : Gx} (hst : g.1.stackTraces = false) {T : Int} (hrT : rg T) {o : Nat} {ar : Nat → Nat} {β : Wd} {M c : Tb} (I : RI o ar) {σ : Wd} (hM : MW g.2.1 o ar β M σ) (hc : cut M = c) (hw : WF c) : CT g yX3_setTempo cX3_setTempo 3 (some .int) 1 0 0 [.ref o, iv T] σ (fun r σ' => ∃ (x : Int) (M' : Tb), r = some (iv x) ∧ MW g.2.1 o ar β M' σ' ∧ M' 26 0 = cdTempo T ∧ (cdTempo T = 0 → x = c 14 0 ∧ cut M' = nxTempo c T) ∧ (cdTempo T ≠ 0 → cut M' = c)) (fun _ _ => False) := by
  refine CT.of hst (by decide +kernel) (Nat.le_of_ble_eq_true rfl) (fun Φ C Rr hY hN => ?_)
  show N Φ 0 0 σ 0 [(0, .ref o), (1, iv T)] []
  unfold rg at hrT
  obtain ⟨w0, w6, w12, w13, w14, w15, w16, wm, wq, ww⟩ := id hw
  refine n_aload_n C dX3_setTempo_0 rfl ?_
  refine n_iload_n C dX3_setTempo_1 rfl ?_
  refine n_bipush (x := 50) C dX3_setTempo_2 (by decide) ?_
  refine n_sipush (x := 200) C dX3_setTempo_4 (by decide) ?_
  refine n_invS C (c_isIn hst (by unfold rg; omega) (by unfold rg; omega) (by unfold rg; omega)) ⟨w4_218, w4_220, w1_5, ⟨by decide, by decide⟩, by show _ = some 3; decide +kernel, by decide⟩ w4_219 (by decide) (by omega) (by omega) (Nat.le_of_ble_eq_true rfl) rfl dX3_setTempo_7 (fun r σ' h => ?_) (fun _ _ h => h.elim)
  obtain ⟨x0, rfl, rfl, hx0⟩ := h
  refine n_if_eq C 17 dX3_setTempo_10 (by decide) (by unfold rg; omega) (fun b10 => ?_) (fun b10 => ?_)
  · refine n_iconst (x := 1) C dX3_setTempo_17 ?_
    refine n_invV C (c_can hst (by omega) I hM hc) ⟨w4_221, w4_224, w1_5, ⟨by decide, by decide⟩, by show _ = some 1; decide +kernel, by decide⟩ w4_223 wp_24 hM.1 (show vwCl[6]? = some ("OperaMachinesModel", TX3, 27) from rfl) (by decide) (by omega) (by omega) (Nat.le_of_ble_eq_true rfl) rfl dX3_setTempo_18 (fun r σ h => ?_) (fun _ _ h => h.elim)
    obtain ⟨xc, M1, rfl, hM, hc, h26, hxc⟩ := h
    refine n_if_ne C 26 dX3_setTempo_21 (by decide) (by unfold rg; omega) (fun b21 => ?_) (fun b21 => ?_)
    · exfalso; omega
    · have hcd : cdTempo T = 1 := by unfold cdTempo; rw [if_neg (by omega)]
      refine n_iconst (x := 0) C dX3_setTempo_24 ?_
      exact n_ireturn C Rr rfl ⟨_, _, rfl, hM, h26.trans hcd.symm, fun q => absurd (hcd.symm.trans q) (by decide), fun _ => hc⟩ (by omega) (by omega) dX3_setTempo_25
  · refine n_iconst (x := 0) C dX3_setTempo_13 ?_
    refine n_goto C 18 dX3_setTempo_14 (by decide) ?_
    refine n_invV C (c_can hst (by omega) I hM hc) ⟨w4_221, w4_224, w1_5, ⟨by decide, by decide⟩, by show _ = some 1; decide +kernel, by decide⟩ w4_223 wp_24 hM.1 (show vwCl[6]? = some ("OperaMachinesModel", TX3, 27) from rfl) (by decide) (by omega) (by omega) (Nat.le_of_ble_eq_true rfl) rfl dX3_setTempo_18 (fun r σ h => ?_) (fun _ _ h => h.elim)
    obtain ⟨xc, M1, rfl, hM, hc, h26, hxc⟩ := h
    refine n_if_ne C 26 dX3_setTempo_21 (by decide) (by unfold rg; omega) (fun b21 => ?_) (fun b21 => ?_)
    · have hcd : cdTempo T = 0 := by unfold cdTempo; rw [if_pos (by omega)]
      refine n_aload_n C dX3_setTempo_26 rfl ?_
      refine r_get (v := iv (c 14 0)) C hM 14 (by decide) w4_142 rfl (congrArg (fun z => some (iv z)) (cut_at hc (by decide) 0)) dX3_setTempo_27 ?_
      refine n_istore_n (lv' := [(2, iv (c 14 0)), (0, .ref o), (1, iv T)]) C dX3_setTempo_30 (by rw [hN]; decide) rfl ?_
      refine n_aload_n C dX3_setTempo_31 rfl ?_
      refine n_iload_n C dX3_setTempo_32 rfl ?_
      refine r_put C I hM 14 (by decide) rfl w4_142 rfl rfl rfl rfl dX3_setTempo_33 (fun σ hM => ?_)
      refine n_iload_n C dX3_setTempo_36 rfl ?_
      exact n_ireturn C Rr rfl ⟨_, _, rfl, hM, (by rw [tu_k (by decide)]; exact h26.trans hcd.symm), fun _ => ⟨by first | rfl | omega, (by rw [cut_tuc (by decide), hc]; rfl)⟩, fun q => absurd hcd q⟩ (by omega) (by omega) dX3_setTempo_37
    · exfalso; omega
set_option maxRecDepth 100000 in
set_option maxHeartbeats 4000000 in
theorem c_rsetRules {g : Gx} (hst : g.1.stackTraces = false) {a : Int} (hra : rg a) {b : Int} (hrb : rg b) {o : Nat} {ar : Nat → Nat} {β : Wd} {M c : Tb} (I : RI o ar) {σ : Wd} (hM : MW g.2.1 o ar β M σ) (hc : cut M = c) (hw : WF c) : CT g yX3_setRules cX3_setRules 3 none 1 0 0 [.ref o, iv a, iv b] σ (fun r σ' => ∃ (M' : Tb), r = none ∧ MW g.2.1 o ar β M' σ' ∧ M' 26 0 = cdRules a b ∧ (cdRules a b = 0 → cut M' = nxRules c a b) ∧ (cdRules a b ≠ 0 → cut M' = c)) (fun _ _ => False) := by
  refine CT.of hst (by decide +kernel) (Nat.le_of_ble_eq_true rfl) (fun Φ C Rr hY hN => ?_)
  show N Φ 0 0 σ 0 [(0, .ref o), (1, iv a), (2, iv b)] []
  unfold rg at hra hrb
  obtain ⟨w0, w6, w12, w13, w14, w15, w16, wm, wq, ww⟩ := id hw
  refine n_aload_n C dX3_setRules_0 rfl ?_
  refine n_iload_n C dX3_setRules_1 rfl ?_
  refine n_iconst (x := 0) C dX3_setRules_2 ?_
  refine n_bipush (x := 100) C dX3_setRules_3 (by decide) ?_
  refine n_invS C (c_isIn hst (by unfold rg; omega) (by unfold rg; omega) (by unfold rg; omega)) ⟨w4_218, w4_220, w1_5, ⟨by decide, by decide⟩, by show _ = some 3; decide +kernel, by decide⟩ w4_219 (by decide) (by omega) (by omega) (Nat.le_of_ble_eq_true rfl) rfl dX3_setRules_5 (fun r σ' h => ?_) (fun _ _ h => h.elim)
  obtain ⟨x0, rfl, rfl, hx0⟩ := h
  refine n_if_eq C 26 dX3_setRules_8 (by decide) (by unfold rg; omega) (fun b8 => ?_) (fun b8 => ?_)
  · refine n_iconst (x := 1) C dX3_setRules_26 ?_
    refine n_invV C (c_can hst (by omega) I hM hc) ⟨w4_221, w4_224, w1_5, ⟨by decide, by decide⟩, by show _ = some 1; decide +kernel, by decide⟩ w4_223 wp_24 hM.1 (show vwCl[6]? = some ("OperaMachinesModel", TX3, 27) from rfl) (by decide) (by omega) (by omega) (Nat.le_of_ble_eq_true rfl) rfl dX3_setRules_27 (fun r σ h => ?_) (fun _ _ h => h.elim)
    obtain ⟨xc, M1, rfl, hM, hc, h26, hxc⟩ := h
    refine n_if_eq C 43 dX3_setRules_30 (by decide) (by unfold rg; omega) (fun b30 => ?_) (fun b30 => ?_)
    · have hcd : cdRules a b = 1 := by unfold cdRules; rw [if_neg (by omega)]
      exact n_return C Rr ⟨_, rfl, hM, h26.trans hcd.symm, fun q => absurd (hcd.symm.trans q) (by decide), fun _ => hc⟩ (by omega) (by omega) dX3_setRules_43
    · exfalso; omega
  · refine n_iload_n C dX3_setRules_11 rfl ?_
    refine n_iconst (x := 0) C dX3_setRules_12 ?_
    refine n_sipush (x := 2400) C dX3_setRules_13 (by decide) ?_
    refine n_invS C (c_isIn hst (by unfold rg; omega) (by unfold rg; omega) (by unfold rg; omega)) ⟨w4_218, w4_220, w1_5, ⟨by decide, by decide⟩, by show _ = some 3; decide +kernel, by decide⟩ w4_219 (by decide) (by omega) (by omega) (Nat.le_of_ble_eq_true rfl) rfl dX3_setRules_16 (fun r σ' h => ?_) (fun _ _ h => h.elim)
    obtain ⟨x11, rfl, rfl, hx11⟩ := h
    refine n_if_eq C 26 dX3_setRules_19 (by decide) (by unfold rg; omega) (fun b19 => ?_) (fun b19 => ?_)
    · refine n_iconst (x := 1) C dX3_setRules_26 ?_
      refine n_invV C (c_can hst (by omega) I hM hc) ⟨w4_221, w4_224, w1_5, ⟨by decide, by decide⟩, by show _ = some 1; decide +kernel, by decide⟩ w4_223 wp_24 hM.1 (show vwCl[6]? = some ("OperaMachinesModel", TX3, 27) from rfl) (by decide) (by omega) (by omega) (Nat.le_of_ble_eq_true rfl) rfl dX3_setRules_27 (fun r σ h => ?_) (fun _ _ h => h.elim)
      obtain ⟨xc, M1, rfl, hM, hc, h26, hxc⟩ := h
      refine n_if_eq C 43 dX3_setRules_30 (by decide) (by unfold rg; omega) (fun b30 => ?_) (fun b30 => ?_)
      · have hcd : cdRules a b = 1 := by unfold cdRules; rw [if_neg (by omega)]
        exact n_return C Rr ⟨_, rfl, hM, h26.trans hcd.symm, fun q => absurd (hcd.symm.trans q) (by decide), fun _ => hc⟩ (by omega) (by omega) dX3_setRules_43
      · exfalso; omega
    · refine n_iconst (x := 0) C dX3_setRules_22 ?_
      refine n_goto C 27 dX3_setRules_23 (by decide) ?_
      refine n_invV C (c_can hst (by omega) I hM hc) ⟨w4_221, w4_224, w1_5, ⟨by decide, by decide⟩, by show _ = some 1; decide +kernel, by decide⟩ w4_223 wp_24 hM.1 (show vwCl[6]? = some ("OperaMachinesModel", TX3, 27) from rfl) (by decide) (by omega) (by omega) (Nat.le_of_ble_eq_true rfl) rfl dX3_setRules_27 (fun r σ h => ?_) (fun _ _ h => h.elim)
      obtain ⟨xc, M1, rfl, hM, hc, h26, hxc⟩ := h
      refine n_if_eq C 43 dX3_setRules_30 (by decide) (by unfold rg; omega) (fun b30 => ?_) (fun b30 => ?_)
      · exfalso; omega
      · have hcd : cdRules a b = 0 := by unfold cdRules; rw [if_pos (by omega)]
        refine n_aload_n C dX3_setRules_33 rfl ?_
        refine n_iload_n C dX3_setRules_34 rfl ?_
        refine r_put C I hM 15 (by decide) rfl w4_143 rfl rfl rfl rfl dX3_setRules_35 (fun σ hM => ?_)
        refine n_aload_n C dX3_setRules_38 rfl ?_
        refine n_iload_n C dX3_setRules_39 rfl ?_
        refine r_put C I hM 16 (by decide) rfl w4_144 rfl rfl rfl rfl dX3_setRules_40 (fun σ hM => ?_)
        exact n_return C Rr ⟨_, rfl, hM, (by rw [tu_k (by decide), tu_k (by decide)]; exact h26.trans hcd.symm), fun _ => (by rw [cut_tuc (by decide), cut_tuc (by decide), hc]; rfl), fun q => absurd hcd q⟩ (by omega) (by omega) dX3_setRules_43
set_option maxRecDepth 100000 in
set_option maxHeartbeats 4000000 in
theorem c_rstrike {g : Gx} (hst : g.1.stackTraces = false) {a : Int} (hra : rg a) {b : Int} (hb : b = 0 ∨ b = 1) {o : Nat} {ar : Nat → Nat} {β : Wd} {M c : Tb} (I : RI o ar) {σ : Wd} (hM : MW g.2.1 o ar β M σ) (hc : cut M = c) (hw : WF c) : CT g yX3_strike cX3_strike 4 (some .boolean) 2 0 0 [.ref o, iv a, iv b] σ (fun r σ' => ∃ (x : Int) (M' : Tb), r = some (iv x) ∧ MW g.2.1 o ar β M' σ' ∧ M' 26 0 = cdWork a ∧ (cdWork a = 0 → x = c 17 a.toNat ∧ cut M' = nxStrike c a b) ∧ (cdWork a ≠ 0 → cut M' = c)) (fun _ _ => False) := by
  refine CT.of hst (by decide +kernel) (Nat.le_of_ble_eq_true rfl) (fun Φ C Rr hY hN => ?_)
  show N Φ 0 0 σ 0 [(0, .ref o), (1, iv a), (2, iv b)] []
  unfold rg at hra
  obtain ⟨w0, w6, w12, w13, w14, w15, w16, wm, wq, ww⟩ := id hw
  refine n_aload_n C dX3_strike_0 rfl ?_
  refine n_iload_n C dX3_strike_1 rfl ?_
  refine n_invS C (c_isWorker hst (by unfold rg; omega)) ⟨w5_1, w5_3, w1_5, ⟨by decide, by decide⟩, by show _ = some 1; decide +kernel, by decide⟩ w5_2 (by decide) (by omega) (by omega) (Nat.le_of_ble_eq_true rfl) rfl dX3_strike_2 (fun r σ' h => ?_) (fun _ _ h => h.elim)
  obtain ⟨x0, rfl, rfl, hx0⟩ := h
  refine n_if_eq C 12 dX3_strike_5 (by decide) (by unfold rg; omega) (fun b5 => ?_) (fun b5 => ?_)
  · refine n_iconst (x := 1) C dX3_strike_12 ?_
    refine n_invV C (c_can hst (by omega) I hM hc) ⟨w4_221, w4_224, w1_5, ⟨by decide, by decide⟩, by show _ = some 1; decide +kernel, by decide⟩ w4_223 wp_24 hM.1 (show vwCl[6]? = some ("OperaMachinesModel", TX3, 27) from rfl) (by decide) (by omega) (by omega) (Nat.le_of_ble_eq_true rfl) rfl dX3_strike_13 (fun r σ h => ?_) (fun _ _ h => h.elim)
    obtain ⟨xc, M1, rfl, hM, hc, h26, hxc⟩ := h
    refine n_if_ne C 21 dX3_strike_16 (by decide) (by unfold rg; omega) (fun b16 => ?_) (fun b16 => ?_)
    · exfalso; omega
    · have hcd : cdWork a = 1 := by unfold cdWork; rw [if_neg (by omega)]
      refine n_iconst (x := 0) C dX3_strike_19 ?_
      exact n_ireturn C Rr (nar_bv (by first | decide | omega)) ⟨_, _, rfl, hM, h26.trans hcd.symm, fun q => absurd (hcd.symm.trans q) (by decide), fun _ => hc⟩ (by omega) (by omega) dX3_strike_20
  · refine n_iconst (x := 0) C dX3_strike_8 ?_
    refine n_goto C 13 dX3_strike_9 (by decide) ?_
    refine n_invV C (c_can hst (by omega) I hM hc) ⟨w4_221, w4_224, w1_5, ⟨by decide, by decide⟩, by show _ = some 1; decide +kernel, by decide⟩ w4_223 wp_24 hM.1 (show vwCl[6]? = some ("OperaMachinesModel", TX3, 27) from rfl) (by decide) (by omega) (by omega) (Nat.le_of_ble_eq_true rfl) rfl dX3_strike_13 (fun r σ h => ?_) (fun _ _ h => h.elim)
    obtain ⟨xc, M1, rfl, hM, hc, h26, hxc⟩ := h
    refine n_if_ne C 21 dX3_strike_16 (by decide) (by unfold rg; omega) (fun b16 => ?_) (fun b16 => ?_)
    · have w1 := (ww a.toNat).1
      have hcd : cdWork a = 0 := by unfold cdWork; rw [if_pos (by omega)]
      refine n_aload_n C dX3_strike_21 rfl ?_
      refine r_get C hM 17 (by decide) w4_145 rfl rfl dX3_strike_22 ?_
      refine n_iload_n C dX3_strike_25 rfl ?_
      refine r_zaldv (y := c 17 ((a).toNat)) C hM 17 rfl rfl ((a).toNat) (by omega) (show _ < 6 by omega) (cut_at hc (by decide) _) dX3_strike_26 ?_
      refine n_istore_n (lv' := [(3, iv (c 17 ((a).toNat))), (0, .ref o), (1, iv a), (2, iv b)]) C dX3_strike_27 (by rw [hN]; decide) rfl ?_
      refine n_aload_n C dX3_strike_28 rfl ?_
      refine r_get C hM 17 (by decide) w4_145 rfl rfl dX3_strike_29 ?_
      refine n_iload_n C dX3_strike_32 rfl ?_
      refine n_iload_n C dX3_strike_33 rfl ?_
      refine r_zast C I hM 17 rfl rfl ((a).toNat) (by omega) (show _ < 6 by omega) (by omega) dX3_strike_34 (fun σ hM => ?_)
      refine n_iload_n C dX3_strike_35 rfl ?_
      exact n_ireturn C Rr (nar_bv (by first | decide | omega)) ⟨_, _, rfl, hM, (by rw [tu_k (by decide)]; exact h26.trans hcd.symm), fun _ => ⟨by first | rfl | omega, (by rw [cut_tuc (by decide), hc]; rfl)⟩, fun q => absurd hcd q⟩ (by omega) (by omega) dX3_strike_36
    · exfalso; omega
set_option maxRecDepth 100000 in
set_option maxHeartbeats 4000000 in
theorem c_rsubstitute {g : Gx} (hst : g.1.stackTraces = false) {a : Int} (hra : rg a) {b : Int} (hrb : rg b) {o : Nat} {ar : Nat → Nat} {β : Wd} {M c : Tb} (I : RI o ar) {σ : Wd} (hM : MW g.2.1 o ar β M σ) (hc : cut M = c) (hw : WF c) : CT g yX3_substitute cX3_substitute 4 (some .int) 2 0 0 [.ref o, iv a, iv b] σ (fun r σ' => ∃ (x : Int) (M' : Tb), r = some (iv x) ∧ MW g.2.1 o ar β M' σ' ∧ M' 26 0 = cdSub a b ∧ (cdSub a b = 0 → x = c 18 a.toNat ∧ cut M' = nxSub c a b) ∧ (cdSub a b ≠ 0 → cut M' = c)) (fun _ _ => False) := by
  refine CT.of hst (by decide +kernel) (Nat.le_of_ble_eq_true rfl) (fun Φ C Rr hY hN => ?_)
  show N Φ 0 0 σ 0 [(0, .ref o), (1, iv a), (2, iv b)] []
  unfold rg at hra hrb
  obtain ⟨w0, w6, w12, w13, w14, w15, w16, wm, wq, ww⟩ := id hw
  refine n_aload_n C dX3_substitute_0 rfl ?_
  refine n_iload_n C dX3_substitute_1 rfl ?_
  refine n_invS C (c_isWorker hst (by unfold rg; omega)) ⟨w5_1, w5_3, w1_5, ⟨by decide, by decide⟩, by show _ = some 1; decide +kernel, by decide⟩ w5_2 (by decide) (by omega) (by omega) (Nat.le_of_ble_eq_true rfl) rfl dX3_substitute_2 (fun r σ' h => ?_) (fun _ _ h => h.elim)
  obtain ⟨x0, rfl, rfl, hx0⟩ := h
  refine n_if_eq C 21 dX3_substitute_5 (by decide) (by unfold rg; omega) (fun b5 => ?_) (fun b5 => ?_)
  · refine n_iconst (x := 1) C dX3_substitute_21 ?_
    refine n_invV C (c_can hst (by omega) I hM hc) ⟨w4_221, w4_224, w1_5, ⟨by decide, by decide⟩, by show _ = some 1; decide +kernel, by decide⟩ w4_223 wp_24 hM.1 (show vwCl[6]? = some ("OperaMachinesModel", TX3, 27) from rfl) (by decide) (by omega) (by omega) (Nat.le_of_ble_eq_true rfl) rfl dX3_substitute_22 (fun r σ h => ?_) (fun _ _ h => h.elim)
    obtain ⟨xc, M1, rfl, hM, hc, h26, hxc⟩ := h
    refine n_if_ne C 30 dX3_substitute_25 (by decide) (by unfold rg; omega) (fun b25 => ?_) (fun b25 => ?_)
    · exfalso; omega
    · have hcd : cdSub a b = 1 := by unfold cdSub; rw [if_neg (by omega)]
      refine n_iconst (x := 0) C dX3_substitute_28 ?_
      exact n_ireturn C Rr rfl ⟨_, _, rfl, hM, h26.trans hcd.symm, fun q => absurd (hcd.symm.trans q) (by decide), fun _ => hc⟩ (by omega) (by omega) dX3_substitute_29
  · refine n_iload_n C dX3_substitute_8 rfl ?_
    refine n_iconst (x := (-1)) C dX3_substitute_9 ?_
    refine n_iconst (x := 5) C dX3_substitute_10 ?_
    refine n_invS C (c_isIn hst (by unfold rg; omega) (by unfold rg; omega) (by unfold rg; omega)) ⟨w4_218, w4_220, w1_5, ⟨by decide, by decide⟩, by show _ = some 3; decide +kernel, by decide⟩ w4_219 (by decide) (by omega) (by omega) (Nat.le_of_ble_eq_true rfl) rfl dX3_substitute_11 (fun r σ' h => ?_) (fun _ _ h => h.elim)
    obtain ⟨x8, rfl, rfl, hx8⟩ := h
    refine n_if_eq C 21 dX3_substitute_14 (by decide) (by unfold rg; omega) (fun b14 => ?_) (fun b14 => ?_)
    · refine n_iconst (x := 1) C dX3_substitute_21 ?_
      refine n_invV C (c_can hst (by omega) I hM hc) ⟨w4_221, w4_224, w1_5, ⟨by decide, by decide⟩, by show _ = some 1; decide +kernel, by decide⟩ w4_223 wp_24 hM.1 (show vwCl[6]? = some ("OperaMachinesModel", TX3, 27) from rfl) (by decide) (by omega) (by omega) (Nat.le_of_ble_eq_true rfl) rfl dX3_substitute_22 (fun r σ h => ?_) (fun _ _ h => h.elim)
      obtain ⟨xc, M1, rfl, hM, hc, h26, hxc⟩ := h
      refine n_if_ne C 30 dX3_substitute_25 (by decide) (by unfold rg; omega) (fun b25 => ?_) (fun b25 => ?_)
      · exfalso; omega
      · have hcd : cdSub a b = 1 := by unfold cdSub; rw [if_neg (by omega)]
        refine n_iconst (x := 0) C dX3_substitute_28 ?_
        exact n_ireturn C Rr rfl ⟨_, _, rfl, hM, h26.trans hcd.symm, fun q => absurd (hcd.symm.trans q) (by decide), fun _ => hc⟩ (by omega) (by omega) dX3_substitute_29
    · refine n_iconst (x := 0) C dX3_substitute_17 ?_
      refine n_goto C 22 dX3_substitute_18 (by decide) ?_
      refine n_invV C (c_can hst (by omega) I hM hc) ⟨w4_221, w4_224, w1_5, ⟨by decide, by decide⟩, by show _ = some 1; decide +kernel, by decide⟩ w4_223 wp_24 hM.1 (show vwCl[6]? = some ("OperaMachinesModel", TX3, 27) from rfl) (by decide) (by omega) (by omega) (Nat.le_of_ble_eq_true rfl) rfl dX3_substitute_22 (fun r σ h => ?_) (fun _ _ h => h.elim)
      obtain ⟨xc, M1, rfl, hM, hc, h26, hxc⟩ := h
      refine n_if_ne C 30 dX3_substitute_25 (by decide) (by unfold rg; omega) (fun b25 => ?_) (fun b25 => ?_)
      · have hcd : cdSub a b = 0 := by unfold cdSub; rw [if_pos (by omega)]
        refine n_aload_n C dX3_substitute_30 rfl ?_
        refine r_get C hM 18 (by decide) w4_146 rfl rfl dX3_substitute_31 ?_
        refine n_iload_n C dX3_substitute_34 rfl ?_
        refine r_ialdv (y := c 18 ((a).toNat)) C hM 18 rfl rfl ((a).toNat) (by omega) (show _ < 6 by omega) (cut_at hc (by decide) _) dX3_substitute_35 ?_
        refine n_istore_n (lv' := [(3, iv (c 18 ((a).toNat))), (0, .ref o), (1, iv a), (2, iv b)]) C dX3_substitute_36 (by rw [hN]; decide) rfl ?_
        refine n_aload_n C dX3_substitute_37 rfl ?_
        refine r_get C hM 18 (by decide) w4_146 rfl rfl dX3_substitute_38 ?_
        refine n_iload_n C dX3_substitute_41 rfl ?_
        refine n_iload_n C dX3_substitute_42 rfl ?_
        refine r_iast C I hM 18 rfl rfl ((a).toNat) (by omega) (show _ < 6 by omega) dX3_substitute_43 (fun σ hM => ?_)
        refine n_iload_n C dX3_substitute_44 rfl ?_
        exact n_ireturn C Rr rfl ⟨_, _, rfl, hM, (by rw [tu_k (by decide)]; exact h26.trans hcd.symm), fun _ => ⟨by first | rfl | omega, (by rw [cut_tuc (by decide), hc]; rfl)⟩, fun q => absurd hcd q⟩ (by omega) (by omega) dX3_substitute_45
      · exfalso; omega
set_option maxRecDepth 100000 in
set_option maxHeartbeats 4000000 in
theorem c_rstrikeOut {g : Gx} (hst : g.1.stackTraces = false) {a : Int} (hra : rg a) {o : Nat} {ar : Nat → Nat} {β : Wd} {M c : Tb} (I : RI o ar) {σ : Wd} (hM : MW g.2.1 o ar β M σ) (hc : cut M = c) (hw : WF c) : CT g yX3_strikeOut cX3_strikeOut 2 (some .int) 2 0 0 [.ref o, iv a] σ (fun r σ' => ∃ (x : Int) (M' : Tb), r = some (iv x) ∧ MW g.2.1 o ar β M' σ' ∧ M' 26 0 = cdIs c a ∧ (cdIs c a = 0 → x = c 7 a.toNat ∧ cut M' = nxOut c a) ∧ (cdIs c a ≠ 0 → cut M' = c)) (fun _ _ => False) := by
  refine CT.of hst (by decide +kernel) (Nat.le_of_ble_eq_true rfl) (fun Φ C Rr hY hN => ?_)
  show N Φ 0 0 σ 0 [(0, .ref o), (1, iv a)] []
  unfold rg at hra
  obtain ⟨w0, w6, w12, w13, w14, w15, w16, wm, wq, ww⟩ := id hw
  refine n_aload_n C dX3_strikeOut_0 rfl ?_
  refine n_aload_n C dX3_strikeOut_1 rfl ?_
  refine n_iload_n C dX3_strikeOut_2 rfl ?_
  refine n_invV C (c_isCue hst (by unfold rg; omega) I hM hc hw) ⟨w5_8, w5_11, w1_5, ⟨by decide, by decide⟩, by show _ = some 1; decide +kernel, by decide⟩ w5_10 wp_26 hM.1 (show vwCl[6]? = some ("OperaMachinesModel", TX3, 27) from rfl) (by decide) (by omega) (by omega) (Nat.le_of_ble_eq_true rfl) rfl dX3_strikeOut_3 (fun r σ' h => ?_) (fun _ _ h => h.elim)
  obtain ⟨x0, rfl, rfl, hx0⟩ := h
  refine n_if_eq C 13 dX3_strikeOut_6 (by decide) (by unfold rg; omega) (fun b6 => ?_) (fun b6 => ?_)
  · refine n_iconst (x := 1) C dX3_strikeOut_13 ?_
    refine n_invV C (c_can hst (by omega) I hM hc) ⟨w4_221, w4_224, w1_5, ⟨by decide, by decide⟩, by show _ = some 1; decide +kernel, by decide⟩ w4_223 wp_24 hM.1 (show vwCl[6]? = some ("OperaMachinesModel", TX3, 27) from rfl) (by decide) (by omega) (by omega) (Nat.le_of_ble_eq_true rfl) rfl dX3_strikeOut_14 (fun r σ h => ?_) (fun _ _ h => h.elim)
    obtain ⟨xc, M1, rfl, hM, hc, h26, hxc⟩ := h
    refine n_if_ne C 22 dX3_strikeOut_17 (by decide) (by unfold rg; omega) (fun b17 => ?_) (fun b17 => ?_)
    · exfalso; omega
    · have hcd : cdIs c a = 1 := by unfold cdIs; rw [if_neg (by omega)]
      refine n_iconst (x := 0) C dX3_strikeOut_20 ?_
      exact n_ireturn C Rr rfl ⟨_, _, rfl, hM, h26.trans hcd.symm, fun q => absurd (hcd.symm.trans q) (by decide), fun _ => hc⟩ (by omega) (by omega) dX3_strikeOut_21
  · refine n_iconst (x := 0) C dX3_strikeOut_9 ?_
    refine n_goto C 14 dX3_strikeOut_10 (by decide) ?_
    refine n_invV C (c_can hst (by omega) I hM hc) ⟨w4_221, w4_224, w1_5, ⟨by decide, by decide⟩, by show _ = some 1; decide +kernel, by decide⟩ w4_223 wp_24 hM.1 (show vwCl[6]? = some ("OperaMachinesModel", TX3, 27) from rfl) (by decide) (by omega) (by omega) (Nat.le_of_ble_eq_true rfl) rfl dX3_strikeOut_14 (fun r σ h => ?_) (fun _ _ h => h.elim)
    obtain ⟨xc, M1, rfl, hM, hc, h26, hxc⟩ := h
    refine n_if_ne C 22 dX3_strikeOut_17 (by decide) (by unfold rg; omega) (fun b17 => ?_) (fun b17 => ?_)
    · have hcd : cdIs c a = 0 := by unfold cdIs; rw [if_pos (by omega)]
      refine n_aload_n C dX3_strikeOut_22 rfl ?_
      refine r_get C hM 11 (by decide) w4_139 rfl rfl dX3_strikeOut_23 ?_
      refine n_iload_n C dX3_strikeOut_26 rfl ?_
      refine n_iconst (x := 1) C dX3_strikeOut_27 ?_
      refine r_zast C I hM 11 rfl rfl ((a).toNat) (by omega) (show _ < 24 by omega) (by omega) dX3_strikeOut_28 (fun σ hM => ?_)
      refine n_aload_n C dX3_strikeOut_29 rfl ?_
      refine r_get C hM 7 (by decide) w4_135 rfl rfl dX3_strikeOut_30 ?_
      refine n_iload_n C dX3_strikeOut_33 rfl ?_
      refine r_ialdv (y := c 7 ((a).toNat)) C hM 7 rfl rfl ((a).toNat) (by omega) (show _ < 24 by omega) (cut_at hc (by decide) _) dX3_strikeOut_34 ?_
      exact n_ireturn C Rr rfl ⟨_, _, rfl, hM, (by rw [tu_k (by decide)]; exact h26.trans hcd.symm), fun _ => ⟨by first | rfl | omega, (by rw [cut_tuc (by decide), hc]; rfl)⟩, fun q => absurd hcd q⟩ (by omega) (by omega) dX3_strikeOut_35
    · exfalso; omega
set_option maxRecDepth 100000 in
set_option maxHeartbeats 4000000 in
theorem c_rcue {g : Gx} (hst : g.1.stackTraces = false) {a : Int} (hra : rg a) {b : Int} (hrb : rg b) {t : Int} (hrt : rg t) {z : Int} (hrz : rg z) {o : Nat} {ar : Nat → Nat} {β : Wd} {M c : Tb} (I : RI o ar) {σ : Wd} (hM : MW g.2.1 o ar β M σ) (hc : cut M = c) (hw : WF c) : CT g yX3_cue cX3_cue 7 (some .int) 2 0 0 [.ref o, iv a, iv b, iv t, iv z] σ (fun r σ' => ∃ (x : Int) (M' : Tb), r = some (iv x) ∧ MW g.2.1 o ar β M' σ' ∧ M' 26 0 = cdCue c a b t z ∧ (cdCue c a b t z = 0 → x = c 6 0 ∧ cut M' = nxCue c a b t z) ∧ (cdCue c a b t z ≠ 0 → cut M' = c)) (fun _ _ => False) := by
  refine CT.of hst (by decide +kernel) (Nat.le_of_ble_eq_true rfl) (fun Φ C Rr hY hN => ?_)
  show N Φ 0 0 σ 0 [(0, .ref o), (1, iv a), (2, iv b), (3, iv t), (4, iv z)] []
  unfold rg at hra hrb hrt hrz
  obtain ⟨w0, w6, w12, w13, w14, w15, w16, wm, wq, ww⟩ := id hw
  refine n_aload_n C dX3_cue_0 rfl ?_
  refine n_iload_n C dX3_cue_1 rfl ?_
  refine n_invV C (c_isMachine hst (by unfold rg; omega) I hM hc hw) ⟨w4_237, w5_0, w1_5, ⟨by decide, by decide⟩, by show _ = some 1; decide +kernel, by decide⟩ w4_239 wp_25 hM.1 (show vwCl[6]? = some ("OperaMachinesModel", TX3, 27) from rfl) (by decide) (by omega) (by omega) (Nat.le_of_ble_eq_true rfl) rfl dX3_cue_2 (fun r σ' h => ?_) (fun _ _ h => h.elim)
  obtain ⟨x0, rfl, rfl, hx0⟩ := h
  refine n_istore (lv' := [(5, iv x0), (0, .ref o), (1, iv a), (2, iv b), (3, iv t), (4, iv z)]) C dX3_cue_5 (by rw [hN]; decide) rfl ?_
  refine n_iload C dX3_cue_7 rfl ?_
  refine n_if_eq C 64 dX3_cue_9 (by decide) (by unfold rg; omega) (fun b9 => ?_) (fun b9 => ?_)
  · refine n_iconst (x := 0) C dX3_cue_64 ?_
    refine n_istore (lv' := [(6, iv 0), (5, iv x0), (0, .ref o), (1, iv a), (2, iv b), (3, iv t), (4, iv z)]) C dX3_cue_65 (by rw [hN]; decide) rfl ?_
    refine n_aload_n C dX3_cue_67 rfl ?_
    refine n_iload C dX3_cue_68 rfl ?_
    refine n_if_ne C 77 dX3_cue_70 (by decide) (by unfold rg; omega) (fun b70 => ?_) (fun b70 => ?_)
    · exfalso; omega
    · refine n_iconst (x := 1) C dX3_cue_73 ?_
      refine n_goto C 100 dX3_cue_74 (by decide) ?_
      refine n_invV C (c_can hst (by omega) I hM hc) ⟨w4_221, w4_224, w1_5, ⟨by decide, by decide⟩, by show _ = some 1; decide +kernel, by decide⟩ w4_223 wp_24 hM.1 (show vwCl[6]? = some ("OperaMachinesModel", TX3, 27) from rfl) (by decide) (by omega) (by omega) (Nat.le_of_ble_eq_true rfl) rfl dX3_cue_100 (fun r σ h => ?_) (fun _ _ h => h.elim)
      obtain ⟨xc, M1, rfl, hM, hc, h26, hxc⟩ := h
      refine n_if_ne C 108 dX3_cue_103 (by decide) (by unfold rg; omega) (fun b103 => ?_) (fun b103 => ?_)
      · exfalso; omega
      · have hcd : cdCue c a b t z = 1 := by unfold cdCue; rw [if_neg (by omega)]
        refine n_iconst (x := 0) C dX3_cue_106 ?_
        exact n_ireturn C Rr rfl ⟨_, _, rfl, hM, h26.trans hcd.symm, fun q => absurd (hcd.symm.trans q) (by decide), fun _ => hc⟩ (by omega) (by omega) dX3_cue_107
  · refine n_iload_n C dX3_cue_12 rfl ?_
    refine n_iconst (x := 0) C dX3_cue_13 ?_
    refine n_aload_n C dX3_cue_14 rfl ?_
    refine r_get (v := iv (c 12 0)) C hM 12 (by decide) w4_140 rfl (congrArg (fun z => some (iv z)) (cut_at hc (by decide) 0)) dX3_cue_15 ?_
    refine n_iconst (x := 1) C dX3_cue_18 ?_
    refine n_isub C dX3_cue_19 ?_
    refine n_invS C (c_isIn hst (by unfold rg; omega) (by unfold rg; omega) (by unfold rg; omega)) ⟨w4_218, w4_220, w1_5, ⟨by decide, by decide⟩, by show _ = some 3; decide +kernel, by decide⟩ w4_219 (by decide) (by omega) (by omega) (Nat.le_of_ble_eq_true rfl) rfl dX3_cue_20 (fun r σ' h => ?_) (fun _ _ h => h.elim)
    obtain ⟨x12, rfl, rfl, hx12⟩ := h
    refine n_if_eq C 64 dX3_cue_23 (by decide) (by unfold rg; omega) (fun b23 => ?_) (fun b23 => ?_)
    · refine n_iconst (x := 0) C dX3_cue_64 ?_
      refine n_istore (lv' := [(6, iv 0), (5, iv x0), (0, .ref o), (1, iv a), (2, iv b), (3, iv t), (4, iv z)]) C dX3_cue_65 (by rw [hN]; decide) rfl ?_
      refine n_aload_n C dX3_cue_67 rfl ?_
      refine n_iload C dX3_cue_68 rfl ?_
      refine n_if_ne C 77 dX3_cue_70 (by decide) (by unfold rg; omega) (fun b70 => ?_) (fun b70 => ?_)
      · refine n_iload C dX3_cue_77 rfl ?_
        refine n_if_ne C 86 dX3_cue_79 (by decide) (by unfold rg; omega) (fun b79 => ?_) (fun b79 => ?_)
        · exfalso; omega
        · refine n_iconst (x := 2) C dX3_cue_82 ?_
          refine n_goto C 100 dX3_cue_83 (by decide) ?_
          refine n_invV C (c_can hst (by omega) I hM hc) ⟨w4_221, w4_224, w1_5, ⟨by decide, by decide⟩, by show _ = some 1; decide +kernel, by decide⟩ w4_223 wp_24 hM.1 (show vwCl[6]? = some ("OperaMachinesModel", TX3, 27) from rfl) (by decide) (by omega) (by omega) (Nat.le_of_ble_eq_true rfl) rfl dX3_cue_100 (fun r σ h => ?_) (fun _ _ h => h.elim)
          obtain ⟨xc, M1, rfl, hM, hc, h26, hxc⟩ := h
          refine n_if_ne C 108 dX3_cue_103 (by decide) (by unfold rg; omega) (fun b103 => ?_) (fun b103 => ?_)
          · exfalso; omega
          · have hcd : cdCue c a b t z = 2 := by unfold cdCue; rw [if_pos (by omega), if_neg (by omega)]
            refine n_iconst (x := 0) C dX3_cue_106 ?_
            exact n_ireturn C Rr rfl ⟨_, _, rfl, hM, h26.trans hcd.symm, fun q => absurd (hcd.symm.trans q) (by decide), fun _ => hc⟩ (by omega) (by omega) dX3_cue_107
      · exfalso; omega
    · refine n_iload_n C dX3_cue_26 rfl ?_
      refine n_iconst (x := 0) C dX3_cue_27 ?_
      refine n_aload_n C dX3_cue_28 rfl ?_
      refine r_get C hM 1 (by decide) w4_129 rfl rfl dX3_cue_29 ?_
      refine n_iload_n C dX3_cue_32 rfl ?_
      refine r_zaldv (y := c 1 ((a).toNat)) C hM 1 rfl rfl ((a).toNat) (by omega) (show _ < 6 by omega) (cut_at hc (by decide) _) dX3_cue_33 ?_
      refine n_if_eq C 43 dX3_cue_34 (by decide) (by have := (wm a.toNat).1; unfold rg; omega) (fun b34 => ?_) (fun b34 => ?_)
      · refine n_sipush (x := 200) C dX3_cue_43 (by decide) ?_
        refine n_invS C (c_isIn hst (by unfold rg; omega) (by unfold rg; omega) (by unfold rg; omega)) ⟨w4_218, w4_220, w1_5, ⟨by decide, by decide⟩, by show _ = some 3; decide +kernel, by decide⟩ w4_219 (by decide) (by omega) (by omega) (Nat.le_of_ble_eq_true rfl) rfl dX3_cue_46 (fun r σ' h => ?_) (fun _ _ h => h.elim)
        obtain ⟨x43, rfl, rfl, hx43⟩ := h
        refine n_if_eq C 64 dX3_cue_49 (by decide) (by unfold rg; omega) (fun b49 => ?_) (fun b49 => ?_)
        · refine n_iconst (x := 0) C dX3_cue_64 ?_
          refine n_istore (lv' := [(6, iv 0), (5, iv x0), (0, .ref o), (1, iv a), (2, iv b), (3, iv t), (4, iv z)]) C dX3_cue_65 (by rw [hN]; decide) rfl ?_
          refine n_aload_n C dX3_cue_67 rfl ?_
          refine n_iload C dX3_cue_68 rfl ?_
          refine n_if_ne C 77 dX3_cue_70 (by decide) (by unfold rg; omega) (fun b70 => ?_) (fun b70 => ?_)
          · refine n_iload C dX3_cue_77 rfl ?_
            refine n_if_ne C 86 dX3_cue_79 (by decide) (by unfold rg; omega) (fun b79 => ?_) (fun b79 => ?_)
            · exfalso; omega
            · refine n_iconst (x := 2) C dX3_cue_82 ?_
              refine n_goto C 100 dX3_cue_83 (by decide) ?_
              refine n_invV C (c_can hst (by omega) I hM hc) ⟨w4_221, w4_224, w1_5, ⟨by decide, by decide⟩, by show _ = some 1; decide +kernel, by decide⟩ w4_223 wp_24 hM.1 (show vwCl[6]? = some ("OperaMachinesModel", TX3, 27) from rfl) (by decide) (by omega) (by omega) (Nat.le_of_ble_eq_true rfl) rfl dX3_cue_100 (fun r σ h => ?_) (fun _ _ h => h.elim)
              obtain ⟨xc, M1, rfl, hM, hc, h26, hxc⟩ := h
              refine n_if_ne C 108 dX3_cue_103 (by decide) (by unfold rg; omega) (fun b103 => ?_) (fun b103 => ?_)
              · exfalso; omega
              · have hcd : cdCue c a b t z = 2 := by unfold cdCue; rw [if_pos (by omega), if_neg (by rw [if_pos (by omega)]; omega)]
                refine n_iconst (x := 0) C dX3_cue_106 ?_
                exact n_ireturn C Rr rfl ⟨_, _, rfl, hM, h26.trans hcd.symm, fun q => absurd (hcd.symm.trans q) (by decide), fun _ => hc⟩ (by omega) (by omega) dX3_cue_107
          · exfalso; omega
        · refine n_iload C dX3_cue_52 rfl ?_
          refine n_invS C (c_isWorker hst (by unfold rg; omega)) ⟨w5_1, w5_3, w1_5, ⟨by decide, by decide⟩, by show _ = some 1; decide +kernel, by decide⟩ w5_2 (by decide) (by omega) (by omega) (Nat.le_of_ble_eq_true rfl) rfl dX3_cue_54 (fun r σ' h => ?_) (fun _ _ h => h.elim)
          obtain ⟨x52, rfl, rfl, hx52⟩ := h
          refine n_if_eq C 64 dX3_cue_57 (by decide) (by unfold rg; omega) (fun b57 => ?_) (fun b57 => ?_)
          · refine n_iconst (x := 0) C dX3_cue_64 ?_
            refine n_istore (lv' := [(6, iv 0), (5, iv x0), (0, .ref o), (1, iv a), (2, iv b), (3, iv t), (4, iv z)]) C dX3_cue_65 (by rw [hN]; decide) rfl ?_
            refine n_aload_n C dX3_cue_67 rfl ?_
            refine n_iload C dX3_cue_68 rfl ?_
            refine n_if_ne C 77 dX3_cue_70 (by decide) (by unfold rg; omega) (fun b70 => ?_) (fun b70 => ?_)
            · refine n_iload C dX3_cue_77 rfl ?_
              refine n_if_ne C 86 dX3_cue_79 (by decide) (by unfold rg; omega) (fun b79 => ?_) (fun b79 => ?_)
              · exfalso; omega
              · refine n_iconst (x := 2) C dX3_cue_82 ?_
                refine n_goto C 100 dX3_cue_83 (by decide) ?_
                refine n_invV C (c_can hst (by omega) I hM hc) ⟨w4_221, w4_224, w1_5, ⟨by decide, by decide⟩, by show _ = some 1; decide +kernel, by decide⟩ w4_223 wp_24 hM.1 (show vwCl[6]? = some ("OperaMachinesModel", TX3, 27) from rfl) (by decide) (by omega) (by omega) (Nat.le_of_ble_eq_true rfl) rfl dX3_cue_100 (fun r σ h => ?_) (fun _ _ h => h.elim)
                obtain ⟨xc, M1, rfl, hM, hc, h26, hxc⟩ := h
                refine n_if_ne C 108 dX3_cue_103 (by decide) (by unfold rg; omega) (fun b103 => ?_) (fun b103 => ?_)
                · exfalso; omega
                · have hcd : cdCue c a b t z = 2 := by unfold cdCue; rw [if_pos (by omega), if_neg (by rw [if_pos (by omega)]; omega)]
                  refine n_iconst (x := 0) C dX3_cue_106 ?_
                  exact n_ireturn C Rr rfl ⟨_, _, rfl, hM, h26.trans hcd.symm, fun q => absurd (hcd.symm.trans q) (by decide), fun _ => hc⟩ (by omega) (by omega) dX3_cue_107
            · exfalso; omega
          · refine n_iconst (x := 1) C dX3_cue_60 ?_
            refine n_goto C 65 dX3_cue_61 (by decide) ?_
            refine n_istore (lv' := [(6, iv 1), (5, iv x0), (0, .ref o), (1, iv a), (2, iv b), (3, iv t), (4, iv z)]) C dX3_cue_65 (by rw [hN]; decide) rfl ?_
            refine n_aload_n C dX3_cue_67 rfl ?_
            refine n_iload C dX3_cue_68 rfl ?_
            refine n_if_ne C 77 dX3_cue_70 (by decide) (by unfold rg; omega) (fun b70 => ?_) (fun b70 => ?_)
            · refine n_iload C dX3_cue_77 rfl ?_
              refine n_if_ne C 86 dX3_cue_79 (by decide) (by unfold rg; omega) (fun b79 => ?_) (fun b79 => ?_)
              · refine n_aload_n C dX3_cue_86 rfl ?_
                refine r_get (v := iv (c 6 0)) C hM 6 (by decide) w4_134 rfl (congrArg (fun z => some (iv z)) (cut_at hc (by decide) 0)) dX3_cue_87 ?_
                refine n_bipush (x := 24) C dX3_cue_90 (by decide) ?_
                refine n_icmp_ne C 99 dX3_cue_92 (by decide) (by unfold rg; omega) (by unfold rg; omega) (fun b92 => ?_) (fun b92 => ?_)
                · refine n_iconst (x := 0) C dX3_cue_99 ?_
                  refine n_invV C (c_can hst (by omega) I hM hc) ⟨w4_221, w4_224, w1_5, ⟨by decide, by decide⟩, by show _ = some 1; decide +kernel, by decide⟩ w4_223 wp_24 hM.1 (show vwCl[6]? = some ("OperaMachinesModel", TX3, 27) from rfl) (by decide) (by omega) (by omega) (Nat.le_of_ble_eq_true rfl) rfl dX3_cue_100 (fun r σ h => ?_) (fun _ _ h => h.elim)
                  obtain ⟨xc, M1, rfl, hM, hc, h26, hxc⟩ := h
                  refine n_if_ne C 108 dX3_cue_103 (by decide) (by unfold rg; omega) (fun b103 => ?_) (fun b103 => ?_)
                  · have hcd : cdCue c a b t z = 0 := by unfold cdCue; rw [if_pos (by omega), if_pos (by rw [if_pos (by omega)]; omega), if_neg (by omega)]
                    refine n_aload_n C dX3_cue_108 rfl ?_
                    refine r_get C hM 8 (by decide) w4_136 rfl rfl dX3_cue_109 ?_
                    refine n_aload_n C dX3_cue_112 rfl ?_
                    refine r_get (v := iv (c 6 0)) C hM 6 (by decide) w4_134 rfl (congrArg (fun z => some (iv z)) (cut_at hc (by decide) 0)) dX3_cue_113 ?_
                    refine n_iload_n C dX3_cue_116 rfl ?_
                    refine r_iast C I hM 8 rfl rfl (((c 6 0)).toNat) (by omega) (show _ < 24 by omega) dX3_cue_117 (fun σ hM => ?_)
                    refine n_aload_n C dX3_cue_118 rfl ?_
                    refine r_get C hM 7 (by decide) w4_135 rfl rfl dX3_cue_119 ?_
                    refine n_aload_n C dX3_cue_122 rfl ?_
                    refine r_get (v := iv (c 6 0)) C hM 6 (by decide) w4_134 rfl (congrArg (fun z => some (iv z)) (cut_at hc (by decide) 0)) dX3_cue_123 ?_
                    refine n_iload_n C dX3_cue_126 rfl ?_
                    refine r_iast C I hM 7 rfl rfl (((c 6 0)).toNat) (by omega) (show _ < 24 by omega) dX3_cue_127 (fun σ hM => ?_)
                    refine n_aload_n C dX3_cue_128 rfl ?_
                    refine r_get C hM 9 (by decide) w4_137 rfl rfl dX3_cue_129 ?_
                    refine n_aload_n C dX3_cue_132 rfl ?_
                    refine r_get (v := iv (c 6 0)) C hM 6 (by decide) w4_134 rfl (congrArg (fun z => some (iv z)) (cut_at hc (by decide) 0)) dX3_cue_133 ?_
                    refine n_iload_n C dX3_cue_136 rfl ?_
                    refine r_iast C I hM 9 rfl rfl (((c 6 0)).toNat) (by omega) (show _ < 24 by omega) dX3_cue_137 (fun σ hM => ?_)
                    refine n_aload_n C dX3_cue_138 rfl ?_
                    refine r_get C hM 10 (by decide) w4_138 rfl rfl dX3_cue_139 ?_
                    refine n_aload_n C dX3_cue_142 rfl ?_
                    refine r_get (v := iv (c 6 0)) C hM 6 (by decide) w4_134 rfl (congrArg (fun z => some (iv z)) (cut_at hc (by decide) 0)) dX3_cue_143 ?_
                    refine n_iload C dX3_cue_146 rfl ?_
                    refine r_iast C I hM 10 rfl rfl (((c 6 0)).toNat) (by omega) (show _ < 24 by omega) dX3_cue_148 (fun σ hM => ?_)
                    refine n_aload_n C dX3_cue_149 rfl ?_
                    refine n_dup C dX3_cue_150 rfl ?_
                    refine r_get (v := iv (c 6 0)) C hM 6 (by decide) w4_134 rfl (congrArg (fun z => some (iv z)) (cut_at hc (by decide) 0)) dX3_cue_151 ?_
                    refine n_iconst (x := 1) C dX3_cue_154 ?_
                    refine n_iadd C dX3_cue_155 ?_
                    refine r_put C I hM 6 (by decide) rfl w4_134 rfl rfl rfl rfl dX3_cue_156 (fun σ hM => ?_)
                    refine n_aload_n C dX3_cue_159 rfl ?_
                    refine r_get (v := iv ((c 6 0) + 1)) C hM 6 (by decide) w4_134 rfl rfl dX3_cue_160 ?_
                    refine n_iconst (x := 1) C dX3_cue_163 ?_
                    refine n_isub C dX3_cue_164 ?_
                    exact n_ireturn C Rr rfl ⟨_, _, rfl, hM, (by rw [tu_k (by decide), tu_k (by decide), tu_k (by decide), tu_k (by decide), tu_k (by decide)]; exact h26.trans hcd.symm), fun _ => ⟨by first | rfl | omega, (by rw [cut_tuc (by decide), cut_tuc (by decide), cut_tuc (by decide), cut_tuc (by decide), cut_tuc (by decide), hc]; rfl)⟩, fun q => absurd hcd q⟩ (by omega) (by omega) dX3_cue_165
                  · exfalso; omega
                · refine n_iconst (x := 3) C dX3_cue_95 ?_
                  refine n_goto C 100 dX3_cue_96 (by decide) ?_
                  refine n_invV C (c_can hst (by omega) I hM hc) ⟨w4_221, w4_224, w1_5, ⟨by decide, by decide⟩, by show _ = some 1; decide +kernel, by decide⟩ w4_223 wp_24 hM.1 (show vwCl[6]? = some ("OperaMachinesModel", TX3, 27) from rfl) (by decide) (by omega) (by omega) (Nat.le_of_ble_eq_true rfl) rfl dX3_cue_100 (fun r σ h => ?_) (fun _ _ h => h.elim)
                  obtain ⟨xc, M1, rfl, hM, hc, h26, hxc⟩ := h
                  refine n_if_ne C 108 dX3_cue_103 (by decide) (by unfold rg; omega) (fun b103 => ?_) (fun b103 => ?_)
                  · exfalso; omega
                  · have hcd : cdCue c a b t z = 3 := by unfold cdCue; rw [if_pos (by omega), if_pos (by rw [if_pos (by omega)]; omega), if_pos (by omega)]
                    refine n_iconst (x := 0) C dX3_cue_106 ?_
                    exact n_ireturn C Rr rfl ⟨_, _, rfl, hM, h26.trans hcd.symm, fun q => absurd (hcd.symm.trans q) (by decide), fun _ => hc⟩ (by omega) (by omega) dX3_cue_107
              · exfalso; omega
            · exfalso; omega
      · refine n_sipush (x := 359) C dX3_cue_37 (by decide) ?_
        refine n_goto C 46 dX3_cue_40 (by decide) ?_
        refine n_invS C (c_isIn hst (by unfold rg; omega) (by unfold rg; omega) (by unfold rg; omega)) ⟨w4_218, w4_220, w1_5, ⟨by decide, by decide⟩, by show _ = some 3; decide +kernel, by decide⟩ w4_219 (by decide) (by omega) (by omega) (Nat.le_of_ble_eq_true rfl) rfl dX3_cue_46 (fun r σ' h => ?_) (fun _ _ h => h.elim)
        obtain ⟨x37, rfl, rfl, hx37⟩ := h
        refine n_if_eq C 64 dX3_cue_49 (by decide) (by unfold rg; omega) (fun b49 => ?_) (fun b49 => ?_)
        · refine n_iconst (x := 0) C dX3_cue_64 ?_
          refine n_istore (lv' := [(6, iv 0), (5, iv x0), (0, .ref o), (1, iv a), (2, iv b), (3, iv t), (4, iv z)]) C dX3_cue_65 (by rw [hN]; decide) rfl ?_
          refine n_aload_n C dX3_cue_67 rfl ?_
          refine n_iload C dX3_cue_68 rfl ?_
          refine n_if_ne C 77 dX3_cue_70 (by decide) (by unfold rg; omega) (fun b70 => ?_) (fun b70 => ?_)
          · refine n_iload C dX3_cue_77 rfl ?_
            refine n_if_ne C 86 dX3_cue_79 (by decide) (by unfold rg; omega) (fun b79 => ?_) (fun b79 => ?_)
            · exfalso; omega
            · refine n_iconst (x := 2) C dX3_cue_82 ?_
              refine n_goto C 100 dX3_cue_83 (by decide) ?_
              refine n_invV C (c_can hst (by omega) I hM hc) ⟨w4_221, w4_224, w1_5, ⟨by decide, by decide⟩, by show _ = some 1; decide +kernel, by decide⟩ w4_223 wp_24 hM.1 (show vwCl[6]? = some ("OperaMachinesModel", TX3, 27) from rfl) (by decide) (by omega) (by omega) (Nat.le_of_ble_eq_true rfl) rfl dX3_cue_100 (fun r σ h => ?_) (fun _ _ h => h.elim)
              obtain ⟨xc, M1, rfl, hM, hc, h26, hxc⟩ := h
              refine n_if_ne C 108 dX3_cue_103 (by decide) (by unfold rg; omega) (fun b103 => ?_) (fun b103 => ?_)
              · exfalso; omega
              · have hcd : cdCue c a b t z = 2 := by unfold cdCue; rw [if_pos (by omega), if_neg (by rw [if_neg (by omega)]; omega)]
                refine n_iconst (x := 0) C dX3_cue_106 ?_
                exact n_ireturn C Rr rfl ⟨_, _, rfl, hM, h26.trans hcd.symm, fun q => absurd (hcd.symm.trans q) (by decide), fun _ => hc⟩ (by omega) (by omega) dX3_cue_107
          · exfalso; omega
        · refine n_iload C dX3_cue_52 rfl ?_
          refine n_invS C (c_isWorker hst (by unfold rg; omega)) ⟨w5_1, w5_3, w1_5, ⟨by decide, by decide⟩, by show _ = some 1; decide +kernel, by decide⟩ w5_2 (by decide) (by omega) (by omega) (Nat.le_of_ble_eq_true rfl) rfl dX3_cue_54 (fun r σ' h => ?_) (fun _ _ h => h.elim)
          obtain ⟨x52, rfl, rfl, hx52⟩ := h
          refine n_if_eq C 64 dX3_cue_57 (by decide) (by unfold rg; omega) (fun b57 => ?_) (fun b57 => ?_)
          · refine n_iconst (x := 0) C dX3_cue_64 ?_
            refine n_istore (lv' := [(6, iv 0), (5, iv x0), (0, .ref o), (1, iv a), (2, iv b), (3, iv t), (4, iv z)]) C dX3_cue_65 (by rw [hN]; decide) rfl ?_
            refine n_aload_n C dX3_cue_67 rfl ?_
            refine n_iload C dX3_cue_68 rfl ?_
            refine n_if_ne C 77 dX3_cue_70 (by decide) (by unfold rg; omega) (fun b70 => ?_) (fun b70 => ?_)
            · refine n_iload C dX3_cue_77 rfl ?_
              refine n_if_ne C 86 dX3_cue_79 (by decide) (by unfold rg; omega) (fun b79 => ?_) (fun b79 => ?_)
              · exfalso; omega
              · refine n_iconst (x := 2) C dX3_cue_82 ?_
                refine n_goto C 100 dX3_cue_83 (by decide) ?_
                refine n_invV C (c_can hst (by omega) I hM hc) ⟨w4_221, w4_224, w1_5, ⟨by decide, by decide⟩, by show _ = some 1; decide +kernel, by decide⟩ w4_223 wp_24 hM.1 (show vwCl[6]? = some ("OperaMachinesModel", TX3, 27) from rfl) (by decide) (by omega) (by omega) (Nat.le_of_ble_eq_true rfl) rfl dX3_cue_100 (fun r σ h => ?_) (fun _ _ h => h.elim)
                obtain ⟨xc, M1, rfl, hM, hc, h26, hxc⟩ := h
                refine n_if_ne C 108 dX3_cue_103 (by decide) (by unfold rg; omega) (fun b103 => ?_) (fun b103 => ?_)
                · exfalso; omega
                · have hcd : cdCue c a b t z = 2 := by unfold cdCue; rw [if_pos (by omega), if_neg (by rw [if_neg (by omega)]; omega)]
                  refine n_iconst (x := 0) C dX3_cue_106 ?_
                  exact n_ireturn C Rr rfl ⟨_, _, rfl, hM, h26.trans hcd.symm, fun q => absurd (hcd.symm.trans q) (by decide), fun _ => hc⟩ (by omega) (by omega) dX3_cue_107
            · exfalso; omega
          · refine n_iconst (x := 1) C dX3_cue_60 ?_
            refine n_goto C 65 dX3_cue_61 (by decide) ?_
            refine n_istore (lv' := [(6, iv 1), (5, iv x0), (0, .ref o), (1, iv a), (2, iv b), (3, iv t), (4, iv z)]) C dX3_cue_65 (by rw [hN]; decide) rfl ?_
            refine n_aload_n C dX3_cue_67 rfl ?_
            refine n_iload C dX3_cue_68 rfl ?_
            refine n_if_ne C 77 dX3_cue_70 (by decide) (by unfold rg; omega) (fun b70 => ?_) (fun b70 => ?_)
            · refine n_iload C dX3_cue_77 rfl ?_
              refine n_if_ne C 86 dX3_cue_79 (by decide) (by unfold rg; omega) (fun b79 => ?_) (fun b79 => ?_)
              · refine n_aload_n C dX3_cue_86 rfl ?_
                refine r_get (v := iv (c 6 0)) C hM 6 (by decide) w4_134 rfl (congrArg (fun z => some (iv z)) (cut_at hc (by decide) 0)) dX3_cue_87 ?_
                refine n_bipush (x := 24) C dX3_cue_90 (by decide) ?_
                refine n_icmp_ne C 99 dX3_cue_92 (by decide) (by unfold rg; omega) (by unfold rg; omega) (fun b92 => ?_) (fun b92 => ?_)
                · refine n_iconst (x := 0) C dX3_cue_99 ?_
                  refine n_invV C (c_can hst (by omega) I hM hc) ⟨w4_221, w4_224, w1_5, ⟨by decide, by decide⟩, by show _ = some 1; decide +kernel, by decide⟩ w4_223 wp_24 hM.1 (show vwCl[6]? = some ("OperaMachinesModel", TX3, 27) from rfl) (by decide) (by omega) (by omega) (Nat.le_of_ble_eq_true rfl) rfl dX3_cue_100 (fun r σ h => ?_) (fun _ _ h => h.elim)
                  obtain ⟨xc, M1, rfl, hM, hc, h26, hxc⟩ := h
                  refine n_if_ne C 108 dX3_cue_103 (by decide) (by unfold rg; omega) (fun b103 => ?_) (fun b103 => ?_)
                  · have hcd : cdCue c a b t z = 0 := by unfold cdCue; rw [if_pos (by omega), if_pos (by rw [if_neg (by omega)]; omega), if_neg (by omega)]
                    refine n_aload_n C dX3_cue_108 rfl ?_
                    refine r_get C hM 8 (by decide) w4_136 rfl rfl dX3_cue_109 ?_
                    refine n_aload_n C dX3_cue_112 rfl ?_
                    refine r_get (v := iv (c 6 0)) C hM 6 (by decide) w4_134 rfl (congrArg (fun z => some (iv z)) (cut_at hc (by decide) 0)) dX3_cue_113 ?_
                    refine n_iload_n C dX3_cue_116 rfl ?_
                    refine r_iast C I hM 8 rfl rfl (((c 6 0)).toNat) (by omega) (show _ < 24 by omega) dX3_cue_117 (fun σ hM => ?_)
                    refine n_aload_n C dX3_cue_118 rfl ?_
                    refine r_get C hM 7 (by decide) w4_135 rfl rfl dX3_cue_119 ?_
                    refine n_aload_n C dX3_cue_122 rfl ?_
                    refine r_get (v := iv (c 6 0)) C hM 6 (by decide) w4_134 rfl (congrArg (fun z => some (iv z)) (cut_at hc (by decide) 0)) dX3_cue_123 ?_
                    refine n_iload_n C dX3_cue_126 rfl ?_
                    refine r_iast C I hM 7 rfl rfl (((c 6 0)).toNat) (by omega) (show _ < 24 by omega) dX3_cue_127 (fun σ hM => ?_)
                    refine n_aload_n C dX3_cue_128 rfl ?_
                    refine r_get C hM 9 (by decide) w4_137 rfl rfl dX3_cue_129 ?_
                    refine n_aload_n C dX3_cue_132 rfl ?_
                    refine r_get (v := iv (c 6 0)) C hM 6 (by decide) w4_134 rfl (congrArg (fun z => some (iv z)) (cut_at hc (by decide) 0)) dX3_cue_133 ?_
                    refine n_iload_n C dX3_cue_136 rfl ?_
                    refine r_iast C I hM 9 rfl rfl (((c 6 0)).toNat) (by omega) (show _ < 24 by omega) dX3_cue_137 (fun σ hM => ?_)
                    refine n_aload_n C dX3_cue_138 rfl ?_
                    refine r_get C hM 10 (by decide) w4_138 rfl rfl dX3_cue_139 ?_
                    refine n_aload_n C dX3_cue_142 rfl ?_
                    refine r_get (v := iv (c 6 0)) C hM 6 (by decide) w4_134 rfl (congrArg (fun z => some (iv z)) (cut_at hc (by decide) 0)) dX3_cue_143 ?_
                    refine n_iload C dX3_cue_146 rfl ?_
                    refine r_iast C I hM 10 rfl rfl (((c 6 0)).toNat) (by omega) (show _ < 24 by omega) dX3_cue_148 (fun σ hM => ?_)
                    refine n_aload_n C dX3_cue_149 rfl ?_
                    refine n_dup C dX3_cue_150 rfl ?_
                    refine r_get (v := iv (c 6 0)) C hM 6 (by decide) w4_134 rfl (congrArg (fun z => some (iv z)) (cut_at hc (by decide) 0)) dX3_cue_151 ?_
                    refine n_iconst (x := 1) C dX3_cue_154 ?_
                    refine n_iadd C dX3_cue_155 ?_
                    refine r_put C I hM 6 (by decide) rfl w4_134 rfl rfl rfl rfl dX3_cue_156 (fun σ hM => ?_)
                    refine n_aload_n C dX3_cue_159 rfl ?_
                    refine r_get (v := iv ((c 6 0) + 1)) C hM 6 (by decide) w4_134 rfl rfl dX3_cue_160 ?_
                    refine n_iconst (x := 1) C dX3_cue_163 ?_
                    refine n_isub C dX3_cue_164 ?_
                    exact n_ireturn C Rr rfl ⟨_, _, rfl, hM, (by rw [tu_k (by decide), tu_k (by decide), tu_k (by decide), tu_k (by decide), tu_k (by decide)]; exact h26.trans hcd.symm), fun _ => ⟨by first | rfl | omega, (by rw [cut_tuc (by decide), cut_tuc (by decide), cut_tuc (by decide), cut_tuc (by decide), cut_tuc (by decide), hc]; rfl)⟩, fun q => absurd hcd q⟩ (by omega) (by omega) dX3_cue_165
                  · exfalso; omega
                · refine n_iconst (x := 3) C dX3_cue_95 ?_
                  refine n_goto C 100 dX3_cue_96 (by decide) ?_
                  refine n_invV C (c_can hst (by omega) I hM hc) ⟨w4_221, w4_224, w1_5, ⟨by decide, by decide⟩, by show _ = some 1; decide +kernel, by decide⟩ w4_223 wp_24 hM.1 (show vwCl[6]? = some ("OperaMachinesModel", TX3, 27) from rfl) (by decide) (by omega) (by omega) (Nat.le_of_ble_eq_true rfl) rfl dX3_cue_100 (fun r σ h => ?_) (fun _ _ h => h.elim)
                  obtain ⟨xc, M1, rfl, hM, hc, h26, hxc⟩ := h
                  refine n_if_ne C 108 dX3_cue_103 (by decide) (by unfold rg; omega) (fun b103 => ?_) (fun b103 => ?_)
                  · exfalso; omega
                  · have hcd : cdCue c a b t z = 3 := by unfold cdCue; rw [if_pos (by omega), if_pos (by rw [if_neg (by omega)]; omega), if_pos (by omega)]
                    refine n_iconst (x := 0) C dX3_cue_106 ?_
                    exact n_ireturn C Rr rfl ⟨_, _, rfl, hM, h26.trans hcd.symm, fun q => absurd (hcd.symm.trans q) (by decide), fun _ => hc⟩ (by omega) (by omega) dX3_cue_107
              · exfalso; omega
            · exfalso; omega
end
