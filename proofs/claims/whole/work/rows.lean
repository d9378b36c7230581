section
-- ===== PART A: goes FIRST, ahead of the names: the tables' words, and 'selects' of the private methods out of them =====
/-- a private method of a class that the tables say can be made, by its rows of tables_1 -/
def lw_okq (q : MethodName × Nat) : Prop := (q.1.cls ≠ "java/lang/invoke/MethodHandle" ∧ q.1.cls ≠ "java/lang/invoke/VarHandle") ∧ Cond.instantiable q.1.cls q.2 ∈ tables_1 ∧ Cond.privateMethod q.1 ∈ tables_1 ∧ Cond.instanceMethod q.1 ∈ tables_1
theorem lw_p0 : lw_okq (⟨"FrameCommutator", "placeAll", "()I"⟩, 5) := ⟨⟨by decide +kernel, by decide +kernel⟩, List.mem_of_getElem? (i := 17) (by decide +kernel), List.mem_of_getElem? (i := 220) (by decide +kernel), List.mem_of_getElem? (i := 221) (by decide +kernel)⟩
theorem lw_p1 : lw_okq (⟨"FrameCommutator$Layout", "placeOften", "(II)Z"⟩, 5) := ⟨⟨by decide +kernel, by decide +kernel⟩, List.mem_of_getElem? (i := 31) (by decide +kernel), List.mem_of_getElem? (i := 232) (by decide +kernel), List.mem_of_getElem? (i := 233) (by decide +kernel)⟩
theorem lw_p2 : lw_okq (⟨"FrameCommutator$Layout", "areFree", "(III)Z"⟩, 5) := ⟨⟨by decide +kernel, by decide +kernel⟩, List.mem_of_getElem? (i := 31) (by decide +kernel), List.mem_of_getElem? (i := 240) (by decide +kernel), List.mem_of_getElem? (i := 241) (by decide +kernel)⟩
theorem lw_p3 : lw_okq (⟨"FrameCommutator$Layout", "isFree", "(III)Z"⟩, 5) := ⟨⟨by decide +kernel, by decide +kernel⟩, List.mem_of_getElem? (i := 31) (by decide +kernel), List.mem_of_getElem? (i := 244) (by decide +kernel), List.mem_of_getElem? (i := 245) (by decide +kernel)⟩
theorem lw_p4 : lw_okq (⟨"FrameCommutator$Layout", "minorsOf", "(I)I"⟩, 5) := ⟨⟨by decide +kernel, by decide +kernel⟩, List.mem_of_getElem? (i := 31) (by decide +kernel), List.mem_of_getElem? (i := 248) (by decide +kernel), List.mem_of_getElem? (i := 249) (by decide +kernel)⟩
theorem lw_p5 : lw_okq (⟨"FrameCommutator$Layout", "giveColumn", "(IIII)V"⟩, 5) := ⟨⟨by decide +kernel, by decide +kernel⟩, List.mem_of_getElem? (i := 31) (by decide +kernel), List.mem_of_getElem? (i := 256) (by decide +kernel), List.mem_of_getElem? (i := 257) (by decide +kernel)⟩
theorem lw_p6 : lw_okq (⟨"FrameCommutator$Layout", "placeSeldom", "(II)Z"⟩, 5) := ⟨⟨by decide +kernel, by decide +kernel⟩, List.mem_of_getElem? (i := 31) (by decide +kernel), List.mem_of_getElem? (i := 264) (by decide +kernel), List.mem_of_getElem? (i := 265) (by decide +kernel)⟩
theorem lw_p7 : lw_okq (⟨"FrameCommutator", "save", "()V"⟩, 5) := ⟨⟨by decide +kernel, by decide +kernel⟩, List.mem_of_getElem? (i := 17) (by decide +kernel), List.mem_of_getElem? (i := 268) (by decide +kernel), List.mem_of_getElem? (i := 269) (by decide +kernel)⟩
theorem lw_p8 : lw_okq (⟨"java/lang/Throwable", "fillInStackTrace", "(I)Ljava/lang/Throwable;"⟩, 6) := ⟨⟨by decide +kernel, by decide +kernel⟩, List.mem_of_getElem? (i := 384) (by decide +kernel), List.mem_of_getElem? (i := 382) (by decide +kernel), List.mem_of_getElem? (i := 383) (by decide +kernel)⟩
theorem lw_p9 : lw_okq (⟨"FrameCommutator", "parameterAt", "(I)LFrameCommutator$Parameter;"⟩, 5) := ⟨⟨by decide +kernel, by decide +kernel⟩, List.mem_of_getElem? (i := 17) (by decide +kernel), List.mem_of_getElem? (i := 462) (by decide +kernel), List.mem_of_getElem? (i := 463) (by decide +kernel)⟩
theorem lw_p10 : lw_okq (⟨"FrameCommutator$State", "isParameter", "(I)Z"⟩, 7) := ⟨⟨by decide +kernel, by decide +kernel⟩, List.mem_of_getElem? (i := 25) (by decide +kernel), List.mem_of_getElem? (i := 534) (by decide +kernel), List.mem_of_getElem? (i := 535) (by decide +kernel)⟩
theorem lw_p11 : lw_okq (⟨"FrameCommutator$Receiver", "lookForSync", "()V"⟩, 6) := ⟨⟨by decide +kernel, by decide +kernel⟩, List.mem_of_getElem? (i := 80) (by decide +kernel), List.mem_of_getElem? (i := 579) (by decide +kernel), List.mem_of_getElem? (i := 580) (by decide +kernel)⟩
theorem lw_p12 : lw_okq (⟨"FrameCommutator$Receiver", "endsWithSync", "(I)Z"⟩, 6) := ⟨⟨by decide +kernel, by decide +kernel⟩, List.mem_of_getElem? (i := 80) (by decide +kernel), List.mem_of_getElem? (i := 583) (by decide +kernel), List.mem_of_getElem? (i := 584) (by decide +kernel)⟩
theorem lw_p13 : lw_okq (⟨"FrameCommutator$Receiver", "storeBit", "(I)V"⟩, 6) := ⟨⟨by decide +kernel, by decide +kernel⟩, List.mem_of_getElem? (i := 80) (by decide +kernel), List.mem_of_getElem? (i := 589) (by decide +kernel), List.mem_of_getElem? (i := 590) (by decide +kernel)⟩
theorem lw_p14 : lw_okq (⟨"FrameCommutator$Receiver", "expectSync", "(I)V"⟩, 6) := ⟨⟨by decide +kernel, by decide +kernel⟩, List.mem_of_getElem? (i := 80) (by decide +kernel), List.mem_of_getElem? (i := 593) (by decide +kernel), List.mem_of_getElem? (i := 594) (by decide +kernel)⟩
theorem lw_p15 : lw_okq (⟨"FrameCommutator$Receiver", "continueAfterSync", "()V"⟩, 6) := ⟨⟨by decide +kernel, by decide +kernel⟩, List.mem_of_getElem? (i := 80) (by decide +kernel), List.mem_of_getElem? (i := 597) (by decide +kernel), List.mem_of_getElem? (i := 598) (by decide +kernel)⟩
def lw_privs_1 : List (MethodName × Nat) := [(⟨"FrameCommutator", "placeAll", "()I"⟩, 5), (⟨"FrameCommutator$Layout", "placeOften", "(II)Z"⟩, 5), (⟨"FrameCommutator$Layout", "areFree", "(III)Z"⟩, 5), (⟨"FrameCommutator$Layout", "isFree", "(III)Z"⟩, 5), (⟨"FrameCommutator$Layout", "minorsOf", "(I)I"⟩, 5), (⟨"FrameCommutator$Layout", "giveColumn", "(IIII)V"⟩, 5), (⟨"FrameCommutator$Layout", "placeSeldom", "(II)Z"⟩, 5), (⟨"FrameCommutator", "save", "()V"⟩, 5), (⟨"java/lang/Throwable", "fillInStackTrace", "(I)Ljava/lang/Throwable;"⟩, 6), (⟨"FrameCommutator", "parameterAt", "(I)LFrameCommutator$Parameter;"⟩, 5), (⟨"FrameCommutator$State", "isParameter", "(I)Z"⟩, 7), (⟨"FrameCommutator$Receiver", "lookForSync", "()V"⟩, 6), (⟨"FrameCommutator$Receiver", "endsWithSync", "(I)Z"⟩, 6), (⟨"FrameCommutator$Receiver", "storeBit", "(I)V"⟩, 6), (⟨"FrameCommutator$Receiver", "expectSync", "(I)V"⟩, 6), (⟨"FrameCommutator$Receiver", "continueAfterSync", "()V"⟩, 6)]
theorem lw_r1 : ∀ q ∈ lw_privs_1, lw_okq q := List.forall_mem_cons.mpr ⟨lw_p0, List.forall_mem_cons.mpr ⟨lw_p1, List.forall_mem_cons.mpr ⟨lw_p2, List.forall_mem_cons.mpr ⟨lw_p3, List.forall_mem_cons.mpr ⟨lw_p4, List.forall_mem_cons.mpr ⟨lw_p5, List.forall_mem_cons.mpr ⟨lw_p6, List.forall_mem_cons.mpr ⟨lw_p7, List.forall_mem_cons.mpr ⟨lw_p8, List.forall_mem_cons.mpr ⟨lw_p9, List.forall_mem_cons.mpr ⟨lw_p10, List.forall_mem_cons.mpr ⟨lw_p11, List.forall_mem_cons.mpr ⟨lw_p12, List.forall_mem_cons.mpr ⟨lw_p13, List.forall_mem_cons.mpr ⟨lw_p14, List.forall_mem_cons.mpr ⟨lw_p15, fun _ h => absurd h List.not_mem_nil⟩⟩⟩⟩⟩⟩⟩⟩⟩⟩⟩⟩⟩⟩⟩⟩
theorem lw_p16 : lw_okq (⟨"FrameCommutator$Receiver", "beginFrameWith", "(I)V"⟩, 6) := ⟨⟨by decide +kernel, by decide +kernel⟩, List.mem_of_getElem? (i := 80) (by decide +kernel), List.mem_of_getElem? (i := 601) (by decide +kernel), List.mem_of_getElem? (i := 602) (by decide +kernel)⟩
theorem lw_p17 : lw_okq (⟨"FrameCommutator$Receiver", "expectLateSync", "(I)V"⟩, 6) := ⟨⟨by decide +kernel, by decide +kernel⟩, List.mem_of_getElem? (i := 80) (by decide +kernel), List.mem_of_getElem? (i := 605) (by decide +kernel), List.mem_of_getElem? (i := 606) (by decide +kernel)⟩
theorem lw_p18 : lw_okq (⟨"FrameCommutator$State", "deliver", "()V"⟩, 7) := ⟨⟨by decide +kernel, by decide +kernel⟩, List.mem_of_getElem? (i := 25) (by decide +kernel), List.mem_of_getElem? (i := 610) (by decide +kernel), List.mem_of_getElem? (i := 611) (by decide +kernel)⟩
theorem lw_p19 : lw_okq (⟨"FrameCommutator$Parameter", "isWithinLimits", "(II)Z"⟩, 10) := ⟨⟨by decide +kernel, by decide +kernel⟩, List.mem_of_getElem? (i := 108) (by decide +kernel), List.mem_of_getElem? (i := 618) (by decide +kernel), List.mem_of_getElem? (i := 619) (by decide +kernel)⟩
theorem lw_p20 : lw_okq (⟨"FrameCommutatorModel", "keep", "()V"⟩, 6) := ⟨⟨by decide +kernel, by decide +kernel⟩, List.mem_of_getElem? (i := 689) (by decide +kernel), List.mem_of_getElem? (i := 725) (by decide +kernel), List.mem_of_getElem? (i := 726) (by decide +kernel)⟩
theorem lw_p21 : lw_okq (⟨"FrameCommutatorModel", "beginsAnew", "()V"⟩, 6) := ⟨⟨by decide +kernel, by decide +kernel⟩, List.mem_of_getElem? (i := 689) (by decide +kernel), List.mem_of_getElem? (i := 729) (by decide +kernel), List.mem_of_getElem? (i := 730) (by decide +kernel)⟩
theorem lw_p22 : lw_okq (⟨"FrameCommutatorModel", "searches", "()V"⟩, 6) := ⟨⟨by decide +kernel, by decide +kernel⟩, List.mem_of_getElem? (i := 689) (by decide +kernel), List.mem_of_getElem? (i := 733) (by decide +kernel), List.mem_of_getElem? (i := 734) (by decide +kernel)⟩
theorem lw_p23 : lw_okq (⟨"FrameCommutatorModel", "put", "(III)V"⟩, 6) := ⟨⟨by decide +kernel, by decide +kernel⟩, List.mem_of_getElem? (i := 689) (by decide +kernel), List.mem_of_getElem? (i := 741) (by decide +kernel), List.mem_of_getElem? (i := 742) (by decide +kernel)⟩
theorem lw_p24 : lw_okq (⟨"FrameCommutatorModel", "draws", "()I"⟩, 6) := ⟨⟨by decide +kernel, by decide +kernel⟩, List.mem_of_getElem? (i := 689) (by decide +kernel), List.mem_of_getElem? (i := 749) (by decide +kernel), List.mem_of_getElem? (i := 750) (by decide +kernel)⟩
theorem lw_p25 : lw_okq (⟨"FrameCommutatorModel", "placedAt", "(I)I"⟩, 6) := ⟨⟨by decide +kernel, by decide +kernel⟩, List.mem_of_getElem? (i := 689) (by decide +kernel), List.mem_of_getElem? (i := 753) (by decide +kernel), List.mem_of_getElem? (i := 754) (by decide +kernel)⟩
theorem lw_p26 : lw_okq (⟨"FrameCommutatorModel", "samplesOf", "(I)I"⟩, 6) := ⟨⟨by decide +kernel, by decide +kernel⟩, List.mem_of_getElem? (i := 689) (by decide +kernel), List.mem_of_getElem? (i := 757) (by decide +kernel), List.mem_of_getElem? (i := 758) (by decide +kernel)⟩
theorem lw_p27 : lw_okq (⟨"FrameCommutatorModel", "of", "(II)I"⟩, 6) := ⟨⟨by decide +kernel, by decide +kernel⟩, List.mem_of_getElem? (i := 689) (by decide +kernel), List.mem_of_getElem? (i := 761) (by decide +kernel), List.mem_of_getElem? (i := 762) (by decide +kernel)⟩
theorem lw_p28 : lw_okq (⟨"FrameCommutatorModel", "placesMany", "(II)Z"⟩, 6) := ⟨⟨by decide +kernel, by decide +kernel⟩, List.mem_of_getElem? (i := 689) (by decide +kernel), List.mem_of_getElem? (i := 765) (by decide +kernel), List.mem_of_getElem? (i := 766) (by decide +kernel)⟩
theorem lw_p29 : lw_okq (⟨"FrameCommutatorModel", "isFree", "(III)Z"⟩, 6) := ⟨⟨by decide +kernel, by decide +kernel⟩, List.mem_of_getElem? (i := 689) (by decide +kernel), List.mem_of_getElem? (i := 769) (by decide +kernel), List.mem_of_getElem? (i := 770) (by decide +kernel)⟩
theorem lw_p30 : lw_okq (⟨"FrameCommutatorModel", "takes", "(IIII)V"⟩, 6) := ⟨⟨by decide +kernel, by decide +kernel⟩, List.mem_of_getElem? (i := 689) (by decide +kernel), List.mem_of_getElem? (i := 773) (by decide +kernel), List.mem_of_getElem? (i := 774) (by decide +kernel)⟩
theorem lw_p31 : lw_okq (⟨"FrameCommutatorModel", "placesFew", "(II)Z"⟩, 6) := ⟨⟨by decide +kernel, by decide +kernel⟩, List.mem_of_getElem? (i := 689) (by decide +kernel), List.mem_of_getElem? (i := 777) (by decide +kernel), List.mem_of_getElem? (i := 778) (by decide +kernel)⟩
def lw_privs_2 : List (MethodName × Nat) := [(⟨"FrameCommutator$Receiver", "beginFrameWith", "(I)V"⟩, 6), (⟨"FrameCommutator$Receiver", "expectLateSync", "(I)V"⟩, 6), (⟨"FrameCommutator$State", "deliver", "()V"⟩, 7), (⟨"FrameCommutator$Parameter", "isWithinLimits", "(II)Z"⟩, 10), (⟨"FrameCommutatorModel", "keep", "()V"⟩, 6), (⟨"FrameCommutatorModel", "beginsAnew", "()V"⟩, 6), (⟨"FrameCommutatorModel", "searches", "()V"⟩, 6), (⟨"FrameCommutatorModel", "put", "(III)V"⟩, 6), (⟨"FrameCommutatorModel", "draws", "()I"⟩, 6), (⟨"FrameCommutatorModel", "placedAt", "(I)I"⟩, 6), (⟨"FrameCommutatorModel", "samplesOf", "(I)I"⟩, 6), (⟨"FrameCommutatorModel", "of", "(II)I"⟩, 6), (⟨"FrameCommutatorModel", "placesMany", "(II)Z"⟩, 6), (⟨"FrameCommutatorModel", "isFree", "(III)Z"⟩, 6), (⟨"FrameCommutatorModel", "takes", "(IIII)V"⟩, 6), (⟨"FrameCommutatorModel", "placesFew", "(II)Z"⟩, 6)]
theorem lw_r2 : ∀ q ∈ lw_privs_2, lw_okq q := List.forall_mem_cons.mpr ⟨lw_p16, List.forall_mem_cons.mpr ⟨lw_p17, List.forall_mem_cons.mpr ⟨lw_p18, List.forall_mem_cons.mpr ⟨lw_p19, List.forall_mem_cons.mpr ⟨lw_p20, List.forall_mem_cons.mpr ⟨lw_p21, List.forall_mem_cons.mpr ⟨lw_p22, List.forall_mem_cons.mpr ⟨lw_p23, List.forall_mem_cons.mpr ⟨lw_p24, List.forall_mem_cons.mpr ⟨lw_p25, List.forall_mem_cons.mpr ⟨lw_p26, List.forall_mem_cons.mpr ⟨lw_p27, List.forall_mem_cons.mpr ⟨lw_p28, List.forall_mem_cons.mpr ⟨lw_p29, List.forall_mem_cons.mpr ⟨lw_p30, List.forall_mem_cons.mpr ⟨lw_p31, fun _ h => absurd h List.not_mem_nil⟩⟩⟩⟩⟩⟩⟩⟩⟩⟩⟩⟩⟩⟩⟩⟩
theorem lw_p32 : lw_okq (⟨"FrameCommutatorModel", "takenWords", "()I"⟩, 6) := ⟨⟨by decide +kernel, by decide +kernel⟩, List.mem_of_getElem? (i := 689) (by decide +kernel), List.mem_of_getElem? (i := 781) (by decide +kernel), List.mem_of_getElem? (i := 782) (by decide +kernel)⟩
theorem lw_p33 : lw_okq (⟨"FrameCommutatorModel", "isParameter", "(I)Z"⟩, 6) := ⟨⟨by decide +kernel, by decide +kernel⟩, List.mem_of_getElem? (i := 689) (by decide +kernel), List.mem_of_getElem? (i := 789) (by decide +kernel), List.mem_of_getElem? (i := 790) (by decide +kernel)⟩
theorem lw_p34 : lw_okq (⟨"FrameCommutatorModel", "slotOf", "(II)I"⟩, 6) := ⟨⟨by decide +kernel, by decide +kernel⟩, List.mem_of_getElem? (i := 689) (by decide +kernel), List.mem_of_getElem? (i := 797) (by decide +kernel), List.mem_of_getElem? (i := 798) (by decide +kernel)⟩
theorem lw_p35 : lw_okq (⟨"FrameCommutatorModel", "ownerAt", "(II)I"⟩, 6) := ⟨⟨by decide +kernel, by decide +kernel⟩, List.mem_of_getElem? (i := 689) (by decide +kernel), List.mem_of_getElem? (i := 805) (by decide +kernel), List.mem_of_getElem? (i := 806) (by decide +kernel)⟩
theorem lw_p36 : lw_okq (⟨"FrameCommutatorModel", "sends", "()V"⟩, 6) := ⟨⟨by decide +kernel, by decide +kernel⟩, List.mem_of_getElem? (i := 689) (by decide +kernel), List.mem_of_getElem? (i := 821) (by decide +kernel), List.mem_of_getElem? (i := 822) (by decide +kernel)⟩
theorem lw_p37 : lw_okq (⟨"FrameCommutatorModel", "wordOf", "(II)I"⟩, 6) := ⟨⟨by decide +kernel, by decide +kernel⟩, List.mem_of_getElem? (i := 689) (by decide +kernel), List.mem_of_getElem? (i := 825) (by decide +kernel), List.mem_of_getElem? (i := 826) (by decide +kernel)⟩
theorem lw_p38 : lw_okq (⟨"FrameCommutatorModel", "isBit", "(I)Z"⟩, 6) := ⟨⟨by decide +kernel, by decide +kernel⟩, List.mem_of_getElem? (i := 689) (by decide +kernel), List.mem_of_getElem? (i := 837) (by decide +kernel), List.mem_of_getElem? (i := 838) (by decide +kernel)⟩
theorem lw_p39 : lw_okq (⟨"FrameCommutatorModel", "removes", "(I)V"⟩, 6) := ⟨⟨by decide +kernel, by decide +kernel⟩, List.mem_of_getElem? (i := 689) (by decide +kernel), List.mem_of_getElem? (i := 845) (by decide +kernel), List.mem_of_getElem? (i := 846) (by decide +kernel)⟩
theorem lw_p40 : lw_okq (⟨"FrameCommutatorModel", "inserts", "(II)V"⟩, 6) := ⟨⟨by decide +kernel, by decide +kernel⟩, List.mem_of_getElem? (i := 689) (by decide +kernel), List.mem_of_getElem? (i := 849) (by decide +kernel), List.mem_of_getElem? (i := 850) (by decide +kernel)⟩
theorem lw_p41 : lw_okq (⟨"FrameCommutatorModel", "takesBit", "(I)V"⟩, 6) := ⟨⟨by decide +kernel, by decide +kernel⟩, List.mem_of_getElem? (i := 689) (by decide +kernel), List.mem_of_getElem? (i := 857) (by decide +kernel), List.mem_of_getElem? (i := 858) (by decide +kernel)⟩
theorem lw_p42 : lw_okq (⟨"FrameCommutatorModel", "takesIntoFrame", "(I)V"⟩, 6) := ⟨⟨by decide +kernel, by decide +kernel⟩, List.mem_of_getElem? (i := 689) (by decide +kernel), List.mem_of_getElem? (i := 861) (by decide +kernel), List.mem_of_getElem? (i := 862) (by decide +kernel)⟩
theorem lw_p43 : lw_okq (⟨"FrameCommutatorModel", "delivers", "()V"⟩, 6) := ⟨⟨by decide +kernel, by decide +kernel⟩, List.mem_of_getElem? (i := 689) (by decide +kernel), List.mem_of_getElem? (i := 865) (by decide +kernel), List.mem_of_getElem? (i := 866) (by decide +kernel)⟩
theorem lw_p44 : lw_okq (⟨"FrameCommutatorModel", "receivesSample", "(II)V"⟩, 6) := ⟨⟨by decide +kernel, by decide +kernel⟩, List.mem_of_getElem? (i := 689) (by decide +kernel), List.mem_of_getElem? (i := 869) (by decide +kernel), List.mem_of_getElem? (i := 870) (by decide +kernel)⟩
theorem lw_p45 : lw_okq (⟨"FrameCommutatorModel", "takesOneMore", "(I)V"⟩, 6) := ⟨⟨by decide +kernel, by decide +kernel⟩, List.mem_of_getElem? (i := 689) (by decide +kernel), List.mem_of_getElem? (i := 874) (by decide +kernel), List.mem_of_getElem? (i := 875) (by decide +kernel)⟩
theorem lw_p46 : lw_okq (⟨"FrameCommutatorModel", "beginsFrame", "()V"⟩, 6) := ⟨⟨by decide +kernel, by decide +kernel⟩, List.mem_of_getElem? (i := 689) (by decide +kernel), List.mem_of_getElem? (i := 879) (by decide +kernel), List.mem_of_getElem? (i := 880) (by decide +kernel)⟩
theorem lw_p47 : lw_okq (⟨"FrameCommutatorModel", "compares", "()V"⟩, 6) := ⟨⟨by decide +kernel, by decide +kernel⟩, List.mem_of_getElem? (i := 689) (by decide +kernel), List.mem_of_getElem? (i := 883) (by decide +kernel), List.mem_of_getElem? (i := 884) (by decide +kernel)⟩
def lw_privs_3 : List (MethodName × Nat) := [(⟨"FrameCommutatorModel", "takenWords", "()I"⟩, 6), (⟨"FrameCommutatorModel", "isParameter", "(I)Z"⟩, 6), (⟨"FrameCommutatorModel", "slotOf", "(II)I"⟩, 6), (⟨"FrameCommutatorModel", "ownerAt", "(II)I"⟩, 6), (⟨"FrameCommutatorModel", "sends", "()V"⟩, 6), (⟨"FrameCommutatorModel", "wordOf", "(II)I"⟩, 6), (⟨"FrameCommutatorModel", "isBit", "(I)Z"⟩, 6), (⟨"FrameCommutatorModel", "removes", "(I)V"⟩, 6), (⟨"FrameCommutatorModel", "inserts", "(II)V"⟩, 6), (⟨"FrameCommutatorModel", "takesBit", "(I)V"⟩, 6), (⟨"FrameCommutatorModel", "takesIntoFrame", "(I)V"⟩, 6), (⟨"FrameCommutatorModel", "delivers", "()V"⟩, 6), (⟨"FrameCommutatorModel", "receivesSample", "(II)V"⟩, 6), (⟨"FrameCommutatorModel", "takesOneMore", "(I)V"⟩, 6), (⟨"FrameCommutatorModel", "beginsFrame", "()V"⟩, 6), (⟨"FrameCommutatorModel", "compares", "()V"⟩, 6)]
theorem lw_r3 : ∀ q ∈ lw_privs_3, lw_okq q := List.forall_mem_cons.mpr ⟨lw_p32, List.forall_mem_cons.mpr ⟨lw_p33, List.forall_mem_cons.mpr ⟨lw_p34, List.forall_mem_cons.mpr ⟨lw_p35, List.forall_mem_cons.mpr ⟨lw_p36, List.forall_mem_cons.mpr ⟨lw_p37, List.forall_mem_cons.mpr ⟨lw_p38, List.forall_mem_cons.mpr ⟨lw_p39, List.forall_mem_cons.mpr ⟨lw_p40, List.forall_mem_cons.mpr ⟨lw_p41, List.forall_mem_cons.mpr ⟨lw_p42, List.forall_mem_cons.mpr ⟨lw_p43, List.forall_mem_cons.mpr ⟨lw_p44, List.forall_mem_cons.mpr ⟨lw_p45, List.forall_mem_cons.mpr ⟨lw_p46, List.forall_mem_cons.mpr ⟨lw_p47, fun _ h => absurd h List.not_mem_nil⟩⟩⟩⟩⟩⟩⟩⟩⟩⟩⟩⟩⟩⟩⟩⟩
theorem lw_p48 : lw_okq (⟨"FrameCommutatorModel", "tells", "(II)I"⟩, 6) := ⟨⟨by decide +kernel, by decide +kernel⟩, List.mem_of_getElem? (i := 689) (by decide +kernel), List.mem_of_getElem? (i := 899) (by decide +kernel), List.mem_of_getElem? (i := 900) (by decide +kernel)⟩
theorem lw_p49 : lw_okq (⟨"FrameCommutatorModel", "mix", "(J)V"⟩, 6) := ⟨⟨by decide +kernel, by decide +kernel⟩, List.mem_of_getElem? (i := 689) (by decide +kernel), List.mem_of_getElem? (i := 936) (by decide +kernel), List.mem_of_getElem? (i := 937) (by decide +kernel)⟩
theorem lw_p50 : lw_okq (⟨"FrameCommutatorModel", "mixPlan", "()V"⟩, 6) := ⟨⟨by decide +kernel, by decide +kernel⟩, List.mem_of_getElem? (i := 689) (by decide +kernel), List.mem_of_getElem? (i := 941) (by decide +kernel), List.mem_of_getElem? (i := 942) (by decide +kernel)⟩
def lw_privs_4 : List (MethodName × Nat) := [(⟨"FrameCommutatorModel", "tells", "(II)I"⟩, 6), (⟨"FrameCommutatorModel", "mix", "(J)V"⟩, 6), (⟨"FrameCommutatorModel", "mixPlan", "()V"⟩, 6)]
theorem lw_r4 : ∀ q ∈ lw_privs_4, lw_okq q := List.forall_mem_cons.mpr ⟨lw_p48, List.forall_mem_cons.mpr ⟨lw_p49, List.forall_mem_cons.mpr ⟨lw_p50, fun _ h => absurd h List.not_mem_nil⟩⟩⟩
def lw_privs : List (MethodName × Nat) := lw_privs_1 ++ (lw_privs_2 ++ (lw_privs_3 ++ (lw_privs_4)))
def lw_tbl : List Cond := k2_sels lw_privs ++ tables_1
theorem lw_privs_ok : ∀ q ∈ lw_privs, lw_okq q := by
  show ∀ q ∈ lw_privs_1 ++ (lw_privs_2 ++ (lw_privs_3 ++ (lw_privs_4))), lw_okq q
  exact List.forall_mem_append.mpr ⟨lw_r1, List.forall_mem_append.mpr ⟨lw_r2, List.forall_mem_append.mpr ⟨lw_r3, lw_r4⟩⟩⟩
/-- the streams that the claim lets the run draw from -/
abbrev lw_cs : List Choice := [Jvm.Choice.named "NaN.bits"]
theorem lw_bits : nanBits ∈ lw_cs := by first | decide | exact List.mem_cons_self | simp [lw_cs, nanBits]
-- ===== end of PART A; then your names; then what follows =====
end
section
/-! ===== BEGIN words of one list among another's, by their places ===== -/
theorem goodIn_r {big : List Cond} (ws : List Cond) (ps : List Nat) (hp : ws = ps.filterMap (fun i => big[i]?)) (h : ws.all goodWord = true) : GoodIn big ws := by
  intro w hw
  have h1 := List.all_eq_true.mp h w hw
  rw [hp] at hw
  obtain ⟨i, -, hi⟩ := List.mem_filterMap.mp hw
  have hm : w ∈ big := by first | exact List.mem_of_getElem? hi | exact List.getElem?_mem hi
  exact ⟨hm, good_of_word h1⟩
theorem goodIn_app {big a b : List Cond} (ha : GoodIn big a) (hb : GoodIn big b) : GoodIn big (a ++ b) := fun w h => (List.mem_append.mp h).elim (ha w) (hb w)
theorem goodIn_ca {big a b : List Cond} {c : Cond} (ha : GoodIn big (c :: a)) (hb : GoodIn big b) : GoodIn big (c :: (a ++ b)) := fun w h => (List.mem_cons.mp h).elim (fun e => ha w (List.mem_cons.mpr (Or.inl e))) (fun h => (List.mem_append.mp h).elim (fun h => ha w (List.mem_cons.mpr (Or.inr h))) (hb w))
theorem goodIn_sub {big ws : List Cond} (hm : ∀ w ∈ ws, w ∈ big) (h : ws.all goodWord = true) : GoodIn big ws := fun w hw => ⟨hm w hw, good_of_word (List.all_eq_true.mp h w hw)⟩
/-! ===== END ===== -/

/-! ===== BEGIN exceptions that leave a method, and their catching by the caller (launches without stack traces) ===== -/
section VXA
/-! The laws vx_back, vx_callV, vx_callS, vx_callSW, vx_throw0, vx_throwS follow proofs of the library, with one case more: JvmDerived/Free/Laws.lean (Back.of_free), Shelf42/LK1.lean (callV, callS), Shelf/KitTraced.lean (throwNew0V, throwNewS). -/
/-- where a method has thrown q: the class by its name, the cell, what was written, the world -/
def vx_T (XC : String → State → State → Prop) (st : State) (q : Addr) (t : State) (mc ms : Nat) (free : Addr → Prop) : Prop :=
  ∃ (E : String) (ce : Cell) (L : List Loc), XC E st t ∧ t.heap[q]? = some ce ∧ ce.vm = .none ∧ st.vm.findClass E = some ce.cls ∧ st.WarmedH t.vm ∧ st.sameButNew ({ t with vm := st.vm } : State) L mc ms ∧ ∀ z ∈ L, free z.base
def vx_Q (Qc : Array Value → State → Outcome → State → Prop) (XC : String → State → State → Prop) (mc ms : Nat) (free : Addr → Prop) : Array Value → State → Outcome → State → Prop := fun a st o t =>
  (Qc a st o t ∧ ∃ L, FrameEnd st o t L mc ms ∧ ∀ q ∈ L, free q.base) ∨ ∃ q, o = .threw q ∧ vx_T XC st q t mc ms free
/-- a callee that returns or throws -/
def vx_Met (l : Launch) (y : MethodName) (ws : List Cond) (rm : Room) (Pc : Array Value → State → Prop) (Qc : Array Value → State → Outcome → State → Prop) (XC : String → State → State → Prop) (mc ms : Nat) (free : Addr → Prop) : Prop :=
  MetFree l y (headSpec ws rm) Pc (fun _ _ _ _ _ => True) (vx_Q Qc XC mc ms free)
def vx_Post (XC : String → State → State → Prop) (mc ms : Nat) (free : Addr → Prop) : Pt → Array Value → Addr → Pt → Prop := fun A a q B =>
  ∃ (g : JFrame) (mk : MethodId) (t : State) (L : List Loc) (E : String) (ce : Cell), B.U.heap = t.heap ∧ B.U.vm = t.vm ∧ XC E (A.U.calling g mk a) t ∧ t.heap[q]? = some ce ∧ ce.vm = .none ∧ A.U.vm.findClass E = some ce.cls ∧ B.locs = A.locs ++ L ∧ (∀ z ∈ L, free z.base) ∧ B.cells = A.cells + mc ∧ B.slots = A.slots + ms
def vx_Back (l : Launch) (R : Room) (p : Program) (e : Env) (below : List Frame) (s : State) (sargs : Array Value) (y : MethodName) (len W9 : Nat)
    (Pre : Pt → Array Value → Prop) (Post : Pt → Array Value → Option Value → Pt → Prop) (PostX : Pt → Array Value → Addr → Pt → Prop) : Prop :=
  ∀ (m : MethodId) (meth : Method) (c : Code) (A : Pt) (g : JFrame) (ig : Instr) (mk : MethodId) (a : Array Value),
    Stand p l e R s m sargs below meth c A.U A.locs A.cells A.slots → g.method = m → g.locals.size = c.maxLocals → decode c.code g.pc = .ok (ig, len) →
    2 * g.monitorRoom + (g.stack.map fun v => v.category).sum ≤ W9 → A.U.methodNamed? y = some mk → Pre A a →
    (∃ (v : Option Value) (B : Pt), Stand p l e R s m sargs below meth c B.U B.locs B.cells B.slots ∧ Post A a v B ∧
      Steps p.tables e below (doInvoke e (A.U.setTop g) [] mk a).1 (B.U.setTop { g with pc := g.pc + len, stack := v.toList ++ g.stack })) ∨
    (∃ (q : Addr) (B : Pt), Stand p l e R s m sargs below meth c B.U B.locs B.cells B.slots ∧ PostX A a q B ∧
      Steps p.tables e below (doInvoke e (A.U.setTop g) [] mk a).1 ((B.U.setTop g).pushFrame (.throwing q)))
section Payer
variable {l : Launch} {R : Room} {p : Program} {e : Env} {below : List Frame} {s : State} {sargs : Array Value} {y : MethodName} {len W9 : Nat}
theorem vx_back {ws : List Cond} {rm : Room} {Pc : Array Value → State → Prop} {Qc : Array Value → State → Outcome → State → Prop} {XC : String → State → State → Prop} {mc ms : Nat} {free : Addr → Prop} {bytes : ByteArray} {maxL : Nat} {ret : Option FieldType}
    (hM : vx_Met l y ws rm Pc Qc XC mc ms free) (hblind : FrameBlind Pc) (hrc : rm.cells = mc) (hrs : rm.slots = ms)
    (hframes : rm.frames + 1 ≤ R.frames) (hlocals : W9 + (maxL + 11) + rm.locals ≤ R.locals)
    (hws : ∀ w ∈ ws, ∀ a' U, s.WarmedH U.vm → w.before a' U = true) (hcode : Cond.code y bytes maxL ret ∈ ws) (hinit : ∀ a' U, s.WarmedH U.vm → (Cond.initialized y.cls).before a' U = true) :
    vx_Back l R p e below s sargs y len W9 (PreOf R mc ms Pc) (PostOf Qc mc ms free) (vx_Post XC mc ms free) := by
  intro m meth c A g ig mk a X hg hsize hdg hW hn hp
  have h1 : (headSpec ws rm).pre.before a A.U = true := atoms_intro fun w hw => hws w hw _ _ X.warmed
  have h2 : (Cond.code y bytes maxL ret).before a A.U = true := hws _ hcode _ _ X.warmed
  have h3 : (Cond.initialized y.cls).before a A.U = true := hinit _ _ X.warmed
  have h4 : A.cells + (headSpec ws rm).room.cells ≤ R.cells := by rw [show (headSpec ws rm).room.cells = mc from hrc]; exact hp.1
  have h5 : A.slots + (headSpec ws rm).room.slots ≤ R.slots := by rw [show (headSpec ws rm).room.slots = ms from hrs]; exact hp.2.1
  have hPc : Pc a (A.U.calling g mk a) := hblind _ _ _ _ hp.2.2
  obtain ⟨U, Ls, c0, s0⟩ := A
  dsimp only [Pt.U, Pt.locs, Pt.cells, Pt.slots] at h1 h2 h3 h4 h5 X hn hPc ⊢
  obtain ⟨methY, cY, hmY, hcY, -, hlY, -, -, -, -⟩ := Cond.code_spec hn h2
  obtain ⟨kY, hkY, -⟩ := className_of_methodNamed hn
  have hinitY : kY.init = .initialized := Cond.initialized_spec (findClass_of_methodNamed hn) hkY h3
  have h : At U g.method c below := by rw [hg]; exact X.here
  have hlocals9 : W9 + (maxL + 11) + (headSpec ws rm).room.locals ≤ R.locals := hlocals
  have happ : (headSpec ws rm).appliesLoose y e.platform (U.calling g mk a) = true :=
    Spec.appliesLoose_calling (g := g) h hdg hn hkY hinitY
      (X.room_calling (g := g) (R' := (headSpec ws rm).room) hsize hmY hcY hframes (by rw [hlY]; omega) h4 h5) h1
  obtain ⟨mid, hmid⟩ := h.above
  have hfr : (U.setTop g).frames = (.java g :: mid) ++ below := by rw [State.frames_setTop' g h.top, hmid]; rfl
  obtain ⟨o, s₂, hsteps, -, hend, hq⟩ := Steps.callFree hM p X.admits X.cas X.clock (acts := []) hfr happ hPc trivial
  have hq' : vx_Q Qc XC mc ms free a (U.calling g mk a) o s₂ := hq
  rw [State.frames_setTop' g h.top] at hend
  obtain ⟨g₀, hg0⟩ := Option.isSome_iff_exists.mp h.top
  obtain ⟨r, hr⟩ := State.topJava?_eq_some.mp hg0
  have hr' : (({ U with heap := s₂.heap, slotsUsed := s₂.slotsUsed } : State).setVm s₂.vm).frames = .java g₀ :: r := hr
  rcases hq' with ⟨hqc, L, hfe, hL⟩ | ⟨q, rfl, E, ce, L, hx, hce, hcv, hcl, hW₂, hsm, hL⟩
  · obtain ⟨⟨v, rfl⟩, hW₂, e2, q2, q3, q4, q5, q6⟩ := id hfe
    have e3 : s₂ = ({ (U.calling g mk a).setFrames s₂.frames with heap := s₂.heap, slotsUsed := s₂.slotsUsed } : State).setVm s₂.vm := by
      have : s₂ = ({ s₂ with vm := (U.calling g mk a).vm } : State).setVm s₂.vm := rfl
      rw [e2] at this
      exact this
    obtain ⟨c₂, i₂, len₂, hc₂, hd₂, hf₂⟩ := hend
    have hW' : U.WarmedH s₂.vm := hW₂
    have hcc : c₂ = c := by
      have h1 : s₂.code? g.method = U.code? g.method := by
        rw [State.code?_eq, State.code?_eq, hW'.alike.method?]
      exact Option.some.inj (hc₂.symm.trans (h1.trans h.code))
    subst hcc
    have hlen : len₂ = len := by rw [hdg] at hd₂; cases hd₂; rfl
    subst hlen
    have hs₂ : s₂ = (({ U with heap := s₂.heap, slotsUsed := s₂.slotsUsed } : State).setVm s₂.vm).setTop { g with pc := g.pc + len₂, stack := v.toList ++ g.stack } := by
      refine e3.trans ?_
      rw [hf₂, State.calling_eq h.top, State.setFrames_setFrames, State.setTop_of_frames _ hr', hr]
      rfl
    have hsame : U.sameButNew ({ U with heap := s₂.heap, slotsUsed := s₂.slotsUsed } : State) L mc ms := by
      refine ⟨?_, q2, q3, q4, q5, q6⟩
      obtain ⟨t, ht, -⟩ := State.frames_cons hr
      show ({ U with heap := s₂.heap, slotsUsed := s₂.slotsUsed } : State) = { U.setFrames U.frames with heap := s₂.heap, slotsUsed := s₂.slotsUsed }
      rw [State.setFrames_self ht]
    subst hg
    refine Or.inl ⟨v, ⟨(({ U with heap := s₂.heap, slotsUsed := s₂.slotsUsed } : State).setVm s₂.vm), Ls ++ L, c0 + mc, s0 + ms⟩,
      ⟨X.admits, X.cas, X.clock, X.frames, X.room, X.hears, X.method, X.code, (X.here.setHeapUsed s₂.heap s₂.slotsUsed).setVm hW'.alike, X.tail, State.WarmedH.trans X.warmed hW', X.limits, X.bytes, X.same.trans (hsame.setVm s.vm)⟩,
      ⟨g, mk, s₂, L, rfl, rfl, hqc, rfl, hL, rfl, rfl⟩, ?_⟩
    show Steps p.tables e below _ ((({ U with heap := s₂.heap, slotsUsed := s₂.slotsUsed } : State).setVm s₂.vm).setTop { g with pc := g.pc + len₂, stack := v.toList ++ g.stack })
    rw [← hs₂]
    exact hsteps
  · obtain ⟨e2, q2, q3, q4, q5, q6⟩ := id hsm
    have e3 : s₂ = ({ (U.calling g mk a).setFrames s₂.frames with heap := s₂.heap, slotsUsed := s₂.slotsUsed } : State).setVm s₂.vm := by
      have : s₂ = ({ s₂ with vm := (U.calling g mk a).vm } : State).setVm s₂.vm := rfl
      rw [e2] at this
      exact this
    have hf₂ : s₂.frames = .throwing q :: .java g :: U.frames.tail := hend
    have hW' : U.WarmedH s₂.vm := hW₂
    have hs₂ : s₂ = ((({ U with heap := s₂.heap, slotsUsed := s₂.slotsUsed } : State).setVm s₂.vm).setTop g).pushFrame (.throwing q) := by
      refine e3.trans ?_
      rw [hf₂, State.calling_eq h.top, State.setFrames_setFrames, State.pushFrame, State.frames_setTop _ hr', State.setTop_of_frames _ hr', State.setFrames_setFrames, hr]
      rfl
    have hsame : U.sameButNew ({ U with heap := s₂.heap, slotsUsed := s₂.slotsUsed } : State) L mc ms := by
      refine ⟨?_, q2, q3, q4, q5, q6⟩
      obtain ⟨t, ht, -⟩ := State.frames_cons hr
      show ({ U with heap := s₂.heap, slotsUsed := s₂.slotsUsed } : State) = { U.setFrames U.frames with heap := s₂.heap, slotsUsed := s₂.slotsUsed }
      rw [State.setFrames_self ht]
    subst hg
    refine Or.inr ⟨q, ⟨(({ U with heap := s₂.heap, slotsUsed := s₂.slotsUsed } : State).setVm s₂.vm), Ls ++ L, c0 + mc, s0 + ms⟩,
      ⟨X.admits, X.cas, X.clock, X.frames, X.room, X.hears, X.method, X.code, (X.here.setHeapUsed s₂.heap s₂.slotsUsed).setVm hW'.alike, X.tail, State.WarmedH.trans X.warmed hW', X.limits, X.bytes, X.same.trans (hsame.setVm s.vm)⟩,
      ⟨g, mk, s₂, L, E, ce, rfl, rfl, hx, hce, hcv, hcl, rfl, hL, rfl, rfl⟩, ?_⟩
    show Steps p.tables e below _ (((({ U with heap := s₂.heap, slotsUsed := s₂.slotsUsed } : State).setVm s₂.vm).setTop g).pushFrame (.throwing q))
    rw [← hs₂]
    exact hsteps
end Payer
section Calls
variable {p : Program} {l : Launch} {e : Env} {R : Room} {s : State} {m : MethodId} {args : Array Value} {below : List Frame} {meth : Method} {c : Code} {T : State} {locs : List Loc} {cells slots : Nat}
theorem vx_callV (X : Stand p l e R s m args below meth c T locs cells slots) (hexec : p.tables.exec = Jvm.exec) {own C : String} {index : Nat} {y : MethodName} {bytes : ByteArray} {maxL : Nat} {ret : Option FieldType}
    (hown : s.vm.findClass own = some m.cls) (hlink : (Cond.methodLink own index y).before args s = true) (hinst : (Cond.instanceMethod y).before args s = true) (hsel : (Cond.selects C y y).before args s = true)
    (hcode : (Cond.code y bytes maxL ret).before args s = true) (hy : y.cls ≠ "java/lang/invoke/MethodHandle" ∧ y.cls ≠ "java/lang/invoke/VarHandle")
    {W9 : Nat} {Pre : Pt → Array Value → Prop} {Post : Pt → Array Value → Option Value → Pt → Prop} {PostX : Pt → Array Value → Addr → Pt → Prop} (hK : vx_Back l R p e below s args y 3 W9 Pre Post PostX)
    {b : Addr} {cellB : Cell} (hcell : T.heap[b]? = some cellB) (hobj : cellB.vm.isStatics = false) (hcls : s.vm.findClass C = some cellB.cls)
    {g : JFrame} (hg : g.method = m) (hsize : g.locals.size = c.maxLocals) {argsL rest : List Value} (hlen : ∀ sig, parseMethodDescriptor y.desc = some sig → argsL.length = sig.parameters.length)
    (hstack : g.stack = argsL.reverse ++ .ref b :: rest) (hW : 2 * g.monitorRoom + (rest.map fun v => v.category).sum ≤ W9) (hdg : decode c.code g.pc = .ok (.invokevirtual index, 3))
    (hpre : ∀ vm₁, s.WarmedH vm₁ → Pre ⟨T.setVm vm₁, locs, cells, slots⟩ (Value.ref b :: argsL).toArray) :
    (∃ (v : Option Value) (vm₁ : Vm) (B : Pt), s.WarmedH vm₁ ∧ Stand p l e R s m args below meth c B.U B.locs B.cells B.slots ∧ Post ⟨T.setVm vm₁, locs, cells, slots⟩ (Value.ref b :: argsL).toArray v B ∧
      ∀ target, Steps p.tables e below (B.U.setTop { g with pc := g.pc + 3, stack := v.toList ++ rest }) target → Steps p.tables e below (T.setTop g) target) ∨
    (∃ (q : Addr) (vm₁ : Vm) (B : Pt), s.WarmedH vm₁ ∧ Stand p l e R s m args below meth c B.U B.locs B.cells B.slots ∧ PostX ⟨T.setVm vm₁, locs, cells, slots⟩ (Value.ref b :: argsL).toArray q B ∧
      Steps p.tables e below (T.setTop g) ((B.U.setTop { g with stack := rest }).pushFrame (.throwing q))) := by
  obtain ⟨mk, methM, hnamed, hmethM, hstM, habM⟩ := Cond.instanceMethod_spec hinst
  obtain ⟨methM', cM, hmethM', -, -, -, -, -, -, hsigM⟩ := Cond.code_spec hnamed hcode
  cases hmethM.symm.trans hmethM'
  obtain ⟨c2, r2, m2, q1, q2, q3, q4, kP, hkP, hkPi⟩ := Cond.selects_spec hsel
  cases hcls.symm.trans q1
  cases (State.methodFound?_of_named hnamed hy).symm.trans q2
  cases hnamed.symm.trans q3
  have hselP : selectMethod e.platform s.vm cellB.cls mk = .method mk := by rw [Launch.admits_selectMethod X.admits]; exact q4
  obtain ⟨vm₁, X₁, hstep₁⟩ := X.invokevirtual hexec hown hlink hnamed hmethM hstM hkP hkPi hy (a := b) (cell := cellB) hcell
    (fun z h => by rw [h] at hobj; cases hobj) hselP hmethM habM hkP hkPi (g := g) hg (argsL := argsL) (rest := rest) (hlen _ hsigM) hstack hdg
  rcases hK m meth c ⟨T.setVm vm₁, locs, cells, slots⟩ { g with stack := rest } (.invokevirtual index) mk (Value.ref b :: argsL).toArray X₁ hg hsize hdg hW (X₁.named hnamed) (hpre vm₁ X₁.warmed) with ⟨v, B, X', hpost, hsteps⟩ | ⟨q, B, X', hpost, hsteps⟩
  · exact Or.inl ⟨v, vm₁, B, X₁.warmed, X', hpost, fun target h => hstep₁ _ fun acts => by rw [doInvoke_state]; exact hsteps.trans h⟩
  · exact Or.inr ⟨q, vm₁, B, X₁.warmed, X', hpost, hstep₁ _ fun acts => by rw [doInvoke_state]; exact hsteps⟩
theorem vx_callS (X : Stand p l e R s m args below meth c T locs cells slots) (hexec : p.tables.exec = Jvm.exec) {own : String} {index : Nat} {y : MethodName} {bytes : ByteArray} {maxL : Nat} {ret : Option FieldType}
    (hown : s.vm.findClass own = some m.cls) (hlink : (Cond.methodLink own index y).before args s = true) (hstat : (Cond.static y).before args s = true) (hinit : (Cond.initialized y.cls).before args s = true)
    (hcode : (Cond.code y bytes maxL ret).before args s = true) (hy : y.cls ≠ "java/lang/invoke/MethodHandle" ∧ y.cls ≠ "java/lang/invoke/VarHandle")
    {W9 : Nat} {Pre : Pt → Array Value → Prop} {Post : Pt → Array Value → Option Value → Pt → Prop} {PostX : Pt → Array Value → Addr → Pt → Prop} (hK : vx_Back l R p e below s args y 3 W9 Pre Post PostX)
    {g : JFrame} (hg : g.method = m) (hsize : g.locals.size = c.maxLocals) {argsL rest : List Value} (hlen : ∀ sig, parseMethodDescriptor y.desc = some sig → argsL.length = sig.parameters.length)
    (hstack : g.stack = argsL.reverse ++ rest) (hW : 2 * g.monitorRoom + (rest.map fun v => v.category).sum ≤ W9) (hdg : decode c.code g.pc = .ok (.invokestatic index, 3))
    (hpre : ∀ vm₁, s.WarmedH vm₁ → Pre ⟨T.setVm vm₁, locs, cells, slots⟩ argsL.toArray) :
    (∃ (v : Option Value) (vm₁ : Vm) (B : Pt), s.WarmedH vm₁ ∧ Stand p l e R s m args below meth c B.U B.locs B.cells B.slots ∧ Post ⟨T.setVm vm₁, locs, cells, slots⟩ argsL.toArray v B ∧
      ∀ target, Steps p.tables e below (B.U.setTop { g with pc := g.pc + 3, stack := v.toList ++ rest }) target → Steps p.tables e below (T.setTop g) target) ∨
    (∃ (q : Addr) (vm₁ : Vm) (B : Pt), s.WarmedH vm₁ ∧ Stand p l e R s m args below meth c B.U B.locs B.cells B.slots ∧ PostX ⟨T.setVm vm₁, locs, cells, slots⟩ argsL.toArray q B ∧
      Steps p.tables e below (T.setTop g) ((B.U.setTop { g with stack := rest }).pushFrame (.throwing q))) := by
  obtain ⟨mk, hnamed⟩ := Cond.code_named hcode
  obtain ⟨methM, cM, hmethM, -, -, -, -, -, -, hsigM⟩ := Cond.code_spec hnamed hcode
  have hstatic : methM.isStatic = true := Cond.static_spec hnamed hmethM hstat
  obtain ⟨kP, hkP, -⟩ := className_of_methodNamed hnamed
  have hinitP : kP.init = .initialized := Cond.initialized_spec (findClass_of_methodNamed hnamed) hkP hinit
  obtain ⟨vm₁, X₁, hstep₁⟩ := X.invokestatic hexec hown hlink hnamed hmethM hstatic hkP hinitP hy (g := g) hg (argsL := argsL) (rest := rest) (hlen _ hsigM) hstack hdg
  rcases hK m meth c ⟨T.setVm vm₁, locs, cells, slots⟩ { g with stack := rest } (.invokestatic index) mk argsL.toArray X₁ hg hsize hdg hW (X₁.named hnamed) (hpre vm₁ X₁.warmed) with ⟨v, B, X', hpost, hsteps⟩ | ⟨q, B, X', hpost, hsteps⟩
  · exact Or.inl ⟨v, vm₁, B, X₁.warmed, X', hpost, fun target h => hstep₁ _ fun acts => by rw [doInvoke_state]; exact hsteps.trans h⟩
  · exact Or.inr ⟨q, vm₁, B, X₁.warmed, X', hpost, hstep₁ _ fun acts => by rw [doInvoke_state]; exact hsteps⟩
end Calls
theorem vx_cls {s : State} {T : State} {vm₁ : Vm} {E : String} {k : ClassId} (hW : s.WarmedH vm₁) (h : (T.setVm vm₁).vm.findClass E = some k) : s.vm.findClass E = some k := by
  have h1 : vm₁.findClass E = some k := h
  rw [hW.alike.findClass] at h1
  exact h1
/-- the method's frame g, with q thrown over it -/
def vx_W (p : Program) (l : Launch) (e : Env) (R : Room) (s : State) (m : MethodId) (args : Array Value) (below : List Frame) (meth : Method) (c : Code) (H : Heap) (locs : List Loc) (cells slots : Nat) (Q : State → Prop) (g : JFrame) (q : Addr) : Prop :=
  ∀ T : State, T.heap = H → Stand p l e R s m args below meth c T locs cells slots → ∃ t, Steps p.tables e below ((T.setTop g).pushFrame (.throwing q)) t ∧ Q t
def vx_Run (p : Program) (l : Launch) (e : Env) (R : Room) (s : State) (m : MethodId) (args : Array Value) (below : List Frame) (meth : Method) (c : Code) (H : Heap) (locs : List Loc) (cells slots mc ms : Nat) (g : JFrame) (rest : List Value) (Qa : State → Outcome → State → Prop) (XC : String → State → State → Prop) (free : Addr → Prop) : Prop :=
  ∀ T : State, T.heap = H → Stand p l e R s m args below meth c T locs cells slots →
    (∃ (v : Option Value) (st₀ t T' : State) (L : List Loc), st₀.heap = H ∧ Stand p l e R s m args below meth c T' (locs ++ L) (cells + mc) (slots + ms) ∧ (∀ q ∈ L, free q.base) ∧ T'.heap = t.heap ∧ T'.vm = t.vm ∧ Qa st₀ (.returned v) t ∧
      Goes p e below T g T' { g with pc := g.pc + 3, stack := v.toList ++ rest }) ∨
    (∃ (q : Addr) (st₀ t T' : State) (L : List Loc) (E : String) (ce : Cell), st₀.heap = H ∧ Stand p l e R s m args below meth c T' (locs ++ L) (cells + mc) (slots + ms) ∧ (∀ z ∈ L, free z.base) ∧ T'.heap = t.heap ∧ T'.vm = t.vm ∧ XC E st₀ t ∧ t.heap[q]? = some ce ∧ ce.vm = .none ∧ s.vm.findClass E = some ce.cls ∧
      Steps p.tables e below (T.setTop g) ((T'.setTop { g with stack := rest }).pushFrame (.throwing q)))
def vx_X {S : Type} (px : S → Prop) (B : String → S → State → Prop) (A : Nat → Prop) : String → State → State → Prop := fun E st t => ∃ u : S, px u ∧ B E u t ∧ va_F A st t
section Runs
variable {p : Program} {l : Launch} {e : Env} {R : Room} {s : State} {m : MethodId} {args : Array Value} {below : List Frame} {meth : Method} {c : Code} {H : Heap} {locs : List Loc} {cells slots : Nat}
variable {y : MethodName} {bytes cc : ByteArray} {maxL nL mc ms n index : Nat} {ret : Option FieldType} {ws : List Cond} {rm : Room} {Pc : Array Value → State → Prop} {Qc : Array Value → State → Outcome → State → Prop} {XC : String → State → State → Prop} {free : Addr → Prop} {Ts : List Cond} {own C : String} {b : Addr} {As rest : List Value} {g : JFrame}
theorem vx_callBack (cb : CallB R s args own index y bytes maxL ret ws rm mc ms n) (hM : vx_Met l y ws rm Pc Qc XC mc ms free) (hbl : FrameBlind Pc) : vx_Back l R p e below s args y 3 8 (PreOf R mc ms Pc) (PostOf Qc mc ms free) (vx_Post XC mc ms free) := by
  obtain ⟨hrc, hrs, hfr, hlo, hws, hcw, -, hini, -⟩ := cb
  exact vx_back (bytes := bytes) (maxL := maxL) (ret := ret) hM hbl hrc hrs hfr hlo hws hcw (fun a' U hW => word_at hW (Or.inl (by first | rfl | simp [Cond.onTables, Cond.keeps, Cond.steady])) hini)
theorem vx_runV (S : CallFix p m c cc nL s args Ts own) (hM : vx_Met l y ws rm Pc Qc XC mc ms free) (cw : CallW R s args own C index y bytes maxL ret ws rm mc ms n) (hp : PreV s H C b Pc As)
    (hg : g.method = m) (hn : As.length = n) (hsize : g.locals.size = nL) (hstack : g.stack = As.reverse ++ .ref b :: rest) (hW : 2 * g.monitorRoom + (rest.map fun v => v.category).sum ≤ 8) (hdg : decode cc g.pc = .ok (.invokevirtual index, 3)) (hf : cells + mc ≤ R.cells ∧ slots + ms ≤ R.slots) :
    vx_Run p l e R s m args below meth c H locs cells slots mc ms g rest (Qc (Value.ref b :: As).toArray) XC free := by
  have hK : vx_Back l R p e below s args y 3 8 (PreOf R mc ms Pc) (PostOf Qc mc ms free) (vx_Post XC mc ms free) := vx_callBack cw.1 hM hp.1
  obtain ⟨⟨-, -, -, -, -, -, hcode, -, hy, hlen, hl⟩, hin, hse⟩ := cw
  obtain ⟨hx, hb, hml, ho, -⟩ := S
  obtain ⟨-, ⟨cellB, hcB, hoB, hclB⟩, hPc⟩ := hp
  intro T hT X
  rcases vx_callV X hx (C := C) (bytes := bytes) (maxL := maxL) (ret := ret) ho hl hin hse hcode hy hK (by rw [hT]; exact hcB) hoB hclB hg (hsize.trans hml.symm) (argsL := As) (rest := rest) (fun sig h => hn.trans (hlen sig h)) hstack hW (by rw [hb]; exact hdg)
    (fun vm₁ hW₁ => ⟨hf.1, hf.2, hPc (T.setVm vm₁) hT hW₁⟩) with ⟨v, vm₁, ⟨U', l2, c2, s2⟩, hW₁, X', ⟨g', mk, t, L, e1, e2, hq, h1, hL, h2, h3⟩, st⟩ | ⟨q, vm₁, ⟨U', l2, c2, s2⟩, hW₁, X', ⟨g', mk, t, L, E, ce, e1, e2, hq, hce, hcv, hcl, h1, hL, h2, h3⟩, st⟩
  · dsimp only [Pt.U, Pt.locs, Pt.cells, Pt.slots] at X' e1 e2 h1 h2 h3 st
    subst h1; subst h2; subst h3
    exact Or.inl ⟨v, (T.setVm vm₁).calling g' mk (Value.ref b :: As).toArray, t, U', L, hT, X', hL, e1, e2, hq, st⟩
  · dsimp only [Pt.U, Pt.locs, Pt.cells, Pt.slots] at X' e1 e2 h1 h2 h3 st hcl
    subst h1; subst h2; subst h3
    exact Or.inr ⟨q, (T.setVm vm₁).calling g' mk (Value.ref b :: As).toArray, t, U', L, E, ce, hT, X', hL, e1, e2, hq, hce, hcv, vx_cls hW₁ hcl, st⟩
theorem vx_runS (S : CallFix p m c cc nL s args Ts own) (hM : vx_Met l y ws rm Pc Qc XC mc ms free) (cw : CallB R s args own index y bytes maxL ret ws rm mc ms n ∧ (Cond.static y).before args s = true) (hp : PreS s H Pc As)
    (hg : g.method = m) (hn : As.length = n) (hsize : g.locals.size = nL) (hstack : g.stack = As.reverse ++ rest) (hW : 2 * g.monitorRoom + (rest.map fun v => v.category).sum ≤ 8) (hdg : decode cc g.pc = .ok (.invokestatic index, 3)) (hf : cells + mc ≤ R.cells ∧ slots + ms ≤ R.slots) :
    vx_Run p l e R s m args below meth c H locs cells slots mc ms g rest (Qc As.toArray) XC free := by
  have hK : vx_Back l R p e below s args y 3 8 (PreOf R mc ms Pc) (PostOf Qc mc ms free) (vx_Post XC mc ms free) := vx_callBack cw.1 hM hp.1
  obtain ⟨⟨-, -, -, -, -, -, hcode, hini, hy, hlen, hl⟩, hstt⟩ := cw
  obtain ⟨hx, hb, hml, ho, -⟩ := S
  intro T hT X
  rcases vx_callS X hx (bytes := bytes) (maxL := maxL) (ret := ret) ho hl hstt hini hcode hy hK hg (hsize.trans hml.symm) (argsL := As) (rest := rest) (fun sig h => hn.trans (hlen sig h)) hstack hW (by rw [hb]; exact hdg)
    (fun vm₁ hW₁ => ⟨hf.1, hf.2, hp.2 (T.setVm vm₁) hT hW₁⟩) with ⟨v, vm₁, ⟨U', l2, c2, s2⟩, hW₁, X', ⟨g', mk, t, L, e1, e2, hq, h1, hL, h2, h3⟩, st⟩ | ⟨q, vm₁, ⟨U', l2, c2, s2⟩, hW₁, X', ⟨g', mk, t, L, E, ce, e1, e2, hq, hce, hcv, hcl, h1, hL, h2, h3⟩, st⟩
  · dsimp only [Pt.U, Pt.locs, Pt.cells, Pt.slots] at X' e1 e2 h1 h2 h3 st
    subst h1; subst h2; subst h3
    exact Or.inl ⟨v, (T.setVm vm₁).calling g' mk As.toArray, t, U', L, hT, X', hL, e1, e2, hq, st⟩
  · dsimp only [Pt.U, Pt.locs, Pt.cells, Pt.slots] at X' e1 e2 h1 h2 h3 st hcl
    subst h1; subst h2; subst h3
    exact Or.inr ⟨q, (T.setVm vm₁).calling g' mk As.toArray, t, U', L, E, ce, hT, X', hL, e1, e2, hq, hce, hcv, vx_cls hW₁ hcl, st⟩
end Runs
section Rows
variable {p : Program} {l : Launch} {e : Env} {R : Room} {s : State} {m : MethodId} {args : Array Value} {below : List Frame} {meth : Method} {c : Code} {H : Heap} {locs : List Loc} {cells slots : Nat} {Q : State → Prop}
variable {mc ms : Nat} {free : Addr → Prop} {A0 A1 : Nat → Prop} {H0 : Heap} {a : Array Value} {pc : Nat} {ls : Array Slot} {st0 rest : List Value}
theorem vx_keep {st₀ t T' : State} {L : List Loc} (h0 : st₀.heap = H) (e1 : T'.heap = t.heap) (hS : va_S A0 H0 H locs) (hA : ∀ q, q < H.size → A1 q → A0 q) (hf : ∀ q, free q → A0 q) (hL : ∀ q ∈ L, free q.base) (hF : va_F A1 st₀ t) :
    H.size ≤ T'.heap.size ∧ (∀ q : Nat, q < H.size → ¬ A1 q → T'.heap[q]? = H[q]?) ∧ va_S A0 H0 T'.heap (locs ++ L) := by
  obtain ⟨hz, hk⟩ := hF
  rw [h0] at hz hk
  exact ⟨by rw [e1]; exact hz, fun q h1 h2 => by rw [e1]; exact hk q h1 h2,
    ⟨Nat.le_trans hS.1 (by rw [e1]; exact hz), fun q h1 h2 => by rw [e1, hk q (Nat.lt_of_lt_of_le h1 hS.1) (fun z => h2 (hA q (Nat.lt_of_lt_of_le h1 hS.1) z))]; exact hS.2.1 q h1 h2, fun q hq => by
      rcases List.mem_append.mp hq with h | h
      · exact hS.2.2 q h
      · exact hf _ (hL q h)⟩⟩
theorem vx_calli {S SX : Type} {post : Int32 → S → Prop} {px : SX → Prop} {B : S → State → Prop} {BX : String → SX → State → Prop} {AX : Nat → Prop} (hr : vx_Run p l e R s m args below meth c H locs cells slots mc ms (F0 m pc ls st0) rest (va_Qi post B A1 a) (vx_X px BX AX) free) (hS : va_S A0 H0 H locs) (hA : ∀ q, q < H.size → A1 q → A0 q) (hf : ∀ q, free q → A0 q) (hAX : ∀ q, q < H.size → AX q → A0 q)
    (kx : ∀ (E : String) (ce : Cell) (q9 : Addr) (u : SX) (t : State) (H1 : Heap) (locs1 : List Loc), t.heap = H1 → s.vm.Alike t.vm → px u → BX E u t → H.size ≤ H1.size → (∀ q : Nat, q < H.size → ¬ AX q → H1[q]? = H[q]?) → va_S A0 H0 H1 locs1 → H1[q9]? = some ce → ce.vm = .none → s.vm.findClass E = some ce.cls → vx_W p l e R s m args below meth c H1 locs1 (cells + mc) (slots + ms) Q (F0 m pc ls rest) q9)
    (kk : ∀ (r : Int32) (u : S) (t : State) (H1 : Heap) (locs1 : List Loc), t.heap = H1 → s.vm.Alike t.vm → post r u → B u t → H.size ≤ H1.size → (∀ q : Nat, q < H.size → ¬ A1 q → H1[q]? = H[q]?) → va_S A0 H0 H1 locs1 → W p l e R s m args below meth c H1 locs1 (cells + mc) (slots + ms) Q (F0 m (pc + 3) ls (.int r :: rest))) : W p l e R s m args below meth c H locs cells slots Q (F0 m pc ls st0) := by
  intro T hT X
  rcases hr T hT X with ⟨v, st₀, t, T', L, h0, X', hL, e1, e2, ⟨⟨r, u, hv, hp, hb⟩, hF⟩, st⟩ | ⟨q, st₀, t, T', L, E, ce, h0, X', hL, e1, e2, ⟨u, hp, hb, hF⟩, hce, hcv, hcl, st⟩
  · cases hv
    obtain ⟨k1, k2, k3⟩ := vx_keep h0 e1 hS hA hf hL hF
    obtain ⟨t2, a1, b1⟩ := kk r u t T'.heap (locs ++ L) e1.symm (by rw [← e2]; exact X'.warmed.alike) hp hb k1 k2 k3 T' rfl X'
    exact ⟨t2, st t2 a1, b1⟩
  · obtain ⟨k1, k2, k3⟩ := vx_keep h0 e1 hS hAX hf hL hF
    obtain ⟨t2, a1, b1⟩ := kx E ce q u t T'.heap (locs ++ L) e1.symm (by rw [← e2]; exact X'.warmed.alike) hp hb k1 k2 k3 (by rw [e1]; exact hce) hcv hcl T' rfl X'
    exact ⟨t2, st.trans a1, b1⟩
theorem vx_calll {S SX : Type} {post : Int64 → S → Prop} {px : SX → Prop} {B : S → State → Prop} {BX : String → SX → State → Prop} {AX : Nat → Prop} (hr : vx_Run p l e R s m args below meth c H locs cells slots mc ms (F0 m pc ls st0) rest (va_Ql post B A1 a) (vx_X px BX AX) free) (hS : va_S A0 H0 H locs) (hA : ∀ q, q < H.size → A1 q → A0 q) (hf : ∀ q, free q → A0 q) (hAX : ∀ q, q < H.size → AX q → A0 q)
    (kx : ∀ (E : String) (ce : Cell) (q9 : Addr) (u : SX) (t : State) (H1 : Heap) (locs1 : List Loc), t.heap = H1 → s.vm.Alike t.vm → px u → BX E u t → H.size ≤ H1.size → (∀ q : Nat, q < H.size → ¬ AX q → H1[q]? = H[q]?) → va_S A0 H0 H1 locs1 → H1[q9]? = some ce → ce.vm = .none → s.vm.findClass E = some ce.cls → vx_W p l e R s m args below meth c H1 locs1 (cells + mc) (slots + ms) Q (F0 m pc ls rest) q9)
    (kk : ∀ (r : Int64) (u : S) (t : State) (H1 : Heap) (locs1 : List Loc), t.heap = H1 → s.vm.Alike t.vm → post r u → B u t → H.size ≤ H1.size → (∀ q : Nat, q < H.size → ¬ A1 q → H1[q]? = H[q]?) → va_S A0 H0 H1 locs1 → W p l e R s m args below meth c H1 locs1 (cells + mc) (slots + ms) Q (F0 m (pc + 3) ls (.long r :: rest))) : W p l e R s m args below meth c H locs cells slots Q (F0 m pc ls st0) := by
  intro T hT X
  rcases hr T hT X with ⟨v, st₀, t, T', L, h0, X', hL, e1, e2, ⟨⟨r, u, hv, hp, hb⟩, hF⟩, st⟩ | ⟨q, st₀, t, T', L, E, ce, h0, X', hL, e1, e2, ⟨u, hp, hb, hF⟩, hce, hcv, hcl, st⟩
  · cases hv
    obtain ⟨k1, k2, k3⟩ := vx_keep h0 e1 hS hA hf hL hF
    obtain ⟨t2, a1, b1⟩ := kk r u t T'.heap (locs ++ L) e1.symm (by rw [← e2]; exact X'.warmed.alike) hp hb k1 k2 k3 T' rfl X'
    exact ⟨t2, st t2 a1, b1⟩
  · obtain ⟨k1, k2, k3⟩ := vx_keep h0 e1 hS hAX hf hL hF
    obtain ⟨t2, a1, b1⟩ := kx E ce q u t T'.heap (locs ++ L) e1.symm (by rw [← e2]; exact X'.warmed.alike) hp hb k1 k2 k3 (by rw [e1]; exact hce) hcv hcl T' rfl X'
    exact ⟨t2, st.trans a1, b1⟩
theorem vx_callf {S SX : Type} {post : UInt32 → S → Prop} {px : SX → Prop} {B : S → State → Prop} {BX : String → SX → State → Prop} {AX : Nat → Prop} (hr : vx_Run p l e R s m args below meth c H locs cells slots mc ms (F0 m pc ls st0) rest (va_Qf post B A1 a) (vx_X px BX AX) free) (hS : va_S A0 H0 H locs) (hA : ∀ q, q < H.size → A1 q → A0 q) (hf : ∀ q, free q → A0 q) (hAX : ∀ q, q < H.size → AX q → A0 q)
    (kx : ∀ (E : String) (ce : Cell) (q9 : Addr) (u : SX) (t : State) (H1 : Heap) (locs1 : List Loc), t.heap = H1 → s.vm.Alike t.vm → px u → BX E u t → H.size ≤ H1.size → (∀ q : Nat, q < H.size → ¬ AX q → H1[q]? = H[q]?) → va_S A0 H0 H1 locs1 → H1[q9]? = some ce → ce.vm = .none → s.vm.findClass E = some ce.cls → vx_W p l e R s m args below meth c H1 locs1 (cells + mc) (slots + ms) Q (F0 m pc ls rest) q9)
    (kk : ∀ (r : UInt32) (u : S) (t : State) (H1 : Heap) (locs1 : List Loc), t.heap = H1 → s.vm.Alike t.vm → post r u → B u t → H.size ≤ H1.size → (∀ q : Nat, q < H.size → ¬ A1 q → H1[q]? = H[q]?) → va_S A0 H0 H1 locs1 → W p l e R s m args below meth c H1 locs1 (cells + mc) (slots + ms) Q (F0 m (pc + 3) ls (.float r :: rest))) : W p l e R s m args below meth c H locs cells slots Q (F0 m pc ls st0) := by
  intro T hT X
  rcases hr T hT X with ⟨v, st₀, t, T', L, h0, X', hL, e1, e2, ⟨⟨r, u, hv, hp, hb⟩, hF⟩, st⟩ | ⟨q, st₀, t, T', L, E, ce, h0, X', hL, e1, e2, ⟨u, hp, hb, hF⟩, hce, hcv, hcl, st⟩
  · cases hv
    obtain ⟨k1, k2, k3⟩ := vx_keep h0 e1 hS hA hf hL hF
    obtain ⟨t2, a1, b1⟩ := kk r u t T'.heap (locs ++ L) e1.symm (by rw [← e2]; exact X'.warmed.alike) hp hb k1 k2 k3 T' rfl X'
    exact ⟨t2, st t2 a1, b1⟩
  · obtain ⟨k1, k2, k3⟩ := vx_keep h0 e1 hS hAX hf hL hF
    obtain ⟨t2, a1, b1⟩ := kx E ce q u t T'.heap (locs ++ L) e1.symm (by rw [← e2]; exact X'.warmed.alike) hp hb k1 k2 k3 (by rw [e1]; exact hce) hcv hcl T' rfl X'
    exact ⟨t2, st.trans a1, b1⟩
theorem vx_calld {S SX : Type} {post : UInt64 → S → Prop} {px : SX → Prop} {B : S → State → Prop} {BX : String → SX → State → Prop} {AX : Nat → Prop} (hr : vx_Run p l e R s m args below meth c H locs cells slots mc ms (F0 m pc ls st0) rest (va_Qd post B A1 a) (vx_X px BX AX) free) (hS : va_S A0 H0 H locs) (hA : ∀ q, q < H.size → A1 q → A0 q) (hf : ∀ q, free q → A0 q) (hAX : ∀ q, q < H.size → AX q → A0 q)
    (kx : ∀ (E : String) (ce : Cell) (q9 : Addr) (u : SX) (t : State) (H1 : Heap) (locs1 : List Loc), t.heap = H1 → s.vm.Alike t.vm → px u → BX E u t → H.size ≤ H1.size → (∀ q : Nat, q < H.size → ¬ AX q → H1[q]? = H[q]?) → va_S A0 H0 H1 locs1 → H1[q9]? = some ce → ce.vm = .none → s.vm.findClass E = some ce.cls → vx_W p l e R s m args below meth c H1 locs1 (cells + mc) (slots + ms) Q (F0 m pc ls rest) q9)
    (kk : ∀ (r : UInt64) (u : S) (t : State) (H1 : Heap) (locs1 : List Loc), t.heap = H1 → s.vm.Alike t.vm → post r u → B u t → H.size ≤ H1.size → (∀ q : Nat, q < H.size → ¬ A1 q → H1[q]? = H[q]?) → va_S A0 H0 H1 locs1 → W p l e R s m args below meth c H1 locs1 (cells + mc) (slots + ms) Q (F0 m (pc + 3) ls (.double r :: rest))) : W p l e R s m args below meth c H locs cells slots Q (F0 m pc ls st0) := by
  intro T hT X
  rcases hr T hT X with ⟨v, st₀, t, T', L, h0, X', hL, e1, e2, ⟨⟨r, u, hv, hp, hb⟩, hF⟩, st⟩ | ⟨q, st₀, t, T', L, E, ce, h0, X', hL, e1, e2, ⟨u, hp, hb, hF⟩, hce, hcv, hcl, st⟩
  · cases hv
    obtain ⟨k1, k2, k3⟩ := vx_keep h0 e1 hS hA hf hL hF
    obtain ⟨t2, a1, b1⟩ := kk r u t T'.heap (locs ++ L) e1.symm (by rw [← e2]; exact X'.warmed.alike) hp hb k1 k2 k3 T' rfl X'
    exact ⟨t2, st t2 a1, b1⟩
  · obtain ⟨k1, k2, k3⟩ := vx_keep h0 e1 hS hAX hf hL hF
    obtain ⟨t2, a1, b1⟩ := kx E ce q u t T'.heap (locs ++ L) e1.symm (by rw [← e2]; exact X'.warmed.alike) hp hb k1 k2 k3 (by rw [e1]; exact hce) hcv hcl T' rfl X'
    exact ⟨t2, st.trans a1, b1⟩
theorem vx_callv {S SX : Type} {post : S → Prop} {px : SX → Prop} {B : S → State → Prop} {BX : String → SX → State → Prop} {AX : Nat → Prop} (hr : vx_Run p l e R s m args below meth c H locs cells slots mc ms (F0 m pc ls st0) rest (va_Qv post B A1 a) (vx_X px BX AX) free) (hS : va_S A0 H0 H locs) (hA : ∀ q, q < H.size → A1 q → A0 q) (hf : ∀ q, free q → A0 q) (hAX : ∀ q, q < H.size → AX q → A0 q)
    (kx : ∀ (E : String) (ce : Cell) (q9 : Addr) (u : SX) (t : State) (H1 : Heap) (locs1 : List Loc), t.heap = H1 → s.vm.Alike t.vm → px u → BX E u t → H.size ≤ H1.size → (∀ q : Nat, q < H.size → ¬ AX q → H1[q]? = H[q]?) → va_S A0 H0 H1 locs1 → H1[q9]? = some ce → ce.vm = .none → s.vm.findClass E = some ce.cls → vx_W p l e R s m args below meth c H1 locs1 (cells + mc) (slots + ms) Q (F0 m pc ls rest) q9)
    (kk : ∀ (u : S) (t : State) (H1 : Heap) (locs1 : List Loc), t.heap = H1 → s.vm.Alike t.vm → post u → B u t → H.size ≤ H1.size → (∀ q : Nat, q < H.size → ¬ A1 q → H1[q]? = H[q]?) → va_S A0 H0 H1 locs1 → W p l e R s m args below meth c H1 locs1 (cells + mc) (slots + ms) Q (F0 m (pc + 3) ls (rest))) : W p l e R s m args below meth c H locs cells slots Q (F0 m pc ls st0) := by
  intro T hT X
  rcases hr T hT X with ⟨v, st₀, t, T', L, h0, X', hL, e1, e2, ⟨⟨u, hv, hp, hb⟩, hF⟩, st⟩ | ⟨q, st₀, t, T', L, E, ce, h0, X', hL, e1, e2, ⟨u, hp, hb, hF⟩, hce, hcv, hcl, st⟩
  · cases hv
    obtain ⟨k1, k2, k3⟩ := vx_keep h0 e1 hS hA hf hL hF
    obtain ⟨t2, a1, b1⟩ := kk u t T'.heap (locs ++ L) e1.symm (by rw [← e2]; exact X'.warmed.alike) hp hb k1 k2 k3 T' rfl X'
    exact ⟨t2, st t2 a1, b1⟩
  · obtain ⟨k1, k2, k3⟩ := vx_keep h0 e1 hS hAX hf hL hF
    obtain ⟨t2, a1, b1⟩ := kx E ce q u t T'.heap (locs ++ L) e1.symm (by rw [← e2]; exact X'.warmed.alike) hp hb k1 k2 k3 (by rw [e1]; exact hce) hcv hcl T' rfl X'
    exact ⟨t2, st.trans a1, b1⟩
/-- caught by the row x of this method's table; the rows ahead don't take it -/
theorem vx_catch {own name : String} {E : String} {ce : Cell} {q : Addr} (hown : s.vm.findClass own = some m.cls) (pre : List ExceptionTableEntry) (x : ExceptionTableEntry) (suf : List ExceptionTableEntry) (hsplit : c.exceptionTable.toList = pre ++ x :: suf)
    (hpass : ∀ z ∈ pre, covers z pc = false ∨ (z.catchType ≠ 0 ∧ ∃ nm : String, (Cond.classLink own z.catchType nm).before args s = true ∧ va_Nc E nm s)) (hx : covers x pc = true) (h0 : x.catchType ≠ 0)
    (hlink : (Cond.classLink own x.catchType name).before args s = true) (hcast : (Cond.castable E name).before args s = true) (hcell : H[q]? = some ce) (hv : ce.vm = .none) (hcl : s.vm.findClass E = some ce.cls)
    (kk : W p l e R s m args below meth c H locs cells slots Q (F0 m x.handlerPc ls [.ref q])) : vx_W p l e R s m args below meth c H locs cells slots Q (F0 m pc ls rest) q := by
  intro T hT X
  have hpl : e.platform.magicAccessors = ({} : Platform).magicAccessors := by rw [X.admits.platform]
  obtain ⟨c3, c4, hc3, hc4, hasg⟩ := Cond.castable_spec hcast
  cases Option.some.inj (hc3.symm.trans hcl)
  obtain ⟨c5, hc5, hcl5⟩ := Cond.classLink_spec hown hlink e.platform hpl
  cases Option.some.inj (hc4.symm.trans hc5)
  obtain ⟨vm', X', st⟩ := X.thenCaughtThrough q (g := F0 m pc ls rest) rfl (Steps.refl _) (by rw [hT]; exact hcell) (by rw [hv]; rfl) (by obtain ⟨k9, h9, -⟩ := Vm.findClass_spec hcl; exact ⟨k9, h9⟩) pre x suf hsplit
    (fun z hz => by
      rcases hpass z hz with h | ⟨hz0, nm, hl1, hn1⟩
      · exact Or.inl h
      · obtain ⟨c6, hc6, hcl6⟩ := Cond.classLink_spec hown hl1 e.platform hpl
        obtain ⟨a8, b8, h1, h2, h3⟩ := hn1
        cases Option.some.inj (h1.symm.trans hcl)
        cases Option.some.inj (h2.symm.trans hc6)
        exact Or.inr ⟨hz0, _, hcl6, h3⟩) hx (Or.inr ⟨h0, c4, hcl5, hasg⟩)
  obtain ⟨t, a1, b1⟩ := kk (T.setVm vm') hT X'
  exact ⟨t, st.trans a1, b1⟩
end Rows
section Ends
variable {p : Program} {l : Launch} {e : Env} {R : Room} {s : State} {m : MethodId} {args : Array Value} {below : List Frame} {meth : Method} {c : Code} {H : Heap} {locs : List Loc} {cells slots : Nat} {Q : State → Prop}
variable {mc ms : Nat} {free : Addr → Prop} {A0 A1 : Nat → Prop} {H0 : Heap} {a : Array Value} {ls : Array Slot} {st0 rest : List Value}
variable {Qc : Array Value → State → Outcome → State → Prop} {XC : String → State → State → Prop}
/-- what a body that may throw owes at its end -/
def vx_MQ (below : List Frame) (Qc : Array Value → State → Outcome → State → Prop) (XC : String → State → State → Prop) (a : Array Value) (s : State) (mc ms : Nat) (free : Addr → Prop) : State → Prop := fun t =>
  ∃ o, t.status = .running ∧ Ended t below o ∧ vx_Q Qc XC mc ms free a s o t
theorem vx_ret {g : JFrame} {mc ms : Nat} (k : W p l e R s m args below meth c H locs cells slots (MQ below Qc args s mc ms free) g) : W p l e R s m args below meth c H locs cells slots (vx_MQ below Qc XC args s mc ms free) g := by
  intro T hT X
  obtain ⟨t, a1, o, b1, b2, b3, b4⟩ := k T hT X
  exact ⟨t, a1, o, b1, b2, Or.inl ⟨b3, b4⟩⟩
/-- not caught here: it goes on to the caller -/
theorem vx_widen {g : JFrame} {q : Addr} {k n : Nat} (h1 : cells ≤ k) (h2 : slots ≤ n) (kk : vx_W p l e R s m args below meth c H locs k n Q g q) : vx_W p l e R s m args below meth c H locs cells slots Q g q := fun T hT X => kk T hT (stand_widen X h1 h2)
theorem vx_out {pc : Nat} {E : String} {ce : Cell} {q : Addr} {mc ms : Nat} (hout : ∀ x ∈ c.exceptionTable.toList, covers x pc = false) (hlocks : meth.locks = false) (hcell : H[q]? = some ce) (hv : ce.vm = .none) (hcl : s.vm.findClass E = some ce.cls)
    (hx : ∀ t : State, t.heap = H → s.vm.Alike t.vm → XC E s t) (hf : ∀ z ∈ locs, free z.base) (hc : cells ≤ mc) (hs : slots ≤ ms) :
    vx_W p l e R s m args below meth c H locs cells slots (vx_MQ below Qc XC args s mc ms free) (F0 m pc ls rest) q := by
  intro T hT X
  obtain ⟨st1, hrun, hend, hW, hsm⟩ := X.leaveThrown q (g := F0 m pc ls rest) rfl rfl rfl hout hlocks
  have hcell9 : (T.setFrames (.throwing q :: below)).heap[q]? = some ce := by
    show T.heap[q]? = some ce
    rw [hT]; exact hcell
  exact ⟨_, st1, .threw q, hrun, hend, Or.inr ⟨q, rfl, E, ce, locs, hx _ hT hW.alike, hcell9, hv, hcl, hW, hsm.mono hc hs, hf⟩⟩
theorem vx_frame {U : State} {k n : Nat} (h : s.sameButNew ({ U with vm := s.vm } : State) locs k n) : s.heap.size ≤ U.heap.size ∧ ∀ q : Nat, q < s.heap.size → (∀ z ∈ locs, z.base ≠ q) → U.heap[q]? = s.heap[q]? := by
  obtain ⟨-, h2, -, -, -, h6⟩ := h
  refine ⟨h2, fun q hq hz => ?_⟩
  obtain ⟨c9, e1, e2, e3, e4⟩ := h6 q _ (Array.getElem?_eq_getElem hq)
  have hs : c9.slots = (s.heap[q]).slots := Array.ext_getElem? fun i => e4 i fun hm => hz _ hm rfl
  have h9 : c9 = s.heap[q] := by
    rw [hs] at e2
    exact e2
  have e5 : U.heap[q]? = some c9 := e1
  rw [e5, h9, Array.getElem?_eq_getElem hq]
/-- the words of a throw but the four that speak of the heap -/
def vx_no (w : Cond) : Bool := decide (w ≠ .isRef (.static Bundle.tN "UNASSIGNED_STACK" Bundle.steD)) && decide (w ≠ .isRef (.static Bundle.tN "SUPPRESSED_SENTINEL" Bundle.listD)) && decide (w ≠ .laysStatic Bundle.tN "UNASSIGNED_STACK" Bundle.steD) && decide (w ≠ .laysStatic Bundle.tN "SUPPRESSED_SENTINEL" Bundle.listD)
def vx_at0 (own : String) (ic : Nat) (X : String) (names : List String) : List Cond := (Bundle.ownAtoms0 own ic X names).filter vx_no
def vx_atS (own : String) (ic : Nat) (X : String) (names : List String) : List Cond := (Bundle.ownAtoms own ic X names).filter vx_no
/-- a word that the tables alone decide, or a good one -/
def vx_ot (w : Cond) : Bool := w.onTables || goodWord w
theorem vx_ot_at {args a' : Array Value} {s U : State} {w : Cond} (hW : s.WarmedH U.vm) (hvm : s.vm = U.vm) (hg : vx_ot w = true) (h : w.before args s = true) : w.before a' U = true := by
  simp only [vx_ot, Bool.or_eq_true] at hg
  rcases hg with hg | hg
  · exact va_tabs hg hvm h
  · exact word_at hW (good_of_word hg) h
/-- a list's words: the good ones out of the method's own list, the others by premises of their own -/
theorem vx_hat {args : Array Value} {s : State} {L B : List Cond} (h1 : ∀ w ∈ L.filter goodWord, w.before args s = true) (h2 : ∀ w ∈ L.filter (fun w => !goodWord w), w ∈ B) (h3 : ∀ w ∈ B, w.before args s = true) : ∀ w ∈ L, w.before args s = true := by
  intro w hw
  by_cases g : goodWord w = true
  · exact h1 w (List.mem_filter.mpr ⟨hw, g⟩)
  · refine h3 w (h2 w (List.mem_filter.mpr ⟨hw, ?_⟩))
    show (!goodWord w) = true
    cases hgw : goodWord w
    · rfl
    · exact absurd hgw g
theorem vx_c {args : Array Value} {s : State} {w : Cond} {B : List Cond} (h : w.before args s = true) (t : ∀ w ∈ B, w.before args s = true) : ∀ w' ∈ w :: B, w'.before args s = true := fun w' h' => (List.mem_cons.mp h').elim (fun e => by rw [e]; exact h) (t w')
theorem vx_n {args : Array Value} {s : State} : ∀ w ∈ ([] : List Cond), w.before args s = true := fun _ h => nomatch h
theorem vx_own {args : Array Value} {s : State} {L : List Cond} (h1 : ∀ w ∈ L.filter vx_no, w.before args s = true)
    (hU : (Cond.isRef (.static Bundle.tN "UNASSIGNED_STACK" Bundle.steD)).before args s = true) (hN : (Cond.isRef (.static Bundle.tN "SUPPRESSED_SENTINEL" Bundle.listD)).before args s = true)
    (lU : (Cond.laysStatic Bundle.tN "UNASSIGNED_STACK" Bundle.steD).before args s = true) (lN : (Cond.laysStatic Bundle.tN "SUPPRESSED_SENTINEL" Bundle.listD).before args s = true) : ∀ w ∈ L, w.before args s = true := by
  intro w hw
  by_cases e1 : w = .isRef (.static Bundle.tN "UNASSIGNED_STACK" Bundle.steD)
  · rw [e1]; exact hU
  · by_cases e2 : w = .isRef (.static Bundle.tN "SUPPRESSED_SENTINEL" Bundle.listD)
    · rw [e2]; exact hN
    · by_cases e3 : w = .laysStatic Bundle.tN "UNASSIGNED_STACK" Bundle.steD
      · rw [e3]; exact lU
      · by_cases e4 : w = .laysStatic Bundle.tN "SUPPRESSED_SENTINEL" Bundle.listD
        · rw [e4]; exact lN
        · exact h1 w (List.mem_filter.mpr ⟨hw, by unfold vx_no; rw [decide_eq_true e1, decide_eq_true e2, decide_eq_true e3, decide_eq_true e4]; rfl⟩)
/-- where a static field lies, its class's statics cell in H -/
def vx_L (C n d : String) (A : Nat → Prop) (U : State) (H : Heap) : Prop := ∃ (c : ClassId) (k : Class) (i : Nat) (f : Field) (a : Nat) (cell : Cell), U.vm.findClass C = some c ∧ U.fieldFound? C n d = some (c, k, i, f) ∧ f.isStatic = true ∧ k.statics = some a ∧ H[a]? = some cell ∧ cell.vm.isStatics = true ∧ cell.cls = c ∧ f.slot < cell.slots.size ∧ k.staticTypes[f.slot]? = some f.type ∧ ¬ A a
theorem vx_L.moved {C n d : String} {A : Nat → Prop} {u U : State} {H : Heap} (hvm : u.vm.Alike U.vm) (h : vx_L C n d A u H) : vx_L C n d A U H := by
  obtain ⟨c, k, i, f, a, cell, h1, h2, h3, h4, h5, h6, h7, h8, h9, h10⟩ := h
  obtain ⟨k', hi', he⟩ := State.fieldFound?_setVm hvm h2
  exact ⟨c, k', i, f, a, cell, by rw [hvm.findClass]; exact h1, hi', h3, by rw [he]; exact h4, h5, h6, h7, h8, by rw [he]; exact h9, h10⟩
theorem vx_L.kept {C n d : String} {A : Nat → Prop} {U : State} {H H1 : Heap} (h : vx_L C n d A U H) (hq : ∀ a : Nat, a < H.size → ¬ A a → H1[a]? = H[a]?) : vx_L C n d A U H1 := by
  obtain ⟨c, k, i, f, a, cell, h1, h2, h3, h4, h5, h6, h7, h8, h9, h10⟩ := h
  exact ⟨c, k, i, f, a, cell, h1, h2, h3, h4, by rw [hq a (Array.getElem?_eq_some_iff.mp h5).1 h10]; exact h5, h6, h7, h8, h9, h10⟩
theorem vx_L.narrow {C n d : String} {A B : Nat → Prop} {U : State} {H : Heap} (h : vx_L C n d A U H) (hAB : ∀ q, B q → A q) : vx_L C n d B U H := by
  obtain ⟨c, k, i, f, a, cell, h1, h2, h3, h4, h5, h6, h7, h8, h9, h10⟩ := h
  exact ⟨c, k, i, f, a, cell, h1, h2, h3, h4, h5, h6, h7, h8, h9, fun z => h10 (hAB _ z)⟩
theorem vx_L.word {C n d : String} {A : Nat → Prop} {s : State} {args : Array Value} (h : vx_L C n d A s s.heap) : (Cond.laysStatic C n d).before args s = true := by
  obtain ⟨c, k, i, f, a, cell, h1, h2, h3, h4, h5, h6, h7, h8, h9, -⟩ := h
  show (Cond.laysStatic C n d).holds args s none s [] = true
  exact Cond.laysStatic_of h1 h2 h3 h4 h5 h6 h7 h8 h9
/-- .. and what it holds: null or some reference -/
def vx_Zq (C n d : String) (A : Nat → Prop) (U : State) (H : Heap) : Prop := va_Zq C n d A U H ∧ vx_L C n d A U H
theorem vx_Zq.moved {C n d : String} {A : Nat → Prop} {u U : State} {H : Heap} (hvm : u.vm.Alike U.vm) (h : vx_Zq C n d A u H) : vx_Zq C n d A U H := ⟨va_Zq.moved hvm h.1, vx_L.moved hvm h.2⟩
theorem vx_Zq.kept {C n d : String} {A : Nat → Prop} {U : State} {H H1 : Heap} (h : vx_Zq C n d A U H) (hq : ∀ a : Nat, a < H.size → ¬ A a → H1[a]? = H[a]?) : vx_Zq C n d A U H1 := ⟨va_Zq.kept h.1 hq, vx_L.kept h.2 hq⟩
theorem vx_Zq.narrow {C n d : String} {A B : Nat → Prop} {U : State} {H : Heap} (h : vx_Zq C n d A U H) (hAB : ∀ q, B q → A q) : vx_Zq C n d B U H := ⟨va_Zq.narrow h.1 hAB, vx_L.narrow h.2 hAB⟩
theorem vx_Zqof {args : Array Value} {s : State} {C n d : String} {A : Nat → Prop} (hl : (Cond.laysStatic C n d).before args s = true) (hini : (Cond.initialized C).before args s = true) (h : (Cond.isRef (.static C n d)).before args s = true) (hA : ∀ a : Nat, a < s.heap.size → ¬ A a) : vx_Zq C n d A s s.heap := by
  refine ⟨va_Zqof hl hini h hA, ?_⟩
  obtain ⟨c, k, i, f, a, cell, h1, h2, h3, h4, h5, h6, h7, h8, h9⟩ := Cond.laysStatic_spec hl
  exact ⟨c, k, i, f, a, cell, h1, h2, h3, h4, h5, h6, h7, h8, h9, hA a (Array.getElem?_eq_some_iff.mp h5).1⟩
theorem vx_isRef {C n d : String} {v : Value} {A : Nat → Prop} {s : State} {args : Array Value} (h : va_Z C n d v A s s.heap) (hv : v.isRef = true) : (Cond.isRef (.static C n d)).before args s = true := by
  obtain ⟨cf, kf, fi, f, a, cell, h1, h2, h3, h4, h5, h6, h7, -⟩ := h
  have he : (Term.static C n d).eval args s none [] s = some v := by
    simp [Term.eval, State.fieldNamed?, h1, h2, h4, h5, h6, h7]
  simp only [Cond.before, Cond.holds, Cond.value, he]
  cases v <;> simp_all [Value.isRef]
theorem vx_isRefq {C n d : String} {A : Nat → Prop} {s : State} {args : Array Value} (h : va_Zq C n d A s s.heap) : (Cond.isRef (.static C n d)).before args s = true := by
  rcases h with h | ⟨t, h⟩
  · exact vx_isRef h rfl
  · exact vx_isRef h rfl
/-- the same frame, seen from here: as if the method were called anew in this heap -/
theorem vx_rebase {T : State} (X : Stand p l e R s m args below meth c T locs cells slots) {R' : Room} (hf : R'.frames ≤ R.frames) (hl : R'.locals ≤ R.locals) (hc : cells + R'.cells ≤ R.cells) (hs : slots + R'.slots ≤ R.slots) :
    Stand p l e R' ((T.setVm s.vm).setFrames (.invoking m args :: below)) m args below meth c T [] 0 0 := by
  have htop : (T.setVm s.vm).topJava?.isSome := X.here.top
  have hF : ((T.setVm s.vm).setFrames (.invoking m args :: below)).frames = .invoking m args :: below := State.frames_setFrames _ (State.cur_lt_of_top htop)
  obtain ⟨g₀, hg0⟩ := Option.isSome_iff_exists.mp htop
  obtain ⟨r, hr⟩ := State.topJava?_eq_some.mp hg0
  have hl9 : e.platform.stackLimits (T.setVm s.vm).me = e.platform.stackLimits s.me := X.limits
  have hb9 : (T.setVm s.vm).me.stackBytes = s.me.stackBytes := X.bytes
  refine ⟨X.admits, X.cas, X.clock, hF, ?_, X.hears, X.method, X.code, X.here, X.tail, X.warmed, ?_, ?_, ?_⟩
  · have h := X.room
    have hU : ((T.setVm s.vm).setFrames (.invoking m args :: below)).localsInUse = s.localsInUse := by
      rw [State.localsInUse_invoking hF (meth := meth) (c := c) X.method X.code, State.localsInUse_invoking X.frames X.method X.code]
    simp only [State.hasRoom, Bool.and_eq_true, decide_eq_true_eq] at h ⊢
    obtain ⟨⟨⟨⟨h1, h2, h3, h4, h5, h6⟩, h7⟩, h8⟩, h9⟩ := h
    rw [X.frames, List.length_cons] at h2 h3
    have q1 := X.heapSize
    have q2 := X.used
    simp only [hF, hU, List.length_cons, State.stackLimits_setFrames, State.stackBytes_setFrames, hl9, hb9]
    refine ⟨⟨⟨⟨by omega, by omega, by omega, by omega, by omega, h6⟩, ?_⟩, ?_⟩, X.book⟩
    · show T.heap.size + R'.cells ≤ e.platform.maxCells
      omega
    · show T.slotsUsed + R'.slots ≤ e.platform.maxSlots
      omega
  · rw [State.stackLimits_setFrames]; rfl
  · rw [State.stackBytes_setFrames]; rfl
  · refine ⟨?_, Nat.le_refl _, Nat.le_refl _, ?_, ?_, fun a c9 h9 => ⟨c9, h9, rfl, rfl, fun _ _ => rfl⟩⟩
    · obtain ⟨t, ht, -⟩ := State.frames_cons hr
      show T.setVm s.vm = { ((T.setVm s.vm).setFrames (.invoking m args :: below)).setFrames (T.setVm s.vm).frames with heap := T.heap, slotsUsed := T.slotsUsed }
      rw [State.setFrames_setFrames, State.setFrames_self ht]
      rfl
    · show T.slotsUsed = T.slotsUsed + ((T.heap.toList.drop T.heap.size).map (·.slots.size)).sum
      rw [List.drop_eq_nil_of_le (Nat.le_of_eq Array.length_toList)]
      rfl
    · show ((T.heap.toList.drop T.heap.size).map (·.slots.size)).sum ≤ 0
      rw [List.drop_eq_nil_of_le (Nat.le_of_eq Array.length_toList)]
      exact Nat.le_refl _
/-- 'throw new E()': new; dup; invokespecial; athrow -/
theorem vx_throw0 {cc : ByteArray} {pc : Nat} (hexec : p.tables.exec = Jvm.exec) (hb : c.code = cc) (hl : l.stackTraces = false) {own cls : String} {names : List String} {ik ic mc ms : Nat} {A : Nat → Prop}
    (hown : s.vm.findClass own = some m.cls) (hcls : Bundle.fit cls = true) (hnames : ∀ n ∈ names, Bundle.fit n = true)
    (hk : (Cond.classLink own ik cls).before args s = true) (hini : (Cond.initialized cls).before args s = true) (hat : ∀ w ∈ vx_at0 own ic cls names, w.before args s = true)
    (hgood : ∀ w ∈ Cond.classLink own ik cls :: Cond.initialized cls :: vx_at0 own ic cls names, vx_ot w = true)
    (hU : vx_Zq Bundle.tN "UNASSIGNED_STACK" Bundle.steD A s s.heap) (hN : vx_Zq Bundle.tN "SUPPRESSED_SENTINEL" Bundle.listD A s s.heap) (hS : va_S A s.heap H locs) (hsize : ls.size = c.maxLocals)
    (d0 : decode cc pc = .ok (.new ik, 3)) (d3 : decode cc (pc + 3) = .ok (.dup, 1)) (d4 : decode cc (pc + 4) = .ok (.invokespecial ic, 3)) (d7 : decode cc (pc + 7) = .ok (.athrow, 1))
    (hout : ∀ x ∈ c.exceptionTable.toList, covers x (pc + 7) = false)
    (hRframes : names.length + 3 < R.frames) (hRlocals : (rest.map fun v => v.category).sum + (13 * (names.length + 1) + 42) ≤ R.locals) (hRcells : cells + 1 ≤ R.cells) (hRslots : slots + 6 ≤ R.slots) (hlocks : meth.locks = false)
    (hx : ∀ t : State, s.vm.Alike t.vm → H.size ≤ t.heap.size → (∀ q : Nat, q < H.size → t.heap[q]? = H[q]?) → XC cls s t)
    (hf : ∀ z ∈ locs, free z.base) (hc : cells + 1 ≤ mc) (hs : slots + 6 ≤ ms) :
    W p l e R s m args below meth c H locs cells slots (vx_MQ below Qc XC args s mc ms free) (F0 m pc ls rest) := by
  intro T hT X
  have htr : e.platform.stackTraces = false := (show e.platform.stackTraces = l.stackTraces by rw [X.admits.platform]).trans hl
  have Y := vx_rebase X (R' := { frames := R.frames, locals := R.locals, cells := 1, slots := 6 }) (Nat.le_refl _) (Nat.le_refl _) hRcells hRslots
  obtain ⟨s', hA⟩ : ∃ z, z = (T.setVm s.vm).setFrames (.invoking m args :: below) := ⟨_, rfl⟩
  rw [← hA] at Y
  have hvm : s'.vm = s.vm := by rw [hA]; rfl
  have hhp : s'.heap = H := by rw [hA]; exact hT
  have hW0 : s.WarmedH s'.vm := by rw [hvm]; exact State.WarmedH.refl s
  have hat' : ∀ w ∈ vx_at0 own ic cls names, w.before args s' = true := fun w hw => vx_ot_at hW0 hvm.symm (hgood w (List.mem_cons_of_mem _ (List.mem_cons_of_mem _ hw))) (hat w hw)
  have hk' : (Cond.classLink own ik cls).before args s' = true := vx_ot_at hW0 hvm.symm (hgood _ List.mem_cons_self) hk
  have hini' : (Cond.initialized cls).before args s' = true := vx_ot_at hW0 hvm.symm (hgood _ (List.mem_cons_of_mem _ List.mem_cons_self)) hini
  have hU' : vx_Zq Bundle.tN "UNASSIGNED_STACK" Bundle.steD A s' s'.heap := by rw [hhp]; exact vx_Zq.moved hW0.alike (hU.kept hS.2.1)
  have hN' : vx_Zq Bundle.tN "SUPPRESSED_SENTINEL" Bundle.listD A s' s'.heap := by rw [hhp]; exact vx_Zq.moved hW0.alike (hN.kept hS.2.1)
  have h : ∀ w ∈ Bundle.ownAtoms0 own ic cls names, w.before args s' = true := vx_own hat' (vx_isRefq hU'.1) (vx_isRefq hN'.1) hU'.2.word hN'.2.word
  have hown' : s'.vm.findClass own = some m.cls := by rw [hvm]; exact hown
  have hins : (Cond.instantiable cls 6).before args s' = true := h _ (by simp [Bundle.ownAtoms0])
  obtain ⟨vm₁, cX, kX, hfX, hkX, -, -, X₁, st1⟩ := Y.newCold hexec (own := own) (C := cls) (index := ik) (n := 6) hown' hk' hins hini'
    (g := F0 m pc ls rest) rfl (by rw [hb]; exact d0) (Nat.le_refl _) (Nat.le_refl _)
  generalize hT1 : (T.setVm vm₁).pushCell { cls := cX, slots := kX.instanceTypes.map defaultValue, vm := .none } = T1 at X₁ st1
  have hcat : (Value.ref T.heap.size).category = 1 := rfl
  have hcellA : T1.heap[T.heap.size]? = some (freshCell cX kX) := by rw [← hT1]; exact State.heap_pushCell_size _ _
  have d3' : decode c.code (pc + 3) = .ok (.dup, 1) := by rw [hb]; exact d3
  obtain ⟨U, hsteps, hrun, hend, hW, hsame, ce, hce, hO⟩ := X₁.ctorThrow0 hexec htr (own := own) (cls := cls) (names := names) (ic := ic) hown' hcls hnames h (fun x hx => nomatch hx) hfX hkX hcellA (by rw [hhp, hT]; exact Nat.le_refl _)
    (g := { method := m, pc := pc + 4, locals := ls, stack := .ref T.heap.size :: .ref T.heap.size :: rest, locked := none }) rfl hsize rfl rfl (rest := rest) rfl
    (by rw [hb]; exact d4) (by rw [hb]; exact d7) hout hRframes (by simp only [List.map_cons, List.sum_cons, hcat]; omega) hlocks
  obtain ⟨f1, f2⟩ := vx_frame hsame
  rw [hhp] at f1 f2
  have hWs : s.WarmedH U.vm := State.WarmedH.trans hW0 hW
  have hcl : s.vm.findClass cls = some ce.cls := by
    have h9 := hO.cls
    rw [hvm] at h9
    exact h9
  have hall : s.sameButNew ({ U with vm := s.vm } : State) locs mc ms := by
    subst hA
    obtain ⟨e1, e2⟩ := hsame
    rw [State.setFrames_setFrames] at e1
    have h2 : (T.setVm s.vm).sameButNew ({ U with vm := s.vm } : State) [] (0 + 1) (0 + 6) := ⟨e1, e2⟩
    have h3 := X.same.trans h2
    rw [List.append_nil] at h3
    exact h3.mono hc hs
  refine ⟨U, ?_, .threw T.heap.size, hrun, hend, Or.inr ⟨T.heap.size, rfl, cls, ce, locs, hx U hWs.alike f1 (fun q hq => f2 q hq (fun z hz => nomatch hz)), hce, hO.vm, hcl, hWs, hall, hf⟩⟩
  refine st1 _ ?_
  show Steps p.tables e below (T1.setTop { method := m, pc := pc + 3, locals := ls, stack := .ref T.heap.size :: rest, locked := none }) _
  jvm_step X₁.here [X₁.here.top, hexec, d3', Value.category]
  exact hsteps
/-- 'throw new E("text")': new; dup; ldc; invokespecial; athrow -/
theorem vx_throwS {cc : ByteArray} {pc : Nat} (hexec : p.tables.exec = Jvm.exec) (hb : c.code = cc) (hl : l.stackTraces = false) {own cls text : String} {names : List String} {ik is ic mc ms sa : Nat} {A : Nat → Prop}
    (hown : s.vm.findClass own = some m.cls) (hcls : Bundle.fit cls = true) (hnames : ∀ n ∈ names, Bundle.fit n = true)
    (hk : (Cond.classLink own ik cls).before args s = true) (hini : (Cond.initialized cls).before args s = true) (hstr : vk_R own is text sa s) (hat : ∀ w ∈ vx_atS own ic cls names, w.before args s = true)
    (hgood : ∀ w ∈ Cond.classLink own ik cls :: Cond.initialized cls :: vx_atS own ic cls names, vx_ot w = true)
    (hU : vx_Zq Bundle.tN "UNASSIGNED_STACK" Bundle.steD A s s.heap) (hN : vx_Zq Bundle.tN "SUPPRESSED_SENTINEL" Bundle.listD A s s.heap) (hS : va_S A s.heap H locs) (hsize : ls.size = c.maxLocals)
    (d0 : decode cc pc = .ok (.new ik, 3)) (d3 : decode cc (pc + 3) = .ok (.dup, 1)) (d4 : decode cc (pc + 4) = .ok (.ldc is, 2)) (d6 : decode cc (pc + 6) = .ok (.invokespecial ic, 3)) (d9 : decode cc (pc + 9) = .ok (.athrow, 1))
    (hout : ∀ x ∈ c.exceptionTable.toList, covers x (pc + 9) = false)
    (hRframes : names.length + 3 < R.frames) (hRlocals : (rest.map fun v => v.category).sum + (13 * (names.length + 1) + 43) ≤ R.locals) (hRcells : cells + 1 ≤ R.cells) (hRslots : slots + 6 ≤ R.slots) (hlocks : meth.locks = false)
    (hx : ∀ t : State, s.vm.Alike t.vm → H.size ≤ t.heap.size → (∀ q : Nat, q < H.size → t.heap[q]? = H[q]?) → XC cls s t)
    (hf : ∀ z ∈ locs, free z.base) (hc : cells + 1 ≤ mc) (hs : slots + 6 ≤ ms) :
    W p l e R s m args below meth c H locs cells slots (vx_MQ below Qc XC args s mc ms free) (F0 m pc ls rest) := by
  intro T hT X
  have htr : e.platform.stackTraces = false := (show e.platform.stackTraces = l.stackTraces by rw [X.admits.platform]).trans hl
  have Y := vx_rebase X (R' := { frames := R.frames, locals := R.locals, cells := 1, slots := 6 }) (Nat.le_refl _) (Nat.le_refl _) hRcells hRslots
  obtain ⟨s', hA⟩ : ∃ z, z = (T.setVm s.vm).setFrames (.invoking m args :: below) := ⟨_, rfl⟩
  rw [← hA] at Y
  have hvm : s'.vm = s.vm := by rw [hA]; rfl
  have hhp : s'.heap = H := by rw [hA]; exact hT
  have hW0 : s.WarmedH s'.vm := by rw [hvm]; exact State.WarmedH.refl s
  have hat' : ∀ w ∈ vx_atS own ic cls names, w.before args s' = true := fun w hw => vx_ot_at hW0 hvm.symm (hgood w (List.mem_cons_of_mem _ (List.mem_cons_of_mem _ hw))) (hat w hw)
  have hk' : (Cond.classLink own ik cls).before args s' = true := vx_ot_at hW0 hvm.symm (hgood _ List.mem_cons_self) hk
  have hini' : (Cond.initialized cls).before args s' = true := vx_ot_at hW0 hvm.symm (hgood _ (List.mem_cons_of_mem _ List.mem_cons_self)) hini
  have hU' : vx_Zq Bundle.tN "UNASSIGNED_STACK" Bundle.steD A s' s'.heap := by rw [hhp]; exact vx_Zq.moved hW0.alike (hU.kept hS.2.1)
  have hN' : vx_Zq Bundle.tN "SUPPRESSED_SENTINEL" Bundle.listD A s' s'.heap := by rw [hhp]; exact vx_Zq.moved hW0.alike (hN.kept hS.2.1)
  have h : ∀ w ∈ Bundle.ownAtoms own ic cls names, w.before args s' = true := vx_own hat' (vx_isRefq hU'.1) (vx_isRefq hN'.1) hU'.2.word hN'.2.word
  have hown' : s'.vm.findClass own = some m.cls := by rw [hvm]; exact hown
  have hins : (Cond.instantiable cls 6).before args s' = true := h _ (by simp [Bundle.ownAtoms])
  obtain ⟨vm₁, cX, kX, hfX, hkX, -, -, X₁, st1⟩ := Y.newCold hexec (own := own) (C := cls) (index := ik) (n := 6) hown' hk' hins hini'
    (g := F0 m pc ls rest) rfl (by rw [hb]; exact d0) (Nat.le_refl _) (Nat.le_refl _)
  generalize hT1 : (T.setVm vm₁).pushCell { cls := cX, slots := kX.instanceTypes.map defaultValue, vm := .none } = T1 at X₁ st1
  have hcat : (Value.ref T.heap.size).category = 1 := rfl
  have hcellA : T1.heap[T.heap.size]? = some (freshCell cX kX) := by rw [← hT1]; exact State.heap_pushCell_size _ _
  have d3' : decode c.code (pc + 3) = .ok (.dup, 1) := by rw [hb]; exact d3
  have d4' : decode c.code (pc + 4) = .ok (.ldc is, 2) := by rw [hb]; exact d4
  have hstr' : vk_R own is text sa s' := vk_R.warm hW0 hstr
  obtain ⟨U, hsteps, hrun, hend, hW, hsame, ce, hce, hO⟩ := X₁.ctorThrowS hexec htr (own := own) (cls := cls) (names := names) (ic := ic) hown' hcls hnames h (fun x hx => nomatch hx) hfX hkX hcellA (by rw [hhp, hT]; exact Nat.le_refl _) (msg := .ref sa) rfl
    (g := { method := m, pc := pc + 6, locals := ls, stack := .ref sa :: .ref T.heap.size :: .ref T.heap.size :: rest, locked := none }) rfl hsize rfl rfl (rest := rest) rfl
    (by rw [hb]; exact d6) (by rw [hb]; exact d9) hout hRframes (by simp only [List.map_cons, List.sum_cons, hcat]; omega) hlocks
  obtain ⟨f1, f2⟩ := vx_frame hsame
  rw [hhp] at f1 f2
  have hWs : s.WarmedH U.vm := State.WarmedH.trans hW0 hW
  have hcl : s.vm.findClass cls = some ce.cls := by
    have h9 := hO.cls
    rw [hvm] at h9
    exact h9
  have hall : s.sameButNew ({ U with vm := s.vm } : State) locs mc ms := by
    subst hA
    obtain ⟨e1, e2⟩ := hsame
    rw [State.setFrames_setFrames] at e1
    have h2 : (T.setVm s.vm).sameButNew ({ U with vm := s.vm } : State) [] (0 + 1) (0 + 6) := ⟨e1, e2⟩
    have h3 := X.same.trans h2
    rw [List.append_nil] at h3
    exact h3.mono hc hs
  refine ⟨U, ?_, .threw T.heap.size, hrun, hend, Or.inr ⟨T.heap.size, rfl, cls, ce, locs, hx U hWs.alike f1 (fun q hq => f2 q hq (fun z hz => nomatch hz)), hce, hO.vm, hcl, hWs, hall, hf⟩⟩
  refine st1 _ ?_
  show Steps p.tables e below (T1.setTop { method := m, pc := pc + 3, locals := ls, stack := .ref T.heap.size :: rest, locked := none }) _
  jvm_step X₁.here [X₁.here.top, hexec, d3', Value.category]
  exact X₁.ldcString hexec (own := own) (text := text) (index := is) (a := sa) hown' hstr'.1 hstr'.2
    (g := { method := m, pc := pc + 4, locals := ls, stack := .ref T.heap.size :: .ref T.heap.size :: rest, locked := none }) rfl d4' _ hsteps
/-- 'throw new E("text")', the text by a wide index -/
theorem vx_throwSW {cc : ByteArray} {pc : Nat} (hexec : p.tables.exec = Jvm.exec) (hb : c.code = cc) (hl : l.stackTraces = false) {own cls text : String} {names : List String} {ik is ic mc ms sa : Nat} {A : Nat → Prop}
    (hown : s.vm.findClass own = some m.cls) (hcls : Bundle.fit cls = true) (hnames : ∀ n ∈ names, Bundle.fit n = true)
    (hk : (Cond.classLink own ik cls).before args s = true) (hini : (Cond.initialized cls).before args s = true) (hstr : vk_R own is text sa s) (hat : ∀ w ∈ vx_atS own ic cls names, w.before args s = true)
    (hgood : ∀ w ∈ Cond.classLink own ik cls :: Cond.initialized cls :: vx_atS own ic cls names, vx_ot w = true)
    (hU : vx_Zq Bundle.tN "UNASSIGNED_STACK" Bundle.steD A s s.heap) (hN : vx_Zq Bundle.tN "SUPPRESSED_SENTINEL" Bundle.listD A s s.heap) (hS : va_S A s.heap H locs) (hsize : ls.size = c.maxLocals)
    (d0 : decode cc pc = .ok (.new ik, 3)) (d3 : decode cc (pc + 3) = .ok (.dup, 1)) (d4 : decode cc (pc + 4) = .ok (.ldc_w is, 3)) (d7 : decode cc (pc + 7) = .ok (.invokespecial ic, 3)) (d10 : decode cc (pc + 10) = .ok (.athrow, 1))
    (hout : ∀ x ∈ c.exceptionTable.toList, covers x (pc + 10) = false)
    (hRframes : names.length + 3 < R.frames) (hRlocals : (rest.map fun v => v.category).sum + (13 * (names.length + 1) + 43) ≤ R.locals) (hRcells : cells + 1 ≤ R.cells) (hRslots : slots + 6 ≤ R.slots) (hlocks : meth.locks = false)
    (hx : ∀ t : State, s.vm.Alike t.vm → H.size ≤ t.heap.size → (∀ q : Nat, q < H.size → t.heap[q]? = H[q]?) → XC cls s t)
    (hf : ∀ z ∈ locs, free z.base) (hc : cells + 1 ≤ mc) (hs : slots + 6 ≤ ms) :
    W p l e R s m args below meth c H locs cells slots (vx_MQ below Qc XC args s mc ms free) (F0 m pc ls rest) := by
  intro T hT X
  have htr : e.platform.stackTraces = false := (show e.platform.stackTraces = l.stackTraces by rw [X.admits.platform]).trans hl
  have Y := vx_rebase X (R' := { frames := R.frames, locals := R.locals, cells := 1, slots := 6 }) (Nat.le_refl _) (Nat.le_refl _) hRcells hRslots
  obtain ⟨s', hA⟩ : ∃ z, z = (T.setVm s.vm).setFrames (.invoking m args :: below) := ⟨_, rfl⟩
  rw [← hA] at Y
  have hvm : s'.vm = s.vm := by rw [hA]; rfl
  have hhp : s'.heap = H := by rw [hA]; exact hT
  have hW0 : s.WarmedH s'.vm := by rw [hvm]; exact State.WarmedH.refl s
  have hat' : ∀ w ∈ vx_atS own ic cls names, w.before args s' = true := fun w hw => vx_ot_at hW0 hvm.symm (hgood w (List.mem_cons_of_mem _ (List.mem_cons_of_mem _ hw))) (hat w hw)
  have hk' : (Cond.classLink own ik cls).before args s' = true := vx_ot_at hW0 hvm.symm (hgood _ List.mem_cons_self) hk
  have hini' : (Cond.initialized cls).before args s' = true := vx_ot_at hW0 hvm.symm (hgood _ (List.mem_cons_of_mem _ List.mem_cons_self)) hini
  have hU' : vx_Zq Bundle.tN "UNASSIGNED_STACK" Bundle.steD A s' s'.heap := by rw [hhp]; exact vx_Zq.moved hW0.alike (hU.kept hS.2.1)
  have hN' : vx_Zq Bundle.tN "SUPPRESSED_SENTINEL" Bundle.listD A s' s'.heap := by rw [hhp]; exact vx_Zq.moved hW0.alike (hN.kept hS.2.1)
  have h : ∀ w ∈ Bundle.ownAtoms own ic cls names, w.before args s' = true := vx_own hat' (vx_isRefq hU'.1) (vx_isRefq hN'.1) hU'.2.word hN'.2.word
  have hown' : s'.vm.findClass own = some m.cls := by rw [hvm]; exact hown
  have hins : (Cond.instantiable cls 6).before args s' = true := h _ (by simp [Bundle.ownAtoms])
  obtain ⟨vm₁, cX, kX, hfX, hkX, -, -, X₁, st1⟩ := Y.newCold hexec (own := own) (C := cls) (index := ik) (n := 6) hown' hk' hins hini'
    (g := F0 m pc ls rest) rfl (by rw [hb]; exact d0) (Nat.le_refl _) (Nat.le_refl _)
  generalize hT1 : (T.setVm vm₁).pushCell { cls := cX, slots := kX.instanceTypes.map defaultValue, vm := .none } = T1 at X₁ st1
  have hcat : (Value.ref T.heap.size).category = 1 := rfl
  have hcellA : T1.heap[T.heap.size]? = some (freshCell cX kX) := by rw [← hT1]; exact State.heap_pushCell_size _ _
  have d3' : decode c.code (pc + 3) = .ok (.dup, 1) := by rw [hb]; exact d3
  have d4' : decode c.code (pc + 4) = .ok (.ldc_w is, 3) := by rw [hb]; exact d4
  have hstr' : vk_R own is text sa s' := vk_R.warm hW0 hstr
  obtain ⟨U, hsteps, hrun, hend, hW, hsame, ce, hce, hO⟩ := X₁.ctorThrowS hexec htr (own := own) (cls := cls) (names := names) (ic := ic) hown' hcls hnames h (fun x hx => nomatch hx) hfX hkX hcellA (by rw [hhp, hT]; exact Nat.le_refl _) (msg := .ref sa) rfl
    (g := { method := m, pc := pc + 7, locals := ls, stack := .ref sa :: .ref T.heap.size :: .ref T.heap.size :: rest, locked := none }) rfl hsize rfl rfl (rest := rest) rfl
    (by rw [hb]; exact d7) (by rw [hb]; exact d10) hout hRframes (by simp only [List.map_cons, List.sum_cons, hcat]; omega) hlocks
  obtain ⟨f1, f2⟩ := vx_frame hsame
  rw [hhp] at f1 f2
  have hWs : s.WarmedH U.vm := State.WarmedH.trans hW0 hW
  have hcl : s.vm.findClass cls = some ce.cls := by
    have h9 := hO.cls
    rw [hvm] at h9
    exact h9
  have hall : s.sameButNew ({ U with vm := s.vm } : State) locs mc ms := by
    subst hA
    obtain ⟨e1, e2⟩ := hsame
    rw [State.setFrames_setFrames] at e1
    have h2 : (T.setVm s.vm).sameButNew ({ U with vm := s.vm } : State) [] (0 + 1) (0 + 6) := ⟨e1, e2⟩
    have h3 := X.same.trans h2
    rw [List.append_nil] at h3
    exact h3.mono hc hs
  refine ⟨U, ?_, .threw T.heap.size, hrun, hend, Or.inr ⟨T.heap.size, rfl, cls, ce, locs, hx U hWs.alike f1 (fun q hq => f2 q hq (fun z hz => nomatch hz)), hce, hO.vm, hcl, hWs, hall, hf⟩⟩
  refine st1 _ ?_
  show Steps p.tables e below (T1.setTop { method := m, pc := pc + 3, locals := ls, stack := .ref T.heap.size :: rest, locked := none }) _
  jvm_step X₁.here [X₁.here.top, hexec, d3', Value.category]
  exact X₁.ldcStringW hexec (own := own) (text := text) (index := is) (a := sa) hown' hstr'.1 hstr'.2
    (g := { method := m, pc := pc + 4, locals := ls, stack := .ref T.heap.size :: .ref T.heap.size :: rest, locked := none }) rfl d4' _ hsteps
end Ends
section Bodies
variable {l : Launch}
theorem vx_ofW {y : MethodName} {ws ws' : List Cond} {rm : Room} {Pc : Array Value → State → Prop} {Qc : Array Value → State → Outcome → State → Prop} {XC : String → State → State → Prop} {mc ms : Nat} {free : Addr → Prop} {cc : ByteArray} {maxL : Nat} {ret : Option FieldType}
    (hy : plainName y.cls = true) (hw : ws = Cond.code y cc maxL ret :: ws')
    (body : ∀ p e s m args below meth c s₁, BodyLoose p l y (headSpec ws rm) cc maxL ret e s m args below meth c s₁ → c.maxLocals = maxL → (∀ x ∈ c.exceptionTable.toList, False) → Pc args s →
      W p l e (headSpec ws rm).room s m args below meth c s.heap [] 0 0 (vx_MQ below Qc XC args s mc ms free) (entryFrame m args maxL)) : vx_Met l y ws rm Pc Qc XC mc ms free := by
  refine MetFree.of_bodyS (code := cc) (maxLocals := maxL) (ret := ret) hy ?_ ?_
  · intro args s m h hn
    obtain ⟨meth, c, h1, h2, h3, h4, h5, h6, -, -⟩ := Cond.code_spec hn (atoms_spec (ws := ws) h _ (by rw [hw]; exact List.mem_cons_self))
    exact ⟨meth, c, h1, h2, h3, h4, h5, h6⟩
  · intro p e s m args below meth c s₁ B hml hP _
    have hh0 : s₁.heap = s.heap := by rw [B.state]; rfl
    have ht : ∀ x ∈ c.exceptionTable.toList, False := by
      obtain ⟨meth9, c9, h1, h2, -, -, -, -, h7, -⟩ := Cond.code_spec B.named (atoms_spec (ws := ws) B.pre _ (by rw [hw]; exact List.mem_cons_self))
      cases Option.some.inj (h1.symm.trans B.method)
      cases Option.some.inj (h2.symm.trans (Stand.of_body B).code)
      intro x hx
      rw [Array.isEmpty_iff.mp h7] at hx
      cases hx
    obtain ⟨t, a1, o, b1, b2, b3⟩ := body p e s m args below meth c s₁ B hml ht hP s₁ hh0 (Stand.of_body B)
    exact ⟨t, o, a1, b1, b2, b3⟩
/-- the table of a body with handlers -/
theorem vx_table {p : Program} {x y : MethodName} {S : Spec} {cc bytes : ByteArray} {maxL maxL' : Nat} {ret ret' : Option FieldType} {e : Env} {s s₁ : State} {m : MethodId} {args : Array Value} {below : List Frame} {meth : Method} {c : Code} {hh : List (Nat × Nat × Nat × Nat)}
    (B : BodyLoose p l y S cc maxL ret e s m args below meth c s₁) (h : (Cond.codeWith y bytes maxL' ret' hh).before args s = true) : c.exceptionTable.toList = tableOf hh := by
  obtain ⟨m9, meth9, c9, hn9, h1, h2, -, -, h6, -⟩ := Cond.codeWith_spec h
  cases Option.some.inj (hn9.symm.trans B.named)
  cases Option.some.inj (h1.symm.trans B.method)
  cases Option.some.inj (h2.symm.trans (Stand.of_body B).code)
  rw [← h6, table_eq]
end Bodies
end VXA
/-! ===== END ===== -/
/-! ===== BEGIN a static call of a method with an exception table ===== -/
section VXS
variable {p : Program} {l : Launch} {e : Env} {R : Room} {s : State} {m : MethodId} {args : Array Value} {below : List Frame} {meth : Method} {c : Code} {T : State} {H : Heap} {locs : List Loc} {cells slots : Nat}
abbrev vx_CSW (R : Room) (s : State) (args : Array Value) (own : String) (index : Nat) (y : MethodName) (bytes : ByteArray) (maxL : Nat) (ret : Option FieldType) (hh : List (Nat × Nat × Nat × Nat)) (ws : List Cond) (rm : Room) (mc ms n : Nat) : Prop :=
  (rm.cells = mc ∧ rm.slots = ms ∧ rm.frames + 1 ≤ R.frames ∧ 8 + (maxL + 11) + rm.locals ≤ R.locals ∧ (∀ w ∈ ws, ∀ (a' : Array Value) (U : State), s.WarmedH U.vm → w.before a' U = true) ∧ Cond.codeWith y bytes maxL ret hh ∈ ws) ∧
  (Cond.codeWith y bytes maxL ret hh).before args s = true ∧ (Cond.initialized y.cls).before args s = true ∧ (y.cls ≠ "java/lang/invoke/MethodHandle" ∧ y.cls ≠ "java/lang/invoke/VarHandle") ∧
  (∀ sig, parseMethodDescriptor y.desc = some sig → n = sig.parameters.length) ∧ (Cond.methodLink own index y).before args s = true ∧ (Cond.static y).before args s = true
theorem vx_cwSW {own : String} {index maxL mc ms : Nat} {y : MethodName} {bytes : ByteArray} {ret : Option FieldType} {hh : List (Nat × Nat × Nat × Nat)} {Ts ws ws' : List Cond} {rm : Room} (n : Nat) (ht : ∀ w ∈ Ts, w.before args s = true) (hT : GoodIn Ts (va_wsS own index y ws)) (hw : ws = Cond.codeWith y bytes maxL ret hh :: ws') (hrc : rm.cells = mc) (hrs : rm.slots = ms)
    (hd : y.cls ≠ "java/lang/invoke/MethodHandle" ∧ y.cls ≠ "java/lang/invoke/VarHandle" ∧ (parseMethodDescriptor y.desc).map (fun d => d.parameters.length) = some n) (hR : rm.frames + 1 ≤ R.frames ∧ 8 + (maxL + 11) + rm.locals ≤ R.locals) :
    vx_CSW R s args own index y bytes maxL ret hh ws rm mc ms n := by
  have ok : ∀ w ∈ va_wsS own index y ws, w.before args s = true := fun w h => ht w (hT w h).1
  have hG : GoodIn Ts ws := fun w h => hT w (by unfold va_wsS; exact List.mem_append_right _ h)
  have hc : Cond.codeWith y bytes maxL ret hh ∈ ws := by rw [hw]; exact List.mem_cons_self
  refine ⟨⟨hrc, hrs, hR.1, hR.2, pay_in ht hG, hc⟩, ht _ (hG _ hc).1, ok _ (by simp [va_wsS]), ⟨hd.1, hd.2.1⟩, fun sig h => ?_, ok _ (by simp [va_wsS]), ok _ (by simp [va_wsS])⟩
  have h2 := hd.2.2
  rw [h] at h2
  exact (Option.some.inj h2).symm
theorem vx_callSW (X : Stand p l e R s m args below meth c T locs cells slots) (hexec : p.tables.exec = Jvm.exec) {own : String} {index : Nat} {y : MethodName} {bytes : ByteArray} {maxL : Nat} {ret : Option FieldType} {hh : List (Nat × Nat × Nat × Nat)}
    (hown : s.vm.findClass own = some m.cls) (hlink : (Cond.methodLink own index y).before args s = true) (hstat : (Cond.static y).before args s = true) (hinit : (Cond.initialized y.cls).before args s = true)
    (hcode : (Cond.codeWith y bytes maxL ret hh).before args s = true) (hy : y.cls ≠ "java/lang/invoke/MethodHandle" ∧ y.cls ≠ "java/lang/invoke/VarHandle")
    {W9 : Nat} {Pre : Pt → Array Value → Prop} {Post : Pt → Array Value → Option Value → Pt → Prop} (hK : Back l R p e below s args y 3 W9 Pre Post)
    {g : JFrame} (hg : g.method = m) (hsize : g.locals.size = c.maxLocals) {argsL rest : List Value} (hlen : ∀ sig, parseMethodDescriptor y.desc = some sig → argsL.length = sig.parameters.length)
    (hstack : g.stack = argsL.reverse ++ rest) (hW : 2 * g.monitorRoom + (rest.map fun v => v.category).sum ≤ W9) (hdg : decode c.code g.pc = .ok (.invokestatic index, 3))
    (hpre : ∀ vm₁, s.WarmedH vm₁ → Pre ⟨T.setVm vm₁, locs, cells, slots⟩ argsL.toArray) :
    ∃ (v : Option Value) (vm₁ : Vm) (B : Pt), s.WarmedH vm₁ ∧ Stand p l e R s m args below meth c B.U B.locs B.cells B.slots ∧ Post ⟨T.setVm vm₁, locs, cells, slots⟩ argsL.toArray v B ∧
      ∀ target, Steps p.tables e below (B.U.setTop { g with pc := g.pc + 3, stack := v.toList ++ rest }) target → Steps p.tables e below (T.setTop g) target := by
  obtain ⟨mk, methM, cM, hnamed, hmethM, -, -, -, -, -, -, hsigM⟩ := Cond.codeWith_spec hcode
  have hstatic : methM.isStatic = true := Cond.static_spec hnamed hmethM hstat
  obtain ⟨kP, hkP, -⟩ := className_of_methodNamed hnamed
  have hinitP : kP.init = .initialized := Cond.initialized_spec (findClass_of_methodNamed hnamed) hkP hinit
  obtain ⟨vm₁, X₁, hstep₁⟩ := X.invokestatic hexec hown hlink hnamed hmethM hstatic hkP hinitP hy (g := g) hg (argsL := argsL) (rest := rest) (hlen _ hsigM) hstack hdg
  obtain ⟨v, B, X', hpost, hsteps⟩ := hK m meth c ⟨T.setVm vm₁, locs, cells, slots⟩ { g with stack := rest } (.invokestatic index) mk argsL.toArray X₁ hg hsize hdg hW (X₁.named hnamed) (hpre vm₁ X₁.warmed)
  exact ⟨v, vm₁, B, X₁.warmed, X', hpost, fun target h => hstep₁ _ fun acts => by rw [doInvoke_state]; exact hsteps.trans h⟩
theorem vx_runSW {y : MethodName} {bytes cc : ByteArray} {maxL nL mc ms n index : Nat} {ret : Option FieldType} {hh : List (Nat × Nat × Nat × Nat)} {ws : List Cond} {rm : Room} {Pc : Array Value → State → Prop} {Qc : Array Value → State → Outcome → State → Prop} {free : Addr → Prop} {Ts : List Cond} {own : String} {As rest : List Value} {g : JFrame}
    (S : CallFix p m c cc nL s args Ts own) (hM : Met l y ws rm Pc Qc mc ms free) (cw : vx_CSW R s args own index y bytes maxL ret hh ws rm mc ms n) (hp : PreS s H Pc As)
    (hg : g.method = m) (hn : As.length = n) (hsize : g.locals.size = nL) (hstack : g.stack = As.reverse ++ rest) (hW : 2 * g.monitorRoom + (rest.map fun v => v.category).sum ≤ 8) (hdg : decode cc g.pc = .ok (.invokestatic index, 3)) (hf : cells + mc ≤ R.cells ∧ slots + ms ≤ R.slots) :
    va_Run p l e R s m args below meth c H locs cells slots mc ms g rest (Qc As.toArray) (free) := by
  obtain ⟨⟨hrc, hrs, hfr, hlo, hws, hcw⟩, hcode, hini, hy, hlen, hl, hstt⟩ := cw
  have hK : Back l R p e below s args y 3 8 (PreOf R mc ms Pc) (PostOf Qc mc ms free) := va_backW (hh := hh) (bytes := bytes) (maxL := maxL) (ret := ret) hM hp.1 hrc hrs hfr hlo hws hcw (fun a' U hW => word_at hW (Or.inl (by first | rfl | simp [Cond.onTables, Cond.keeps, Cond.steady])) hini)
  obtain ⟨hx, hb, hml, ho, -⟩ := S
  intro T hT X
  obtain ⟨v, vm₁, ⟨U', l2, c2, s2⟩, hW₁, X', ⟨g', mk, t, L, e1, e2, hq, h1, hL, h2, h3⟩, st⟩ := vx_callSW X hx (hh := hh) (bytes := bytes) (maxL := maxL) (ret := ret) ho hl hstt hini hcode hy hK hg (hsize.trans hml.symm) (argsL := As) (rest := rest) (fun sig h => hn.trans (hlen sig h)) hstack hW (by rw [hb]; exact hdg)
    (fun vm₁ hW₁ => ⟨hf.1, hf.2, hp.2 (T.setVm vm₁) hT hW₁⟩)
  dsimp only [Pt.U, Pt.locs, Pt.cells, Pt.slots] at X' e1 e2 h1 h2 h3 st
  subst h1; subst h2; subst h3
  exact ⟨v, (T.setVm vm₁).calling g' mk As.toArray, t, U', L, hT, X', hL, e1, e2, hq, st⟩
/-- not caught here, past rows that name other classes: it goes on to the caller -/
theorem vx_outP {p : Program} {l : Launch} {e : Env} {R : Room} {s : State} {m : MethodId} {args : Array Value} {below : List Frame} {meth : Method} {c : Code} {H : Heap} {locs : List Loc} {cells slots : Nat} {free : Addr → Prop} {ls : Array Slot} {rest : List Value} {Qc : Array Value → State → Outcome → State → Prop} {XC : String → State → State → Prop}
    {pc : Nat} {own E : String} {ce : Cell} {q : Addr} {mc ms : Nat} (hown : s.vm.findClass own = some m.cls) (hlocks : meth.locks = false)
    (hpass : ∀ z ∈ c.exceptionTable.toList, covers z pc = false ∨ (z.catchType ≠ 0 ∧ ∃ nm : String, (Cond.classLink own z.catchType nm).before args s = true ∧ va_Nc E nm s)) (hcell : H[q]? = some ce) (hv : ce.vm = .none) (hcl : s.vm.findClass E = some ce.cls)
    (hx : ∀ t : State, t.heap = H → s.vm.Alike t.vm → XC E s t) (hf : ∀ z ∈ locs, free z.base) (hc : cells ≤ mc) (hs : slots ≤ ms) :
    vx_W p l e R s m args below meth c H locs cells slots (vx_MQ below Qc XC args s mc ms free) (F0 m pc ls rest) q := by
  intro T hT X
  have hpl : e.platform.magicAccessors = ({} : Platform).magicAccessors := by rw [X.admits.platform]
  obtain ⟨vm', hW', X', st⟩ := X.outThrough hlocks q (g := F0 m pc ls rest) rfl rfl rfl (cell := ce) (by rw [hT]; exact hcell) (by rw [hv]; rfl)
    (by obtain ⟨k9, h9, -⟩ := Vm.findClass_spec hcl; exact ⟨k9, h9⟩) (fun z hz => by
      rcases hpass z hz with h | ⟨hz0, nm, hl1, hn1⟩
      · exact Or.inl h
      · obtain ⟨c6, hc6, hcl6⟩ := Cond.classLink_spec hown hl1 e.platform hpl
        obtain ⟨a8, b8, h1, h2, h3⟩ := hn1
        cases Option.some.inj (h1.symm.trans hcl)
        cases Option.some.inj (h2.symm.trans hc6)
        exact Or.inr ⟨hz0, _, hcl6, h3⟩)
  obtain ⟨g₀, hfr⟩ := X'.frames_eq
  have hcell9 : ((T.setVm vm').setFrames (.throwing q :: below)).heap[q]? = some ce := by
    show T.heap[q]? = some ce
    rw [hT]; exact hcell
  have hend : Ended ((T.setVm vm').setFrames (.throwing q :: below)) below (.threw q) := State.frames_setFrames _ (State.cur_lt_of_frames hfr)
  refine ⟨(T.setVm vm').setFrames (.throwing q :: below), ?_, .threw q, X'.here.running, hend, Or.inr ⟨q, rfl, E, ce, locs, hx _ hT (X'.ends _).1.alike, hcell9, hv, hcl, (X'.ends _).1, (X'.ends _).2.mono hc hs, hf⟩⟩
  rw [X.pushThrowing_eq]
  exact st
/-- a thing of a world lies in the heap -/
theorem vx_lt {D : va_G} {cl : List vw_C} {ws : va_W} {H1 : Heap} (h : va_P D cl ws H1) {k : Nat} {q : Nat × va_E} (hk : ws[k]? = some q) : q.1 < H1.size := (h k q hk).lt
end VXS
/-! ===== END ===== -/
/-! ===== BEGIN methods with a table of their own: called by a name, returning or throwing ===== -/
section VXH
/-! vx_backW, vx_callVX, vx_callSX, vx_callVW, vx_runVW, vx_runVX, vx_runSX, vx_ofWH follow the same proofs as their sisters above (Free/Laws.lean, Shelf42/LK1.lean); vx_outP calls Shelf42/NT130.lean (outThrough). -/
section
variable {l : Launch} {R : Room} {p : Program} {e : Env} {below : List Frame} {s : State} {sargs : Array Value} {y : MethodName} {len W9 : Nat}
theorem vx_backW {ws : List Cond} {rm : Room} {Pc : Array Value → State → Prop} {Qc : Array Value → State → Outcome → State → Prop} {XC : String → State → State → Prop} {mc ms : Nat} {free : Addr → Prop} {bytes : ByteArray} {maxL : Nat} {ret : Option FieldType} {hh : List (Nat × Nat × Nat × Nat)}
    (hM : vx_Met l y ws rm Pc Qc XC mc ms free) (hblind : FrameBlind Pc) (hrc : rm.cells = mc) (hrs : rm.slots = ms)
    (hframes : rm.frames + 1 ≤ R.frames) (hlocals : W9 + (maxL + 11) + rm.locals ≤ R.locals)
    (hws : ∀ w ∈ ws, ∀ a' U, s.WarmedH U.vm → w.before a' U = true) (hcode : Cond.codeWith y bytes maxL ret hh ∈ ws) (hinit : ∀ a' U, s.WarmedH U.vm → (Cond.initialized y.cls).before a' U = true) :
    vx_Back l R p e below s sargs y len W9 (PreOf R mc ms Pc) (PostOf Qc mc ms free) (vx_Post XC mc ms free) := by
  intro m meth c A g ig mk a X hg hsize hdg hW hn hp
  have h1 : (headSpec ws rm).pre.before a A.U = true := atoms_intro fun w hw => hws w hw _ _ X.warmed
  have h2 : (Cond.codeWith y bytes maxL ret hh).before a A.U = true := hws _ hcode _ _ X.warmed
  have h3 : (Cond.initialized y.cls).before a A.U = true := hinit _ _ X.warmed
  have h4 : A.cells + (headSpec ws rm).room.cells ≤ R.cells := by rw [show (headSpec ws rm).room.cells = mc from hrc]; exact hp.1
  have h5 : A.slots + (headSpec ws rm).room.slots ≤ R.slots := by rw [show (headSpec ws rm).room.slots = ms from hrs]; exact hp.2.1
  have hPc : Pc a (A.U.calling g mk a) := hblind _ _ _ _ hp.2.2
  obtain ⟨U, Ls, c0, s0⟩ := A
  dsimp only [Pt.U, Pt.locs, Pt.cells, Pt.slots] at h1 h2 h3 h4 h5 X hn hPc ⊢
  obtain ⟨m9, methY, cY, hn9, hmY, hcY, -, hlY, -⟩ := Cond.codeWith_spec h2
  cases Option.some.inj (hn9.symm.trans hn)
  obtain ⟨kY, hkY, -⟩ := className_of_methodNamed hn
  have hinitY : kY.init = .initialized := Cond.initialized_spec (findClass_of_methodNamed hn) hkY h3
  have h : At U g.method c below := by rw [hg]; exact X.here
  have hlocals9 : W9 + (maxL + 11) + (headSpec ws rm).room.locals ≤ R.locals := hlocals
  have happ : (headSpec ws rm).appliesLoose y e.platform (U.calling g mk a) = true :=
    Spec.appliesLoose_calling (g := g) h hdg hn hkY hinitY
      (X.room_calling (g := g) (R' := (headSpec ws rm).room) hsize hmY hcY hframes (by rw [hlY]; omega) h4 h5) h1
  obtain ⟨mid, hmid⟩ := h.above
  have hfr : (U.setTop g).frames = (.java g :: mid) ++ below := by rw [State.frames_setTop' g h.top, hmid]; rfl
  obtain ⟨o, s₂, hsteps, -, hend, hq⟩ := Steps.callFree hM p X.admits X.cas X.clock (acts := []) hfr happ hPc trivial
  have hq' : vx_Q Qc XC mc ms free a (U.calling g mk a) o s₂ := hq
  rw [State.frames_setTop' g h.top] at hend
  obtain ⟨g₀, hg0⟩ := Option.isSome_iff_exists.mp h.top
  obtain ⟨r, hr⟩ := State.topJava?_eq_some.mp hg0
  have hr' : (({ U with heap := s₂.heap, slotsUsed := s₂.slotsUsed } : State).setVm s₂.vm).frames = .java g₀ :: r := hr
  rcases hq' with ⟨hqc, L, hfe, hL⟩ | ⟨q, rfl, E, ce, L, hx, hce, hcv, hcl, hW₂, hsm, hL⟩
  · obtain ⟨⟨v, rfl⟩, hW₂, e2, q2, q3, q4, q5, q6⟩ := id hfe
    have e3 : s₂ = ({ (U.calling g mk a).setFrames s₂.frames with heap := s₂.heap, slotsUsed := s₂.slotsUsed } : State).setVm s₂.vm := by
      have : s₂ = ({ s₂ with vm := (U.calling g mk a).vm } : State).setVm s₂.vm := rfl
      rw [e2] at this
      exact this
    obtain ⟨c₂, i₂, len₂, hc₂, hd₂, hf₂⟩ := hend
    have hW' : U.WarmedH s₂.vm := hW₂
    have hcc : c₂ = c := by
      have h1 : s₂.code? g.method = U.code? g.method := by
        rw [State.code?_eq, State.code?_eq, hW'.alike.method?]
      exact Option.some.inj (hc₂.symm.trans (h1.trans h.code))
    subst hcc
    have hlen : len₂ = len := by rw [hdg] at hd₂; cases hd₂; rfl
    subst hlen
    have hs₂ : s₂ = (({ U with heap := s₂.heap, slotsUsed := s₂.slotsUsed } : State).setVm s₂.vm).setTop { g with pc := g.pc + len₂, stack := v.toList ++ g.stack } := by
      refine e3.trans ?_
      rw [hf₂, State.calling_eq h.top, State.setFrames_setFrames, State.setTop_of_frames _ hr', hr]
      rfl
    have hsame : U.sameButNew ({ U with heap := s₂.heap, slotsUsed := s₂.slotsUsed } : State) L mc ms := by
      refine ⟨?_, q2, q3, q4, q5, q6⟩
      obtain ⟨t, ht, -⟩ := State.frames_cons hr
      show ({ U with heap := s₂.heap, slotsUsed := s₂.slotsUsed } : State) = { U.setFrames U.frames with heap := s₂.heap, slotsUsed := s₂.slotsUsed }
      rw [State.setFrames_self ht]
    subst hg
    refine Or.inl ⟨v, ⟨(({ U with heap := s₂.heap, slotsUsed := s₂.slotsUsed } : State).setVm s₂.vm), Ls ++ L, c0 + mc, s0 + ms⟩,
      ⟨X.admits, X.cas, X.clock, X.frames, X.room, X.hears, X.method, X.code, (X.here.setHeapUsed s₂.heap s₂.slotsUsed).setVm hW'.alike, X.tail, State.WarmedH.trans X.warmed hW', X.limits, X.bytes, X.same.trans (hsame.setVm s.vm)⟩,
      ⟨g, mk, s₂, L, rfl, rfl, hqc, rfl, hL, rfl, rfl⟩, ?_⟩
    show Steps p.tables e below _ ((({ U with heap := s₂.heap, slotsUsed := s₂.slotsUsed } : State).setVm s₂.vm).setTop { g with pc := g.pc + len₂, stack := v.toList ++ g.stack })
    rw [← hs₂]
    exact hsteps
  · obtain ⟨e2, q2, q3, q4, q5, q6⟩ := id hsm
    have e3 : s₂ = ({ (U.calling g mk a).setFrames s₂.frames with heap := s₂.heap, slotsUsed := s₂.slotsUsed } : State).setVm s₂.vm := by
      have : s₂ = ({ s₂ with vm := (U.calling g mk a).vm } : State).setVm s₂.vm := rfl
      rw [e2] at this
      exact this
    have hf₂ : s₂.frames = .throwing q :: .java g :: U.frames.tail := hend
    have hW' : U.WarmedH s₂.vm := hW₂
    have hs₂ : s₂ = ((({ U with heap := s₂.heap, slotsUsed := s₂.slotsUsed } : State).setVm s₂.vm).setTop g).pushFrame (.throwing q) := by
      refine e3.trans ?_
      rw [hf₂, State.calling_eq h.top, State.setFrames_setFrames, State.pushFrame, State.frames_setTop _ hr', State.setTop_of_frames _ hr', State.setFrames_setFrames, hr]
      rfl
    have hsame : U.sameButNew ({ U with heap := s₂.heap, slotsUsed := s₂.slotsUsed } : State) L mc ms := by
      refine ⟨?_, q2, q3, q4, q5, q6⟩
      obtain ⟨t, ht, -⟩ := State.frames_cons hr
      show ({ U with heap := s₂.heap, slotsUsed := s₂.slotsUsed } : State) = { U.setFrames U.frames with heap := s₂.heap, slotsUsed := s₂.slotsUsed }
      rw [State.setFrames_self ht]
    subst hg
    refine Or.inr ⟨q, ⟨(({ U with heap := s₂.heap, slotsUsed := s₂.slotsUsed } : State).setVm s₂.vm), Ls ++ L, c0 + mc, s0 + ms⟩,
      ⟨X.admits, X.cas, X.clock, X.frames, X.room, X.hears, X.method, X.code, (X.here.setHeapUsed s₂.heap s₂.slotsUsed).setVm hW'.alike, X.tail, State.WarmedH.trans X.warmed hW', X.limits, X.bytes, X.same.trans (hsame.setVm s.vm)⟩,
      ⟨g, mk, s₂, L, E, ce, rfl, rfl, hx, hce, hcv, hcl, rfl, hL, rfl, rfl⟩, ?_⟩
    show Steps p.tables e below _ (((({ U with heap := s₂.heap, slotsUsed := s₂.slotsUsed } : State).setVm s₂.vm).setTop g).pushFrame (.throwing q))
    rw [← hs₂]
    exact hsteps
end
variable {p : Program} {l : Launch} {e : Env} {R : Room} {s : State} {m : MethodId} {args : Array Value} {below : List Frame} {meth : Method} {c : Code} {T : State} {H : Heap} {locs : List Loc} {cells slots : Nat}
theorem vx_callVX (X : Stand p l e R s m args below meth c T locs cells slots) (hexec : p.tables.exec = Jvm.exec) {own C : String} {index : Nat} {y : MethodName} {bytes : ByteArray} {maxL : Nat} {ret : Option FieldType} {hh : List (Nat × Nat × Nat × Nat)}
    (hown : s.vm.findClass own = some m.cls) (hlink : (Cond.methodLink own index y).before args s = true) (hinst : (Cond.instanceMethod y).before args s = true) (hsel : (Cond.selects C y y).before args s = true)
    (hcode : (Cond.codeWith y bytes maxL ret hh).before args s = true) (hy : y.cls ≠ "java/lang/invoke/MethodHandle" ∧ y.cls ≠ "java/lang/invoke/VarHandle")
    {W9 : Nat} {Pre : Pt → Array Value → Prop} {Post : Pt → Array Value → Option Value → Pt → Prop} {PostX : Pt → Array Value → Addr → Pt → Prop} (hK : vx_Back l R p e below s args y 3 W9 Pre Post PostX)
    {b : Addr} {cellB : Cell} (hcell : T.heap[b]? = some cellB) (hobj : cellB.vm.isStatics = false) (hcls : s.vm.findClass C = some cellB.cls)
    {g : JFrame} (hg : g.method = m) (hsize : g.locals.size = c.maxLocals) {argsL rest : List Value} (hlen : ∀ sig, parseMethodDescriptor y.desc = some sig → argsL.length = sig.parameters.length)
    (hstack : g.stack = argsL.reverse ++ .ref b :: rest) (hW : 2 * g.monitorRoom + (rest.map fun v => v.category).sum ≤ W9) (hdg : decode c.code g.pc = .ok (.invokevirtual index, 3))
    (hpre : ∀ vm₁, s.WarmedH vm₁ → Pre ⟨T.setVm vm₁, locs, cells, slots⟩ (Value.ref b :: argsL).toArray) :
    (∃ (v : Option Value) (vm₁ : Vm) (B : Pt), s.WarmedH vm₁ ∧ Stand p l e R s m args below meth c B.U B.locs B.cells B.slots ∧ Post ⟨T.setVm vm₁, locs, cells, slots⟩ (Value.ref b :: argsL).toArray v B ∧
      ∀ target, Steps p.tables e below (B.U.setTop { g with pc := g.pc + 3, stack := v.toList ++ rest }) target → Steps p.tables e below (T.setTop g) target) ∨
    (∃ (q : Addr) (vm₁ : Vm) (B : Pt), s.WarmedH vm₁ ∧ Stand p l e R s m args below meth c B.U B.locs B.cells B.slots ∧ PostX ⟨T.setVm vm₁, locs, cells, slots⟩ (Value.ref b :: argsL).toArray q B ∧
      Steps p.tables e below (T.setTop g) ((B.U.setTop { g with stack := rest }).pushFrame (.throwing q))) := by
  obtain ⟨mk, methM, hnamed, hmethM, hstM, habM⟩ := Cond.instanceMethod_spec hinst
  obtain ⟨m8, methM', cM, hn8, hmethM', -, -, -, -, -, -, hsigM⟩ := Cond.codeWith_spec hcode
  cases Option.some.inj (hn8.symm.trans hnamed)
  cases hmethM.symm.trans hmethM'
  obtain ⟨c2, r2, m2, q1, q2, q3, q4, kP, hkP, hkPi⟩ := Cond.selects_spec hsel
  cases hcls.symm.trans q1
  cases (State.methodFound?_of_named hnamed hy).symm.trans q2
  cases hnamed.symm.trans q3
  have hselP : selectMethod e.platform s.vm cellB.cls mk = .method mk := by rw [Launch.admits_selectMethod X.admits]; exact q4
  obtain ⟨vm₁, X₁, hstep₁⟩ := X.invokevirtual hexec hown hlink hnamed hmethM hstM hkP hkPi hy (a := b) (cell := cellB) hcell
    (fun z h => by rw [h] at hobj; cases hobj) hselP hmethM habM hkP hkPi (g := g) hg (argsL := argsL) (rest := rest) (hlen _ hsigM) hstack hdg
  rcases hK m meth c ⟨T.setVm vm₁, locs, cells, slots⟩ { g with stack := rest } (.invokevirtual index) mk (Value.ref b :: argsL).toArray X₁ hg hsize hdg hW (X₁.named hnamed) (hpre vm₁ X₁.warmed) with ⟨v, B, X', hpost, hsteps⟩ | ⟨q, B, X', hpost, hsteps⟩
  · exact Or.inl ⟨v, vm₁, B, X₁.warmed, X', hpost, fun target h => hstep₁ _ fun acts => by rw [doInvoke_state]; exact hsteps.trans h⟩
  · exact Or.inr ⟨q, vm₁, B, X₁.warmed, X', hpost, hstep₁ _ fun acts => by rw [doInvoke_state]; exact hsteps⟩
theorem vx_callSX (X : Stand p l e R s m args below meth c T locs cells slots) (hexec : p.tables.exec = Jvm.exec) {own : String} {index : Nat} {y : MethodName} {bytes : ByteArray} {maxL : Nat} {ret : Option FieldType} {hh : List (Nat × Nat × Nat × Nat)}
    (hown : s.vm.findClass own = some m.cls) (hlink : (Cond.methodLink own index y).before args s = true) (hstat : (Cond.static y).before args s = true) (hinit : (Cond.initialized y.cls).before args s = true)
    (hcode : (Cond.codeWith y bytes maxL ret hh).before args s = true) (hy : y.cls ≠ "java/lang/invoke/MethodHandle" ∧ y.cls ≠ "java/lang/invoke/VarHandle")
    {W9 : Nat} {Pre : Pt → Array Value → Prop} {Post : Pt → Array Value → Option Value → Pt → Prop} {PostX : Pt → Array Value → Addr → Pt → Prop} (hK : vx_Back l R p e below s args y 3 W9 Pre Post PostX)
    {g : JFrame} (hg : g.method = m) (hsize : g.locals.size = c.maxLocals) {argsL rest : List Value} (hlen : ∀ sig, parseMethodDescriptor y.desc = some sig → argsL.length = sig.parameters.length)
    (hstack : g.stack = argsL.reverse ++ rest) (hW : 2 * g.monitorRoom + (rest.map fun v => v.category).sum ≤ W9) (hdg : decode c.code g.pc = .ok (.invokestatic index, 3))
    (hpre : ∀ vm₁, s.WarmedH vm₁ → Pre ⟨T.setVm vm₁, locs, cells, slots⟩ argsL.toArray) :
    (∃ (v : Option Value) (vm₁ : Vm) (B : Pt), s.WarmedH vm₁ ∧ Stand p l e R s m args below meth c B.U B.locs B.cells B.slots ∧ Post ⟨T.setVm vm₁, locs, cells, slots⟩ argsL.toArray v B ∧
      ∀ target, Steps p.tables e below (B.U.setTop { g with pc := g.pc + 3, stack := v.toList ++ rest }) target → Steps p.tables e below (T.setTop g) target) ∨
    (∃ (q : Addr) (vm₁ : Vm) (B : Pt), s.WarmedH vm₁ ∧ Stand p l e R s m args below meth c B.U B.locs B.cells B.slots ∧ PostX ⟨T.setVm vm₁, locs, cells, slots⟩ argsL.toArray q B ∧
      Steps p.tables e below (T.setTop g) ((B.U.setTop { g with stack := rest }).pushFrame (.throwing q))) := by
  obtain ⟨mk, methM, cM, hnamed, hmethM, -, -, -, -, -, -, hsigM⟩ := Cond.codeWith_spec hcode
  have hstatic : methM.isStatic = true := Cond.static_spec hnamed hmethM hstat
  obtain ⟨kP, hkP, -⟩ := className_of_methodNamed hnamed
  have hinitP : kP.init = .initialized := Cond.initialized_spec (findClass_of_methodNamed hnamed) hkP hinit
  obtain ⟨vm₁, X₁, hstep₁⟩ := X.invokestatic hexec hown hlink hnamed hmethM hstatic hkP hinitP hy (g := g) hg (argsL := argsL) (rest := rest) (hlen _ hsigM) hstack hdg
  rcases hK m meth c ⟨T.setVm vm₁, locs, cells, slots⟩ { g with stack := rest } (.invokestatic index) mk argsL.toArray X₁ hg hsize hdg hW (X₁.named hnamed) (hpre vm₁ X₁.warmed) with ⟨v, B, X', hpost, hsteps⟩ | ⟨q, B, X', hpost, hsteps⟩
  · exact Or.inl ⟨v, vm₁, B, X₁.warmed, X', hpost, fun target h => hstep₁ _ fun acts => by rw [doInvoke_state]; exact hsteps.trans h⟩
  · exact Or.inr ⟨q, vm₁, B, X₁.warmed, X', hpost, hstep₁ _ fun acts => by rw [doInvoke_state]; exact hsteps⟩
theorem vx_callVW (X : Stand p l e R s m args below meth c T locs cells slots) (hexec : p.tables.exec = Jvm.exec) {own C : String} {index : Nat} {y : MethodName} {bytes : ByteArray} {maxL : Nat} {ret : Option FieldType} {hh : List (Nat × Nat × Nat × Nat)}
    (hown : s.vm.findClass own = some m.cls) (hlink : (Cond.methodLink own index y).before args s = true) (hinst : (Cond.instanceMethod y).before args s = true) (hsel : (Cond.selects C y y).before args s = true)
    (hcode : (Cond.codeWith y bytes maxL ret hh).before args s = true) (hy : y.cls ≠ "java/lang/invoke/MethodHandle" ∧ y.cls ≠ "java/lang/invoke/VarHandle")
    {W9 : Nat} {Pre : Pt → Array Value → Prop} {Post : Pt → Array Value → Option Value → Pt → Prop} (hK : Back l R p e below s args y 3 W9 Pre Post)
    {b : Addr} {cellB : Cell} (hcell : T.heap[b]? = some cellB) (hobj : cellB.vm.isStatics = false) (hcls : s.vm.findClass C = some cellB.cls)
    {g : JFrame} (hg : g.method = m) (hsize : g.locals.size = c.maxLocals) {argsL rest : List Value} (hlen : ∀ sig, parseMethodDescriptor y.desc = some sig → argsL.length = sig.parameters.length)
    (hstack : g.stack = argsL.reverse ++ .ref b :: rest) (hW : 2 * g.monitorRoom + (rest.map fun v => v.category).sum ≤ W9) (hdg : decode c.code g.pc = .ok (.invokevirtual index, 3))
    (hpre : ∀ vm₁, s.WarmedH vm₁ → Pre ⟨T.setVm vm₁, locs, cells, slots⟩ (Value.ref b :: argsL).toArray) :
    ∃ (v : Option Value) (vm₁ : Vm) (B : Pt), s.WarmedH vm₁ ∧ Stand p l e R s m args below meth c B.U B.locs B.cells B.slots ∧ Post ⟨T.setVm vm₁, locs, cells, slots⟩ (Value.ref b :: argsL).toArray v B ∧
      ∀ target, Steps p.tables e below (B.U.setTop { g with pc := g.pc + 3, stack := v.toList ++ rest }) target → Steps p.tables e below (T.setTop g) target := by
  obtain ⟨mk, methM, hnamed, hmethM, hstM, habM⟩ := Cond.instanceMethod_spec hinst
  obtain ⟨m8, methM', cM, hn8, hmethM', -, -, -, -, -, -, hsigM⟩ := Cond.codeWith_spec hcode
  cases Option.some.inj (hn8.symm.trans hnamed)
  cases hmethM.symm.trans hmethM'
  obtain ⟨c2, r2, m2, q1, q2, q3, q4, kP, hkP, hkPi⟩ := Cond.selects_spec hsel
  cases hcls.symm.trans q1
  cases (State.methodFound?_of_named hnamed hy).symm.trans q2
  cases hnamed.symm.trans q3
  have hselP : selectMethod e.platform s.vm cellB.cls mk = .method mk := by rw [Launch.admits_selectMethod X.admits]; exact q4
  obtain ⟨vm₁, X₁, hstep₁⟩ := X.invokevirtual hexec hown hlink hnamed hmethM hstM hkP hkPi hy (a := b) (cell := cellB) hcell
    (fun z h => by rw [h] at hobj; cases hobj) hselP hmethM habM hkP hkPi (g := g) hg (argsL := argsL) (rest := rest) (hlen _ hsigM) hstack hdg
  obtain ⟨v, B, X', hpost, hsteps⟩ := hK m meth c ⟨T.setVm vm₁, locs, cells, slots⟩ { g with stack := rest } (.invokevirtual index) mk (Value.ref b :: argsL).toArray X₁ hg hsize hdg hW (X₁.named hnamed) (hpre vm₁ X₁.warmed)
  exact ⟨v, vm₁, B, X₁.warmed, X', hpost, fun target h => hstep₁ _ fun acts => by rw [doInvoke_state]; exact hsteps.trans h⟩
abbrev vx_CVW (R : Room) (s : State) (args : Array Value) (own C : String) (index : Nat) (y : MethodName) (bytes : ByteArray) (maxL : Nat) (ret : Option FieldType) (hh : List (Nat × Nat × Nat × Nat)) (ws : List Cond) (rm : Room) (mc ms n : Nat) : Prop :=
  (rm.cells = mc ∧ rm.slots = ms ∧ rm.frames + 1 ≤ R.frames ∧ 8 + (maxL + 11) + rm.locals ≤ R.locals ∧ (∀ w ∈ ws, ∀ (a' : Array Value) (U : State), s.WarmedH U.vm → w.before a' U = true) ∧ Cond.codeWith y bytes maxL ret hh ∈ ws) ∧
  (Cond.codeWith y bytes maxL ret hh).before args s = true ∧ (Cond.initialized y.cls).before args s = true ∧ (y.cls ≠ "java/lang/invoke/MethodHandle" ∧ y.cls ≠ "java/lang/invoke/VarHandle") ∧
  (∀ sig, parseMethodDescriptor y.desc = some sig → n = sig.parameters.length) ∧ (Cond.methodLink own index y).before args s = true ∧ (Cond.instanceMethod y).before args s = true ∧ (Cond.selects C y y).before args s = true
theorem vx_cwVW {own C : String} {index maxL mc ms : Nat} {y : MethodName} {bytes : ByteArray} {ret : Option FieldType} {hh : List (Nat × Nat × Nat × Nat)} {Ts ws ws' : List Cond} {rm : Room} (n : Nat) (ht : ∀ w ∈ Ts, w.before args s = true) (hT : GoodIn Ts (wsV own index C y ws)) (hw : ws = Cond.codeWith y bytes maxL ret hh :: ws') (hrc : rm.cells = mc) (hrs : rm.slots = ms)
    (hd : y.cls = C ∧ y.cls ≠ "java/lang/invoke/MethodHandle" ∧ y.cls ≠ "java/lang/invoke/VarHandle" ∧ (parseMethodDescriptor y.desc).map (fun d => d.parameters.length) = some n) (hR : rm.frames + 1 ≤ R.frames ∧ 8 + (maxL + 11) + rm.locals ≤ R.locals) :
    vx_CVW R s args own C index y bytes maxL ret hh ws rm mc ms n := by
  obtain ⟨hC, hd⟩ := hd
  subst hC
  have ok : ∀ w ∈ wsV own index y.cls y ws, w.before args s = true := fun w h => ht w (hT w h).1
  have hG : GoodIn Ts ws := fun w h => hT w (by unfold wsV; exact List.mem_append_right _ h)
  have hc : Cond.codeWith y bytes maxL ret hh ∈ ws := by rw [hw]; exact List.mem_cons_self
  refine ⟨⟨hrc, hrs, hR.1, hR.2, pay_in ht hG, hc⟩, ht _ (hG _ hc).1, ok _ (by simp [wsV]), ⟨hd.1, hd.2.1⟩, fun sig h => ?_, ok _ (by simp [wsV]), ok _ (by simp [wsV]), ok _ (by simp [wsV])⟩
  have h2 := hd.2.2
  rw [h] at h2
  exact (Option.some.inj h2).symm
theorem vx_runVW {y : MethodName} {bytes cc : ByteArray} {maxL nL mc ms n index : Nat} {ret : Option FieldType} {hh : List (Nat × Nat × Nat × Nat)} {ws : List Cond} {rm : Room} {Pc : Array Value → State → Prop} {Qc : Array Value → State → Outcome → State → Prop} {free : Addr → Prop} {Ts : List Cond} {own C : String} {b : Addr} {As rest : List Value} {g : JFrame}
    (S : CallFix p m c cc nL s args Ts own) (hM : Met l y ws rm Pc Qc mc ms free) (cw : vx_CVW R s args own C index y bytes maxL ret hh ws rm mc ms n) (hp : PreV s H C b Pc As)
    (hg : g.method = m) (hn : As.length = n) (hsize : g.locals.size = nL) (hstack : g.stack = As.reverse ++ .ref b :: rest) (hW : 2 * g.monitorRoom + (rest.map fun v => v.category).sum ≤ 8) (hdg : decode cc g.pc = .ok (.invokevirtual index, 3)) (hf : cells + mc ≤ R.cells ∧ slots + ms ≤ R.slots) :
    va_Run p l e R s m args below meth c H locs cells slots mc ms g rest (Qc (Value.ref b :: As).toArray) free := by
  obtain ⟨⟨hrc, hrs, hfr, hlo, hws, hcw⟩, hcode, hini, hy, hlen, hl, hin, hse⟩ := cw
  have hK : Back l R p e below s args y 3 8 (PreOf R mc ms Pc) (PostOf Qc mc ms free) := va_backW (hh := hh) (bytes := bytes) (maxL := maxL) (ret := ret) hM hp.1 hrc hrs hfr hlo hws hcw (fun a' U hW => word_at hW (Or.inl (by first | rfl | simp [Cond.onTables, Cond.keeps, Cond.steady])) hini)
  obtain ⟨hx, hb, hml, ho, -⟩ := S
  obtain ⟨-, ⟨cellB, hcB, hoB, hclB⟩, hPc⟩ := hp
  intro T hT X
  obtain ⟨v, vm₁, ⟨U', l2, c2, s2⟩, hW₁, X', ⟨g', mk, t, L, e1, e2, hq, h1, hL, h2, h3⟩, st⟩ := vx_callVW X hx (C := C) (hh := hh) (bytes := bytes) (maxL := maxL) (ret := ret) ho hl hin hse hcode hy hK (by rw [hT]; exact hcB) hoB hclB hg (hsize.trans hml.symm) (argsL := As) (rest := rest) (fun sig h => hn.trans (hlen sig h)) hstack hW (by rw [hb]; exact hdg)
    (fun vm₁ hW₁ => ⟨hf.1, hf.2, hPc (T.setVm vm₁) hT hW₁⟩)
  dsimp only [Pt.U, Pt.locs, Pt.cells, Pt.slots] at X' e1 e2 h1 h2 h3 st
  subst h1; subst h2; subst h3
  exact ⟨v, (T.setVm vm₁).calling g' mk (Value.ref b :: As).toArray, t, U', L, hT, X', hL, e1, e2, hq, st⟩
section
variable {y : MethodName} {bytes cc : ByteArray} {maxL nL mc ms n index : Nat} {ret : Option FieldType} {ws : List Cond} {rm : Room} {Pc : Array Value → State → Prop} {Qc : Array Value → State → Outcome → State → Prop} {XC : String → State → State → Prop} {free : Addr → Prop} {Ts : List Cond} {own C : String} {b : Addr} {As rest : List Value} {g : JFrame}
theorem vx_runVX {hh : List (Nat × Nat × Nat × Nat)} (S : CallFix p m c cc nL s args Ts own) (hM : vx_Met l y ws rm Pc Qc XC mc ms free) (cw : vx_CVW R s args own C index y bytes maxL ret hh ws rm mc ms n) (hp : PreV s H C b Pc As)
    (hg : g.method = m) (hn : As.length = n) (hsize : g.locals.size = nL) (hstack : g.stack = As.reverse ++ .ref b :: rest) (hW : 2 * g.monitorRoom + (rest.map fun v => v.category).sum ≤ 8) (hdg : decode cc g.pc = .ok (.invokevirtual index, 3)) (hf : cells + mc ≤ R.cells ∧ slots + ms ≤ R.slots) :
    vx_Run p l e R s m args below meth c H locs cells slots mc ms g rest (Qc (Value.ref b :: As).toArray) XC free := by
  obtain ⟨⟨hrc, hrs, hfr, hlo, hws, hcw⟩, hcode, hini, hy, hlen, hl, hin, hse⟩ := cw
  have hK : vx_Back l R p e below s args y 3 8 (PreOf R mc ms Pc) (PostOf Qc mc ms free) (vx_Post XC mc ms free) := vx_backW (hh := hh) (bytes := bytes) (maxL := maxL) (ret := ret) hM hp.1 hrc hrs hfr hlo hws hcw (fun a' U hW => word_at hW (Or.inl (by first | rfl | simp [Cond.onTables, Cond.keeps, Cond.steady])) hini)
  obtain ⟨hx, hb, hml, ho, -⟩ := S
  obtain ⟨-, ⟨cellB, hcB, hoB, hclB⟩, hPc⟩ := hp
  intro T hT X
  rcases vx_callVX X hx (C := C) (hh := hh) (bytes := bytes) (maxL := maxL) (ret := ret) ho hl hin hse hcode hy hK (by rw [hT]; exact hcB) hoB hclB hg (hsize.trans hml.symm) (argsL := As) (rest := rest) (fun sig h => hn.trans (hlen sig h)) hstack hW (by rw [hb]; exact hdg)
    (fun vm₁ hW₁ => ⟨hf.1, hf.2, hPc (T.setVm vm₁) hT hW₁⟩) with ⟨v, vm₁, ⟨U', l2, c2, s2⟩, hW₁, X', ⟨g', mk, t, L, e1, e2, hq, h1, hL, h2, h3⟩, st⟩ | ⟨q, vm₁, ⟨U', l2, c2, s2⟩, hW₁, X', ⟨g', mk, t, L, E, ce, e1, e2, hq, hce, hcv, hcl, h1, hL, h2, h3⟩, st⟩
  · dsimp only [Pt.U, Pt.locs, Pt.cells, Pt.slots] at X' e1 e2 h1 h2 h3 st
    subst h1; subst h2; subst h3
    exact Or.inl ⟨v, (T.setVm vm₁).calling g' mk (Value.ref b :: As).toArray, t, U', L, hT, X', hL, e1, e2, hq, st⟩
  · dsimp only [Pt.U, Pt.locs, Pt.cells, Pt.slots] at X' e1 e2 h1 h2 h3 st hcl
    subst h1; subst h2; subst h3
    exact Or.inr ⟨q, (T.setVm vm₁).calling g' mk (Value.ref b :: As).toArray, t, U', L, E, ce, hT, X', hL, e1, e2, hq, hce, hcv, vx_cls hW₁ hcl, st⟩
theorem vx_runSX {hh : List (Nat × Nat × Nat × Nat)} (S : CallFix p m c cc nL s args Ts own) (hM : vx_Met l y ws rm Pc Qc XC mc ms free) (cw : vx_CSW R s args own index y bytes maxL ret hh ws rm mc ms n) (hp : PreS s H Pc As)
    (hg : g.method = m) (hn : As.length = n) (hsize : g.locals.size = nL) (hstack : g.stack = As.reverse ++ rest) (hW : 2 * g.monitorRoom + (rest.map fun v => v.category).sum ≤ 8) (hdg : decode cc g.pc = .ok (.invokestatic index, 3)) (hf : cells + mc ≤ R.cells ∧ slots + ms ≤ R.slots) :
    vx_Run p l e R s m args below meth c H locs cells slots mc ms g rest (Qc As.toArray) XC free := by
  obtain ⟨⟨hrc, hrs, hfr, hlo, hws, hcw⟩, hcode, hini, hy, hlen, hl, hstt⟩ := cw
  have hK : vx_Back l R p e below s args y 3 8 (PreOf R mc ms Pc) (PostOf Qc mc ms free) (vx_Post XC mc ms free) := vx_backW (hh := hh) (bytes := bytes) (maxL := maxL) (ret := ret) hM hp.1 hrc hrs hfr hlo hws hcw (fun a' U hW => word_at hW (Or.inl (by first | rfl | simp [Cond.onTables, Cond.keeps, Cond.steady])) hini)
  obtain ⟨hx, hb, hml, ho, -⟩ := S
  intro T hT X
  rcases vx_callSX X hx (hh := hh) (bytes := bytes) (maxL := maxL) (ret := ret) ho hl hstt hini hcode hy hK hg (hsize.trans hml.symm) (argsL := As) (rest := rest) (fun sig h => hn.trans (hlen sig h)) hstack hW (by rw [hb]; exact hdg)
    (fun vm₁ hW₁ => ⟨hf.1, hf.2, hp.2 (T.setVm vm₁) hT hW₁⟩) with ⟨v, vm₁, ⟨U', l2, c2, s2⟩, hW₁, X', ⟨g', mk, t, L, e1, e2, hq, h1, hL, h2, h3⟩, st⟩ | ⟨q, vm₁, ⟨U', l2, c2, s2⟩, hW₁, X', ⟨g', mk, t, L, E, ce, e1, e2, hq, hce, hcv, hcl, h1, hL, h2, h3⟩, st⟩
  · dsimp only [Pt.U, Pt.locs, Pt.cells, Pt.slots] at X' e1 e2 h1 h2 h3 st
    subst h1; subst h2; subst h3
    exact Or.inl ⟨v, (T.setVm vm₁).calling g' mk As.toArray, t, U', L, hT, X', hL, e1, e2, hq, st⟩
  · dsimp only [Pt.U, Pt.locs, Pt.cells, Pt.slots] at X' e1 e2 h1 h2 h3 st hcl
    subst h1; subst h2; subst h3
    exact Or.inr ⟨q, (T.setVm vm₁).calling g' mk As.toArray, t, U', L, E, ce, hT, X', hL, e1, e2, hq, hce, hcv, vx_cls hW₁ hcl, st⟩
end
end VXH
theorem vx_ofWH {l : Launch} {y : MethodName} {ws ws' : List Cond} {rm : Room} {Pc : Array Value → State → Prop} {Qc : Array Value → State → Outcome → State → Prop} {XC : String → State → State → Prop} {mc ms : Nat} {free : Addr → Prop} {cc : ByteArray} {maxL : Nat} {ret : Option FieldType} {hh : List (Nat × Nat × Nat × Nat)}
    (hy : plainName y.cls = true) (hw : ws = Cond.codeWith y cc maxL ret hh :: ws')
    (body : ∀ p e s m args below meth c s₁, BodyLoose p l y (headSpec ws rm) cc maxL ret e s m args below meth c s₁ → c.maxLocals = maxL → Pc args s →
      W p l e (headSpec ws rm).room s m args below meth c s.heap [] 0 0 (vx_MQ below Qc XC args s mc ms free) (entryFrame m args maxL)) : vx_Met l y ws rm Pc Qc XC mc ms free := by
  refine MetFree.of_bodyS (code := cc) (maxLocals := maxL) (ret := ret) hy ?_ ?_
  · intro args s m h hn
    obtain ⟨m9, meth, c, hn9, h1, h2, h3, h4, -, h5, h6, -⟩ := Cond.codeWith_spec (atoms_spec (ws := ws) h _ (by rw [hw]; exact List.mem_cons_self))
    cases hn.symm.trans hn9
    exact ⟨meth, c, h1, h2, h3, h4, h5, h6⟩
  · intro p e s m args below meth c s₁ B hml hP _
    have hh0 : s₁.heap = s.heap := by rw [B.state]; rfl
    obtain ⟨t, a1, o, b1, b2, b3⟩ := body p e s m args below meth c s₁ B hml hP s₁ hh0 (Stand.of_body B)
    exact ⟨t, o, a1, b1, b2, b3⟩
/-! ===== END ===== -/
end
section
def RX0 : String := "FrameCommutator$Channel"
def TX0 : u_T := fun k => match k with
  | 0 => ("FrameCommutator$Channel", "bits", "[I", true)
  | _ => ("FrameCommutator$Channel", "size", "I", false)
def tyX0 : Nat → FieldType := fun k => match k with
  | 0 => .array .int
  | _ => .int
theorem nmX0 : ∀ a, a < 2 → ∀ b, b < 2 → a ≠ b → (TX0 a).2.1 ≠ (TX0 b).2.1 := by decide +kernel
theorem tyX0_ok : ∀ k, k < 2 → parseFieldDescriptor (TX0 k).2.2.1 = some (tyX0 k) := by decide +kernel
abbrev cX0_init : ByteArray := prog_2_method_1_code
def yX0_init : MethodName := ⟨RX0, "<init>", "()V"⟩
abbrev cX0_copyFrom : ByteArray := prog_2_method_2_code
def yX0_copyFrom : MethodName := ⟨RX0, "copyFrom", "(LFrameCommutator$Channel;)V"⟩
abbrev cX0_appendWord : ByteArray := prog_2_method_3_code
def yX0_appendWord : MethodName := ⟨RX0, "appendWord", "(I)V"⟩
abbrev cX0_flip : ByteArray := prog_2_method_4_code
def yX0_flip : MethodName := ⟨RX0, "flip", "(I)V"⟩
abbrev cX0_remove : ByteArray := prog_2_method_5_code
def yX0_remove : MethodName := ⟨RX0, "remove", "(I)V"⟩
abbrev cX0_insert : ByteArray := prog_2_method_6_code
def yX0_insert : MethodName := ⟨RX0, "insert", "(II)V"⟩
abbrev cX0_dropFirst : ByteArray := prog_2_method_7_code
def yX0_dropFirst : MethodName := ⟨RX0, "dropFirst", "(I)V"⟩
abbrev cX0_mixInto : ByteArray := prog_2_method_8_code
def yX0_mixInto : MethodName := ⟨RX0, "mixInto", "(J)J"⟩
def RX1 : String := "FrameCommutator$Layout"
def TX1 : u_T := fun k => match k with
  | 0 => ("FrameCommutator$Layout", "words", "I", false)
  | 1 => ("FrameCommutator$Layout", "minors", "I", false)
  | 2 => ("FrameCommutator$Layout", "planned", "Z", false)
  | 3 => ("FrameCommutator$Layout", "wordsTaken", "I", false)
  | _ => ("FrameCommutator$Layout", "owners", "[I", true)
def tyX1 : Nat → FieldType := fun k => match k with
  | 0 => .int
  | 1 => .int
  | 2 => .boolean
  | 3 => .int
  | _ => .array .int
theorem nmX1 : ∀ a, a < 5 → ∀ b, b < 5 → a ≠ b → (TX1 a).2.1 ≠ (TX1 b).2.1 := by decide +kernel
theorem tyX1_ok : ∀ k, k < 5 → parseFieldDescriptor (TX1 k).2.2.1 = some (tyX1 k) := by decide +kernel
abbrev cX1_init : ByteArray := prog_3_method_1_code
def yX1_init : MethodName := ⟨RX1, "<init>", "()V"⟩
abbrev cX1_copyFrom : ByteArray := prog_3_method_2_code
def yX1_copyFrom : MethodName := ⟨RX1, "copyFrom", "(LFrameCommutator$Layout;)V"⟩
abbrev cX1_freeAll : ByteArray := prog_3_method_3_code
def yX1_freeAll : MethodName := ⟨RX1, "freeAll", "()V"⟩
abbrev cX1_columns : ByteArray := prog_3_method_4_code
def yX1_columns : MethodName := ⟨RX1, "columns", "()I"⟩
abbrev cX1_ownerAt : ByteArray := prog_3_method_5_code
def yX1_ownerAt : MethodName := ⟨RX1, "ownerAt", "(II)I"⟩
abbrev cX1_giveWord : ByteArray := prog_3_method_6_code
def yX1_giveWord : MethodName := ⟨RX1, "giveWord", "(III)V"⟩
abbrev cX1_placeOf : ByteArray := prog_3_method_7_code
def yX1_placeOf : MethodName := ⟨RX1, "placeOf", "(II)I"⟩
abbrev cX1_place : ByteArray := prog_3_method_8_code
def yX1_place : MethodName := ⟨RX1, "place", "(II)Z"⟩
abbrev cX1_placeOften : ByteArray := prog_3_method_9_code
def yX1_placeOften : MethodName := ⟨RX1, "placeOften", "(II)Z"⟩
abbrev cX1_placeSeldom : ByteArray := prog_3_method_10_code
def yX1_placeSeldom : MethodName := ⟨RX1, "placeSeldom", "(II)Z"⟩
abbrev cX1_areFree : ByteArray := prog_3_method_11_code
def yX1_areFree : MethodName := ⟨RX1, "areFree", "(III)Z"⟩
abbrev cX1_minorsOf : ByteArray := prog_3_method_12_code
def yX1_minorsOf : MethodName := ⟨RX1, "minorsOf", "(I)I"⟩
abbrev cX1_isFree : ByteArray := prog_3_method_13_code
def yX1_isFree : MethodName := ⟨RX1, "isFree", "(III)Z"⟩
abbrev cX1_giveColumn : ByteArray := prog_3_method_14_code
def yX1_giveColumn : MethodName := ⟨RX1, "giveColumn", "(IIII)V"⟩
abbrev cX1_mixInto : ByteArray := prog_3_method_15_code
def yX1_mixInto : MethodName := ⟨RX1, "mixInto", "(J)J"⟩
def RX2 : String := "FrameCommutator$Parameter"
def TX2 : u_T := fun k => match k with
  | 0 => ("FrameCommutator$Parameter", "rate", "I", false)
  | 1 => ("FrameCommutator$Parameter", "value", "I", false)
  | 2 => ("FrameCommutator$Parameter", "latest", "I", false)
  | 3 => ("FrameCommutator$Parameter", "sampleCount", "I", false)
  | 4 => ("FrameCommutator$Parameter", "lows", "[I", true)
  | 5 => ("FrameCommutator$Parameter", "highs", "[I", true)
  | 6 => ("FrameCommutator$Parameter", "persistence", "I", false)
  | 7 => ("FrameCommutator$Parameter", "alarmed", "Z", false)
  | 8 => ("FrameCommutator$Parameter", "outInRow", "I", false)
  | _ => ("FrameCommutator$Parameter", "alarmCount", "I", false)
def tyX2 : Nat → FieldType := fun k => match k with
  | 0 => .int
  | 1 => .int
  | 2 => .int
  | 3 => .int
  | 4 => .array .int
  | 5 => .array .int
  | 6 => .int
  | 7 => .boolean
  | 8 => .int
  | _ => .int
theorem nmX2 : ∀ a, a < 10 → ∀ b, b < 10 → a ≠ b → (TX2 a).2.1 ≠ (TX2 b).2.1 := by decide +kernel
theorem tyX2_ok : ∀ k, k < 10 → parseFieldDescriptor (TX2 k).2.2.1 = some (tyX2 k) := by decide +kernel
abbrev cX2_init : ByteArray := prog_4_method_1_code
def yX2_init : MethodName := ⟨RX2, "<init>", "()V"⟩
abbrev cX2_begin : ByteArray := prog_4_method_2_code
def yX2_begin : MethodName := ⟨RX2, "begin", "(I)V"⟩
abbrev cX2_copyFrom : ByteArray := prog_4_method_3_code
def yX2_copyFrom : MethodName := ⟨RX2, "copyFrom", "(LFrameCommutator$Parameter;)V"⟩
abbrev cX2_samplesIn : ByteArray := prog_4_method_4_code
def yX2_samplesIn : MethodName := ⟨RX2, "samplesIn", "(I)I"⟩
abbrev cX2_takeSample : ByteArray := prog_4_method_5_code
def yX2_takeSample : MethodName := ⟨RX2, "takeSample", "(II)V"⟩
abbrev cX2_isWithinLimits : ByteArray := prog_4_method_6_code
def yX2_isWithinLimits : MethodName := ⟨RX2, "isWithinLimits", "(II)Z"⟩
abbrev cX2_mixInto : ByteArray := prog_4_method_7_code
def yX2_mixInto : MethodName := ⟨RX2, "mixInto", "(J)J"⟩
def RX3 : String := "FrameCommutator$Receiver"
def TX3 : u_T := fun k => match k with
  | 0 => ("FrameCommutator$Receiver", "condition", "I", false)
  | 1 => ("FrameCommutator$Receiver", "missesInRow", "I", false)
  | 2 => ("FrameCommutator$Receiver", "counts", "[I", true)
  | 3 => ("FrameCommutator$Receiver", "frame", "[I", true)
  | 4 => ("FrameCommutator$Receiver", "position", "I", false)
  | _ => ("FrameCommutator$Receiver", "history", "I", false)
def tyX3 : Nat → FieldType := fun k => match k with
  | 0 => .int
  | 1 => .int
  | 2 => .array .int
  | 3 => .array .int
  | 4 => .int
  | _ => .int
theorem nmX3 : ∀ a, a < 6 → ∀ b, b < 6 → a ≠ b → (TX3 a).2.1 ≠ (TX3 b).2.1 := by decide +kernel
theorem tyX3_ok : ∀ k, k < 6 → parseFieldDescriptor (TX3 k).2.2.1 = some (tyX3 k) := by decide +kernel
abbrev cX3_init : ByteArray := prog_5_method_1_code
def yX3_init : MethodName := ⟨RX3, "<init>", "()V"⟩
abbrev cX3_copyFrom : ByteArray := prog_5_method_2_code
def yX3_copyFrom : MethodName := ⟨RX3, "copyFrom", "(LFrameCommutator$Receiver;)V"⟩
abbrev cX3_restart : ByteArray := prog_5_method_3_code
def yX3_restart : MethodName := ⟨RX3, "restart", "()V"⟩
abbrev cX3_takeBit : ByteArray := prog_5_method_4_code
def yX3_takeBit : MethodName := ⟨RX3, "takeBit", "(II)Z"⟩
abbrev cX3_endsWithSync : ByteArray := prog_5_method_5_code
def yX3_endsWithSync : MethodName := ⟨RX3, "endsWithSync", "(I)Z"⟩
abbrev cX3_lookForSync : ByteArray := prog_5_method_6_code
def yX3_lookForSync : MethodName := ⟨RX3, "lookForSync", "()V"⟩
abbrev cX3_expectSync : ByteArray := prog_5_method_7_code
def yX3_expectSync : MethodName := ⟨RX3, "expectSync", "(I)V"⟩
abbrev cX3_expectLateSync : ByteArray := prog_5_method_8_code
def yX3_expectLateSync : MethodName := ⟨RX3, "expectLateSync", "(I)V"⟩
abbrev cX3_continueAfterSync : ByteArray := prog_5_method_9_code
def yX3_continueAfterSync : MethodName := ⟨RX3, "continueAfterSync", "()V"⟩
abbrev cX3_beginFrameWith : ByteArray := prog_5_method_10_code
def yX3_beginFrameWith : MethodName := ⟨RX3, "beginFrameWith", "(I)V"⟩
abbrev cX3_storeBit : ByteArray := prog_5_method_11_code
def yX3_storeBit : MethodName := ⟨RX3, "storeBit", "(I)V"⟩
abbrev cX3_mixInto : ByteArray := prog_5_method_12_code
def yX3_mixInto : MethodName := ⟨RX3, "mixInto", "(J)J"⟩
def RX4 : String := "FrameCommutator$State"
def TX4 : u_T := fun k => match k with
  | 0 => ("FrameCommutator$State", "layout", "LFrameCommutator$Layout;", true)
  | 1 => ("FrameCommutator$State", "parameters", "[LFrameCommutator$Parameter;", true)
  | 2 => ("FrameCommutator$State", "parameterCount", "I", false)
  | 3 => ("FrameCommutator$State", "nextMinor", "I", false)
  | 4 => ("FrameCommutator$State", "channel", "LFrameCommutator$Channel;", true)
  | 5 => ("FrameCommutator$State", "receiver", "LFrameCommutator$Receiver;", true)
  | _ => ("FrameCommutator$State", "mode", "I", false)
def tyX4 : Nat → FieldType := fun k => match k with
  | 0 => .object "FrameCommutator$Layout"
  | 1 => .array (.object "FrameCommutator$Parameter")
  | 2 => .int
  | 3 => .int
  | 4 => .object "FrameCommutator$Channel"
  | 5 => .object "FrameCommutator$Receiver"
  | _ => .int
theorem nmX4 : ∀ a, a < 7 → ∀ b, b < 7 → a ≠ b → (TX4 a).2.1 ≠ (TX4 b).2.1 := by decide +kernel
theorem tyX4_ok : ∀ k, k < 7 → parseFieldDescriptor (TX4 k).2.2.1 = some (tyX4 k) := by decide +kernel
abbrev cX4_init : ByteArray := prog_6_method_1_code
def yX4_init : MethodName := ⟨RX4, "<init>", "()V"⟩
abbrev cX4_copyFrom : ByteArray := prog_6_method_2_code
def yX4_copyFrom : MethodName := ⟨RX4, "copyFrom", "(LFrameCommutator$State;)V"⟩
abbrev cX4_restartLink : ByteArray := prog_6_method_3_code
def yX4_restartLink : MethodName := ⟨RX4, "restartLink", "()V"⟩
abbrev cX4_sendMinor : ByteArray := prog_6_method_4_code
def yX4_sendMinor : MethodName := ⟨RX4, "sendMinor", "()V"⟩
abbrev cX4_isParameter : ByteArray := prog_6_method_5_code
def yX4_isParameter : MethodName := ⟨RX4, "isParameter", "(I)Z"⟩
abbrev cX4_takeBits : ByteArray := prog_6_method_6_code
def yX4_takeBits : MethodName := ⟨RX4, "takeBits", "(I)V"⟩
abbrev cX4_deliver : ByteArray := prog_6_method_7_code
def yX4_deliver : MethodName := ⟨RX4, "deliver", "()V"⟩
abbrev cX4_mixInto : ByteArray := prog_6_method_8_code
def yX4_mixInto : MethodName := ⟨RX4, "mixInto", "(J)J"⟩
def RX5 : String := "FrameCommutator"
def TX5 : u_T := fun k => match k with
  | 0 => ("FrameCommutator", "now", "LFrameCommutator$State;", false)
  | 1 => ("FrameCommutator", "saved", "[LFrameCommutator$State;", true)
  | 2 => ("FrameCommutator", "savedCount", "I", false)
  | 3 => ("FrameCommutator", "newest", "I", false)
  | _ => ("FrameCommutator", "draft", "LFrameCommutator$Layout;", true)
def tyX5 : Nat → FieldType := fun k => match k with
  | 0 => .object "FrameCommutator$State"
  | 1 => .array (.object "FrameCommutator$State")
  | 2 => .int
  | 3 => .int
  | _ => .object "FrameCommutator$Layout"
theorem nmX5 : ∀ a, a < 5 → ∀ b, b < 5 → a ≠ b → (TX5 a).2.1 ≠ (TX5 b).2.1 := by decide +kernel
theorem tyX5_ok : ∀ k, k < 5 → parseFieldDescriptor (TX5 k).2.2.1 = some (tyX5 k) := by decide +kernel
abbrev cX5_init : ByteArray := prog_1_method_1_code
def yX5_init : MethodName := ⟨RX5, "<init>", "()V"⟩
abbrev cX5_setFrame : ByteArray := prog_1_method_2_code
def yX5_setFrame : MethodName := ⟨RX5, "setFrame", "(II)I"⟩
abbrev cX5_addParameter : ByteArray := prog_1_method_3_code
def yX5_addParameter : MethodName := ⟨RX5, "addParameter", "(I)I"⟩
abbrev cX5_plan : ByteArray := prog_1_method_4_code
def yX5_plan : MethodName := ⟨RX5, "plan", "()I"⟩
abbrev cX5_samplesPerMajor : ByteArray := prog_1_method_5_code
def yX5_samplesPerMajor : MethodName := ⟨RX5, "samplesPerMajor", "(I)I"⟩
abbrev cX5_slot : ByteArray := prog_1_method_6_code
def yX5_slot : MethodName := ⟨RX5, "slot", "(III)I"⟩
abbrev cX5_ownerOf : ByteArray := prog_1_method_7_code
def yX5_ownerOf : MethodName := ⟨RX5, "ownerOf", "(II)I"⟩
abbrev cX5_efficiency : ByteArray := prog_1_method_8_code
def yX5_efficiency : MethodName := ⟨RX5, "efficiency", "()D"⟩
abbrev cX5_setValue : ByteArray := prog_1_method_9_code
def yX5_setValue : MethodName := ⟨RX5, "setValue", "(II)I"⟩
abbrev cX5_send : ByteArray := prog_1_method_10_code
def yX5_send : MethodName := ⟨RX5, "send", "(I)I"⟩
abbrev cX5_pending : ByteArray := prog_1_method_11_code
def yX5_pending : MethodName := ⟨RX5, "pending", "()I"⟩
abbrev cX5_bit : ByteArray := prog_1_method_12_code
def yX5_bit : MethodName := ⟨RX5, "bit", "(I)I"⟩
abbrev cX5_disturb : ByteArray := prog_1_method_13_code
def yX5_disturb : MethodName := ⟨RX5, "disturb", "(II)I"⟩
abbrev cX5_receive : ByteArray := prog_1_method_14_code
def yX5_receive : MethodName := ⟨RX5, "receive", "(I)I"⟩
abbrev cX5_receiverState : ByteArray := prog_1_method_15_code
def yX5_receiverState : MethodName := ⟨RX5, "receiverState", "()I"⟩
abbrev cX5_received : ByteArray := prog_1_method_16_code
def yX5_received : MethodName := ⟨RX5, "received", "(I)I"⟩
abbrev cX5_sample : ByteArray := prog_1_method_17_code
def yX5_sample : MethodName := ⟨RX5, "sample", "(I)I"⟩
abbrev cX5_samples : ByteArray := prog_1_method_18_code
def yX5_samples : MethodName := ⟨RX5, "samples", "(I)I"⟩
abbrev cX5_setMode : ByteArray := prog_1_method_19_code
def yX5_setMode : MethodName := ⟨RX5, "setMode", "(I)I"⟩
abbrev cX5_setLimits : ByteArray := prog_1_method_20_code
def yX5_setLimits : MethodName := ⟨RX5, "setLimits", "(IIII)I"⟩
abbrev cX5_setPersistence : ByteArray := prog_1_method_21_code
def yX5_setPersistence : MethodName := ⟨RX5, "setPersistence", "(II)I"⟩
abbrev cX5_hasAlarm : ByteArray := prog_1_method_22_code
def yX5_hasAlarm : MethodName := ⟨RX5, "hasAlarm", "(I)Z"⟩
abbrev cX5_alarms : ByteArray := prog_1_method_23_code
def yX5_alarms : MethodName := ⟨RX5, "alarms", "(I)I"⟩
abbrev cX5_undo : ByteArray := prog_1_method_24_code
def yX5_undo : MethodName := ⟨RX5, "undo", "()I"⟩
abbrev cX5_digest : ByteArray := prog_1_method_25_code
def yX5_digest : MethodName := ⟨RX5, "digest", "()J"⟩
abbrev cX5_requireArgument : ByteArray := prog_1_method_26_code
def yX5_requireArgument : MethodName := ⟨RX5, "requireArgument", "(Z)V"⟩
abbrev cX5_requireState : ByteArray := prog_1_method_27_code
def yX5_requireState : MethodName := ⟨RX5, "requireState", "(Z)V"⟩
abbrev cX5_requireIndex : ByteArray := prog_1_method_28_code
def yX5_requireIndex : MethodName := ⟨RX5, "requireIndex", "(II)V"⟩
abbrev cX5_parameterAt : ByteArray := prog_1_method_29_code
def yX5_parameterAt : MethodName := ⟨RX5, "parameterAt", "(I)LFrameCommutator$Parameter;"⟩
abbrev cX5_save : ByteArray := prog_1_method_30_code
def yX5_save : MethodName := ⟨RX5, "save", "()V"⟩
abbrev cX5_placeAll : ByteArray := prog_1_method_31_code
def yX5_placeAll : MethodName := ⟨RX5, "placeAll", "()I"⟩
abbrev cX5_mix : ByteArray := prog_1_method_32_code
def yX5_mix : MethodName := ⟨RX5, "mix", "(JJ)J"⟩
def RX6 : String := "FrameCommutatorModel"
def TX6 : u_T := fun k => match k with
  | 0 => ("FrameCommutatorModel", "now", "[I", true)
  | 1 => ("FrameCommutatorModel", "past", "[I", true)
  | 2 => ("FrameCommutatorModel", "kept", "I", false)
  | 3 => ("FrameCommutatorModel", "thrown", "I", false)
  | 4 => ("FrameCommutatorModel", "drawn", "[I", true)
  | _ => ("FrameCommutatorModel", "hash", "J", false)
def tyX6 : Nat → FieldType := fun k => match k with
  | 0 => .array .int
  | 1 => .array .int
  | 2 => .int
  | 3 => .int
  | 4 => .array .int
  | _ => .long
theorem nmX6 : ∀ a, a < 6 → ∀ b, b < 6 → a ≠ b → (TX6 a).2.1 ≠ (TX6 b).2.1 := by decide +kernel
theorem tyX6_ok : ∀ k, k < 6 → parseFieldDescriptor (TX6 k).2.2.1 = some (tyX6 k) := by decide +kernel
abbrev cX6_init : ByteArray := prog_8_method_1_code
def yX6_init : MethodName := ⟨RX6, "<init>", "()V"⟩
abbrev cX6_thrown : ByteArray := prog_8_method_2_code
def yX6_thrown : MethodName := ⟨RX6, "thrown", "()I"⟩
abbrev cX6_in : ByteArray := prog_8_method_3_code
def yX6_in : MethodName := ⟨RX6, "in", "(III)Z"⟩
abbrev cX6_keep : ByteArray := prog_8_method_4_code
def yX6_keep : MethodName := ⟨RX6, "keep", "()V"⟩
abbrev cX6_of : ByteArray := prog_8_method_5_code
def yX6_of : MethodName := ⟨RX6, "of", "(II)I"⟩
abbrev cX6_put : ByteArray := prog_8_method_6_code
def yX6_put : MethodName := ⟨RX6, "put", "(III)V"⟩
abbrev cX6_isParameter : ByteArray := prog_8_method_7_code
def yX6_isParameter : MethodName := ⟨RX6, "isParameter", "(I)Z"⟩
abbrev cX6_searches : ByteArray := prog_8_method_8_code
def yX6_searches : MethodName := ⟨RX6, "searches", "()V"⟩
abbrev cX6_beginsAnew : ByteArray := prog_8_method_9_code
def yX6_beginsAnew : MethodName := ⟨RX6, "beginsAnew", "()V"⟩
abbrev cX6_setFrame : ByteArray := prog_8_method_10_code
def yX6_setFrame : MethodName := ⟨RX6, "setFrame", "(II)I"⟩
abbrev cX6_addParameter : ByteArray := prog_8_method_11_code
def yX6_addParameter : MethodName := ⟨RX6, "addParameter", "(I)I"⟩
abbrev cX6_samplesOf : ByteArray := prog_8_method_12_code
def yX6_samplesOf : MethodName := ⟨RX6, "samplesOf", "(I)I"⟩
abbrev cX6_isFree : ByteArray := prog_8_method_13_code
def yX6_isFree : MethodName := ⟨RX6, "isFree", "(III)Z"⟩
abbrev cX6_takes : ByteArray := prog_8_method_14_code
def yX6_takes : MethodName := ⟨RX6, "takes", "(IIII)V"⟩
abbrev cX6_placesMany : ByteArray := prog_8_method_15_code
def yX6_placesMany : MethodName := ⟨RX6, "placesMany", "(II)Z"⟩
abbrev cX6_placesFew : ByteArray := prog_8_method_16_code
def yX6_placesFew : MethodName := ⟨RX6, "placesFew", "(II)Z"⟩
abbrev cX6_placedAt : ByteArray := prog_8_method_17_code
def yX6_placedAt : MethodName := ⟨RX6, "placedAt", "(I)I"⟩
abbrev cX6_draws : ByteArray := prog_8_method_18_code
def yX6_draws : MethodName := ⟨RX6, "draws", "()I"⟩
abbrev cX6_ownerAt : ByteArray := prog_8_method_19_code
def yX6_ownerAt : MethodName := ⟨RX6, "ownerAt", "(II)I"⟩
abbrev cX6_takenWords : ByteArray := prog_8_method_20_code
def yX6_takenWords : MethodName := ⟨RX6, "takenWords", "()I"⟩
abbrev cX6_plan : ByteArray := prog_8_method_21_code
def yX6_plan : MethodName := ⟨RX6, "plan", "()I"⟩
abbrev cX6_samplesPerMajor : ByteArray := prog_8_method_22_code
def yX6_samplesPerMajor : MethodName := ⟨RX6, "samplesPerMajor", "(I)I"⟩
abbrev cX6_slotOf : ByteArray := prog_8_method_23_code
def yX6_slotOf : MethodName := ⟨RX6, "slotOf", "(II)I"⟩
abbrev cX6_slot : ByteArray := prog_8_method_24_code
def yX6_slot : MethodName := ⟨RX6, "slot", "(III)I"⟩
abbrev cX6_ownerOf : ByteArray := prog_8_method_25_code
def yX6_ownerOf : MethodName := ⟨RX6, "ownerOf", "(II)I"⟩
abbrev cX6_efficiency : ByteArray := prog_8_method_26_code
def yX6_efficiency : MethodName := ⟨RX6, "efficiency", "()D"⟩
abbrev cX6_setValue : ByteArray := prog_8_method_27_code
def yX6_setValue : MethodName := ⟨RX6, "setValue", "(II)I"⟩
abbrev cX6_wordOf : ByteArray := prog_8_method_28_code
def yX6_wordOf : MethodName := ⟨RX6, "wordOf", "(II)I"⟩
abbrev cX6_sends : ByteArray := prog_8_method_29_code
def yX6_sends : MethodName := ⟨RX6, "sends", "()V"⟩
abbrev cX6_send : ByteArray := prog_8_method_30_code
def yX6_send : MethodName := ⟨RX6, "send", "(I)I"⟩
abbrev cX6_pending : ByteArray := prog_8_method_31_code
def yX6_pending : MethodName := ⟨RX6, "pending", "()I"⟩
abbrev cX6_isBit : ByteArray := prog_8_method_32_code
def yX6_isBit : MethodName := ⟨RX6, "isBit", "(I)Z"⟩
abbrev cX6_bit : ByteArray := prog_8_method_33_code
def yX6_bit : MethodName := ⟨RX6, "bit", "(I)I"⟩
abbrev cX6_removes : ByteArray := prog_8_method_34_code
def yX6_removes : MethodName := ⟨RX6, "removes", "(I)V"⟩
abbrev cX6_inserts : ByteArray := prog_8_method_35_code
def yX6_inserts : MethodName := ⟨RX6, "inserts", "(II)V"⟩
abbrev cX6_disturb : ByteArray := prog_8_method_36_code
def yX6_disturb : MethodName := ⟨RX6, "disturb", "(II)I"⟩
abbrev cX6_beginsFrame : ByteArray := prog_8_method_37_code
def yX6_beginsFrame : MethodName := ⟨RX6, "beginsFrame", "()V"⟩
abbrev cX6_receivesSample : ByteArray := prog_8_method_38_code
def yX6_receivesSample : MethodName := ⟨RX6, "receivesSample", "(II)V"⟩
abbrev cX6_delivers : ByteArray := prog_8_method_39_code
def yX6_delivers : MethodName := ⟨RX6, "delivers", "()V"⟩
abbrev cX6_takesIntoFrame : ByteArray := prog_8_method_40_code
def yX6_takesIntoFrame : MethodName := ⟨RX6, "takesIntoFrame", "(I)V"⟩
abbrev cX6_compares : ByteArray := prog_8_method_41_code
def yX6_compares : MethodName := ⟨RX6, "compares", "()V"⟩
abbrev cX6_takesOneMore : ByteArray := prog_8_method_42_code
def yX6_takesOneMore : MethodName := ⟨RX6, "takesOneMore", "(I)V"⟩
abbrev cX6_takesBit : ByteArray := prog_8_method_43_code
def yX6_takesBit : MethodName := ⟨RX6, "takesBit", "(I)V"⟩
abbrev cX6_receive : ByteArray := prog_8_method_44_code
def yX6_receive : MethodName := ⟨RX6, "receive", "(I)I"⟩
abbrev cX6_receiverState : ByteArray := prog_8_method_45_code
def yX6_receiverState : MethodName := ⟨RX6, "receiverState", "()I"⟩
abbrev cX6_received : ByteArray := prog_8_method_46_code
def yX6_received : MethodName := ⟨RX6, "received", "(I)I"⟩
abbrev cX6_tells : ByteArray := prog_8_method_47_code
def yX6_tells : MethodName := ⟨RX6, "tells", "(II)I"⟩
abbrev cX6_sample : ByteArray := prog_8_method_48_code
def yX6_sample : MethodName := ⟨RX6, "sample", "(I)I"⟩
abbrev cX6_samples : ByteArray := prog_8_method_49_code
def yX6_samples : MethodName := ⟨RX6, "samples", "(I)I"⟩
abbrev cX6_setMode : ByteArray := prog_8_method_50_code
def yX6_setMode : MethodName := ⟨RX6, "setMode", "(I)I"⟩
abbrev cX6_setLimits : ByteArray := prog_8_method_51_code
def yX6_setLimits : MethodName := ⟨RX6, "setLimits", "(IIII)I"⟩
abbrev cX6_setPersistence : ByteArray := prog_8_method_52_code
def yX6_setPersistence : MethodName := ⟨RX6, "setPersistence", "(II)I"⟩
abbrev cX6_hasAlarm : ByteArray := prog_8_method_53_code
def yX6_hasAlarm : MethodName := ⟨RX6, "hasAlarm", "(I)Z"⟩
abbrev cX6_alarms : ByteArray := prog_8_method_54_code
def yX6_alarms : MethodName := ⟨RX6, "alarms", "(I)I"⟩
abbrev cX6_undo : ByteArray := prog_8_method_55_code
def yX6_undo : MethodName := ⟨RX6, "undo", "()I"⟩
abbrev cX6_mix : ByteArray := prog_8_method_56_code
def yX6_mix : MethodName := ⟨RX6, "mix", "(J)V"⟩
abbrev cX6_mixPlan : ByteArray := prog_8_method_57_code
def yX6_mixPlan : MethodName := ⟨RX6, "mixPlan", "()V"⟩
abbrev cX6_digest : ByteArray := prog_8_method_58_code
def yX6_digest : MethodName := ⟨RX6, "digest", "()J"⟩
def RJx145de : String := "java/io/Serializable"
def TJx145de : u_T := fun k => match k with
  | _ => ("", "", "", false)
def tyJx145de : Nat → FieldType := fun k => match k with
  | _ => .int
theorem nmJx145de : ∀ a, a < 0 → ∀ b, b < 0 → a ≠ b → (TJx145de a).2.1 ≠ (TJx145de b).2.1 := by decide +kernel
theorem tyJx145de_ok : ∀ k, k < 0 → parseFieldDescriptor (TJx145de k).2.2.1 = some (tyJx145de k) := by decide +kernel
def RJ0 : String := "java/lang/String"
def TJ0 : u_T := fun k => match k with
  | _ => ("", "", "", false)
def tyJ0 : Nat → FieldType := fun k => match k with
  | _ => .int
theorem nmJ0 : ∀ a, a < 0 → ∀ b, b < 0 → a ≠ b → (TJ0 a).2.1 ≠ (TJ0 b).2.1 := by decide +kernel
theorem tyJ0_ok : ∀ k, k < 0 → parseFieldDescriptor (TJ0 k).2.2.1 = some (tyJ0 k) := by decide +kernel
def RJ10 : String := "java/lang/System"
def TJ10 : u_T := fun k => match k with
  | _ => ("", "", "", false)
def tyJ10 : Nat → FieldType := fun k => match k with
  | _ => .int
theorem nmJ10 : ∀ a, a < 0 → ∀ b, b < 0 → a ≠ b → (TJ10 a).2.1 ≠ (TJ10 b).2.1 := by decide +kernel
theorem tyJ10_ok : ∀ k, k < 0 → parseFieldDescriptor (TJ10 k).2.2.1 = some (tyJ10 k) := by decide +kernel
def RJ7 : String := "java/util/Arrays"
def TJ7 : u_T := fun k => match k with
  | _ => ("", "", "", false)
def tyJ7 : Nat → FieldType := fun k => match k with
  | _ => .int
theorem nmJ7 : ∀ a, a < 0 → ∀ b, b < 0 → a ≠ b → (TJ7 a).2.1 ≠ (TJ7 b).2.1 := by decide +kernel
theorem tyJ7_ok : ∀ k, k < 0 → parseFieldDescriptor (TJ7 k).2.2.1 = some (tyJ7 k) := by decide +kernel
abbrev cJ7_fill_53178 : ByteArray := prog_17_method_103_code
def yJ7_fill_53178 : MethodName := ⟨RJ7, "fill", "([II)V"⟩
def RL : String := "FrameCommutatorLaw"
abbrev cL_setFrame : ByteArray := method_3_code
def yL_setFrame : MethodName := ⟨RL, "setFrame", "(LFrameCommutator;II[J)I"⟩
abbrev cL_addParameter : ByteArray := method_4_code
def yL_addParameter : MethodName := ⟨RL, "addParameter", "(LFrameCommutator;I[J)I"⟩
abbrev cL_samplesPerMajor : ByteArray := method_5_code
def yL_samplesPerMajor : MethodName := ⟨RL, "samplesPerMajor", "(LFrameCommutator;I[J)I"⟩
abbrev cL_slot : ByteArray := method_6_code
def yL_slot : MethodName := ⟨RL, "slot", "(LFrameCommutator;III[J)I"⟩
abbrev cL_ownerOf : ByteArray := method_7_code
def yL_ownerOf : MethodName := ⟨RL, "ownerOf", "(LFrameCommutator;II[J)I"⟩
abbrev cL_efficiency : ByteArray := method_8_code
def yL_efficiency : MethodName := ⟨RL, "efficiency", "(LFrameCommutator;[D)I"⟩
abbrev cL_setValue : ByteArray := method_9_code
def yL_setValue : MethodName := ⟨RL, "setValue", "(LFrameCommutator;II[J)I"⟩
abbrev cL_send : ByteArray := method_10_code
def yL_send : MethodName := ⟨RL, "send", "(LFrameCommutator;I[J)I"⟩
abbrev cL_bit : ByteArray := method_11_code
def yL_bit : MethodName := ⟨RL, "bit", "(LFrameCommutator;I[J)I"⟩
abbrev cL_disturb : ByteArray := method_12_code
def yL_disturb : MethodName := ⟨RL, "disturb", "(LFrameCommutator;II[J)I"⟩
abbrev cL_receive : ByteArray := method_13_code
def yL_receive : MethodName := ⟨RL, "receive", "(LFrameCommutator;I[J)I"⟩
abbrev cL_received : ByteArray := method_14_code
def yL_received : MethodName := ⟨RL, "received", "(LFrameCommutator;I[J)I"⟩
abbrev cL_sample : ByteArray := method_15_code
def yL_sample : MethodName := ⟨RL, "sample", "(LFrameCommutator;I[J)I"⟩
abbrev cL_samples : ByteArray := method_16_code
def yL_samples : MethodName := ⟨RL, "samples", "(LFrameCommutator;I[J)I"⟩
abbrev cL_setMode : ByteArray := method_17_code
def yL_setMode : MethodName := ⟨RL, "setMode", "(LFrameCommutator;I[J)I"⟩
abbrev cL_setLimits : ByteArray := method_18_code
def yL_setLimits : MethodName := ⟨RL, "setLimits", "(LFrameCommutator;IIII[J)I"⟩
abbrev cL_setPersistence : ByteArray := method_19_code
def yL_setPersistence : MethodName := ⟨RL, "setPersistence", "(LFrameCommutator;II[J)I"⟩
abbrev cL_hasAlarm : ByteArray := method_20_code
def yL_hasAlarm : MethodName := ⟨RL, "hasAlarm", "(LFrameCommutator;I[J)I"⟩
abbrev cL_alarms : ByteArray := method_21_code
def yL_alarms : MethodName := ⟨RL, "alarms", "(LFrameCommutator;I[J)I"⟩
abbrev cL_undo : ByteArray := method_22_code
def yL_undo : MethodName := ⟨RL, "undo", "(LFrameCommutator;[J)I"⟩
abbrev cL_law : ByteArray := code
def yL_law : MethodName := ⟨RL, "law", "([I)Z"⟩
abbrev vwCl : List vw_C := [(RX0, TX0, 2), (RX1, TX1, 5), (RX2, TX2, 10), (RX3, TX3, 6), (RX4, TX4, 7), (RX5, TX5, 5), (RX6, TX6, 6)]
end
section
theorem dX0_init_0 : decode cX0_init 0 = .ok (.aload_n 0, 1) := by decide +kernel
theorem dX0_init_1 : decode cX0_init 1 = .ok (.invokespecial 3, 3) := by decide +kernel
theorem dX0_init_4 : decode cX0_init 4 = .ok (.aload_n 0, 1) := by decide +kernel
theorem dX0_init_5 : decode cX0_init 5 = .ok (.sipush 2048, 3) := by decide +kernel
theorem dX0_init_8 : decode cX0_init 8 = .ok (.newarray .int, 2) := by decide +kernel
theorem dX0_init_10 : decode cX0_init 10 = .ok (.putfield 9, 3) := by decide +kernel
theorem dX0_init_13 : decode cX0_init 13 = .ok (.aload_n 0, 1) := by decide +kernel
theorem dX0_init_14 : decode cX0_init 14 = .ok (.iconst 0, 1) := by decide +kernel
theorem dX0_init_15 : decode cX0_init 15 = .ok (.putfield 15, 3) := by decide +kernel
theorem dX0_init_18 : decode cX0_init 18 = .ok (.return_, 1) := by decide +kernel
theorem dX0_copyFrom_0 : decode cX0_copyFrom 0 = .ok (.aload_n 0, 1) := by decide +kernel
theorem dX0_copyFrom_1 : decode cX0_copyFrom 1 = .ok (.aload_n 1, 1) := by decide +kernel
theorem dX0_copyFrom_2 : decode cX0_copyFrom 2 = .ok (.getfield 15, 3) := by decide +kernel
theorem dX0_copyFrom_5 : decode cX0_copyFrom 5 = .ok (.putfield 15, 3) := by decide +kernel
theorem dX0_copyFrom_8 : decode cX0_copyFrom 8 = .ok (.aload_n 1, 1) := by decide +kernel
theorem dX0_copyFrom_9 : decode cX0_copyFrom 9 = .ok (.getfield 9, 3) := by decide +kernel
theorem dX0_copyFrom_12 : decode cX0_copyFrom 12 = .ok (.iconst 0, 1) := by decide +kernel
theorem dX0_copyFrom_13 : decode cX0_copyFrom 13 = .ok (.aload_n 0, 1) := by decide +kernel
theorem dX0_copyFrom_14 : decode cX0_copyFrom 14 = .ok (.getfield 9, 3) := by decide +kernel
theorem dX0_copyFrom_17 : decode cX0_copyFrom 17 = .ok (.iconst 0, 1) := by decide +kernel
theorem dX0_copyFrom_18 : decode cX0_copyFrom 18 = .ok (.aload_n 0, 1) := by decide +kernel
theorem dX0_copyFrom_19 : decode cX0_copyFrom 19 = .ok (.getfield 15, 3) := by decide +kernel
theorem dX0_copyFrom_22 : decode cX0_copyFrom 22 = .ok (.invokestatic 19, 3) := by decide +kernel
theorem dX0_copyFrom_25 : decode cX0_copyFrom 25 = .ok (.return_, 1) := by decide +kernel
theorem dX0_appendWord_0 : decode cX0_appendWord 0 = .ok (.bipush 7, 2) := by decide +kernel
theorem dX0_appendWord_2 : decode cX0_appendWord 2 = .ok (.istore_n 2, 1) := by decide +kernel
theorem dX0_appendWord_3 : decode cX0_appendWord 3 = .ok (.iload_n 2, 1) := by decide +kernel
theorem dX0_appendWord_4 : decode cX0_appendWord 4 = .ok (.ifCond .lt 43, 3) := by decide +kernel
theorem dX0_appendWord_7 : decode cX0_appendWord 7 = .ok (.aload_n 0, 1) := by decide +kernel
theorem dX0_appendWord_8 : decode cX0_appendWord 8 = .ok (.getfield 15, 3) := by decide +kernel
theorem dX0_appendWord_11 : decode cX0_appendWord 11 = .ok (.sipush 2048, 3) := by decide +kernel
theorem dX0_appendWord_14 : decode cX0_appendWord 14 = .ok (.if_icmp .ge 27, 3) := by decide +kernel
theorem dX0_appendWord_17 : decode cX0_appendWord 17 = .ok (.aload_n 0, 1) := by decide +kernel
theorem dX0_appendWord_18 : decode cX0_appendWord 18 = .ok (.getfield 9, 3) := by decide +kernel
theorem dX0_appendWord_21 : decode cX0_appendWord 21 = .ok (.aload_n 0, 1) := by decide +kernel
theorem dX0_appendWord_22 : decode cX0_appendWord 22 = .ok (.getfield 15, 3) := by decide +kernel
theorem dX0_appendWord_25 : decode cX0_appendWord 25 = .ok (.iload_n 1, 1) := by decide +kernel
theorem dX0_appendWord_26 : decode cX0_appendWord 26 = .ok (.iload_n 2, 1) := by decide +kernel
theorem dX0_appendWord_27 : decode cX0_appendWord 27 = .ok (.ishr, 1) := by decide +kernel
theorem dX0_appendWord_28 : decode cX0_appendWord 28 = .ok (.iconst 1, 1) := by decide +kernel
theorem dX0_appendWord_29 : decode cX0_appendWord 29 = .ok (.iand, 1) := by decide +kernel
theorem dX0_appendWord_30 : decode cX0_appendWord 30 = .ok (.iastore, 1) := by decide +kernel
theorem dX0_appendWord_31 : decode cX0_appendWord 31 = .ok (.aload_n 0, 1) := by decide +kernel
theorem dX0_appendWord_32 : decode cX0_appendWord 32 = .ok (.dup, 1) := by decide +kernel
theorem dX0_appendWord_33 : decode cX0_appendWord 33 = .ok (.getfield 15, 3) := by decide +kernel
theorem dX0_appendWord_36 : decode cX0_appendWord 36 = .ok (.iconst 1, 1) := by decide +kernel
theorem dX0_appendWord_37 : decode cX0_appendWord 37 = .ok (.iadd, 1) := by decide +kernel
theorem dX0_appendWord_38 : decode cX0_appendWord 38 = .ok (.putfield 15, 3) := by decide +kernel
theorem dX0_appendWord_41 : decode cX0_appendWord 41 = .ok (.iinc 2 (-1), 3) := by decide +kernel
theorem dX0_appendWord_44 : decode cX0_appendWord 44 = .ok (.goto (-41), 3) := by decide +kernel
theorem dX0_appendWord_47 : decode cX0_appendWord 47 = .ok (.return_, 1) := by decide +kernel
theorem dX0_flip_0 : decode cX0_flip 0 = .ok (.aload_n 0, 1) := by decide +kernel
theorem dX0_flip_1 : decode cX0_flip 1 = .ok (.getfield 9, 3) := by decide +kernel
theorem dX0_flip_4 : decode cX0_flip 4 = .ok (.iload_n 1, 1) := by decide +kernel
theorem dX0_flip_5 : decode cX0_flip 5 = .ok (.iconst 1, 1) := by decide +kernel
theorem dX0_flip_6 : decode cX0_flip 6 = .ok (.aload_n 0, 1) := by decide +kernel
theorem dX0_flip_7 : decode cX0_flip 7 = .ok (.getfield 9, 3) := by decide +kernel
theorem dX0_flip_10 : decode cX0_flip 10 = .ok (.iload_n 1, 1) := by decide +kernel
theorem dX0_flip_11 : decode cX0_flip 11 = .ok (.iaload, 1) := by decide +kernel
theorem dX0_flip_12 : decode cX0_flip 12 = .ok (.isub, 1) := by decide +kernel
theorem dX0_flip_13 : decode cX0_flip 13 = .ok (.iastore, 1) := by decide +kernel
theorem dX0_flip_14 : decode cX0_flip 14 = .ok (.return_, 1) := by decide +kernel
theorem dX0_remove_0 : decode cX0_remove 0 = .ok (.aload_n 0, 1) := by decide +kernel
theorem dX0_remove_1 : decode cX0_remove 1 = .ok (.getfield 9, 3) := by decide +kernel
theorem dX0_remove_4 : decode cX0_remove 4 = .ok (.iload_n 1, 1) := by decide +kernel
theorem dX0_remove_5 : decode cX0_remove 5 = .ok (.iconst 1, 1) := by decide +kernel
theorem dX0_remove_6 : decode cX0_remove 6 = .ok (.iadd, 1) := by decide +kernel
theorem dX0_remove_7 : decode cX0_remove 7 = .ok (.aload_n 0, 1) := by decide +kernel
theorem dX0_remove_8 : decode cX0_remove 8 = .ok (.getfield 9, 3) := by decide +kernel
theorem dX0_remove_11 : decode cX0_remove 11 = .ok (.iload_n 1, 1) := by decide +kernel
theorem dX0_remove_12 : decode cX0_remove 12 = .ok (.aload_n 0, 1) := by decide +kernel
theorem dX0_remove_13 : decode cX0_remove 13 = .ok (.getfield 15, 3) := by decide +kernel
theorem dX0_remove_16 : decode cX0_remove 16 = .ok (.iload_n 1, 1) := by decide +kernel
theorem dX0_remove_17 : decode cX0_remove 17 = .ok (.isub, 1) := by decide +kernel
theorem dX0_remove_18 : decode cX0_remove 18 = .ok (.iconst 1, 1) := by decide +kernel
theorem dX0_remove_19 : decode cX0_remove 19 = .ok (.isub, 1) := by decide +kernel
theorem dX0_remove_20 : decode cX0_remove 20 = .ok (.invokestatic 19, 3) := by decide +kernel
theorem dX0_remove_23 : decode cX0_remove 23 = .ok (.aload_n 0, 1) := by decide +kernel
theorem dX0_remove_24 : decode cX0_remove 24 = .ok (.dup, 1) := by decide +kernel
theorem dX0_remove_25 : decode cX0_remove 25 = .ok (.getfield 15, 3) := by decide +kernel
theorem dX0_remove_28 : decode cX0_remove 28 = .ok (.iconst 1, 1) := by decide +kernel
theorem dX0_remove_29 : decode cX0_remove 29 = .ok (.isub, 1) := by decide +kernel
theorem dX0_remove_30 : decode cX0_remove 30 = .ok (.putfield 15, 3) := by decide +kernel
theorem dX0_remove_33 : decode cX0_remove 33 = .ok (.return_, 1) := by decide +kernel
theorem dX0_insert_0 : decode cX0_insert 0 = .ok (.aload_n 0, 1) := by decide +kernel
theorem dX0_insert_1 : decode cX0_insert 1 = .ok (.getfield 9, 3) := by decide +kernel
theorem dX0_insert_4 : decode cX0_insert 4 = .ok (.iload_n 1, 1) := by decide +kernel
theorem dX0_insert_5 : decode cX0_insert 5 = .ok (.aload_n 0, 1) := by decide +kernel
theorem dX0_insert_6 : decode cX0_insert 6 = .ok (.getfield 9, 3) := by decide +kernel
theorem dX0_insert_9 : decode cX0_insert 9 = .ok (.iload_n 1, 1) := by decide +kernel
theorem dX0_insert_10 : decode cX0_insert 10 = .ok (.iconst 1, 1) := by decide +kernel
theorem dX0_insert_11 : decode cX0_insert 11 = .ok (.iadd, 1) := by decide +kernel
theorem dX0_insert_12 : decode cX0_insert 12 = .ok (.aload_n 0, 1) := by decide +kernel
theorem dX0_insert_13 : decode cX0_insert 13 = .ok (.getfield 15, 3) := by decide +kernel
theorem dX0_insert_16 : decode cX0_insert 16 = .ok (.iload_n 1, 1) := by decide +kernel
theorem dX0_insert_17 : decode cX0_insert 17 = .ok (.isub, 1) := by decide +kernel
theorem dX0_insert_18 : decode cX0_insert 18 = .ok (.invokestatic 19, 3) := by decide +kernel
theorem dX0_insert_21 : decode cX0_insert 21 = .ok (.aload_n 0, 1) := by decide +kernel
theorem dX0_insert_22 : decode cX0_insert 22 = .ok (.getfield 9, 3) := by decide +kernel
theorem dX0_insert_25 : decode cX0_insert 25 = .ok (.iload_n 1, 1) := by decide +kernel
theorem dX0_insert_26 : decode cX0_insert 26 = .ok (.iload_n 2, 1) := by decide +kernel
theorem dX0_insert_27 : decode cX0_insert 27 = .ok (.iastore, 1) := by decide +kernel
theorem dX0_insert_28 : decode cX0_insert 28 = .ok (.aload_n 0, 1) := by decide +kernel
theorem dX0_insert_29 : decode cX0_insert 29 = .ok (.dup, 1) := by decide +kernel
theorem dX0_insert_30 : decode cX0_insert 30 = .ok (.getfield 15, 3) := by decide +kernel
theorem dX0_insert_33 : decode cX0_insert 33 = .ok (.iconst 1, 1) := by decide +kernel
theorem dX0_insert_34 : decode cX0_insert 34 = .ok (.iadd, 1) := by decide +kernel
theorem dX0_insert_35 : decode cX0_insert 35 = .ok (.putfield 15, 3) := by decide +kernel
theorem dX0_insert_38 : decode cX0_insert 38 = .ok (.return_, 1) := by decide +kernel
theorem dX0_dropFirst_0 : decode cX0_dropFirst 0 = .ok (.aload_n 0, 1) := by decide +kernel
theorem dX0_dropFirst_1 : decode cX0_dropFirst 1 = .ok (.getfield 9, 3) := by decide +kernel
theorem dX0_dropFirst_4 : decode cX0_dropFirst 4 = .ok (.iload_n 1, 1) := by decide +kernel
theorem dX0_dropFirst_5 : decode cX0_dropFirst 5 = .ok (.aload_n 0, 1) := by decide +kernel
theorem dX0_dropFirst_6 : decode cX0_dropFirst 6 = .ok (.getfield 9, 3) := by decide +kernel
theorem dX0_dropFirst_9 : decode cX0_dropFirst 9 = .ok (.iconst 0, 1) := by decide +kernel
theorem dX0_dropFirst_10 : decode cX0_dropFirst 10 = .ok (.aload_n 0, 1) := by decide +kernel
theorem dX0_dropFirst_11 : decode cX0_dropFirst 11 = .ok (.getfield 15, 3) := by decide +kernel
theorem dX0_dropFirst_14 : decode cX0_dropFirst 14 = .ok (.iload_n 1, 1) := by decide +kernel
theorem dX0_dropFirst_15 : decode cX0_dropFirst 15 = .ok (.isub, 1) := by decide +kernel
theorem dX0_dropFirst_16 : decode cX0_dropFirst 16 = .ok (.invokestatic 19, 3) := by decide +kernel
theorem dX0_dropFirst_19 : decode cX0_dropFirst 19 = .ok (.aload_n 0, 1) := by decide +kernel
theorem dX0_dropFirst_20 : decode cX0_dropFirst 20 = .ok (.aload_n 0, 1) := by decide +kernel
theorem dX0_dropFirst_21 : decode cX0_dropFirst 21 = .ok (.getfield 15, 3) := by decide +kernel
theorem dX0_dropFirst_24 : decode cX0_dropFirst 24 = .ok (.iload_n 1, 1) := by decide +kernel
theorem dX0_dropFirst_25 : decode cX0_dropFirst 25 = .ok (.isub, 1) := by decide +kernel
theorem dX0_dropFirst_26 : decode cX0_dropFirst 26 = .ok (.putfield 15, 3) := by decide +kernel
theorem dX0_dropFirst_29 : decode cX0_dropFirst 29 = .ok (.return_, 1) := by decide +kernel
theorem dX0_mixInto_0 : decode cX0_mixInto 0 = .ok (.lload_n 1, 1) := by decide +kernel
theorem dX0_mixInto_1 : decode cX0_mixInto 1 = .ok (.aload_n 0, 1) := by decide +kernel
theorem dX0_mixInto_2 : decode cX0_mixInto 2 = .ok (.getfield 15, 3) := by decide +kernel
theorem dX0_mixInto_5 : decode cX0_mixInto 5 = .ok (.i2l, 1) := by decide +kernel
theorem dX0_mixInto_6 : decode cX0_mixInto 6 = .ok (.invokestatic 25, 3) := by decide +kernel
theorem dX0_mixInto_9 : decode cX0_mixInto 9 = .ok (.lstore_n 3, 1) := by decide +kernel
theorem dX0_mixInto_10 : decode cX0_mixInto 10 = .ok (.iconst 0, 1) := by decide +kernel
theorem dX0_mixInto_11 : decode cX0_mixInto 11 = .ok (.istore 5, 2) := by decide +kernel
theorem dX0_mixInto_13 : decode cX0_mixInto 13 = .ok (.iload 5, 2) := by decide +kernel
theorem dX0_mixInto_15 : decode cX0_mixInto 15 = .ok (.aload_n 0, 1) := by decide +kernel
theorem dX0_mixInto_16 : decode cX0_mixInto 16 = .ok (.getfield 15, 3) := by decide +kernel
theorem dX0_mixInto_19 : decode cX0_mixInto 19 = .ok (.if_icmp .ge 24, 3) := by decide +kernel
theorem dX0_mixInto_22 : decode cX0_mixInto 22 = .ok (.ldc2_w 29, 3) := by decide +kernel
theorem dX0_mixInto_25 : decode cX0_mixInto 25 = .ok (.lload_n 3, 1) := by decide +kernel
theorem dX0_mixInto_26 : decode cX0_mixInto 26 = .ok (.lmul, 1) := by decide +kernel
theorem dX0_mixInto_27 : decode cX0_mixInto 27 = .ok (.aload_n 0, 1) := by decide +kernel
theorem dX0_mixInto_28 : decode cX0_mixInto 28 = .ok (.getfield 9, 3) := by decide +kernel
theorem dX0_mixInto_31 : decode cX0_mixInto 31 = .ok (.iload 5, 2) := by decide +kernel
theorem dX0_mixInto_33 : decode cX0_mixInto 33 = .ok (.iaload, 1) := by decide +kernel
theorem dX0_mixInto_34 : decode cX0_mixInto 34 = .ok (.i2l, 1) := by decide +kernel
theorem dX0_mixInto_35 : decode cX0_mixInto 35 = .ok (.ladd, 1) := by decide +kernel
theorem dX0_mixInto_36 : decode cX0_mixInto 36 = .ok (.lstore_n 3, 1) := by decide +kernel
theorem dX0_mixInto_37 : decode cX0_mixInto 37 = .ok (.iinc 5 1, 3) := by decide +kernel
theorem dX0_mixInto_40 : decode cX0_mixInto 40 = .ok (.goto (-27), 3) := by decide +kernel
theorem dX0_mixInto_43 : decode cX0_mixInto 43 = .ok (.lload_n 3, 1) := by decide +kernel
theorem dX0_mixInto_44 : decode cX0_mixInto 44 = .ok (.lreturn, 1) := by decide +kernel
theorem dX1_init_0 : decode cX1_init 0 = .ok (.aload_n 0, 1) := by decide +kernel
theorem dX1_init_1 : decode cX1_init 1 = .ok (.invokespecial 3, 3) := by decide +kernel
theorem dX1_init_4 : decode cX1_init 4 = .ok (.aload_n 0, 1) := by decide +kernel
theorem dX1_init_5 : decode cX1_init 5 = .ok (.bipush 8, 2) := by decide +kernel
theorem dX1_init_7 : decode cX1_init 7 = .ok (.putfield 9, 3) := by decide +kernel
theorem dX1_init_10 : decode cX1_init 10 = .ok (.aload_n 0, 1) := by decide +kernel
theorem dX1_init_11 : decode cX1_init 11 = .ok (.iconst 4, 1) := by decide +kernel
theorem dX1_init_12 : decode cX1_init 12 = .ok (.putfield 15, 3) := by decide +kernel
theorem dX1_init_15 : decode cX1_init 15 = .ok (.aload_n 0, 1) := by decide +kernel
theorem dX1_init_16 : decode cX1_init 16 = .ok (.iconst 0, 1) := by decide +kernel
theorem dX1_init_17 : decode cX1_init 17 = .ok (.putfield 18, 3) := by decide +kernel
theorem dX1_init_20 : decode cX1_init 20 = .ok (.aload_n 0, 1) := by decide +kernel
theorem dX1_init_21 : decode cX1_init 21 = .ok (.iconst 0, 1) := by decide +kernel
theorem dX1_init_22 : decode cX1_init 22 = .ok (.putfield 22, 3) := by decide +kernel
theorem dX1_init_25 : decode cX1_init 25 = .ok (.aload_n 0, 1) := by decide +kernel
theorem dX1_init_26 : decode cX1_init 26 = .ok (.sipush 128, 3) := by decide +kernel
theorem dX1_init_29 : decode cX1_init 29 = .ok (.newarray .int, 2) := by decide +kernel
theorem dX1_init_31 : decode cX1_init 31 = .ok (.putfield 25, 3) := by decide +kernel
theorem dX1_init_34 : decode cX1_init 34 = .ok (.return_, 1) := by decide +kernel
theorem dX1_copyFrom_0 : decode cX1_copyFrom 0 = .ok (.aload_n 0, 1) := by decide +kernel
theorem dX1_copyFrom_1 : decode cX1_copyFrom 1 = .ok (.aload_n 1, 1) := by decide +kernel
theorem dX1_copyFrom_2 : decode cX1_copyFrom 2 = .ok (.getfield 9, 3) := by decide +kernel
theorem dX1_copyFrom_5 : decode cX1_copyFrom 5 = .ok (.putfield 9, 3) := by decide +kernel
theorem dX1_copyFrom_8 : decode cX1_copyFrom 8 = .ok (.aload_n 0, 1) := by decide +kernel
theorem dX1_copyFrom_9 : decode cX1_copyFrom 9 = .ok (.aload_n 1, 1) := by decide +kernel
theorem dX1_copyFrom_10 : decode cX1_copyFrom 10 = .ok (.getfield 15, 3) := by decide +kernel
theorem dX1_copyFrom_13 : decode cX1_copyFrom 13 = .ok (.putfield 15, 3) := by decide +kernel
theorem dX1_copyFrom_16 : decode cX1_copyFrom 16 = .ok (.aload_n 0, 1) := by decide +kernel
theorem dX1_copyFrom_17 : decode cX1_copyFrom 17 = .ok (.aload_n 1, 1) := by decide +kernel
theorem dX1_copyFrom_18 : decode cX1_copyFrom 18 = .ok (.getfield 18, 3) := by decide +kernel
theorem dX1_copyFrom_21 : decode cX1_copyFrom 21 = .ok (.putfield 18, 3) := by decide +kernel
theorem dX1_copyFrom_24 : decode cX1_copyFrom 24 = .ok (.aload_n 0, 1) := by decide +kernel
theorem dX1_copyFrom_25 : decode cX1_copyFrom 25 = .ok (.aload_n 1, 1) := by decide +kernel
theorem dX1_copyFrom_26 : decode cX1_copyFrom 26 = .ok (.getfield 22, 3) := by decide +kernel
theorem dX1_copyFrom_29 : decode cX1_copyFrom 29 = .ok (.putfield 22, 3) := by decide +kernel
theorem dX1_copyFrom_32 : decode cX1_copyFrom 32 = .ok (.aload_n 1, 1) := by decide +kernel
theorem dX1_copyFrom_33 : decode cX1_copyFrom 33 = .ok (.getfield 25, 3) := by decide +kernel
theorem dX1_copyFrom_36 : decode cX1_copyFrom 36 = .ok (.iconst 0, 1) := by decide +kernel
theorem dX1_copyFrom_37 : decode cX1_copyFrom 37 = .ok (.aload_n 0, 1) := by decide +kernel
theorem dX1_copyFrom_38 : decode cX1_copyFrom 38 = .ok (.getfield 25, 3) := by decide +kernel
theorem dX1_copyFrom_41 : decode cX1_copyFrom 41 = .ok (.iconst 0, 1) := by decide +kernel
theorem dX1_copyFrom_42 : decode cX1_copyFrom 42 = .ok (.aload_n 0, 1) := by decide +kernel
theorem dX1_copyFrom_43 : decode cX1_copyFrom 43 = .ok (.getfield 25, 3) := by decide +kernel
theorem dX1_copyFrom_46 : decode cX1_copyFrom 46 = .ok (.arraylength, 1) := by decide +kernel
theorem dX1_copyFrom_47 : decode cX1_copyFrom 47 = .ok (.invokestatic 29, 3) := by decide +kernel
theorem dX1_copyFrom_50 : decode cX1_copyFrom 50 = .ok (.return_, 1) := by decide +kernel
theorem dX1_freeAll_0 : decode cX1_freeAll 0 = .ok (.aload_n 0, 1) := by decide +kernel
theorem dX1_freeAll_1 : decode cX1_freeAll 1 = .ok (.iconst 0, 1) := by decide +kernel
theorem dX1_freeAll_2 : decode cX1_freeAll 2 = .ok (.putfield 22, 3) := by decide +kernel
theorem dX1_freeAll_5 : decode cX1_freeAll 5 = .ok (.aload_n 0, 1) := by decide +kernel
theorem dX1_freeAll_6 : decode cX1_freeAll 6 = .ok (.getfield 25, 3) := by decide +kernel
theorem dX1_freeAll_9 : decode cX1_freeAll 9 = .ok (.iconst (-1), 1) := by decide +kernel
theorem dX1_freeAll_10 : decode cX1_freeAll 10 = .ok (.invokestatic 35, 3) := by decide +kernel
theorem dX1_freeAll_13 : decode cX1_freeAll 13 = .ok (.return_, 1) := by decide +kernel
theorem dX1_columns_0 : decode cX1_columns 0 = .ok (.aload_n 0, 1) := by decide +kernel
theorem dX1_columns_1 : decode cX1_columns 1 = .ok (.getfield 9, 3) := by decide +kernel
theorem dX1_columns_4 : decode cX1_columns 4 = .ok (.iconst 3, 1) := by decide +kernel
theorem dX1_columns_5 : decode cX1_columns 5 = .ok (.isub, 1) := by decide +kernel
theorem dX1_columns_6 : decode cX1_columns 6 = .ok (.ireturn, 1) := by decide +kernel
theorem dX1_ownerAt_0 : decode cX1_ownerAt 0 = .ok (.iload_n 1, 1) := by decide +kernel
theorem dX1_ownerAt_1 : decode cX1_ownerAt 1 = .ok (.bipush 16, 2) := by decide +kernel
theorem dX1_ownerAt_3 : decode cX1_ownerAt 3 = .ok (.imul, 1) := by decide +kernel
theorem dX1_ownerAt_4 : decode cX1_ownerAt 4 = .ok (.iload_n 2, 1) := by decide +kernel
theorem dX1_ownerAt_5 : decode cX1_ownerAt 5 = .ok (.iadd, 1) := by decide +kernel
theorem dX1_ownerAt_6 : decode cX1_ownerAt 6 = .ok (.istore_n 3, 1) := by decide +kernel
theorem dX1_ownerAt_7 : decode cX1_ownerAt 7 = .ok (.iload_n 3, 1) := by decide +kernel
theorem dX1_ownerAt_8 : decode cX1_ownerAt 8 = .ok (.ifCond .lt 21, 3) := by decide +kernel
theorem dX1_ownerAt_11 : decode cX1_ownerAt 11 = .ok (.iload_n 3, 1) := by decide +kernel
theorem dX1_ownerAt_12 : decode cX1_ownerAt 12 = .ok (.aload_n 0, 1) := by decide +kernel
theorem dX1_ownerAt_13 : decode cX1_ownerAt 13 = .ok (.getfield 25, 3) := by decide +kernel
theorem dX1_ownerAt_16 : decode cX1_ownerAt 16 = .ok (.arraylength, 1) := by decide +kernel
theorem dX1_ownerAt_17 : decode cX1_ownerAt 17 = .ok (.if_icmp .ge 12, 3) := by decide +kernel
theorem dX1_ownerAt_20 : decode cX1_ownerAt 20 = .ok (.aload_n 0, 1) := by decide +kernel
theorem dX1_ownerAt_21 : decode cX1_ownerAt 21 = .ok (.getfield 25, 3) := by decide +kernel
theorem dX1_ownerAt_24 : decode cX1_ownerAt 24 = .ok (.iload_n 3, 1) := by decide +kernel
theorem dX1_ownerAt_25 : decode cX1_ownerAt 25 = .ok (.iaload, 1) := by decide +kernel
theorem dX1_ownerAt_26 : decode cX1_ownerAt 26 = .ok (.goto 4, 3) := by decide +kernel
theorem dX1_ownerAt_29 : decode cX1_ownerAt 29 = .ok (.iconst (-1), 1) := by decide +kernel
theorem dX1_ownerAt_30 : decode cX1_ownerAt 30 = .ok (.ireturn, 1) := by decide +kernel
theorem dX1_giveWord_0 : decode cX1_giveWord 0 = .ok (.iload_n 1, 1) := by decide +kernel
theorem dX1_giveWord_1 : decode cX1_giveWord 1 = .ok (.bipush 16, 2) := by decide +kernel
theorem dX1_giveWord_3 : decode cX1_giveWord 3 = .ok (.imul, 1) := by decide +kernel
theorem dX1_giveWord_4 : decode cX1_giveWord 4 = .ok (.iload_n 2, 1) := by decide +kernel
theorem dX1_giveWord_5 : decode cX1_giveWord 5 = .ok (.iadd, 1) := by decide +kernel
theorem dX1_giveWord_6 : decode cX1_giveWord 6 = .ok (.istore 4, 2) := by decide +kernel
theorem dX1_giveWord_8 : decode cX1_giveWord 8 = .ok (.iload 4, 2) := by decide +kernel
theorem dX1_giveWord_10 : decode cX1_giveWord 10 = .ok (.ifCond .lt 31, 3) := by decide +kernel
theorem dX1_giveWord_13 : decode cX1_giveWord 13 = .ok (.iload 4, 2) := by decide +kernel
theorem dX1_giveWord_15 : decode cX1_giveWord 15 = .ok (.aload_n 0, 1) := by decide +kernel
theorem dX1_giveWord_16 : decode cX1_giveWord 16 = .ok (.getfield 25, 3) := by decide +kernel
theorem dX1_giveWord_19 : decode cX1_giveWord 19 = .ok (.arraylength, 1) := by decide +kernel
theorem dX1_giveWord_20 : decode cX1_giveWord 20 = .ok (.if_icmp .ge 21, 3) := by decide +kernel
theorem dX1_giveWord_23 : decode cX1_giveWord 23 = .ok (.aload_n 0, 1) := by decide +kernel
theorem dX1_giveWord_24 : decode cX1_giveWord 24 = .ok (.getfield 25, 3) := by decide +kernel
theorem dX1_giveWord_27 : decode cX1_giveWord 27 = .ok (.iload 4, 2) := by decide +kernel
theorem dX1_giveWord_29 : decode cX1_giveWord 29 = .ok (.iload_n 3, 1) := by decide +kernel
theorem dX1_giveWord_30 : decode cX1_giveWord 30 = .ok (.iastore, 1) := by decide +kernel
theorem dX1_giveWord_31 : decode cX1_giveWord 31 = .ok (.aload_n 0, 1) := by decide +kernel
theorem dX1_giveWord_32 : decode cX1_giveWord 32 = .ok (.dup, 1) := by decide +kernel
theorem dX1_giveWord_33 : decode cX1_giveWord 33 = .ok (.getfield 22, 3) := by decide +kernel
theorem dX1_giveWord_36 : decode cX1_giveWord 36 = .ok (.iconst 1, 1) := by decide +kernel
theorem dX1_giveWord_37 : decode cX1_giveWord 37 = .ok (.iadd, 1) := by decide +kernel
theorem dX1_giveWord_38 : decode cX1_giveWord 38 = .ok (.putfield 22, 3) := by decide +kernel
theorem dX1_giveWord_41 : decode cX1_giveWord 41 = .ok (.return_, 1) := by decide +kernel
theorem dX1_placeOf_0 : decode cX1_placeOf 0 = .ok (.iconst 0, 1) := by decide +kernel
theorem dX1_placeOf_1 : decode cX1_placeOf 1 = .ok (.istore_n 3, 1) := by decide +kernel
theorem dX1_placeOf_2 : decode cX1_placeOf 2 = .ok (.iconst 0, 1) := by decide +kernel
theorem dX1_placeOf_3 : decode cX1_placeOf 3 = .ok (.istore 4, 2) := by decide +kernel
theorem dX1_placeOf_5 : decode cX1_placeOf 5 = .ok (.iload 4, 2) := by decide +kernel
theorem dX1_placeOf_7 : decode cX1_placeOf 7 = .ok (.aload_n 0, 1) := by decide +kernel
theorem dX1_placeOf_8 : decode cX1_placeOf 8 = .ok (.getfield 25, 3) := by decide +kernel
theorem dX1_placeOf_11 : decode cX1_placeOf 11 = .ok (.arraylength, 1) := by decide +kernel
theorem dX1_placeOf_12 : decode cX1_placeOf 12 = .ok (.if_icmp .ge 31, 3) := by decide +kernel
theorem dX1_placeOf_15 : decode cX1_placeOf 15 = .ok (.aload_n 0, 1) := by decide +kernel
theorem dX1_placeOf_16 : decode cX1_placeOf 16 = .ok (.getfield 25, 3) := by decide +kernel
theorem dX1_placeOf_19 : decode cX1_placeOf 19 = .ok (.iload 4, 2) := by decide +kernel
theorem dX1_placeOf_21 : decode cX1_placeOf 21 = .ok (.iaload, 1) := by decide +kernel
theorem dX1_placeOf_22 : decode cX1_placeOf 22 = .ok (.iload_n 1, 1) := by decide +kernel
theorem dX1_placeOf_23 : decode cX1_placeOf 23 = .ok (.if_icmp .ne 14, 3) := by decide +kernel
theorem dX1_placeOf_26 : decode cX1_placeOf 26 = .ok (.iload_n 3, 1) := by decide +kernel
theorem dX1_placeOf_27 : decode cX1_placeOf 27 = .ok (.iload_n 2, 1) := by decide +kernel
theorem dX1_placeOf_28 : decode cX1_placeOf 28 = .ok (.if_icmp .ne 6, 3) := by decide +kernel
theorem dX1_placeOf_31 : decode cX1_placeOf 31 = .ok (.iload 4, 2) := by decide +kernel
theorem dX1_placeOf_33 : decode cX1_placeOf 33 = .ok (.ireturn, 1) := by decide +kernel
theorem dX1_placeOf_34 : decode cX1_placeOf 34 = .ok (.iinc 3 1, 3) := by decide +kernel
theorem dX1_placeOf_37 : decode cX1_placeOf 37 = .ok (.iinc 4 1, 3) := by decide +kernel
theorem dX1_placeOf_40 : decode cX1_placeOf 40 = .ok (.goto (-35), 3) := by decide +kernel
theorem dX1_placeOf_43 : decode cX1_placeOf 43 = .ok (.iconst (-1), 1) := by decide +kernel
theorem dX1_placeOf_44 : decode cX1_placeOf 44 = .ok (.ireturn, 1) := by decide +kernel
theorem dX1_place_0 : decode cX1_place 0 = .ok (.iload_n 2, 1) := by decide +kernel
theorem dX1_place_1 : decode cX1_place 1 = .ok (.ifCond .le 12, 3) := by decide +kernel
theorem dX1_place_4 : decode cX1_place 4 = .ok (.aload_n 0, 1) := by decide +kernel
theorem dX1_place_5 : decode cX1_place 5 = .ok (.iload_n 1, 1) := by decide +kernel
theorem dX1_place_6 : decode cX1_place 6 = .ok (.iload_n 2, 1) := by decide +kernel
theorem dX1_place_7 : decode cX1_place 7 = .ok (.invokevirtual 41, 3) := by decide +kernel
theorem dX1_place_10 : decode cX1_place 10 = .ok (.goto 10, 3) := by decide +kernel
theorem dX1_place_13 : decode cX1_place 13 = .ok (.aload_n 0, 1) := by decide +kernel
theorem dX1_place_14 : decode cX1_place 14 = .ok (.iload_n 1, 1) := by decide +kernel
theorem dX1_place_15 : decode cX1_place 15 = .ok (.iload_n 2, 1) := by decide +kernel
theorem dX1_place_16 : decode cX1_place 16 = .ok (.ineg, 1) := by decide +kernel
theorem dX1_place_17 : decode cX1_place 17 = .ok (.invokevirtual 45, 3) := by decide +kernel
theorem dX1_place_20 : decode cX1_place 20 = .ok (.ireturn, 1) := by decide +kernel
theorem dX1_placeOften_0 : decode cX1_placeOften 0 = .ok (.iload_n 2, 1) := by decide +kernel
theorem dX1_placeOften_1 : decode cX1_placeOften 1 = .ok (.ifCond .le 12, 3) := by decide +kernel
theorem dX1_placeOften_4 : decode cX1_placeOften 4 = .ok (.aload_n 0, 1) := by decide +kernel
theorem dX1_placeOften_5 : decode cX1_placeOften 5 = .ok (.invokevirtual 48, 3) := by decide +kernel
theorem dX1_placeOften_8 : decode cX1_placeOften 8 = .ok (.iload_n 2, 1) := by decide +kernel
theorem dX1_placeOften_9 : decode cX1_placeOften 9 = .ok (.irem, 1) := by decide +kernel
theorem dX1_placeOften_10 : decode cX1_placeOften 10 = .ok (.ifCond .eq 5, 3) := by decide +kernel
theorem dX1_placeOften_13 : decode cX1_placeOften 13 = .ok (.iconst 0, 1) := by decide +kernel
theorem dX1_placeOften_14 : decode cX1_placeOften 14 = .ok (.ireturn, 1) := by decide +kernel
theorem dX1_placeOften_15 : decode cX1_placeOften 15 = .ok (.aload_n 0, 1) := by decide +kernel
theorem dX1_placeOften_16 : decode cX1_placeOften 16 = .ok (.invokevirtual 48, 3) := by decide +kernel
theorem dX1_placeOften_19 : decode cX1_placeOften 19 = .ok (.iload_n 2, 1) := by decide +kernel
theorem dX1_placeOften_20 : decode cX1_placeOften 20 = .ok (.idiv, 1) := by decide +kernel
theorem dX1_placeOften_21 : decode cX1_placeOften 21 = .ok (.istore_n 3, 1) := by decide +kernel
theorem dX1_placeOften_22 : decode cX1_placeOften 22 = .ok (.iconst 0, 1) := by decide +kernel
theorem dX1_placeOften_23 : decode cX1_placeOften 23 = .ok (.istore 4, 2) := by decide +kernel
theorem dX1_placeOften_25 : decode cX1_placeOften 25 = .ok (.iload 4, 2) := by decide +kernel
theorem dX1_placeOften_27 : decode cX1_placeOften 27 = .ok (.iload_n 3, 1) := by decide +kernel
theorem dX1_placeOften_28 : decode cX1_placeOften 28 = .ok (.if_icmp .ge 51, 3) := by decide +kernel
theorem dX1_placeOften_31 : decode cX1_placeOften 31 = .ok (.aload_n 0, 1) := by decide +kernel
theorem dX1_placeOften_32 : decode cX1_placeOften 32 = .ok (.iload 4, 2) := by decide +kernel
theorem dX1_placeOften_34 : decode cX1_placeOften 34 = .ok (.iload_n 3, 1) := by decide +kernel
theorem dX1_placeOften_35 : decode cX1_placeOften 35 = .ok (.iload_n 2, 1) := by decide +kernel
theorem dX1_placeOften_36 : decode cX1_placeOften 36 = .ok (.invokevirtual 52, 3) := by decide +kernel
theorem dX1_placeOften_39 : decode cX1_placeOften 39 = .ok (.ifCond .eq 34, 3) := by decide +kernel
theorem dX1_placeOften_42 : decode cX1_placeOften 42 = .ok (.iconst 0, 1) := by decide +kernel
theorem dX1_placeOften_43 : decode cX1_placeOften 43 = .ok (.istore 5, 2) := by decide +kernel
theorem dX1_placeOften_45 : decode cX1_placeOften 45 = .ok (.iload 5, 2) := by decide +kernel
theorem dX1_placeOften_47 : decode cX1_placeOften 47 = .ok (.iload_n 2, 1) := by decide +kernel
theorem dX1_placeOften_48 : decode cX1_placeOften 48 = .ok (.if_icmp .ge 23, 3) := by decide +kernel
theorem dX1_placeOften_51 : decode cX1_placeOften 51 = .ok (.aload_n 0, 1) := by decide +kernel
theorem dX1_placeOften_52 : decode cX1_placeOften 52 = .ok (.iload 4, 2) := by decide +kernel
theorem dX1_placeOften_54 : decode cX1_placeOften 54 = .ok (.iload 5, 2) := by decide +kernel
theorem dX1_placeOften_56 : decode cX1_placeOften 56 = .ok (.iload_n 3, 1) := by decide +kernel
theorem dX1_placeOften_57 : decode cX1_placeOften 57 = .ok (.imul, 1) := by decide +kernel
theorem dX1_placeOften_58 : decode cX1_placeOften 58 = .ok (.iadd, 1) := by decide +kernel
theorem dX1_placeOften_59 : decode cX1_placeOften 59 = .ok (.iconst 0, 1) := by decide +kernel
theorem dX1_placeOften_60 : decode cX1_placeOften 60 = .ok (.iconst 1, 1) := by decide +kernel
theorem dX1_placeOften_61 : decode cX1_placeOften 61 = .ok (.iload_n 1, 1) := by decide +kernel
theorem dX1_placeOften_62 : decode cX1_placeOften 62 = .ok (.invokevirtual 56, 3) := by decide +kernel
theorem dX1_placeOften_65 : decode cX1_placeOften 65 = .ok (.iinc 5 1, 3) := by decide +kernel
theorem dX1_placeOften_68 : decode cX1_placeOften 68 = .ok (.goto (-23), 3) := by decide +kernel
theorem dX1_placeOften_71 : decode cX1_placeOften 71 = .ok (.iconst 1, 1) := by decide +kernel
theorem dX1_placeOften_72 : decode cX1_placeOften 72 = .ok (.ireturn, 1) := by decide +kernel
theorem dX1_placeOften_73 : decode cX1_placeOften 73 = .ok (.iinc 4 1, 3) := by decide +kernel
theorem dX1_placeOften_76 : decode cX1_placeOften 76 = .ok (.goto (-51), 3) := by decide +kernel
theorem dX1_placeOften_79 : decode cX1_placeOften 79 = .ok (.iconst 0, 1) := by decide +kernel
theorem dX1_placeOften_80 : decode cX1_placeOften 80 = .ok (.ireturn, 1) := by decide +kernel
theorem dX1_placeSeldom_0 : decode cX1_placeSeldom 0 = .ok (.aload_n 0, 1) := by decide +kernel
theorem dX1_placeSeldom_1 : decode cX1_placeSeldom 1 = .ok (.getfield 15, 3) := by decide +kernel
theorem dX1_placeSeldom_4 : decode cX1_placeSeldom 4 = .ok (.iload_n 2, 1) := by decide +kernel
theorem dX1_placeSeldom_5 : decode cX1_placeSeldom 5 = .ok (.if_icmp .ge 5, 3) := by decide +kernel
theorem dX1_placeSeldom_8 : decode cX1_placeSeldom 8 = .ok (.iconst 0, 1) := by decide +kernel
theorem dX1_placeSeldom_9 : decode cX1_placeSeldom 9 = .ok (.ireturn, 1) := by decide +kernel
theorem dX1_placeSeldom_10 : decode cX1_placeSeldom 10 = .ok (.iconst 0, 1) := by decide +kernel
theorem dX1_placeSeldom_11 : decode cX1_placeSeldom 11 = .ok (.istore_n 3, 1) := by decide +kernel
theorem dX1_placeSeldom_12 : decode cX1_placeSeldom 12 = .ok (.iload_n 3, 1) := by decide +kernel
theorem dX1_placeSeldom_13 : decode cX1_placeSeldom 13 = .ok (.aload_n 0, 1) := by decide +kernel
theorem dX1_placeSeldom_14 : decode cX1_placeSeldom 14 = .ok (.invokevirtual 48, 3) := by decide +kernel
theorem dX1_placeSeldom_17 : decode cX1_placeSeldom 17 = .ok (.if_icmp .ge 46, 3) := by decide +kernel
theorem dX1_placeSeldom_20 : decode cX1_placeSeldom 20 = .ok (.iconst 0, 1) := by decide +kernel
theorem dX1_placeSeldom_21 : decode cX1_placeSeldom 21 = .ok (.istore 4, 2) := by decide +kernel
theorem dX1_placeSeldom_23 : decode cX1_placeSeldom 23 = .ok (.iload 4, 2) := by decide +kernel
theorem dX1_placeSeldom_25 : decode cX1_placeSeldom 25 = .ok (.iload_n 2, 1) := by decide +kernel
theorem dX1_placeSeldom_26 : decode cX1_placeSeldom 26 = .ok (.if_icmp .ge 31, 3) := by decide +kernel
theorem dX1_placeSeldom_29 : decode cX1_placeSeldom 29 = .ok (.aload_n 0, 1) := by decide +kernel
theorem dX1_placeSeldom_30 : decode cX1_placeSeldom 30 = .ok (.iload_n 3, 1) := by decide +kernel
theorem dX1_placeSeldom_31 : decode cX1_placeSeldom 31 = .ok (.iload 4, 2) := by decide +kernel
theorem dX1_placeSeldom_33 : decode cX1_placeSeldom 33 = .ok (.iload_n 2, 1) := by decide +kernel
theorem dX1_placeSeldom_34 : decode cX1_placeSeldom 34 = .ok (.invokevirtual 60, 3) := by decide +kernel
theorem dX1_placeSeldom_37 : decode cX1_placeSeldom 37 = .ok (.ifCond .eq 14, 3) := by decide +kernel
theorem dX1_placeSeldom_40 : decode cX1_placeSeldom 40 = .ok (.aload_n 0, 1) := by decide +kernel
theorem dX1_placeSeldom_41 : decode cX1_placeSeldom 41 = .ok (.iload_n 3, 1) := by decide +kernel
theorem dX1_placeSeldom_42 : decode cX1_placeSeldom 42 = .ok (.iload 4, 2) := by decide +kernel
theorem dX1_placeSeldom_44 : decode cX1_placeSeldom 44 = .ok (.iload_n 2, 1) := by decide +kernel
theorem dX1_placeSeldom_45 : decode cX1_placeSeldom 45 = .ok (.iload_n 1, 1) := by decide +kernel
theorem dX1_placeSeldom_46 : decode cX1_placeSeldom 46 = .ok (.invokevirtual 56, 3) := by decide +kernel
theorem dX1_placeSeldom_49 : decode cX1_placeSeldom 49 = .ok (.iconst 1, 1) := by decide +kernel
theorem dX1_placeSeldom_50 : decode cX1_placeSeldom 50 = .ok (.ireturn, 1) := by decide +kernel
theorem dX1_placeSeldom_51 : decode cX1_placeSeldom 51 = .ok (.iinc 4 1, 3) := by decide +kernel
theorem dX1_placeSeldom_54 : decode cX1_placeSeldom 54 = .ok (.goto (-31), 3) := by decide +kernel
theorem dX1_placeSeldom_57 : decode cX1_placeSeldom 57 = .ok (.iinc 3 1, 3) := by decide +kernel
theorem dX1_placeSeldom_60 : decode cX1_placeSeldom 60 = .ok (.goto (-48), 3) := by decide +kernel
theorem dX1_placeSeldom_63 : decode cX1_placeSeldom 63 = .ok (.iconst 0, 1) := by decide +kernel
theorem dX1_placeSeldom_64 : decode cX1_placeSeldom 64 = .ok (.ireturn, 1) := by decide +kernel
theorem dX1_areFree_0 : decode cX1_areFree 0 = .ok (.iconst 0, 1) := by decide +kernel
theorem dX1_areFree_1 : decode cX1_areFree 1 = .ok (.istore 4, 2) := by decide +kernel
theorem dX1_areFree_3 : decode cX1_areFree 3 = .ok (.iload 4, 2) := by decide +kernel
theorem dX1_areFree_5 : decode cX1_areFree 5 = .ok (.iload_n 3, 1) := by decide +kernel
theorem dX1_areFree_6 : decode cX1_areFree 6 = .ok (.if_icmp .ge 26, 3) := by decide +kernel
theorem dX1_areFree_9 : decode cX1_areFree 9 = .ok (.aload_n 0, 1) := by decide +kernel
theorem dX1_areFree_10 : decode cX1_areFree 10 = .ok (.iload_n 1, 1) := by decide +kernel
theorem dX1_areFree_11 : decode cX1_areFree 11 = .ok (.iload 4, 2) := by decide +kernel
theorem dX1_areFree_13 : decode cX1_areFree 13 = .ok (.iload_n 2, 1) := by decide +kernel
theorem dX1_areFree_14 : decode cX1_areFree 14 = .ok (.imul, 1) := by decide +kernel
theorem dX1_areFree_15 : decode cX1_areFree 15 = .ok (.iadd, 1) := by decide +kernel
theorem dX1_areFree_16 : decode cX1_areFree 16 = .ok (.iconst 0, 1) := by decide +kernel
theorem dX1_areFree_17 : decode cX1_areFree 17 = .ok (.iconst 1, 1) := by decide +kernel
theorem dX1_areFree_18 : decode cX1_areFree 18 = .ok (.invokevirtual 60, 3) := by decide +kernel
theorem dX1_areFree_21 : decode cX1_areFree 21 = .ok (.ifCond .ne 5, 3) := by decide +kernel
theorem dX1_areFree_24 : decode cX1_areFree 24 = .ok (.iconst 0, 1) := by decide +kernel
theorem dX1_areFree_25 : decode cX1_areFree 25 = .ok (.ireturn, 1) := by decide +kernel
theorem dX1_areFree_26 : decode cX1_areFree 26 = .ok (.iinc 4 1, 3) := by decide +kernel
theorem dX1_areFree_29 : decode cX1_areFree 29 = .ok (.goto (-26), 3) := by decide +kernel
theorem dX1_areFree_32 : decode cX1_areFree 32 = .ok (.iconst 1, 1) := by decide +kernel
theorem dX1_areFree_33 : decode cX1_areFree 33 = .ok (.ireturn, 1) := by decide +kernel
theorem dX1_minorsOf_0 : decode cX1_minorsOf 0 = .ok (.iload_n 1, 1) := by decide +kernel
theorem dX1_minorsOf_1 : decode cX1_minorsOf 1 = .ok (.ifCond .le 12, 3) := by decide +kernel
theorem dX1_minorsOf_4 : decode cX1_minorsOf 4 = .ok (.aload_n 0, 1) := by decide +kernel
theorem dX1_minorsOf_5 : decode cX1_minorsOf 5 = .ok (.getfield 15, 3) := by decide +kernel
theorem dX1_minorsOf_8 : decode cX1_minorsOf 8 = .ok (.iload_n 1, 1) := by decide +kernel
theorem dX1_minorsOf_9 : decode cX1_minorsOf 9 = .ok (.idiv, 1) := by decide +kernel
theorem dX1_minorsOf_10 : decode cX1_minorsOf 10 = .ok (.goto 4, 3) := by decide +kernel
theorem dX1_minorsOf_13 : decode cX1_minorsOf 13 = .ok (.iconst 0, 1) := by decide +kernel
theorem dX1_minorsOf_14 : decode cX1_minorsOf 14 = .ok (.ireturn, 1) := by decide +kernel
theorem dX1_isFree_0 : decode cX1_isFree 0 = .ok (.aload_n 0, 1) := by decide +kernel
theorem dX1_isFree_1 : decode cX1_isFree 1 = .ok (.iload_n 3, 1) := by decide +kernel
theorem dX1_isFree_2 : decode cX1_isFree 2 = .ok (.invokevirtual 63, 3) := by decide +kernel
theorem dX1_isFree_5 : decode cX1_isFree 5 = .ok (.istore 4, 2) := by decide +kernel
theorem dX1_isFree_7 : decode cX1_isFree 7 = .ok (.iconst 0, 1) := by decide +kernel
theorem dX1_isFree_8 : decode cX1_isFree 8 = .ok (.istore 5, 2) := by decide +kernel
theorem dX1_isFree_10 : decode cX1_isFree 10 = .ok (.iload 5, 2) := by decide +kernel
theorem dX1_isFree_12 : decode cX1_isFree 12 = .ok (.iload 4, 2) := by decide +kernel
theorem dX1_isFree_14 : decode cX1_isFree 14 = .ok (.if_icmp .ge 28, 3) := by decide +kernel
theorem dX1_isFree_17 : decode cX1_isFree 17 = .ok (.aload_n 0, 1) := by decide +kernel
theorem dX1_isFree_18 : decode cX1_isFree 18 = .ok (.iload_n 2, 1) := by decide +kernel
theorem dX1_isFree_19 : decode cX1_isFree 19 = .ok (.iload 5, 2) := by decide +kernel
theorem dX1_isFree_21 : decode cX1_isFree 21 = .ok (.iload_n 3, 1) := by decide +kernel
theorem dX1_isFree_22 : decode cX1_isFree 22 = .ok (.imul, 1) := by decide +kernel
theorem dX1_isFree_23 : decode cX1_isFree 23 = .ok (.iadd, 1) := by decide +kernel
theorem dX1_isFree_24 : decode cX1_isFree 24 = .ok (.iconst 3, 1) := by decide +kernel
theorem dX1_isFree_25 : decode cX1_isFree 25 = .ok (.iload_n 1, 1) := by decide +kernel
theorem dX1_isFree_26 : decode cX1_isFree 26 = .ok (.iadd, 1) := by decide +kernel
theorem dX1_isFree_27 : decode cX1_isFree 27 = .ok (.invokevirtual 67, 3) := by decide +kernel
theorem dX1_isFree_30 : decode cX1_isFree 30 = .ok (.iconst (-1), 1) := by decide +kernel
theorem dX1_isFree_31 : decode cX1_isFree 31 = .ok (.if_icmp .eq 5, 3) := by decide +kernel
theorem dX1_isFree_34 : decode cX1_isFree 34 = .ok (.iconst 0, 1) := by decide +kernel
theorem dX1_isFree_35 : decode cX1_isFree 35 = .ok (.ireturn, 1) := by decide +kernel
theorem dX1_isFree_36 : decode cX1_isFree 36 = .ok (.iinc 5 1, 3) := by decide +kernel
theorem dX1_isFree_39 : decode cX1_isFree 39 = .ok (.goto (-29), 3) := by decide +kernel
theorem dX1_isFree_42 : decode cX1_isFree 42 = .ok (.iconst 1, 1) := by decide +kernel
theorem dX1_isFree_43 : decode cX1_isFree 43 = .ok (.ireturn, 1) := by decide +kernel
theorem dX1_giveColumn_0 : decode cX1_giveColumn 0 = .ok (.aload_n 0, 1) := by decide +kernel
theorem dX1_giveColumn_1 : decode cX1_giveColumn 1 = .ok (.iload_n 3, 1) := by decide +kernel
theorem dX1_giveColumn_2 : decode cX1_giveColumn 2 = .ok (.invokevirtual 63, 3) := by decide +kernel
theorem dX1_giveColumn_5 : decode cX1_giveColumn 5 = .ok (.istore 5, 2) := by decide +kernel
theorem dX1_giveColumn_7 : decode cX1_giveColumn 7 = .ok (.iconst 0, 1) := by decide +kernel
theorem dX1_giveColumn_8 : decode cX1_giveColumn 8 = .ok (.istore 6, 2) := by decide +kernel
theorem dX1_giveColumn_10 : decode cX1_giveColumn 10 = .ok (.iload 6, 2) := by decide +kernel
theorem dX1_giveColumn_12 : decode cX1_giveColumn 12 = .ok (.iload 5, 2) := by decide +kernel
theorem dX1_giveColumn_14 : decode cX1_giveColumn 14 = .ok (.if_icmp .ge 24, 3) := by decide +kernel
theorem dX1_giveColumn_17 : decode cX1_giveColumn 17 = .ok (.aload_n 0, 1) := by decide +kernel
theorem dX1_giveColumn_18 : decode cX1_giveColumn 18 = .ok (.iload_n 2, 1) := by decide +kernel
theorem dX1_giveColumn_19 : decode cX1_giveColumn 19 = .ok (.iload 6, 2) := by decide +kernel
theorem dX1_giveColumn_21 : decode cX1_giveColumn 21 = .ok (.iload_n 3, 1) := by decide +kernel
theorem dX1_giveColumn_22 : decode cX1_giveColumn 22 = .ok (.imul, 1) := by decide +kernel
theorem dX1_giveColumn_23 : decode cX1_giveColumn 23 = .ok (.iadd, 1) := by decide +kernel
theorem dX1_giveColumn_24 : decode cX1_giveColumn 24 = .ok (.iconst 3, 1) := by decide +kernel
theorem dX1_giveColumn_25 : decode cX1_giveColumn 25 = .ok (.iload_n 1, 1) := by decide +kernel
theorem dX1_giveColumn_26 : decode cX1_giveColumn 26 = .ok (.iadd, 1) := by decide +kernel
theorem dX1_giveColumn_27 : decode cX1_giveColumn 27 = .ok (.iload 4, 2) := by decide +kernel
theorem dX1_giveColumn_29 : decode cX1_giveColumn 29 = .ok (.invokevirtual 71, 3) := by decide +kernel
theorem dX1_giveColumn_32 : decode cX1_giveColumn 32 = .ok (.iinc 6 1, 3) := by decide +kernel
theorem dX1_giveColumn_35 : decode cX1_giveColumn 35 = .ok (.goto (-25), 3) := by decide +kernel
theorem dX1_giveColumn_38 : decode cX1_giveColumn 38 = .ok (.return_, 1) := by decide +kernel
theorem dX1_mixInto_0 : decode cX1_mixInto 0 = .ok (.aload_n 0, 1) := by decide +kernel
theorem dX1_mixInto_1 : decode cX1_mixInto 1 = .ok (.getfield 18, 3) := by decide +kernel
theorem dX1_mixInto_4 : decode cX1_mixInto 4 = .ok (.ifCond .ne 9, 3) := by decide +kernel
theorem dX1_mixInto_7 : decode cX1_mixInto 7 = .ok (.lload_n 1, 1) := by decide +kernel
theorem dX1_mixInto_8 : decode cX1_mixInto 8 = .ok (.lconst 0, 1) := by decide +kernel
theorem dX1_mixInto_9 : decode cX1_mixInto 9 = .ok (.invokestatic 75, 3) := by decide +kernel
theorem dX1_mixInto_12 : decode cX1_mixInto 12 = .ok (.lreturn, 1) := by decide +kernel
theorem dX1_mixInto_13 : decode cX1_mixInto 13 = .ok (.lload_n 1, 1) := by decide +kernel
theorem dX1_mixInto_14 : decode cX1_mixInto 14 = .ok (.lconst 1, 1) := by decide +kernel
theorem dX1_mixInto_15 : decode cX1_mixInto 15 = .ok (.invokestatic 75, 3) := by decide +kernel
theorem dX1_mixInto_18 : decode cX1_mixInto 18 = .ok (.lstore_n 3, 1) := by decide +kernel
theorem dX1_mixInto_19 : decode cX1_mixInto 19 = .ok (.iconst 0, 1) := by decide +kernel
theorem dX1_mixInto_20 : decode cX1_mixInto 20 = .ok (.istore 5, 2) := by decide +kernel
theorem dX1_mixInto_22 : decode cX1_mixInto 22 = .ok (.iload 5, 2) := by decide +kernel
theorem dX1_mixInto_24 : decode cX1_mixInto 24 = .ok (.aload_n 0, 1) := by decide +kernel
theorem dX1_mixInto_25 : decode cX1_mixInto 25 = .ok (.getfield 15, 3) := by decide +kernel
theorem dX1_mixInto_28 : decode cX1_mixInto 28 = .ok (.if_icmp .ge 41, 3) := by decide +kernel
theorem dX1_mixInto_31 : decode cX1_mixInto 31 = .ok (.iconst 0, 1) := by decide +kernel
theorem dX1_mixInto_32 : decode cX1_mixInto 32 = .ok (.istore 6, 2) := by decide +kernel
theorem dX1_mixInto_34 : decode cX1_mixInto 34 = .ok (.iload 6, 2) := by decide +kernel
theorem dX1_mixInto_36 : decode cX1_mixInto 36 = .ok (.aload_n 0, 1) := by decide +kernel
theorem dX1_mixInto_37 : decode cX1_mixInto 37 = .ok (.getfield 9, 3) := by decide +kernel
theorem dX1_mixInto_40 : decode cX1_mixInto 40 = .ok (.if_icmp .ge 23, 3) := by decide +kernel
theorem dX1_mixInto_43 : decode cX1_mixInto 43 = .ok (.lload_n 3, 1) := by decide +kernel
theorem dX1_mixInto_44 : decode cX1_mixInto 44 = .ok (.aload_n 0, 1) := by decide +kernel
theorem dX1_mixInto_45 : decode cX1_mixInto 45 = .ok (.iload 5, 2) := by decide +kernel
theorem dX1_mixInto_47 : decode cX1_mixInto 47 = .ok (.iload 6, 2) := by decide +kernel
theorem dX1_mixInto_49 : decode cX1_mixInto 49 = .ok (.invokevirtual 67, 3) := by decide +kernel
theorem dX1_mixInto_52 : decode cX1_mixInto 52 = .ok (.i2l, 1) := by decide +kernel
theorem dX1_mixInto_53 : decode cX1_mixInto 53 = .ok (.invokestatic 75, 3) := by decide +kernel
theorem dX1_mixInto_56 : decode cX1_mixInto 56 = .ok (.lstore_n 3, 1) := by decide +kernel
theorem dX1_mixInto_57 : decode cX1_mixInto 57 = .ok (.iinc 6 1, 3) := by decide +kernel
theorem dX1_mixInto_60 : decode cX1_mixInto 60 = .ok (.goto (-26), 3) := by decide +kernel
theorem dX1_mixInto_63 : decode cX1_mixInto 63 = .ok (.iinc 5 1, 3) := by decide +kernel
theorem dX1_mixInto_66 : decode cX1_mixInto 66 = .ok (.goto (-44), 3) := by decide +kernel
theorem dX1_mixInto_69 : decode cX1_mixInto 69 = .ok (.lload_n 3, 1) := by decide +kernel
theorem dX1_mixInto_70 : decode cX1_mixInto 70 = .ok (.lreturn, 1) := by decide +kernel
theorem dX2_init_0 : decode cX2_init 0 = .ok (.aload_n 0, 1) := by decide +kernel
theorem dX2_init_1 : decode cX2_init 1 = .ok (.invokespecial 3, 3) := by decide +kernel
theorem dX2_init_4 : decode cX2_init 4 = .ok (.aload_n 0, 1) := by decide +kernel
theorem dX2_init_5 : decode cX2_init 5 = .ok (.iconst 3, 1) := by decide +kernel
theorem dX2_init_6 : decode cX2_init 6 = .ok (.newarray .int, 2) := by decide +kernel
theorem dX2_init_8 : decode cX2_init 8 = .ok (.putfield 9, 3) := by decide +kernel
theorem dX2_init_11 : decode cX2_init 11 = .ok (.aload_n 0, 1) := by decide +kernel
theorem dX2_init_12 : decode cX2_init 12 = .ok (.iconst 3, 1) := by decide +kernel
theorem dX2_init_13 : decode cX2_init 13 = .ok (.newarray .int, 2) := by decide +kernel
theorem dX2_init_15 : decode cX2_init 15 = .ok (.putfield 15, 3) := by decide +kernel
theorem dX2_init_18 : decode cX2_init 18 = .ok (.return_, 1) := by decide +kernel
theorem dX2_begin_0 : decode cX2_begin 0 = .ok (.aload_n 0, 1) := by decide +kernel
theorem dX2_begin_1 : decode cX2_begin 1 = .ok (.iload_n 1, 1) := by decide +kernel
theorem dX2_begin_2 : decode cX2_begin 2 = .ok (.putfield 18, 3) := by decide +kernel
theorem dX2_begin_5 : decode cX2_begin 5 = .ok (.aload_n 0, 1) := by decide +kernel
theorem dX2_begin_6 : decode cX2_begin 6 = .ok (.iconst 0, 1) := by decide +kernel
theorem dX2_begin_7 : decode cX2_begin 7 = .ok (.putfield 22, 3) := by decide +kernel
theorem dX2_begin_10 : decode cX2_begin 10 = .ok (.aload_n 0, 1) := by decide +kernel
theorem dX2_begin_11 : decode cX2_begin 11 = .ok (.iconst (-1), 1) := by decide +kernel
theorem dX2_begin_12 : decode cX2_begin 12 = .ok (.putfield 25, 3) := by decide +kernel
theorem dX2_begin_15 : decode cX2_begin 15 = .ok (.aload_n 0, 1) := by decide +kernel
theorem dX2_begin_16 : decode cX2_begin 16 = .ok (.iconst 0, 1) := by decide +kernel
theorem dX2_begin_17 : decode cX2_begin 17 = .ok (.putfield 28, 3) := by decide +kernel
theorem dX2_begin_20 : decode cX2_begin 20 = .ok (.aload_n 0, 1) := by decide +kernel
theorem dX2_begin_21 : decode cX2_begin 21 = .ok (.getfield 9, 3) := by decide +kernel
theorem dX2_begin_24 : decode cX2_begin 24 = .ok (.iconst 0, 1) := by decide +kernel
theorem dX2_begin_25 : decode cX2_begin 25 = .ok (.invokestatic 31, 3) := by decide +kernel
theorem dX2_begin_28 : decode cX2_begin 28 = .ok (.aload_n 0, 1) := by decide +kernel
theorem dX2_begin_29 : decode cX2_begin 29 = .ok (.getfield 15, 3) := by decide +kernel
theorem dX2_begin_32 : decode cX2_begin 32 = .ok (.sipush 255, 3) := by decide +kernel
theorem dX2_begin_35 : decode cX2_begin 35 = .ok (.invokestatic 31, 3) := by decide +kernel
theorem dX2_begin_38 : decode cX2_begin 38 = .ok (.aload_n 0, 1) := by decide +kernel
theorem dX2_begin_39 : decode cX2_begin 39 = .ok (.iconst 1, 1) := by decide +kernel
theorem dX2_begin_40 : decode cX2_begin 40 = .ok (.putfield 37, 3) := by decide +kernel
theorem dX2_begin_43 : decode cX2_begin 43 = .ok (.aload_n 0, 1) := by decide +kernel
theorem dX2_begin_44 : decode cX2_begin 44 = .ok (.iconst 0, 1) := by decide +kernel
theorem dX2_begin_45 : decode cX2_begin 45 = .ok (.putfield 40, 3) := by decide +kernel
theorem dX2_begin_48 : decode cX2_begin 48 = .ok (.aload_n 0, 1) := by decide +kernel
theorem dX2_begin_49 : decode cX2_begin 49 = .ok (.iconst 0, 1) := by decide +kernel
theorem dX2_begin_50 : decode cX2_begin 50 = .ok (.putfield 44, 3) := by decide +kernel
theorem dX2_begin_53 : decode cX2_begin 53 = .ok (.aload_n 0, 1) := by decide +kernel
theorem dX2_begin_54 : decode cX2_begin 54 = .ok (.iconst 0, 1) := by decide +kernel
theorem dX2_begin_55 : decode cX2_begin 55 = .ok (.putfield 47, 3) := by decide +kernel
theorem dX2_begin_58 : decode cX2_begin 58 = .ok (.return_, 1) := by decide +kernel
theorem dX2_copyFrom_0 : decode cX2_copyFrom 0 = .ok (.aload_n 0, 1) := by decide +kernel
theorem dX2_copyFrom_1 : decode cX2_copyFrom 1 = .ok (.aload_n 1, 1) := by decide +kernel
theorem dX2_copyFrom_2 : decode cX2_copyFrom 2 = .ok (.getfield 18, 3) := by decide +kernel
theorem dX2_copyFrom_5 : decode cX2_copyFrom 5 = .ok (.putfield 18, 3) := by decide +kernel
theorem dX2_copyFrom_8 : decode cX2_copyFrom 8 = .ok (.aload_n 0, 1) := by decide +kernel
theorem dX2_copyFrom_9 : decode cX2_copyFrom 9 = .ok (.aload_n 1, 1) := by decide +kernel
theorem dX2_copyFrom_10 : decode cX2_copyFrom 10 = .ok (.getfield 22, 3) := by decide +kernel
theorem dX2_copyFrom_13 : decode cX2_copyFrom 13 = .ok (.putfield 22, 3) := by decide +kernel
theorem dX2_copyFrom_16 : decode cX2_copyFrom 16 = .ok (.aload_n 0, 1) := by decide +kernel
theorem dX2_copyFrom_17 : decode cX2_copyFrom 17 = .ok (.aload_n 1, 1) := by decide +kernel
theorem dX2_copyFrom_18 : decode cX2_copyFrom 18 = .ok (.getfield 25, 3) := by decide +kernel
theorem dX2_copyFrom_21 : decode cX2_copyFrom 21 = .ok (.putfield 25, 3) := by decide +kernel
theorem dX2_copyFrom_24 : decode cX2_copyFrom 24 = .ok (.aload_n 0, 1) := by decide +kernel
theorem dX2_copyFrom_25 : decode cX2_copyFrom 25 = .ok (.aload_n 1, 1) := by decide +kernel
theorem dX2_copyFrom_26 : decode cX2_copyFrom 26 = .ok (.getfield 28, 3) := by decide +kernel
theorem dX2_copyFrom_29 : decode cX2_copyFrom 29 = .ok (.putfield 28, 3) := by decide +kernel
theorem dX2_copyFrom_32 : decode cX2_copyFrom 32 = .ok (.aload_n 1, 1) := by decide +kernel
theorem dX2_copyFrom_33 : decode cX2_copyFrom 33 = .ok (.getfield 9, 3) := by decide +kernel
theorem dX2_copyFrom_36 : decode cX2_copyFrom 36 = .ok (.iconst 0, 1) := by decide +kernel
theorem dX2_copyFrom_37 : decode cX2_copyFrom 37 = .ok (.aload_n 0, 1) := by decide +kernel
theorem dX2_copyFrom_38 : decode cX2_copyFrom 38 = .ok (.getfield 9, 3) := by decide +kernel
theorem dX2_copyFrom_41 : decode cX2_copyFrom 41 = .ok (.iconst 0, 1) := by decide +kernel
theorem dX2_copyFrom_42 : decode cX2_copyFrom 42 = .ok (.iconst 3, 1) := by decide +kernel
theorem dX2_copyFrom_43 : decode cX2_copyFrom 43 = .ok (.invokestatic 50, 3) := by decide +kernel
theorem dX2_copyFrom_46 : decode cX2_copyFrom 46 = .ok (.aload_n 1, 1) := by decide +kernel
theorem dX2_copyFrom_47 : decode cX2_copyFrom 47 = .ok (.getfield 15, 3) := by decide +kernel
theorem dX2_copyFrom_50 : decode cX2_copyFrom 50 = .ok (.iconst 0, 1) := by decide +kernel
theorem dX2_copyFrom_51 : decode cX2_copyFrom 51 = .ok (.aload_n 0, 1) := by decide +kernel
theorem dX2_copyFrom_52 : decode cX2_copyFrom 52 = .ok (.getfield 15, 3) := by decide +kernel
theorem dX2_copyFrom_55 : decode cX2_copyFrom 55 = .ok (.iconst 0, 1) := by decide +kernel
theorem dX2_copyFrom_56 : decode cX2_copyFrom 56 = .ok (.iconst 3, 1) := by decide +kernel
theorem dX2_copyFrom_57 : decode cX2_copyFrom 57 = .ok (.invokestatic 50, 3) := by decide +kernel
theorem dX2_copyFrom_60 : decode cX2_copyFrom 60 = .ok (.aload_n 0, 1) := by decide +kernel
theorem dX2_copyFrom_61 : decode cX2_copyFrom 61 = .ok (.aload_n 1, 1) := by decide +kernel
theorem dX2_copyFrom_62 : decode cX2_copyFrom 62 = .ok (.getfield 37, 3) := by decide +kernel
theorem dX2_copyFrom_65 : decode cX2_copyFrom 65 = .ok (.putfield 37, 3) := by decide +kernel
theorem dX2_copyFrom_68 : decode cX2_copyFrom 68 = .ok (.aload_n 0, 1) := by decide +kernel
theorem dX2_copyFrom_69 : decode cX2_copyFrom 69 = .ok (.aload_n 1, 1) := by decide +kernel
theorem dX2_copyFrom_70 : decode cX2_copyFrom 70 = .ok (.getfield 40, 3) := by decide +kernel
theorem dX2_copyFrom_73 : decode cX2_copyFrom 73 = .ok (.putfield 40, 3) := by decide +kernel
theorem dX2_copyFrom_76 : decode cX2_copyFrom 76 = .ok (.aload_n 0, 1) := by decide +kernel
theorem dX2_copyFrom_77 : decode cX2_copyFrom 77 = .ok (.aload_n 1, 1) := by decide +kernel
theorem dX2_copyFrom_78 : decode cX2_copyFrom 78 = .ok (.getfield 44, 3) := by decide +kernel
theorem dX2_copyFrom_81 : decode cX2_copyFrom 81 = .ok (.putfield 44, 3) := by decide +kernel
theorem dX2_copyFrom_84 : decode cX2_copyFrom 84 = .ok (.aload_n 0, 1) := by decide +kernel
theorem dX2_copyFrom_85 : decode cX2_copyFrom 85 = .ok (.aload_n 1, 1) := by decide +kernel
theorem dX2_copyFrom_86 : decode cX2_copyFrom 86 = .ok (.getfield 47, 3) := by decide +kernel
theorem dX2_copyFrom_89 : decode cX2_copyFrom 89 = .ok (.putfield 47, 3) := by decide +kernel
theorem dX2_copyFrom_92 : decode cX2_copyFrom 92 = .ok (.return_, 1) := by decide +kernel
theorem dX2_samplesIn_0 : decode cX2_samplesIn 0 = .ok (.aload_n 0, 1) := by decide +kernel
theorem dX2_samplesIn_1 : decode cX2_samplesIn 1 = .ok (.getfield 18, 3) := by decide +kernel
theorem dX2_samplesIn_4 : decode cX2_samplesIn 4 = .ok (.ifCond .lt 12, 3) := by decide +kernel
theorem dX2_samplesIn_7 : decode cX2_samplesIn 7 = .ok (.aload_n 0, 1) := by decide +kernel
theorem dX2_samplesIn_8 : decode cX2_samplesIn 8 = .ok (.getfield 18, 3) := by decide +kernel
theorem dX2_samplesIn_11 : decode cX2_samplesIn 11 = .ok (.iload_n 1, 1) := by decide +kernel
theorem dX2_samplesIn_12 : decode cX2_samplesIn 12 = .ok (.imul, 1) := by decide +kernel
theorem dX2_samplesIn_13 : decode cX2_samplesIn 13 = .ok (.goto 10, 3) := by decide +kernel
theorem dX2_samplesIn_16 : decode cX2_samplesIn 16 = .ok (.iload_n 1, 1) := by decide +kernel
theorem dX2_samplesIn_17 : decode cX2_samplesIn 17 = .ok (.aload_n 0, 1) := by decide +kernel
theorem dX2_samplesIn_18 : decode cX2_samplesIn 18 = .ok (.getfield 18, 3) := by decide +kernel
theorem dX2_samplesIn_21 : decode cX2_samplesIn 21 = .ok (.ineg, 1) := by decide +kernel
theorem dX2_samplesIn_22 : decode cX2_samplesIn 22 = .ok (.idiv, 1) := by decide +kernel
theorem dX2_samplesIn_23 : decode cX2_samplesIn 23 = .ok (.ireturn, 1) := by decide +kernel
theorem dX2_takeSample_0 : decode cX2_takeSample 0 = .ok (.aload_n 0, 1) := by decide +kernel
theorem dX2_takeSample_1 : decode cX2_takeSample 1 = .ok (.iload_n 1, 1) := by decide +kernel
theorem dX2_takeSample_2 : decode cX2_takeSample 2 = .ok (.putfield 25, 3) := by decide +kernel
theorem dX2_takeSample_5 : decode cX2_takeSample 5 = .ok (.aload_n 0, 1) := by decide +kernel
theorem dX2_takeSample_6 : decode cX2_takeSample 6 = .ok (.dup, 1) := by decide +kernel
theorem dX2_takeSample_7 : decode cX2_takeSample 7 = .ok (.getfield 28, 3) := by decide +kernel
theorem dX2_takeSample_10 : decode cX2_takeSample 10 = .ok (.iconst 1, 1) := by decide +kernel
theorem dX2_takeSample_11 : decode cX2_takeSample 11 = .ok (.iadd, 1) := by decide +kernel
theorem dX2_takeSample_12 : decode cX2_takeSample 12 = .ok (.putfield 28, 3) := by decide +kernel
theorem dX2_takeSample_15 : decode cX2_takeSample 15 = .ok (.aload_n 0, 1) := by decide +kernel
theorem dX2_takeSample_16 : decode cX2_takeSample 16 = .ok (.iload_n 1, 1) := by decide +kernel
theorem dX2_takeSample_17 : decode cX2_takeSample 17 = .ok (.iload_n 2, 1) := by decide +kernel
theorem dX2_takeSample_18 : decode cX2_takeSample 18 = .ok (.invokevirtual 56, 3) := by decide +kernel
theorem dX2_takeSample_21 : decode cX2_takeSample 21 = .ok (.ifCond .eq 14, 3) := by decide +kernel
theorem dX2_takeSample_24 : decode cX2_takeSample 24 = .ok (.aload_n 0, 1) := by decide +kernel
theorem dX2_takeSample_25 : decode cX2_takeSample 25 = .ok (.iconst 0, 1) := by decide +kernel
theorem dX2_takeSample_26 : decode cX2_takeSample 26 = .ok (.putfield 40, 3) := by decide +kernel
theorem dX2_takeSample_29 : decode cX2_takeSample 29 = .ok (.aload_n 0, 1) := by decide +kernel
theorem dX2_takeSample_30 : decode cX2_takeSample 30 = .ok (.iconst 0, 1) := by decide +kernel
theorem dX2_takeSample_31 : decode cX2_takeSample 31 = .ok (.putfield 44, 3) := by decide +kernel
theorem dX2_takeSample_34 : decode cX2_takeSample 34 = .ok (.return_, 1) := by decide +kernel
theorem dX2_takeSample_35 : decode cX2_takeSample 35 = .ok (.aload_n 0, 1) := by decide +kernel
theorem dX2_takeSample_36 : decode cX2_takeSample 36 = .ok (.dup, 1) := by decide +kernel
theorem dX2_takeSample_37 : decode cX2_takeSample 37 = .ok (.getfield 44, 3) := by decide +kernel
theorem dX2_takeSample_40 : decode cX2_takeSample 40 = .ok (.iconst 1, 1) := by decide +kernel
theorem dX2_takeSample_41 : decode cX2_takeSample 41 = .ok (.iadd, 1) := by decide +kernel
theorem dX2_takeSample_42 : decode cX2_takeSample 42 = .ok (.putfield 44, 3) := by decide +kernel
theorem dX2_takeSample_45 : decode cX2_takeSample 45 = .ok (.aload_n 0, 1) := by decide +kernel
theorem dX2_takeSample_46 : decode cX2_takeSample 46 = .ok (.getfield 44, 3) := by decide +kernel
theorem dX2_takeSample_49 : decode cX2_takeSample 49 = .ok (.aload_n 0, 1) := by decide +kernel
theorem dX2_takeSample_50 : decode cX2_takeSample 50 = .ok (.getfield 37, 3) := by decide +kernel
theorem dX2_takeSample_53 : decode cX2_takeSample 53 = .ok (.if_icmp .lt 25, 3) := by decide +kernel
theorem dX2_takeSample_56 : decode cX2_takeSample 56 = .ok (.aload_n 0, 1) := by decide +kernel
theorem dX2_takeSample_57 : decode cX2_takeSample 57 = .ok (.getfield 40, 3) := by decide +kernel
theorem dX2_takeSample_60 : decode cX2_takeSample 60 = .ok (.ifCond .ne 18, 3) := by decide +kernel
theorem dX2_takeSample_63 : decode cX2_takeSample 63 = .ok (.aload_n 0, 1) := by decide +kernel
theorem dX2_takeSample_64 : decode cX2_takeSample 64 = .ok (.iconst 1, 1) := by decide +kernel
theorem dX2_takeSample_65 : decode cX2_takeSample 65 = .ok (.putfield 40, 3) := by decide +kernel
theorem dX2_takeSample_68 : decode cX2_takeSample 68 = .ok (.aload_n 0, 1) := by decide +kernel
theorem dX2_takeSample_69 : decode cX2_takeSample 69 = .ok (.dup, 1) := by decide +kernel
theorem dX2_takeSample_70 : decode cX2_takeSample 70 = .ok (.getfield 47, 3) := by decide +kernel
theorem dX2_takeSample_73 : decode cX2_takeSample 73 = .ok (.iconst 1, 1) := by decide +kernel
theorem dX2_takeSample_74 : decode cX2_takeSample 74 = .ok (.iadd, 1) := by decide +kernel
theorem dX2_takeSample_75 : decode cX2_takeSample 75 = .ok (.putfield 47, 3) := by decide +kernel
theorem dX2_takeSample_78 : decode cX2_takeSample 78 = .ok (.return_, 1) := by decide +kernel
theorem dX2_isWithinLimits_0 : decode cX2_isWithinLimits 0 = .ok (.iload_n 2, 1) := by decide +kernel
theorem dX2_isWithinLimits_1 : decode cX2_isWithinLimits 1 = .ok (.ifCond .lt 28, 3) := by decide +kernel
theorem dX2_isWithinLimits_4 : decode cX2_isWithinLimits 4 = .ok (.iload_n 2, 1) := by decide +kernel
theorem dX2_isWithinLimits_5 : decode cX2_isWithinLimits 5 = .ok (.iconst 3, 1) := by decide +kernel
theorem dX2_isWithinLimits_6 : decode cX2_isWithinLimits 6 = .ok (.if_icmp .ge 23, 3) := by decide +kernel
theorem dX2_isWithinLimits_9 : decode cX2_isWithinLimits 9 = .ok (.iload_n 1, 1) := by decide +kernel
theorem dX2_isWithinLimits_10 : decode cX2_isWithinLimits 10 = .ok (.aload_n 0, 1) := by decide +kernel
theorem dX2_isWithinLimits_11 : decode cX2_isWithinLimits 11 = .ok (.getfield 9, 3) := by decide +kernel
theorem dX2_isWithinLimits_14 : decode cX2_isWithinLimits 14 = .ok (.iload_n 2, 1) := by decide +kernel
theorem dX2_isWithinLimits_15 : decode cX2_isWithinLimits 15 = .ok (.iaload, 1) := by decide +kernel
theorem dX2_isWithinLimits_16 : decode cX2_isWithinLimits 16 = .ok (.if_icmp .lt 17, 3) := by decide +kernel
theorem dX2_isWithinLimits_19 : decode cX2_isWithinLimits 19 = .ok (.iload_n 1, 1) := by decide +kernel
theorem dX2_isWithinLimits_20 : decode cX2_isWithinLimits 20 = .ok (.aload_n 0, 1) := by decide +kernel
theorem dX2_isWithinLimits_21 : decode cX2_isWithinLimits 21 = .ok (.getfield 15, 3) := by decide +kernel
theorem dX2_isWithinLimits_24 : decode cX2_isWithinLimits 24 = .ok (.iload_n 2, 1) := by decide +kernel
theorem dX2_isWithinLimits_25 : decode cX2_isWithinLimits 25 = .ok (.iaload, 1) := by decide +kernel
theorem dX2_isWithinLimits_26 : decode cX2_isWithinLimits 26 = .ok (.if_icmp .gt 7, 3) := by decide +kernel
theorem dX2_isWithinLimits_29 : decode cX2_isWithinLimits 29 = .ok (.iconst 1, 1) := by decide +kernel
theorem dX2_isWithinLimits_30 : decode cX2_isWithinLimits 30 = .ok (.goto 4, 3) := by decide +kernel
theorem dX2_isWithinLimits_33 : decode cX2_isWithinLimits 33 = .ok (.iconst 0, 1) := by decide +kernel
theorem dX2_isWithinLimits_34 : decode cX2_isWithinLimits 34 = .ok (.ireturn, 1) := by decide +kernel
theorem dX2_mixInto_0 : decode cX2_mixInto 0 = .ok (.lload_n 1, 1) := by decide +kernel
theorem dX2_mixInto_1 : decode cX2_mixInto 1 = .ok (.aload_n 0, 1) := by decide +kernel
theorem dX2_mixInto_2 : decode cX2_mixInto 2 = .ok (.getfield 18, 3) := by decide +kernel
theorem dX2_mixInto_5 : decode cX2_mixInto 5 = .ok (.i2l, 1) := by decide +kernel
theorem dX2_mixInto_6 : decode cX2_mixInto 6 = .ok (.invokestatic 60, 3) := by decide +kernel
theorem dX2_mixInto_9 : decode cX2_mixInto 9 = .ok (.lstore_n 3, 1) := by decide +kernel
theorem dX2_mixInto_10 : decode cX2_mixInto 10 = .ok (.lload_n 3, 1) := by decide +kernel
theorem dX2_mixInto_11 : decode cX2_mixInto 11 = .ok (.aload_n 0, 1) := by decide +kernel
theorem dX2_mixInto_12 : decode cX2_mixInto 12 = .ok (.getfield 22, 3) := by decide +kernel
theorem dX2_mixInto_15 : decode cX2_mixInto 15 = .ok (.i2l, 1) := by decide +kernel
theorem dX2_mixInto_16 : decode cX2_mixInto 16 = .ok (.invokestatic 60, 3) := by decide +kernel
theorem dX2_mixInto_19 : decode cX2_mixInto 19 = .ok (.lstore_n 3, 1) := by decide +kernel
theorem dX2_mixInto_20 : decode cX2_mixInto 20 = .ok (.lload_n 3, 1) := by decide +kernel
theorem dX2_mixInto_21 : decode cX2_mixInto 21 = .ok (.aload_n 0, 1) := by decide +kernel
theorem dX2_mixInto_22 : decode cX2_mixInto 22 = .ok (.getfield 25, 3) := by decide +kernel
theorem dX2_mixInto_25 : decode cX2_mixInto 25 = .ok (.i2l, 1) := by decide +kernel
theorem dX2_mixInto_26 : decode cX2_mixInto 26 = .ok (.invokestatic 60, 3) := by decide +kernel
theorem dX2_mixInto_29 : decode cX2_mixInto 29 = .ok (.lstore_n 3, 1) := by decide +kernel
theorem dX2_mixInto_30 : decode cX2_mixInto 30 = .ok (.lload_n 3, 1) := by decide +kernel
theorem dX2_mixInto_31 : decode cX2_mixInto 31 = .ok (.aload_n 0, 1) := by decide +kernel
theorem dX2_mixInto_32 : decode cX2_mixInto 32 = .ok (.getfield 28, 3) := by decide +kernel
theorem dX2_mixInto_35 : decode cX2_mixInto 35 = .ok (.i2l, 1) := by decide +kernel
theorem dX2_mixInto_36 : decode cX2_mixInto 36 = .ok (.invokestatic 60, 3) := by decide +kernel
theorem dX2_mixInto_39 : decode cX2_mixInto 39 = .ok (.lstore_n 3, 1) := by decide +kernel
theorem dX2_mixInto_40 : decode cX2_mixInto 40 = .ok (.iconst 0, 1) := by decide +kernel
theorem dX2_mixInto_41 : decode cX2_mixInto 41 = .ok (.istore 5, 2) := by decide +kernel
theorem dX2_mixInto_43 : decode cX2_mixInto 43 = .ok (.iload 5, 2) := by decide +kernel
theorem dX2_mixInto_45 : decode cX2_mixInto 45 = .ok (.iconst 3, 1) := by decide +kernel
theorem dX2_mixInto_46 : decode cX2_mixInto 46 = .ok (.if_icmp .ge 35, 3) := by decide +kernel
theorem dX2_mixInto_49 : decode cX2_mixInto 49 = .ok (.lload_n 3, 1) := by decide +kernel
theorem dX2_mixInto_50 : decode cX2_mixInto 50 = .ok (.aload_n 0, 1) := by decide +kernel
theorem dX2_mixInto_51 : decode cX2_mixInto 51 = .ok (.getfield 9, 3) := by decide +kernel
theorem dX2_mixInto_54 : decode cX2_mixInto 54 = .ok (.iload 5, 2) := by decide +kernel
theorem dX2_mixInto_56 : decode cX2_mixInto 56 = .ok (.iaload, 1) := by decide +kernel
theorem dX2_mixInto_57 : decode cX2_mixInto 57 = .ok (.i2l, 1) := by decide +kernel
theorem dX2_mixInto_58 : decode cX2_mixInto 58 = .ok (.invokestatic 60, 3) := by decide +kernel
theorem dX2_mixInto_61 : decode cX2_mixInto 61 = .ok (.lstore_n 3, 1) := by decide +kernel
theorem dX2_mixInto_62 : decode cX2_mixInto 62 = .ok (.lload_n 3, 1) := by decide +kernel
theorem dX2_mixInto_63 : decode cX2_mixInto 63 = .ok (.aload_n 0, 1) := by decide +kernel
theorem dX2_mixInto_64 : decode cX2_mixInto 64 = .ok (.getfield 15, 3) := by decide +kernel
theorem dX2_mixInto_67 : decode cX2_mixInto 67 = .ok (.iload 5, 2) := by decide +kernel
theorem dX2_mixInto_69 : decode cX2_mixInto 69 = .ok (.iaload, 1) := by decide +kernel
theorem dX2_mixInto_70 : decode cX2_mixInto 70 = .ok (.i2l, 1) := by decide +kernel
theorem dX2_mixInto_71 : decode cX2_mixInto 71 = .ok (.invokestatic 60, 3) := by decide +kernel
theorem dX2_mixInto_74 : decode cX2_mixInto 74 = .ok (.lstore_n 3, 1) := by decide +kernel
theorem dX2_mixInto_75 : decode cX2_mixInto 75 = .ok (.iinc 5 1, 3) := by decide +kernel
theorem dX2_mixInto_78 : decode cX2_mixInto 78 = .ok (.goto (-35), 3) := by decide +kernel
theorem dX2_mixInto_81 : decode cX2_mixInto 81 = .ok (.lload_n 3, 1) := by decide +kernel
theorem dX2_mixInto_82 : decode cX2_mixInto 82 = .ok (.aload_n 0, 1) := by decide +kernel
theorem dX2_mixInto_83 : decode cX2_mixInto 83 = .ok (.getfield 37, 3) := by decide +kernel
theorem dX2_mixInto_86 : decode cX2_mixInto 86 = .ok (.i2l, 1) := by decide +kernel
theorem dX2_mixInto_87 : decode cX2_mixInto 87 = .ok (.invokestatic 60, 3) := by decide +kernel
theorem dX2_mixInto_90 : decode cX2_mixInto 90 = .ok (.lstore_n 3, 1) := by decide +kernel
theorem dX2_mixInto_91 : decode cX2_mixInto 91 = .ok (.lload_n 3, 1) := by decide +kernel
theorem dX2_mixInto_92 : decode cX2_mixInto 92 = .ok (.aload_n 0, 1) := by decide +kernel
theorem dX2_mixInto_93 : decode cX2_mixInto 93 = .ok (.getfield 40, 3) := by decide +kernel
theorem dX2_mixInto_96 : decode cX2_mixInto 96 = .ok (.ifCond .eq 7, 3) := by decide +kernel
theorem dX2_mixInto_99 : decode cX2_mixInto 99 = .ok (.lconst 1, 1) := by decide +kernel
theorem dX2_mixInto_100 : decode cX2_mixInto 100 = .ok (.goto 4, 3) := by decide +kernel
theorem dX2_mixInto_103 : decode cX2_mixInto 103 = .ok (.lconst 0, 1) := by decide +kernel
theorem dX2_mixInto_104 : decode cX2_mixInto 104 = .ok (.invokestatic 60, 3) := by decide +kernel
theorem dX2_mixInto_107 : decode cX2_mixInto 107 = .ok (.lstore_n 3, 1) := by decide +kernel
theorem dX2_mixInto_108 : decode cX2_mixInto 108 = .ok (.lload_n 3, 1) := by decide +kernel
theorem dX2_mixInto_109 : decode cX2_mixInto 109 = .ok (.aload_n 0, 1) := by decide +kernel
theorem dX2_mixInto_110 : decode cX2_mixInto 110 = .ok (.getfield 44, 3) := by decide +kernel
theorem dX2_mixInto_113 : decode cX2_mixInto 113 = .ok (.i2l, 1) := by decide +kernel
theorem dX2_mixInto_114 : decode cX2_mixInto 114 = .ok (.invokestatic 60, 3) := by decide +kernel
theorem dX2_mixInto_117 : decode cX2_mixInto 117 = .ok (.lstore_n 3, 1) := by decide +kernel
theorem dX2_mixInto_118 : decode cX2_mixInto 118 = .ok (.lload_n 3, 1) := by decide +kernel
theorem dX2_mixInto_119 : decode cX2_mixInto 119 = .ok (.aload_n 0, 1) := by decide +kernel
theorem dX2_mixInto_120 : decode cX2_mixInto 120 = .ok (.getfield 47, 3) := by decide +kernel
theorem dX2_mixInto_123 : decode cX2_mixInto 123 = .ok (.i2l, 1) := by decide +kernel
theorem dX2_mixInto_124 : decode cX2_mixInto 124 = .ok (.invokestatic 60, 3) := by decide +kernel
theorem dX2_mixInto_127 : decode cX2_mixInto 127 = .ok (.lreturn, 1) := by decide +kernel
theorem dX3_init_0 : decode cX3_init 0 = .ok (.aload_n 0, 1) := by decide +kernel
theorem dX3_init_1 : decode cX3_init 1 = .ok (.invokespecial 3, 3) := by decide +kernel
theorem dX3_init_4 : decode cX3_init 4 = .ok (.aload_n 0, 1) := by decide +kernel
theorem dX3_init_5 : decode cX3_init 5 = .ok (.iconst 0, 1) := by decide +kernel
theorem dX3_init_6 : decode cX3_init 6 = .ok (.putfield 9, 3) := by decide +kernel
theorem dX3_init_9 : decode cX3_init 9 = .ok (.aload_n 0, 1) := by decide +kernel
theorem dX3_init_10 : decode cX3_init 10 = .ok (.iconst 0, 1) := by decide +kernel
theorem dX3_init_11 : decode cX3_init 11 = .ok (.putfield 15, 3) := by decide +kernel
theorem dX3_init_14 : decode cX3_init 14 = .ok (.aload_n 0, 1) := by decide +kernel
theorem dX3_init_15 : decode cX3_init 15 = .ok (.bipush 6, 2) := by decide +kernel
theorem dX3_init_17 : decode cX3_init 17 = .ok (.newarray .int, 2) := by decide +kernel
theorem dX3_init_19 : decode cX3_init 19 = .ok (.putfield 18, 3) := by decide +kernel
theorem dX3_init_22 : decode cX3_init 22 = .ok (.aload_n 0, 1) := by decide +kernel
theorem dX3_init_23 : decode cX3_init 23 = .ok (.bipush 16, 2) := by decide +kernel
theorem dX3_init_25 : decode cX3_init 25 = .ok (.newarray .int, 2) := by decide +kernel
theorem dX3_init_27 : decode cX3_init 27 = .ok (.putfield 22, 3) := by decide +kernel
theorem dX3_init_30 : decode cX3_init 30 = .ok (.aload_n 0, 1) := by decide +kernel
theorem dX3_init_31 : decode cX3_init 31 = .ok (.iconst 0, 1) := by decide +kernel
theorem dX3_init_32 : decode cX3_init 32 = .ok (.putfield 25, 3) := by decide +kernel
theorem dX3_init_35 : decode cX3_init 35 = .ok (.aload_n 0, 1) := by decide +kernel
theorem dX3_init_36 : decode cX3_init 36 = .ok (.iconst 0, 1) := by decide +kernel
theorem dX3_init_37 : decode cX3_init 37 = .ok (.putfield 28, 3) := by decide +kernel
theorem dX3_init_40 : decode cX3_init 40 = .ok (.return_, 1) := by decide +kernel
theorem dX3_copyFrom_0 : decode cX3_copyFrom 0 = .ok (.aload_n 0, 1) := by decide +kernel
theorem dX3_copyFrom_1 : decode cX3_copyFrom 1 = .ok (.aload_n 1, 1) := by decide +kernel
theorem dX3_copyFrom_2 : decode cX3_copyFrom 2 = .ok (.getfield 9, 3) := by decide +kernel
theorem dX3_copyFrom_5 : decode cX3_copyFrom 5 = .ok (.putfield 9, 3) := by decide +kernel
theorem dX3_copyFrom_8 : decode cX3_copyFrom 8 = .ok (.aload_n 0, 1) := by decide +kernel
theorem dX3_copyFrom_9 : decode cX3_copyFrom 9 = .ok (.aload_n 1, 1) := by decide +kernel
theorem dX3_copyFrom_10 : decode cX3_copyFrom 10 = .ok (.getfield 15, 3) := by decide +kernel
theorem dX3_copyFrom_13 : decode cX3_copyFrom 13 = .ok (.putfield 15, 3) := by decide +kernel
theorem dX3_copyFrom_16 : decode cX3_copyFrom 16 = .ok (.aload_n 1, 1) := by decide +kernel
theorem dX3_copyFrom_17 : decode cX3_copyFrom 17 = .ok (.getfield 18, 3) := by decide +kernel
theorem dX3_copyFrom_20 : decode cX3_copyFrom 20 = .ok (.iconst 0, 1) := by decide +kernel
theorem dX3_copyFrom_21 : decode cX3_copyFrom 21 = .ok (.aload_n 0, 1) := by decide +kernel
theorem dX3_copyFrom_22 : decode cX3_copyFrom 22 = .ok (.getfield 18, 3) := by decide +kernel
theorem dX3_copyFrom_25 : decode cX3_copyFrom 25 = .ok (.iconst 0, 1) := by decide +kernel
theorem dX3_copyFrom_26 : decode cX3_copyFrom 26 = .ok (.aload_n 0, 1) := by decide +kernel
theorem dX3_copyFrom_27 : decode cX3_copyFrom 27 = .ok (.getfield 18, 3) := by decide +kernel
theorem dX3_copyFrom_30 : decode cX3_copyFrom 30 = .ok (.arraylength, 1) := by decide +kernel
theorem dX3_copyFrom_31 : decode cX3_copyFrom 31 = .ok (.invokestatic 31, 3) := by decide +kernel
theorem dX3_copyFrom_34 : decode cX3_copyFrom 34 = .ok (.aload_n 1, 1) := by decide +kernel
theorem dX3_copyFrom_35 : decode cX3_copyFrom 35 = .ok (.getfield 22, 3) := by decide +kernel
theorem dX3_copyFrom_38 : decode cX3_copyFrom 38 = .ok (.iconst 0, 1) := by decide +kernel
theorem dX3_copyFrom_39 : decode cX3_copyFrom 39 = .ok (.aload_n 0, 1) := by decide +kernel
theorem dX3_copyFrom_40 : decode cX3_copyFrom 40 = .ok (.getfield 22, 3) := by decide +kernel
theorem dX3_copyFrom_43 : decode cX3_copyFrom 43 = .ok (.iconst 0, 1) := by decide +kernel
theorem dX3_copyFrom_44 : decode cX3_copyFrom 44 = .ok (.aload_n 0, 1) := by decide +kernel
theorem dX3_copyFrom_45 : decode cX3_copyFrom 45 = .ok (.getfield 22, 3) := by decide +kernel
theorem dX3_copyFrom_48 : decode cX3_copyFrom 48 = .ok (.arraylength, 1) := by decide +kernel
theorem dX3_copyFrom_49 : decode cX3_copyFrom 49 = .ok (.invokestatic 31, 3) := by decide +kernel
theorem dX3_copyFrom_52 : decode cX3_copyFrom 52 = .ok (.aload_n 0, 1) := by decide +kernel
theorem dX3_copyFrom_53 : decode cX3_copyFrom 53 = .ok (.aload_n 1, 1) := by decide +kernel
theorem dX3_copyFrom_54 : decode cX3_copyFrom 54 = .ok (.getfield 25, 3) := by decide +kernel
theorem dX3_copyFrom_57 : decode cX3_copyFrom 57 = .ok (.putfield 25, 3) := by decide +kernel
theorem dX3_copyFrom_60 : decode cX3_copyFrom 60 = .ok (.aload_n 0, 1) := by decide +kernel
theorem dX3_copyFrom_61 : decode cX3_copyFrom 61 = .ok (.aload_n 1, 1) := by decide +kernel
theorem dX3_copyFrom_62 : decode cX3_copyFrom 62 = .ok (.getfield 28, 3) := by decide +kernel
theorem dX3_copyFrom_65 : decode cX3_copyFrom 65 = .ok (.putfield 28, 3) := by decide +kernel
theorem dX3_copyFrom_68 : decode cX3_copyFrom 68 = .ok (.return_, 1) := by decide +kernel
theorem dX3_restart_0 : decode cX3_restart 0 = .ok (.aload_n 0, 1) := by decide +kernel
theorem dX3_restart_1 : decode cX3_restart 1 = .ok (.iconst 0, 1) := by decide +kernel
theorem dX3_restart_2 : decode cX3_restart 2 = .ok (.putfield 9, 3) := by decide +kernel
theorem dX3_restart_5 : decode cX3_restart 5 = .ok (.aload_n 0, 1) := by decide +kernel
theorem dX3_restart_6 : decode cX3_restart 6 = .ok (.iconst 0, 1) := by decide +kernel
theorem dX3_restart_7 : decode cX3_restart 7 = .ok (.putfield 15, 3) := by decide +kernel
theorem dX3_restart_10 : decode cX3_restart 10 = .ok (.aload_n 0, 1) := by decide +kernel
theorem dX3_restart_11 : decode cX3_restart 11 = .ok (.iconst 0, 1) := by decide +kernel
theorem dX3_restart_12 : decode cX3_restart 12 = .ok (.putfield 28, 3) := by decide +kernel
theorem dX3_restart_15 : decode cX3_restart 15 = .ok (.return_, 1) := by decide +kernel
theorem dX3_takeBit_0 : decode cX3_takeBit 0 = .ok (.aload_n 0, 1) := by decide +kernel
theorem dX3_takeBit_1 : decode cX3_takeBit 1 = .ok (.aload_n 0, 1) := by decide +kernel
theorem dX3_takeBit_2 : decode cX3_takeBit 2 = .ok (.getfield 28, 3) := by decide +kernel
theorem dX3_takeBit_5 : decode cX3_takeBit 5 = .ok (.iconst 1, 1) := by decide +kernel
theorem dX3_takeBit_6 : decode cX3_takeBit 6 = .ok (.ishl, 1) := by decide +kernel
theorem dX3_takeBit_7 : decode cX3_takeBit 7 = .ok (.iload_n 1, 1) := by decide +kernel
theorem dX3_takeBit_8 : decode cX3_takeBit 8 = .ok (.ior, 1) := by decide +kernel
theorem dX3_takeBit_9 : decode cX3_takeBit 9 = .ok (.putfield 28, 3) := by decide +kernel
theorem dX3_takeBit_12 : decode cX3_takeBit 12 = .ok (.aload_n 0, 1) := by decide +kernel
theorem dX3_takeBit_13 : decode cX3_takeBit 13 = .ok (.getfield 9, 3) := by decide +kernel
theorem dX3_takeBit_16 : decode cX3_takeBit 16 = .ok (.ifCond .ne 9, 3) := by decide +kernel
theorem dX3_takeBit_19 : decode cX3_takeBit 19 = .ok (.aload_n 0, 1) := by decide +kernel
theorem dX3_takeBit_20 : decode cX3_takeBit 20 = .ok (.invokevirtual 37, 3) := by decide +kernel
theorem dX3_takeBit_23 : decode cX3_takeBit 23 = .ok (.iconst 0, 1) := by decide +kernel
theorem dX3_takeBit_24 : decode cX3_takeBit 24 = .ok (.ireturn, 1) := by decide +kernel
theorem dX3_takeBit_25 : decode cX3_takeBit 25 = .ok (.aload_n 0, 1) := by decide +kernel
theorem dX3_takeBit_26 : decode cX3_takeBit 26 = .ok (.dup, 1) := by decide +kernel
theorem dX3_takeBit_27 : decode cX3_takeBit 27 = .ok (.getfield 25, 3) := by decide +kernel
theorem dX3_takeBit_30 : decode cX3_takeBit 30 = .ok (.iconst 1, 1) := by decide +kernel
theorem dX3_takeBit_31 : decode cX3_takeBit 31 = .ok (.iadd, 1) := by decide +kernel
theorem dX3_takeBit_32 : decode cX3_takeBit 32 = .ok (.putfield 25, 3) := by decide +kernel
theorem dX3_takeBit_35 : decode cX3_takeBit 35 = .ok (.aload_n 0, 1) := by decide +kernel
theorem dX3_takeBit_36 : decode cX3_takeBit 36 = .ok (.getfield 25, 3) := by decide +kernel
theorem dX3_takeBit_39 : decode cX3_takeBit 39 = .ok (.iload_n 2, 1) := by decide +kernel
theorem dX3_takeBit_40 : decode cX3_takeBit 40 = .ok (.if_icmp .gt 30, 3) := by decide +kernel
theorem dX3_takeBit_43 : decode cX3_takeBit 43 = .ok (.aload_n 0, 1) := by decide +kernel
theorem dX3_takeBit_44 : decode cX3_takeBit 44 = .ok (.iload_n 1, 1) := by decide +kernel
theorem dX3_takeBit_45 : decode cX3_takeBit 45 = .ok (.invokevirtual 40, 3) := by decide +kernel
theorem dX3_takeBit_48 : decode cX3_takeBit 48 = .ok (.aload_n 0, 1) := by decide +kernel
theorem dX3_takeBit_49 : decode cX3_takeBit 49 = .ok (.getfield 25, 3) := by decide +kernel
theorem dX3_takeBit_52 : decode cX3_takeBit 52 = .ok (.iload_n 2, 1) := by decide +kernel
theorem dX3_takeBit_53 : decode cX3_takeBit 53 = .ok (.if_icmp .ne 15, 3) := by decide +kernel
theorem dX3_takeBit_56 : decode cX3_takeBit 56 = .ok (.aload_n 0, 1) := by decide +kernel
theorem dX3_takeBit_57 : decode cX3_takeBit 57 = .ok (.getfield 9, 3) := by decide +kernel
theorem dX3_takeBit_60 : decode cX3_takeBit 60 = .ok (.iconst 2, 1) := by decide +kernel
theorem dX3_takeBit_61 : decode cX3_takeBit 61 = .ok (.if_icmp .ne 7, 3) := by decide +kernel
theorem dX3_takeBit_64 : decode cX3_takeBit 64 = .ok (.iconst 1, 1) := by decide +kernel
theorem dX3_takeBit_65 : decode cX3_takeBit 65 = .ok (.goto 4, 3) := by decide +kernel
theorem dX3_takeBit_68 : decode cX3_takeBit 68 = .ok (.iconst 0, 1) := by decide +kernel
theorem dX3_takeBit_69 : decode cX3_takeBit 69 = .ok (.ireturn, 1) := by decide +kernel
theorem dX3_takeBit_70 : decode cX3_takeBit 70 = .ok (.aload_n 0, 1) := by decide +kernel
theorem dX3_takeBit_71 : decode cX3_takeBit 71 = .ok (.getfield 25, 3) := by decide +kernel
theorem dX3_takeBit_74 : decode cX3_takeBit 74 = .ok (.iload_n 2, 1) := by decide +kernel
theorem dX3_takeBit_75 : decode cX3_takeBit 75 = .ok (.bipush 16, 2) := by decide +kernel
theorem dX3_takeBit_77 : decode cX3_takeBit 77 = .ok (.iadd, 1) := by decide +kernel
theorem dX3_takeBit_78 : decode cX3_takeBit 78 = .ok (.if_icmp .ne 11, 3) := by decide +kernel
theorem dX3_takeBit_81 : decode cX3_takeBit 81 = .ok (.aload_n 0, 1) := by decide +kernel
theorem dX3_takeBit_82 : decode cX3_takeBit 82 = .ok (.iload_n 1, 1) := by decide +kernel
theorem dX3_takeBit_83 : decode cX3_takeBit 83 = .ok (.invokevirtual 44, 3) := by decide +kernel
theorem dX3_takeBit_86 : decode cX3_takeBit 86 = .ok (.goto 19, 3) := by decide +kernel
theorem dX3_takeBit_89 : decode cX3_takeBit 89 = .ok (.aload_n 0, 1) := by decide +kernel
theorem dX3_takeBit_90 : decode cX3_takeBit 90 = .ok (.getfield 25, 3) := by decide +kernel
theorem dX3_takeBit_93 : decode cX3_takeBit 93 = .ok (.iload_n 2, 1) := by decide +kernel
theorem dX3_takeBit_94 : decode cX3_takeBit 94 = .ok (.bipush 16, 2) := by decide +kernel
theorem dX3_takeBit_96 : decode cX3_takeBit 96 = .ok (.iadd, 1) := by decide +kernel
theorem dX3_takeBit_97 : decode cX3_takeBit 97 = .ok (.if_icmp .le 8, 3) := by decide +kernel
theorem dX3_takeBit_100 : decode cX3_takeBit 100 = .ok (.aload_n 0, 1) := by decide +kernel
theorem dX3_takeBit_101 : decode cX3_takeBit 101 = .ok (.iload_n 1, 1) := by decide +kernel
theorem dX3_takeBit_102 : decode cX3_takeBit 102 = .ok (.invokevirtual 47, 3) := by decide +kernel
theorem dX3_takeBit_105 : decode cX3_takeBit 105 = .ok (.iconst 0, 1) := by decide +kernel
theorem dX3_takeBit_106 : decode cX3_takeBit 106 = .ok (.ireturn, 1) := by decide +kernel
theorem dX3_endsWithSync_0 : decode cX3_endsWithSync 0 = .ok (.iload_n 1, 1) := by decide +kernel
theorem dX3_endsWithSync_1 : decode cX3_endsWithSync 1 = .ok (.ldc 50, 2) := by decide +kernel
theorem dX3_endsWithSync_3 : decode cX3_endsWithSync 3 = .ok (.iand, 1) := by decide +kernel
theorem dX3_endsWithSync_4 : decode cX3_endsWithSync 4 = .ok (.ldc 51, 2) := by decide +kernel
theorem dX3_endsWithSync_6 : decode cX3_endsWithSync 6 = .ok (.if_icmp .ne 7, 3) := by decide +kernel
theorem dX3_endsWithSync_9 : decode cX3_endsWithSync 9 = .ok (.iconst 1, 1) := by decide +kernel
theorem dX3_endsWithSync_10 : decode cX3_endsWithSync 10 = .ok (.goto 4, 3) := by decide +kernel
theorem dX3_endsWithSync_13 : decode cX3_endsWithSync 13 = .ok (.iconst 0, 1) := by decide +kernel
theorem dX3_endsWithSync_14 : decode cX3_endsWithSync 14 = .ok (.ireturn, 1) := by decide +kernel
theorem dX3_lookForSync_0 : decode cX3_lookForSync 0 = .ok (.aload_n 0, 1) := by decide +kernel
theorem dX3_lookForSync_1 : decode cX3_lookForSync 1 = .ok (.aload_n 0, 1) := by decide +kernel
theorem dX3_lookForSync_2 : decode cX3_lookForSync 2 = .ok (.getfield 28, 3) := by decide +kernel
theorem dX3_lookForSync_5 : decode cX3_lookForSync 5 = .ok (.invokevirtual 52, 3) := by decide +kernel
theorem dX3_lookForSync_8 : decode cX3_lookForSync 8 = .ok (.ifCond .eq 23, 3) := by decide +kernel
theorem dX3_lookForSync_11 : decode cX3_lookForSync 11 = .ok (.aload_n 0, 1) := by decide +kernel
theorem dX3_lookForSync_12 : decode cX3_lookForSync 12 = .ok (.iconst 1, 1) := by decide +kernel
theorem dX3_lookForSync_13 : decode cX3_lookForSync 13 = .ok (.putfield 9, 3) := by decide +kernel
theorem dX3_lookForSync_16 : decode cX3_lookForSync 16 = .ok (.aload_n 0, 1) := by decide +kernel
theorem dX3_lookForSync_17 : decode cX3_lookForSync 17 = .ok (.getfield 18, 3) := by decide +kernel
theorem dX3_lookForSync_20 : decode cX3_lookForSync 20 = .ok (.iconst 5, 1) := by decide +kernel
theorem dX3_lookForSync_21 : decode cX3_lookForSync 21 = .ok (.dup2, 1) := by decide +kernel
theorem dX3_lookForSync_22 : decode cX3_lookForSync 22 = .ok (.iaload, 1) := by decide +kernel
theorem dX3_lookForSync_23 : decode cX3_lookForSync 23 = .ok (.iconst 1, 1) := by decide +kernel
theorem dX3_lookForSync_24 : decode cX3_lookForSync 24 = .ok (.iadd, 1) := by decide +kernel
theorem dX3_lookForSync_25 : decode cX3_lookForSync 25 = .ok (.iastore, 1) := by decide +kernel
theorem dX3_lookForSync_26 : decode cX3_lookForSync 26 = .ok (.aload_n 0, 1) := by decide +kernel
theorem dX3_lookForSync_27 : decode cX3_lookForSync 27 = .ok (.iconst 0, 1) := by decide +kernel
theorem dX3_lookForSync_28 : decode cX3_lookForSync 28 = .ok (.putfield 25, 3) := by decide +kernel
theorem dX3_lookForSync_31 : decode cX3_lookForSync 31 = .ok (.return_, 1) := by decide +kernel
theorem dX3_expectSync_0 : decode cX3_expectSync 0 = .ok (.aload_n 0, 1) := by decide +kernel
theorem dX3_expectSync_1 : decode cX3_expectSync 1 = .ok (.aload_n 0, 1) := by decide +kernel
theorem dX3_expectSync_2 : decode cX3_expectSync 2 = .ok (.getfield 28, 3) := by decide +kernel
theorem dX3_expectSync_5 : decode cX3_expectSync 5 = .ok (.invokevirtual 52, 3) := by decide +kernel
theorem dX3_expectSync_8 : decode cX3_expectSync 8 = .ok (.ifCond .eq 15, 3) := by decide +kernel
theorem dX3_expectSync_11 : decode cX3_expectSync 11 = .ok (.aload_n 0, 1) := by decide +kernel
theorem dX3_expectSync_12 : decode cX3_expectSync 12 = .ok (.iconst 2, 1) := by decide +kernel
theorem dX3_expectSync_13 : decode cX3_expectSync 13 = .ok (.putfield 9, 3) := by decide +kernel
theorem dX3_expectSync_16 : decode cX3_expectSync 16 = .ok (.aload_n 0, 1) := by decide +kernel
theorem dX3_expectSync_17 : decode cX3_expectSync 17 = .ok (.invokevirtual 56, 3) := by decide +kernel
theorem dX3_expectSync_20 : decode cX3_expectSync 20 = .ok (.goto 51, 3) := by decide +kernel
theorem dX3_expectSync_23 : decode cX3_expectSync 23 = .ok (.aload_n 0, 1) := by decide +kernel
theorem dX3_expectSync_24 : decode cX3_expectSync 24 = .ok (.getfield 9, 3) := by decide +kernel
theorem dX3_expectSync_27 : decode cX3_expectSync 27 = .ok (.iconst 1, 1) := by decide +kernel
theorem dX3_expectSync_28 : decode cX3_expectSync 28 = .ok (.if_icmp .ne 11, 3) := by decide +kernel
theorem dX3_expectSync_31 : decode cX3_expectSync 31 = .ok (.aload_n 0, 1) := by decide +kernel
theorem dX3_expectSync_32 : decode cX3_expectSync 32 = .ok (.iconst 0, 1) := by decide +kernel
theorem dX3_expectSync_33 : decode cX3_expectSync 33 = .ok (.putfield 9, 3) := by decide +kernel
theorem dX3_expectSync_36 : decode cX3_expectSync 36 = .ok (.goto 35, 3) := by decide +kernel
theorem dX3_expectSync_39 : decode cX3_expectSync 39 = .ok (.aload_n 0, 1) := by decide +kernel
theorem dX3_expectSync_40 : decode cX3_expectSync 40 = .ok (.aload_n 0, 1) := by decide +kernel
theorem dX3_expectSync_41 : decode cX3_expectSync 41 = .ok (.getfield 28, 3) := by decide +kernel
theorem dX3_expectSync_44 : decode cX3_expectSync 44 = .ok (.iconst 1, 1) := by decide +kernel
theorem dX3_expectSync_45 : decode cX3_expectSync 45 = .ok (.ishr, 1) := by decide +kernel
theorem dX3_expectSync_46 : decode cX3_expectSync 46 = .ok (.invokevirtual 52, 3) := by decide +kernel
theorem dX3_expectSync_49 : decode cX3_expectSync 49 = .ok (.ifCond .eq 22, 3) := by decide +kernel
theorem dX3_expectSync_52 : decode cX3_expectSync 52 = .ok (.aload_n 0, 1) := by decide +kernel
theorem dX3_expectSync_53 : decode cX3_expectSync 53 = .ok (.getfield 18, 3) := by decide +kernel
theorem dX3_expectSync_56 : decode cX3_expectSync 56 = .ok (.iconst 2, 1) := by decide +kernel
theorem dX3_expectSync_57 : decode cX3_expectSync 57 = .ok (.dup2, 1) := by decide +kernel
theorem dX3_expectSync_58 : decode cX3_expectSync 58 = .ok (.iaload, 1) := by decide +kernel
theorem dX3_expectSync_59 : decode cX3_expectSync 59 = .ok (.iconst 1, 1) := by decide +kernel
theorem dX3_expectSync_60 : decode cX3_expectSync 60 = .ok (.iadd, 1) := by decide +kernel
theorem dX3_expectSync_61 : decode cX3_expectSync 61 = .ok (.iastore, 1) := by decide +kernel
theorem dX3_expectSync_62 : decode cX3_expectSync 62 = .ok (.aload_n 0, 1) := by decide +kernel
theorem dX3_expectSync_63 : decode cX3_expectSync 63 = .ok (.invokevirtual 56, 3) := by decide +kernel
theorem dX3_expectSync_66 : decode cX3_expectSync 66 = .ok (.aload_n 0, 1) := by decide +kernel
theorem dX3_expectSync_67 : decode cX3_expectSync 67 = .ok (.iload_n 1, 1) := by decide +kernel
theorem dX3_expectSync_68 : decode cX3_expectSync 68 = .ok (.invokevirtual 59, 3) := by decide +kernel
theorem dX3_expectSync_71 : decode cX3_expectSync 71 = .ok (.return_, 1) := by decide +kernel
theorem dX3_expectLateSync_0 : decode cX3_expectLateSync 0 = .ok (.aload_n 0, 1) := by decide +kernel
theorem dX3_expectLateSync_1 : decode cX3_expectLateSync 1 = .ok (.aload_n 0, 1) := by decide +kernel
theorem dX3_expectLateSync_2 : decode cX3_expectLateSync 2 = .ok (.getfield 28, 3) := by decide +kernel
theorem dX3_expectLateSync_5 : decode cX3_expectLateSync 5 = .ok (.invokevirtual 52, 3) := by decide +kernel
theorem dX3_expectLateSync_8 : decode cX3_expectLateSync 8 = .ok (.ifCond .eq 18, 3) := by decide +kernel
theorem dX3_expectLateSync_11 : decode cX3_expectLateSync 11 = .ok (.aload_n 0, 1) := by decide +kernel
theorem dX3_expectLateSync_12 : decode cX3_expectLateSync 12 = .ok (.getfield 18, 3) := by decide +kernel
theorem dX3_expectLateSync_15 : decode cX3_expectLateSync 15 = .ok (.iconst 3, 1) := by decide +kernel
theorem dX3_expectLateSync_16 : decode cX3_expectLateSync 16 = .ok (.dup2, 1) := by decide +kernel
theorem dX3_expectLateSync_17 : decode cX3_expectLateSync 17 = .ok (.iaload, 1) := by decide +kernel
theorem dX3_expectLateSync_18 : decode cX3_expectLateSync 18 = .ok (.iconst 1, 1) := by decide +kernel
theorem dX3_expectLateSync_19 : decode cX3_expectLateSync 19 = .ok (.iadd, 1) := by decide +kernel
theorem dX3_expectLateSync_20 : decode cX3_expectLateSync 20 = .ok (.iastore, 1) := by decide +kernel
theorem dX3_expectLateSync_21 : decode cX3_expectLateSync 21 = .ok (.aload_n 0, 1) := by decide +kernel
theorem dX3_expectLateSync_22 : decode cX3_expectLateSync 22 = .ok (.invokevirtual 56, 3) := by decide +kernel
theorem dX3_expectLateSync_25 : decode cX3_expectLateSync 25 = .ok (.return_, 1) := by decide +kernel
theorem dX3_expectLateSync_26 : decode cX3_expectLateSync 26 = .ok (.aload_n 0, 1) := by decide +kernel
theorem dX3_expectLateSync_27 : decode cX3_expectLateSync 27 = .ok (.getfield 18, 3) := by decide +kernel
theorem dX3_expectLateSync_30 : decode cX3_expectLateSync 30 = .ok (.iconst 4, 1) := by decide +kernel
theorem dX3_expectLateSync_31 : decode cX3_expectLateSync 31 = .ok (.dup2, 1) := by decide +kernel
theorem dX3_expectLateSync_32 : decode cX3_expectLateSync 32 = .ok (.iaload, 1) := by decide +kernel
theorem dX3_expectLateSync_33 : decode cX3_expectLateSync 33 = .ok (.iconst 1, 1) := by decide +kernel
theorem dX3_expectLateSync_34 : decode cX3_expectLateSync 34 = .ok (.iadd, 1) := by decide +kernel
theorem dX3_expectLateSync_35 : decode cX3_expectLateSync 35 = .ok (.iastore, 1) := by decide +kernel
theorem dX3_expectLateSync_36 : decode cX3_expectLateSync 36 = .ok (.aload_n 0, 1) := by decide +kernel
theorem dX3_expectLateSync_37 : decode cX3_expectLateSync 37 = .ok (.dup, 1) := by decide +kernel
theorem dX3_expectLateSync_38 : decode cX3_expectLateSync 38 = .ok (.getfield 15, 3) := by decide +kernel
theorem dX3_expectLateSync_41 : decode cX3_expectLateSync 41 = .ok (.iconst 1, 1) := by decide +kernel
theorem dX3_expectLateSync_42 : decode cX3_expectLateSync 42 = .ok (.iadd, 1) := by decide +kernel
theorem dX3_expectLateSync_43 : decode cX3_expectLateSync 43 = .ok (.putfield 15, 3) := by decide +kernel
theorem dX3_expectLateSync_46 : decode cX3_expectLateSync 46 = .ok (.aload_n 0, 1) := by decide +kernel
theorem dX3_expectLateSync_47 : decode cX3_expectLateSync 47 = .ok (.getfield 15, 3) := by decide +kernel
theorem dX3_expectLateSync_50 : decode cX3_expectLateSync 50 = .ok (.iconst 3, 1) := by decide +kernel
theorem dX3_expectLateSync_51 : decode cX3_expectLateSync 51 = .ok (.if_icmp .lt 10, 3) := by decide +kernel
theorem dX3_expectLateSync_54 : decode cX3_expectLateSync 54 = .ok (.aload_n 0, 1) := by decide +kernel
theorem dX3_expectLateSync_55 : decode cX3_expectLateSync 55 = .ok (.invokevirtual 62, 3) := by decide +kernel
theorem dX3_expectLateSync_58 : decode cX3_expectLateSync 58 = .ok (.goto 8, 3) := by decide +kernel
theorem dX3_expectLateSync_61 : decode cX3_expectLateSync 61 = .ok (.aload_n 0, 1) := by decide +kernel
theorem dX3_expectLateSync_62 : decode cX3_expectLateSync 62 = .ok (.iload_n 1, 1) := by decide +kernel
theorem dX3_expectLateSync_63 : decode cX3_expectLateSync 63 = .ok (.invokevirtual 59, 3) := by decide +kernel
theorem dX3_expectLateSync_66 : decode cX3_expectLateSync 66 = .ok (.return_, 1) := by decide +kernel
theorem dX3_continueAfterSync_0 : decode cX3_continueAfterSync 0 = .ok (.aload_n 0, 1) := by decide +kernel
theorem dX3_continueAfterSync_1 : decode cX3_continueAfterSync 1 = .ok (.iconst 0, 1) := by decide +kernel
theorem dX3_continueAfterSync_2 : decode cX3_continueAfterSync 2 = .ok (.putfield 15, 3) := by decide +kernel
theorem dX3_continueAfterSync_5 : decode cX3_continueAfterSync 5 = .ok (.aload_n 0, 1) := by decide +kernel
theorem dX3_continueAfterSync_6 : decode cX3_continueAfterSync 6 = .ok (.iconst 0, 1) := by decide +kernel
theorem dX3_continueAfterSync_7 : decode cX3_continueAfterSync 7 = .ok (.putfield 25, 3) := by decide +kernel
theorem dX3_continueAfterSync_10 : decode cX3_continueAfterSync 10 = .ok (.return_, 1) := by decide +kernel
theorem dX3_beginFrameWith_0 : decode cX3_beginFrameWith 0 = .ok (.aload_n 0, 1) := by decide +kernel
theorem dX3_beginFrameWith_1 : decode cX3_beginFrameWith 1 = .ok (.iconst 1, 1) := by decide +kernel
theorem dX3_beginFrameWith_2 : decode cX3_beginFrameWith 2 = .ok (.putfield 25, 3) := by decide +kernel
theorem dX3_beginFrameWith_5 : decode cX3_beginFrameWith 5 = .ok (.aload_n 0, 1) := by decide +kernel
theorem dX3_beginFrameWith_6 : decode cX3_beginFrameWith 6 = .ok (.iload_n 1, 1) := by decide +kernel
theorem dX3_beginFrameWith_7 : decode cX3_beginFrameWith 7 = .ok (.invokevirtual 40, 3) := by decide +kernel
theorem dX3_beginFrameWith_10 : decode cX3_beginFrameWith 10 = .ok (.return_, 1) := by decide +kernel
theorem dX3_storeBit_0 : decode cX3_storeBit 0 = .ok (.aload_n 0, 1) := by decide +kernel
theorem dX3_storeBit_1 : decode cX3_storeBit 1 = .ok (.getfield 25, 3) := by decide +kernel
theorem dX3_storeBit_4 : decode cX3_storeBit 4 = .ok (.iconst 1, 1) := by decide +kernel
theorem dX3_storeBit_5 : decode cX3_storeBit 5 = .ok (.isub, 1) := by decide +kernel
theorem dX3_storeBit_6 : decode cX3_storeBit 6 = .ok (.bipush 8, 2) := by decide +kernel
theorem dX3_storeBit_8 : decode cX3_storeBit 8 = .ok (.idiv, 1) := by decide +kernel
theorem dX3_storeBit_9 : decode cX3_storeBit 9 = .ok (.istore_n 2, 1) := by decide +kernel
theorem dX3_storeBit_10 : decode cX3_storeBit 10 = .ok (.iload_n 2, 1) := by decide +kernel
theorem dX3_storeBit_11 : decode cX3_storeBit 11 = .ok (.ifCond .lt 32, 3) := by decide +kernel
theorem dX3_storeBit_14 : decode cX3_storeBit 14 = .ok (.iload_n 2, 1) := by decide +kernel
theorem dX3_storeBit_15 : decode cX3_storeBit 15 = .ok (.aload_n 0, 1) := by decide +kernel
theorem dX3_storeBit_16 : decode cX3_storeBit 16 = .ok (.getfield 22, 3) := by decide +kernel
theorem dX3_storeBit_19 : decode cX3_storeBit 19 = .ok (.arraylength, 1) := by decide +kernel
theorem dX3_storeBit_20 : decode cX3_storeBit 20 = .ok (.if_icmp .ge 23, 3) := by decide +kernel
theorem dX3_storeBit_23 : decode cX3_storeBit 23 = .ok (.aload_n 0, 1) := by decide +kernel
theorem dX3_storeBit_24 : decode cX3_storeBit 24 = .ok (.getfield 22, 3) := by decide +kernel
theorem dX3_storeBit_27 : decode cX3_storeBit 27 = .ok (.iload_n 2, 1) := by decide +kernel
theorem dX3_storeBit_28 : decode cX3_storeBit 28 = .ok (.aload_n 0, 1) := by decide +kernel
theorem dX3_storeBit_29 : decode cX3_storeBit 29 = .ok (.getfield 22, 3) := by decide +kernel
theorem dX3_storeBit_32 : decode cX3_storeBit 32 = .ok (.iload_n 2, 1) := by decide +kernel
theorem dX3_storeBit_33 : decode cX3_storeBit 33 = .ok (.iaload, 1) := by decide +kernel
theorem dX3_storeBit_34 : decode cX3_storeBit 34 = .ok (.iconst 1, 1) := by decide +kernel
theorem dX3_storeBit_35 : decode cX3_storeBit 35 = .ok (.ishl, 1) := by decide +kernel
theorem dX3_storeBit_36 : decode cX3_storeBit 36 = .ok (.iload_n 1, 1) := by decide +kernel
theorem dX3_storeBit_37 : decode cX3_storeBit 37 = .ok (.ior, 1) := by decide +kernel
theorem dX3_storeBit_38 : decode cX3_storeBit 38 = .ok (.sipush 255, 3) := by decide +kernel
theorem dX3_storeBit_41 : decode cX3_storeBit 41 = .ok (.iand, 1) := by decide +kernel
theorem dX3_storeBit_42 : decode cX3_storeBit 42 = .ok (.iastore, 1) := by decide +kernel
theorem dX3_storeBit_43 : decode cX3_storeBit 43 = .ok (.return_, 1) := by decide +kernel
theorem dX3_mixInto_0 : decode cX3_mixInto 0 = .ok (.lload_n 1, 1) := by decide +kernel
theorem dX3_mixInto_1 : decode cX3_mixInto 1 = .ok (.aload_n 0, 1) := by decide +kernel
theorem dX3_mixInto_2 : decode cX3_mixInto 2 = .ok (.getfield 9, 3) := by decide +kernel
theorem dX3_mixInto_5 : decode cX3_mixInto 5 = .ok (.i2l, 1) := by decide +kernel
theorem dX3_mixInto_6 : decode cX3_mixInto 6 = .ok (.invokestatic 65, 3) := by decide +kernel
theorem dX3_mixInto_9 : decode cX3_mixInto 9 = .ok (.lstore_n 3, 1) := by decide +kernel
theorem dX3_mixInto_10 : decode cX3_mixInto 10 = .ok (.lload_n 3, 1) := by decide +kernel
theorem dX3_mixInto_11 : decode cX3_mixInto 11 = .ok (.aload_n 0, 1) := by decide +kernel
theorem dX3_mixInto_12 : decode cX3_mixInto 12 = .ok (.getfield 15, 3) := by decide +kernel
theorem dX3_mixInto_15 : decode cX3_mixInto 15 = .ok (.i2l, 1) := by decide +kernel
theorem dX3_mixInto_16 : decode cX3_mixInto 16 = .ok (.invokestatic 65, 3) := by decide +kernel
theorem dX3_mixInto_19 : decode cX3_mixInto 19 = .ok (.lstore_n 3, 1) := by decide +kernel
theorem dX3_mixInto_20 : decode cX3_mixInto 20 = .ok (.iconst 0, 1) := by decide +kernel
theorem dX3_mixInto_21 : decode cX3_mixInto 21 = .ok (.istore 5, 2) := by decide +kernel
theorem dX3_mixInto_23 : decode cX3_mixInto 23 = .ok (.iload 5, 2) := by decide +kernel
theorem dX3_mixInto_25 : decode cX3_mixInto 25 = .ok (.bipush 6, 2) := by decide +kernel
theorem dX3_mixInto_27 : decode cX3_mixInto 27 = .ok (.if_icmp .ge 22, 3) := by decide +kernel
theorem dX3_mixInto_30 : decode cX3_mixInto 30 = .ok (.lload_n 3, 1) := by decide +kernel
theorem dX3_mixInto_31 : decode cX3_mixInto 31 = .ok (.aload_n 0, 1) := by decide +kernel
theorem dX3_mixInto_32 : decode cX3_mixInto 32 = .ok (.getfield 18, 3) := by decide +kernel
theorem dX3_mixInto_35 : decode cX3_mixInto 35 = .ok (.iload 5, 2) := by decide +kernel
theorem dX3_mixInto_37 : decode cX3_mixInto 37 = .ok (.iaload, 1) := by decide +kernel
theorem dX3_mixInto_38 : decode cX3_mixInto 38 = .ok (.i2l, 1) := by decide +kernel
theorem dX3_mixInto_39 : decode cX3_mixInto 39 = .ok (.invokestatic 65, 3) := by decide +kernel
theorem dX3_mixInto_42 : decode cX3_mixInto 42 = .ok (.lstore_n 3, 1) := by decide +kernel
theorem dX3_mixInto_43 : decode cX3_mixInto 43 = .ok (.iinc 5 1, 3) := by decide +kernel
theorem dX3_mixInto_46 : decode cX3_mixInto 46 = .ok (.goto (-23), 3) := by decide +kernel
theorem dX3_mixInto_49 : decode cX3_mixInto 49 = .ok (.lload_n 3, 1) := by decide +kernel
theorem dX3_mixInto_50 : decode cX3_mixInto 50 = .ok (.lreturn, 1) := by decide +kernel
theorem dX4_init_0 : decode cX4_init 0 = .ok (.aload_n 0, 1) := by decide +kernel
theorem dX4_init_1 : decode cX4_init 1 = .ok (.invokespecial 3, 3) := by decide +kernel
theorem dX4_init_4 : decode cX4_init 4 = .ok (.aload_n 0, 1) := by decide +kernel
theorem dX4_init_5 : decode cX4_init 5 = .ok (.new 9, 3) := by decide +kernel
theorem dX4_init_8 : decode cX4_init 8 = .ok (.dup, 1) := by decide +kernel
theorem dX4_init_9 : decode cX4_init 9 = .ok (.invokespecial 11, 3) := by decide +kernel
theorem dX4_init_12 : decode cX4_init 12 = .ok (.putfield 12, 3) := by decide +kernel
theorem dX4_init_15 : decode cX4_init 15 = .ok (.aload_n 0, 1) := by decide +kernel
theorem dX4_init_16 : decode cX4_init 16 = .ok (.bipush 12, 2) := by decide +kernel
theorem dX4_init_18 : decode cX4_init 18 = .ok (.anewarray 18, 3) := by decide +kernel
theorem dX4_init_21 : decode cX4_init 21 = .ok (.putfield 20, 3) := by decide +kernel
theorem dX4_init_24 : decode cX4_init 24 = .ok (.aload_n 0, 1) := by decide +kernel
theorem dX4_init_25 : decode cX4_init 25 = .ok (.iconst 0, 1) := by decide +kernel
theorem dX4_init_26 : decode cX4_init 26 = .ok (.putfield 24, 3) := by decide +kernel
theorem dX4_init_29 : decode cX4_init 29 = .ok (.aload_n 0, 1) := by decide +kernel
theorem dX4_init_30 : decode cX4_init 30 = .ok (.iconst 0, 1) := by decide +kernel
theorem dX4_init_31 : decode cX4_init 31 = .ok (.putfield 28, 3) := by decide +kernel
theorem dX4_init_34 : decode cX4_init 34 = .ok (.aload_n 0, 1) := by decide +kernel
theorem dX4_init_35 : decode cX4_init 35 = .ok (.new 31, 3) := by decide +kernel
theorem dX4_init_38 : decode cX4_init 38 = .ok (.dup, 1) := by decide +kernel
theorem dX4_init_39 : decode cX4_init 39 = .ok (.invokespecial 33, 3) := by decide +kernel
theorem dX4_init_42 : decode cX4_init 42 = .ok (.putfield 34, 3) := by decide +kernel
theorem dX4_init_45 : decode cX4_init 45 = .ok (.aload_n 0, 1) := by decide +kernel
theorem dX4_init_46 : decode cX4_init 46 = .ok (.new 38, 3) := by decide +kernel
theorem dX4_init_49 : decode cX4_init 49 = .ok (.dup, 1) := by decide +kernel
theorem dX4_init_50 : decode cX4_init 50 = .ok (.invokespecial 40, 3) := by decide +kernel
theorem dX4_init_53 : decode cX4_init 53 = .ok (.putfield 41, 3) := by decide +kernel
theorem dX4_init_56 : decode cX4_init 56 = .ok (.aload_n 0, 1) := by decide +kernel
theorem dX4_init_57 : decode cX4_init 57 = .ok (.iconst 0, 1) := by decide +kernel
theorem dX4_init_58 : decode cX4_init 58 = .ok (.putfield 45, 3) := by decide +kernel
theorem dX4_init_61 : decode cX4_init 61 = .ok (.iconst 0, 1) := by decide +kernel
theorem dX4_init_62 : decode cX4_init 62 = .ok (.istore_n 1, 1) := by decide +kernel
theorem dX4_init_63 : decode cX4_init 63 = .ok (.iload_n 1, 1) := by decide +kernel
theorem dX4_init_64 : decode cX4_init 64 = .ok (.aload_n 0, 1) := by decide +kernel
theorem dX4_init_65 : decode cX4_init 65 = .ok (.getfield 20, 3) := by decide +kernel
theorem dX4_init_68 : decode cX4_init 68 = .ok (.arraylength, 1) := by decide +kernel
theorem dX4_init_69 : decode cX4_init 69 = .ok (.if_icmp .ge 22, 3) := by decide +kernel
theorem dX4_init_72 : decode cX4_init 72 = .ok (.aload_n 0, 1) := by decide +kernel
theorem dX4_init_73 : decode cX4_init 73 = .ok (.getfield 20, 3) := by decide +kernel
theorem dX4_init_76 : decode cX4_init 76 = .ok (.iload_n 1, 1) := by decide +kernel
theorem dX4_init_77 : decode cX4_init 77 = .ok (.new 18, 3) := by decide +kernel
theorem dX4_init_80 : decode cX4_init 80 = .ok (.dup, 1) := by decide +kernel
theorem dX4_init_81 : decode cX4_init 81 = .ok (.invokespecial 48, 3) := by decide +kernel
theorem dX4_init_84 : decode cX4_init 84 = .ok (.aastore, 1) := by decide +kernel
theorem dX4_init_85 : decode cX4_init 85 = .ok (.iinc 1 1, 3) := by decide +kernel
theorem dX4_init_88 : decode cX4_init 88 = .ok (.goto (-25), 3) := by decide +kernel
theorem dX4_init_91 : decode cX4_init 91 = .ok (.return_, 1) := by decide +kernel
theorem dX4_copyFrom_0 : decode cX4_copyFrom 0 = .ok (.aload_n 0, 1) := by decide +kernel
theorem dX4_copyFrom_1 : decode cX4_copyFrom 1 = .ok (.getfield 12, 3) := by decide +kernel
theorem dX4_copyFrom_4 : decode cX4_copyFrom 4 = .ok (.aload_n 1, 1) := by decide +kernel
theorem dX4_copyFrom_5 : decode cX4_copyFrom 5 = .ok (.getfield 12, 3) := by decide +kernel
theorem dX4_copyFrom_8 : decode cX4_copyFrom 8 = .ok (.invokevirtual 49, 3) := by decide +kernel
theorem dX4_copyFrom_11 : decode cX4_copyFrom 11 = .ok (.aload_n 0, 1) := by decide +kernel
theorem dX4_copyFrom_12 : decode cX4_copyFrom 12 = .ok (.aload_n 1, 1) := by decide +kernel
theorem dX4_copyFrom_13 : decode cX4_copyFrom 13 = .ok (.getfield 24, 3) := by decide +kernel
theorem dX4_copyFrom_16 : decode cX4_copyFrom 16 = .ok (.putfield 24, 3) := by decide +kernel
theorem dX4_copyFrom_19 : decode cX4_copyFrom 19 = .ok (.iconst 0, 1) := by decide +kernel
theorem dX4_copyFrom_20 : decode cX4_copyFrom 20 = .ok (.istore_n 2, 1) := by decide +kernel
theorem dX4_copyFrom_21 : decode cX4_copyFrom 21 = .ok (.iload_n 2, 1) := by decide +kernel
theorem dX4_copyFrom_22 : decode cX4_copyFrom 22 = .ok (.aload_n 0, 1) := by decide +kernel
theorem dX4_copyFrom_23 : decode cX4_copyFrom 23 = .ok (.getfield 24, 3) := by decide +kernel
theorem dX4_copyFrom_26 : decode cX4_copyFrom 26 = .ok (.if_icmp .ge 24, 3) := by decide +kernel
theorem dX4_copyFrom_29 : decode cX4_copyFrom 29 = .ok (.aload_n 0, 1) := by decide +kernel
theorem dX4_copyFrom_30 : decode cX4_copyFrom 30 = .ok (.getfield 20, 3) := by decide +kernel
theorem dX4_copyFrom_33 : decode cX4_copyFrom 33 = .ok (.iload_n 2, 1) := by decide +kernel
theorem dX4_copyFrom_34 : decode cX4_copyFrom 34 = .ok (.aaload, 1) := by decide +kernel
theorem dX4_copyFrom_35 : decode cX4_copyFrom 35 = .ok (.aload_n 1, 1) := by decide +kernel
theorem dX4_copyFrom_36 : decode cX4_copyFrom 36 = .ok (.getfield 20, 3) := by decide +kernel
theorem dX4_copyFrom_39 : decode cX4_copyFrom 39 = .ok (.iload_n 2, 1) := by decide +kernel
theorem dX4_copyFrom_40 : decode cX4_copyFrom 40 = .ok (.aaload, 1) := by decide +kernel
theorem dX4_copyFrom_41 : decode cX4_copyFrom 41 = .ok (.invokevirtual 53, 3) := by decide +kernel
theorem dX4_copyFrom_44 : decode cX4_copyFrom 44 = .ok (.iinc 2 1, 3) := by decide +kernel
theorem dX4_copyFrom_47 : decode cX4_copyFrom 47 = .ok (.goto (-26), 3) := by decide +kernel
theorem dX4_copyFrom_50 : decode cX4_copyFrom 50 = .ok (.aload_n 0, 1) := by decide +kernel
theorem dX4_copyFrom_51 : decode cX4_copyFrom 51 = .ok (.aload_n 1, 1) := by decide +kernel
theorem dX4_copyFrom_52 : decode cX4_copyFrom 52 = .ok (.getfield 28, 3) := by decide +kernel
theorem dX4_copyFrom_55 : decode cX4_copyFrom 55 = .ok (.putfield 28, 3) := by decide +kernel
theorem dX4_copyFrom_58 : decode cX4_copyFrom 58 = .ok (.aload_n 0, 1) := by decide +kernel
theorem dX4_copyFrom_59 : decode cX4_copyFrom 59 = .ok (.getfield 34, 3) := by decide +kernel
theorem dX4_copyFrom_62 : decode cX4_copyFrom 62 = .ok (.aload_n 1, 1) := by decide +kernel
theorem dX4_copyFrom_63 : decode cX4_copyFrom 63 = .ok (.getfield 34, 3) := by decide +kernel
theorem dX4_copyFrom_66 : decode cX4_copyFrom 66 = .ok (.invokevirtual 56, 3) := by decide +kernel
theorem dX4_copyFrom_69 : decode cX4_copyFrom 69 = .ok (.aload_n 0, 1) := by decide +kernel
theorem dX4_copyFrom_70 : decode cX4_copyFrom 70 = .ok (.getfield 41, 3) := by decide +kernel
theorem dX4_copyFrom_73 : decode cX4_copyFrom 73 = .ok (.aload_n 1, 1) := by decide +kernel
theorem dX4_copyFrom_74 : decode cX4_copyFrom 74 = .ok (.getfield 41, 3) := by decide +kernel
theorem dX4_copyFrom_77 : decode cX4_copyFrom 77 = .ok (.invokevirtual 59, 3) := by decide +kernel
theorem dX4_copyFrom_80 : decode cX4_copyFrom 80 = .ok (.aload_n 0, 1) := by decide +kernel
theorem dX4_copyFrom_81 : decode cX4_copyFrom 81 = .ok (.aload_n 1, 1) := by decide +kernel
theorem dX4_copyFrom_82 : decode cX4_copyFrom 82 = .ok (.getfield 45, 3) := by decide +kernel
theorem dX4_copyFrom_85 : decode cX4_copyFrom 85 = .ok (.putfield 45, 3) := by decide +kernel
theorem dX4_copyFrom_88 : decode cX4_copyFrom 88 = .ok (.return_, 1) := by decide +kernel
theorem dX4_restartLink_0 : decode cX4_restartLink 0 = .ok (.aload_n 0, 1) := by decide +kernel
theorem dX4_restartLink_1 : decode cX4_restartLink 1 = .ok (.getfield 12, 3) := by decide +kernel
theorem dX4_restartLink_4 : decode cX4_restartLink 4 = .ok (.iconst 0, 1) := by decide +kernel
theorem dX4_restartLink_5 : decode cX4_restartLink 5 = .ok (.putfield 62, 3) := by decide +kernel
theorem dX4_restartLink_8 : decode cX4_restartLink 8 = .ok (.aload_n 0, 1) := by decide +kernel
theorem dX4_restartLink_9 : decode cX4_restartLink 9 = .ok (.getfield 34, 3) := by decide +kernel
theorem dX4_restartLink_12 : decode cX4_restartLink 12 = .ok (.iconst 0, 1) := by decide +kernel
theorem dX4_restartLink_13 : decode cX4_restartLink 13 = .ok (.putfield 66, 3) := by decide +kernel
theorem dX4_restartLink_16 : decode cX4_restartLink 16 = .ok (.aload_n 0, 1) := by decide +kernel
theorem dX4_restartLink_17 : decode cX4_restartLink 17 = .ok (.iconst 0, 1) := by decide +kernel
theorem dX4_restartLink_18 : decode cX4_restartLink 18 = .ok (.putfield 28, 3) := by decide +kernel
theorem dX4_restartLink_21 : decode cX4_restartLink 21 = .ok (.aload_n 0, 1) := by decide +kernel
theorem dX4_restartLink_22 : decode cX4_restartLink 22 = .ok (.getfield 41, 3) := by decide +kernel
theorem dX4_restartLink_25 : decode cX4_restartLink 25 = .ok (.invokevirtual 69, 3) := by decide +kernel
theorem dX4_restartLink_28 : decode cX4_restartLink 28 = .ok (.return_, 1) := by decide +kernel
theorem dX4_sendMinor_0 : decode cX4_sendMinor 0 = .ok (.aload_n 0, 1) := by decide +kernel
theorem dX4_sendMinor_1 : decode cX4_sendMinor 1 = .ok (.getfield 34, 3) := by decide +kernel
theorem dX4_sendMinor_4 : decode cX4_sendMinor 4 = .ok (.sipush 235, 3) := by decide +kernel
theorem dX4_sendMinor_7 : decode cX4_sendMinor 7 = .ok (.invokevirtual 72, 3) := by decide +kernel
theorem dX4_sendMinor_10 : decode cX4_sendMinor 10 = .ok (.aload_n 0, 1) := by decide +kernel
theorem dX4_sendMinor_11 : decode cX4_sendMinor 11 = .ok (.getfield 34, 3) := by decide +kernel
theorem dX4_sendMinor_14 : decode cX4_sendMinor 14 = .ok (.sipush 144, 3) := by decide +kernel
theorem dX4_sendMinor_17 : decode cX4_sendMinor 17 = .ok (.invokevirtual 72, 3) := by decide +kernel
theorem dX4_sendMinor_20 : decode cX4_sendMinor 20 = .ok (.aload_n 0, 1) := by decide +kernel
theorem dX4_sendMinor_21 : decode cX4_sendMinor 21 = .ok (.getfield 34, 3) := by decide +kernel
theorem dX4_sendMinor_24 : decode cX4_sendMinor 24 = .ok (.aload_n 0, 1) := by decide +kernel
theorem dX4_sendMinor_25 : decode cX4_sendMinor 25 = .ok (.getfield 28, 3) := by decide +kernel
theorem dX4_sendMinor_28 : decode cX4_sendMinor 28 = .ok (.invokevirtual 72, 3) := by decide +kernel
theorem dX4_sendMinor_31 : decode cX4_sendMinor 31 = .ok (.iconst 3, 1) := by decide +kernel
theorem dX4_sendMinor_32 : decode cX4_sendMinor 32 = .ok (.istore_n 1, 1) := by decide +kernel
theorem dX4_sendMinor_33 : decode cX4_sendMinor 33 = .ok (.iload_n 1, 1) := by decide +kernel
theorem dX4_sendMinor_34 : decode cX4_sendMinor 34 = .ok (.aload_n 0, 1) := by decide +kernel
theorem dX4_sendMinor_35 : decode cX4_sendMinor 35 = .ok (.getfield 12, 3) := by decide +kernel
theorem dX4_sendMinor_38 : decode cX4_sendMinor 38 = .ok (.getfield 76, 3) := by decide +kernel
theorem dX4_sendMinor_41 : decode cX4_sendMinor 41 = .ok (.if_icmp .ge 51, 3) := by decide +kernel
theorem dX4_sendMinor_44 : decode cX4_sendMinor 44 = .ok (.aload_n 0, 1) := by decide +kernel
theorem dX4_sendMinor_45 : decode cX4_sendMinor 45 = .ok (.getfield 12, 3) := by decide +kernel
theorem dX4_sendMinor_48 : decode cX4_sendMinor 48 = .ok (.aload_n 0, 1) := by decide +kernel
theorem dX4_sendMinor_49 : decode cX4_sendMinor 49 = .ok (.getfield 28, 3) := by decide +kernel
theorem dX4_sendMinor_52 : decode cX4_sendMinor 52 = .ok (.iload_n 1, 1) := by decide +kernel
theorem dX4_sendMinor_53 : decode cX4_sendMinor 53 = .ok (.invokevirtual 79, 3) := by decide +kernel
theorem dX4_sendMinor_56 : decode cX4_sendMinor 56 = .ok (.istore_n 2, 1) := by decide +kernel
theorem dX4_sendMinor_57 : decode cX4_sendMinor 57 = .ok (.aload_n 0, 1) := by decide +kernel
theorem dX4_sendMinor_58 : decode cX4_sendMinor 58 = .ok (.getfield 34, 3) := by decide +kernel
theorem dX4_sendMinor_61 : decode cX4_sendMinor 61 = .ok (.aload_n 0, 1) := by decide +kernel
theorem dX4_sendMinor_62 : decode cX4_sendMinor 62 = .ok (.iload_n 2, 1) := by decide +kernel
theorem dX4_sendMinor_63 : decode cX4_sendMinor 63 = .ok (.invokevirtual 83, 3) := by decide +kernel
theorem dX4_sendMinor_66 : decode cX4_sendMinor 66 = .ok (.ifCond .eq 15, 3) := by decide +kernel
theorem dX4_sendMinor_69 : decode cX4_sendMinor 69 = .ok (.aload_n 0, 1) := by decide +kernel
theorem dX4_sendMinor_70 : decode cX4_sendMinor 70 = .ok (.getfield 20, 3) := by decide +kernel
theorem dX4_sendMinor_73 : decode cX4_sendMinor 73 = .ok (.iload_n 2, 1) := by decide +kernel
theorem dX4_sendMinor_74 : decode cX4_sendMinor 74 = .ok (.aaload, 1) := by decide +kernel
theorem dX4_sendMinor_75 : decode cX4_sendMinor 75 = .ok (.getfield 87, 3) := by decide +kernel
theorem dX4_sendMinor_78 : decode cX4_sendMinor 78 = .ok (.goto 5, 3) := by decide +kernel
theorem dX4_sendMinor_81 : decode cX4_sendMinor 81 = .ok (.bipush 85, 2) := by decide +kernel
theorem dX4_sendMinor_83 : decode cX4_sendMinor 83 = .ok (.invokevirtual 72, 3) := by decide +kernel
theorem dX4_sendMinor_86 : decode cX4_sendMinor 86 = .ok (.iinc 1 1, 3) := by decide +kernel
theorem dX4_sendMinor_89 : decode cX4_sendMinor 89 = .ok (.goto (-56), 3) := by decide +kernel
theorem dX4_sendMinor_92 : decode cX4_sendMinor 92 = .ok (.aload_n 0, 1) := by decide +kernel
theorem dX4_sendMinor_93 : decode cX4_sendMinor 93 = .ok (.aload_n 0, 1) := by decide +kernel
theorem dX4_sendMinor_94 : decode cX4_sendMinor 94 = .ok (.getfield 28, 3) := by decide +kernel
theorem dX4_sendMinor_97 : decode cX4_sendMinor 97 = .ok (.iconst 1, 1) := by decide +kernel
theorem dX4_sendMinor_98 : decode cX4_sendMinor 98 = .ok (.iadd, 1) := by decide +kernel
theorem dX4_sendMinor_99 : decode cX4_sendMinor 99 = .ok (.aload_n 0, 1) := by decide +kernel
theorem dX4_sendMinor_100 : decode cX4_sendMinor 100 = .ok (.getfield 12, 3) := by decide +kernel
theorem dX4_sendMinor_103 : decode cX4_sendMinor 103 = .ok (.getfield 90, 3) := by decide +kernel
theorem dX4_sendMinor_106 : decode cX4_sendMinor 106 = .ok (.if_icmp .ge 12, 3) := by decide +kernel
theorem dX4_sendMinor_109 : decode cX4_sendMinor 109 = .ok (.aload_n 0, 1) := by decide +kernel
theorem dX4_sendMinor_110 : decode cX4_sendMinor 110 = .ok (.getfield 28, 3) := by decide +kernel
theorem dX4_sendMinor_113 : decode cX4_sendMinor 113 = .ok (.iconst 1, 1) := by decide +kernel
theorem dX4_sendMinor_114 : decode cX4_sendMinor 114 = .ok (.iadd, 1) := by decide +kernel
theorem dX4_sendMinor_115 : decode cX4_sendMinor 115 = .ok (.goto 4, 3) := by decide +kernel
theorem dX4_sendMinor_118 : decode cX4_sendMinor 118 = .ok (.iconst 0, 1) := by decide +kernel
theorem dX4_sendMinor_119 : decode cX4_sendMinor 119 = .ok (.putfield 28, 3) := by decide +kernel
theorem dX4_sendMinor_122 : decode cX4_sendMinor 122 = .ok (.return_, 1) := by decide +kernel
theorem dX4_isParameter_0 : decode cX4_isParameter 0 = .ok (.iload_n 1, 1) := by decide +kernel
theorem dX4_isParameter_1 : decode cX4_isParameter 1 = .ok (.ifCond .lt 15, 3) := by decide +kernel
theorem dX4_isParameter_4 : decode cX4_isParameter 4 = .ok (.iload_n 1, 1) := by decide +kernel
theorem dX4_isParameter_5 : decode cX4_isParameter 5 = .ok (.aload_n 0, 1) := by decide +kernel
theorem dX4_isParameter_6 : decode cX4_isParameter 6 = .ok (.getfield 24, 3) := by decide +kernel
theorem dX4_isParameter_9 : decode cX4_isParameter 9 = .ok (.if_icmp .ge 7, 3) := by decide +kernel
theorem dX4_isParameter_12 : decode cX4_isParameter 12 = .ok (.iconst 1, 1) := by decide +kernel
theorem dX4_isParameter_13 : decode cX4_isParameter 13 = .ok (.goto 4, 3) := by decide +kernel
theorem dX4_isParameter_16 : decode cX4_isParameter 16 = .ok (.iconst 0, 1) := by decide +kernel
theorem dX4_isParameter_17 : decode cX4_isParameter 17 = .ok (.ireturn, 1) := by decide +kernel
theorem dX4_takeBits_0 : decode cX4_takeBits 0 = .ok (.aload_n 0, 1) := by decide +kernel
theorem dX4_takeBits_1 : decode cX4_takeBits 1 = .ok (.getfield 12, 3) := by decide +kernel
theorem dX4_takeBits_4 : decode cX4_takeBits 4 = .ok (.getfield 76, 3) := by decide +kernel
theorem dX4_takeBits_7 : decode cX4_takeBits 7 = .ok (.iconst 2, 1) := by decide +kernel
theorem dX4_takeBits_8 : decode cX4_takeBits 8 = .ok (.isub, 1) := by decide +kernel
theorem dX4_takeBits_9 : decode cX4_takeBits 9 = .ok (.bipush 8, 2) := by decide +kernel
theorem dX4_takeBits_11 : decode cX4_takeBits 11 = .ok (.imul, 1) := by decide +kernel
theorem dX4_takeBits_12 : decode cX4_takeBits 12 = .ok (.istore_n 2, 1) := by decide +kernel
theorem dX4_takeBits_13 : decode cX4_takeBits 13 = .ok (.iconst 0, 1) := by decide +kernel
theorem dX4_takeBits_14 : decode cX4_takeBits 14 = .ok (.istore_n 3, 1) := by decide +kernel
theorem dX4_takeBits_15 : decode cX4_takeBits 15 = .ok (.iload_n 3, 1) := by decide +kernel
theorem dX4_takeBits_16 : decode cX4_takeBits 16 = .ok (.iload_n 1, 1) := by decide +kernel
theorem dX4_takeBits_17 : decode cX4_takeBits 17 = .ok (.if_icmp .ge 33, 3) := by decide +kernel
theorem dX4_takeBits_20 : decode cX4_takeBits 20 = .ok (.aload_n 0, 1) := by decide +kernel
theorem dX4_takeBits_21 : decode cX4_takeBits 21 = .ok (.getfield 41, 3) := by decide +kernel
theorem dX4_takeBits_24 : decode cX4_takeBits 24 = .ok (.aload_n 0, 1) := by decide +kernel
theorem dX4_takeBits_25 : decode cX4_takeBits 25 = .ok (.getfield 34, 3) := by decide +kernel
theorem dX4_takeBits_28 : decode cX4_takeBits 28 = .ok (.getfield 93, 3) := by decide +kernel
theorem dX4_takeBits_31 : decode cX4_takeBits 31 = .ok (.iload_n 3, 1) := by decide +kernel
theorem dX4_takeBits_32 : decode cX4_takeBits 32 = .ok (.iaload, 1) := by decide +kernel
theorem dX4_takeBits_33 : decode cX4_takeBits 33 = .ok (.iload_n 2, 1) := by decide +kernel
theorem dX4_takeBits_34 : decode cX4_takeBits 34 = .ok (.invokevirtual 97, 3) := by decide +kernel
theorem dX4_takeBits_37 : decode cX4_takeBits 37 = .ok (.ifCond .eq 7, 3) := by decide +kernel
theorem dX4_takeBits_40 : decode cX4_takeBits 40 = .ok (.aload_n 0, 1) := by decide +kernel
theorem dX4_takeBits_41 : decode cX4_takeBits 41 = .ok (.invokevirtual 101, 3) := by decide +kernel
theorem dX4_takeBits_44 : decode cX4_takeBits 44 = .ok (.iinc 3 1, 3) := by decide +kernel
theorem dX4_takeBits_47 : decode cX4_takeBits 47 = .ok (.goto (-32), 3) := by decide +kernel
theorem dX4_takeBits_50 : decode cX4_takeBits 50 = .ok (.aload_n 0, 1) := by decide +kernel
theorem dX4_takeBits_51 : decode cX4_takeBits 51 = .ok (.getfield 34, 3) := by decide +kernel
theorem dX4_takeBits_54 : decode cX4_takeBits 54 = .ok (.iload_n 1, 1) := by decide +kernel
theorem dX4_takeBits_55 : decode cX4_takeBits 55 = .ok (.invokevirtual 104, 3) := by decide +kernel
theorem dX4_takeBits_58 : decode cX4_takeBits 58 = .ok (.return_, 1) := by decide +kernel
theorem dX4_deliver_0 : decode cX4_deliver 0 = .ok (.aload_n 0, 1) := by decide +kernel
theorem dX4_deliver_1 : decode cX4_deliver 1 = .ok (.getfield 41, 3) := by decide +kernel
theorem dX4_deliver_4 : decode cX4_deliver 4 = .ok (.getfield 107, 3) := by decide +kernel
theorem dX4_deliver_7 : decode cX4_deliver 7 = .ok (.iconst 0, 1) := by decide +kernel
theorem dX4_deliver_8 : decode cX4_deliver 8 = .ok (.dup2, 1) := by decide +kernel
theorem dX4_deliver_9 : decode cX4_deliver 9 = .ok (.iaload, 1) := by decide +kernel
theorem dX4_deliver_10 : decode cX4_deliver 10 = .ok (.iconst 1, 1) := by decide +kernel
theorem dX4_deliver_11 : decode cX4_deliver 11 = .ok (.iadd, 1) := by decide +kernel
theorem dX4_deliver_12 : decode cX4_deliver 12 = .ok (.iastore, 1) := by decide +kernel
theorem dX4_deliver_13 : decode cX4_deliver 13 = .ok (.aload_n 0, 1) := by decide +kernel
theorem dX4_deliver_14 : decode cX4_deliver 14 = .ok (.getfield 41, 3) := by decide +kernel
theorem dX4_deliver_17 : decode cX4_deliver 17 = .ok (.getfield 110, 3) := by decide +kernel
theorem dX4_deliver_20 : decode cX4_deliver 20 = .ok (.iconst 0, 1) := by decide +kernel
theorem dX4_deliver_21 : decode cX4_deliver 21 = .ok (.iaload, 1) := by decide +kernel
theorem dX4_deliver_22 : decode cX4_deliver 22 = .ok (.istore_n 1, 1) := by decide +kernel
theorem dX4_deliver_23 : decode cX4_deliver 23 = .ok (.iload_n 1, 1) := by decide +kernel
theorem dX4_deliver_24 : decode cX4_deliver 24 = .ok (.aload_n 0, 1) := by decide +kernel
theorem dX4_deliver_25 : decode cX4_deliver 25 = .ok (.getfield 12, 3) := by decide +kernel
theorem dX4_deliver_28 : decode cX4_deliver 28 = .ok (.getfield 90, 3) := by decide +kernel
theorem dX4_deliver_31 : decode cX4_deliver 31 = .ok (.if_icmp .lt 17, 3) := by decide +kernel
theorem dX4_deliver_34 : decode cX4_deliver 34 = .ok (.aload_n 0, 1) := by decide +kernel
theorem dX4_deliver_35 : decode cX4_deliver 35 = .ok (.getfield 41, 3) := by decide +kernel
theorem dX4_deliver_38 : decode cX4_deliver 38 = .ok (.getfield 107, 3) := by decide +kernel
theorem dX4_deliver_41 : decode cX4_deliver 41 = .ok (.iconst 1, 1) := by decide +kernel
theorem dX4_deliver_42 : decode cX4_deliver 42 = .ok (.dup2, 1) := by decide +kernel
theorem dX4_deliver_43 : decode cX4_deliver 43 = .ok (.iaload, 1) := by decide +kernel
theorem dX4_deliver_44 : decode cX4_deliver 44 = .ok (.iconst 1, 1) := by decide +kernel
theorem dX4_deliver_45 : decode cX4_deliver 45 = .ok (.iadd, 1) := by decide +kernel
theorem dX4_deliver_46 : decode cX4_deliver 46 = .ok (.iastore, 1) := by decide +kernel
theorem dX4_deliver_47 : decode cX4_deliver 47 = .ok (.return_, 1) := by decide +kernel
theorem dX4_deliver_48 : decode cX4_deliver 48 = .ok (.iconst 3, 1) := by decide +kernel
theorem dX4_deliver_49 : decode cX4_deliver 49 = .ok (.istore_n 2, 1) := by decide +kernel
theorem dX4_deliver_50 : decode cX4_deliver 50 = .ok (.iload_n 2, 1) := by decide +kernel
theorem dX4_deliver_51 : decode cX4_deliver 51 = .ok (.aload_n 0, 1) := by decide +kernel
theorem dX4_deliver_52 : decode cX4_deliver 52 = .ok (.getfield 12, 3) := by decide +kernel
theorem dX4_deliver_55 : decode cX4_deliver 55 = .ok (.getfield 76, 3) := by decide +kernel
theorem dX4_deliver_58 : decode cX4_deliver 58 = .ok (.if_icmp .ge 51, 3) := by decide +kernel
theorem dX4_deliver_61 : decode cX4_deliver 61 = .ok (.aload_n 0, 1) := by decide +kernel
theorem dX4_deliver_62 : decode cX4_deliver 62 = .ok (.getfield 12, 3) := by decide +kernel
theorem dX4_deliver_65 : decode cX4_deliver 65 = .ok (.iload_n 1, 1) := by decide +kernel
theorem dX4_deliver_66 : decode cX4_deliver 66 = .ok (.iload_n 2, 1) := by decide +kernel
theorem dX4_deliver_67 : decode cX4_deliver 67 = .ok (.invokevirtual 79, 3) := by decide +kernel
theorem dX4_deliver_70 : decode cX4_deliver 70 = .ok (.istore_n 3, 1) := by decide +kernel
theorem dX4_deliver_71 : decode cX4_deliver 71 = .ok (.aload_n 0, 1) := by decide +kernel
theorem dX4_deliver_72 : decode cX4_deliver 72 = .ok (.iload_n 3, 1) := by decide +kernel
theorem dX4_deliver_73 : decode cX4_deliver 73 = .ok (.invokevirtual 83, 3) := by decide +kernel
theorem dX4_deliver_76 : decode cX4_deliver 76 = .ok (.ifCond .eq 27, 3) := by decide +kernel
theorem dX4_deliver_79 : decode cX4_deliver 79 = .ok (.aload_n 0, 1) := by decide +kernel
theorem dX4_deliver_80 : decode cX4_deliver 80 = .ok (.getfield 20, 3) := by decide +kernel
theorem dX4_deliver_83 : decode cX4_deliver 83 = .ok (.iload_n 3, 1) := by decide +kernel
theorem dX4_deliver_84 : decode cX4_deliver 84 = .ok (.aaload, 1) := by decide +kernel
theorem dX4_deliver_85 : decode cX4_deliver 85 = .ok (.aload_n 0, 1) := by decide +kernel
theorem dX4_deliver_86 : decode cX4_deliver 86 = .ok (.getfield 41, 3) := by decide +kernel
theorem dX4_deliver_89 : decode cX4_deliver 89 = .ok (.getfield 110, 3) := by decide +kernel
theorem dX4_deliver_92 : decode cX4_deliver 92 = .ok (.iload_n 2, 1) := by decide +kernel
theorem dX4_deliver_93 : decode cX4_deliver 93 = .ok (.iconst 2, 1) := by decide +kernel
theorem dX4_deliver_94 : decode cX4_deliver 94 = .ok (.isub, 1) := by decide +kernel
theorem dX4_deliver_95 : decode cX4_deliver 95 = .ok (.iaload, 1) := by decide +kernel
theorem dX4_deliver_96 : decode cX4_deliver 96 = .ok (.aload_n 0, 1) := by decide +kernel
theorem dX4_deliver_97 : decode cX4_deliver 97 = .ok (.getfield 45, 3) := by decide +kernel
theorem dX4_deliver_100 : decode cX4_deliver 100 = .ok (.invokevirtual 113, 3) := by decide +kernel
theorem dX4_deliver_103 : decode cX4_deliver 103 = .ok (.iinc 2 1, 3) := by decide +kernel
theorem dX4_deliver_106 : decode cX4_deliver 106 = .ok (.goto (-56), 3) := by decide +kernel
theorem dX4_deliver_109 : decode cX4_deliver 109 = .ok (.return_, 1) := by decide +kernel
theorem dX4_mixInto_0 : decode cX4_mixInto 0 = .ok (.lload_n 1, 1) := by decide +kernel
theorem dX4_mixInto_1 : decode cX4_mixInto 1 = .ok (.aload_n 0, 1) := by decide +kernel
theorem dX4_mixInto_2 : decode cX4_mixInto 2 = .ok (.getfield 12, 3) := by decide +kernel
theorem dX4_mixInto_5 : decode cX4_mixInto 5 = .ok (.getfield 76, 3) := by decide +kernel
theorem dX4_mixInto_8 : decode cX4_mixInto 8 = .ok (.i2l, 1) := by decide +kernel
theorem dX4_mixInto_9 : decode cX4_mixInto 9 = .ok (.invokestatic 117, 3) := by decide +kernel
theorem dX4_mixInto_12 : decode cX4_mixInto 12 = .ok (.lstore_n 3, 1) := by decide +kernel
theorem dX4_mixInto_13 : decode cX4_mixInto 13 = .ok (.lload_n 3, 1) := by decide +kernel
theorem dX4_mixInto_14 : decode cX4_mixInto 14 = .ok (.aload_n 0, 1) := by decide +kernel
theorem dX4_mixInto_15 : decode cX4_mixInto 15 = .ok (.getfield 12, 3) := by decide +kernel
theorem dX4_mixInto_18 : decode cX4_mixInto 18 = .ok (.getfield 90, 3) := by decide +kernel
theorem dX4_mixInto_21 : decode cX4_mixInto 21 = .ok (.i2l, 1) := by decide +kernel
theorem dX4_mixInto_22 : decode cX4_mixInto 22 = .ok (.invokestatic 117, 3) := by decide +kernel
theorem dX4_mixInto_25 : decode cX4_mixInto 25 = .ok (.lstore_n 3, 1) := by decide +kernel
theorem dX4_mixInto_26 : decode cX4_mixInto 26 = .ok (.lload_n 3, 1) := by decide +kernel
theorem dX4_mixInto_27 : decode cX4_mixInto 27 = .ok (.aload_n 0, 1) := by decide +kernel
theorem dX4_mixInto_28 : decode cX4_mixInto 28 = .ok (.getfield 24, 3) := by decide +kernel
theorem dX4_mixInto_31 : decode cX4_mixInto 31 = .ok (.i2l, 1) := by decide +kernel
theorem dX4_mixInto_32 : decode cX4_mixInto 32 = .ok (.invokestatic 117, 3) := by decide +kernel
theorem dX4_mixInto_35 : decode cX4_mixInto 35 = .ok (.lstore_n 3, 1) := by decide +kernel
theorem dX4_mixInto_36 : decode cX4_mixInto 36 = .ok (.iconst 0, 1) := by decide +kernel
theorem dX4_mixInto_37 : decode cX4_mixInto 37 = .ok (.istore 5, 2) := by decide +kernel
theorem dX4_mixInto_39 : decode cX4_mixInto 39 = .ok (.iload 5, 2) := by decide +kernel
theorem dX4_mixInto_41 : decode cX4_mixInto 41 = .ok (.aload_n 0, 1) := by decide +kernel
theorem dX4_mixInto_42 : decode cX4_mixInto 42 = .ok (.getfield 24, 3) := by decide +kernel
theorem dX4_mixInto_45 : decode cX4_mixInto 45 = .ok (.if_icmp .ge 21, 3) := by decide +kernel
theorem dX4_mixInto_48 : decode cX4_mixInto 48 = .ok (.aload_n 0, 1) := by decide +kernel
theorem dX4_mixInto_49 : decode cX4_mixInto 49 = .ok (.getfield 20, 3) := by decide +kernel
theorem dX4_mixInto_52 : decode cX4_mixInto 52 = .ok (.iload 5, 2) := by decide +kernel
theorem dX4_mixInto_54 : decode cX4_mixInto 54 = .ok (.aaload, 1) := by decide +kernel
theorem dX4_mixInto_55 : decode cX4_mixInto 55 = .ok (.lload_n 3, 1) := by decide +kernel
theorem dX4_mixInto_56 : decode cX4_mixInto 56 = .ok (.invokevirtual 121, 3) := by decide +kernel
theorem dX4_mixInto_59 : decode cX4_mixInto 59 = .ok (.lstore_n 3, 1) := by decide +kernel
theorem dX4_mixInto_60 : decode cX4_mixInto 60 = .ok (.iinc 5 1, 3) := by decide +kernel
theorem dX4_mixInto_63 : decode cX4_mixInto 63 = .ok (.goto (-24), 3) := by decide +kernel
theorem dX4_mixInto_66 : decode cX4_mixInto 66 = .ok (.aload_n 0, 1) := by decide +kernel
theorem dX4_mixInto_67 : decode cX4_mixInto 67 = .ok (.getfield 12, 3) := by decide +kernel
theorem dX4_mixInto_70 : decode cX4_mixInto 70 = .ok (.lload_n 3, 1) := by decide +kernel
theorem dX4_mixInto_71 : decode cX4_mixInto 71 = .ok (.invokevirtual 125, 3) := by decide +kernel
theorem dX4_mixInto_74 : decode cX4_mixInto 74 = .ok (.lstore_n 3, 1) := by decide +kernel
theorem dX4_mixInto_75 : decode cX4_mixInto 75 = .ok (.lload_n 3, 1) := by decide +kernel
theorem dX4_mixInto_76 : decode cX4_mixInto 76 = .ok (.aload_n 0, 1) := by decide +kernel
theorem dX4_mixInto_77 : decode cX4_mixInto 77 = .ok (.getfield 28, 3) := by decide +kernel
theorem dX4_mixInto_80 : decode cX4_mixInto 80 = .ok (.i2l, 1) := by decide +kernel
theorem dX4_mixInto_81 : decode cX4_mixInto 81 = .ok (.invokestatic 117, 3) := by decide +kernel
theorem dX4_mixInto_84 : decode cX4_mixInto 84 = .ok (.lstore_n 3, 1) := by decide +kernel
theorem dX4_mixInto_85 : decode cX4_mixInto 85 = .ok (.aload_n 0, 1) := by decide +kernel
theorem dX4_mixInto_86 : decode cX4_mixInto 86 = .ok (.getfield 34, 3) := by decide +kernel
theorem dX4_mixInto_89 : decode cX4_mixInto 89 = .ok (.lload_n 3, 1) := by decide +kernel
theorem dX4_mixInto_90 : decode cX4_mixInto 90 = .ok (.invokevirtual 126, 3) := by decide +kernel
theorem dX4_mixInto_93 : decode cX4_mixInto 93 = .ok (.lstore_n 3, 1) := by decide +kernel
theorem dX4_mixInto_94 : decode cX4_mixInto 94 = .ok (.aload_n 0, 1) := by decide +kernel
theorem dX4_mixInto_95 : decode cX4_mixInto 95 = .ok (.getfield 41, 3) := by decide +kernel
theorem dX4_mixInto_98 : decode cX4_mixInto 98 = .ok (.lload_n 3, 1) := by decide +kernel
theorem dX4_mixInto_99 : decode cX4_mixInto 99 = .ok (.invokevirtual 127, 3) := by decide +kernel
theorem dX4_mixInto_102 : decode cX4_mixInto 102 = .ok (.lstore_n 3, 1) := by decide +kernel
theorem dX4_mixInto_103 : decode cX4_mixInto 103 = .ok (.lload_n 3, 1) := by decide +kernel
theorem dX4_mixInto_104 : decode cX4_mixInto 104 = .ok (.aload_n 0, 1) := by decide +kernel
theorem dX4_mixInto_105 : decode cX4_mixInto 105 = .ok (.getfield 45, 3) := by decide +kernel
theorem dX4_mixInto_108 : decode cX4_mixInto 108 = .ok (.i2l, 1) := by decide +kernel
theorem dX4_mixInto_109 : decode cX4_mixInto 109 = .ok (.invokestatic 117, 3) := by decide +kernel
theorem dX4_mixInto_112 : decode cX4_mixInto 112 = .ok (.lreturn, 1) := by decide +kernel
theorem dX5_init_0 : decode cX5_init 0 = .ok (.aload_n 0, 1) := by decide +kernel
theorem dX5_init_1 : decode cX5_init 1 = .ok (.invokespecial 3, 3) := by decide +kernel
theorem dX5_init_4 : decode cX5_init 4 = .ok (.aload_n 0, 1) := by decide +kernel
theorem dX5_init_5 : decode cX5_init 5 = .ok (.new 9, 3) := by decide +kernel
theorem dX5_init_8 : decode cX5_init 8 = .ok (.dup, 1) := by decide +kernel
theorem dX5_init_9 : decode cX5_init 9 = .ok (.invokespecial 11, 3) := by decide +kernel
theorem dX5_init_12 : decode cX5_init 12 = .ok (.putfield 12, 3) := by decide +kernel
theorem dX5_init_15 : decode cX5_init 15 = .ok (.aload_n 0, 1) := by decide +kernel
theorem dX5_init_16 : decode cX5_init 16 = .ok (.iconst 4, 1) := by decide +kernel
theorem dX5_init_17 : decode cX5_init 17 = .ok (.anewarray 9, 3) := by decide +kernel
theorem dX5_init_20 : decode cX5_init 20 = .ok (.putfield 16, 3) := by decide +kernel
theorem dX5_init_23 : decode cX5_init 23 = .ok (.iconst 0, 1) := by decide +kernel
theorem dX5_init_24 : decode cX5_init 24 = .ok (.istore_n 1, 1) := by decide +kernel
theorem dX5_init_25 : decode cX5_init 25 = .ok (.iload_n 1, 1) := by decide +kernel
theorem dX5_init_26 : decode cX5_init 26 = .ok (.aload_n 0, 1) := by decide +kernel
theorem dX5_init_27 : decode cX5_init 27 = .ok (.getfield 16, 3) := by decide +kernel
theorem dX5_init_30 : decode cX5_init 30 = .ok (.arraylength, 1) := by decide +kernel
theorem dX5_init_31 : decode cX5_init 31 = .ok (.if_icmp .ge 22, 3) := by decide +kernel
theorem dX5_init_34 : decode cX5_init 34 = .ok (.aload_n 0, 1) := by decide +kernel
theorem dX5_init_35 : decode cX5_init 35 = .ok (.getfield 16, 3) := by decide +kernel
theorem dX5_init_38 : decode cX5_init 38 = .ok (.iload_n 1, 1) := by decide +kernel
theorem dX5_init_39 : decode cX5_init 39 = .ok (.new 9, 3) := by decide +kernel
theorem dX5_init_42 : decode cX5_init 42 = .ok (.dup, 1) := by decide +kernel
theorem dX5_init_43 : decode cX5_init 43 = .ok (.invokespecial 11, 3) := by decide +kernel
theorem dX5_init_46 : decode cX5_init 46 = .ok (.aastore, 1) := by decide +kernel
theorem dX5_init_47 : decode cX5_init 47 = .ok (.iinc 1 1, 3) := by decide +kernel
theorem dX5_init_50 : decode cX5_init 50 = .ok (.goto (-25), 3) := by decide +kernel
theorem dX5_init_53 : decode cX5_init 53 = .ok (.aload_n 0, 1) := by decide +kernel
theorem dX5_init_54 : decode cX5_init 54 = .ok (.iconst 0, 1) := by decide +kernel
theorem dX5_init_55 : decode cX5_init 55 = .ok (.putfield 20, 3) := by decide +kernel
theorem dX5_init_58 : decode cX5_init 58 = .ok (.aload_n 0, 1) := by decide +kernel
theorem dX5_init_59 : decode cX5_init 59 = .ok (.iconst 0, 1) := by decide +kernel
theorem dX5_init_60 : decode cX5_init 60 = .ok (.putfield 24, 3) := by decide +kernel
theorem dX5_init_63 : decode cX5_init 63 = .ok (.aload_n 0, 1) := by decide +kernel
theorem dX5_init_64 : decode cX5_init 64 = .ok (.new 27, 3) := by decide +kernel
theorem dX5_init_67 : decode cX5_init 67 = .ok (.dup, 1) := by decide +kernel
theorem dX5_init_68 : decode cX5_init 68 = .ok (.invokespecial 29, 3) := by decide +kernel
theorem dX5_init_71 : decode cX5_init 71 = .ok (.putfield 30, 3) := by decide +kernel
theorem dX5_init_74 : decode cX5_init 74 = .ok (.return_, 1) := by decide +kernel
theorem dX5_setFrame_0 : decode cX5_setFrame 0 = .ok (.iload_n 1, 1) := by decide +kernel
theorem dX5_setFrame_1 : decode cX5_setFrame 1 = .ok (.bipush 6, 2) := by decide +kernel
theorem dX5_setFrame_3 : decode cX5_setFrame 3 = .ok (.if_icmp .lt 13, 3) := by decide +kernel
theorem dX5_setFrame_6 : decode cX5_setFrame 6 = .ok (.iload_n 1, 1) := by decide +kernel
theorem dX5_setFrame_7 : decode cX5_setFrame 7 = .ok (.bipush 16, 2) := by decide +kernel
theorem dX5_setFrame_9 : decode cX5_setFrame 9 = .ok (.if_icmp .gt 7, 3) := by decide +kernel
theorem dX5_setFrame_12 : decode cX5_setFrame 12 = .ok (.iconst 1, 1) := by decide +kernel
theorem dX5_setFrame_13 : decode cX5_setFrame 13 = .ok (.goto 4, 3) := by decide +kernel
theorem dX5_setFrame_16 : decode cX5_setFrame 16 = .ok (.iconst 0, 1) := by decide +kernel
theorem dX5_setFrame_17 : decode cX5_setFrame 17 = .ok (.invokestatic 34, 3) := by decide +kernel
theorem dX5_setFrame_20 : decode cX5_setFrame 20 = .ok (.iload_n 2, 1) := by decide +kernel
theorem dX5_setFrame_21 : decode cX5_setFrame 21 = .ok (.iconst 1, 1) := by decide +kernel
theorem dX5_setFrame_22 : decode cX5_setFrame 22 = .ok (.if_icmp .eq 19, 3) := by decide +kernel
theorem dX5_setFrame_25 : decode cX5_setFrame 25 = .ok (.iload_n 2, 1) := by decide +kernel
theorem dX5_setFrame_26 : decode cX5_setFrame 26 = .ok (.iconst 2, 1) := by decide +kernel
theorem dX5_setFrame_27 : decode cX5_setFrame 27 = .ok (.if_icmp .eq 14, 3) := by decide +kernel
theorem dX5_setFrame_30 : decode cX5_setFrame 30 = .ok (.iload_n 2, 1) := by decide +kernel
theorem dX5_setFrame_31 : decode cX5_setFrame 31 = .ok (.iconst 4, 1) := by decide +kernel
theorem dX5_setFrame_32 : decode cX5_setFrame 32 = .ok (.if_icmp .eq 9, 3) := by decide +kernel
theorem dX5_setFrame_35 : decode cX5_setFrame 35 = .ok (.iload_n 2, 1) := by decide +kernel
theorem dX5_setFrame_36 : decode cX5_setFrame 36 = .ok (.bipush 8, 2) := by decide +kernel
theorem dX5_setFrame_38 : decode cX5_setFrame 38 = .ok (.if_icmp .ne 7, 3) := by decide +kernel
theorem dX5_setFrame_41 : decode cX5_setFrame 41 = .ok (.iconst 1, 1) := by decide +kernel
theorem dX5_setFrame_42 : decode cX5_setFrame 42 = .ok (.goto 4, 3) := by decide +kernel
theorem dX5_setFrame_45 : decode cX5_setFrame 45 = .ok (.iconst 0, 1) := by decide +kernel
theorem dX5_setFrame_46 : decode cX5_setFrame 46 = .ok (.invokestatic 34, 3) := by decide +kernel
theorem dX5_setFrame_49 : decode cX5_setFrame 49 = .ok (.aload_n 0, 1) := by decide +kernel
theorem dX5_setFrame_50 : decode cX5_setFrame 50 = .ok (.invokevirtual 38, 3) := by decide +kernel
theorem dX5_setFrame_53 : decode cX5_setFrame 53 = .ok (.aload_n 0, 1) := by decide +kernel
theorem dX5_setFrame_54 : decode cX5_setFrame 54 = .ok (.getfield 12, 3) := by decide +kernel
theorem dX5_setFrame_57 : decode cX5_setFrame 57 = .ok (.getfield 41, 3) := by decide +kernel
theorem dX5_setFrame_60 : decode cX5_setFrame 60 = .ok (.iload_n 1, 1) := by decide +kernel
theorem dX5_setFrame_61 : decode cX5_setFrame 61 = .ok (.putfield 44, 3) := by decide +kernel
theorem dX5_setFrame_64 : decode cX5_setFrame 64 = .ok (.aload_n 0, 1) := by decide +kernel
theorem dX5_setFrame_65 : decode cX5_setFrame 65 = .ok (.getfield 12, 3) := by decide +kernel
theorem dX5_setFrame_68 : decode cX5_setFrame 68 = .ok (.getfield 41, 3) := by decide +kernel
theorem dX5_setFrame_71 : decode cX5_setFrame 71 = .ok (.iload_n 2, 1) := by decide +kernel
theorem dX5_setFrame_72 : decode cX5_setFrame 72 = .ok (.putfield 47, 3) := by decide +kernel
theorem dX5_setFrame_75 : decode cX5_setFrame 75 = .ok (.aload_n 0, 1) := by decide +kernel
theorem dX5_setFrame_76 : decode cX5_setFrame 76 = .ok (.getfield 12, 3) := by decide +kernel
theorem dX5_setFrame_79 : decode cX5_setFrame 79 = .ok (.invokevirtual 50, 3) := by decide +kernel
theorem dX5_setFrame_82 : decode cX5_setFrame 82 = .ok (.iload_n 1, 1) := by decide +kernel
theorem dX5_setFrame_83 : decode cX5_setFrame 83 = .ok (.iload_n 2, 1) := by decide +kernel
theorem dX5_setFrame_84 : decode cX5_setFrame 84 = .ok (.imul, 1) := by decide +kernel
theorem dX5_setFrame_85 : decode cX5_setFrame 85 = .ok (.ireturn, 1) := by decide +kernel
theorem dX5_addParameter_0 : decode cX5_addParameter 0 = .ok (.iload_n 1, 1) := by decide +kernel
theorem dX5_addParameter_1 : decode cX5_addParameter 1 = .ok (.iconst 1, 1) := by decide +kernel
theorem dX5_addParameter_2 : decode cX5_addParameter 2 = .ok (.if_icmp .lt 12, 3) := by decide +kernel
theorem dX5_addParameter_5 : decode cX5_addParameter 5 = .ok (.iload_n 1, 1) := by decide +kernel
theorem dX5_addParameter_6 : decode cX5_addParameter 6 = .ok (.iconst 4, 1) := by decide +kernel
theorem dX5_addParameter_7 : decode cX5_addParameter 7 = .ok (.if_icmp .gt 7, 3) := by decide +kernel
theorem dX5_addParameter_10 : decode cX5_addParameter 10 = .ok (.iconst 1, 1) := by decide +kernel
theorem dX5_addParameter_11 : decode cX5_addParameter 11 = .ok (.goto 4, 3) := by decide +kernel
theorem dX5_addParameter_14 : decode cX5_addParameter 14 = .ok (.iconst 0, 1) := by decide +kernel
theorem dX5_addParameter_15 : decode cX5_addParameter 15 = .ok (.istore_n 2, 1) := by decide +kernel
theorem dX5_addParameter_16 : decode cX5_addParameter 16 = .ok (.iload_n 1, 1) := by decide +kernel
theorem dX5_addParameter_17 : decode cX5_addParameter 17 = .ok (.bipush (-2), 2) := by decide +kernel
theorem dX5_addParameter_19 : decode cX5_addParameter 19 = .ok (.if_icmp .eq 15, 3) := by decide +kernel
theorem dX5_addParameter_22 : decode cX5_addParameter 22 = .ok (.iload_n 1, 1) := by decide +kernel
theorem dX5_addParameter_23 : decode cX5_addParameter 23 = .ok (.bipush (-4), 2) := by decide +kernel
theorem dX5_addParameter_25 : decode cX5_addParameter 25 = .ok (.if_icmp .eq 9, 3) := by decide +kernel
theorem dX5_addParameter_28 : decode cX5_addParameter 28 = .ok (.iload_n 1, 1) := by decide +kernel
theorem dX5_addParameter_29 : decode cX5_addParameter 29 = .ok (.bipush (-8), 2) := by decide +kernel
theorem dX5_addParameter_31 : decode cX5_addParameter 31 = .ok (.if_icmp .ne 7, 3) := by decide +kernel
theorem dX5_addParameter_34 : decode cX5_addParameter 34 = .ok (.iconst 1, 1) := by decide +kernel
theorem dX5_addParameter_35 : decode cX5_addParameter 35 = .ok (.goto 4, 3) := by decide +kernel
theorem dX5_addParameter_38 : decode cX5_addParameter 38 = .ok (.iconst 0, 1) := by decide +kernel
theorem dX5_addParameter_39 : decode cX5_addParameter 39 = .ok (.istore_n 3, 1) := by decide +kernel
theorem dX5_addParameter_40 : decode cX5_addParameter 40 = .ok (.iload_n 2, 1) := by decide +kernel
theorem dX5_addParameter_41 : decode cX5_addParameter 41 = .ok (.ifCond .ne 7, 3) := by decide +kernel
theorem dX5_addParameter_44 : decode cX5_addParameter 44 = .ok (.iload_n 3, 1) := by decide +kernel
theorem dX5_addParameter_45 : decode cX5_addParameter 45 = .ok (.ifCond .eq 7, 3) := by decide +kernel
theorem dX5_addParameter_48 : decode cX5_addParameter 48 = .ok (.iconst 1, 1) := by decide +kernel
theorem dX5_addParameter_49 : decode cX5_addParameter 49 = .ok (.goto 4, 3) := by decide +kernel
theorem dX5_addParameter_52 : decode cX5_addParameter 52 = .ok (.iconst 0, 1) := by decide +kernel
theorem dX5_addParameter_53 : decode cX5_addParameter 53 = .ok (.invokestatic 34, 3) := by decide +kernel
theorem dX5_addParameter_56 : decode cX5_addParameter 56 = .ok (.aload_n 0, 1) := by decide +kernel
theorem dX5_addParameter_57 : decode cX5_addParameter 57 = .ok (.getfield 12, 3) := by decide +kernel
theorem dX5_addParameter_60 : decode cX5_addParameter 60 = .ok (.getfield 53, 3) := by decide +kernel
theorem dX5_addParameter_63 : decode cX5_addParameter 63 = .ok (.bipush 12, 2) := by decide +kernel
theorem dX5_addParameter_65 : decode cX5_addParameter 65 = .ok (.if_icmp .ge 7, 3) := by decide +kernel
theorem dX5_addParameter_68 : decode cX5_addParameter 68 = .ok (.iconst 1, 1) := by decide +kernel
theorem dX5_addParameter_69 : decode cX5_addParameter 69 = .ok (.goto 4, 3) := by decide +kernel
theorem dX5_addParameter_72 : decode cX5_addParameter 72 = .ok (.iconst 0, 1) := by decide +kernel
theorem dX5_addParameter_73 : decode cX5_addParameter 73 = .ok (.invokestatic 56, 3) := by decide +kernel
theorem dX5_addParameter_76 : decode cX5_addParameter 76 = .ok (.aload_n 0, 1) := by decide +kernel
theorem dX5_addParameter_77 : decode cX5_addParameter 77 = .ok (.invokevirtual 38, 3) := by decide +kernel
theorem dX5_addParameter_80 : decode cX5_addParameter 80 = .ok (.aload_n 0, 1) := by decide +kernel
theorem dX5_addParameter_81 : decode cX5_addParameter 81 = .ok (.getfield 12, 3) := by decide +kernel
theorem dX5_addParameter_84 : decode cX5_addParameter 84 = .ok (.getfield 53, 3) := by decide +kernel
theorem dX5_addParameter_87 : decode cX5_addParameter 87 = .ok (.istore 4, 2) := by decide +kernel
theorem dX5_addParameter_89 : decode cX5_addParameter 89 = .ok (.aload_n 0, 1) := by decide +kernel
theorem dX5_addParameter_90 : decode cX5_addParameter 90 = .ok (.getfield 12, 3) := by decide +kernel
theorem dX5_addParameter_93 : decode cX5_addParameter 93 = .ok (.getfield 59, 3) := by decide +kernel
theorem dX5_addParameter_96 : decode cX5_addParameter 96 = .ok (.iload 4, 2) := by decide +kernel
theorem dX5_addParameter_98 : decode cX5_addParameter 98 = .ok (.aaload, 1) := by decide +kernel
theorem dX5_addParameter_99 : decode cX5_addParameter 99 = .ok (.iload_n 1, 1) := by decide +kernel
theorem dX5_addParameter_100 : decode cX5_addParameter 100 = .ok (.invokevirtual 63, 3) := by decide +kernel
theorem dX5_addParameter_103 : decode cX5_addParameter 103 = .ok (.aload_n 0, 1) := by decide +kernel
theorem dX5_addParameter_104 : decode cX5_addParameter 104 = .ok (.getfield 12, 3) := by decide +kernel
theorem dX5_addParameter_107 : decode cX5_addParameter 107 = .ok (.iload 4, 2) := by decide +kernel
theorem dX5_addParameter_109 : decode cX5_addParameter 109 = .ok (.iconst 1, 1) := by decide +kernel
theorem dX5_addParameter_110 : decode cX5_addParameter 110 = .ok (.iadd, 1) := by decide +kernel
theorem dX5_addParameter_111 : decode cX5_addParameter 111 = .ok (.putfield 53, 3) := by decide +kernel
theorem dX5_addParameter_114 : decode cX5_addParameter 114 = .ok (.aload_n 0, 1) := by decide +kernel
theorem dX5_addParameter_115 : decode cX5_addParameter 115 = .ok (.getfield 12, 3) := by decide +kernel
theorem dX5_addParameter_118 : decode cX5_addParameter 118 = .ok (.invokevirtual 50, 3) := by decide +kernel
theorem dX5_addParameter_121 : decode cX5_addParameter 121 = .ok (.iload 4, 2) := by decide +kernel
theorem dX5_addParameter_123 : decode cX5_addParameter 123 = .ok (.ireturn, 1) := by decide +kernel
theorem dX5_plan_0 : decode cX5_plan 0 = .ok (.aload_n 0, 1) := by decide +kernel
theorem dX5_plan_1 : decode cX5_plan 1 = .ok (.getfield 30, 3) := by decide +kernel
theorem dX5_plan_4 : decode cX5_plan 4 = .ok (.aload_n 0, 1) := by decide +kernel
theorem dX5_plan_5 : decode cX5_plan 5 = .ok (.getfield 12, 3) := by decide +kernel
theorem dX5_plan_8 : decode cX5_plan 8 = .ok (.getfield 41, 3) := by decide +kernel
theorem dX5_plan_11 : decode cX5_plan 11 = .ok (.invokevirtual 69, 3) := by decide +kernel
theorem dX5_plan_14 : decode cX5_plan 14 = .ok (.aload_n 0, 1) := by decide +kernel
theorem dX5_plan_15 : decode cX5_plan 15 = .ok (.getfield 30, 3) := by decide +kernel
theorem dX5_plan_18 : decode cX5_plan 18 = .ok (.invokevirtual 73, 3) := by decide +kernel
theorem dX5_plan_21 : decode cX5_plan 21 = .ok (.aload_n 0, 1) := by decide +kernel
theorem dX5_plan_22 : decode cX5_plan 22 = .ok (.invokevirtual 76, 3) := by decide +kernel
theorem dX5_plan_25 : decode cX5_plan 25 = .ok (.istore_n 1, 1) := by decide +kernel
theorem dX5_plan_26 : decode cX5_plan 26 = .ok (.iload_n 1, 1) := by decide +kernel
theorem dX5_plan_27 : decode cX5_plan 27 = .ok (.iconst (-1), 1) := by decide +kernel
theorem dX5_plan_28 : decode cX5_plan 28 = .ok (.if_icmp .eq 8, 3) := by decide +kernel
theorem dX5_plan_31 : decode cX5_plan 31 = .ok (.bipush (-10), 2) := by decide +kernel
theorem dX5_plan_33 : decode cX5_plan 33 = .ok (.iload_n 1, 1) := by decide +kernel
theorem dX5_plan_34 : decode cX5_plan 34 = .ok (.isub, 1) := by decide +kernel
theorem dX5_plan_35 : decode cX5_plan 35 = .ok (.ireturn, 1) := by decide +kernel
theorem dX5_plan_36 : decode cX5_plan 36 = .ok (.aload_n 0, 1) := by decide +kernel
theorem dX5_plan_37 : decode cX5_plan 37 = .ok (.invokevirtual 38, 3) := by decide +kernel
theorem dX5_plan_40 : decode cX5_plan 40 = .ok (.aload_n 0, 1) := by decide +kernel
theorem dX5_plan_41 : decode cX5_plan 41 = .ok (.getfield 30, 3) := by decide +kernel
theorem dX5_plan_44 : decode cX5_plan 44 = .ok (.iconst 1, 1) := by decide +kernel
theorem dX5_plan_45 : decode cX5_plan 45 = .ok (.putfield 80, 3) := by decide +kernel
theorem dX5_plan_48 : decode cX5_plan 48 = .ok (.aload_n 0, 1) := by decide +kernel
theorem dX5_plan_49 : decode cX5_plan 49 = .ok (.getfield 12, 3) := by decide +kernel
theorem dX5_plan_52 : decode cX5_plan 52 = .ok (.getfield 41, 3) := by decide +kernel
theorem dX5_plan_55 : decode cX5_plan 55 = .ok (.aload_n 0, 1) := by decide +kernel
theorem dX5_plan_56 : decode cX5_plan 56 = .ok (.getfield 30, 3) := by decide +kernel
theorem dX5_plan_59 : decode cX5_plan 59 = .ok (.invokevirtual 69, 3) := by decide +kernel
theorem dX5_plan_62 : decode cX5_plan 62 = .ok (.aload_n 0, 1) := by decide +kernel
theorem dX5_plan_63 : decode cX5_plan 63 = .ok (.getfield 30, 3) := by decide +kernel
theorem dX5_plan_66 : decode cX5_plan 66 = .ok (.getfield 84, 3) := by decide +kernel
theorem dX5_plan_69 : decode cX5_plan 69 = .ok (.ireturn, 1) := by decide +kernel
theorem dX5_samplesPerMajor_0 : decode cX5_samplesPerMajor 0 = .ok (.aload_n 0, 1) := by decide +kernel
theorem dX5_samplesPerMajor_1 : decode cX5_samplesPerMajor 1 = .ok (.iload_n 1, 1) := by decide +kernel
theorem dX5_samplesPerMajor_2 : decode cX5_samplesPerMajor 2 = .ok (.invokevirtual 87, 3) := by decide +kernel
theorem dX5_samplesPerMajor_5 : decode cX5_samplesPerMajor 5 = .ok (.aload_n 0, 1) := by decide +kernel
theorem dX5_samplesPerMajor_6 : decode cX5_samplesPerMajor 6 = .ok (.getfield 12, 3) := by decide +kernel
theorem dX5_samplesPerMajor_9 : decode cX5_samplesPerMajor 9 = .ok (.getfield 41, 3) := by decide +kernel
theorem dX5_samplesPerMajor_12 : decode cX5_samplesPerMajor 12 = .ok (.getfield 47, 3) := by decide +kernel
theorem dX5_samplesPerMajor_15 : decode cX5_samplesPerMajor 15 = .ok (.invokevirtual 91, 3) := by decide +kernel
theorem dX5_samplesPerMajor_18 : decode cX5_samplesPerMajor 18 = .ok (.ireturn, 1) := by decide +kernel
theorem dX5_slot_0 : decode cX5_slot 0 = .ok (.iload_n 1, 1) := by decide +kernel
theorem dX5_slot_1 : decode cX5_slot 1 = .ok (.aload_n 0, 1) := by decide +kernel
theorem dX5_slot_2 : decode cX5_slot 2 = .ok (.getfield 12, 3) := by decide +kernel
theorem dX5_slot_5 : decode cX5_slot 5 = .ok (.getfield 53, 3) := by decide +kernel
theorem dX5_slot_8 : decode cX5_slot 8 = .ok (.invokestatic 95, 3) := by decide +kernel
theorem dX5_slot_11 : decode cX5_slot 11 = .ok (.iload_n 3, 1) := by decide +kernel
theorem dX5_slot_12 : decode cX5_slot 12 = .ok (.ifCond .eq 8, 3) := by decide +kernel
theorem dX5_slot_15 : decode cX5_slot 15 = .ok (.iload_n 3, 1) := by decide +kernel
theorem dX5_slot_16 : decode cX5_slot 16 = .ok (.iconst 1, 1) := by decide +kernel
theorem dX5_slot_17 : decode cX5_slot 17 = .ok (.if_icmp .ne 7, 3) := by decide +kernel
theorem dX5_slot_20 : decode cX5_slot 20 = .ok (.iconst 1, 1) := by decide +kernel
theorem dX5_slot_21 : decode cX5_slot 21 = .ok (.goto 4, 3) := by decide +kernel
theorem dX5_slot_24 : decode cX5_slot 24 = .ok (.iconst 0, 1) := by decide +kernel
theorem dX5_slot_25 : decode cX5_slot 25 = .ok (.invokestatic 34, 3) := by decide +kernel
theorem dX5_slot_28 : decode cX5_slot 28 = .ok (.aload_n 0, 1) := by decide +kernel
theorem dX5_slot_29 : decode cX5_slot 29 = .ok (.getfield 12, 3) := by decide +kernel
theorem dX5_slot_32 : decode cX5_slot 32 = .ok (.getfield 41, 3) := by decide +kernel
theorem dX5_slot_35 : decode cX5_slot 35 = .ok (.getfield 80, 3) := by decide +kernel
theorem dX5_slot_38 : decode cX5_slot 38 = .ok (.invokestatic 56, 3) := by decide +kernel
theorem dX5_slot_41 : decode cX5_slot 41 = .ok (.aload_n 0, 1) := by decide +kernel
theorem dX5_slot_42 : decode cX5_slot 42 = .ok (.getfield 12, 3) := by decide +kernel
theorem dX5_slot_45 : decode cX5_slot 45 = .ok (.getfield 41, 3) := by decide +kernel
theorem dX5_slot_48 : decode cX5_slot 48 = .ok (.iload_n 1, 1) := by decide +kernel
theorem dX5_slot_49 : decode cX5_slot 49 = .ok (.iload_n 2, 1) := by decide +kernel
theorem dX5_slot_50 : decode cX5_slot 50 = .ok (.invokevirtual 99, 3) := by decide +kernel
theorem dX5_slot_53 : decode cX5_slot 53 = .ok (.istore 4, 2) := by decide +kernel
theorem dX5_slot_55 : decode cX5_slot 55 = .ok (.iload 4, 2) := by decide +kernel
theorem dX5_slot_57 : decode cX5_slot 57 = .ok (.iconst (-1), 1) := by decide +kernel
theorem dX5_slot_58 : decode cX5_slot 58 = .ok (.if_icmp .eq 7, 3) := by decide +kernel
theorem dX5_slot_61 : decode cX5_slot 61 = .ok (.iconst 1, 1) := by decide +kernel
theorem dX5_slot_62 : decode cX5_slot 62 = .ok (.goto 4, 3) := by decide +kernel
theorem dX5_slot_65 : decode cX5_slot 65 = .ok (.iconst 0, 1) := by decide +kernel
theorem dX5_slot_66 : decode cX5_slot 66 = .ok (.invokestatic 56, 3) := by decide +kernel
theorem dX5_slot_69 : decode cX5_slot 69 = .ok (.iload_n 3, 1) := by decide +kernel
theorem dX5_slot_70 : decode cX5_slot 70 = .ok (.ifCond .ne 11, 3) := by decide +kernel
theorem dX5_slot_73 : decode cX5_slot 73 = .ok (.iload 4, 2) := by decide +kernel
theorem dX5_slot_75 : decode cX5_slot 75 = .ok (.bipush 16, 2) := by decide +kernel
theorem dX5_slot_77 : decode cX5_slot 77 = .ok (.idiv, 1) := by decide +kernel
theorem dX5_slot_78 : decode cX5_slot 78 = .ok (.goto 8, 3) := by decide +kernel
theorem dX5_slot_81 : decode cX5_slot 81 = .ok (.iload 4, 2) := by decide +kernel
theorem dX5_slot_83 : decode cX5_slot 83 = .ok (.bipush 16, 2) := by decide +kernel
theorem dX5_slot_85 : decode cX5_slot 85 = .ok (.irem, 1) := by decide +kernel
theorem dX5_slot_86 : decode cX5_slot 86 = .ok (.ireturn, 1) := by decide +kernel
theorem dX5_ownerOf_0 : decode cX5_ownerOf 0 = .ok (.iload_n 1, 1) := by decide +kernel
theorem dX5_ownerOf_1 : decode cX5_ownerOf 1 = .ok (.aload_n 0, 1) := by decide +kernel
theorem dX5_ownerOf_2 : decode cX5_ownerOf 2 = .ok (.getfield 12, 3) := by decide +kernel
theorem dX5_ownerOf_5 : decode cX5_ownerOf 5 = .ok (.getfield 41, 3) := by decide +kernel
theorem dX5_ownerOf_8 : decode cX5_ownerOf 8 = .ok (.getfield 47, 3) := by decide +kernel
theorem dX5_ownerOf_11 : decode cX5_ownerOf 11 = .ok (.invokestatic 95, 3) := by decide +kernel
theorem dX5_ownerOf_14 : decode cX5_ownerOf 14 = .ok (.iload_n 2, 1) := by decide +kernel
theorem dX5_ownerOf_15 : decode cX5_ownerOf 15 = .ok (.aload_n 0, 1) := by decide +kernel
theorem dX5_ownerOf_16 : decode cX5_ownerOf 16 = .ok (.getfield 12, 3) := by decide +kernel
theorem dX5_ownerOf_19 : decode cX5_ownerOf 19 = .ok (.getfield 41, 3) := by decide +kernel
theorem dX5_ownerOf_22 : decode cX5_ownerOf 22 = .ok (.getfield 44, 3) := by decide +kernel
theorem dX5_ownerOf_25 : decode cX5_ownerOf 25 = .ok (.invokestatic 95, 3) := by decide +kernel
theorem dX5_ownerOf_28 : decode cX5_ownerOf 28 = .ok (.aload_n 0, 1) := by decide +kernel
theorem dX5_ownerOf_29 : decode cX5_ownerOf 29 = .ok (.getfield 12, 3) := by decide +kernel
theorem dX5_ownerOf_32 : decode cX5_ownerOf 32 = .ok (.getfield 41, 3) := by decide +kernel
theorem dX5_ownerOf_35 : decode cX5_ownerOf 35 = .ok (.getfield 80, 3) := by decide +kernel
theorem dX5_ownerOf_38 : decode cX5_ownerOf 38 = .ok (.invokestatic 56, 3) := by decide +kernel
theorem dX5_ownerOf_41 : decode cX5_ownerOf 41 = .ok (.aload_n 0, 1) := by decide +kernel
theorem dX5_ownerOf_42 : decode cX5_ownerOf 42 = .ok (.getfield 12, 3) := by decide +kernel
theorem dX5_ownerOf_45 : decode cX5_ownerOf 45 = .ok (.getfield 41, 3) := by decide +kernel
theorem dX5_ownerOf_48 : decode cX5_ownerOf 48 = .ok (.iload_n 1, 1) := by decide +kernel
theorem dX5_ownerOf_49 : decode cX5_ownerOf 49 = .ok (.iload_n 2, 1) := by decide +kernel
theorem dX5_ownerOf_50 : decode cX5_ownerOf 50 = .ok (.invokevirtual 103, 3) := by decide +kernel
theorem dX5_ownerOf_53 : decode cX5_ownerOf 53 = .ok (.ireturn, 1) := by decide +kernel
theorem dX5_efficiency_0 : decode cX5_efficiency 0 = .ok (.aload_n 0, 1) := by decide +kernel
theorem dX5_efficiency_1 : decode cX5_efficiency 1 = .ok (.getfield 12, 3) := by decide +kernel
theorem dX5_efficiency_4 : decode cX5_efficiency 4 = .ok (.getfield 41, 3) := by decide +kernel
theorem dX5_efficiency_7 : decode cX5_efficiency 7 = .ok (.getfield 80, 3) := by decide +kernel
theorem dX5_efficiency_10 : decode cX5_efficiency 10 = .ok (.invokestatic 56, 3) := by decide +kernel
theorem dX5_efficiency_13 : decode cX5_efficiency 13 = .ok (.aload_n 0, 1) := by decide +kernel
theorem dX5_efficiency_14 : decode cX5_efficiency 14 = .ok (.getfield 12, 3) := by decide +kernel
theorem dX5_efficiency_17 : decode cX5_efficiency 17 = .ok (.getfield 41, 3) := by decide +kernel
theorem dX5_efficiency_20 : decode cX5_efficiency 20 = .ok (.getfield 84, 3) := by decide +kernel
theorem dX5_efficiency_23 : decode cX5_efficiency 23 = .ok (.i2d, 1) := by decide +kernel
theorem dX5_efficiency_24 : decode cX5_efficiency 24 = .ok (.aload_n 0, 1) := by decide +kernel
theorem dX5_efficiency_25 : decode cX5_efficiency 25 = .ok (.getfield 12, 3) := by decide +kernel
theorem dX5_efficiency_28 : decode cX5_efficiency 28 = .ok (.getfield 41, 3) := by decide +kernel
theorem dX5_efficiency_31 : decode cX5_efficiency 31 = .ok (.getfield 44, 3) := by decide +kernel
theorem dX5_efficiency_34 : decode cX5_efficiency 34 = .ok (.aload_n 0, 1) := by decide +kernel
theorem dX5_efficiency_35 : decode cX5_efficiency 35 = .ok (.getfield 12, 3) := by decide +kernel
theorem dX5_efficiency_38 : decode cX5_efficiency 38 = .ok (.getfield 41, 3) := by decide +kernel
theorem dX5_efficiency_41 : decode cX5_efficiency 41 = .ok (.getfield 47, 3) := by decide +kernel
theorem dX5_efficiency_44 : decode cX5_efficiency 44 = .ok (.imul, 1) := by decide +kernel
theorem dX5_efficiency_45 : decode cX5_efficiency 45 = .ok (.i2d, 1) := by decide +kernel
theorem dX5_efficiency_46 : decode cX5_efficiency 46 = .ok (.ddiv, 1) := by decide +kernel
theorem dX5_efficiency_47 : decode cX5_efficiency 47 = .ok (.dreturn, 1) := by decide +kernel
theorem dX5_setValue_0 : decode cX5_setValue 0 = .ok (.aload_n 0, 1) := by decide +kernel
theorem dX5_setValue_1 : decode cX5_setValue 1 = .ok (.iload_n 1, 1) := by decide +kernel
theorem dX5_setValue_2 : decode cX5_setValue 2 = .ok (.invokevirtual 87, 3) := by decide +kernel
theorem dX5_setValue_5 : decode cX5_setValue 5 = .ok (.astore_n 3, 1) := by decide +kernel
theorem dX5_setValue_6 : decode cX5_setValue 6 = .ok (.iload_n 2, 1) := by decide +kernel
theorem dX5_setValue_7 : decode cX5_setValue 7 = .ok (.ifCond .lt 14, 3) := by decide +kernel
theorem dX5_setValue_10 : decode cX5_setValue 10 = .ok (.iload_n 2, 1) := by decide +kernel
theorem dX5_setValue_11 : decode cX5_setValue 11 = .ok (.sipush 255, 3) := by decide +kernel
theorem dX5_setValue_14 : decode cX5_setValue 14 = .ok (.if_icmp .gt 7, 3) := by decide +kernel
theorem dX5_setValue_17 : decode cX5_setValue 17 = .ok (.iconst 1, 1) := by decide +kernel
theorem dX5_setValue_18 : decode cX5_setValue 18 = .ok (.goto 4, 3) := by decide +kernel
theorem dX5_setValue_21 : decode cX5_setValue 21 = .ok (.iconst 0, 1) := by decide +kernel
theorem dX5_setValue_22 : decode cX5_setValue 22 = .ok (.invokestatic 34, 3) := by decide +kernel
theorem dX5_setValue_25 : decode cX5_setValue 25 = .ok (.aload_n 0, 1) := by decide +kernel
theorem dX5_setValue_26 : decode cX5_setValue 26 = .ok (.invokevirtual 38, 3) := by decide +kernel
theorem dX5_setValue_29 : decode cX5_setValue 29 = .ok (.aload_n 3, 1) := by decide +kernel
theorem dX5_setValue_30 : decode cX5_setValue 30 = .ok (.getfield 106, 3) := by decide +kernel
theorem dX5_setValue_33 : decode cX5_setValue 33 = .ok (.istore 4, 2) := by decide +kernel
theorem dX5_setValue_35 : decode cX5_setValue 35 = .ok (.aload_n 3, 1) := by decide +kernel
theorem dX5_setValue_36 : decode cX5_setValue 36 = .ok (.iload_n 2, 1) := by decide +kernel
theorem dX5_setValue_37 : decode cX5_setValue 37 = .ok (.putfield 106, 3) := by decide +kernel
theorem dX5_setValue_40 : decode cX5_setValue 40 = .ok (.iload 4, 2) := by decide +kernel
theorem dX5_setValue_42 : decode cX5_setValue 42 = .ok (.ireturn, 1) := by decide +kernel
theorem dX5_send_0 : decode cX5_send 0 = .ok (.iload_n 1, 1) := by decide +kernel
theorem dX5_send_1 : decode cX5_send 1 = .ok (.iconst 1, 1) := by decide +kernel
theorem dX5_send_2 : decode cX5_send 2 = .ok (.if_icmp .lt 13, 3) := by decide +kernel
theorem dX5_send_5 : decode cX5_send 5 = .ok (.iload_n 1, 1) := by decide +kernel
theorem dX5_send_6 : decode cX5_send 6 = .ok (.bipush 16, 2) := by decide +kernel
theorem dX5_send_8 : decode cX5_send 8 = .ok (.if_icmp .gt 7, 3) := by decide +kernel
theorem dX5_send_11 : decode cX5_send 11 = .ok (.iconst 1, 1) := by decide +kernel
theorem dX5_send_12 : decode cX5_send 12 = .ok (.goto 4, 3) := by decide +kernel
theorem dX5_send_15 : decode cX5_send 15 = .ok (.iconst 0, 1) := by decide +kernel
theorem dX5_send_16 : decode cX5_send 16 = .ok (.invokestatic 34, 3) := by decide +kernel
theorem dX5_send_19 : decode cX5_send 19 = .ok (.aload_n 0, 1) := by decide +kernel
theorem dX5_send_20 : decode cX5_send 20 = .ok (.getfield 12, 3) := by decide +kernel
theorem dX5_send_23 : decode cX5_send 23 = .ok (.getfield 41, 3) := by decide +kernel
theorem dX5_send_26 : decode cX5_send 26 = .ok (.getfield 80, 3) := by decide +kernel
theorem dX5_send_29 : decode cX5_send 29 = .ok (.invokestatic 56, 3) := by decide +kernel
theorem dX5_send_32 : decode cX5_send 32 = .ok (.aload_n 0, 1) := by decide +kernel
theorem dX5_send_33 : decode cX5_send 33 = .ok (.getfield 12, 3) := by decide +kernel
theorem dX5_send_36 : decode cX5_send 36 = .ok (.getfield 109, 3) := by decide +kernel
theorem dX5_send_39 : decode cX5_send 39 = .ok (.getfield 113, 3) := by decide +kernel
theorem dX5_send_42 : decode cX5_send 42 = .ok (.iload_n 1, 1) := by decide +kernel
theorem dX5_send_43 : decode cX5_send 43 = .ok (.aload_n 0, 1) := by decide +kernel
theorem dX5_send_44 : decode cX5_send 44 = .ok (.getfield 12, 3) := by decide +kernel
theorem dX5_send_47 : decode cX5_send 47 = .ok (.getfield 41, 3) := by decide +kernel
theorem dX5_send_50 : decode cX5_send 50 = .ok (.getfield 44, 3) := by decide +kernel
theorem dX5_send_53 : decode cX5_send 53 = .ok (.imul, 1) := by decide +kernel
theorem dX5_send_54 : decode cX5_send 54 = .ok (.bipush 8, 2) := by decide +kernel
theorem dX5_send_56 : decode cX5_send 56 = .ok (.imul, 1) := by decide +kernel
theorem dX5_send_57 : decode cX5_send 57 = .ok (.iadd, 1) := by decide +kernel
theorem dX5_send_58 : decode cX5_send 58 = .ok (.sipush 2048, 3) := by decide +kernel
theorem dX5_send_61 : decode cX5_send 61 = .ok (.if_icmp .gt 7, 3) := by decide +kernel
theorem dX5_send_64 : decode cX5_send 64 = .ok (.iconst 1, 1) := by decide +kernel
theorem dX5_send_65 : decode cX5_send 65 = .ok (.goto 4, 3) := by decide +kernel
theorem dX5_send_68 : decode cX5_send 68 = .ok (.iconst 0, 1) := by decide +kernel
theorem dX5_send_69 : decode cX5_send 69 = .ok (.invokestatic 56, 3) := by decide +kernel
theorem dX5_send_72 : decode cX5_send 72 = .ok (.aload_n 0, 1) := by decide +kernel
theorem dX5_send_73 : decode cX5_send 73 = .ok (.invokevirtual 38, 3) := by decide +kernel
theorem dX5_send_76 : decode cX5_send 76 = .ok (.iconst 0, 1) := by decide +kernel
theorem dX5_send_77 : decode cX5_send 77 = .ok (.istore_n 2, 1) := by decide +kernel
theorem dX5_send_78 : decode cX5_send 78 = .ok (.iload_n 2, 1) := by decide +kernel
theorem dX5_send_79 : decode cX5_send 79 = .ok (.iload_n 1, 1) := by decide +kernel
theorem dX5_send_80 : decode cX5_send 80 = .ok (.if_icmp .ge 16, 3) := by decide +kernel
theorem dX5_send_83 : decode cX5_send 83 = .ok (.aload_n 0, 1) := by decide +kernel
theorem dX5_send_84 : decode cX5_send 84 = .ok (.getfield 12, 3) := by decide +kernel
theorem dX5_send_87 : decode cX5_send 87 = .ok (.invokevirtual 118, 3) := by decide +kernel
theorem dX5_send_90 : decode cX5_send 90 = .ok (.iinc 2 1, 3) := by decide +kernel
theorem dX5_send_93 : decode cX5_send 93 = .ok (.goto (-15), 3) := by decide +kernel
theorem dX5_send_96 : decode cX5_send 96 = .ok (.aload_n 0, 1) := by decide +kernel
theorem dX5_send_97 : decode cX5_send 97 = .ok (.getfield 12, 3) := by decide +kernel
theorem dX5_send_100 : decode cX5_send 100 = .ok (.getfield 109, 3) := by decide +kernel
theorem dX5_send_103 : decode cX5_send 103 = .ok (.getfield 113, 3) := by decide +kernel
theorem dX5_send_106 : decode cX5_send 106 = .ok (.ireturn, 1) := by decide +kernel
theorem dX5_pending_0 : decode cX5_pending 0 = .ok (.aload_n 0, 1) := by decide +kernel
theorem dX5_pending_1 : decode cX5_pending 1 = .ok (.getfield 12, 3) := by decide +kernel
theorem dX5_pending_4 : decode cX5_pending 4 = .ok (.getfield 109, 3) := by decide +kernel
theorem dX5_pending_7 : decode cX5_pending 7 = .ok (.getfield 113, 3) := by decide +kernel
theorem dX5_pending_10 : decode cX5_pending 10 = .ok (.ireturn, 1) := by decide +kernel
theorem dX5_bit_0 : decode cX5_bit 0 = .ok (.iload_n 1, 1) := by decide +kernel
theorem dX5_bit_1 : decode cX5_bit 1 = .ok (.aload_n 0, 1) := by decide +kernel
theorem dX5_bit_2 : decode cX5_bit 2 = .ok (.getfield 12, 3) := by decide +kernel
theorem dX5_bit_5 : decode cX5_bit 5 = .ok (.getfield 109, 3) := by decide +kernel
theorem dX5_bit_8 : decode cX5_bit 8 = .ok (.getfield 113, 3) := by decide +kernel
theorem dX5_bit_11 : decode cX5_bit 11 = .ok (.invokestatic 95, 3) := by decide +kernel
theorem dX5_bit_14 : decode cX5_bit 14 = .ok (.aload_n 0, 1) := by decide +kernel
theorem dX5_bit_15 : decode cX5_bit 15 = .ok (.getfield 12, 3) := by decide +kernel
theorem dX5_bit_18 : decode cX5_bit 18 = .ok (.getfield 109, 3) := by decide +kernel
theorem dX5_bit_21 : decode cX5_bit 21 = .ok (.getfield 121, 3) := by decide +kernel
theorem dX5_bit_24 : decode cX5_bit 24 = .ok (.iload_n 1, 1) := by decide +kernel
theorem dX5_bit_25 : decode cX5_bit 25 = .ok (.iaload, 1) := by decide +kernel
theorem dX5_bit_26 : decode cX5_bit 26 = .ok (.ireturn, 1) := by decide +kernel
theorem dX5_disturb_0 : decode cX5_disturb 0 = .ok (.iload_n 1, 1) := by decide +kernel
theorem dX5_disturb_1 : decode cX5_disturb 1 = .ok (.ifCond .lt 12, 3) := by decide +kernel
theorem dX5_disturb_4 : decode cX5_disturb 4 = .ok (.iload_n 1, 1) := by decide +kernel
theorem dX5_disturb_5 : decode cX5_disturb 5 = .ok (.iconst 3, 1) := by decide +kernel
theorem dX5_disturb_6 : decode cX5_disturb 6 = .ok (.if_icmp .gt 7, 3) := by decide +kernel
theorem dX5_disturb_9 : decode cX5_disturb 9 = .ok (.iconst 1, 1) := by decide +kernel
theorem dX5_disturb_10 : decode cX5_disturb 10 = .ok (.goto 4, 3) := by decide +kernel
theorem dX5_disturb_13 : decode cX5_disturb 13 = .ok (.iconst 0, 1) := by decide +kernel
theorem dX5_disturb_14 : decode cX5_disturb 14 = .ok (.invokestatic 34, 3) := by decide +kernel
theorem dX5_disturb_17 : decode cX5_disturb 17 = .ok (.iload_n 2, 1) := by decide +kernel
theorem dX5_disturb_18 : decode cX5_disturb 18 = .ok (.aload_n 0, 1) := by decide +kernel
theorem dX5_disturb_19 : decode cX5_disturb 19 = .ok (.getfield 12, 3) := by decide +kernel
theorem dX5_disturb_22 : decode cX5_disturb 22 = .ok (.getfield 109, 3) := by decide +kernel
theorem dX5_disturb_25 : decode cX5_disturb 25 = .ok (.getfield 113, 3) := by decide +kernel
theorem dX5_disturb_28 : decode cX5_disturb 28 = .ok (.invokestatic 95, 3) := by decide +kernel
theorem dX5_disturb_31 : decode cX5_disturb 31 = .ok (.iload_n 1, 1) := by decide +kernel
theorem dX5_disturb_32 : decode cX5_disturb 32 = .ok (.iconst 2, 1) := by decide +kernel
theorem dX5_disturb_33 : decode cX5_disturb 33 = .ok (.if_icmp .eq 8, 3) := by decide +kernel
theorem dX5_disturb_36 : decode cX5_disturb 36 = .ok (.iload_n 1, 1) := by decide +kernel
theorem dX5_disturb_37 : decode cX5_disturb 37 = .ok (.iconst 3, 1) := by decide +kernel
theorem dX5_disturb_38 : decode cX5_disturb 38 = .ok (.if_icmp .ne 7, 3) := by decide +kernel
theorem dX5_disturb_41 : decode cX5_disturb 41 = .ok (.iconst 1, 1) := by decide +kernel
theorem dX5_disturb_42 : decode cX5_disturb 42 = .ok (.goto 4, 3) := by decide +kernel
theorem dX5_disturb_45 : decode cX5_disturb 45 = .ok (.iconst 0, 1) := by decide +kernel
theorem dX5_disturb_46 : decode cX5_disturb 46 = .ok (.istore_n 3, 1) := by decide +kernel
theorem dX5_disturb_47 : decode cX5_disturb 47 = .ok (.iload_n 3, 1) := by decide +kernel
theorem dX5_disturb_48 : decode cX5_disturb 48 = .ok (.ifCond .eq 19, 3) := by decide +kernel
theorem dX5_disturb_51 : decode cX5_disturb 51 = .ok (.aload_n 0, 1) := by decide +kernel
theorem dX5_disturb_52 : decode cX5_disturb 52 = .ok (.getfield 12, 3) := by decide +kernel
theorem dX5_disturb_55 : decode cX5_disturb 55 = .ok (.getfield 109, 3) := by decide +kernel
theorem dX5_disturb_58 : decode cX5_disturb 58 = .ok (.getfield 113, 3) := by decide +kernel
theorem dX5_disturb_61 : decode cX5_disturb 61 = .ok (.sipush 2048, 3) := by decide +kernel
theorem dX5_disturb_64 : decode cX5_disturb 64 = .ok (.if_icmp .ge 7, 3) := by decide +kernel
theorem dX5_disturb_67 : decode cX5_disturb 67 = .ok (.iconst 1, 1) := by decide +kernel
theorem dX5_disturb_68 : decode cX5_disturb 68 = .ok (.goto 4, 3) := by decide +kernel
theorem dX5_disturb_71 : decode cX5_disturb 71 = .ok (.iconst 0, 1) := by decide +kernel
theorem dX5_disturb_72 : decode cX5_disturb 72 = .ok (.invokestatic 56, 3) := by decide +kernel
theorem dX5_disturb_75 : decode cX5_disturb 75 = .ok (.aload_n 0, 1) := by decide +kernel
theorem dX5_disturb_76 : decode cX5_disturb 76 = .ok (.invokevirtual 38, 3) := by decide +kernel
theorem dX5_disturb_79 : decode cX5_disturb 79 = .ok (.iload_n 1, 1) := by decide +kernel
theorem dX5_disturb_80 : decode cX5_disturb 80 = .ok (.ifCond .ne 17, 3) := by decide +kernel
theorem dX5_disturb_83 : decode cX5_disturb 83 = .ok (.aload_n 0, 1) := by decide +kernel
theorem dX5_disturb_84 : decode cX5_disturb 84 = .ok (.getfield 12, 3) := by decide +kernel
theorem dX5_disturb_87 : decode cX5_disturb 87 = .ok (.getfield 109, 3) := by decide +kernel
theorem dX5_disturb_90 : decode cX5_disturb 90 = .ok (.iload_n 2, 1) := by decide +kernel
theorem dX5_disturb_91 : decode cX5_disturb 91 = .ok (.invokevirtual 125, 3) := by decide +kernel
theorem dX5_disturb_94 : decode cX5_disturb 94 = .ok (.goto 43, 3) := by decide +kernel
theorem dX5_disturb_97 : decode cX5_disturb 97 = .ok (.iload_n 1, 1) := by decide +kernel
theorem dX5_disturb_98 : decode cX5_disturb 98 = .ok (.iconst 1, 1) := by decide +kernel
theorem dX5_disturb_99 : decode cX5_disturb 99 = .ok (.if_icmp .ne 17, 3) := by decide +kernel
theorem dX5_disturb_102 : decode cX5_disturb 102 = .ok (.aload_n 0, 1) := by decide +kernel
theorem dX5_disturb_103 : decode cX5_disturb 103 = .ok (.getfield 12, 3) := by decide +kernel
theorem dX5_disturb_106 : decode cX5_disturb 106 = .ok (.getfield 109, 3) := by decide +kernel
theorem dX5_disturb_109 : decode cX5_disturb 109 = .ok (.iload_n 2, 1) := by decide +kernel
theorem dX5_disturb_110 : decode cX5_disturb 110 = .ok (.invokevirtual 128, 3) := by decide +kernel
theorem dX5_disturb_113 : decode cX5_disturb 113 = .ok (.goto 24, 3) := by decide +kernel
theorem dX5_disturb_116 : decode cX5_disturb 116 = .ok (.aload_n 0, 1) := by decide +kernel
theorem dX5_disturb_117 : decode cX5_disturb 117 = .ok (.getfield 12, 3) := by decide +kernel
theorem dX5_disturb_120 : decode cX5_disturb 120 = .ok (.getfield 109, 3) := by decide +kernel
theorem dX5_disturb_123 : decode cX5_disturb 123 = .ok (.iload_n 2, 1) := by decide +kernel
theorem dX5_disturb_124 : decode cX5_disturb 124 = .ok (.iload_n 1, 1) := by decide +kernel
theorem dX5_disturb_125 : decode cX5_disturb 125 = .ok (.iconst 3, 1) := by decide +kernel
theorem dX5_disturb_126 : decode cX5_disturb 126 = .ok (.if_icmp .ne 7, 3) := by decide +kernel
theorem dX5_disturb_129 : decode cX5_disturb 129 = .ok (.iconst 1, 1) := by decide +kernel
theorem dX5_disturb_130 : decode cX5_disturb 130 = .ok (.goto 4, 3) := by decide +kernel
theorem dX5_disturb_133 : decode cX5_disturb 133 = .ok (.iconst 0, 1) := by decide +kernel
theorem dX5_disturb_134 : decode cX5_disturb 134 = .ok (.invokevirtual 131, 3) := by decide +kernel
theorem dX5_disturb_137 : decode cX5_disturb 137 = .ok (.aload_n 0, 1) := by decide +kernel
theorem dX5_disturb_138 : decode cX5_disturb 138 = .ok (.getfield 12, 3) := by decide +kernel
theorem dX5_disturb_141 : decode cX5_disturb 141 = .ok (.getfield 109, 3) := by decide +kernel
theorem dX5_disturb_144 : decode cX5_disturb 144 = .ok (.getfield 113, 3) := by decide +kernel
theorem dX5_disturb_147 : decode cX5_disturb 147 = .ok (.ireturn, 1) := by decide +kernel
theorem dX5_receive_0 : decode cX5_receive 0 = .ok (.iload_n 1, 1) := by decide +kernel
theorem dX5_receive_1 : decode cX5_receive 1 = .ok (.iconst 1, 1) := by decide +kernel
theorem dX5_receive_2 : decode cX5_receive 2 = .ok (.if_icmp .lt 14, 3) := by decide +kernel
theorem dX5_receive_5 : decode cX5_receive 5 = .ok (.iload_n 1, 1) := by decide +kernel
theorem dX5_receive_6 : decode cX5_receive 6 = .ok (.sipush 2048, 3) := by decide +kernel
theorem dX5_receive_9 : decode cX5_receive 9 = .ok (.if_icmp .gt 7, 3) := by decide +kernel
theorem dX5_receive_12 : decode cX5_receive 12 = .ok (.iconst 1, 1) := by decide +kernel
theorem dX5_receive_13 : decode cX5_receive 13 = .ok (.goto 4, 3) := by decide +kernel
theorem dX5_receive_16 : decode cX5_receive 16 = .ok (.iconst 0, 1) := by decide +kernel
theorem dX5_receive_17 : decode cX5_receive 17 = .ok (.invokestatic 34, 3) := by decide +kernel
theorem dX5_receive_20 : decode cX5_receive 20 = .ok (.aload_n 0, 1) := by decide +kernel
theorem dX5_receive_21 : decode cX5_receive 21 = .ok (.getfield 12, 3) := by decide +kernel
theorem dX5_receive_24 : decode cX5_receive 24 = .ok (.getfield 41, 3) := by decide +kernel
theorem dX5_receive_27 : decode cX5_receive 27 = .ok (.getfield 80, 3) := by decide +kernel
theorem dX5_receive_30 : decode cX5_receive 30 = .ok (.invokestatic 56, 3) := by decide +kernel
theorem dX5_receive_33 : decode cX5_receive 33 = .ok (.iload_n 1, 1) := by decide +kernel
theorem dX5_receive_34 : decode cX5_receive 34 = .ok (.aload_n 0, 1) := by decide +kernel
theorem dX5_receive_35 : decode cX5_receive 35 = .ok (.getfield 12, 3) := by decide +kernel
theorem dX5_receive_38 : decode cX5_receive 38 = .ok (.getfield 109, 3) := by decide +kernel
theorem dX5_receive_41 : decode cX5_receive 41 = .ok (.getfield 113, 3) := by decide +kernel
theorem dX5_receive_44 : decode cX5_receive 44 = .ok (.if_icmp .gt 7, 3) := by decide +kernel
theorem dX5_receive_47 : decode cX5_receive 47 = .ok (.iconst 1, 1) := by decide +kernel
theorem dX5_receive_48 : decode cX5_receive 48 = .ok (.goto 4, 3) := by decide +kernel
theorem dX5_receive_51 : decode cX5_receive 51 = .ok (.iconst 0, 1) := by decide +kernel
theorem dX5_receive_52 : decode cX5_receive 52 = .ok (.invokestatic 56, 3) := by decide +kernel
theorem dX5_receive_55 : decode cX5_receive 55 = .ok (.aload_n 0, 1) := by decide +kernel
theorem dX5_receive_56 : decode cX5_receive 56 = .ok (.invokevirtual 38, 3) := by decide +kernel
theorem dX5_receive_59 : decode cX5_receive 59 = .ok (.aload_n 0, 1) := by decide +kernel
theorem dX5_receive_60 : decode cX5_receive 60 = .ok (.getfield 12, 3) := by decide +kernel
theorem dX5_receive_63 : decode cX5_receive 63 = .ok (.getfield 134, 3) := by decide +kernel
theorem dX5_receive_66 : decode cX5_receive 66 = .ok (.getfield 138, 3) := by decide +kernel
theorem dX5_receive_69 : decode cX5_receive 69 = .ok (.iconst 0, 1) := by decide +kernel
theorem dX5_receive_70 : decode cX5_receive 70 = .ok (.iaload, 1) := by decide +kernel
theorem dX5_receive_71 : decode cX5_receive 71 = .ok (.istore_n 2, 1) := by decide +kernel
theorem dX5_receive_72 : decode cX5_receive 72 = .ok (.aload_n 0, 1) := by decide +kernel
theorem dX5_receive_73 : decode cX5_receive 73 = .ok (.getfield 12, 3) := by decide +kernel
theorem dX5_receive_76 : decode cX5_receive 76 = .ok (.iload_n 1, 1) := by decide +kernel
theorem dX5_receive_77 : decode cX5_receive 77 = .ok (.invokevirtual 143, 3) := by decide +kernel
theorem dX5_receive_80 : decode cX5_receive 80 = .ok (.aload_n 0, 1) := by decide +kernel
theorem dX5_receive_81 : decode cX5_receive 81 = .ok (.getfield 12, 3) := by decide +kernel
theorem dX5_receive_84 : decode cX5_receive 84 = .ok (.getfield 134, 3) := by decide +kernel
theorem dX5_receive_87 : decode cX5_receive 87 = .ok (.getfield 138, 3) := by decide +kernel
theorem dX5_receive_90 : decode cX5_receive 90 = .ok (.iconst 0, 1) := by decide +kernel
theorem dX5_receive_91 : decode cX5_receive 91 = .ok (.iaload, 1) := by decide +kernel
theorem dX5_receive_92 : decode cX5_receive 92 = .ok (.iload_n 2, 1) := by decide +kernel
theorem dX5_receive_93 : decode cX5_receive 93 = .ok (.isub, 1) := by decide +kernel
theorem dX5_receive_94 : decode cX5_receive 94 = .ok (.ireturn, 1) := by decide +kernel
theorem dX5_receiverState_0 : decode cX5_receiverState 0 = .ok (.aload_n 0, 1) := by decide +kernel
theorem dX5_receiverState_1 : decode cX5_receiverState 1 = .ok (.getfield 12, 3) := by decide +kernel
theorem dX5_receiverState_4 : decode cX5_receiverState 4 = .ok (.getfield 134, 3) := by decide +kernel
theorem dX5_receiverState_7 : decode cX5_receiverState 7 = .ok (.getfield 146, 3) := by decide +kernel
theorem dX5_receiverState_10 : decode cX5_receiverState 10 = .ok (.ireturn, 1) := by decide +kernel
theorem dX5_received_0 : decode cX5_received 0 = .ok (.iload_n 1, 1) := by decide +kernel
theorem dX5_received_1 : decode cX5_received 1 = .ok (.ifCond .lt 13, 3) := by decide +kernel
theorem dX5_received_4 : decode cX5_received 4 = .ok (.iload_n 1, 1) := by decide +kernel
theorem dX5_received_5 : decode cX5_received 5 = .ok (.bipush 6, 2) := by decide +kernel
theorem dX5_received_7 : decode cX5_received 7 = .ok (.if_icmp .ge 7, 3) := by decide +kernel
theorem dX5_received_10 : decode cX5_received 10 = .ok (.iconst 1, 1) := by decide +kernel
theorem dX5_received_11 : decode cX5_received 11 = .ok (.goto 4, 3) := by decide +kernel
theorem dX5_received_14 : decode cX5_received 14 = .ok (.iconst 0, 1) := by decide +kernel
theorem dX5_received_15 : decode cX5_received 15 = .ok (.invokestatic 34, 3) := by decide +kernel
theorem dX5_received_18 : decode cX5_received 18 = .ok (.aload_n 0, 1) := by decide +kernel
theorem dX5_received_19 : decode cX5_received 19 = .ok (.getfield 12, 3) := by decide +kernel
theorem dX5_received_22 : decode cX5_received 22 = .ok (.getfield 134, 3) := by decide +kernel
theorem dX5_received_25 : decode cX5_received 25 = .ok (.getfield 138, 3) := by decide +kernel
theorem dX5_received_28 : decode cX5_received 28 = .ok (.iload_n 1, 1) := by decide +kernel
theorem dX5_received_29 : decode cX5_received 29 = .ok (.iaload, 1) := by decide +kernel
theorem dX5_received_30 : decode cX5_received 30 = .ok (.ireturn, 1) := by decide +kernel
theorem dX5_sample_0 : decode cX5_sample 0 = .ok (.aload_n 0, 1) := by decide +kernel
theorem dX5_sample_1 : decode cX5_sample 1 = .ok (.iload_n 1, 1) := by decide +kernel
theorem dX5_sample_2 : decode cX5_sample 2 = .ok (.invokevirtual 87, 3) := by decide +kernel
theorem dX5_sample_5 : decode cX5_sample 5 = .ok (.getfield 149, 3) := by decide +kernel
theorem dX5_sample_8 : decode cX5_sample 8 = .ok (.ireturn, 1) := by decide +kernel
theorem dX5_samples_0 : decode cX5_samples 0 = .ok (.aload_n 0, 1) := by decide +kernel
theorem dX5_samples_1 : decode cX5_samples 1 = .ok (.iload_n 1, 1) := by decide +kernel
theorem dX5_samples_2 : decode cX5_samples 2 = .ok (.invokevirtual 87, 3) := by decide +kernel
theorem dX5_samples_5 : decode cX5_samples 5 = .ok (.getfield 152, 3) := by decide +kernel
theorem dX5_samples_8 : decode cX5_samples 8 = .ok (.ireturn, 1) := by decide +kernel
theorem dX5_setMode_0 : decode cX5_setMode 0 = .ok (.iload_n 1, 1) := by decide +kernel
theorem dX5_setMode_1 : decode cX5_setMode 1 = .ok (.ifCond .lt 12, 3) := by decide +kernel
theorem dX5_setMode_4 : decode cX5_setMode 4 = .ok (.iload_n 1, 1) := by decide +kernel
theorem dX5_setMode_5 : decode cX5_setMode 5 = .ok (.iconst 3, 1) := by decide +kernel
theorem dX5_setMode_6 : decode cX5_setMode 6 = .ok (.if_icmp .ge 7, 3) := by decide +kernel
theorem dX5_setMode_9 : decode cX5_setMode 9 = .ok (.iconst 1, 1) := by decide +kernel
theorem dX5_setMode_10 : decode cX5_setMode 10 = .ok (.goto 4, 3) := by decide +kernel
theorem dX5_setMode_13 : decode cX5_setMode 13 = .ok (.iconst 0, 1) := by decide +kernel
theorem dX5_setMode_14 : decode cX5_setMode 14 = .ok (.invokestatic 34, 3) := by decide +kernel
theorem dX5_setMode_17 : decode cX5_setMode 17 = .ok (.aload_n 0, 1) := by decide +kernel
theorem dX5_setMode_18 : decode cX5_setMode 18 = .ok (.invokevirtual 38, 3) := by decide +kernel
theorem dX5_setMode_21 : decode cX5_setMode 21 = .ok (.aload_n 0, 1) := by decide +kernel
theorem dX5_setMode_22 : decode cX5_setMode 22 = .ok (.getfield 12, 3) := by decide +kernel
theorem dX5_setMode_25 : decode cX5_setMode 25 = .ok (.getfield 155, 3) := by decide +kernel
theorem dX5_setMode_28 : decode cX5_setMode 28 = .ok (.istore_n 2, 1) := by decide +kernel
theorem dX5_setMode_29 : decode cX5_setMode 29 = .ok (.aload_n 0, 1) := by decide +kernel
theorem dX5_setMode_30 : decode cX5_setMode 30 = .ok (.getfield 12, 3) := by decide +kernel
theorem dX5_setMode_33 : decode cX5_setMode 33 = .ok (.iload_n 1, 1) := by decide +kernel
theorem dX5_setMode_34 : decode cX5_setMode 34 = .ok (.putfield 155, 3) := by decide +kernel
theorem dX5_setMode_37 : decode cX5_setMode 37 = .ok (.iload_n 2, 1) := by decide +kernel
theorem dX5_setMode_38 : decode cX5_setMode 38 = .ok (.ireturn, 1) := by decide +kernel
theorem dX5_setLimits_0 : decode cX5_setLimits 0 = .ok (.aload_n 0, 1) := by decide +kernel
theorem dX5_setLimits_1 : decode cX5_setLimits 1 = .ok (.iload_n 1, 1) := by decide +kernel
theorem dX5_setLimits_2 : decode cX5_setLimits 2 = .ok (.invokevirtual 87, 3) := by decide +kernel
theorem dX5_setLimits_5 : decode cX5_setLimits 5 = .ok (.astore 5, 2) := by decide +kernel
theorem dX5_setLimits_7 : decode cX5_setLimits 7 = .ok (.iload_n 2, 1) := by decide +kernel
theorem dX5_setLimits_8 : decode cX5_setLimits 8 = .ok (.ifCond .lt 12, 3) := by decide +kernel
theorem dX5_setLimits_11 : decode cX5_setLimits 11 = .ok (.iload_n 2, 1) := by decide +kernel
theorem dX5_setLimits_12 : decode cX5_setLimits 12 = .ok (.iconst 3, 1) := by decide +kernel
theorem dX5_setLimits_13 : decode cX5_setLimits 13 = .ok (.if_icmp .ge 7, 3) := by decide +kernel
theorem dX5_setLimits_16 : decode cX5_setLimits 16 = .ok (.iconst 1, 1) := by decide +kernel
theorem dX5_setLimits_17 : decode cX5_setLimits 17 = .ok (.goto 4, 3) := by decide +kernel
theorem dX5_setLimits_20 : decode cX5_setLimits 20 = .ok (.iconst 0, 1) := by decide +kernel
theorem dX5_setLimits_21 : decode cX5_setLimits 21 = .ok (.invokestatic 34, 3) := by decide +kernel
theorem dX5_setLimits_24 : decode cX5_setLimits 24 = .ok (.iload_n 3, 1) := by decide +kernel
theorem dX5_setLimits_25 : decode cX5_setLimits 25 = .ok (.ifCond .lt 21, 3) := by decide +kernel
theorem dX5_setLimits_28 : decode cX5_setLimits 28 = .ok (.iload_n 3, 1) := by decide +kernel
theorem dX5_setLimits_29 : decode cX5_setLimits 29 = .ok (.iload 4, 2) := by decide +kernel
theorem dX5_setLimits_31 : decode cX5_setLimits 31 = .ok (.if_icmp .gt 15, 3) := by decide +kernel
theorem dX5_setLimits_34 : decode cX5_setLimits 34 = .ok (.iload 4, 2) := by decide +kernel
theorem dX5_setLimits_36 : decode cX5_setLimits 36 = .ok (.sipush 255, 3) := by decide +kernel
theorem dX5_setLimits_39 : decode cX5_setLimits 39 = .ok (.if_icmp .gt 7, 3) := by decide +kernel
theorem dX5_setLimits_42 : decode cX5_setLimits 42 = .ok (.iconst 1, 1) := by decide +kernel
theorem dX5_setLimits_43 : decode cX5_setLimits 43 = .ok (.goto 4, 3) := by decide +kernel
theorem dX5_setLimits_46 : decode cX5_setLimits 46 = .ok (.iconst 0, 1) := by decide +kernel
theorem dX5_setLimits_47 : decode cX5_setLimits 47 = .ok (.invokestatic 34, 3) := by decide +kernel
theorem dX5_setLimits_50 : decode cX5_setLimits 50 = .ok (.aload_n 0, 1) := by decide +kernel
theorem dX5_setLimits_51 : decode cX5_setLimits 51 = .ok (.invokevirtual 38, 3) := by decide +kernel
theorem dX5_setLimits_54 : decode cX5_setLimits 54 = .ok (.sipush 1000, 3) := by decide +kernel
theorem dX5_setLimits_57 : decode cX5_setLimits 57 = .ok (.aload 5, 2) := by decide +kernel
theorem dX5_setLimits_59 : decode cX5_setLimits 59 = .ok (.getfield 158, 3) := by decide +kernel
theorem dX5_setLimits_62 : decode cX5_setLimits 62 = .ok (.iload_n 2, 1) := by decide +kernel
theorem dX5_setLimits_63 : decode cX5_setLimits 63 = .ok (.iaload, 1) := by decide +kernel
theorem dX5_setLimits_64 : decode cX5_setLimits 64 = .ok (.imul, 1) := by decide +kernel
theorem dX5_setLimits_65 : decode cX5_setLimits 65 = .ok (.aload 5, 2) := by decide +kernel
theorem dX5_setLimits_67 : decode cX5_setLimits 67 = .ok (.getfield 161, 3) := by decide +kernel
theorem dX5_setLimits_70 : decode cX5_setLimits 70 = .ok (.iload_n 2, 1) := by decide +kernel
theorem dX5_setLimits_71 : decode cX5_setLimits 71 = .ok (.iaload, 1) := by decide +kernel
theorem dX5_setLimits_72 : decode cX5_setLimits 72 = .ok (.iadd, 1) := by decide +kernel
theorem dX5_setLimits_73 : decode cX5_setLimits 73 = .ok (.istore 6, 2) := by decide +kernel
theorem dX5_setLimits_75 : decode cX5_setLimits 75 = .ok (.aload 5, 2) := by decide +kernel
theorem dX5_setLimits_77 : decode cX5_setLimits 77 = .ok (.getfield 158, 3) := by decide +kernel
theorem dX5_setLimits_80 : decode cX5_setLimits 80 = .ok (.iload_n 2, 1) := by decide +kernel
theorem dX5_setLimits_81 : decode cX5_setLimits 81 = .ok (.iload_n 3, 1) := by decide +kernel
theorem dX5_setLimits_82 : decode cX5_setLimits 82 = .ok (.iastore, 1) := by decide +kernel
theorem dX5_setLimits_83 : decode cX5_setLimits 83 = .ok (.aload 5, 2) := by decide +kernel
theorem dX5_setLimits_85 : decode cX5_setLimits 85 = .ok (.getfield 161, 3) := by decide +kernel
theorem dX5_setLimits_88 : decode cX5_setLimits 88 = .ok (.iload_n 2, 1) := by decide +kernel
theorem dX5_setLimits_89 : decode cX5_setLimits 89 = .ok (.iload 4, 2) := by decide +kernel
theorem dX5_setLimits_91 : decode cX5_setLimits 91 = .ok (.iastore, 1) := by decide +kernel
theorem dX5_setLimits_92 : decode cX5_setLimits 92 = .ok (.iload 6, 2) := by decide +kernel
theorem dX5_setLimits_94 : decode cX5_setLimits 94 = .ok (.ireturn, 1) := by decide +kernel
theorem dX5_setPersistence_0 : decode cX5_setPersistence 0 = .ok (.aload_n 0, 1) := by decide +kernel
theorem dX5_setPersistence_1 : decode cX5_setPersistence 1 = .ok (.iload_n 1, 1) := by decide +kernel
theorem dX5_setPersistence_2 : decode cX5_setPersistence 2 = .ok (.invokevirtual 87, 3) := by decide +kernel
theorem dX5_setPersistence_5 : decode cX5_setPersistence 5 = .ok (.astore_n 3, 1) := by decide +kernel
theorem dX5_setPersistence_6 : decode cX5_setPersistence 6 = .ok (.iload_n 2, 1) := by decide +kernel
theorem dX5_setPersistence_7 : decode cX5_setPersistence 7 = .ok (.iconst 1, 1) := by decide +kernel
theorem dX5_setPersistence_8 : decode cX5_setPersistence 8 = .ok (.if_icmp .lt 12, 3) := by decide +kernel
theorem dX5_setPersistence_11 : decode cX5_setPersistence 11 = .ok (.iload_n 2, 1) := by decide +kernel
theorem dX5_setPersistence_12 : decode cX5_setPersistence 12 = .ok (.iconst 5, 1) := by decide +kernel
theorem dX5_setPersistence_13 : decode cX5_setPersistence 13 = .ok (.if_icmp .gt 7, 3) := by decide +kernel
theorem dX5_setPersistence_16 : decode cX5_setPersistence 16 = .ok (.iconst 1, 1) := by decide +kernel
theorem dX5_setPersistence_17 : decode cX5_setPersistence 17 = .ok (.goto 4, 3) := by decide +kernel
theorem dX5_setPersistence_20 : decode cX5_setPersistence 20 = .ok (.iconst 0, 1) := by decide +kernel
theorem dX5_setPersistence_21 : decode cX5_setPersistence 21 = .ok (.invokestatic 34, 3) := by decide +kernel
theorem dX5_setPersistence_24 : decode cX5_setPersistence 24 = .ok (.aload_n 0, 1) := by decide +kernel
theorem dX5_setPersistence_25 : decode cX5_setPersistence 25 = .ok (.invokevirtual 38, 3) := by decide +kernel
theorem dX5_setPersistence_28 : decode cX5_setPersistence 28 = .ok (.aload_n 3, 1) := by decide +kernel
theorem dX5_setPersistence_29 : decode cX5_setPersistence 29 = .ok (.getfield 164, 3) := by decide +kernel
theorem dX5_setPersistence_32 : decode cX5_setPersistence 32 = .ok (.istore 4, 2) := by decide +kernel
theorem dX5_setPersistence_34 : decode cX5_setPersistence 34 = .ok (.aload_n 3, 1) := by decide +kernel
theorem dX5_setPersistence_35 : decode cX5_setPersistence 35 = .ok (.iload_n 2, 1) := by decide +kernel
theorem dX5_setPersistence_36 : decode cX5_setPersistence 36 = .ok (.putfield 164, 3) := by decide +kernel
theorem dX5_setPersistence_39 : decode cX5_setPersistence 39 = .ok (.iload 4, 2) := by decide +kernel
theorem dX5_setPersistence_41 : decode cX5_setPersistence 41 = .ok (.ireturn, 1) := by decide +kernel
theorem dX5_hasAlarm_0 : decode cX5_hasAlarm 0 = .ok (.aload_n 0, 1) := by decide +kernel
theorem dX5_hasAlarm_1 : decode cX5_hasAlarm 1 = .ok (.iload_n 1, 1) := by decide +kernel
theorem dX5_hasAlarm_2 : decode cX5_hasAlarm 2 = .ok (.invokevirtual 87, 3) := by decide +kernel
theorem dX5_hasAlarm_5 : decode cX5_hasAlarm 5 = .ok (.getfield 167, 3) := by decide +kernel
theorem dX5_hasAlarm_8 : decode cX5_hasAlarm 8 = .ok (.ireturn, 1) := by decide +kernel
theorem dX5_alarms_0 : decode cX5_alarms 0 = .ok (.aload_n 0, 1) := by decide +kernel
theorem dX5_alarms_1 : decode cX5_alarms 1 = .ok (.iload_n 1, 1) := by decide +kernel
theorem dX5_alarms_2 : decode cX5_alarms 2 = .ok (.invokevirtual 87, 3) := by decide +kernel
theorem dX5_alarms_5 : decode cX5_alarms 5 = .ok (.getfield 170, 3) := by decide +kernel
theorem dX5_alarms_8 : decode cX5_alarms 8 = .ok (.ireturn, 1) := by decide +kernel
theorem dX5_undo_0 : decode cX5_undo 0 = .ok (.aload_n 0, 1) := by decide +kernel
theorem dX5_undo_1 : decode cX5_undo 1 = .ok (.getfield 20, 3) := by decide +kernel
theorem dX5_undo_4 : decode cX5_undo 4 = .ok (.ifCond .le 7, 3) := by decide +kernel
theorem dX5_undo_7 : decode cX5_undo 7 = .ok (.iconst 1, 1) := by decide +kernel
theorem dX5_undo_8 : decode cX5_undo 8 = .ok (.goto 4, 3) := by decide +kernel
theorem dX5_undo_11 : decode cX5_undo 11 = .ok (.iconst 0, 1) := by decide +kernel
theorem dX5_undo_12 : decode cX5_undo 12 = .ok (.invokestatic 56, 3) := by decide +kernel
theorem dX5_undo_15 : decode cX5_undo 15 = .ok (.aload_n 0, 1) := by decide +kernel
theorem dX5_undo_16 : decode cX5_undo 16 = .ok (.getfield 12, 3) := by decide +kernel
theorem dX5_undo_19 : decode cX5_undo 19 = .ok (.astore_n 1, 1) := by decide +kernel
theorem dX5_undo_20 : decode cX5_undo 20 = .ok (.aload_n 0, 1) := by decide +kernel
theorem dX5_undo_21 : decode cX5_undo 21 = .ok (.aload_n 0, 1) := by decide +kernel
theorem dX5_undo_22 : decode cX5_undo 22 = .ok (.getfield 16, 3) := by decide +kernel
theorem dX5_undo_25 : decode cX5_undo 25 = .ok (.aload_n 0, 1) := by decide +kernel
theorem dX5_undo_26 : decode cX5_undo 26 = .ok (.getfield 24, 3) := by decide +kernel
theorem dX5_undo_29 : decode cX5_undo 29 = .ok (.aaload, 1) := by decide +kernel
theorem dX5_undo_30 : decode cX5_undo 30 = .ok (.putfield 12, 3) := by decide +kernel
theorem dX5_undo_33 : decode cX5_undo 33 = .ok (.aload_n 0, 1) := by decide +kernel
theorem dX5_undo_34 : decode cX5_undo 34 = .ok (.getfield 16, 3) := by decide +kernel
theorem dX5_undo_37 : decode cX5_undo 37 = .ok (.aload_n 0, 1) := by decide +kernel
theorem dX5_undo_38 : decode cX5_undo 38 = .ok (.getfield 24, 3) := by decide +kernel
theorem dX5_undo_41 : decode cX5_undo 41 = .ok (.aload_n 1, 1) := by decide +kernel
theorem dX5_undo_42 : decode cX5_undo 42 = .ok (.aastore, 1) := by decide +kernel
theorem dX5_undo_43 : decode cX5_undo 43 = .ok (.aload_n 0, 1) := by decide +kernel
theorem dX5_undo_44 : decode cX5_undo 44 = .ok (.aload_n 0, 1) := by decide +kernel
theorem dX5_undo_45 : decode cX5_undo 45 = .ok (.getfield 24, 3) := by decide +kernel
theorem dX5_undo_48 : decode cX5_undo 48 = .ok (.iconst 4, 1) := by decide +kernel
theorem dX5_undo_49 : decode cX5_undo 49 = .ok (.iadd, 1) := by decide +kernel
theorem dX5_undo_50 : decode cX5_undo 50 = .ok (.iconst 1, 1) := by decide +kernel
theorem dX5_undo_51 : decode cX5_undo 51 = .ok (.isub, 1) := by decide +kernel
theorem dX5_undo_52 : decode cX5_undo 52 = .ok (.iconst 4, 1) := by decide +kernel
theorem dX5_undo_53 : decode cX5_undo 53 = .ok (.irem, 1) := by decide +kernel
theorem dX5_undo_54 : decode cX5_undo 54 = .ok (.putfield 24, 3) := by decide +kernel
theorem dX5_undo_57 : decode cX5_undo 57 = .ok (.aload_n 0, 1) := by decide +kernel
theorem dX5_undo_58 : decode cX5_undo 58 = .ok (.dup, 1) := by decide +kernel
theorem dX5_undo_59 : decode cX5_undo 59 = .ok (.getfield 20, 3) := by decide +kernel
theorem dX5_undo_62 : decode cX5_undo 62 = .ok (.iconst 1, 1) := by decide +kernel
theorem dX5_undo_63 : decode cX5_undo 63 = .ok (.isub, 1) := by decide +kernel
theorem dX5_undo_64 : decode cX5_undo 64 = .ok (.putfield 20, 3) := by decide +kernel
theorem dX5_undo_67 : decode cX5_undo 67 = .ok (.aload_n 0, 1) := by decide +kernel
theorem dX5_undo_68 : decode cX5_undo 68 = .ok (.getfield 20, 3) := by decide +kernel
theorem dX5_undo_71 : decode cX5_undo 71 = .ok (.ireturn, 1) := by decide +kernel
theorem dX5_digest_0 : decode cX5_digest 0 = .ok (.aload_n 0, 1) := by decide +kernel
theorem dX5_digest_1 : decode cX5_digest 1 = .ok (.getfield 12, 3) := by decide +kernel
theorem dX5_digest_4 : decode cX5_digest 4 = .ok (.ldc2_w 173, 3) := by decide +kernel
theorem dX5_digest_7 : decode cX5_digest 7 = .ok (.invokevirtual 175, 3) := by decide +kernel
theorem dX5_digest_10 : decode cX5_digest 10 = .ok (.aload_n 0, 1) := by decide +kernel
theorem dX5_digest_11 : decode cX5_digest 11 = .ok (.getfield 20, 3) := by decide +kernel
theorem dX5_digest_14 : decode cX5_digest 14 = .ok (.i2l, 1) := by decide +kernel
theorem dX5_digest_15 : decode cX5_digest 15 = .ok (.invokestatic 179, 3) := by decide +kernel
theorem dX5_digest_18 : decode cX5_digest 18 = .ok (.lreturn, 1) := by decide +kernel
theorem dX5_requireArgument_0 : decode cX5_requireArgument 0 = .ok (.iload_n 0, 1) := by decide +kernel
theorem dX5_requireArgument_1 : decode cX5_requireArgument 1 = .ok (.ifCond .ne 13, 3) := by decide +kernel
theorem dX5_requireArgument_4 : decode cX5_requireArgument 4 = .ok (.new 183, 3) := by decide +kernel
theorem dX5_requireArgument_7 : decode cX5_requireArgument 7 = .ok (.dup, 1) := by decide +kernel
theorem dX5_requireArgument_8 : decode cX5_requireArgument 8 = .ok (.ldc 185, 2) := by decide +kernel
theorem dX5_requireArgument_10 : decode cX5_requireArgument 10 = .ok (.invokespecial 187, 3) := by decide +kernel
theorem dX5_requireArgument_13 : decode cX5_requireArgument 13 = .ok (.athrow, 1) := by decide +kernel
theorem dX5_requireArgument_14 : decode cX5_requireArgument 14 = .ok (.return_, 1) := by decide +kernel
theorem dX5_requireState_0 : decode cX5_requireState 0 = .ok (.iload_n 0, 1) := by decide +kernel
theorem dX5_requireState_1 : decode cX5_requireState 1 = .ok (.ifCond .ne 13, 3) := by decide +kernel
theorem dX5_requireState_4 : decode cX5_requireState 4 = .ok (.new 190, 3) := by decide +kernel
theorem dX5_requireState_7 : decode cX5_requireState 7 = .ok (.dup, 1) := by decide +kernel
theorem dX5_requireState_8 : decode cX5_requireState 8 = .ok (.ldc 192, 2) := by decide +kernel
theorem dX5_requireState_10 : decode cX5_requireState 10 = .ok (.invokespecial 194, 3) := by decide +kernel
theorem dX5_requireState_13 : decode cX5_requireState 13 = .ok (.athrow, 1) := by decide +kernel
theorem dX5_requireState_14 : decode cX5_requireState 14 = .ok (.return_, 1) := by decide +kernel
theorem dX5_requireIndex_0 : decode cX5_requireIndex 0 = .ok (.iload_n 0, 1) := by decide +kernel
theorem dX5_requireIndex_1 : decode cX5_requireIndex 1 = .ok (.ifCond .lt 8, 3) := by decide +kernel
theorem dX5_requireIndex_4 : decode cX5_requireIndex 4 = .ok (.iload_n 0, 1) := by decide +kernel
theorem dX5_requireIndex_5 : decode cX5_requireIndex 5 = .ok (.iload_n 1, 1) := by decide +kernel
theorem dX5_requireIndex_6 : decode cX5_requireIndex 6 = .ok (.if_icmp .lt 13, 3) := by decide +kernel
theorem dX5_requireIndex_9 : decode cX5_requireIndex 9 = .ok (.new 195, 3) := by decide +kernel
theorem dX5_requireIndex_12 : decode cX5_requireIndex 12 = .ok (.dup, 1) := by decide +kernel
theorem dX5_requireIndex_13 : decode cX5_requireIndex 13 = .ok (.ldc 197, 2) := by decide +kernel
theorem dX5_requireIndex_15 : decode cX5_requireIndex 15 = .ok (.invokespecial 199, 3) := by decide +kernel
theorem dX5_requireIndex_18 : decode cX5_requireIndex 18 = .ok (.athrow, 1) := by decide +kernel
theorem dX5_requireIndex_19 : decode cX5_requireIndex 19 = .ok (.return_, 1) := by decide +kernel
theorem dX5_parameterAt_0 : decode cX5_parameterAt 0 = .ok (.iload_n 1, 1) := by decide +kernel
theorem dX5_parameterAt_1 : decode cX5_parameterAt 1 = .ok (.aload_n 0, 1) := by decide +kernel
theorem dX5_parameterAt_2 : decode cX5_parameterAt 2 = .ok (.getfield 12, 3) := by decide +kernel
theorem dX5_parameterAt_5 : decode cX5_parameterAt 5 = .ok (.getfield 53, 3) := by decide +kernel
theorem dX5_parameterAt_8 : decode cX5_parameterAt 8 = .ok (.invokestatic 95, 3) := by decide +kernel
theorem dX5_parameterAt_11 : decode cX5_parameterAt 11 = .ok (.aload_n 0, 1) := by decide +kernel
theorem dX5_parameterAt_12 : decode cX5_parameterAt 12 = .ok (.getfield 12, 3) := by decide +kernel
theorem dX5_parameterAt_15 : decode cX5_parameterAt 15 = .ok (.getfield 59, 3) := by decide +kernel
theorem dX5_parameterAt_18 : decode cX5_parameterAt 18 = .ok (.iload_n 1, 1) := by decide +kernel
theorem dX5_parameterAt_19 : decode cX5_parameterAt 19 = .ok (.aaload, 1) := by decide +kernel
theorem dX5_parameterAt_20 : decode cX5_parameterAt 20 = .ok (.areturn, 1) := by decide +kernel
theorem dX5_save_0 : decode cX5_save 0 = .ok (.aload_n 0, 1) := by decide +kernel
theorem dX5_save_1 : decode cX5_save 1 = .ok (.aload_n 0, 1) := by decide +kernel
theorem dX5_save_2 : decode cX5_save 2 = .ok (.getfield 24, 3) := by decide +kernel
theorem dX5_save_5 : decode cX5_save 5 = .ok (.iconst 1, 1) := by decide +kernel
theorem dX5_save_6 : decode cX5_save 6 = .ok (.iadd, 1) := by decide +kernel
theorem dX5_save_7 : decode cX5_save 7 = .ok (.iconst 4, 1) := by decide +kernel
theorem dX5_save_8 : decode cX5_save 8 = .ok (.irem, 1) := by decide +kernel
theorem dX5_save_9 : decode cX5_save 9 = .ok (.putfield 24, 3) := by decide +kernel
theorem dX5_save_12 : decode cX5_save 12 = .ok (.aload_n 0, 1) := by decide +kernel
theorem dX5_save_13 : decode cX5_save 13 = .ok (.getfield 16, 3) := by decide +kernel
theorem dX5_save_16 : decode cX5_save 16 = .ok (.aload_n 0, 1) := by decide +kernel
theorem dX5_save_17 : decode cX5_save 17 = .ok (.getfield 24, 3) := by decide +kernel
theorem dX5_save_20 : decode cX5_save 20 = .ok (.aaload, 1) := by decide +kernel
theorem dX5_save_21 : decode cX5_save 21 = .ok (.aload_n 0, 1) := by decide +kernel
theorem dX5_save_22 : decode cX5_save 22 = .ok (.getfield 12, 3) := by decide +kernel
theorem dX5_save_25 : decode cX5_save 25 = .ok (.invokevirtual 200, 3) := by decide +kernel
theorem dX5_save_28 : decode cX5_save 28 = .ok (.aload_n 0, 1) := by decide +kernel
theorem dX5_save_29 : decode cX5_save 29 = .ok (.getfield 20, 3) := by decide +kernel
theorem dX5_save_32 : decode cX5_save 32 = .ok (.iconst 4, 1) := by decide +kernel
theorem dX5_save_33 : decode cX5_save 33 = .ok (.if_icmp .ge 13, 3) := by decide +kernel
theorem dX5_save_36 : decode cX5_save 36 = .ok (.aload_n 0, 1) := by decide +kernel
theorem dX5_save_37 : decode cX5_save 37 = .ok (.dup, 1) := by decide +kernel
theorem dX5_save_38 : decode cX5_save 38 = .ok (.getfield 20, 3) := by decide +kernel
theorem dX5_save_41 : decode cX5_save 41 = .ok (.iconst 1, 1) := by decide +kernel
theorem dX5_save_42 : decode cX5_save 42 = .ok (.iadd, 1) := by decide +kernel
theorem dX5_save_43 : decode cX5_save 43 = .ok (.putfield 20, 3) := by decide +kernel
theorem dX5_save_46 : decode cX5_save 46 = .ok (.return_, 1) := by decide +kernel
theorem dX5_placeAll_0 : decode cX5_placeAll 0 = .ok (.bipush 32, 2) := by decide +kernel
theorem dX5_placeAll_2 : decode cX5_placeAll 2 = .ok (.istore_n 1, 1) := by decide +kernel
theorem dX5_placeAll_3 : decode cX5_placeAll 3 = .ok (.iload_n 1, 1) := by decide +kernel
theorem dX5_placeAll_4 : decode cX5_placeAll 4 = .ok (.ifCond .lt 70, 3) := by decide +kernel
theorem dX5_placeAll_7 : decode cX5_placeAll 7 = .ok (.iconst 0, 1) := by decide +kernel
theorem dX5_placeAll_8 : decode cX5_placeAll 8 = .ok (.istore_n 2, 1) := by decide +kernel
theorem dX5_placeAll_9 : decode cX5_placeAll 9 = .ok (.iload_n 2, 1) := by decide +kernel
theorem dX5_placeAll_10 : decode cX5_placeAll 10 = .ok (.aload_n 0, 1) := by decide +kernel
theorem dX5_placeAll_11 : decode cX5_placeAll 11 = .ok (.getfield 12, 3) := by decide +kernel
theorem dX5_placeAll_14 : decode cX5_placeAll 14 = .ok (.getfield 53, 3) := by decide +kernel
theorem dX5_placeAll_17 : decode cX5_placeAll 17 = .ok (.if_icmp .ge 51, 3) := by decide +kernel
theorem dX5_placeAll_20 : decode cX5_placeAll 20 = .ok (.aload_n 0, 1) := by decide +kernel
theorem dX5_placeAll_21 : decode cX5_placeAll 21 = .ok (.getfield 12, 3) := by decide +kernel
theorem dX5_placeAll_24 : decode cX5_placeAll 24 = .ok (.getfield 59, 3) := by decide +kernel
theorem dX5_placeAll_27 : decode cX5_placeAll 27 = .ok (.iload_n 2, 1) := by decide +kernel
theorem dX5_placeAll_28 : decode cX5_placeAll 28 = .ok (.aaload, 1) := by decide +kernel
theorem dX5_placeAll_29 : decode cX5_placeAll 29 = .ok (.astore_n 3, 1) := by decide +kernel
theorem dX5_placeAll_30 : decode cX5_placeAll 30 = .ok (.aload_n 3, 1) := by decide +kernel
theorem dX5_placeAll_31 : decode cX5_placeAll 31 = .ok (.aload_n 0, 1) := by decide +kernel
theorem dX5_placeAll_32 : decode cX5_placeAll 32 = .ok (.getfield 30, 3) := by decide +kernel
theorem dX5_placeAll_35 : decode cX5_placeAll 35 = .ok (.getfield 47, 3) := by decide +kernel
theorem dX5_placeAll_38 : decode cX5_placeAll 38 = .ok (.invokevirtual 91, 3) := by decide +kernel
theorem dX5_placeAll_41 : decode cX5_placeAll 41 = .ok (.iload_n 1, 1) := by decide +kernel
theorem dX5_placeAll_42 : decode cX5_placeAll 42 = .ok (.if_icmp .ne 20, 3) := by decide +kernel
theorem dX5_placeAll_45 : decode cX5_placeAll 45 = .ok (.aload_n 0, 1) := by decide +kernel
theorem dX5_placeAll_46 : decode cX5_placeAll 46 = .ok (.getfield 30, 3) := by decide +kernel
theorem dX5_placeAll_49 : decode cX5_placeAll 49 = .ok (.iload_n 2, 1) := by decide +kernel
theorem dX5_placeAll_50 : decode cX5_placeAll 50 = .ok (.aload_n 3, 1) := by decide +kernel
theorem dX5_placeAll_51 : decode cX5_placeAll 51 = .ok (.getfield 203, 3) := by decide +kernel
theorem dX5_placeAll_54 : decode cX5_placeAll 54 = .ok (.invokevirtual 206, 3) := by decide +kernel
theorem dX5_placeAll_57 : decode cX5_placeAll 57 = .ok (.ifCond .ne 5, 3) := by decide +kernel
theorem dX5_placeAll_60 : decode cX5_placeAll 60 = .ok (.iload_n 2, 1) := by decide +kernel
theorem dX5_placeAll_61 : decode cX5_placeAll 61 = .ok (.ireturn, 1) := by decide +kernel
theorem dX5_placeAll_62 : decode cX5_placeAll 62 = .ok (.iinc 2 1, 3) := by decide +kernel
theorem dX5_placeAll_65 : decode cX5_placeAll 65 = .ok (.goto (-56), 3) := by decide +kernel
theorem dX5_placeAll_68 : decode cX5_placeAll 68 = .ok (.iinc 1 (-1), 3) := by decide +kernel
theorem dX5_placeAll_71 : decode cX5_placeAll 71 = .ok (.goto (-68), 3) := by decide +kernel
theorem dX5_placeAll_74 : decode cX5_placeAll 74 = .ok (.iconst (-1), 1) := by decide +kernel
theorem dX5_placeAll_75 : decode cX5_placeAll 75 = .ok (.ireturn, 1) := by decide +kernel
theorem dX5_mix_0 : decode cX5_mix 0 = .ok (.ldc2_w 210, 3) := by decide +kernel
theorem dX5_mix_3 : decode cX5_mix 3 = .ok (.lload_n 0, 1) := by decide +kernel
theorem dX5_mix_4 : decode cX5_mix 4 = .ok (.lmul, 1) := by decide +kernel
theorem dX5_mix_5 : decode cX5_mix 5 = .ok (.lload_n 2, 1) := by decide +kernel
theorem dX5_mix_6 : decode cX5_mix 6 = .ok (.ladd, 1) := by decide +kernel
theorem dX5_mix_7 : decode cX5_mix 7 = .ok (.lreturn, 1) := by decide +kernel
theorem dJ7_fill_53178_0 : decode cJ7_fill_53178 0 = .ok (.iconst 0, 1) := by decide +kernel
theorem dJ7_fill_53178_1 : decode cJ7_fill_53178 1 = .ok (.istore_n 2, 1) := by decide +kernel
theorem dJ7_fill_53178_2 : decode cJ7_fill_53178 2 = .ok (.aload_n 0, 1) := by decide +kernel
theorem dJ7_fill_53178_3 : decode cJ7_fill_53178 3 = .ok (.arraylength, 1) := by decide +kernel
theorem dJ7_fill_53178_4 : decode cJ7_fill_53178 4 = .ok (.istore_n 3, 1) := by decide +kernel
theorem dJ7_fill_53178_5 : decode cJ7_fill_53178 5 = .ok (.iload_n 2, 1) := by decide +kernel
theorem dJ7_fill_53178_6 : decode cJ7_fill_53178 6 = .ok (.iload_n 3, 1) := by decide +kernel
theorem dJ7_fill_53178_7 : decode cJ7_fill_53178 7 = .ok (.if_icmp .ge 13, 3) := by decide +kernel
theorem dJ7_fill_53178_10 : decode cJ7_fill_53178 10 = .ok (.aload_n 0, 1) := by decide +kernel
theorem dJ7_fill_53178_11 : decode cJ7_fill_53178 11 = .ok (.iload_n 2, 1) := by decide +kernel
theorem dJ7_fill_53178_12 : decode cJ7_fill_53178 12 = .ok (.iload_n 1, 1) := by decide +kernel
theorem dJ7_fill_53178_13 : decode cJ7_fill_53178 13 = .ok (.iastore, 1) := by decide +kernel
theorem dJ7_fill_53178_14 : decode cJ7_fill_53178 14 = .ok (.iinc 2 1, 3) := by decide +kernel
theorem dJ7_fill_53178_17 : decode cJ7_fill_53178 17 = .ok (.goto (-12), 3) := by decide +kernel
theorem dJ7_fill_53178_20 : decode cJ7_fill_53178 20 = .ok (.return_, 1) := by decide +kernel
end
section
theorem dX6_init_0 : decode cX6_init 0 = .ok (.aload_n 0, 1) := by decide +kernel
theorem dX6_init_1 : decode cX6_init 1 = .ok (.invokespecial 1, 3) := by decide +kernel
theorem dX6_init_4 : decode cX6_init 4 = .ok (.aload_n 0, 1) := by decide +kernel
theorem dX6_init_5 : decode cX6_init 5 = .ok (.sipush 2377, 3) := by decide +kernel
theorem dX6_init_8 : decode cX6_init 8 = .ok (.newarray .int, 2) := by decide +kernel
theorem dX6_init_10 : decode cX6_init 10 = .ok (.putfield 7, 3) := by decide +kernel
theorem dX6_init_13 : decode cX6_init 13 = .ok (.aload_n 0, 1) := by decide +kernel
theorem dX6_init_14 : decode cX6_init 14 = .ok (.sipush 9508, 3) := by decide +kernel
theorem dX6_init_17 : decode cX6_init 17 = .ok (.newarray .int, 2) := by decide +kernel
theorem dX6_init_19 : decode cX6_init 19 = .ok (.putfield 13, 3) := by decide +kernel
theorem dX6_init_22 : decode cX6_init 22 = .ok (.aload_n 0, 1) := by decide +kernel
theorem dX6_init_23 : decode cX6_init 23 = .ok (.sipush 128, 3) := by decide +kernel
theorem dX6_init_26 : decode cX6_init 26 = .ok (.newarray .int, 2) := by decide +kernel
theorem dX6_init_28 : decode cX6_init 28 = .ok (.putfield 16, 3) := by decide +kernel
theorem dX6_init_31 : decode cX6_init 31 = .ok (.aload_n 0, 1) := by decide +kernel
theorem dX6_init_32 : decode cX6_init 32 = .ok (.getfield 7, 3) := by decide +kernel
theorem dX6_init_35 : decode cX6_init 35 = .ok (.iconst 0, 1) := by decide +kernel
theorem dX6_init_36 : decode cX6_init 36 = .ok (.bipush 8, 2) := by decide +kernel
theorem dX6_init_38 : decode cX6_init 38 = .ok (.iastore, 1) := by decide +kernel
theorem dX6_init_39 : decode cX6_init 39 = .ok (.aload_n 0, 1) := by decide +kernel
theorem dX6_init_40 : decode cX6_init 40 = .ok (.getfield 7, 3) := by decide +kernel
theorem dX6_init_43 : decode cX6_init 43 = .ok (.iconst 1, 1) := by decide +kernel
theorem dX6_init_44 : decode cX6_init 44 = .ok (.iconst 4, 1) := by decide +kernel
theorem dX6_init_45 : decode cX6_init 45 = .ok (.iastore, 1) := by decide +kernel
theorem dX6_init_46 : decode cX6_init 46 = .ok (.return_, 1) := by decide +kernel
theorem dX6_thrown_0 : decode cX6_thrown 0 = .ok (.aload_n 0, 1) := by decide +kernel
theorem dX6_thrown_1 : decode cX6_thrown 1 = .ok (.getfield 19, 3) := by decide +kernel
theorem dX6_thrown_4 : decode cX6_thrown 4 = .ok (.ireturn, 1) := by decide +kernel
theorem dX6_in_0 : decode cX6_in 0 = .ok (.iload_n 0, 1) := by decide +kernel
theorem dX6_in_1 : decode cX6_in 1 = .ok (.iload_n 1, 1) := by decide +kernel
theorem dX6_in_2 : decode cX6_in 2 = .ok (.if_icmp .lt 12, 3) := by decide +kernel
theorem dX6_in_5 : decode cX6_in 5 = .ok (.iload_n 0, 1) := by decide +kernel
theorem dX6_in_6 : decode cX6_in 6 = .ok (.iload_n 2, 1) := by decide +kernel
theorem dX6_in_7 : decode cX6_in 7 = .ok (.if_icmp .gt 7, 3) := by decide +kernel
theorem dX6_in_10 : decode cX6_in 10 = .ok (.iconst 1, 1) := by decide +kernel
theorem dX6_in_11 : decode cX6_in 11 = .ok (.goto 4, 3) := by decide +kernel
theorem dX6_in_14 : decode cX6_in 14 = .ok (.iconst 0, 1) := by decide +kernel
theorem dX6_in_15 : decode cX6_in 15 = .ok (.ireturn, 1) := by decide +kernel
theorem dX6_keep_0 : decode cX6_keep 0 = .ok (.aload_n 0, 1) := by decide +kernel
theorem dX6_keep_1 : decode cX6_keep 1 = .ok (.getfield 23, 3) := by decide +kernel
theorem dX6_keep_4 : decode cX6_keep 4 = .ok (.iconst 4, 1) := by decide +kernel
theorem dX6_keep_5 : decode cX6_keep 5 = .ok (.if_icmp .ne 44, 3) := by decide +kernel
theorem dX6_keep_8 : decode cX6_keep 8 = .ok (.iconst 0, 1) := by decide +kernel
theorem dX6_keep_9 : decode cX6_keep 9 = .ok (.istore_n 1, 1) := by decide +kernel
theorem dX6_keep_10 : decode cX6_keep 10 = .ok (.iload_n 1, 1) := by decide +kernel
theorem dX6_keep_11 : decode cX6_keep 11 = .ok (.sipush 7131, 3) := by decide +kernel
theorem dX6_keep_14 : decode cX6_keep 14 = .ok (.if_icmp .ge 25, 3) := by decide +kernel
theorem dX6_keep_17 : decode cX6_keep 17 = .ok (.aload_n 0, 1) := by decide +kernel
theorem dX6_keep_18 : decode cX6_keep 18 = .ok (.getfield 13, 3) := by decide +kernel
theorem dX6_keep_21 : decode cX6_keep 21 = .ok (.iload_n 1, 1) := by decide +kernel
theorem dX6_keep_22 : decode cX6_keep 22 = .ok (.aload_n 0, 1) := by decide +kernel
theorem dX6_keep_23 : decode cX6_keep 23 = .ok (.getfield 13, 3) := by decide +kernel
theorem dX6_keep_26 : decode cX6_keep 26 = .ok (.iload_n 1, 1) := by decide +kernel
theorem dX6_keep_27 : decode cX6_keep 27 = .ok (.sipush 2377, 3) := by decide +kernel
theorem dX6_keep_30 : decode cX6_keep 30 = .ok (.iadd, 1) := by decide +kernel
theorem dX6_keep_31 : decode cX6_keep 31 = .ok (.iaload, 1) := by decide +kernel
theorem dX6_keep_32 : decode cX6_keep 32 = .ok (.iastore, 1) := by decide +kernel
theorem dX6_keep_33 : decode cX6_keep 33 = .ok (.iinc 1 1, 3) := by decide +kernel
theorem dX6_keep_36 : decode cX6_keep 36 = .ok (.goto (-26), 3) := by decide +kernel
theorem dX6_keep_39 : decode cX6_keep 39 = .ok (.aload_n 0, 1) := by decide +kernel
theorem dX6_keep_40 : decode cX6_keep 40 = .ok (.dup, 1) := by decide +kernel
theorem dX6_keep_41 : decode cX6_keep 41 = .ok (.getfield 23, 3) := by decide +kernel
theorem dX6_keep_44 : decode cX6_keep 44 = .ok (.iconst 1, 1) := by decide +kernel
theorem dX6_keep_45 : decode cX6_keep 45 = .ok (.isub, 1) := by decide +kernel
theorem dX6_keep_46 : decode cX6_keep 46 = .ok (.putfield 23, 3) := by decide +kernel
theorem dX6_keep_49 : decode cX6_keep 49 = .ok (.iconst 0, 1) := by decide +kernel
theorem dX6_keep_50 : decode cX6_keep 50 = .ok (.istore_n 1, 1) := by decide +kernel
theorem dX6_keep_51 : decode cX6_keep 51 = .ok (.iload_n 1, 1) := by decide +kernel
theorem dX6_keep_52 : decode cX6_keep 52 = .ok (.sipush 2377, 3) := by decide +kernel
theorem dX6_keep_55 : decode cX6_keep 55 = .ok (.if_icmp .ge 30, 3) := by decide +kernel
theorem dX6_keep_58 : decode cX6_keep 58 = .ok (.aload_n 0, 1) := by decide +kernel
theorem dX6_keep_59 : decode cX6_keep 59 = .ok (.getfield 13, 3) := by decide +kernel
theorem dX6_keep_62 : decode cX6_keep 62 = .ok (.sipush 2377, 3) := by decide +kernel
theorem dX6_keep_65 : decode cX6_keep 65 = .ok (.aload_n 0, 1) := by decide +kernel
theorem dX6_keep_66 : decode cX6_keep 66 = .ok (.getfield 23, 3) := by decide +kernel
theorem dX6_keep_69 : decode cX6_keep 69 = .ok (.imul, 1) := by decide +kernel
theorem dX6_keep_70 : decode cX6_keep 70 = .ok (.iload_n 1, 1) := by decide +kernel
theorem dX6_keep_71 : decode cX6_keep 71 = .ok (.iadd, 1) := by decide +kernel
theorem dX6_keep_72 : decode cX6_keep 72 = .ok (.aload_n 0, 1) := by decide +kernel
theorem dX6_keep_73 : decode cX6_keep 73 = .ok (.getfield 7, 3) := by decide +kernel
theorem dX6_keep_76 : decode cX6_keep 76 = .ok (.iload_n 1, 1) := by decide +kernel
theorem dX6_keep_77 : decode cX6_keep 77 = .ok (.iaload, 1) := by decide +kernel
theorem dX6_keep_78 : decode cX6_keep 78 = .ok (.iastore, 1) := by decide +kernel
theorem dX6_keep_79 : decode cX6_keep 79 = .ok (.iinc 1 1, 3) := by decide +kernel
theorem dX6_keep_82 : decode cX6_keep 82 = .ok (.goto (-31), 3) := by decide +kernel
theorem dX6_keep_85 : decode cX6_keep 85 = .ok (.aload_n 0, 1) := by decide +kernel
theorem dX6_keep_86 : decode cX6_keep 86 = .ok (.dup, 1) := by decide +kernel
theorem dX6_keep_87 : decode cX6_keep 87 = .ok (.getfield 23, 3) := by decide +kernel
theorem dX6_keep_90 : decode cX6_keep 90 = .ok (.iconst 1, 1) := by decide +kernel
theorem dX6_keep_91 : decode cX6_keep 91 = .ok (.iadd, 1) := by decide +kernel
theorem dX6_keep_92 : decode cX6_keep 92 = .ok (.putfield 23, 3) := by decide +kernel
theorem dX6_keep_95 : decode cX6_keep 95 = .ok (.return_, 1) := by decide +kernel
theorem dX6_of_0 : decode cX6_of 0 = .ok (.aload_n 0, 1) := by decide +kernel
theorem dX6_of_1 : decode cX6_of 1 = .ok (.getfield 7, 3) := by decide +kernel
theorem dX6_of_4 : decode cX6_of 4 = .ok (.bipush 33, 2) := by decide +kernel
theorem dX6_of_6 : decode cX6_of 6 = .ok (.bipush 14, 2) := by decide +kernel
theorem dX6_of_8 : decode cX6_of 8 = .ok (.iload_n 1, 1) := by decide +kernel
theorem dX6_of_9 : decode cX6_of 9 = .ok (.imul, 1) := by decide +kernel
theorem dX6_of_10 : decode cX6_of 10 = .ok (.iadd, 1) := by decide +kernel
theorem dX6_of_11 : decode cX6_of 11 = .ok (.iload_n 2, 1) := by decide +kernel
theorem dX6_of_12 : decode cX6_of 12 = .ok (.iadd, 1) := by decide +kernel
theorem dX6_of_13 : decode cX6_of 13 = .ok (.iaload, 1) := by decide +kernel
theorem dX6_of_14 : decode cX6_of 14 = .ok (.ireturn, 1) := by decide +kernel
theorem dX6_put_0 : decode cX6_put 0 = .ok (.aload_n 0, 1) := by decide +kernel
theorem dX6_put_1 : decode cX6_put 1 = .ok (.getfield 7, 3) := by decide +kernel
theorem dX6_put_4 : decode cX6_put 4 = .ok (.bipush 33, 2) := by decide +kernel
theorem dX6_put_6 : decode cX6_put 6 = .ok (.bipush 14, 2) := by decide +kernel
theorem dX6_put_8 : decode cX6_put 8 = .ok (.iload_n 1, 1) := by decide +kernel
theorem dX6_put_9 : decode cX6_put 9 = .ok (.imul, 1) := by decide +kernel
theorem dX6_put_10 : decode cX6_put 10 = .ok (.iadd, 1) := by decide +kernel
theorem dX6_put_11 : decode cX6_put 11 = .ok (.iload_n 2, 1) := by decide +kernel
theorem dX6_put_12 : decode cX6_put 12 = .ok (.iadd, 1) := by decide +kernel
theorem dX6_put_13 : decode cX6_put 13 = .ok (.iload_n 3, 1) := by decide +kernel
theorem dX6_put_14 : decode cX6_put 14 = .ok (.iastore, 1) := by decide +kernel
theorem dX6_put_15 : decode cX6_put 15 = .ok (.return_, 1) := by decide +kernel
theorem dX6_isParameter_0 : decode cX6_isParameter 0 = .ok (.iload_n 1, 1) := by decide +kernel
theorem dX6_isParameter_1 : decode cX6_isParameter 1 = .ok (.iconst 0, 1) := by decide +kernel
theorem dX6_isParameter_2 : decode cX6_isParameter 2 = .ok (.aload_n 0, 1) := by decide +kernel
theorem dX6_isParameter_3 : decode cX6_isParameter 3 = .ok (.getfield 7, 3) := by decide +kernel
theorem dX6_isParameter_6 : decode cX6_isParameter 6 = .ok (.iconst 2, 1) := by decide +kernel
theorem dX6_isParameter_7 : decode cX6_isParameter 7 = .ok (.iaload, 1) := by decide +kernel
theorem dX6_isParameter_8 : decode cX6_isParameter 8 = .ok (.iconst 1, 1) := by decide +kernel
theorem dX6_isParameter_9 : decode cX6_isParameter 9 = .ok (.isub, 1) := by decide +kernel
theorem dX6_isParameter_10 : decode cX6_isParameter 10 = .ok (.invokestatic 26, 3) := by decide +kernel
theorem dX6_isParameter_13 : decode cX6_isParameter 13 = .ok (.ireturn, 1) := by decide +kernel
theorem dX6_searches_0 : decode cX6_searches 0 = .ok (.aload_n 0, 1) := by decide +kernel
theorem dX6_searches_1 : decode cX6_searches 1 = .ok (.getfield 7, 3) := by decide +kernel
theorem dX6_searches_4 : decode cX6_searches 4 = .ok (.bipush 7, 2) := by decide +kernel
theorem dX6_searches_6 : decode cX6_searches 6 = .ok (.iconst 0, 1) := by decide +kernel
theorem dX6_searches_7 : decode cX6_searches 7 = .ok (.iastore, 1) := by decide +kernel
theorem dX6_searches_8 : decode cX6_searches 8 = .ok (.aload_n 0, 1) := by decide +kernel
theorem dX6_searches_9 : decode cX6_searches 9 = .ok (.getfield 7, 3) := by decide +kernel
theorem dX6_searches_12 : decode cX6_searches 12 = .ok (.bipush 15, 2) := by decide +kernel
theorem dX6_searches_14 : decode cX6_searches 14 = .ok (.iconst 0, 1) := by decide +kernel
theorem dX6_searches_15 : decode cX6_searches 15 = .ok (.iastore, 1) := by decide +kernel
theorem dX6_searches_16 : decode cX6_searches 16 = .ok (.aload_n 0, 1) := by decide +kernel
theorem dX6_searches_17 : decode cX6_searches 17 = .ok (.getfield 7, 3) := by decide +kernel
theorem dX6_searches_20 : decode cX6_searches 20 = .ok (.bipush 16, 2) := by decide +kernel
theorem dX6_searches_22 : decode cX6_searches 22 = .ok (.iconst 0, 1) := by decide +kernel
theorem dX6_searches_23 : decode cX6_searches 23 = .ok (.iastore, 1) := by decide +kernel
theorem dX6_searches_24 : decode cX6_searches 24 = .ok (.aload_n 0, 1) := by decide +kernel
theorem dX6_searches_25 : decode cX6_searches 25 = .ok (.getfield 7, 3) := by decide +kernel
theorem dX6_searches_28 : decode cX6_searches 28 = .ok (.bipush 17, 2) := by decide +kernel
theorem dX6_searches_30 : decode cX6_searches 30 = .ok (.iconst 0, 1) := by decide +kernel
theorem dX6_searches_31 : decode cX6_searches 31 = .ok (.iastore, 1) := by decide +kernel
theorem dX6_searches_32 : decode cX6_searches 32 = .ok (.return_, 1) := by decide +kernel
theorem dX6_beginsAnew_0 : decode cX6_beginsAnew 0 = .ok (.aload_n 0, 1) := by decide +kernel
theorem dX6_beginsAnew_1 : decode cX6_beginsAnew 1 = .ok (.getfield 7, 3) := by decide +kernel
theorem dX6_beginsAnew_4 : decode cX6_beginsAnew 4 = .ok (.iconst 3, 1) := by decide +kernel
theorem dX6_beginsAnew_5 : decode cX6_beginsAnew 5 = .ok (.iconst 0, 1) := by decide +kernel
theorem dX6_beginsAnew_6 : decode cX6_beginsAnew 6 = .ok (.iastore, 1) := by decide +kernel
theorem dX6_beginsAnew_7 : decode cX6_beginsAnew 7 = .ok (.aload_n 0, 1) := by decide +kernel
theorem dX6_beginsAnew_8 : decode cX6_beginsAnew 8 = .ok (.getfield 7, 3) := by decide +kernel
theorem dX6_beginsAnew_11 : decode cX6_beginsAnew 11 = .ok (.iconst 5, 1) := by decide +kernel
theorem dX6_beginsAnew_12 : decode cX6_beginsAnew 12 = .ok (.iconst 0, 1) := by decide +kernel
theorem dX6_beginsAnew_13 : decode cX6_beginsAnew 13 = .ok (.iastore, 1) := by decide +kernel
theorem dX6_beginsAnew_14 : decode cX6_beginsAnew 14 = .ok (.aload_n 0, 1) := by decide +kernel
theorem dX6_beginsAnew_15 : decode cX6_beginsAnew 15 = .ok (.getfield 7, 3) := by decide +kernel
theorem dX6_beginsAnew_18 : decode cX6_beginsAnew 18 = .ok (.iconst 4, 1) := by decide +kernel
theorem dX6_beginsAnew_19 : decode cX6_beginsAnew 19 = .ok (.iconst 0, 1) := by decide +kernel
theorem dX6_beginsAnew_20 : decode cX6_beginsAnew 20 = .ok (.iastore, 1) := by decide +kernel
theorem dX6_beginsAnew_21 : decode cX6_beginsAnew 21 = .ok (.aload_n 0, 1) := by decide +kernel
theorem dX6_beginsAnew_22 : decode cX6_beginsAnew 22 = .ok (.getfield 7, 3) := by decide +kernel
theorem dX6_beginsAnew_25 : decode cX6_beginsAnew 25 = .ok (.bipush 8, 2) := by decide +kernel
theorem dX6_beginsAnew_27 : decode cX6_beginsAnew 27 = .ok (.iconst 0, 1) := by decide +kernel
theorem dX6_beginsAnew_28 : decode cX6_beginsAnew 28 = .ok (.iastore, 1) := by decide +kernel
theorem dX6_beginsAnew_29 : decode cX6_beginsAnew 29 = .ok (.aload_n 0, 1) := by decide +kernel
theorem dX6_beginsAnew_30 : decode cX6_beginsAnew 30 = .ok (.invokevirtual 30, 3) := by decide +kernel
theorem dX6_beginsAnew_33 : decode cX6_beginsAnew 33 = .ok (.return_, 1) := by decide +kernel
theorem dX6_setFrame_0 : decode cX6_setFrame 0 = .ok (.aload_n 0, 1) := by decide +kernel
theorem dX6_setFrame_1 : decode cX6_setFrame 1 = .ok (.iload_n 1, 1) := by decide +kernel
theorem dX6_setFrame_2 : decode cX6_setFrame 2 = .ok (.bipush 6, 2) := by decide +kernel
theorem dX6_setFrame_4 : decode cX6_setFrame 4 = .ok (.bipush 16, 2) := by decide +kernel
theorem dX6_setFrame_6 : decode cX6_setFrame 6 = .ok (.invokestatic 26, 3) := by decide +kernel
theorem dX6_setFrame_9 : decode cX6_setFrame 9 = .ok (.ifCond .eq 25, 3) := by decide +kernel
theorem dX6_setFrame_12 : decode cX6_setFrame 12 = .ok (.iload_n 2, 1) := by decide +kernel
theorem dX6_setFrame_13 : decode cX6_setFrame 13 = .ok (.iconst 1, 1) := by decide +kernel
theorem dX6_setFrame_14 : decode cX6_setFrame 14 = .ok (.bipush 8, 2) := by decide +kernel
theorem dX6_setFrame_16 : decode cX6_setFrame 16 = .ok (.invokestatic 26, 3) := by decide +kernel
theorem dX6_setFrame_19 : decode cX6_setFrame 19 = .ok (.ifCond .eq 15, 3) := by decide +kernel
theorem dX6_setFrame_22 : decode cX6_setFrame 22 = .ok (.iload_n 2, 1) := by decide +kernel
theorem dX6_setFrame_23 : decode cX6_setFrame 23 = .ok (.iload_n 2, 1) := by decide +kernel
theorem dX6_setFrame_24 : decode cX6_setFrame 24 = .ok (.iconst 1, 1) := by decide +kernel
theorem dX6_setFrame_25 : decode cX6_setFrame 25 = .ok (.isub, 1) := by decide +kernel
theorem dX6_setFrame_26 : decode cX6_setFrame 26 = .ok (.iand, 1) := by decide +kernel
theorem dX6_setFrame_27 : decode cX6_setFrame 27 = .ok (.ifCond .ne 7, 3) := by decide +kernel
theorem dX6_setFrame_30 : decode cX6_setFrame 30 = .ok (.iconst 0, 1) := by decide +kernel
theorem dX6_setFrame_31 : decode cX6_setFrame 31 = .ok (.goto 4, 3) := by decide +kernel
theorem dX6_setFrame_34 : decode cX6_setFrame 34 = .ok (.iconst 1, 1) := by decide +kernel
theorem dX6_setFrame_35 : decode cX6_setFrame 35 = .ok (.putfield 19, 3) := by decide +kernel
theorem dX6_setFrame_38 : decode cX6_setFrame 38 = .ok (.aload_n 0, 1) := by decide +kernel
theorem dX6_setFrame_39 : decode cX6_setFrame 39 = .ok (.getfield 19, 3) := by decide +kernel
theorem dX6_setFrame_42 : decode cX6_setFrame 42 = .ok (.ifCond .eq 5, 3) := by decide +kernel
theorem dX6_setFrame_45 : decode cX6_setFrame 45 = .ok (.iconst 0, 1) := by decide +kernel
theorem dX6_setFrame_46 : decode cX6_setFrame 46 = .ok (.ireturn, 1) := by decide +kernel
theorem dX6_setFrame_47 : decode cX6_setFrame 47 = .ok (.aload_n 0, 1) := by decide +kernel
theorem dX6_setFrame_48 : decode cX6_setFrame 48 = .ok (.invokevirtual 33, 3) := by decide +kernel
theorem dX6_setFrame_51 : decode cX6_setFrame 51 = .ok (.aload_n 0, 1) := by decide +kernel
theorem dX6_setFrame_52 : decode cX6_setFrame 52 = .ok (.getfield 7, 3) := by decide +kernel
theorem dX6_setFrame_55 : decode cX6_setFrame 55 = .ok (.iconst 0, 1) := by decide +kernel
theorem dX6_setFrame_56 : decode cX6_setFrame 56 = .ok (.iload_n 1, 1) := by decide +kernel
theorem dX6_setFrame_57 : decode cX6_setFrame 57 = .ok (.iastore, 1) := by decide +kernel
theorem dX6_setFrame_58 : decode cX6_setFrame 58 = .ok (.aload_n 0, 1) := by decide +kernel
theorem dX6_setFrame_59 : decode cX6_setFrame 59 = .ok (.getfield 7, 3) := by decide +kernel
theorem dX6_setFrame_62 : decode cX6_setFrame 62 = .ok (.iconst 1, 1) := by decide +kernel
theorem dX6_setFrame_63 : decode cX6_setFrame 63 = .ok (.iload_n 2, 1) := by decide +kernel
theorem dX6_setFrame_64 : decode cX6_setFrame 64 = .ok (.iastore, 1) := by decide +kernel
theorem dX6_setFrame_65 : decode cX6_setFrame 65 = .ok (.aload_n 0, 1) := by decide +kernel
theorem dX6_setFrame_66 : decode cX6_setFrame 66 = .ok (.invokevirtual 36, 3) := by decide +kernel
theorem dX6_setFrame_69 : decode cX6_setFrame 69 = .ok (.iload_n 1, 1) := by decide +kernel
theorem dX6_setFrame_70 : decode cX6_setFrame 70 = .ok (.iload_n 2, 1) := by decide +kernel
theorem dX6_setFrame_71 : decode cX6_setFrame 71 = .ok (.imul, 1) := by decide +kernel
theorem dX6_setFrame_72 : decode cX6_setFrame 72 = .ok (.ireturn, 1) := by decide +kernel
theorem dX6_addParameter_0 : decode cX6_addParameter 0 = .ok (.iload_n 1, 1) := by decide +kernel
theorem dX6_addParameter_1 : decode cX6_addParameter 1 = .ok (.iconst 1, 1) := by decide +kernel
theorem dX6_addParameter_2 : decode cX6_addParameter 2 = .ok (.iconst 4, 1) := by decide +kernel
theorem dX6_addParameter_3 : decode cX6_addParameter 3 = .ok (.invokestatic 26, 3) := by decide +kernel
theorem dX6_addParameter_6 : decode cX6_addParameter 6 = .ok (.ifCond .ne 21, 3) := by decide +kernel
theorem dX6_addParameter_9 : decode cX6_addParameter 9 = .ok (.iload_n 1, 1) := by decide +kernel
theorem dX6_addParameter_10 : decode cX6_addParameter 10 = .ok (.bipush (-2), 2) := by decide +kernel
theorem dX6_addParameter_12 : decode cX6_addParameter 12 = .ok (.if_icmp .eq 15, 3) := by decide +kernel
theorem dX6_addParameter_15 : decode cX6_addParameter 15 = .ok (.iload_n 1, 1) := by decide +kernel
theorem dX6_addParameter_16 : decode cX6_addParameter 16 = .ok (.bipush (-4), 2) := by decide +kernel
theorem dX6_addParameter_18 : decode cX6_addParameter 18 = .ok (.if_icmp .eq 9, 3) := by decide +kernel
theorem dX6_addParameter_21 : decode cX6_addParameter 21 = .ok (.iload_n 1, 1) := by decide +kernel
theorem dX6_addParameter_22 : decode cX6_addParameter 22 = .ok (.bipush (-8), 2) := by decide +kernel
theorem dX6_addParameter_24 : decode cX6_addParameter 24 = .ok (.if_icmp .ne 7, 3) := by decide +kernel
theorem dX6_addParameter_27 : decode cX6_addParameter 27 = .ok (.iconst 1, 1) := by decide +kernel
theorem dX6_addParameter_28 : decode cX6_addParameter 28 = .ok (.goto 4, 3) := by decide +kernel
theorem dX6_addParameter_31 : decode cX6_addParameter 31 = .ok (.iconst 0, 1) := by decide +kernel
theorem dX6_addParameter_32 : decode cX6_addParameter 32 = .ok (.istore_n 2, 1) := by decide +kernel
theorem dX6_addParameter_33 : decode cX6_addParameter 33 = .ok (.aload_n 0, 1) := by decide +kernel
theorem dX6_addParameter_34 : decode cX6_addParameter 34 = .ok (.iload_n 2, 1) := by decide +kernel
theorem dX6_addParameter_35 : decode cX6_addParameter 35 = .ok (.ifCond .ne 7, 3) := by decide +kernel
theorem dX6_addParameter_38 : decode cX6_addParameter 38 = .ok (.iconst 1, 1) := by decide +kernel
theorem dX6_addParameter_39 : decode cX6_addParameter 39 = .ok (.goto 19, 3) := by decide +kernel
theorem dX6_addParameter_42 : decode cX6_addParameter 42 = .ok (.aload_n 0, 1) := by decide +kernel
theorem dX6_addParameter_43 : decode cX6_addParameter 43 = .ok (.getfield 7, 3) := by decide +kernel
theorem dX6_addParameter_46 : decode cX6_addParameter 46 = .ok (.iconst 2, 1) := by decide +kernel
theorem dX6_addParameter_47 : decode cX6_addParameter 47 = .ok (.iaload, 1) := by decide +kernel
theorem dX6_addParameter_48 : decode cX6_addParameter 48 = .ok (.bipush 12, 2) := by decide +kernel
theorem dX6_addParameter_50 : decode cX6_addParameter 50 = .ok (.if_icmp .ne 7, 3) := by decide +kernel
theorem dX6_addParameter_53 : decode cX6_addParameter 53 = .ok (.iconst 2, 1) := by decide +kernel
theorem dX6_addParameter_54 : decode cX6_addParameter 54 = .ok (.goto 4, 3) := by decide +kernel
theorem dX6_addParameter_57 : decode cX6_addParameter 57 = .ok (.iconst 0, 1) := by decide +kernel
theorem dX6_addParameter_58 : decode cX6_addParameter 58 = .ok (.putfield 19, 3) := by decide +kernel
theorem dX6_addParameter_61 : decode cX6_addParameter 61 = .ok (.aload_n 0, 1) := by decide +kernel
theorem dX6_addParameter_62 : decode cX6_addParameter 62 = .ok (.getfield 19, 3) := by decide +kernel
theorem dX6_addParameter_65 : decode cX6_addParameter 65 = .ok (.ifCond .eq 5, 3) := by decide +kernel
theorem dX6_addParameter_68 : decode cX6_addParameter 68 = .ok (.iconst 0, 1) := by decide +kernel
theorem dX6_addParameter_69 : decode cX6_addParameter 69 = .ok (.ireturn, 1) := by decide +kernel
theorem dX6_addParameter_70 : decode cX6_addParameter 70 = .ok (.aload_n 0, 1) := by decide +kernel
theorem dX6_addParameter_71 : decode cX6_addParameter 71 = .ok (.invokevirtual 33, 3) := by decide +kernel
theorem dX6_addParameter_74 : decode cX6_addParameter 74 = .ok (.aload_n 0, 1) := by decide +kernel
theorem dX6_addParameter_75 : decode cX6_addParameter 75 = .ok (.getfield 7, 3) := by decide +kernel
theorem dX6_addParameter_78 : decode cX6_addParameter 78 = .ok (.iconst 2, 1) := by decide +kernel
theorem dX6_addParameter_79 : decode cX6_addParameter 79 = .ok (.iaload, 1) := by decide +kernel
theorem dX6_addParameter_80 : decode cX6_addParameter 80 = .ok (.istore_n 3, 1) := by decide +kernel
theorem dX6_addParameter_81 : decode cX6_addParameter 81 = .ok (.iconst 0, 1) := by decide +kernel
theorem dX6_addParameter_82 : decode cX6_addParameter 82 = .ok (.istore 4, 2) := by decide +kernel
theorem dX6_addParameter_84 : decode cX6_addParameter 84 = .ok (.iload 4, 2) := by decide +kernel
theorem dX6_addParameter_86 : decode cX6_addParameter 86 = .ok (.bipush 14, 2) := by decide +kernel
theorem dX6_addParameter_88 : decode cX6_addParameter 88 = .ok (.if_icmp .ge 17, 3) := by decide +kernel
theorem dX6_addParameter_91 : decode cX6_addParameter 91 = .ok (.aload_n 0, 1) := by decide +kernel
theorem dX6_addParameter_92 : decode cX6_addParameter 92 = .ok (.iload_n 3, 1) := by decide +kernel
theorem dX6_addParameter_93 : decode cX6_addParameter 93 = .ok (.iload 4, 2) := by decide +kernel
theorem dX6_addParameter_95 : decode cX6_addParameter 95 = .ok (.iconst 0, 1) := by decide +kernel
theorem dX6_addParameter_96 : decode cX6_addParameter 96 = .ok (.invokevirtual 39, 3) := by decide +kernel
theorem dX6_addParameter_99 : decode cX6_addParameter 99 = .ok (.iinc 4 1, 3) := by decide +kernel
theorem dX6_addParameter_102 : decode cX6_addParameter 102 = .ok (.goto (-18), 3) := by decide +kernel
theorem dX6_addParameter_105 : decode cX6_addParameter 105 = .ok (.aload_n 0, 1) := by decide +kernel
theorem dX6_addParameter_106 : decode cX6_addParameter 106 = .ok (.iload_n 3, 1) := by decide +kernel
theorem dX6_addParameter_107 : decode cX6_addParameter 107 = .ok (.iconst 0, 1) := by decide +kernel
theorem dX6_addParameter_108 : decode cX6_addParameter 108 = .ok (.iload_n 1, 1) := by decide +kernel
theorem dX6_addParameter_109 : decode cX6_addParameter 109 = .ok (.invokevirtual 39, 3) := by decide +kernel
theorem dX6_addParameter_112 : decode cX6_addParameter 112 = .ok (.aload_n 0, 1) := by decide +kernel
theorem dX6_addParameter_113 : decode cX6_addParameter 113 = .ok (.iload_n 3, 1) := by decide +kernel
theorem dX6_addParameter_114 : decode cX6_addParameter 114 = .ok (.iconst 2, 1) := by decide +kernel
theorem dX6_addParameter_115 : decode cX6_addParameter 115 = .ok (.iconst (-1), 1) := by decide +kernel
theorem dX6_addParameter_116 : decode cX6_addParameter 116 = .ok (.invokevirtual 39, 3) := by decide +kernel
theorem dX6_addParameter_119 : decode cX6_addParameter 119 = .ok (.aload_n 0, 1) := by decide +kernel
theorem dX6_addParameter_120 : decode cX6_addParameter 120 = .ok (.iload_n 3, 1) := by decide +kernel
theorem dX6_addParameter_121 : decode cX6_addParameter 121 = .ok (.bipush 10, 2) := by decide +kernel
theorem dX6_addParameter_123 : decode cX6_addParameter 123 = .ok (.iconst 1, 1) := by decide +kernel
theorem dX6_addParameter_124 : decode cX6_addParameter 124 = .ok (.invokevirtual 39, 3) := by decide +kernel
theorem dX6_addParameter_127 : decode cX6_addParameter 127 = .ok (.iconst 0, 1) := by decide +kernel
theorem dX6_addParameter_128 : decode cX6_addParameter 128 = .ok (.istore 4, 2) := by decide +kernel
theorem dX6_addParameter_130 : decode cX6_addParameter 130 = .ok (.iload 4, 2) := by decide +kernel
theorem dX6_addParameter_132 : decode cX6_addParameter 132 = .ok (.iconst 3, 1) := by decide +kernel
theorem dX6_addParameter_133 : decode cX6_addParameter 133 = .ok (.if_icmp .ge 25, 3) := by decide +kernel
theorem dX6_addParameter_136 : decode cX6_addParameter 136 = .ok (.aload_n 0, 1) := by decide +kernel
theorem dX6_addParameter_137 : decode cX6_addParameter 137 = .ok (.iload_n 3, 1) := by decide +kernel
theorem dX6_addParameter_138 : decode cX6_addParameter 138 = .ok (.iconst 4, 1) := by decide +kernel
theorem dX6_addParameter_139 : decode cX6_addParameter 139 = .ok (.iconst 2, 1) := by decide +kernel
theorem dX6_addParameter_140 : decode cX6_addParameter 140 = .ok (.iload 4, 2) := by decide +kernel
theorem dX6_addParameter_142 : decode cX6_addParameter 142 = .ok (.imul, 1) := by decide +kernel
theorem dX6_addParameter_143 : decode cX6_addParameter 143 = .ok (.iadd, 1) := by decide +kernel
theorem dX6_addParameter_144 : decode cX6_addParameter 144 = .ok (.iconst 1, 1) := by decide +kernel
theorem dX6_addParameter_145 : decode cX6_addParameter 145 = .ok (.iadd, 1) := by decide +kernel
theorem dX6_addParameter_146 : decode cX6_addParameter 146 = .ok (.sipush 255, 3) := by decide +kernel
theorem dX6_addParameter_149 : decode cX6_addParameter 149 = .ok (.invokevirtual 39, 3) := by decide +kernel
theorem dX6_addParameter_152 : decode cX6_addParameter 152 = .ok (.iinc 4 1, 3) := by decide +kernel
theorem dX6_addParameter_155 : decode cX6_addParameter 155 = .ok (.goto (-25), 3) := by decide +kernel
theorem dX6_addParameter_158 : decode cX6_addParameter 158 = .ok (.aload_n 0, 1) := by decide +kernel
theorem dX6_addParameter_159 : decode cX6_addParameter 159 = .ok (.getfield 7, 3) := by decide +kernel
theorem dX6_addParameter_162 : decode cX6_addParameter 162 = .ok (.iconst 2, 1) := by decide +kernel
theorem dX6_addParameter_163 : decode cX6_addParameter 163 = .ok (.dup2, 1) := by decide +kernel
theorem dX6_addParameter_164 : decode cX6_addParameter 164 = .ok (.iaload, 1) := by decide +kernel
theorem dX6_addParameter_165 : decode cX6_addParameter 165 = .ok (.iconst 1, 1) := by decide +kernel
theorem dX6_addParameter_166 : decode cX6_addParameter 166 = .ok (.iadd, 1) := by decide +kernel
theorem dX6_addParameter_167 : decode cX6_addParameter 167 = .ok (.iastore, 1) := by decide +kernel
theorem dX6_addParameter_168 : decode cX6_addParameter 168 = .ok (.aload_n 0, 1) := by decide +kernel
theorem dX6_addParameter_169 : decode cX6_addParameter 169 = .ok (.invokevirtual 36, 3) := by decide +kernel
theorem dX6_addParameter_172 : decode cX6_addParameter 172 = .ok (.iload_n 3, 1) := by decide +kernel
theorem dX6_addParameter_173 : decode cX6_addParameter 173 = .ok (.ireturn, 1) := by decide +kernel
theorem dX6_samplesOf_0 : decode cX6_samplesOf 0 = .ok (.aload_n 0, 1) := by decide +kernel
theorem dX6_samplesOf_1 : decode cX6_samplesOf 1 = .ok (.iload_n 1, 1) := by decide +kernel
theorem dX6_samplesOf_2 : decode cX6_samplesOf 2 = .ok (.iconst 0, 1) := by decide +kernel
theorem dX6_samplesOf_3 : decode cX6_samplesOf 3 = .ok (.invokevirtual 43, 3) := by decide +kernel
theorem dX6_samplesOf_6 : decode cX6_samplesOf 6 = .ok (.istore_n 2, 1) := by decide +kernel
theorem dX6_samplesOf_7 : decode cX6_samplesOf 7 = .ok (.iload_n 2, 1) := by decide +kernel
theorem dX6_samplesOf_8 : decode cX6_samplesOf 8 = .ok (.ifCond .le 14, 3) := by decide +kernel
theorem dX6_samplesOf_11 : decode cX6_samplesOf 11 = .ok (.iload_n 2, 1) := by decide +kernel
theorem dX6_samplesOf_12 : decode cX6_samplesOf 12 = .ok (.aload_n 0, 1) := by decide +kernel
theorem dX6_samplesOf_13 : decode cX6_samplesOf 13 = .ok (.getfield 7, 3) := by decide +kernel
theorem dX6_samplesOf_16 : decode cX6_samplesOf 16 = .ok (.iconst 1, 1) := by decide +kernel
theorem dX6_samplesOf_17 : decode cX6_samplesOf 17 = .ok (.iaload, 1) := by decide +kernel
theorem dX6_samplesOf_18 : decode cX6_samplesOf 18 = .ok (.imul, 1) := by decide +kernel
theorem dX6_samplesOf_19 : decode cX6_samplesOf 19 = .ok (.goto 12, 3) := by decide +kernel
theorem dX6_samplesOf_22 : decode cX6_samplesOf 22 = .ok (.aload_n 0, 1) := by decide +kernel
theorem dX6_samplesOf_23 : decode cX6_samplesOf 23 = .ok (.getfield 7, 3) := by decide +kernel
theorem dX6_samplesOf_26 : decode cX6_samplesOf 26 = .ok (.iconst 1, 1) := by decide +kernel
theorem dX6_samplesOf_27 : decode cX6_samplesOf 27 = .ok (.iaload, 1) := by decide +kernel
theorem dX6_samplesOf_28 : decode cX6_samplesOf 28 = .ok (.iload_n 2, 1) := by decide +kernel
theorem dX6_samplesOf_29 : decode cX6_samplesOf 29 = .ok (.ineg, 1) := by decide +kernel
theorem dX6_samplesOf_30 : decode cX6_samplesOf 30 = .ok (.idiv, 1) := by decide +kernel
theorem dX6_samplesOf_31 : decode cX6_samplesOf 31 = .ok (.ireturn, 1) := by decide +kernel
theorem dX6_isFree_0 : decode cX6_isFree 0 = .ok (.iconst 1, 1) := by decide +kernel
theorem dX6_isFree_1 : decode cX6_isFree 1 = .ok (.istore 4, 2) := by decide +kernel
theorem dX6_isFree_3 : decode cX6_isFree 3 = .ok (.iload_n 2, 1) := by decide +kernel
theorem dX6_isFree_4 : decode cX6_isFree 4 = .ok (.istore 5, 2) := by decide +kernel
theorem dX6_isFree_6 : decode cX6_isFree 6 = .ok (.iload 5, 2) := by decide +kernel
theorem dX6_isFree_8 : decode cX6_isFree 8 = .ok (.aload_n 0, 1) := by decide +kernel
theorem dX6_isFree_9 : decode cX6_isFree 9 = .ok (.getfield 7, 3) := by decide +kernel
theorem dX6_isFree_12 : decode cX6_isFree 12 = .ok (.iconst 1, 1) := by decide +kernel
theorem dX6_isFree_13 : decode cX6_isFree 13 = .ok (.iaload, 1) := by decide +kernel
theorem dX6_isFree_14 : decode cX6_isFree 14 = .ok (.if_icmp .ge 42, 3) := by decide +kernel
theorem dX6_isFree_17 : decode cX6_isFree 17 = .ok (.iload 4, 2) := by decide +kernel
theorem dX6_isFree_19 : decode cX6_isFree 19 = .ok (.ifCond .eq 25, 3) := by decide +kernel
theorem dX6_isFree_22 : decode cX6_isFree 22 = .ok (.aload_n 0, 1) := by decide +kernel
theorem dX6_isFree_23 : decode cX6_isFree 23 = .ok (.getfield 16, 3) := by decide +kernel
theorem dX6_isFree_26 : decode cX6_isFree 26 = .ok (.bipush 16, 2) := by decide +kernel
theorem dX6_isFree_28 : decode cX6_isFree 28 = .ok (.iload 5, 2) := by decide +kernel
theorem dX6_isFree_30 : decode cX6_isFree 30 = .ok (.imul, 1) := by decide +kernel
theorem dX6_isFree_31 : decode cX6_isFree 31 = .ok (.iconst 3, 1) := by decide +kernel
theorem dX6_isFree_32 : decode cX6_isFree 32 = .ok (.iadd, 1) := by decide +kernel
theorem dX6_isFree_33 : decode cX6_isFree 33 = .ok (.iload_n 1, 1) := by decide +kernel
theorem dX6_isFree_34 : decode cX6_isFree 34 = .ok (.iadd, 1) := by decide +kernel
theorem dX6_isFree_35 : decode cX6_isFree 35 = .ok (.iaload, 1) := by decide +kernel
theorem dX6_isFree_36 : decode cX6_isFree 36 = .ok (.iconst (-1), 1) := by decide +kernel
theorem dX6_isFree_37 : decode cX6_isFree 37 = .ok (.if_icmp .ne 7, 3) := by decide +kernel
theorem dX6_isFree_40 : decode cX6_isFree 40 = .ok (.iconst 1, 1) := by decide +kernel
theorem dX6_isFree_41 : decode cX6_isFree 41 = .ok (.goto 4, 3) := by decide +kernel
theorem dX6_isFree_44 : decode cX6_isFree 44 = .ok (.iconst 0, 1) := by decide +kernel
theorem dX6_isFree_45 : decode cX6_isFree 45 = .ok (.istore 4, 2) := by decide +kernel
theorem dX6_isFree_47 : decode cX6_isFree 47 = .ok (.iload 5, 2) := by decide +kernel
theorem dX6_isFree_49 : decode cX6_isFree 49 = .ok (.iload_n 3, 1) := by decide +kernel
theorem dX6_isFree_50 : decode cX6_isFree 50 = .ok (.iadd, 1) := by decide +kernel
theorem dX6_isFree_51 : decode cX6_isFree 51 = .ok (.istore 5, 2) := by decide +kernel
theorem dX6_isFree_53 : decode cX6_isFree 53 = .ok (.goto (-47), 3) := by decide +kernel
theorem dX6_isFree_56 : decode cX6_isFree 56 = .ok (.iload 4, 2) := by decide +kernel
theorem dX6_isFree_58 : decode cX6_isFree 58 = .ok (.ireturn, 1) := by decide +kernel
theorem dX6_takes_0 : decode cX6_takes 0 = .ok (.iload_n 3, 1) := by decide +kernel
theorem dX6_takes_1 : decode cX6_takes 1 = .ok (.istore 5, 2) := by decide +kernel
theorem dX6_takes_3 : decode cX6_takes 3 = .ok (.iload 5, 2) := by decide +kernel
theorem dX6_takes_5 : decode cX6_takes 5 = .ok (.aload_n 0, 1) := by decide +kernel
theorem dX6_takes_6 : decode cX6_takes 6 = .ok (.getfield 7, 3) := by decide +kernel
theorem dX6_takes_9 : decode cX6_takes 9 = .ok (.iconst 1, 1) := by decide +kernel
theorem dX6_takes_10 : decode cX6_takes 10 = .ok (.iaload, 1) := by decide +kernel
theorem dX6_takes_11 : decode cX6_takes 11 = .ok (.if_icmp .ge 28, 3) := by decide +kernel
theorem dX6_takes_14 : decode cX6_takes 14 = .ok (.aload_n 0, 1) := by decide +kernel
theorem dX6_takes_15 : decode cX6_takes 15 = .ok (.getfield 16, 3) := by decide +kernel
theorem dX6_takes_18 : decode cX6_takes 18 = .ok (.bipush 16, 2) := by decide +kernel
theorem dX6_takes_20 : decode cX6_takes 20 = .ok (.iload 5, 2) := by decide +kernel
theorem dX6_takes_22 : decode cX6_takes 22 = .ok (.imul, 1) := by decide +kernel
theorem dX6_takes_23 : decode cX6_takes 23 = .ok (.iconst 3, 1) := by decide +kernel
theorem dX6_takes_24 : decode cX6_takes 24 = .ok (.iadd, 1) := by decide +kernel
theorem dX6_takes_25 : decode cX6_takes 25 = .ok (.iload_n 2, 1) := by decide +kernel
theorem dX6_takes_26 : decode cX6_takes 26 = .ok (.iadd, 1) := by decide +kernel
theorem dX6_takes_27 : decode cX6_takes 27 = .ok (.iload_n 1, 1) := by decide +kernel
theorem dX6_takes_28 : decode cX6_takes 28 = .ok (.iastore, 1) := by decide +kernel
theorem dX6_takes_29 : decode cX6_takes 29 = .ok (.iload 5, 2) := by decide +kernel
theorem dX6_takes_31 : decode cX6_takes 31 = .ok (.iload 4, 2) := by decide +kernel
theorem dX6_takes_33 : decode cX6_takes 33 = .ok (.iadd, 1) := by decide +kernel
theorem dX6_takes_34 : decode cX6_takes 34 = .ok (.istore 5, 2) := by decide +kernel
theorem dX6_takes_36 : decode cX6_takes 36 = .ok (.goto (-33), 3) := by decide +kernel
theorem dX6_takes_39 : decode cX6_takes 39 = .ok (.return_, 1) := by decide +kernel
theorem dX6_placesMany_0 : decode cX6_placesMany 0 = .ok (.aload_n 0, 1) := by decide +kernel
theorem dX6_placesMany_1 : decode cX6_placesMany 1 = .ok (.getfield 7, 3) := by decide +kernel
theorem dX6_placesMany_4 : decode cX6_placesMany 4 = .ok (.iconst 0, 1) := by decide +kernel
theorem dX6_placesMany_5 : decode cX6_placesMany 5 = .ok (.iaload, 1) := by decide +kernel
theorem dX6_placesMany_6 : decode cX6_placesMany 6 = .ok (.iconst 3, 1) := by decide +kernel
theorem dX6_placesMany_7 : decode cX6_placesMany 7 = .ok (.isub, 1) := by decide +kernel
theorem dX6_placesMany_8 : decode cX6_placesMany 8 = .ok (.istore_n 3, 1) := by decide +kernel
theorem dX6_placesMany_9 : decode cX6_placesMany 9 = .ok (.iload_n 3, 1) := by decide +kernel
theorem dX6_placesMany_10 : decode cX6_placesMany 10 = .ok (.iload_n 2, 1) := by decide +kernel
theorem dX6_placesMany_11 : decode cX6_placesMany 11 = .ok (.idiv, 1) := by decide +kernel
theorem dX6_placesMany_12 : decode cX6_placesMany 12 = .ok (.istore 4, 2) := by decide +kernel
theorem dX6_placesMany_14 : decode cX6_placesMany 14 = .ok (.iconst 0, 1) := by decide +kernel
theorem dX6_placesMany_15 : decode cX6_placesMany 15 = .ok (.istore 5, 2) := by decide +kernel
theorem dX6_placesMany_17 : decode cX6_placesMany 17 = .ok (.iload 5, 2) := by decide +kernel
theorem dX6_placesMany_19 : decode cX6_placesMany 19 = .ok (.iload 4, 2) := by decide +kernel
theorem dX6_placesMany_21 : decode cX6_placesMany 21 = .ok (.if_icmp .ge 99, 3) := by decide +kernel
theorem dX6_placesMany_24 : decode cX6_placesMany 24 = .ok (.iload_n 3, 1) := by decide +kernel
theorem dX6_placesMany_25 : decode cX6_placesMany 25 = .ok (.iload_n 2, 1) := by decide +kernel
theorem dX6_placesMany_26 : decode cX6_placesMany 26 = .ok (.irem, 1) := by decide +kernel
theorem dX6_placesMany_27 : decode cX6_placesMany 27 = .ok (.ifCond .ne 93, 3) := by decide +kernel
theorem dX6_placesMany_30 : decode cX6_placesMany 30 = .ok (.iconst 1, 1) := by decide +kernel
theorem dX6_placesMany_31 : decode cX6_placesMany 31 = .ok (.istore 6, 2) := by decide +kernel
theorem dX6_placesMany_33 : decode cX6_placesMany 33 = .ok (.iconst 0, 1) := by decide +kernel
theorem dX6_placesMany_34 : decode cX6_placesMany 34 = .ok (.istore 7, 2) := by decide +kernel
theorem dX6_placesMany_36 : decode cX6_placesMany 36 = .ok (.iload 7, 2) := by decide +kernel
theorem dX6_placesMany_38 : decode cX6_placesMany 38 = .ok (.iload_n 2, 1) := by decide +kernel
theorem dX6_placesMany_39 : decode cX6_placesMany 39 = .ok (.if_icmp .ge 38, 3) := by decide +kernel
theorem dX6_placesMany_42 : decode cX6_placesMany 42 = .ok (.iload 6, 2) := by decide +kernel
theorem dX6_placesMany_44 : decode cX6_placesMany 44 = .ok (.ifCond .eq 24, 3) := by decide +kernel
theorem dX6_placesMany_47 : decode cX6_placesMany 47 = .ok (.aload_n 0, 1) := by decide +kernel
theorem dX6_placesMany_48 : decode cX6_placesMany 48 = .ok (.iload 5, 2) := by decide +kernel
theorem dX6_placesMany_50 : decode cX6_placesMany 50 = .ok (.iload 7, 2) := by decide +kernel
theorem dX6_placesMany_52 : decode cX6_placesMany 52 = .ok (.iload 4, 2) := by decide +kernel
theorem dX6_placesMany_54 : decode cX6_placesMany 54 = .ok (.imul, 1) := by decide +kernel
theorem dX6_placesMany_55 : decode cX6_placesMany 55 = .ok (.iadd, 1) := by decide +kernel
theorem dX6_placesMany_56 : decode cX6_placesMany 56 = .ok (.iconst 0, 1) := by decide +kernel
theorem dX6_placesMany_57 : decode cX6_placesMany 57 = .ok (.iconst 1, 1) := by decide +kernel
theorem dX6_placesMany_58 : decode cX6_placesMany 58 = .ok (.invokevirtual 47, 3) := by decide +kernel
theorem dX6_placesMany_61 : decode cX6_placesMany 61 = .ok (.ifCond .eq 7, 3) := by decide +kernel
theorem dX6_placesMany_64 : decode cX6_placesMany 64 = .ok (.iconst 1, 1) := by decide +kernel
theorem dX6_placesMany_65 : decode cX6_placesMany 65 = .ok (.goto 4, 3) := by decide +kernel
theorem dX6_placesMany_68 : decode cX6_placesMany 68 = .ok (.iconst 0, 1) := by decide +kernel
theorem dX6_placesMany_69 : decode cX6_placesMany 69 = .ok (.istore 6, 2) := by decide +kernel
theorem dX6_placesMany_71 : decode cX6_placesMany 71 = .ok (.iinc 7 1, 3) := by decide +kernel
theorem dX6_placesMany_74 : decode cX6_placesMany 74 = .ok (.goto (-38), 3) := by decide +kernel
theorem dX6_placesMany_77 : decode cX6_placesMany 77 = .ok (.iload 6, 2) := by decide +kernel
theorem dX6_placesMany_79 : decode cX6_placesMany 79 = .ok (.ifCond .eq 35, 3) := by decide +kernel
theorem dX6_placesMany_82 : decode cX6_placesMany 82 = .ok (.iconst 0, 1) := by decide +kernel
theorem dX6_placesMany_83 : decode cX6_placesMany 83 = .ok (.istore 7, 2) := by decide +kernel
theorem dX6_placesMany_85 : decode cX6_placesMany 85 = .ok (.iload 7, 2) := by decide +kernel
theorem dX6_placesMany_87 : decode cX6_placesMany 87 = .ok (.iload_n 2, 1) := by decide +kernel
theorem dX6_placesMany_88 : decode cX6_placesMany 88 = .ok (.if_icmp .ge 24, 3) := by decide +kernel
theorem dX6_placesMany_91 : decode cX6_placesMany 91 = .ok (.aload_n 0, 1) := by decide +kernel
theorem dX6_placesMany_92 : decode cX6_placesMany 92 = .ok (.iload_n 1, 1) := by decide +kernel
theorem dX6_placesMany_93 : decode cX6_placesMany 93 = .ok (.iload 5, 2) := by decide +kernel
theorem dX6_placesMany_95 : decode cX6_placesMany 95 = .ok (.iload 7, 2) := by decide +kernel
theorem dX6_placesMany_97 : decode cX6_placesMany 97 = .ok (.iload 4, 2) := by decide +kernel
theorem dX6_placesMany_99 : decode cX6_placesMany 99 = .ok (.imul, 1) := by decide +kernel
theorem dX6_placesMany_100 : decode cX6_placesMany 100 = .ok (.iadd, 1) := by decide +kernel
theorem dX6_placesMany_101 : decode cX6_placesMany 101 = .ok (.iconst 0, 1) := by decide +kernel
theorem dX6_placesMany_102 : decode cX6_placesMany 102 = .ok (.iconst 1, 1) := by decide +kernel
theorem dX6_placesMany_103 : decode cX6_placesMany 103 = .ok (.invokevirtual 50, 3) := by decide +kernel
theorem dX6_placesMany_106 : decode cX6_placesMany 106 = .ok (.iinc 7 1, 3) := by decide +kernel
theorem dX6_placesMany_109 : decode cX6_placesMany 109 = .ok (.goto (-24), 3) := by decide +kernel
theorem dX6_placesMany_112 : decode cX6_placesMany 112 = .ok (.iconst 1, 1) := by decide +kernel
theorem dX6_placesMany_113 : decode cX6_placesMany 113 = .ok (.ireturn, 1) := by decide +kernel
theorem dX6_placesMany_114 : decode cX6_placesMany 114 = .ok (.iinc 5 1, 3) := by decide +kernel
theorem dX6_placesMany_117 : decode cX6_placesMany 117 = .ok (.goto (-100), 3) := by decide +kernel
theorem dX6_placesMany_120 : decode cX6_placesMany 120 = .ok (.iconst 0, 1) := by decide +kernel
theorem dX6_placesMany_121 : decode cX6_placesMany 121 = .ok (.ireturn, 1) := by decide +kernel
theorem dX6_placesFew_0 : decode cX6_placesFew 0 = .ok (.aload_n 0, 1) := by decide +kernel
theorem dX6_placesFew_1 : decode cX6_placesFew 1 = .ok (.getfield 7, 3) := by decide +kernel
theorem dX6_placesFew_4 : decode cX6_placesFew 4 = .ok (.iconst 1, 1) := by decide +kernel
theorem dX6_placesFew_5 : decode cX6_placesFew 5 = .ok (.iaload, 1) := by decide +kernel
theorem dX6_placesFew_6 : decode cX6_placesFew 6 = .ok (.iload_n 2, 1) := by decide +kernel
theorem dX6_placesFew_7 : decode cX6_placesFew 7 = .ok (.if_icmp .ge 7, 3) := by decide +kernel
theorem dX6_placesFew_10 : decode cX6_placesFew 10 = .ok (.iconst 0, 1) := by decide +kernel
theorem dX6_placesFew_11 : decode cX6_placesFew 11 = .ok (.goto 13, 3) := by decide +kernel
theorem dX6_placesFew_14 : decode cX6_placesFew 14 = .ok (.aload_n 0, 1) := by decide +kernel
theorem dX6_placesFew_15 : decode cX6_placesFew 15 = .ok (.getfield 7, 3) := by decide +kernel
theorem dX6_placesFew_18 : decode cX6_placesFew 18 = .ok (.iconst 0, 1) := by decide +kernel
theorem dX6_placesFew_19 : decode cX6_placesFew 19 = .ok (.iaload, 1) := by decide +kernel
theorem dX6_placesFew_20 : decode cX6_placesFew 20 = .ok (.iconst 3, 1) := by decide +kernel
theorem dX6_placesFew_21 : decode cX6_placesFew 21 = .ok (.isub, 1) := by decide +kernel
theorem dX6_placesFew_22 : decode cX6_placesFew 22 = .ok (.iload_n 2, 1) := by decide +kernel
theorem dX6_placesFew_23 : decode cX6_placesFew 23 = .ok (.imul, 1) := by decide +kernel
theorem dX6_placesFew_24 : decode cX6_placesFew 24 = .ok (.istore_n 3, 1) := by decide +kernel
theorem dX6_placesFew_25 : decode cX6_placesFew 25 = .ok (.iconst 0, 1) := by decide +kernel
theorem dX6_placesFew_26 : decode cX6_placesFew 26 = .ok (.istore 4, 2) := by decide +kernel
theorem dX6_placesFew_28 : decode cX6_placesFew 28 = .ok (.iload 4, 2) := by decide +kernel
theorem dX6_placesFew_30 : decode cX6_placesFew 30 = .ok (.iload_n 3, 1) := by decide +kernel
theorem dX6_placesFew_31 : decode cX6_placesFew 31 = .ok (.if_icmp .ge 41, 3) := by decide +kernel
theorem dX6_placesFew_34 : decode cX6_placesFew 34 = .ok (.aload_n 0, 1) := by decide +kernel
theorem dX6_placesFew_35 : decode cX6_placesFew 35 = .ok (.iload 4, 2) := by decide +kernel
theorem dX6_placesFew_37 : decode cX6_placesFew 37 = .ok (.iload_n 2, 1) := by decide +kernel
theorem dX6_placesFew_38 : decode cX6_placesFew 38 = .ok (.idiv, 1) := by decide +kernel
theorem dX6_placesFew_39 : decode cX6_placesFew 39 = .ok (.iload 4, 2) := by decide +kernel
theorem dX6_placesFew_41 : decode cX6_placesFew 41 = .ok (.iload_n 2, 1) := by decide +kernel
theorem dX6_placesFew_42 : decode cX6_placesFew 42 = .ok (.irem, 1) := by decide +kernel
theorem dX6_placesFew_43 : decode cX6_placesFew 43 = .ok (.iload_n 2, 1) := by decide +kernel
theorem dX6_placesFew_44 : decode cX6_placesFew 44 = .ok (.invokevirtual 47, 3) := by decide +kernel
theorem dX6_placesFew_47 : decode cX6_placesFew 47 = .ok (.ifCond .eq 19, 3) := by decide +kernel
theorem dX6_placesFew_50 : decode cX6_placesFew 50 = .ok (.aload_n 0, 1) := by decide +kernel
theorem dX6_placesFew_51 : decode cX6_placesFew 51 = .ok (.iload_n 1, 1) := by decide +kernel
theorem dX6_placesFew_52 : decode cX6_placesFew 52 = .ok (.iload 4, 2) := by decide +kernel
theorem dX6_placesFew_54 : decode cX6_placesFew 54 = .ok (.iload_n 2, 1) := by decide +kernel
theorem dX6_placesFew_55 : decode cX6_placesFew 55 = .ok (.idiv, 1) := by decide +kernel
theorem dX6_placesFew_56 : decode cX6_placesFew 56 = .ok (.iload 4, 2) := by decide +kernel
theorem dX6_placesFew_58 : decode cX6_placesFew 58 = .ok (.iload_n 2, 1) := by decide +kernel
theorem dX6_placesFew_59 : decode cX6_placesFew 59 = .ok (.irem, 1) := by decide +kernel
theorem dX6_placesFew_60 : decode cX6_placesFew 60 = .ok (.iload_n 2, 1) := by decide +kernel
theorem dX6_placesFew_61 : decode cX6_placesFew 61 = .ok (.invokevirtual 50, 3) := by decide +kernel
theorem dX6_placesFew_64 : decode cX6_placesFew 64 = .ok (.iconst 1, 1) := by decide +kernel
theorem dX6_placesFew_65 : decode cX6_placesFew 65 = .ok (.ireturn, 1) := by decide +kernel
theorem dX6_placesFew_66 : decode cX6_placesFew 66 = .ok (.iinc 4 1, 3) := by decide +kernel
theorem dX6_placesFew_69 : decode cX6_placesFew 69 = .ok (.goto (-41), 3) := by decide +kernel
theorem dX6_placesFew_72 : decode cX6_placesFew 72 = .ok (.iconst 0, 1) := by decide +kernel
theorem dX6_placesFew_73 : decode cX6_placesFew 73 = .ok (.ireturn, 1) := by decide +kernel
theorem dX6_placedAt_0 : decode cX6_placedAt 0 = .ok (.iconst 0, 1) := by decide +kernel
theorem dX6_placedAt_1 : decode cX6_placedAt 1 = .ok (.istore_n 2, 1) := by decide +kernel
theorem dX6_placedAt_2 : decode cX6_placedAt 2 = .ok (.iload_n 2, 1) := by decide +kernel
theorem dX6_placedAt_3 : decode cX6_placedAt 3 = .ok (.aload_n 0, 1) := by decide +kernel
theorem dX6_placedAt_4 : decode cX6_placedAt 4 = .ok (.getfield 7, 3) := by decide +kernel
theorem dX6_placedAt_7 : decode cX6_placedAt 7 = .ok (.iconst 2, 1) := by decide +kernel
theorem dX6_placedAt_8 : decode cX6_placedAt 8 = .ok (.iaload, 1) := by decide +kernel
theorem dX6_placedAt_9 : decode cX6_placedAt 9 = .ok (.if_icmp .ge 76, 3) := by decide +kernel
theorem dX6_placedAt_12 : decode cX6_placedAt 12 = .ok (.iconst 0, 1) := by decide +kernel
theorem dX6_placedAt_13 : decode cX6_placedAt 13 = .ok (.istore_n 3, 1) := by decide +kernel
theorem dX6_placedAt_14 : decode cX6_placedAt 14 = .ok (.iconst 0, 1) := by decide +kernel
theorem dX6_placedAt_15 : decode cX6_placedAt 15 = .ok (.istore 4, 2) := by decide +kernel
theorem dX6_placedAt_17 : decode cX6_placedAt 17 = .ok (.iload 4, 2) := by decide +kernel
theorem dX6_placedAt_19 : decode cX6_placedAt 19 = .ok (.aload_n 0, 1) := by decide +kernel
theorem dX6_placedAt_20 : decode cX6_placedAt 20 = .ok (.getfield 7, 3) := by decide +kernel
theorem dX6_placedAt_23 : decode cX6_placedAt 23 = .ok (.iconst 2, 1) := by decide +kernel
theorem dX6_placedAt_24 : decode cX6_placedAt 24 = .ok (.iaload, 1) := by decide +kernel
theorem dX6_placedAt_25 : decode cX6_placedAt 25 = .ok (.if_icmp .ge 47, 3) := by decide +kernel
theorem dX6_placedAt_28 : decode cX6_placedAt 28 = .ok (.aload_n 0, 1) := by decide +kernel
theorem dX6_placedAt_29 : decode cX6_placedAt 29 = .ok (.iload 4, 2) := by decide +kernel
theorem dX6_placedAt_31 : decode cX6_placedAt 31 = .ok (.invokevirtual 54, 3) := by decide +kernel
theorem dX6_placedAt_34 : decode cX6_placedAt 34 = .ok (.aload_n 0, 1) := by decide +kernel
theorem dX6_placedAt_35 : decode cX6_placedAt 35 = .ok (.iload_n 2, 1) := by decide +kernel
theorem dX6_placedAt_36 : decode cX6_placedAt 36 = .ok (.invokevirtual 54, 3) := by decide +kernel
theorem dX6_placedAt_39 : decode cX6_placedAt 39 = .ok (.isub, 1) := by decide +kernel
theorem dX6_placedAt_40 : decode cX6_placedAt 40 = .ok (.istore 5, 2) := by decide +kernel
theorem dX6_placedAt_42 : decode cX6_placedAt 42 = .ok (.iload_n 3, 1) := by decide +kernel
theorem dX6_placedAt_43 : decode cX6_placedAt 43 = .ok (.iload 5, 2) := by decide +kernel
theorem dX6_placedAt_45 : decode cX6_placedAt 45 = .ok (.ifCond .gt 14, 3) := by decide +kernel
theorem dX6_placedAt_48 : decode cX6_placedAt 48 = .ok (.iload 5, 2) := by decide +kernel
theorem dX6_placedAt_50 : decode cX6_placedAt 50 = .ok (.ifCond .ne 13, 3) := by decide +kernel
theorem dX6_placedAt_53 : decode cX6_placedAt 53 = .ok (.iload 4, 2) := by decide +kernel
theorem dX6_placedAt_55 : decode cX6_placedAt 55 = .ok (.iload_n 2, 1) := by decide +kernel
theorem dX6_placedAt_56 : decode cX6_placedAt 56 = .ok (.if_icmp .ge 7, 3) := by decide +kernel
theorem dX6_placedAt_59 : decode cX6_placedAt 59 = .ok (.iconst 1, 1) := by decide +kernel
theorem dX6_placedAt_60 : decode cX6_placedAt 60 = .ok (.goto 4, 3) := by decide +kernel
theorem dX6_placedAt_63 : decode cX6_placedAt 63 = .ok (.iconst 0, 1) := by decide +kernel
theorem dX6_placedAt_64 : decode cX6_placedAt 64 = .ok (.iadd, 1) := by decide +kernel
theorem dX6_placedAt_65 : decode cX6_placedAt 65 = .ok (.istore_n 3, 1) := by decide +kernel
theorem dX6_placedAt_66 : decode cX6_placedAt 66 = .ok (.iinc 4 1, 3) := by decide +kernel
theorem dX6_placedAt_69 : decode cX6_placedAt 69 = .ok (.goto (-52), 3) := by decide +kernel
theorem dX6_placedAt_72 : decode cX6_placedAt 72 = .ok (.iload_n 3, 1) := by decide +kernel
theorem dX6_placedAt_73 : decode cX6_placedAt 73 = .ok (.iload_n 1, 1) := by decide +kernel
theorem dX6_placedAt_74 : decode cX6_placedAt 74 = .ok (.if_icmp .ne 5, 3) := by decide +kernel
theorem dX6_placedAt_77 : decode cX6_placedAt 77 = .ok (.iload_n 2, 1) := by decide +kernel
theorem dX6_placedAt_78 : decode cX6_placedAt 78 = .ok (.ireturn, 1) := by decide +kernel
theorem dX6_placedAt_79 : decode cX6_placedAt 79 = .ok (.iinc 2 1, 3) := by decide +kernel
theorem dX6_placedAt_82 : decode cX6_placedAt 82 = .ok (.goto (-80), 3) := by decide +kernel
theorem dX6_placedAt_85 : decode cX6_placedAt 85 = .ok (.iconst (-1), 1) := by decide +kernel
theorem dX6_placedAt_86 : decode cX6_placedAt 86 = .ok (.ireturn, 1) := by decide +kernel
theorem dX6_draws_0 : decode cX6_draws 0 = .ok (.iconst 0, 1) := by decide +kernel
theorem dX6_draws_1 : decode cX6_draws 1 = .ok (.istore_n 1, 1) := by decide +kernel
theorem dX6_draws_2 : decode cX6_draws 2 = .ok (.iload_n 1, 1) := by decide +kernel
theorem dX6_draws_3 : decode cX6_draws 3 = .ok (.sipush 128, 3) := by decide +kernel
theorem dX6_draws_6 : decode cX6_draws 6 = .ok (.if_icmp .ge 16, 3) := by decide +kernel
theorem dX6_draws_9 : decode cX6_draws 9 = .ok (.aload_n 0, 1) := by decide +kernel
theorem dX6_draws_10 : decode cX6_draws 10 = .ok (.getfield 16, 3) := by decide +kernel
theorem dX6_draws_13 : decode cX6_draws 13 = .ok (.iload_n 1, 1) := by decide +kernel
theorem dX6_draws_14 : decode cX6_draws 14 = .ok (.iconst (-1), 1) := by decide +kernel
theorem dX6_draws_15 : decode cX6_draws 15 = .ok (.iastore, 1) := by decide +kernel
theorem dX6_draws_16 : decode cX6_draws 16 = .ok (.iinc 1 1, 3) := by decide +kernel
theorem dX6_draws_19 : decode cX6_draws 19 = .ok (.goto (-17), 3) := by decide +kernel
theorem dX6_draws_22 : decode cX6_draws 22 = .ok (.iconst 0, 1) := by decide +kernel
theorem dX6_draws_23 : decode cX6_draws 23 = .ok (.istore_n 1, 1) := by decide +kernel
theorem dX6_draws_24 : decode cX6_draws 24 = .ok (.iload_n 1, 1) := by decide +kernel
theorem dX6_draws_25 : decode cX6_draws 25 = .ok (.aload_n 0, 1) := by decide +kernel
theorem dX6_draws_26 : decode cX6_draws 26 = .ok (.getfield 7, 3) := by decide +kernel
theorem dX6_draws_29 : decode cX6_draws 29 = .ok (.iconst 2, 1) := by decide +kernel
theorem dX6_draws_30 : decode cX6_draws 30 = .ok (.iaload, 1) := by decide +kernel
theorem dX6_draws_31 : decode cX6_draws 31 = .ok (.if_icmp .ge 51, 3) := by decide +kernel
theorem dX6_draws_34 : decode cX6_draws 34 = .ok (.aload_n 0, 1) := by decide +kernel
theorem dX6_draws_35 : decode cX6_draws 35 = .ok (.iload_n 1, 1) := by decide +kernel
theorem dX6_draws_36 : decode cX6_draws 36 = .ok (.invokevirtual 58, 3) := by decide +kernel
theorem dX6_draws_39 : decode cX6_draws 39 = .ok (.istore_n 2, 1) := by decide +kernel
theorem dX6_draws_40 : decode cX6_draws 40 = .ok (.aload_n 0, 1) := by decide +kernel
theorem dX6_draws_41 : decode cX6_draws 41 = .ok (.iload_n 2, 1) := by decide +kernel
theorem dX6_draws_42 : decode cX6_draws 42 = .ok (.iconst 0, 1) := by decide +kernel
theorem dX6_draws_43 : decode cX6_draws 43 = .ok (.invokevirtual 43, 3) := by decide +kernel
theorem dX6_draws_46 : decode cX6_draws 46 = .ok (.istore_n 3, 1) := by decide +kernel
theorem dX6_draws_47 : decode cX6_draws 47 = .ok (.iload_n 3, 1) := by decide +kernel
theorem dX6_draws_48 : decode cX6_draws 48 = .ok (.ifCond .le 12, 3) := by decide +kernel
theorem dX6_draws_51 : decode cX6_draws 51 = .ok (.aload_n 0, 1) := by decide +kernel
theorem dX6_draws_52 : decode cX6_draws 52 = .ok (.iload_n 2, 1) := by decide +kernel
theorem dX6_draws_53 : decode cX6_draws 53 = .ok (.iload_n 3, 1) := by decide +kernel
theorem dX6_draws_54 : decode cX6_draws 54 = .ok (.invokevirtual 61, 3) := by decide +kernel
theorem dX6_draws_57 : decode cX6_draws 57 = .ok (.goto 10, 3) := by decide +kernel
theorem dX6_draws_60 : decode cX6_draws 60 = .ok (.aload_n 0, 1) := by decide +kernel
theorem dX6_draws_61 : decode cX6_draws 61 = .ok (.iload_n 2, 1) := by decide +kernel
theorem dX6_draws_62 : decode cX6_draws 62 = .ok (.iload_n 3, 1) := by decide +kernel
theorem dX6_draws_63 : decode cX6_draws 63 = .ok (.ineg, 1) := by decide +kernel
theorem dX6_draws_64 : decode cX6_draws 64 = .ok (.invokevirtual 65, 3) := by decide +kernel
theorem dX6_draws_67 : decode cX6_draws 67 = .ok (.istore 4, 2) := by decide +kernel
theorem dX6_draws_69 : decode cX6_draws 69 = .ok (.iload 4, 2) := by decide +kernel
theorem dX6_draws_71 : decode cX6_draws 71 = .ok (.ifCond .ne 5, 3) := by decide +kernel
theorem dX6_draws_74 : decode cX6_draws 74 = .ok (.iload_n 2, 1) := by decide +kernel
theorem dX6_draws_75 : decode cX6_draws 75 = .ok (.ireturn, 1) := by decide +kernel
theorem dX6_draws_76 : decode cX6_draws 76 = .ok (.iinc 1 1, 3) := by decide +kernel
theorem dX6_draws_79 : decode cX6_draws 79 = .ok (.goto (-55), 3) := by decide +kernel
theorem dX6_draws_82 : decode cX6_draws 82 = .ok (.iconst (-1), 1) := by decide +kernel
theorem dX6_draws_83 : decode cX6_draws 83 = .ok (.ireturn, 1) := by decide +kernel
theorem dX6_ownerAt_0 : decode cX6_ownerAt 0 = .ok (.aload_n 0, 1) := by decide +kernel
theorem dX6_ownerAt_1 : decode cX6_ownerAt 1 = .ok (.getfield 7, 3) := by decide +kernel
theorem dX6_ownerAt_4 : decode cX6_ownerAt 4 = .ok (.sipush 201, 3) := by decide +kernel
theorem dX6_ownerAt_7 : decode cX6_ownerAt 7 = .ok (.bipush 16, 2) := by decide +kernel
theorem dX6_ownerAt_9 : decode cX6_ownerAt 9 = .ok (.iload_n 1, 1) := by decide +kernel
theorem dX6_ownerAt_10 : decode cX6_ownerAt 10 = .ok (.imul, 1) := by decide +kernel
theorem dX6_ownerAt_11 : decode cX6_ownerAt 11 = .ok (.iadd, 1) := by decide +kernel
theorem dX6_ownerAt_12 : decode cX6_ownerAt 12 = .ok (.iload_n 2, 1) := by decide +kernel
theorem dX6_ownerAt_13 : decode cX6_ownerAt 13 = .ok (.iadd, 1) := by decide +kernel
theorem dX6_ownerAt_14 : decode cX6_ownerAt 14 = .ok (.iaload, 1) := by decide +kernel
theorem dX6_ownerAt_15 : decode cX6_ownerAt 15 = .ok (.ireturn, 1) := by decide +kernel
theorem dX6_takenWords_0 : decode cX6_takenWords 0 = .ok (.iconst 0, 1) := by decide +kernel
theorem dX6_takenWords_1 : decode cX6_takenWords 1 = .ok (.istore_n 1, 1) := by decide +kernel
theorem dX6_takenWords_2 : decode cX6_takenWords 2 = .ok (.iconst 0, 1) := by decide +kernel
theorem dX6_takenWords_3 : decode cX6_takenWords 3 = .ok (.istore_n 2, 1) := by decide +kernel
theorem dX6_takenWords_4 : decode cX6_takenWords 4 = .ok (.iload_n 2, 1) := by decide +kernel
theorem dX6_takenWords_5 : decode cX6_takenWords 5 = .ok (.bipush 16, 2) := by decide +kernel
theorem dX6_takenWords_7 : decode cX6_takenWords 7 = .ok (.aload_n 0, 1) := by decide +kernel
theorem dX6_takenWords_8 : decode cX6_takenWords 8 = .ok (.getfield 7, 3) := by decide +kernel
theorem dX6_takenWords_11 : decode cX6_takenWords 11 = .ok (.iconst 1, 1) := by decide +kernel
theorem dX6_takenWords_12 : decode cX6_takenWords 12 = .ok (.iaload, 1) := by decide +kernel
theorem dX6_takenWords_13 : decode cX6_takenWords 13 = .ok (.imul, 1) := by decide +kernel
theorem dX6_takenWords_14 : decode cX6_takenWords 14 = .ok (.if_icmp .ge 44, 3) := by decide +kernel
theorem dX6_takenWords_17 : decode cX6_takenWords 17 = .ok (.iload_n 1, 1) := by decide +kernel
theorem dX6_takenWords_18 : decode cX6_takenWords 18 = .ok (.iload_n 2, 1) := by decide +kernel
theorem dX6_takenWords_19 : decode cX6_takenWords 19 = .ok (.bipush 16, 2) := by decide +kernel
theorem dX6_takenWords_21 : decode cX6_takenWords 21 = .ok (.irem, 1) := by decide +kernel
theorem dX6_takenWords_22 : decode cX6_takenWords 22 = .ok (.aload_n 0, 1) := by decide +kernel
theorem dX6_takenWords_23 : decode cX6_takenWords 23 = .ok (.getfield 7, 3) := by decide +kernel
theorem dX6_takenWords_26 : decode cX6_takenWords 26 = .ok (.iconst 0, 1) := by decide +kernel
theorem dX6_takenWords_27 : decode cX6_takenWords 27 = .ok (.iaload, 1) := by decide +kernel
theorem dX6_takenWords_28 : decode cX6_takenWords 28 = .ok (.if_icmp .ge 21, 3) := by decide +kernel
theorem dX6_takenWords_31 : decode cX6_takenWords 31 = .ok (.aload_n 0, 1) := by decide +kernel
theorem dX6_takenWords_32 : decode cX6_takenWords 32 = .ok (.getfield 7, 3) := by decide +kernel
theorem dX6_takenWords_35 : decode cX6_takenWords 35 = .ok (.sipush 201, 3) := by decide +kernel
theorem dX6_takenWords_38 : decode cX6_takenWords 38 = .ok (.iload_n 2, 1) := by decide +kernel
theorem dX6_takenWords_39 : decode cX6_takenWords 39 = .ok (.iadd, 1) := by decide +kernel
theorem dX6_takenWords_40 : decode cX6_takenWords 40 = .ok (.iaload, 1) := by decide +kernel
theorem dX6_takenWords_41 : decode cX6_takenWords 41 = .ok (.iconst (-1), 1) := by decide +kernel
theorem dX6_takenWords_42 : decode cX6_takenWords 42 = .ok (.if_icmp .eq 7, 3) := by decide +kernel
theorem dX6_takenWords_45 : decode cX6_takenWords 45 = .ok (.iconst 1, 1) := by decide +kernel
theorem dX6_takenWords_46 : decode cX6_takenWords 46 = .ok (.goto 4, 3) := by decide +kernel
theorem dX6_takenWords_49 : decode cX6_takenWords 49 = .ok (.iconst 0, 1) := by decide +kernel
theorem dX6_takenWords_50 : decode cX6_takenWords 50 = .ok (.iadd, 1) := by decide +kernel
theorem dX6_takenWords_51 : decode cX6_takenWords 51 = .ok (.istore_n 1, 1) := by decide +kernel
theorem dX6_takenWords_52 : decode cX6_takenWords 52 = .ok (.iinc 2 1, 3) := by decide +kernel
theorem dX6_takenWords_55 : decode cX6_takenWords 55 = .ok (.goto (-51), 3) := by decide +kernel
theorem dX6_takenWords_58 : decode cX6_takenWords 58 = .ok (.iload_n 1, 1) := by decide +kernel
theorem dX6_takenWords_59 : decode cX6_takenWords 59 = .ok (.ireturn, 1) := by decide +kernel
theorem dX6_plan_0 : decode cX6_plan 0 = .ok (.aload_n 0, 1) := by decide +kernel
theorem dX6_plan_1 : decode cX6_plan 1 = .ok (.iconst 0, 1) := by decide +kernel
theorem dX6_plan_2 : decode cX6_plan 2 = .ok (.putfield 19, 3) := by decide +kernel
theorem dX6_plan_5 : decode cX6_plan 5 = .ok (.aload_n 0, 1) := by decide +kernel
theorem dX6_plan_6 : decode cX6_plan 6 = .ok (.invokevirtual 68, 3) := by decide +kernel
theorem dX6_plan_9 : decode cX6_plan 9 = .ok (.istore_n 1, 1) := by decide +kernel
theorem dX6_plan_10 : decode cX6_plan 10 = .ok (.iload_n 1, 1) := by decide +kernel
theorem dX6_plan_11 : decode cX6_plan 11 = .ok (.iconst (-1), 1) := by decide +kernel
theorem dX6_plan_12 : decode cX6_plan 12 = .ok (.if_icmp .eq 8, 3) := by decide +kernel
theorem dX6_plan_15 : decode cX6_plan 15 = .ok (.bipush (-10), 2) := by decide +kernel
theorem dX6_plan_17 : decode cX6_plan 17 = .ok (.iload_n 1, 1) := by decide +kernel
theorem dX6_plan_18 : decode cX6_plan 18 = .ok (.isub, 1) := by decide +kernel
theorem dX6_plan_19 : decode cX6_plan 19 = .ok (.ireturn, 1) := by decide +kernel
theorem dX6_plan_20 : decode cX6_plan 20 = .ok (.aload_n 0, 1) := by decide +kernel
theorem dX6_plan_21 : decode cX6_plan 21 = .ok (.invokevirtual 33, 3) := by decide +kernel
theorem dX6_plan_24 : decode cX6_plan 24 = .ok (.aload_n 0, 1) := by decide +kernel
theorem dX6_plan_25 : decode cX6_plan 25 = .ok (.getfield 7, 3) := by decide +kernel
theorem dX6_plan_28 : decode cX6_plan 28 = .ok (.iconst 3, 1) := by decide +kernel
theorem dX6_plan_29 : decode cX6_plan 29 = .ok (.iconst 1, 1) := by decide +kernel
theorem dX6_plan_30 : decode cX6_plan 30 = .ok (.iastore, 1) := by decide +kernel
theorem dX6_plan_31 : decode cX6_plan 31 = .ok (.iconst 0, 1) := by decide +kernel
theorem dX6_plan_32 : decode cX6_plan 32 = .ok (.istore_n 2, 1) := by decide +kernel
theorem dX6_plan_33 : decode cX6_plan 33 = .ok (.iload_n 2, 1) := by decide +kernel
theorem dX6_plan_34 : decode cX6_plan 34 = .ok (.sipush 128, 3) := by decide +kernel
theorem dX6_plan_37 : decode cX6_plan 37 = .ok (.if_icmp .ge 25, 3) := by decide +kernel
theorem dX6_plan_40 : decode cX6_plan 40 = .ok (.aload_n 0, 1) := by decide +kernel
theorem dX6_plan_41 : decode cX6_plan 41 = .ok (.getfield 7, 3) := by decide +kernel
theorem dX6_plan_44 : decode cX6_plan 44 = .ok (.sipush 201, 3) := by decide +kernel
theorem dX6_plan_47 : decode cX6_plan 47 = .ok (.iload_n 2, 1) := by decide +kernel
theorem dX6_plan_48 : decode cX6_plan 48 = .ok (.iadd, 1) := by decide +kernel
theorem dX6_plan_49 : decode cX6_plan 49 = .ok (.aload_n 0, 1) := by decide +kernel
theorem dX6_plan_50 : decode cX6_plan 50 = .ok (.getfield 16, 3) := by decide +kernel
theorem dX6_plan_53 : decode cX6_plan 53 = .ok (.iload_n 2, 1) := by decide +kernel
theorem dX6_plan_54 : decode cX6_plan 54 = .ok (.iaload, 1) := by decide +kernel
theorem dX6_plan_55 : decode cX6_plan 55 = .ok (.iastore, 1) := by decide +kernel
theorem dX6_plan_56 : decode cX6_plan 56 = .ok (.iinc 2 1, 3) := by decide +kernel
theorem dX6_plan_59 : decode cX6_plan 59 = .ok (.goto (-26), 3) := by decide +kernel
theorem dX6_plan_62 : decode cX6_plan 62 = .ok (.aload_n 0, 1) := by decide +kernel
theorem dX6_plan_63 : decode cX6_plan 63 = .ok (.invokevirtual 72, 3) := by decide +kernel
theorem dX6_plan_66 : decode cX6_plan 66 = .ok (.ireturn, 1) := by decide +kernel
theorem dX6_samplesPerMajor_0 : decode cX6_samplesPerMajor 0 = .ok (.aload_n 0, 1) := by decide +kernel
theorem dX6_samplesPerMajor_1 : decode cX6_samplesPerMajor 1 = .ok (.aload_n 0, 1) := by decide +kernel
theorem dX6_samplesPerMajor_2 : decode cX6_samplesPerMajor 2 = .ok (.iload_n 1, 1) := by decide +kernel
theorem dX6_samplesPerMajor_3 : decode cX6_samplesPerMajor 3 = .ok (.invokevirtual 75, 3) := by decide +kernel
theorem dX6_samplesPerMajor_6 : decode cX6_samplesPerMajor 6 = .ok (.ifCond .eq 7, 3) := by decide +kernel
theorem dX6_samplesPerMajor_9 : decode cX6_samplesPerMajor 9 = .ok (.iconst 0, 1) := by decide +kernel
theorem dX6_samplesPerMajor_10 : decode cX6_samplesPerMajor 10 = .ok (.goto 4, 3) := by decide +kernel
theorem dX6_samplesPerMajor_13 : decode cX6_samplesPerMajor 13 = .ok (.iconst 1, 1) := by decide +kernel
theorem dX6_samplesPerMajor_14 : decode cX6_samplesPerMajor 14 = .ok (.putfield 19, 3) := by decide +kernel
theorem dX6_samplesPerMajor_17 : decode cX6_samplesPerMajor 17 = .ok (.aload_n 0, 1) := by decide +kernel
theorem dX6_samplesPerMajor_18 : decode cX6_samplesPerMajor 18 = .ok (.getfield 19, 3) := by decide +kernel
theorem dX6_samplesPerMajor_21 : decode cX6_samplesPerMajor 21 = .ok (.ifCond .eq 7, 3) := by decide +kernel
theorem dX6_samplesPerMajor_24 : decode cX6_samplesPerMajor 24 = .ok (.iconst 0, 1) := by decide +kernel
theorem dX6_samplesPerMajor_25 : decode cX6_samplesPerMajor 25 = .ok (.goto 8, 3) := by decide +kernel
theorem dX6_samplesPerMajor_28 : decode cX6_samplesPerMajor 28 = .ok (.aload_n 0, 1) := by decide +kernel
theorem dX6_samplesPerMajor_29 : decode cX6_samplesPerMajor 29 = .ok (.iload_n 1, 1) := by decide +kernel
theorem dX6_samplesPerMajor_30 : decode cX6_samplesPerMajor 30 = .ok (.invokevirtual 54, 3) := by decide +kernel
theorem dX6_samplesPerMajor_33 : decode cX6_samplesPerMajor 33 = .ok (.ireturn, 1) := by decide +kernel
theorem dX6_slotOf_0 : decode cX6_slotOf 0 = .ok (.iload_n 2, 1) := by decide +kernel
theorem dX6_slotOf_1 : decode cX6_slotOf 1 = .ok (.istore_n 3, 1) := by decide +kernel
theorem dX6_slotOf_2 : decode cX6_slotOf 2 = .ok (.iconst 0, 1) := by decide +kernel
theorem dX6_slotOf_3 : decode cX6_slotOf 3 = .ok (.istore 4, 2) := by decide +kernel
theorem dX6_slotOf_5 : decode cX6_slotOf 5 = .ok (.iload 4, 2) := by decide +kernel
theorem dX6_slotOf_7 : decode cX6_slotOf 7 = .ok (.bipush 16, 2) := by decide +kernel
theorem dX6_slotOf_9 : decode cX6_slotOf 9 = .ok (.aload_n 0, 1) := by decide +kernel
theorem dX6_slotOf_10 : decode cX6_slotOf 10 = .ok (.getfield 7, 3) := by decide +kernel
theorem dX6_slotOf_13 : decode cX6_slotOf 13 = .ok (.iconst 1, 1) := by decide +kernel
theorem dX6_slotOf_14 : decode cX6_slotOf 14 = .ok (.iaload, 1) := by decide +kernel
theorem dX6_slotOf_15 : decode cX6_slotOf 15 = .ok (.imul, 1) := by decide +kernel
theorem dX6_slotOf_16 : decode cX6_slotOf 16 = .ok (.if_icmp .ge 48, 3) := by decide +kernel
theorem dX6_slotOf_19 : decode cX6_slotOf 19 = .ok (.iload 4, 2) := by decide +kernel
theorem dX6_slotOf_21 : decode cX6_slotOf 21 = .ok (.bipush 16, 2) := by decide +kernel
theorem dX6_slotOf_23 : decode cX6_slotOf 23 = .ok (.irem, 1) := by decide +kernel
theorem dX6_slotOf_24 : decode cX6_slotOf 24 = .ok (.aload_n 0, 1) := by decide +kernel
theorem dX6_slotOf_25 : decode cX6_slotOf 25 = .ok (.getfield 7, 3) := by decide +kernel
theorem dX6_slotOf_28 : decode cX6_slotOf 28 = .ok (.iconst 0, 1) := by decide +kernel
theorem dX6_slotOf_29 : decode cX6_slotOf 29 = .ok (.iaload, 1) := by decide +kernel
theorem dX6_slotOf_30 : decode cX6_slotOf 30 = .ok (.if_icmp .ge 28, 3) := by decide +kernel
theorem dX6_slotOf_33 : decode cX6_slotOf 33 = .ok (.aload_n 0, 1) := by decide +kernel
theorem dX6_slotOf_34 : decode cX6_slotOf 34 = .ok (.getfield 7, 3) := by decide +kernel
theorem dX6_slotOf_37 : decode cX6_slotOf 37 = .ok (.sipush 201, 3) := by decide +kernel
theorem dX6_slotOf_40 : decode cX6_slotOf 40 = .ok (.iload 4, 2) := by decide +kernel
theorem dX6_slotOf_42 : decode cX6_slotOf 42 = .ok (.iadd, 1) := by decide +kernel
theorem dX6_slotOf_43 : decode cX6_slotOf 43 = .ok (.iaload, 1) := by decide +kernel
theorem dX6_slotOf_44 : decode cX6_slotOf 44 = .ok (.iload_n 1, 1) := by decide +kernel
theorem dX6_slotOf_45 : decode cX6_slotOf 45 = .ok (.if_icmp .ne 13, 3) := by decide +kernel
theorem dX6_slotOf_48 : decode cX6_slotOf 48 = .ok (.iload_n 3, 1) := by decide +kernel
theorem dX6_slotOf_49 : decode cX6_slotOf 49 = .ok (.ifCond .ne 6, 3) := by decide +kernel
theorem dX6_slotOf_52 : decode cX6_slotOf 52 = .ok (.iload 4, 2) := by decide +kernel
theorem dX6_slotOf_54 : decode cX6_slotOf 54 = .ok (.ireturn, 1) := by decide +kernel
theorem dX6_slotOf_55 : decode cX6_slotOf 55 = .ok (.iinc 3 (-1), 3) := by decide +kernel
theorem dX6_slotOf_58 : decode cX6_slotOf 58 = .ok (.iinc 4 1, 3) := by decide +kernel
theorem dX6_slotOf_61 : decode cX6_slotOf 61 = .ok (.goto (-56), 3) := by decide +kernel
theorem dX6_slotOf_64 : decode cX6_slotOf 64 = .ok (.iconst (-1), 1) := by decide +kernel
theorem dX6_slotOf_65 : decode cX6_slotOf 65 = .ok (.ireturn, 1) := by decide +kernel
theorem dX6_slot_0 : decode cX6_slot 0 = .ok (.aload_n 0, 1) := by decide +kernel
theorem dX6_slot_1 : decode cX6_slot 1 = .ok (.aload_n 0, 1) := by decide +kernel
theorem dX6_slot_2 : decode cX6_slot 2 = .ok (.iload_n 1, 1) := by decide +kernel
theorem dX6_slot_3 : decode cX6_slot 3 = .ok (.invokevirtual 75, 3) := by decide +kernel
theorem dX6_slot_6 : decode cX6_slot 6 = .ok (.ifCond .ne 7, 3) := by decide +kernel
theorem dX6_slot_9 : decode cX6_slot 9 = .ok (.iconst 1, 1) := by decide +kernel
theorem dX6_slot_10 : decode cX6_slot 10 = .ok (.goto 17, 3) := by decide +kernel
theorem dX6_slot_13 : decode cX6_slot 13 = .ok (.iload_n 3, 1) := by decide +kernel
theorem dX6_slot_14 : decode cX6_slot 14 = .ok (.iconst 0, 1) := by decide +kernel
theorem dX6_slot_15 : decode cX6_slot 15 = .ok (.iconst 1, 1) := by decide +kernel
theorem dX6_slot_16 : decode cX6_slot 16 = .ok (.invokestatic 26, 3) := by decide +kernel
theorem dX6_slot_19 : decode cX6_slot 19 = .ok (.ifCond .ne 7, 3) := by decide +kernel
theorem dX6_slot_22 : decode cX6_slot 22 = .ok (.iconst 2, 1) := by decide +kernel
theorem dX6_slot_23 : decode cX6_slot 23 = .ok (.goto 4, 3) := by decide +kernel
theorem dX6_slot_26 : decode cX6_slot 26 = .ok (.iconst 0, 1) := by decide +kernel
theorem dX6_slot_27 : decode cX6_slot 27 = .ok (.putfield 19, 3) := by decide +kernel
theorem dX6_slot_30 : decode cX6_slot 30 = .ok (.aload_n 0, 1) := by decide +kernel
theorem dX6_slot_31 : decode cX6_slot 31 = .ok (.getfield 19, 3) := by decide +kernel
theorem dX6_slot_34 : decode cX6_slot 34 = .ok (.ifCond .eq 5, 3) := by decide +kernel
theorem dX6_slot_37 : decode cX6_slot 37 = .ok (.iconst 0, 1) := by decide +kernel
theorem dX6_slot_38 : decode cX6_slot 38 = .ok (.ireturn, 1) := by decide +kernel
theorem dX6_slot_39 : decode cX6_slot 39 = .ok (.aload_n 0, 1) := by decide +kernel
theorem dX6_slot_40 : decode cX6_slot 40 = .ok (.getfield 7, 3) := by decide +kernel
theorem dX6_slot_43 : decode cX6_slot 43 = .ok (.iconst 3, 1) := by decide +kernel
theorem dX6_slot_44 : decode cX6_slot 44 = .ok (.iaload, 1) := by decide +kernel
theorem dX6_slot_45 : decode cX6_slot 45 = .ok (.iconst 1, 1) := by decide +kernel
theorem dX6_slot_46 : decode cX6_slot 46 = .ok (.if_icmp .ne 16, 3) := by decide +kernel
theorem dX6_slot_49 : decode cX6_slot 49 = .ok (.iload_n 2, 1) := by decide +kernel
theorem dX6_slot_50 : decode cX6_slot 50 = .ok (.ifCond .lt 12, 3) := by decide +kernel
theorem dX6_slot_53 : decode cX6_slot 53 = .ok (.aload_n 0, 1) := by decide +kernel
theorem dX6_slot_54 : decode cX6_slot 54 = .ok (.iload_n 1, 1) := by decide +kernel
theorem dX6_slot_55 : decode cX6_slot 55 = .ok (.iload_n 2, 1) := by decide +kernel
theorem dX6_slot_56 : decode cX6_slot 56 = .ok (.invokevirtual 79, 3) := by decide +kernel
theorem dX6_slot_59 : decode cX6_slot 59 = .ok (.goto 4, 3) := by decide +kernel
theorem dX6_slot_62 : decode cX6_slot 62 = .ok (.iconst (-1), 1) := by decide +kernel
theorem dX6_slot_63 : decode cX6_slot 63 = .ok (.istore 4, 2) := by decide +kernel
theorem dX6_slot_65 : decode cX6_slot 65 = .ok (.aload_n 0, 1) := by decide +kernel
theorem dX6_slot_66 : decode cX6_slot 66 = .ok (.iload 4, 2) := by decide +kernel
theorem dX6_slot_68 : decode cX6_slot 68 = .ok (.iconst (-1), 1) := by decide +kernel
theorem dX6_slot_69 : decode cX6_slot 69 = .ok (.if_icmp .ne 7, 3) := by decide +kernel
theorem dX6_slot_72 : decode cX6_slot 72 = .ok (.iconst 3, 1) := by decide +kernel
theorem dX6_slot_73 : decode cX6_slot 73 = .ok (.goto 4, 3) := by decide +kernel
theorem dX6_slot_76 : decode cX6_slot 76 = .ok (.iconst 0, 1) := by decide +kernel
theorem dX6_slot_77 : decode cX6_slot 77 = .ok (.putfield 19, 3) := by decide +kernel
theorem dX6_slot_80 : decode cX6_slot 80 = .ok (.aload_n 0, 1) := by decide +kernel
theorem dX6_slot_81 : decode cX6_slot 81 = .ok (.getfield 19, 3) := by decide +kernel
theorem dX6_slot_84 : decode cX6_slot 84 = .ok (.ifCond .eq 7, 3) := by decide +kernel
theorem dX6_slot_87 : decode cX6_slot 87 = .ok (.iconst 0, 1) := by decide +kernel
theorem dX6_slot_88 : decode cX6_slot 88 = .ok (.goto 20, 3) := by decide +kernel
theorem dX6_slot_91 : decode cX6_slot 91 = .ok (.iload_n 3, 1) := by decide +kernel
theorem dX6_slot_92 : decode cX6_slot 92 = .ok (.ifCond .ne 11, 3) := by decide +kernel
theorem dX6_slot_95 : decode cX6_slot 95 = .ok (.iload 4, 2) := by decide +kernel
theorem dX6_slot_97 : decode cX6_slot 97 = .ok (.bipush 16, 2) := by decide +kernel
theorem dX6_slot_99 : decode cX6_slot 99 = .ok (.idiv, 1) := by decide +kernel
theorem dX6_slot_100 : decode cX6_slot 100 = .ok (.goto 8, 3) := by decide +kernel
theorem dX6_slot_103 : decode cX6_slot 103 = .ok (.iload 4, 2) := by decide +kernel
theorem dX6_slot_105 : decode cX6_slot 105 = .ok (.bipush 16, 2) := by decide +kernel
theorem dX6_slot_107 : decode cX6_slot 107 = .ok (.irem, 1) := by decide +kernel
theorem dX6_slot_108 : decode cX6_slot 108 = .ok (.ireturn, 1) := by decide +kernel
theorem dX6_ownerOf_0 : decode cX6_ownerOf 0 = .ok (.aload_n 0, 1) := by decide +kernel
theorem dX6_ownerOf_1 : decode cX6_ownerOf 1 = .ok (.iload_n 1, 1) := by decide +kernel
theorem dX6_ownerOf_2 : decode cX6_ownerOf 2 = .ok (.iconst 0, 1) := by decide +kernel
theorem dX6_ownerOf_3 : decode cX6_ownerOf 3 = .ok (.aload_n 0, 1) := by decide +kernel
theorem dX6_ownerOf_4 : decode cX6_ownerOf 4 = .ok (.getfield 7, 3) := by decide +kernel
theorem dX6_ownerOf_7 : decode cX6_ownerOf 7 = .ok (.iconst 1, 1) := by decide +kernel
theorem dX6_ownerOf_8 : decode cX6_ownerOf 8 = .ok (.iaload, 1) := by decide +kernel
theorem dX6_ownerOf_9 : decode cX6_ownerOf 9 = .ok (.iconst 1, 1) := by decide +kernel
theorem dX6_ownerOf_10 : decode cX6_ownerOf 10 = .ok (.isub, 1) := by decide +kernel
theorem dX6_ownerOf_11 : decode cX6_ownerOf 11 = .ok (.invokestatic 26, 3) := by decide +kernel
theorem dX6_ownerOf_14 : decode cX6_ownerOf 14 = .ok (.ifCond .eq 19, 3) := by decide +kernel
theorem dX6_ownerOf_17 : decode cX6_ownerOf 17 = .ok (.iload_n 2, 1) := by decide +kernel
theorem dX6_ownerOf_18 : decode cX6_ownerOf 18 = .ok (.iconst 0, 1) := by decide +kernel
theorem dX6_ownerOf_19 : decode cX6_ownerOf 19 = .ok (.aload_n 0, 1) := by decide +kernel
theorem dX6_ownerOf_20 : decode cX6_ownerOf 20 = .ok (.getfield 7, 3) := by decide +kernel
theorem dX6_ownerOf_23 : decode cX6_ownerOf 23 = .ok (.iconst 0, 1) := by decide +kernel
theorem dX6_ownerOf_24 : decode cX6_ownerOf 24 = .ok (.iaload, 1) := by decide +kernel
theorem dX6_ownerOf_25 : decode cX6_ownerOf 25 = .ok (.iconst 1, 1) := by decide +kernel
theorem dX6_ownerOf_26 : decode cX6_ownerOf 26 = .ok (.isub, 1) := by decide +kernel
theorem dX6_ownerOf_27 : decode cX6_ownerOf 27 = .ok (.invokestatic 26, 3) := by decide +kernel
theorem dX6_ownerOf_30 : decode cX6_ownerOf 30 = .ok (.ifCond .ne 7, 3) := by decide +kernel
theorem dX6_ownerOf_33 : decode cX6_ownerOf 33 = .ok (.iconst 1, 1) := by decide +kernel
theorem dX6_ownerOf_34 : decode cX6_ownerOf 34 = .ok (.goto 17, 3) := by decide +kernel
theorem dX6_ownerOf_37 : decode cX6_ownerOf 37 = .ok (.aload_n 0, 1) := by decide +kernel
theorem dX6_ownerOf_38 : decode cX6_ownerOf 38 = .ok (.getfield 7, 3) := by decide +kernel
theorem dX6_ownerOf_41 : decode cX6_ownerOf 41 = .ok (.iconst 3, 1) := by decide +kernel
theorem dX6_ownerOf_42 : decode cX6_ownerOf 42 = .ok (.iaload, 1) := by decide +kernel
theorem dX6_ownerOf_43 : decode cX6_ownerOf 43 = .ok (.ifCond .ne 7, 3) := by decide +kernel
theorem dX6_ownerOf_46 : decode cX6_ownerOf 46 = .ok (.iconst 2, 1) := by decide +kernel
theorem dX6_ownerOf_47 : decode cX6_ownerOf 47 = .ok (.goto 4, 3) := by decide +kernel
theorem dX6_ownerOf_50 : decode cX6_ownerOf 50 = .ok (.iconst 0, 1) := by decide +kernel
theorem dX6_ownerOf_51 : decode cX6_ownerOf 51 = .ok (.putfield 19, 3) := by decide +kernel
theorem dX6_ownerOf_54 : decode cX6_ownerOf 54 = .ok (.aload_n 0, 1) := by decide +kernel
theorem dX6_ownerOf_55 : decode cX6_ownerOf 55 = .ok (.getfield 19, 3) := by decide +kernel
theorem dX6_ownerOf_58 : decode cX6_ownerOf 58 = .ok (.ifCond .eq 7, 3) := by decide +kernel
theorem dX6_ownerOf_61 : decode cX6_ownerOf 61 = .ok (.iconst 0, 1) := by decide +kernel
theorem dX6_ownerOf_62 : decode cX6_ownerOf 62 = .ok (.goto 9, 3) := by decide +kernel
theorem dX6_ownerOf_65 : decode cX6_ownerOf 65 = .ok (.aload_n 0, 1) := by decide +kernel
theorem dX6_ownerOf_66 : decode cX6_ownerOf 66 = .ok (.iload_n 1, 1) := by decide +kernel
theorem dX6_ownerOf_67 : decode cX6_ownerOf 67 = .ok (.iload_n 2, 1) := by decide +kernel
theorem dX6_ownerOf_68 : decode cX6_ownerOf 68 = .ok (.invokevirtual 82, 3) := by decide +kernel
theorem dX6_ownerOf_71 : decode cX6_ownerOf 71 = .ok (.ireturn, 1) := by decide +kernel
theorem dX6_efficiency_0 : decode cX6_efficiency 0 = .ok (.aload_n 0, 1) := by decide +kernel
theorem dX6_efficiency_1 : decode cX6_efficiency 1 = .ok (.aload_n 0, 1) := by decide +kernel
theorem dX6_efficiency_2 : decode cX6_efficiency 2 = .ok (.getfield 7, 3) := by decide +kernel
theorem dX6_efficiency_5 : decode cX6_efficiency 5 = .ok (.iconst 3, 1) := by decide +kernel
theorem dX6_efficiency_6 : decode cX6_efficiency 6 = .ok (.iaload, 1) := by decide +kernel
theorem dX6_efficiency_7 : decode cX6_efficiency 7 = .ok (.ifCond .ne 7, 3) := by decide +kernel
theorem dX6_efficiency_10 : decode cX6_efficiency 10 = .ok (.iconst 1, 1) := by decide +kernel
theorem dX6_efficiency_11 : decode cX6_efficiency 11 = .ok (.goto 4, 3) := by decide +kernel
theorem dX6_efficiency_14 : decode cX6_efficiency 14 = .ok (.iconst 0, 1) := by decide +kernel
theorem dX6_efficiency_15 : decode cX6_efficiency 15 = .ok (.putfield 19, 3) := by decide +kernel
theorem dX6_efficiency_18 : decode cX6_efficiency 18 = .ok (.aload_n 0, 1) := by decide +kernel
theorem dX6_efficiency_19 : decode cX6_efficiency 19 = .ok (.getfield 19, 3) := by decide +kernel
theorem dX6_efficiency_22 : decode cX6_efficiency 22 = .ok (.ifCond .eq 7, 3) := by decide +kernel
theorem dX6_efficiency_25 : decode cX6_efficiency 25 = .ok (.dconst 0, 1) := by decide +kernel
theorem dX6_efficiency_26 : decode cX6_efficiency 26 = .ok (.goto 23, 3) := by decide +kernel
theorem dX6_efficiency_29 : decode cX6_efficiency 29 = .ok (.aload_n 0, 1) := by decide +kernel
theorem dX6_efficiency_30 : decode cX6_efficiency 30 = .ok (.invokevirtual 72, 3) := by decide +kernel
theorem dX6_efficiency_33 : decode cX6_efficiency 33 = .ok (.i2d, 1) := by decide +kernel
theorem dX6_efficiency_34 : decode cX6_efficiency 34 = .ok (.aload_n 0, 1) := by decide +kernel
theorem dX6_efficiency_35 : decode cX6_efficiency 35 = .ok (.getfield 7, 3) := by decide +kernel
theorem dX6_efficiency_38 : decode cX6_efficiency 38 = .ok (.iconst 0, 1) := by decide +kernel
theorem dX6_efficiency_39 : decode cX6_efficiency 39 = .ok (.iaload, 1) := by decide +kernel
theorem dX6_efficiency_40 : decode cX6_efficiency 40 = .ok (.aload_n 0, 1) := by decide +kernel
theorem dX6_efficiency_41 : decode cX6_efficiency 41 = .ok (.getfield 7, 3) := by decide +kernel
theorem dX6_efficiency_44 : decode cX6_efficiency 44 = .ok (.iconst 1, 1) := by decide +kernel
theorem dX6_efficiency_45 : decode cX6_efficiency 45 = .ok (.iaload, 1) := by decide +kernel
theorem dX6_efficiency_46 : decode cX6_efficiency 46 = .ok (.imul, 1) := by decide +kernel
theorem dX6_efficiency_47 : decode cX6_efficiency 47 = .ok (.i2d, 1) := by decide +kernel
theorem dX6_efficiency_48 : decode cX6_efficiency 48 = .ok (.ddiv, 1) := by decide +kernel
theorem dX6_efficiency_49 : decode cX6_efficiency 49 = .ok (.dreturn, 1) := by decide +kernel
theorem dX6_setValue_0 : decode cX6_setValue 0 = .ok (.aload_n 0, 1) := by decide +kernel
theorem dX6_setValue_1 : decode cX6_setValue 1 = .ok (.aload_n 0, 1) := by decide +kernel
theorem dX6_setValue_2 : decode cX6_setValue 2 = .ok (.iload_n 1, 1) := by decide +kernel
theorem dX6_setValue_3 : decode cX6_setValue 3 = .ok (.invokevirtual 75, 3) := by decide +kernel
theorem dX6_setValue_6 : decode cX6_setValue 6 = .ok (.ifCond .ne 7, 3) := by decide +kernel
theorem dX6_setValue_9 : decode cX6_setValue 9 = .ok (.iconst 1, 1) := by decide +kernel
theorem dX6_setValue_10 : decode cX6_setValue 10 = .ok (.goto 19, 3) := by decide +kernel
theorem dX6_setValue_13 : decode cX6_setValue 13 = .ok (.iload_n 2, 1) := by decide +kernel
theorem dX6_setValue_14 : decode cX6_setValue 14 = .ok (.iconst 0, 1) := by decide +kernel
theorem dX6_setValue_15 : decode cX6_setValue 15 = .ok (.sipush 255, 3) := by decide +kernel
theorem dX6_setValue_18 : decode cX6_setValue 18 = .ok (.invokestatic 26, 3) := by decide +kernel
theorem dX6_setValue_21 : decode cX6_setValue 21 = .ok (.ifCond .ne 7, 3) := by decide +kernel
theorem dX6_setValue_24 : decode cX6_setValue 24 = .ok (.iconst 2, 1) := by decide +kernel
theorem dX6_setValue_25 : decode cX6_setValue 25 = .ok (.goto 4, 3) := by decide +kernel
theorem dX6_setValue_28 : decode cX6_setValue 28 = .ok (.iconst 0, 1) := by decide +kernel
theorem dX6_setValue_29 : decode cX6_setValue 29 = .ok (.putfield 19, 3) := by decide +kernel
theorem dX6_setValue_32 : decode cX6_setValue 32 = .ok (.aload_n 0, 1) := by decide +kernel
theorem dX6_setValue_33 : decode cX6_setValue 33 = .ok (.getfield 19, 3) := by decide +kernel
theorem dX6_setValue_36 : decode cX6_setValue 36 = .ok (.ifCond .eq 5, 3) := by decide +kernel
theorem dX6_setValue_39 : decode cX6_setValue 39 = .ok (.iconst 0, 1) := by decide +kernel
theorem dX6_setValue_40 : decode cX6_setValue 40 = .ok (.ireturn, 1) := by decide +kernel
theorem dX6_setValue_41 : decode cX6_setValue 41 = .ok (.aload_n 0, 1) := by decide +kernel
theorem dX6_setValue_42 : decode cX6_setValue 42 = .ok (.invokevirtual 33, 3) := by decide +kernel
theorem dX6_setValue_45 : decode cX6_setValue 45 = .ok (.aload_n 0, 1) := by decide +kernel
theorem dX6_setValue_46 : decode cX6_setValue 46 = .ok (.iload_n 1, 1) := by decide +kernel
theorem dX6_setValue_47 : decode cX6_setValue 47 = .ok (.iconst 1, 1) := by decide +kernel
theorem dX6_setValue_48 : decode cX6_setValue 48 = .ok (.invokevirtual 43, 3) := by decide +kernel
theorem dX6_setValue_51 : decode cX6_setValue 51 = .ok (.istore_n 3, 1) := by decide +kernel
theorem dX6_setValue_52 : decode cX6_setValue 52 = .ok (.aload_n 0, 1) := by decide +kernel
theorem dX6_setValue_53 : decode cX6_setValue 53 = .ok (.iload_n 1, 1) := by decide +kernel
theorem dX6_setValue_54 : decode cX6_setValue 54 = .ok (.iconst 1, 1) := by decide +kernel
theorem dX6_setValue_55 : decode cX6_setValue 55 = .ok (.iload_n 2, 1) := by decide +kernel
theorem dX6_setValue_56 : decode cX6_setValue 56 = .ok (.invokevirtual 39, 3) := by decide +kernel
theorem dX6_setValue_59 : decode cX6_setValue 59 = .ok (.iload_n 3, 1) := by decide +kernel
theorem dX6_setValue_60 : decode cX6_setValue 60 = .ok (.ireturn, 1) := by decide +kernel
theorem dX6_wordOf_0 : decode cX6_wordOf 0 = .ok (.iload_n 2, 1) := by decide +kernel
theorem dX6_wordOf_1 : decode cX6_wordOf 1 = .ok (.tableswitch 37 0 2 #[27, 31, 35], 27) := by decide +kernel
theorem dX6_wordOf_28 : decode cX6_wordOf 28 = .ok (.sipush 235, 3) := by decide +kernel
theorem dX6_wordOf_31 : decode cX6_wordOf 31 = .ok (.ireturn, 1) := by decide +kernel
theorem dX6_wordOf_32 : decode cX6_wordOf 32 = .ok (.sipush 144, 3) := by decide +kernel
theorem dX6_wordOf_35 : decode cX6_wordOf 35 = .ok (.ireturn, 1) := by decide +kernel
theorem dX6_wordOf_36 : decode cX6_wordOf 36 = .ok (.iload_n 1, 1) := by decide +kernel
theorem dX6_wordOf_37 : decode cX6_wordOf 37 = .ok (.ireturn, 1) := by decide +kernel
theorem dX6_wordOf_38 : decode cX6_wordOf 38 = .ok (.aload_n 0, 1) := by decide +kernel
theorem dX6_wordOf_39 : decode cX6_wordOf 39 = .ok (.iload_n 1, 1) := by decide +kernel
theorem dX6_wordOf_40 : decode cX6_wordOf 40 = .ok (.iload_n 2, 1) := by decide +kernel
theorem dX6_wordOf_41 : decode cX6_wordOf 41 = .ok (.invokevirtual 82, 3) := by decide +kernel
theorem dX6_wordOf_44 : decode cX6_wordOf 44 = .ok (.istore_n 3, 1) := by decide +kernel
theorem dX6_wordOf_45 : decode cX6_wordOf 45 = .ok (.iload_n 3, 1) := by decide +kernel
theorem dX6_wordOf_46 : decode cX6_wordOf 46 = .ok (.iconst (-1), 1) := by decide +kernel
theorem dX6_wordOf_47 : decode cX6_wordOf 47 = .ok (.if_icmp .ne 8, 3) := by decide +kernel
theorem dX6_wordOf_50 : decode cX6_wordOf 50 = .ok (.bipush 85, 2) := by decide +kernel
theorem dX6_wordOf_52 : decode cX6_wordOf 52 = .ok (.goto 9, 3) := by decide +kernel
theorem dX6_wordOf_55 : decode cX6_wordOf 55 = .ok (.aload_n 0, 1) := by decide +kernel
theorem dX6_wordOf_56 : decode cX6_wordOf 56 = .ok (.iload_n 3, 1) := by decide +kernel
theorem dX6_wordOf_57 : decode cX6_wordOf 57 = .ok (.iconst 1, 1) := by decide +kernel
theorem dX6_wordOf_58 : decode cX6_wordOf 58 = .ok (.invokevirtual 43, 3) := by decide +kernel
theorem dX6_wordOf_61 : decode cX6_wordOf 61 = .ok (.ireturn, 1) := by decide +kernel
theorem dX6_sends_0 : decode cX6_sends 0 = .ok (.iconst 0, 1) := by decide +kernel
theorem dX6_sends_1 : decode cX6_sends 1 = .ok (.istore_n 1, 1) := by decide +kernel
theorem dX6_sends_2 : decode cX6_sends 2 = .ok (.iload_n 1, 1) := by decide +kernel
theorem dX6_sends_3 : decode cX6_sends 3 = .ok (.aload_n 0, 1) := by decide +kernel
theorem dX6_sends_4 : decode cX6_sends 4 = .ok (.getfield 7, 3) := by decide +kernel
theorem dX6_sends_7 : decode cX6_sends 7 = .ok (.iconst 0, 1) := by decide +kernel
theorem dX6_sends_8 : decode cX6_sends 8 = .ok (.iaload, 1) := by decide +kernel
theorem dX6_sends_9 : decode cX6_sends 9 = .ok (.if_icmp .ge 64, 3) := by decide +kernel
theorem dX6_sends_12 : decode cX6_sends 12 = .ok (.aload_n 0, 1) := by decide +kernel
theorem dX6_sends_13 : decode cX6_sends 13 = .ok (.aload_n 0, 1) := by decide +kernel
theorem dX6_sends_14 : decode cX6_sends 14 = .ok (.getfield 7, 3) := by decide +kernel
theorem dX6_sends_17 : decode cX6_sends 17 = .ok (.iconst 4, 1) := by decide +kernel
theorem dX6_sends_18 : decode cX6_sends 18 = .ok (.iaload, 1) := by decide +kernel
theorem dX6_sends_19 : decode cX6_sends 19 = .ok (.iload_n 1, 1) := by decide +kernel
theorem dX6_sends_20 : decode cX6_sends 20 = .ok (.invokevirtual 85, 3) := by decide +kernel
theorem dX6_sends_23 : decode cX6_sends 23 = .ok (.istore_n 2, 1) := by decide +kernel
theorem dX6_sends_24 : decode cX6_sends 24 = .ok (.bipush 7, 2) := by decide +kernel
theorem dX6_sends_26 : decode cX6_sends 26 = .ok (.istore_n 3, 1) := by decide +kernel
theorem dX6_sends_27 : decode cX6_sends 27 = .ok (.iload_n 3, 1) := by decide +kernel
theorem dX6_sends_28 : decode cX6_sends 28 = .ok (.ifCond .lt 39, 3) := by decide +kernel
theorem dX6_sends_31 : decode cX6_sends 31 = .ok (.aload_n 0, 1) := by decide +kernel
theorem dX6_sends_32 : decode cX6_sends 32 = .ok (.getfield 7, 3) := by decide +kernel
theorem dX6_sends_35 : decode cX6_sends 35 = .ok (.sipush 329, 3) := by decide +kernel
theorem dX6_sends_38 : decode cX6_sends 38 = .ok (.aload_n 0, 1) := by decide +kernel
theorem dX6_sends_39 : decode cX6_sends 39 = .ok (.getfield 7, 3) := by decide +kernel
theorem dX6_sends_42 : decode cX6_sends 42 = .ok (.iconst 5, 1) := by decide +kernel
theorem dX6_sends_43 : decode cX6_sends 43 = .ok (.iaload, 1) := by decide +kernel
theorem dX6_sends_44 : decode cX6_sends 44 = .ok (.iadd, 1) := by decide +kernel
theorem dX6_sends_45 : decode cX6_sends 45 = .ok (.iload_n 2, 1) := by decide +kernel
theorem dX6_sends_46 : decode cX6_sends 46 = .ok (.iload_n 3, 1) := by decide +kernel
theorem dX6_sends_47 : decode cX6_sends 47 = .ok (.ishr, 1) := by decide +kernel
theorem dX6_sends_48 : decode cX6_sends 48 = .ok (.iconst 1, 1) := by decide +kernel
theorem dX6_sends_49 : decode cX6_sends 49 = .ok (.iand, 1) := by decide +kernel
theorem dX6_sends_50 : decode cX6_sends 50 = .ok (.iastore, 1) := by decide +kernel
theorem dX6_sends_51 : decode cX6_sends 51 = .ok (.aload_n 0, 1) := by decide +kernel
theorem dX6_sends_52 : decode cX6_sends 52 = .ok (.getfield 7, 3) := by decide +kernel
theorem dX6_sends_55 : decode cX6_sends 55 = .ok (.iconst 5, 1) := by decide +kernel
theorem dX6_sends_56 : decode cX6_sends 56 = .ok (.dup2, 1) := by decide +kernel
theorem dX6_sends_57 : decode cX6_sends 57 = .ok (.iaload, 1) := by decide +kernel
theorem dX6_sends_58 : decode cX6_sends 58 = .ok (.iconst 1, 1) := by decide +kernel
theorem dX6_sends_59 : decode cX6_sends 59 = .ok (.iadd, 1) := by decide +kernel
theorem dX6_sends_60 : decode cX6_sends 60 = .ok (.iastore, 1) := by decide +kernel
theorem dX6_sends_61 : decode cX6_sends 61 = .ok (.iinc 3 (-1), 3) := by decide +kernel
theorem dX6_sends_64 : decode cX6_sends 64 = .ok (.goto (-37), 3) := by decide +kernel
theorem dX6_sends_67 : decode cX6_sends 67 = .ok (.iinc 1 1, 3) := by decide +kernel
theorem dX6_sends_70 : decode cX6_sends 70 = .ok (.goto (-68), 3) := by decide +kernel
theorem dX6_sends_73 : decode cX6_sends 73 = .ok (.aload_n 0, 1) := by decide +kernel
theorem dX6_sends_74 : decode cX6_sends 74 = .ok (.getfield 7, 3) := by decide +kernel
theorem dX6_sends_77 : decode cX6_sends 77 = .ok (.iconst 4, 1) := by decide +kernel
theorem dX6_sends_78 : decode cX6_sends 78 = .ok (.aload_n 0, 1) := by decide +kernel
theorem dX6_sends_79 : decode cX6_sends 79 = .ok (.getfield 7, 3) := by decide +kernel
theorem dX6_sends_82 : decode cX6_sends 82 = .ok (.iconst 4, 1) := by decide +kernel
theorem dX6_sends_83 : decode cX6_sends 83 = .ok (.iaload, 1) := by decide +kernel
theorem dX6_sends_84 : decode cX6_sends 84 = .ok (.iconst 1, 1) := by decide +kernel
theorem dX6_sends_85 : decode cX6_sends 85 = .ok (.iadd, 1) := by decide +kernel
theorem dX6_sends_86 : decode cX6_sends 86 = .ok (.aload_n 0, 1) := by decide +kernel
theorem dX6_sends_87 : decode cX6_sends 87 = .ok (.getfield 7, 3) := by decide +kernel
theorem dX6_sends_90 : decode cX6_sends 90 = .ok (.iconst 1, 1) := by decide +kernel
theorem dX6_sends_91 : decode cX6_sends 91 = .ok (.iaload, 1) := by decide +kernel
theorem dX6_sends_92 : decode cX6_sends 92 = .ok (.irem, 1) := by decide +kernel
theorem dX6_sends_93 : decode cX6_sends 93 = .ok (.iastore, 1) := by decide +kernel
theorem dX6_sends_94 : decode cX6_sends 94 = .ok (.return_, 1) := by decide +kernel
theorem dX6_send_0 : decode cX6_send 0 = .ok (.aload_n 0, 1) := by decide +kernel
theorem dX6_send_1 : decode cX6_send 1 = .ok (.iload_n 1, 1) := by decide +kernel
theorem dX6_send_2 : decode cX6_send 2 = .ok (.iconst 1, 1) := by decide +kernel
theorem dX6_send_3 : decode cX6_send 3 = .ok (.bipush 16, 2) := by decide +kernel
theorem dX6_send_5 : decode cX6_send 5 = .ok (.invokestatic 26, 3) := by decide +kernel
theorem dX6_send_8 : decode cX6_send 8 = .ok (.ifCond .ne 7, 3) := by decide +kernel
theorem dX6_send_11 : decode cX6_send 11 = .ok (.iconst 1, 1) := by decide +kernel
theorem dX6_send_12 : decode cX6_send 12 = .ok (.goto 41, 3) := by decide +kernel
theorem dX6_send_15 : decode cX6_send 15 = .ok (.aload_n 0, 1) := by decide +kernel
theorem dX6_send_16 : decode cX6_send 16 = .ok (.getfield 7, 3) := by decide +kernel
theorem dX6_send_19 : decode cX6_send 19 = .ok (.iconst 3, 1) := by decide +kernel
theorem dX6_send_20 : decode cX6_send 20 = .ok (.iaload, 1) := by decide +kernel
theorem dX6_send_21 : decode cX6_send 21 = .ok (.ifCond .eq 27, 3) := by decide +kernel
theorem dX6_send_24 : decode cX6_send 24 = .ok (.aload_n 0, 1) := by decide +kernel
theorem dX6_send_25 : decode cX6_send 25 = .ok (.getfield 7, 3) := by decide +kernel
theorem dX6_send_28 : decode cX6_send 28 = .ok (.iconst 5, 1) := by decide +kernel
theorem dX6_send_29 : decode cX6_send 29 = .ok (.iaload, 1) := by decide +kernel
theorem dX6_send_30 : decode cX6_send 30 = .ok (.bipush 8, 2) := by decide +kernel
theorem dX6_send_32 : decode cX6_send 32 = .ok (.iload_n 1, 1) := by decide +kernel
theorem dX6_send_33 : decode cX6_send 33 = .ok (.imul, 1) := by decide +kernel
theorem dX6_send_34 : decode cX6_send 34 = .ok (.aload_n 0, 1) := by decide +kernel
theorem dX6_send_35 : decode cX6_send 35 = .ok (.getfield 7, 3) := by decide +kernel
theorem dX6_send_38 : decode cX6_send 38 = .ok (.iconst 0, 1) := by decide +kernel
theorem dX6_send_39 : decode cX6_send 39 = .ok (.iaload, 1) := by decide +kernel
theorem dX6_send_40 : decode cX6_send 40 = .ok (.imul, 1) := by decide +kernel
theorem dX6_send_41 : decode cX6_send 41 = .ok (.iadd, 1) := by decide +kernel
theorem dX6_send_42 : decode cX6_send 42 = .ok (.sipush 2048, 3) := by decide +kernel
theorem dX6_send_45 : decode cX6_send 45 = .ok (.if_icmp .le 7, 3) := by decide +kernel
theorem dX6_send_48 : decode cX6_send 48 = .ok (.iconst 2, 1) := by decide +kernel
theorem dX6_send_49 : decode cX6_send 49 = .ok (.goto 4, 3) := by decide +kernel
theorem dX6_send_52 : decode cX6_send 52 = .ok (.iconst 0, 1) := by decide +kernel
theorem dX6_send_53 : decode cX6_send 53 = .ok (.putfield 19, 3) := by decide +kernel
theorem dX6_send_56 : decode cX6_send 56 = .ok (.aload_n 0, 1) := by decide +kernel
theorem dX6_send_57 : decode cX6_send 57 = .ok (.getfield 19, 3) := by decide +kernel
theorem dX6_send_60 : decode cX6_send 60 = .ok (.ifCond .eq 5, 3) := by decide +kernel
theorem dX6_send_63 : decode cX6_send 63 = .ok (.iconst 0, 1) := by decide +kernel
theorem dX6_send_64 : decode cX6_send 64 = .ok (.ireturn, 1) := by decide +kernel
theorem dX6_send_65 : decode cX6_send 65 = .ok (.aload_n 0, 1) := by decide +kernel
theorem dX6_send_66 : decode cX6_send 66 = .ok (.invokevirtual 33, 3) := by decide +kernel
theorem dX6_send_69 : decode cX6_send 69 = .ok (.iconst 0, 1) := by decide +kernel
theorem dX6_send_70 : decode cX6_send 70 = .ok (.istore_n 2, 1) := by decide +kernel
theorem dX6_send_71 : decode cX6_send 71 = .ok (.iload_n 2, 1) := by decide +kernel
theorem dX6_send_72 : decode cX6_send 72 = .ok (.iload_n 1, 1) := by decide +kernel
theorem dX6_send_73 : decode cX6_send 73 = .ok (.if_icmp .ge 13, 3) := by decide +kernel
theorem dX6_send_76 : decode cX6_send 76 = .ok (.aload_n 0, 1) := by decide +kernel
theorem dX6_send_77 : decode cX6_send 77 = .ok (.invokevirtual 88, 3) := by decide +kernel
theorem dX6_send_80 : decode cX6_send 80 = .ok (.iinc 2 1, 3) := by decide +kernel
theorem dX6_send_83 : decode cX6_send 83 = .ok (.goto (-12), 3) := by decide +kernel
theorem dX6_send_86 : decode cX6_send 86 = .ok (.aload_n 0, 1) := by decide +kernel
theorem dX6_send_87 : decode cX6_send 87 = .ok (.getfield 7, 3) := by decide +kernel
theorem dX6_send_90 : decode cX6_send 90 = .ok (.iconst 5, 1) := by decide +kernel
theorem dX6_send_91 : decode cX6_send 91 = .ok (.iaload, 1) := by decide +kernel
theorem dX6_send_92 : decode cX6_send 92 = .ok (.ireturn, 1) := by decide +kernel
theorem dX6_pending_0 : decode cX6_pending 0 = .ok (.aload_n 0, 1) := by decide +kernel
theorem dX6_pending_1 : decode cX6_pending 1 = .ok (.iconst 0, 1) := by decide +kernel
theorem dX6_pending_2 : decode cX6_pending 2 = .ok (.putfield 19, 3) := by decide +kernel
theorem dX6_pending_5 : decode cX6_pending 5 = .ok (.aload_n 0, 1) := by decide +kernel
theorem dX6_pending_6 : decode cX6_pending 6 = .ok (.getfield 7, 3) := by decide +kernel
theorem dX6_pending_9 : decode cX6_pending 9 = .ok (.iconst 5, 1) := by decide +kernel
theorem dX6_pending_10 : decode cX6_pending 10 = .ok (.iaload, 1) := by decide +kernel
theorem dX6_pending_11 : decode cX6_pending 11 = .ok (.ireturn, 1) := by decide +kernel
theorem dX6_isBit_0 : decode cX6_isBit 0 = .ok (.iload_n 1, 1) := by decide +kernel
theorem dX6_isBit_1 : decode cX6_isBit 1 = .ok (.iconst 0, 1) := by decide +kernel
theorem dX6_isBit_2 : decode cX6_isBit 2 = .ok (.aload_n 0, 1) := by decide +kernel
theorem dX6_isBit_3 : decode cX6_isBit 3 = .ok (.getfield 7, 3) := by decide +kernel
theorem dX6_isBit_6 : decode cX6_isBit 6 = .ok (.iconst 5, 1) := by decide +kernel
theorem dX6_isBit_7 : decode cX6_isBit 7 = .ok (.iaload, 1) := by decide +kernel
theorem dX6_isBit_8 : decode cX6_isBit 8 = .ok (.iconst 1, 1) := by decide +kernel
theorem dX6_isBit_9 : decode cX6_isBit 9 = .ok (.isub, 1) := by decide +kernel
theorem dX6_isBit_10 : decode cX6_isBit 10 = .ok (.invokestatic 26, 3) := by decide +kernel
theorem dX6_isBit_13 : decode cX6_isBit 13 = .ok (.ireturn, 1) := by decide +kernel
theorem dX6_bit_0 : decode cX6_bit 0 = .ok (.aload_n 0, 1) := by decide +kernel
theorem dX6_bit_1 : decode cX6_bit 1 = .ok (.aload_n 0, 1) := by decide +kernel
theorem dX6_bit_2 : decode cX6_bit 2 = .ok (.iload_n 1, 1) := by decide +kernel
theorem dX6_bit_3 : decode cX6_bit 3 = .ok (.invokevirtual 91, 3) := by decide +kernel
theorem dX6_bit_6 : decode cX6_bit 6 = .ok (.ifCond .eq 7, 3) := by decide +kernel
theorem dX6_bit_9 : decode cX6_bit 9 = .ok (.iconst 0, 1) := by decide +kernel
theorem dX6_bit_10 : decode cX6_bit 10 = .ok (.goto 4, 3) := by decide +kernel
theorem dX6_bit_13 : decode cX6_bit 13 = .ok (.iconst 1, 1) := by decide +kernel
theorem dX6_bit_14 : decode cX6_bit 14 = .ok (.putfield 19, 3) := by decide +kernel
theorem dX6_bit_17 : decode cX6_bit 17 = .ok (.aload_n 0, 1) := by decide +kernel
theorem dX6_bit_18 : decode cX6_bit 18 = .ok (.getfield 19, 3) := by decide +kernel
theorem dX6_bit_21 : decode cX6_bit 21 = .ok (.ifCond .eq 7, 3) := by decide +kernel
theorem dX6_bit_24 : decode cX6_bit 24 = .ok (.iconst 0, 1) := by decide +kernel
theorem dX6_bit_25 : decode cX6_bit 25 = .ok (.goto 13, 3) := by decide +kernel
theorem dX6_bit_28 : decode cX6_bit 28 = .ok (.aload_n 0, 1) := by decide +kernel
theorem dX6_bit_29 : decode cX6_bit 29 = .ok (.getfield 7, 3) := by decide +kernel
theorem dX6_bit_32 : decode cX6_bit 32 = .ok (.sipush 329, 3) := by decide +kernel
theorem dX6_bit_35 : decode cX6_bit 35 = .ok (.iload_n 1, 1) := by decide +kernel
theorem dX6_bit_36 : decode cX6_bit 36 = .ok (.iadd, 1) := by decide +kernel
theorem dX6_bit_37 : decode cX6_bit 37 = .ok (.iaload, 1) := by decide +kernel
theorem dX6_bit_38 : decode cX6_bit 38 = .ok (.ireturn, 1) := by decide +kernel
theorem dX6_removes_0 : decode cX6_removes 0 = .ok (.aload_n 0, 1) := by decide +kernel
theorem dX6_removes_1 : decode cX6_removes 1 = .ok (.getfield 7, 3) := by decide +kernel
theorem dX6_removes_4 : decode cX6_removes 4 = .ok (.iconst 5, 1) := by decide +kernel
theorem dX6_removes_5 : decode cX6_removes 5 = .ok (.dup2, 1) := by decide +kernel
theorem dX6_removes_6 : decode cX6_removes 6 = .ok (.iaload, 1) := by decide +kernel
theorem dX6_removes_7 : decode cX6_removes 7 = .ok (.iconst 1, 1) := by decide +kernel
theorem dX6_removes_8 : decode cX6_removes 8 = .ok (.isub, 1) := by decide +kernel
theorem dX6_removes_9 : decode cX6_removes 9 = .ok (.iastore, 1) := by decide +kernel
theorem dX6_removes_10 : decode cX6_removes 10 = .ok (.iload_n 1, 1) := by decide +kernel
theorem dX6_removes_11 : decode cX6_removes 11 = .ok (.istore_n 2, 1) := by decide +kernel
theorem dX6_removes_12 : decode cX6_removes 12 = .ok (.iload_n 2, 1) := by decide +kernel
theorem dX6_removes_13 : decode cX6_removes 13 = .ok (.aload_n 0, 1) := by decide +kernel
theorem dX6_removes_14 : decode cX6_removes 14 = .ok (.getfield 7, 3) := by decide +kernel
theorem dX6_removes_17 : decode cX6_removes 17 = .ok (.iconst 5, 1) := by decide +kernel
theorem dX6_removes_18 : decode cX6_removes 18 = .ok (.iaload, 1) := by decide +kernel
theorem dX6_removes_19 : decode cX6_removes 19 = .ok (.if_icmp .ge 31, 3) := by decide +kernel
theorem dX6_removes_22 : decode cX6_removes 22 = .ok (.aload_n 0, 1) := by decide +kernel
theorem dX6_removes_23 : decode cX6_removes 23 = .ok (.getfield 7, 3) := by decide +kernel
theorem dX6_removes_26 : decode cX6_removes 26 = .ok (.sipush 329, 3) := by decide +kernel
theorem dX6_removes_29 : decode cX6_removes 29 = .ok (.iload_n 2, 1) := by decide +kernel
theorem dX6_removes_30 : decode cX6_removes 30 = .ok (.iadd, 1) := by decide +kernel
theorem dX6_removes_31 : decode cX6_removes 31 = .ok (.aload_n 0, 1) := by decide +kernel
theorem dX6_removes_32 : decode cX6_removes 32 = .ok (.getfield 7, 3) := by decide +kernel
theorem dX6_removes_35 : decode cX6_removes 35 = .ok (.sipush 329, 3) := by decide +kernel
theorem dX6_removes_38 : decode cX6_removes 38 = .ok (.iload_n 2, 1) := by decide +kernel
theorem dX6_removes_39 : decode cX6_removes 39 = .ok (.iadd, 1) := by decide +kernel
theorem dX6_removes_40 : decode cX6_removes 40 = .ok (.iconst 1, 1) := by decide +kernel
theorem dX6_removes_41 : decode cX6_removes 41 = .ok (.iadd, 1) := by decide +kernel
theorem dX6_removes_42 : decode cX6_removes 42 = .ok (.iaload, 1) := by decide +kernel
theorem dX6_removes_43 : decode cX6_removes 43 = .ok (.iastore, 1) := by decide +kernel
theorem dX6_removes_44 : decode cX6_removes 44 = .ok (.iinc 2 1, 3) := by decide +kernel
theorem dX6_removes_47 : decode cX6_removes 47 = .ok (.goto (-35), 3) := by decide +kernel
theorem dX6_removes_50 : decode cX6_removes 50 = .ok (.return_, 1) := by decide +kernel
theorem dX6_inserts_0 : decode cX6_inserts 0 = .ok (.aload_n 0, 1) := by decide +kernel
theorem dX6_inserts_1 : decode cX6_inserts 1 = .ok (.getfield 7, 3) := by decide +kernel
theorem dX6_inserts_4 : decode cX6_inserts 4 = .ok (.iconst 5, 1) := by decide +kernel
theorem dX6_inserts_5 : decode cX6_inserts 5 = .ok (.iaload, 1) := by decide +kernel
theorem dX6_inserts_6 : decode cX6_inserts 6 = .ok (.istore_n 3, 1) := by decide +kernel
theorem dX6_inserts_7 : decode cX6_inserts 7 = .ok (.iload_n 3, 1) := by decide +kernel
theorem dX6_inserts_8 : decode cX6_inserts 8 = .ok (.iload_n 1, 1) := by decide +kernel
theorem dX6_inserts_9 : decode cX6_inserts 9 = .ok (.if_icmp .le 31, 3) := by decide +kernel
theorem dX6_inserts_12 : decode cX6_inserts 12 = .ok (.aload_n 0, 1) := by decide +kernel
theorem dX6_inserts_13 : decode cX6_inserts 13 = .ok (.getfield 7, 3) := by decide +kernel
theorem dX6_inserts_16 : decode cX6_inserts 16 = .ok (.sipush 329, 3) := by decide +kernel
theorem dX6_inserts_19 : decode cX6_inserts 19 = .ok (.iload_n 3, 1) := by decide +kernel
theorem dX6_inserts_20 : decode cX6_inserts 20 = .ok (.iadd, 1) := by decide +kernel
theorem dX6_inserts_21 : decode cX6_inserts 21 = .ok (.aload_n 0, 1) := by decide +kernel
theorem dX6_inserts_22 : decode cX6_inserts 22 = .ok (.getfield 7, 3) := by decide +kernel
theorem dX6_inserts_25 : decode cX6_inserts 25 = .ok (.sipush 329, 3) := by decide +kernel
theorem dX6_inserts_28 : decode cX6_inserts 28 = .ok (.iload_n 3, 1) := by decide +kernel
theorem dX6_inserts_29 : decode cX6_inserts 29 = .ok (.iadd, 1) := by decide +kernel
theorem dX6_inserts_30 : decode cX6_inserts 30 = .ok (.iconst 1, 1) := by decide +kernel
theorem dX6_inserts_31 : decode cX6_inserts 31 = .ok (.isub, 1) := by decide +kernel
theorem dX6_inserts_32 : decode cX6_inserts 32 = .ok (.iaload, 1) := by decide +kernel
theorem dX6_inserts_33 : decode cX6_inserts 33 = .ok (.iastore, 1) := by decide +kernel
theorem dX6_inserts_34 : decode cX6_inserts 34 = .ok (.iinc 3 (-1), 3) := by decide +kernel
theorem dX6_inserts_37 : decode cX6_inserts 37 = .ok (.goto (-30), 3) := by decide +kernel
theorem dX6_inserts_40 : decode cX6_inserts 40 = .ok (.aload_n 0, 1) := by decide +kernel
theorem dX6_inserts_41 : decode cX6_inserts 41 = .ok (.getfield 7, 3) := by decide +kernel
theorem dX6_inserts_44 : decode cX6_inserts 44 = .ok (.sipush 329, 3) := by decide +kernel
theorem dX6_inserts_47 : decode cX6_inserts 47 = .ok (.iload_n 1, 1) := by decide +kernel
theorem dX6_inserts_48 : decode cX6_inserts 48 = .ok (.iadd, 1) := by decide +kernel
theorem dX6_inserts_49 : decode cX6_inserts 49 = .ok (.iload_n 2, 1) := by decide +kernel
theorem dX6_inserts_50 : decode cX6_inserts 50 = .ok (.iastore, 1) := by decide +kernel
theorem dX6_inserts_51 : decode cX6_inserts 51 = .ok (.aload_n 0, 1) := by decide +kernel
theorem dX6_inserts_52 : decode cX6_inserts 52 = .ok (.getfield 7, 3) := by decide +kernel
theorem dX6_inserts_55 : decode cX6_inserts 55 = .ok (.iconst 5, 1) := by decide +kernel
theorem dX6_inserts_56 : decode cX6_inserts 56 = .ok (.dup2, 1) := by decide +kernel
theorem dX6_inserts_57 : decode cX6_inserts 57 = .ok (.iaload, 1) := by decide +kernel
theorem dX6_inserts_58 : decode cX6_inserts 58 = .ok (.iconst 1, 1) := by decide +kernel
theorem dX6_inserts_59 : decode cX6_inserts 59 = .ok (.iadd, 1) := by decide +kernel
theorem dX6_inserts_60 : decode cX6_inserts 60 = .ok (.iastore, 1) := by decide +kernel
theorem dX6_inserts_61 : decode cX6_inserts 61 = .ok (.return_, 1) := by decide +kernel
theorem dX6_disturb_0 : decode cX6_disturb 0 = .ok (.aload_n 0, 1) := by decide +kernel
theorem dX6_disturb_1 : decode cX6_disturb 1 = .ok (.iload_n 1, 1) := by decide +kernel
theorem dX6_disturb_2 : decode cX6_disturb 2 = .ok (.iconst 0, 1) := by decide +kernel
theorem dX6_disturb_3 : decode cX6_disturb 3 = .ok (.iconst 3, 1) := by decide +kernel
theorem dX6_disturb_4 : decode cX6_disturb 4 = .ok (.invokestatic 26, 3) := by decide +kernel
theorem dX6_disturb_7 : decode cX6_disturb 7 = .ok (.ifCond .ne 7, 3) := by decide +kernel
theorem dX6_disturb_10 : decode cX6_disturb 10 = .ok (.iconst 1, 1) := by decide +kernel
theorem dX6_disturb_11 : decode cX6_disturb 11 = .ok (.goto 37, 3) := by decide +kernel
theorem dX6_disturb_14 : decode cX6_disturb 14 = .ok (.aload_n 0, 1) := by decide +kernel
theorem dX6_disturb_15 : decode cX6_disturb 15 = .ok (.iload_n 2, 1) := by decide +kernel
theorem dX6_disturb_16 : decode cX6_disturb 16 = .ok (.invokevirtual 91, 3) := by decide +kernel
theorem dX6_disturb_19 : decode cX6_disturb 19 = .ok (.ifCond .ne 7, 3) := by decide +kernel
theorem dX6_disturb_22 : decode cX6_disturb 22 = .ok (.iconst 2, 1) := by decide +kernel
theorem dX6_disturb_23 : decode cX6_disturb 23 = .ok (.goto 25, 3) := by decide +kernel
theorem dX6_disturb_26 : decode cX6_disturb 26 = .ok (.iload_n 1, 1) := by decide +kernel
theorem dX6_disturb_27 : decode cX6_disturb 27 = .ok (.iconst 1, 1) := by decide +kernel
theorem dX6_disturb_28 : decode cX6_disturb 28 = .ok (.if_icmp .le 19, 3) := by decide +kernel
theorem dX6_disturb_31 : decode cX6_disturb 31 = .ok (.aload_n 0, 1) := by decide +kernel
theorem dX6_disturb_32 : decode cX6_disturb 32 = .ok (.getfield 7, 3) := by decide +kernel
theorem dX6_disturb_35 : decode cX6_disturb 35 = .ok (.iconst 5, 1) := by decide +kernel
theorem dX6_disturb_36 : decode cX6_disturb 36 = .ok (.iaload, 1) := by decide +kernel
theorem dX6_disturb_37 : decode cX6_disturb 37 = .ok (.sipush 2048, 3) := by decide +kernel
theorem dX6_disturb_40 : decode cX6_disturb 40 = .ok (.if_icmp .ne 7, 3) := by decide +kernel
theorem dX6_disturb_43 : decode cX6_disturb 43 = .ok (.iconst 3, 1) := by decide +kernel
theorem dX6_disturb_44 : decode cX6_disturb 44 = .ok (.goto 4, 3) := by decide +kernel
theorem dX6_disturb_47 : decode cX6_disturb 47 = .ok (.iconst 0, 1) := by decide +kernel
theorem dX6_disturb_48 : decode cX6_disturb 48 = .ok (.putfield 19, 3) := by decide +kernel
theorem dX6_disturb_51 : decode cX6_disturb 51 = .ok (.aload_n 0, 1) := by decide +kernel
theorem dX6_disturb_52 : decode cX6_disturb 52 = .ok (.getfield 19, 3) := by decide +kernel
theorem dX6_disturb_55 : decode cX6_disturb 55 = .ok (.ifCond .eq 5, 3) := by decide +kernel
theorem dX6_disturb_58 : decode cX6_disturb 58 = .ok (.iconst 0, 1) := by decide +kernel
theorem dX6_disturb_59 : decode cX6_disturb 59 = .ok (.ireturn, 1) := by decide +kernel
theorem dX6_disturb_60 : decode cX6_disturb 60 = .ok (.aload_n 0, 1) := by decide +kernel
theorem dX6_disturb_61 : decode cX6_disturb 61 = .ok (.invokevirtual 33, 3) := by decide +kernel
theorem dX6_disturb_64 : decode cX6_disturb 64 = .ok (.iload_n 1, 1) := by decide +kernel
theorem dX6_disturb_65 : decode cX6_disturb 65 = .ok (.ifCond .ne 28, 3) := by decide +kernel
theorem dX6_disturb_68 : decode cX6_disturb 68 = .ok (.aload_n 0, 1) := by decide +kernel
theorem dX6_disturb_69 : decode cX6_disturb 69 = .ok (.getfield 7, 3) := by decide +kernel
theorem dX6_disturb_72 : decode cX6_disturb 72 = .ok (.sipush 329, 3) := by decide +kernel
theorem dX6_disturb_75 : decode cX6_disturb 75 = .ok (.iload_n 2, 1) := by decide +kernel
theorem dX6_disturb_76 : decode cX6_disturb 76 = .ok (.iadd, 1) := by decide +kernel
theorem dX6_disturb_77 : decode cX6_disturb 77 = .ok (.iconst 1, 1) := by decide +kernel
theorem dX6_disturb_78 : decode cX6_disturb 78 = .ok (.aload_n 0, 1) := by decide +kernel
theorem dX6_disturb_79 : decode cX6_disturb 79 = .ok (.getfield 7, 3) := by decide +kernel
theorem dX6_disturb_82 : decode cX6_disturb 82 = .ok (.sipush 329, 3) := by decide +kernel
theorem dX6_disturb_85 : decode cX6_disturb 85 = .ok (.iload_n 2, 1) := by decide +kernel
theorem dX6_disturb_86 : decode cX6_disturb 86 = .ok (.iadd, 1) := by decide +kernel
theorem dX6_disturb_87 : decode cX6_disturb 87 = .ok (.iaload, 1) := by decide +kernel
theorem dX6_disturb_88 : decode cX6_disturb 88 = .ok (.isub, 1) := by decide +kernel
theorem dX6_disturb_89 : decode cX6_disturb 89 = .ok (.iastore, 1) := by decide +kernel
theorem dX6_disturb_90 : decode cX6_disturb 90 = .ok (.goto 24, 3) := by decide +kernel
theorem dX6_disturb_93 : decode cX6_disturb 93 = .ok (.iload_n 1, 1) := by decide +kernel
theorem dX6_disturb_94 : decode cX6_disturb 94 = .ok (.iconst 1, 1) := by decide +kernel
theorem dX6_disturb_95 : decode cX6_disturb 95 = .ok (.if_icmp .ne 11, 3) := by decide +kernel
theorem dX6_disturb_98 : decode cX6_disturb 98 = .ok (.aload_n 0, 1) := by decide +kernel
theorem dX6_disturb_99 : decode cX6_disturb 99 = .ok (.iload_n 2, 1) := by decide +kernel
theorem dX6_disturb_100 : decode cX6_disturb 100 = .ok (.invokevirtual 94, 3) := by decide +kernel
theorem dX6_disturb_103 : decode cX6_disturb 103 = .ok (.goto 11, 3) := by decide +kernel
theorem dX6_disturb_106 : decode cX6_disturb 106 = .ok (.aload_n 0, 1) := by decide +kernel
theorem dX6_disturb_107 : decode cX6_disturb 107 = .ok (.iload_n 2, 1) := by decide +kernel
theorem dX6_disturb_108 : decode cX6_disturb 108 = .ok (.iload_n 1, 1) := by decide +kernel
theorem dX6_disturb_109 : decode cX6_disturb 109 = .ok (.iconst 2, 1) := by decide +kernel
theorem dX6_disturb_110 : decode cX6_disturb 110 = .ok (.isub, 1) := by decide +kernel
theorem dX6_disturb_111 : decode cX6_disturb 111 = .ok (.invokevirtual 98, 3) := by decide +kernel
theorem dX6_disturb_114 : decode cX6_disturb 114 = .ok (.aload_n 0, 1) := by decide +kernel
theorem dX6_disturb_115 : decode cX6_disturb 115 = .ok (.getfield 7, 3) := by decide +kernel
theorem dX6_disturb_118 : decode cX6_disturb 118 = .ok (.iconst 5, 1) := by decide +kernel
theorem dX6_disturb_119 : decode cX6_disturb 119 = .ok (.iaload, 1) := by decide +kernel
theorem dX6_disturb_120 : decode cX6_disturb 120 = .ok (.ireturn, 1) := by decide +kernel
theorem dX6_beginsFrame_0 : decode cX6_beginsFrame 0 = .ok (.aload_n 0, 1) := by decide +kernel
theorem dX6_beginsFrame_1 : decode cX6_beginsFrame 1 = .ok (.getfield 7, 3) := by decide +kernel
theorem dX6_beginsFrame_4 : decode cX6_beginsFrame 4 = .ok (.bipush 15, 2) := by decide +kernel
theorem dX6_beginsFrame_6 : decode cX6_beginsFrame 6 = .ok (.iconst 1, 1) := by decide +kernel
theorem dX6_beginsFrame_7 : decode cX6_beginsFrame 7 = .ok (.iastore, 1) := by decide +kernel
theorem dX6_beginsFrame_8 : decode cX6_beginsFrame 8 = .ok (.aload_n 0, 1) := by decide +kernel
theorem dX6_beginsFrame_9 : decode cX6_beginsFrame 9 = .ok (.getfield 7, 3) := by decide +kernel
theorem dX6_beginsFrame_12 : decode cX6_beginsFrame 12 = .ok (.bipush 16, 2) := by decide +kernel
theorem dX6_beginsFrame_14 : decode cX6_beginsFrame 14 = .ok (.iconst 0, 1) := by decide +kernel
theorem dX6_beginsFrame_15 : decode cX6_beginsFrame 15 = .ok (.iastore, 1) := by decide +kernel
theorem dX6_beginsFrame_16 : decode cX6_beginsFrame 16 = .ok (.iconst 0, 1) := by decide +kernel
theorem dX6_beginsFrame_17 : decode cX6_beginsFrame 17 = .ok (.istore_n 1, 1) := by decide +kernel
theorem dX6_beginsFrame_18 : decode cX6_beginsFrame 18 = .ok (.iload_n 1, 1) := by decide +kernel
theorem dX6_beginsFrame_19 : decode cX6_beginsFrame 19 = .ok (.bipush 14, 2) := by decide +kernel
theorem dX6_beginsFrame_21 : decode cX6_beginsFrame 21 = .ok (.if_icmp .ge 19, 3) := by decide +kernel
theorem dX6_beginsFrame_24 : decode cX6_beginsFrame 24 = .ok (.aload_n 0, 1) := by decide +kernel
theorem dX6_beginsFrame_25 : decode cX6_beginsFrame 25 = .ok (.getfield 7, 3) := by decide +kernel
theorem dX6_beginsFrame_28 : decode cX6_beginsFrame 28 = .ok (.bipush 19, 2) := by decide +kernel
theorem dX6_beginsFrame_30 : decode cX6_beginsFrame 30 = .ok (.iload_n 1, 1) := by decide +kernel
theorem dX6_beginsFrame_31 : decode cX6_beginsFrame 31 = .ok (.iadd, 1) := by decide +kernel
theorem dX6_beginsFrame_32 : decode cX6_beginsFrame 32 = .ok (.iconst 0, 1) := by decide +kernel
theorem dX6_beginsFrame_33 : decode cX6_beginsFrame 33 = .ok (.iastore, 1) := by decide +kernel
theorem dX6_beginsFrame_34 : decode cX6_beginsFrame 34 = .ok (.iinc 1 1, 3) := by decide +kernel
theorem dX6_beginsFrame_37 : decode cX6_beginsFrame 37 = .ok (.goto (-19), 3) := by decide +kernel
theorem dX6_beginsFrame_40 : decode cX6_beginsFrame 40 = .ok (.return_, 1) := by decide +kernel
theorem dX6_receivesSample_0 : decode cX6_receivesSample 0 = .ok (.aload_n 0, 1) := by decide +kernel
theorem dX6_receivesSample_1 : decode cX6_receivesSample 1 = .ok (.iload_n 1, 1) := by decide +kernel
theorem dX6_receivesSample_2 : decode cX6_receivesSample 2 = .ok (.iconst 2, 1) := by decide +kernel
theorem dX6_receivesSample_3 : decode cX6_receivesSample 3 = .ok (.iload_n 2, 1) := by decide +kernel
theorem dX6_receivesSample_4 : decode cX6_receivesSample 4 = .ok (.invokevirtual 39, 3) := by decide +kernel
theorem dX6_receivesSample_7 : decode cX6_receivesSample 7 = .ok (.aload_n 0, 1) := by decide +kernel
theorem dX6_receivesSample_8 : decode cX6_receivesSample 8 = .ok (.iload_n 1, 1) := by decide +kernel
theorem dX6_receivesSample_9 : decode cX6_receivesSample 9 = .ok (.iconst 3, 1) := by decide +kernel
theorem dX6_receivesSample_10 : decode cX6_receivesSample 10 = .ok (.aload_n 0, 1) := by decide +kernel
theorem dX6_receivesSample_11 : decode cX6_receivesSample 11 = .ok (.iload_n 1, 1) := by decide +kernel
theorem dX6_receivesSample_12 : decode cX6_receivesSample 12 = .ok (.iconst 3, 1) := by decide +kernel
theorem dX6_receivesSample_13 : decode cX6_receivesSample 13 = .ok (.invokevirtual 43, 3) := by decide +kernel
theorem dX6_receivesSample_16 : decode cX6_receivesSample 16 = .ok (.iconst 1, 1) := by decide +kernel
theorem dX6_receivesSample_17 : decode cX6_receivesSample 17 = .ok (.iadd, 1) := by decide +kernel
theorem dX6_receivesSample_18 : decode cX6_receivesSample 18 = .ok (.invokevirtual 39, 3) := by decide +kernel
theorem dX6_receivesSample_21 : decode cX6_receivesSample 21 = .ok (.iconst 4, 1) := by decide +kernel
theorem dX6_receivesSample_22 : decode cX6_receivesSample 22 = .ok (.iconst 2, 1) := by decide +kernel
theorem dX6_receivesSample_23 : decode cX6_receivesSample 23 = .ok (.aload_n 0, 1) := by decide +kernel
theorem dX6_receivesSample_24 : decode cX6_receivesSample 24 = .ok (.getfield 7, 3) := by decide +kernel
theorem dX6_receivesSample_27 : decode cX6_receivesSample 27 = .ok (.bipush 6, 2) := by decide +kernel
theorem dX6_receivesSample_29 : decode cX6_receivesSample 29 = .ok (.iaload, 1) := by decide +kernel
theorem dX6_receivesSample_30 : decode cX6_receivesSample 30 = .ok (.imul, 1) := by decide +kernel
theorem dX6_receivesSample_31 : decode cX6_receivesSample 31 = .ok (.iadd, 1) := by decide +kernel
theorem dX6_receivesSample_32 : decode cX6_receivesSample 32 = .ok (.istore_n 3, 1) := by decide +kernel
theorem dX6_receivesSample_33 : decode cX6_receivesSample 33 = .ok (.iload_n 2, 1) := by decide +kernel
theorem dX6_receivesSample_34 : decode cX6_receivesSample 34 = .ok (.aload_n 0, 1) := by decide +kernel
theorem dX6_receivesSample_35 : decode cX6_receivesSample 35 = .ok (.iload_n 1, 1) := by decide +kernel
theorem dX6_receivesSample_36 : decode cX6_receivesSample 36 = .ok (.iload_n 3, 1) := by decide +kernel
theorem dX6_receivesSample_37 : decode cX6_receivesSample 37 = .ok (.invokevirtual 43, 3) := by decide +kernel
theorem dX6_receivesSample_40 : decode cX6_receivesSample 40 = .ok (.aload_n 0, 1) := by decide +kernel
theorem dX6_receivesSample_41 : decode cX6_receivesSample 41 = .ok (.iload_n 1, 1) := by decide +kernel
theorem dX6_receivesSample_42 : decode cX6_receivesSample 42 = .ok (.iload_n 3, 1) := by decide +kernel
theorem dX6_receivesSample_43 : decode cX6_receivesSample 43 = .ok (.iconst 1, 1) := by decide +kernel
theorem dX6_receivesSample_44 : decode cX6_receivesSample 44 = .ok (.iadd, 1) := by decide +kernel
theorem dX6_receivesSample_45 : decode cX6_receivesSample 45 = .ok (.invokevirtual 43, 3) := by decide +kernel
theorem dX6_receivesSample_48 : decode cX6_receivesSample 48 = .ok (.invokestatic 26, 3) := by decide +kernel
theorem dX6_receivesSample_51 : decode cX6_receivesSample 51 = .ok (.ifCond .eq 20, 3) := by decide +kernel
theorem dX6_receivesSample_54 : decode cX6_receivesSample 54 = .ok (.aload_n 0, 1) := by decide +kernel
theorem dX6_receivesSample_55 : decode cX6_receivesSample 55 = .ok (.iload_n 1, 1) := by decide +kernel
theorem dX6_receivesSample_56 : decode cX6_receivesSample 56 = .ok (.bipush 11, 2) := by decide +kernel
theorem dX6_receivesSample_58 : decode cX6_receivesSample 58 = .ok (.iconst 0, 1) := by decide +kernel
theorem dX6_receivesSample_59 : decode cX6_receivesSample 59 = .ok (.invokevirtual 39, 3) := by decide +kernel
theorem dX6_receivesSample_62 : decode cX6_receivesSample 62 = .ok (.aload_n 0, 1) := by decide +kernel
theorem dX6_receivesSample_63 : decode cX6_receivesSample 63 = .ok (.iload_n 1, 1) := by decide +kernel
theorem dX6_receivesSample_64 : decode cX6_receivesSample 64 = .ok (.bipush 12, 2) := by decide +kernel
theorem dX6_receivesSample_66 : decode cX6_receivesSample 66 = .ok (.iconst 0, 1) := by decide +kernel
theorem dX6_receivesSample_67 : decode cX6_receivesSample 67 = .ok (.invokevirtual 39, 3) := by decide +kernel
theorem dX6_receivesSample_70 : decode cX6_receivesSample 70 = .ok (.return_, 1) := by decide +kernel
theorem dX6_receivesSample_71 : decode cX6_receivesSample 71 = .ok (.aload_n 0, 1) := by decide +kernel
theorem dX6_receivesSample_72 : decode cX6_receivesSample 72 = .ok (.iload_n 1, 1) := by decide +kernel
theorem dX6_receivesSample_73 : decode cX6_receivesSample 73 = .ok (.bipush 12, 2) := by decide +kernel
theorem dX6_receivesSample_75 : decode cX6_receivesSample 75 = .ok (.aload_n 0, 1) := by decide +kernel
theorem dX6_receivesSample_76 : decode cX6_receivesSample 76 = .ok (.iload_n 1, 1) := by decide +kernel
theorem dX6_receivesSample_77 : decode cX6_receivesSample 77 = .ok (.bipush 12, 2) := by decide +kernel
theorem dX6_receivesSample_79 : decode cX6_receivesSample 79 = .ok (.invokevirtual 43, 3) := by decide +kernel
theorem dX6_receivesSample_82 : decode cX6_receivesSample 82 = .ok (.iconst 1, 1) := by decide +kernel
theorem dX6_receivesSample_83 : decode cX6_receivesSample 83 = .ok (.iadd, 1) := by decide +kernel
theorem dX6_receivesSample_84 : decode cX6_receivesSample 84 = .ok (.invokevirtual 39, 3) := by decide +kernel
theorem dX6_receivesSample_87 : decode cX6_receivesSample 87 = .ok (.aload_n 0, 1) := by decide +kernel
theorem dX6_receivesSample_88 : decode cX6_receivesSample 88 = .ok (.iload_n 1, 1) := by decide +kernel
theorem dX6_receivesSample_89 : decode cX6_receivesSample 89 = .ok (.bipush 12, 2) := by decide +kernel
theorem dX6_receivesSample_91 : decode cX6_receivesSample 91 = .ok (.invokevirtual 43, 3) := by decide +kernel
theorem dX6_receivesSample_94 : decode cX6_receivesSample 94 = .ok (.aload_n 0, 1) := by decide +kernel
theorem dX6_receivesSample_95 : decode cX6_receivesSample 95 = .ok (.iload_n 1, 1) := by decide +kernel
theorem dX6_receivesSample_96 : decode cX6_receivesSample 96 = .ok (.bipush 10, 2) := by decide +kernel
theorem dX6_receivesSample_98 : decode cX6_receivesSample 98 = .ok (.invokevirtual 43, 3) := by decide +kernel
theorem dX6_receivesSample_101 : decode cX6_receivesSample 101 = .ok (.if_icmp .lt 37, 3) := by decide +kernel
theorem dX6_receivesSample_104 : decode cX6_receivesSample 104 = .ok (.aload_n 0, 1) := by decide +kernel
theorem dX6_receivesSample_105 : decode cX6_receivesSample 105 = .ok (.iload_n 1, 1) := by decide +kernel
theorem dX6_receivesSample_106 : decode cX6_receivesSample 106 = .ok (.bipush 11, 2) := by decide +kernel
theorem dX6_receivesSample_108 : decode cX6_receivesSample 108 = .ok (.invokevirtual 43, 3) := by decide +kernel
theorem dX6_receivesSample_111 : decode cX6_receivesSample 111 = .ok (.ifCond .ne 27, 3) := by decide +kernel
theorem dX6_receivesSample_114 : decode cX6_receivesSample 114 = .ok (.aload_n 0, 1) := by decide +kernel
theorem dX6_receivesSample_115 : decode cX6_receivesSample 115 = .ok (.iload_n 1, 1) := by decide +kernel
theorem dX6_receivesSample_116 : decode cX6_receivesSample 116 = .ok (.bipush 11, 2) := by decide +kernel
theorem dX6_receivesSample_118 : decode cX6_receivesSample 118 = .ok (.iconst 1, 1) := by decide +kernel
theorem dX6_receivesSample_119 : decode cX6_receivesSample 119 = .ok (.invokevirtual 39, 3) := by decide +kernel
theorem dX6_receivesSample_122 : decode cX6_receivesSample 122 = .ok (.aload_n 0, 1) := by decide +kernel
theorem dX6_receivesSample_123 : decode cX6_receivesSample 123 = .ok (.iload_n 1, 1) := by decide +kernel
theorem dX6_receivesSample_124 : decode cX6_receivesSample 124 = .ok (.bipush 13, 2) := by decide +kernel
theorem dX6_receivesSample_126 : decode cX6_receivesSample 126 = .ok (.aload_n 0, 1) := by decide +kernel
theorem dX6_receivesSample_127 : decode cX6_receivesSample 127 = .ok (.iload_n 1, 1) := by decide +kernel
theorem dX6_receivesSample_128 : decode cX6_receivesSample 128 = .ok (.bipush 13, 2) := by decide +kernel
theorem dX6_receivesSample_130 : decode cX6_receivesSample 130 = .ok (.invokevirtual 43, 3) := by decide +kernel
theorem dX6_receivesSample_133 : decode cX6_receivesSample 133 = .ok (.iconst 1, 1) := by decide +kernel
theorem dX6_receivesSample_134 : decode cX6_receivesSample 134 = .ok (.iadd, 1) := by decide +kernel
theorem dX6_receivesSample_135 : decode cX6_receivesSample 135 = .ok (.invokevirtual 39, 3) := by decide +kernel
theorem dX6_receivesSample_138 : decode cX6_receivesSample 138 = .ok (.return_, 1) := by decide +kernel
theorem dX6_delivers_0 : decode cX6_delivers 0 = .ok (.aload_n 0, 1) := by decide +kernel
theorem dX6_delivers_1 : decode cX6_delivers 1 = .ok (.getfield 7, 3) := by decide +kernel
theorem dX6_delivers_4 : decode cX6_delivers 4 = .ok (.bipush 9, 2) := by decide +kernel
theorem dX6_delivers_6 : decode cX6_delivers 6 = .ok (.dup2, 1) := by decide +kernel
theorem dX6_delivers_7 : decode cX6_delivers 7 = .ok (.iaload, 1) := by decide +kernel
theorem dX6_delivers_8 : decode cX6_delivers 8 = .ok (.iconst 1, 1) := by decide +kernel
theorem dX6_delivers_9 : decode cX6_delivers 9 = .ok (.iadd, 1) := by decide +kernel
theorem dX6_delivers_10 : decode cX6_delivers 10 = .ok (.iastore, 1) := by decide +kernel
theorem dX6_delivers_11 : decode cX6_delivers 11 = .ok (.aload_n 0, 1) := by decide +kernel
theorem dX6_delivers_12 : decode cX6_delivers 12 = .ok (.getfield 7, 3) := by decide +kernel
theorem dX6_delivers_15 : decode cX6_delivers 15 = .ok (.bipush 19, 2) := by decide +kernel
theorem dX6_delivers_17 : decode cX6_delivers 17 = .ok (.iaload, 1) := by decide +kernel
theorem dX6_delivers_18 : decode cX6_delivers 18 = .ok (.istore_n 1, 1) := by decide +kernel
theorem dX6_delivers_19 : decode cX6_delivers 19 = .ok (.iload_n 1, 1) := by decide +kernel
theorem dX6_delivers_20 : decode cX6_delivers 20 = .ok (.aload_n 0, 1) := by decide +kernel
theorem dX6_delivers_21 : decode cX6_delivers 21 = .ok (.getfield 7, 3) := by decide +kernel
theorem dX6_delivers_24 : decode cX6_delivers 24 = .ok (.iconst 1, 1) := by decide +kernel
theorem dX6_delivers_25 : decode cX6_delivers 25 = .ok (.iaload, 1) := by decide +kernel
theorem dX6_delivers_26 : decode cX6_delivers 26 = .ok (.if_icmp .lt 15, 3) := by decide +kernel
theorem dX6_delivers_29 : decode cX6_delivers 29 = .ok (.aload_n 0, 1) := by decide +kernel
theorem dX6_delivers_30 : decode cX6_delivers 30 = .ok (.getfield 7, 3) := by decide +kernel
theorem dX6_delivers_33 : decode cX6_delivers 33 = .ok (.bipush 10, 2) := by decide +kernel
theorem dX6_delivers_35 : decode cX6_delivers 35 = .ok (.dup2, 1) := by decide +kernel
theorem dX6_delivers_36 : decode cX6_delivers 36 = .ok (.iaload, 1) := by decide +kernel
theorem dX6_delivers_37 : decode cX6_delivers 37 = .ok (.iconst 1, 1) := by decide +kernel
theorem dX6_delivers_38 : decode cX6_delivers 38 = .ok (.iadd, 1) := by decide +kernel
theorem dX6_delivers_39 : decode cX6_delivers 39 = .ok (.iastore, 1) := by decide +kernel
theorem dX6_delivers_40 : decode cX6_delivers 40 = .ok (.return_, 1) := by decide +kernel
theorem dX6_delivers_41 : decode cX6_delivers 41 = .ok (.iconst 3, 1) := by decide +kernel
theorem dX6_delivers_42 : decode cX6_delivers 42 = .ok (.istore_n 2, 1) := by decide +kernel
theorem dX6_delivers_43 : decode cX6_delivers 43 = .ok (.iload_n 2, 1) := by decide +kernel
theorem dX6_delivers_44 : decode cX6_delivers 44 = .ok (.aload_n 0, 1) := by decide +kernel
theorem dX6_delivers_45 : decode cX6_delivers 45 = .ok (.getfield 7, 3) := by decide +kernel
theorem dX6_delivers_48 : decode cX6_delivers 48 = .ok (.iconst 0, 1) := by decide +kernel
theorem dX6_delivers_49 : decode cX6_delivers 49 = .ok (.iaload, 1) := by decide +kernel
theorem dX6_delivers_50 : decode cX6_delivers 50 = .ok (.if_icmp .ge 37, 3) := by decide +kernel
theorem dX6_delivers_53 : decode cX6_delivers 53 = .ok (.aload_n 0, 1) := by decide +kernel
theorem dX6_delivers_54 : decode cX6_delivers 54 = .ok (.iload_n 1, 1) := by decide +kernel
theorem dX6_delivers_55 : decode cX6_delivers 55 = .ok (.iload_n 2, 1) := by decide +kernel
theorem dX6_delivers_56 : decode cX6_delivers 56 = .ok (.invokevirtual 82, 3) := by decide +kernel
theorem dX6_delivers_59 : decode cX6_delivers 59 = .ok (.istore_n 3, 1) := by decide +kernel
theorem dX6_delivers_60 : decode cX6_delivers 60 = .ok (.iload_n 3, 1) := by decide +kernel
theorem dX6_delivers_61 : decode cX6_delivers 61 = .ok (.iconst (-1), 1) := by decide +kernel
theorem dX6_delivers_62 : decode cX6_delivers 62 = .ok (.if_icmp .eq 19, 3) := by decide +kernel
theorem dX6_delivers_65 : decode cX6_delivers 65 = .ok (.aload_n 0, 1) := by decide +kernel
theorem dX6_delivers_66 : decode cX6_delivers 66 = .ok (.iload_n 3, 1) := by decide +kernel
theorem dX6_delivers_67 : decode cX6_delivers 67 = .ok (.aload_n 0, 1) := by decide +kernel
theorem dX6_delivers_68 : decode cX6_delivers 68 = .ok (.getfield 7, 3) := by decide +kernel
theorem dX6_delivers_71 : decode cX6_delivers 71 = .ok (.bipush 19, 2) := by decide +kernel
theorem dX6_delivers_73 : decode cX6_delivers 73 = .ok (.iload_n 2, 1) := by decide +kernel
theorem dX6_delivers_74 : decode cX6_delivers 74 = .ok (.iadd, 1) := by decide +kernel
theorem dX6_delivers_75 : decode cX6_delivers 75 = .ok (.iconst 2, 1) := by decide +kernel
theorem dX6_delivers_76 : decode cX6_delivers 76 = .ok (.isub, 1) := by decide +kernel
theorem dX6_delivers_77 : decode cX6_delivers 77 = .ok (.iaload, 1) := by decide +kernel
theorem dX6_delivers_78 : decode cX6_delivers 78 = .ok (.invokevirtual 102, 3) := by decide +kernel
theorem dX6_delivers_81 : decode cX6_delivers 81 = .ok (.iinc 2 1, 3) := by decide +kernel
theorem dX6_delivers_84 : decode cX6_delivers 84 = .ok (.goto (-41), 3) := by decide +kernel
theorem dX6_delivers_87 : decode cX6_delivers 87 = .ok (.return_, 1) := by decide +kernel
theorem dX6_takesIntoFrame_0 : decode cX6_takesIntoFrame 0 = .ok (.bipush 19, 2) := by decide +kernel
theorem dX6_takesIntoFrame_2 : decode cX6_takesIntoFrame 2 = .ok (.aload_n 0, 1) := by decide +kernel
theorem dX6_takesIntoFrame_3 : decode cX6_takesIntoFrame 3 = .ok (.getfield 7, 3) := by decide +kernel
theorem dX6_takesIntoFrame_6 : decode cX6_takesIntoFrame 6 = .ok (.bipush 16, 2) := by decide +kernel
theorem dX6_takesIntoFrame_8 : decode cX6_takesIntoFrame 8 = .ok (.iaload, 1) := by decide +kernel
theorem dX6_takesIntoFrame_9 : decode cX6_takesIntoFrame 9 = .ok (.bipush 8, 2) := by decide +kernel
theorem dX6_takesIntoFrame_11 : decode cX6_takesIntoFrame 11 = .ok (.idiv, 1) := by decide +kernel
theorem dX6_takesIntoFrame_12 : decode cX6_takesIntoFrame 12 = .ok (.iadd, 1) := by decide +kernel
theorem dX6_takesIntoFrame_13 : decode cX6_takesIntoFrame 13 = .ok (.istore_n 2, 1) := by decide +kernel
theorem dX6_takesIntoFrame_14 : decode cX6_takesIntoFrame 14 = .ok (.aload_n 0, 1) := by decide +kernel
theorem dX6_takesIntoFrame_15 : decode cX6_takesIntoFrame 15 = .ok (.getfield 7, 3) := by decide +kernel
theorem dX6_takesIntoFrame_18 : decode cX6_takesIntoFrame 18 = .ok (.iload_n 2, 1) := by decide +kernel
theorem dX6_takesIntoFrame_19 : decode cX6_takesIntoFrame 19 = .ok (.iconst 2, 1) := by decide +kernel
theorem dX6_takesIntoFrame_20 : decode cX6_takesIntoFrame 20 = .ok (.aload_n 0, 1) := by decide +kernel
theorem dX6_takesIntoFrame_21 : decode cX6_takesIntoFrame 21 = .ok (.getfield 7, 3) := by decide +kernel
theorem dX6_takesIntoFrame_24 : decode cX6_takesIntoFrame 24 = .ok (.iload_n 2, 1) := by decide +kernel
theorem dX6_takesIntoFrame_25 : decode cX6_takesIntoFrame 25 = .ok (.iaload, 1) := by decide +kernel
theorem dX6_takesIntoFrame_26 : decode cX6_takesIntoFrame 26 = .ok (.imul, 1) := by decide +kernel
theorem dX6_takesIntoFrame_27 : decode cX6_takesIntoFrame 27 = .ok (.iload_n 1, 1) := by decide +kernel
theorem dX6_takesIntoFrame_28 : decode cX6_takesIntoFrame 28 = .ok (.iadd, 1) := by decide +kernel
theorem dX6_takesIntoFrame_29 : decode cX6_takesIntoFrame 29 = .ok (.iastore, 1) := by decide +kernel
theorem dX6_takesIntoFrame_30 : decode cX6_takesIntoFrame 30 = .ok (.aload_n 0, 1) := by decide +kernel
theorem dX6_takesIntoFrame_31 : decode cX6_takesIntoFrame 31 = .ok (.getfield 7, 3) := by decide +kernel
theorem dX6_takesIntoFrame_34 : decode cX6_takesIntoFrame 34 = .ok (.bipush 18, 2) := by decide +kernel
theorem dX6_takesIntoFrame_36 : decode cX6_takesIntoFrame 36 = .ok (.iload_n 1, 1) := by decide +kernel
theorem dX6_takesIntoFrame_37 : decode cX6_takesIntoFrame 37 = .ok (.iastore, 1) := by decide +kernel
theorem dX6_takesIntoFrame_38 : decode cX6_takesIntoFrame 38 = .ok (.aload_n 0, 1) := by decide +kernel
theorem dX6_takesIntoFrame_39 : decode cX6_takesIntoFrame 39 = .ok (.getfield 7, 3) := by decide +kernel
theorem dX6_takesIntoFrame_42 : decode cX6_takesIntoFrame 42 = .ok (.bipush 16, 2) := by decide +kernel
theorem dX6_takesIntoFrame_44 : decode cX6_takesIntoFrame 44 = .ok (.dup2, 1) := by decide +kernel
theorem dX6_takesIntoFrame_45 : decode cX6_takesIntoFrame 45 = .ok (.iaload, 1) := by decide +kernel
theorem dX6_takesIntoFrame_46 : decode cX6_takesIntoFrame 46 = .ok (.iconst 1, 1) := by decide +kernel
theorem dX6_takesIntoFrame_47 : decode cX6_takesIntoFrame 47 = .ok (.iadd, 1) := by decide +kernel
theorem dX6_takesIntoFrame_48 : decode cX6_takesIntoFrame 48 = .ok (.iastore, 1) := by decide +kernel
theorem dX6_takesIntoFrame_49 : decode cX6_takesIntoFrame 49 = .ok (.aload_n 0, 1) := by decide +kernel
theorem dX6_takesIntoFrame_50 : decode cX6_takesIntoFrame 50 = .ok (.getfield 7, 3) := by decide +kernel
theorem dX6_takesIntoFrame_53 : decode cX6_takesIntoFrame 53 = .ok (.bipush 16, 2) := by decide +kernel
theorem dX6_takesIntoFrame_55 : decode cX6_takesIntoFrame 55 = .ok (.iaload, 1) := by decide +kernel
theorem dX6_takesIntoFrame_56 : decode cX6_takesIntoFrame 56 = .ok (.bipush 8, 2) := by decide +kernel
theorem dX6_takesIntoFrame_58 : decode cX6_takesIntoFrame 58 = .ok (.aload_n 0, 1) := by decide +kernel
theorem dX6_takesIntoFrame_59 : decode cX6_takesIntoFrame 59 = .ok (.getfield 7, 3) := by decide +kernel
theorem dX6_takesIntoFrame_62 : decode cX6_takesIntoFrame 62 = .ok (.iconst 0, 1) := by decide +kernel
theorem dX6_takesIntoFrame_63 : decode cX6_takesIntoFrame 63 = .ok (.iaload, 1) := by decide +kernel
theorem dX6_takesIntoFrame_64 : decode cX6_takesIntoFrame 64 = .ok (.iconst 2, 1) := by decide +kernel
theorem dX6_takesIntoFrame_65 : decode cX6_takesIntoFrame 65 = .ok (.isub, 1) := by decide +kernel
theorem dX6_takesIntoFrame_66 : decode cX6_takesIntoFrame 66 = .ok (.imul, 1) := by decide +kernel
theorem dX6_takesIntoFrame_67 : decode cX6_takesIntoFrame 67 = .ok (.if_icmp .ne 42, 3) := by decide +kernel
theorem dX6_takesIntoFrame_70 : decode cX6_takesIntoFrame 70 = .ok (.aload_n 0, 1) := by decide +kernel
theorem dX6_takesIntoFrame_71 : decode cX6_takesIntoFrame 71 = .ok (.getfield 7, 3) := by decide +kernel
theorem dX6_takesIntoFrame_74 : decode cX6_takesIntoFrame 74 = .ok (.bipush 7, 2) := by decide +kernel
theorem dX6_takesIntoFrame_76 : decode cX6_takesIntoFrame 76 = .ok (.iaload, 1) := by decide +kernel
theorem dX6_takesIntoFrame_77 : decode cX6_takesIntoFrame 77 = .ok (.iconst 2, 1) := by decide +kernel
theorem dX6_takesIntoFrame_78 : decode cX6_takesIntoFrame 78 = .ok (.if_icmp .ne 7, 3) := by decide +kernel
theorem dX6_takesIntoFrame_81 : decode cX6_takesIntoFrame 81 = .ok (.aload_n 0, 1) := by decide +kernel
theorem dX6_takesIntoFrame_82 : decode cX6_takesIntoFrame 82 = .ok (.invokevirtual 105, 3) := by decide +kernel
theorem dX6_takesIntoFrame_85 : decode cX6_takesIntoFrame 85 = .ok (.aload_n 0, 1) := by decide +kernel
theorem dX6_takesIntoFrame_86 : decode cX6_takesIntoFrame 86 = .ok (.getfield 7, 3) := by decide +kernel
theorem dX6_takesIntoFrame_89 : decode cX6_takesIntoFrame 89 = .ok (.bipush 15, 2) := by decide +kernel
theorem dX6_takesIntoFrame_91 : decode cX6_takesIntoFrame 91 = .ok (.iconst 2, 1) := by decide +kernel
theorem dX6_takesIntoFrame_92 : decode cX6_takesIntoFrame 92 = .ok (.iastore, 1) := by decide +kernel
theorem dX6_takesIntoFrame_93 : decode cX6_takesIntoFrame 93 = .ok (.aload_n 0, 1) := by decide +kernel
theorem dX6_takesIntoFrame_94 : decode cX6_takesIntoFrame 94 = .ok (.getfield 7, 3) := by decide +kernel
theorem dX6_takesIntoFrame_97 : decode cX6_takesIntoFrame 97 = .ok (.bipush 16, 2) := by decide +kernel
theorem dX6_takesIntoFrame_99 : decode cX6_takesIntoFrame 99 = .ok (.iconst 0, 1) := by decide +kernel
theorem dX6_takesIntoFrame_100 : decode cX6_takesIntoFrame 100 = .ok (.iastore, 1) := by decide +kernel
theorem dX6_takesIntoFrame_101 : decode cX6_takesIntoFrame 101 = .ok (.aload_n 0, 1) := by decide +kernel
theorem dX6_takesIntoFrame_102 : decode cX6_takesIntoFrame 102 = .ok (.getfield 7, 3) := by decide +kernel
theorem dX6_takesIntoFrame_105 : decode cX6_takesIntoFrame 105 = .ok (.bipush 17, 2) := by decide +kernel
theorem dX6_takesIntoFrame_107 : decode cX6_takesIntoFrame 107 = .ok (.iconst 0, 1) := by decide +kernel
theorem dX6_takesIntoFrame_108 : decode cX6_takesIntoFrame 108 = .ok (.iastore, 1) := by decide +kernel
theorem dX6_takesIntoFrame_109 : decode cX6_takesIntoFrame 109 = .ok (.return_, 1) := by decide +kernel
theorem dX6_compares_0 : decode cX6_compares 0 = .ok (.aload_n 0, 1) := by decide +kernel
theorem dX6_compares_1 : decode cX6_compares 1 = .ok (.getfield 7, 3) := by decide +kernel
theorem dX6_compares_4 : decode cX6_compares 4 = .ok (.bipush 17, 2) := by decide +kernel
theorem dX6_compares_6 : decode cX6_compares 6 = .ok (.iaload, 1) := by decide +kernel
theorem dX6_compares_7 : decode cX6_compares 7 = .ok (.ldc 108, 2) := by decide +kernel
theorem dX6_compares_9 : decode cX6_compares 9 = .ok (.if_icmp .ne 26, 3) := by decide +kernel
theorem dX6_compares_12 : decode cX6_compares 12 = .ok (.aload_n 0, 1) := by decide +kernel
theorem dX6_compares_13 : decode cX6_compares 13 = .ok (.getfield 7, 3) := by decide +kernel
theorem dX6_compares_16 : decode cX6_compares 16 = .ok (.bipush 7, 2) := by decide +kernel
theorem dX6_compares_18 : decode cX6_compares 18 = .ok (.iconst 2, 1) := by decide +kernel
theorem dX6_compares_19 : decode cX6_compares 19 = .ok (.iastore, 1) := by decide +kernel
theorem dX6_compares_20 : decode cX6_compares 20 = .ok (.aload_n 0, 1) := by decide +kernel
theorem dX6_compares_21 : decode cX6_compares 21 = .ok (.getfield 7, 3) := by decide +kernel
theorem dX6_compares_24 : decode cX6_compares 24 = .ok (.bipush 8, 2) := by decide +kernel
theorem dX6_compares_26 : decode cX6_compares 26 = .ok (.iconst 0, 1) := by decide +kernel
theorem dX6_compares_27 : decode cX6_compares 27 = .ok (.iastore, 1) := by decide +kernel
theorem dX6_compares_28 : decode cX6_compares 28 = .ok (.aload_n 0, 1) := by decide +kernel
theorem dX6_compares_29 : decode cX6_compares 29 = .ok (.invokevirtual 109, 3) := by decide +kernel
theorem dX6_compares_32 : decode cX6_compares 32 = .ok (.goto 107, 3) := by decide +kernel
theorem dX6_compares_35 : decode cX6_compares 35 = .ok (.aload_n 0, 1) := by decide +kernel
theorem dX6_compares_36 : decode cX6_compares 36 = .ok (.getfield 7, 3) := by decide +kernel
theorem dX6_compares_39 : decode cX6_compares 39 = .ok (.bipush 7, 2) := by decide +kernel
theorem dX6_compares_41 : decode cX6_compares 41 = .ok (.iaload, 1) := by decide +kernel
theorem dX6_compares_42 : decode cX6_compares 42 = .ok (.iconst 1, 1) := by decide +kernel
theorem dX6_compares_43 : decode cX6_compares 43 = .ok (.if_icmp .ne 22, 3) := by decide +kernel
theorem dX6_compares_46 : decode cX6_compares 46 = .ok (.aload_n 0, 1) := by decide +kernel
theorem dX6_compares_47 : decode cX6_compares 47 = .ok (.getfield 7, 3) := by decide +kernel
theorem dX6_compares_50 : decode cX6_compares 50 = .ok (.bipush 7, 2) := by decide +kernel
theorem dX6_compares_52 : decode cX6_compares 52 = .ok (.iconst 0, 1) := by decide +kernel
theorem dX6_compares_53 : decode cX6_compares 53 = .ok (.iastore, 1) := by decide +kernel
theorem dX6_compares_54 : decode cX6_compares 54 = .ok (.aload_n 0, 1) := by decide +kernel
theorem dX6_compares_55 : decode cX6_compares 55 = .ok (.getfield 7, 3) := by decide +kernel
theorem dX6_compares_58 : decode cX6_compares 58 = .ok (.bipush 15, 2) := by decide +kernel
theorem dX6_compares_60 : decode cX6_compares 60 = .ok (.iconst 0, 1) := by decide +kernel
theorem dX6_compares_61 : decode cX6_compares 61 = .ok (.iastore, 1) := by decide +kernel
theorem dX6_compares_62 : decode cX6_compares 62 = .ok (.goto 77, 3) := by decide +kernel
theorem dX6_compares_65 : decode cX6_compares 65 = .ok (.aload_n 0, 1) := by decide +kernel
theorem dX6_compares_66 : decode cX6_compares 66 = .ok (.getfield 7, 3) := by decide +kernel
theorem dX6_compares_69 : decode cX6_compares 69 = .ok (.bipush 18, 2) := by decide +kernel
theorem dX6_compares_71 : decode cX6_compares 71 = .ok (.iaload, 1) := by decide +kernel
theorem dX6_compares_72 : decode cX6_compares 72 = .ok (.bipush 15, 2) := by decide +kernel
theorem dX6_compares_74 : decode cX6_compares 74 = .ok (.ishl, 1) := by decide +kernel
theorem dX6_compares_75 : decode cX6_compares 75 = .ok (.aload_n 0, 1) := by decide +kernel
theorem dX6_compares_76 : decode cX6_compares 76 = .ok (.getfield 7, 3) := by decide +kernel
theorem dX6_compares_79 : decode cX6_compares 79 = .ok (.bipush 17, 2) := by decide +kernel
theorem dX6_compares_81 : decode cX6_compares 81 = .ok (.iaload, 1) := by decide +kernel
theorem dX6_compares_82 : decode cX6_compares 82 = .ok (.iconst 1, 1) := by decide +kernel
theorem dX6_compares_83 : decode cX6_compares 83 = .ok (.ishr, 1) := by decide +kernel
theorem dX6_compares_84 : decode cX6_compares 84 = .ok (.ior, 1) := by decide +kernel
theorem dX6_compares_85 : decode cX6_compares 85 = .ok (.ldc 108, 2) := by decide +kernel
theorem dX6_compares_87 : decode cX6_compares 87 = .ok (.if_icmp .ne 44, 3) := by decide +kernel
theorem dX6_compares_90 : decode cX6_compares 90 = .ok (.aload_n 0, 1) := by decide +kernel
theorem dX6_compares_91 : decode cX6_compares 91 = .ok (.getfield 7, 3) := by decide +kernel
theorem dX6_compares_94 : decode cX6_compares 94 = .ok (.bipush 11, 2) := by decide +kernel
theorem dX6_compares_96 : decode cX6_compares 96 = .ok (.dup2, 1) := by decide +kernel
theorem dX6_compares_97 : decode cX6_compares 97 = .ok (.iaload, 1) := by decide +kernel
theorem dX6_compares_98 : decode cX6_compares 98 = .ok (.iconst 1, 1) := by decide +kernel
theorem dX6_compares_99 : decode cX6_compares 99 = .ok (.iadd, 1) := by decide +kernel
theorem dX6_compares_100 : decode cX6_compares 100 = .ok (.iastore, 1) := by decide +kernel
theorem dX6_compares_101 : decode cX6_compares 101 = .ok (.aload_n 0, 1) := by decide +kernel
theorem dX6_compares_102 : decode cX6_compares 102 = .ok (.getfield 7, 3) := by decide +kernel
theorem dX6_compares_105 : decode cX6_compares 105 = .ok (.bipush 8, 2) := by decide +kernel
theorem dX6_compares_107 : decode cX6_compares 107 = .ok (.iconst 0, 1) := by decide +kernel
theorem dX6_compares_108 : decode cX6_compares 108 = .ok (.iastore, 1) := by decide +kernel
theorem dX6_compares_109 : decode cX6_compares 109 = .ok (.aload_n 0, 1) := by decide +kernel
theorem dX6_compares_110 : decode cX6_compares 110 = .ok (.getfield 7, 3) := by decide +kernel
theorem dX6_compares_113 : decode cX6_compares 113 = .ok (.bipush 17, 2) := by decide +kernel
theorem dX6_compares_115 : decode cX6_compares 115 = .ok (.iaload, 1) := by decide +kernel
theorem dX6_compares_116 : decode cX6_compares 116 = .ok (.iconst 1, 1) := by decide +kernel
theorem dX6_compares_117 : decode cX6_compares 117 = .ok (.iand, 1) := by decide +kernel
theorem dX6_compares_118 : decode cX6_compares 118 = .ok (.istore_n 1, 1) := by decide +kernel
theorem dX6_compares_119 : decode cX6_compares 119 = .ok (.aload_n 0, 1) := by decide +kernel
theorem dX6_compares_120 : decode cX6_compares 120 = .ok (.invokevirtual 109, 3) := by decide +kernel
theorem dX6_compares_123 : decode cX6_compares 123 = .ok (.aload_n 0, 1) := by decide +kernel
theorem dX6_compares_124 : decode cX6_compares 124 = .ok (.iload_n 1, 1) := by decide +kernel
theorem dX6_compares_125 : decode cX6_compares 125 = .ok (.invokevirtual 112, 3) := by decide +kernel
theorem dX6_compares_128 : decode cX6_compares 128 = .ok (.goto 11, 3) := by decide +kernel
theorem dX6_compares_131 : decode cX6_compares 131 = .ok (.aload_n 0, 1) := by decide +kernel
theorem dX6_compares_132 : decode cX6_compares 132 = .ok (.getfield 7, 3) := by decide +kernel
theorem dX6_compares_135 : decode cX6_compares 135 = .ok (.bipush 15, 2) := by decide +kernel
theorem dX6_compares_137 : decode cX6_compares 137 = .ok (.iconst 3, 1) := by decide +kernel
theorem dX6_compares_138 : decode cX6_compares 138 = .ok (.iastore, 1) := by decide +kernel
theorem dX6_compares_139 : decode cX6_compares 139 = .ok (.return_, 1) := by decide +kernel
theorem dX6_takesOneMore_0 : decode cX6_takesOneMore 0 = .ok (.aload_n 0, 1) := by decide +kernel
theorem dX6_takesOneMore_1 : decode cX6_takesOneMore 1 = .ok (.getfield 7, 3) := by decide +kernel
theorem dX6_takesOneMore_4 : decode cX6_takesOneMore 4 = .ok (.bipush 17, 2) := by decide +kernel
theorem dX6_takesOneMore_6 : decode cX6_takesOneMore 6 = .ok (.iaload, 1) := by decide +kernel
theorem dX6_takesOneMore_7 : decode cX6_takesOneMore 7 = .ok (.ldc 108, 2) := by decide +kernel
theorem dX6_takesOneMore_9 : decode cX6_takesOneMore 9 = .ok (.if_icmp .ne 27, 3) := by decide +kernel
theorem dX6_takesOneMore_12 : decode cX6_takesOneMore 12 = .ok (.aload_n 0, 1) := by decide +kernel
theorem dX6_takesOneMore_13 : decode cX6_takesOneMore 13 = .ok (.getfield 7, 3) := by decide +kernel
theorem dX6_takesOneMore_16 : decode cX6_takesOneMore 16 = .ok (.bipush 12, 2) := by decide +kernel
theorem dX6_takesOneMore_18 : decode cX6_takesOneMore 18 = .ok (.dup2, 1) := by decide +kernel
theorem dX6_takesOneMore_19 : decode cX6_takesOneMore 19 = .ok (.iaload, 1) := by decide +kernel
theorem dX6_takesOneMore_20 : decode cX6_takesOneMore 20 = .ok (.iconst 1, 1) := by decide +kernel
theorem dX6_takesOneMore_21 : decode cX6_takesOneMore 21 = .ok (.iadd, 1) := by decide +kernel
theorem dX6_takesOneMore_22 : decode cX6_takesOneMore 22 = .ok (.iastore, 1) := by decide +kernel
theorem dX6_takesOneMore_23 : decode cX6_takesOneMore 23 = .ok (.aload_n 0, 1) := by decide +kernel
theorem dX6_takesOneMore_24 : decode cX6_takesOneMore 24 = .ok (.getfield 7, 3) := by decide +kernel
theorem dX6_takesOneMore_27 : decode cX6_takesOneMore 27 = .ok (.bipush 8, 2) := by decide +kernel
theorem dX6_takesOneMore_29 : decode cX6_takesOneMore 29 = .ok (.iconst 0, 1) := by decide +kernel
theorem dX6_takesOneMore_30 : decode cX6_takesOneMore 30 = .ok (.iastore, 1) := by decide +kernel
theorem dX6_takesOneMore_31 : decode cX6_takesOneMore 31 = .ok (.aload_n 0, 1) := by decide +kernel
theorem dX6_takesOneMore_32 : decode cX6_takesOneMore 32 = .ok (.invokevirtual 109, 3) := by decide +kernel
theorem dX6_takesOneMore_35 : decode cX6_takesOneMore 35 = .ok (.return_, 1) := by decide +kernel
theorem dX6_takesOneMore_36 : decode cX6_takesOneMore 36 = .ok (.aload_n 0, 1) := by decide +kernel
theorem dX6_takesOneMore_37 : decode cX6_takesOneMore 37 = .ok (.getfield 7, 3) := by decide +kernel
theorem dX6_takesOneMore_40 : decode cX6_takesOneMore 40 = .ok (.bipush 13, 2) := by decide +kernel
theorem dX6_takesOneMore_42 : decode cX6_takesOneMore 42 = .ok (.dup2, 1) := by decide +kernel
theorem dX6_takesOneMore_43 : decode cX6_takesOneMore 43 = .ok (.iaload, 1) := by decide +kernel
theorem dX6_takesOneMore_44 : decode cX6_takesOneMore 44 = .ok (.iconst 1, 1) := by decide +kernel
theorem dX6_takesOneMore_45 : decode cX6_takesOneMore 45 = .ok (.iadd, 1) := by decide +kernel
theorem dX6_takesOneMore_46 : decode cX6_takesOneMore 46 = .ok (.iastore, 1) := by decide +kernel
theorem dX6_takesOneMore_47 : decode cX6_takesOneMore 47 = .ok (.aload_n 0, 1) := by decide +kernel
theorem dX6_takesOneMore_48 : decode cX6_takesOneMore 48 = .ok (.getfield 7, 3) := by decide +kernel
theorem dX6_takesOneMore_51 : decode cX6_takesOneMore 51 = .ok (.bipush 8, 2) := by decide +kernel
theorem dX6_takesOneMore_53 : decode cX6_takesOneMore 53 = .ok (.dup2, 1) := by decide +kernel
theorem dX6_takesOneMore_54 : decode cX6_takesOneMore 54 = .ok (.iaload, 1) := by decide +kernel
theorem dX6_takesOneMore_55 : decode cX6_takesOneMore 55 = .ok (.iconst 1, 1) := by decide +kernel
theorem dX6_takesOneMore_56 : decode cX6_takesOneMore 56 = .ok (.iadd, 1) := by decide +kernel
theorem dX6_takesOneMore_57 : decode cX6_takesOneMore 57 = .ok (.iastore, 1) := by decide +kernel
theorem dX6_takesOneMore_58 : decode cX6_takesOneMore 58 = .ok (.aload_n 0, 1) := by decide +kernel
theorem dX6_takesOneMore_59 : decode cX6_takesOneMore 59 = .ok (.getfield 7, 3) := by decide +kernel
theorem dX6_takesOneMore_62 : decode cX6_takesOneMore 62 = .ok (.bipush 8, 2) := by decide +kernel
theorem dX6_takesOneMore_64 : decode cX6_takesOneMore 64 = .ok (.iaload, 1) := by decide +kernel
theorem dX6_takesOneMore_65 : decode cX6_takesOneMore 65 = .ok (.iconst 3, 1) := by decide +kernel
theorem dX6_takesOneMore_66 : decode cX6_takesOneMore 66 = .ok (.if_icmp .ne 18, 3) := by decide +kernel
theorem dX6_takesOneMore_69 : decode cX6_takesOneMore 69 = .ok (.aload_n 0, 1) := by decide +kernel
theorem dX6_takesOneMore_70 : decode cX6_takesOneMore 70 = .ok (.getfield 7, 3) := by decide +kernel
theorem dX6_takesOneMore_73 : decode cX6_takesOneMore 73 = .ok (.bipush 8, 2) := by decide +kernel
theorem dX6_takesOneMore_75 : decode cX6_takesOneMore 75 = .ok (.iconst 0, 1) := by decide +kernel
theorem dX6_takesOneMore_76 : decode cX6_takesOneMore 76 = .ok (.iastore, 1) := by decide +kernel
theorem dX6_takesOneMore_77 : decode cX6_takesOneMore 77 = .ok (.aload_n 0, 1) := by decide +kernel
theorem dX6_takesOneMore_78 : decode cX6_takesOneMore 78 = .ok (.invokevirtual 30, 3) := by decide +kernel
theorem dX6_takesOneMore_81 : decode cX6_takesOneMore 81 = .ok (.goto 12, 3) := by decide +kernel
theorem dX6_takesOneMore_84 : decode cX6_takesOneMore 84 = .ok (.aload_n 0, 1) := by decide +kernel
theorem dX6_takesOneMore_85 : decode cX6_takesOneMore 85 = .ok (.invokevirtual 109, 3) := by decide +kernel
theorem dX6_takesOneMore_88 : decode cX6_takesOneMore 88 = .ok (.aload_n 0, 1) := by decide +kernel
theorem dX6_takesOneMore_89 : decode cX6_takesOneMore 89 = .ok (.iload_n 1, 1) := by decide +kernel
theorem dX6_takesOneMore_90 : decode cX6_takesOneMore 90 = .ok (.invokevirtual 112, 3) := by decide +kernel
theorem dX6_takesOneMore_93 : decode cX6_takesOneMore 93 = .ok (.return_, 1) := by decide +kernel
theorem dX6_takesBit_0 : decode cX6_takesBit 0 = .ok (.aload_n 0, 1) := by decide +kernel
theorem dX6_takesBit_1 : decode cX6_takesBit 1 = .ok (.getfield 7, 3) := by decide +kernel
theorem dX6_takesBit_4 : decode cX6_takesBit 4 = .ok (.bipush 15, 2) := by decide +kernel
theorem dX6_takesBit_6 : decode cX6_takesBit 6 = .ok (.iaload, 1) := by decide +kernel
theorem dX6_takesBit_7 : decode cX6_takesBit 7 = .ok (.iconst 1, 1) := by decide +kernel
theorem dX6_takesBit_8 : decode cX6_takesBit 8 = .ok (.if_icmp .ne 9, 3) := by decide +kernel
theorem dX6_takesBit_11 : decode cX6_takesBit 11 = .ok (.aload_n 0, 1) := by decide +kernel
theorem dX6_takesBit_12 : decode cX6_takesBit 12 = .ok (.iload_n 1, 1) := by decide +kernel
theorem dX6_takesBit_13 : decode cX6_takesBit 13 = .ok (.invokevirtual 112, 3) := by decide +kernel
theorem dX6_takesBit_16 : decode cX6_takesBit 16 = .ok (.return_, 1) := by decide +kernel
theorem dX6_takesBit_17 : decode cX6_takesBit 17 = .ok (.aload_n 0, 1) := by decide +kernel
theorem dX6_takesBit_18 : decode cX6_takesBit 18 = .ok (.getfield 7, 3) := by decide +kernel
theorem dX6_takesBit_21 : decode cX6_takesBit 21 = .ok (.bipush 17, 2) := by decide +kernel
theorem dX6_takesBit_23 : decode cX6_takesBit 23 = .ok (.aload_n 0, 1) := by decide +kernel
theorem dX6_takesBit_24 : decode cX6_takesBit 24 = .ok (.getfield 7, 3) := by decide +kernel
theorem dX6_takesBit_27 : decode cX6_takesBit 27 = .ok (.bipush 17, 2) := by decide +kernel
theorem dX6_takesBit_29 : decode cX6_takesBit 29 = .ok (.iaload, 1) := by decide +kernel
theorem dX6_takesBit_30 : decode cX6_takesBit 30 = .ok (.iconst 1, 1) := by decide +kernel
theorem dX6_takesBit_31 : decode cX6_takesBit 31 = .ok (.ishl, 1) := by decide +kernel
theorem dX6_takesBit_32 : decode cX6_takesBit 32 = .ok (.iload_n 1, 1) := by decide +kernel
theorem dX6_takesBit_33 : decode cX6_takesBit 33 = .ok (.ior, 1) := by decide +kernel
theorem dX6_takesBit_34 : decode cX6_takesBit 34 = .ok (.ldc 115, 2) := by decide +kernel
theorem dX6_takesBit_36 : decode cX6_takesBit 36 = .ok (.iand, 1) := by decide +kernel
theorem dX6_takesBit_37 : decode cX6_takesBit 37 = .ok (.iastore, 1) := by decide +kernel
theorem dX6_takesBit_38 : decode cX6_takesBit 38 = .ok (.aload_n 0, 1) := by decide +kernel
theorem dX6_takesBit_39 : decode cX6_takesBit 39 = .ok (.getfield 7, 3) := by decide +kernel
theorem dX6_takesBit_42 : decode cX6_takesBit 42 = .ok (.bipush 16, 2) := by decide +kernel
theorem dX6_takesBit_44 : decode cX6_takesBit 44 = .ok (.dup2, 1) := by decide +kernel
theorem dX6_takesBit_45 : decode cX6_takesBit 45 = .ok (.iaload, 1) := by decide +kernel
theorem dX6_takesBit_46 : decode cX6_takesBit 46 = .ok (.aload_n 0, 1) := by decide +kernel
theorem dX6_takesBit_47 : decode cX6_takesBit 47 = .ok (.getfield 7, 3) := by decide +kernel
theorem dX6_takesBit_50 : decode cX6_takesBit 50 = .ok (.bipush 16, 2) := by decide +kernel
theorem dX6_takesBit_52 : decode cX6_takesBit 52 = .ok (.iaload, 1) := by decide +kernel
theorem dX6_takesBit_53 : decode cX6_takesBit 53 = .ok (.bipush 16, 2) := by decide +kernel
theorem dX6_takesBit_55 : decode cX6_takesBit 55 = .ok (.if_icmp .ge 7, 3) := by decide +kernel
theorem dX6_takesBit_58 : decode cX6_takesBit 58 = .ok (.iconst 1, 1) := by decide +kernel
theorem dX6_takesBit_59 : decode cX6_takesBit 59 = .ok (.goto 4, 3) := by decide +kernel
theorem dX6_takesBit_62 : decode cX6_takesBit 62 = .ok (.iconst 0, 1) := by decide +kernel
theorem dX6_takesBit_63 : decode cX6_takesBit 63 = .ok (.iadd, 1) := by decide +kernel
theorem dX6_takesBit_64 : decode cX6_takesBit 64 = .ok (.iastore, 1) := by decide +kernel
theorem dX6_takesBit_65 : decode cX6_takesBit 65 = .ok (.aload_n 0, 1) := by decide +kernel
theorem dX6_takesBit_66 : decode cX6_takesBit 66 = .ok (.getfield 7, 3) := by decide +kernel
theorem dX6_takesBit_69 : decode cX6_takesBit 69 = .ok (.bipush 15, 2) := by decide +kernel
theorem dX6_takesBit_71 : decode cX6_takesBit 71 = .ok (.iaload, 1) := by decide +kernel
theorem dX6_takesBit_72 : decode cX6_takesBit 72 = .ok (.iconst 3, 1) := by decide +kernel
theorem dX6_takesBit_73 : decode cX6_takesBit 73 = .ok (.if_icmp .ne 11, 3) := by decide +kernel
theorem dX6_takesBit_76 : decode cX6_takesBit 76 = .ok (.aload_n 0, 1) := by decide +kernel
theorem dX6_takesBit_77 : decode cX6_takesBit 77 = .ok (.iload_n 1, 1) := by decide +kernel
theorem dX6_takesBit_78 : decode cX6_takesBit 78 = .ok (.invokevirtual 116, 3) := by decide +kernel
theorem dX6_takesBit_81 : decode cX6_takesBit 81 = .ok (.goto 80, 3) := by decide +kernel
theorem dX6_takesBit_84 : decode cX6_takesBit 84 = .ok (.aload_n 0, 1) := by decide +kernel
theorem dX6_takesBit_85 : decode cX6_takesBit 85 = .ok (.getfield 7, 3) := by decide +kernel
theorem dX6_takesBit_88 : decode cX6_takesBit 88 = .ok (.bipush 15, 2) := by decide +kernel
theorem dX6_takesBit_90 : decode cX6_takesBit 90 = .ok (.iaload, 1) := by decide +kernel
theorem dX6_takesBit_91 : decode cX6_takesBit 91 = .ok (.iconst 2, 1) := by decide +kernel
theorem dX6_takesBit_92 : decode cX6_takesBit 92 = .ok (.if_icmp .ne 22, 3) := by decide +kernel
theorem dX6_takesBit_95 : decode cX6_takesBit 95 = .ok (.aload_n 0, 1) := by decide +kernel
theorem dX6_takesBit_96 : decode cX6_takesBit 96 = .ok (.getfield 7, 3) := by decide +kernel
theorem dX6_takesBit_99 : decode cX6_takesBit 99 = .ok (.bipush 16, 2) := by decide +kernel
theorem dX6_takesBit_101 : decode cX6_takesBit 101 = .ok (.iaload, 1) := by decide +kernel
theorem dX6_takesBit_102 : decode cX6_takesBit 102 = .ok (.bipush 16, 2) := by decide +kernel
theorem dX6_takesBit_104 : decode cX6_takesBit 104 = .ok (.if_icmp .ne 57, 3) := by decide +kernel
theorem dX6_takesBit_107 : decode cX6_takesBit 107 = .ok (.aload_n 0, 1) := by decide +kernel
theorem dX6_takesBit_108 : decode cX6_takesBit 108 = .ok (.invokevirtual 119, 3) := by decide +kernel
theorem dX6_takesBit_111 : decode cX6_takesBit 111 = .ok (.goto 50, 3) := by decide +kernel
theorem dX6_takesBit_114 : decode cX6_takesBit 114 = .ok (.aload_n 0, 1) := by decide +kernel
theorem dX6_takesBit_115 : decode cX6_takesBit 115 = .ok (.getfield 7, 3) := by decide +kernel
theorem dX6_takesBit_118 : decode cX6_takesBit 118 = .ok (.bipush 16, 2) := by decide +kernel
theorem dX6_takesBit_120 : decode cX6_takesBit 120 = .ok (.iaload, 1) := by decide +kernel
theorem dX6_takesBit_121 : decode cX6_takesBit 121 = .ok (.bipush 16, 2) := by decide +kernel
theorem dX6_takesBit_123 : decode cX6_takesBit 123 = .ok (.if_icmp .ne 38, 3) := by decide +kernel
theorem dX6_takesBit_126 : decode cX6_takesBit 126 = .ok (.aload_n 0, 1) := by decide +kernel
theorem dX6_takesBit_127 : decode cX6_takesBit 127 = .ok (.getfield 7, 3) := by decide +kernel
theorem dX6_takesBit_130 : decode cX6_takesBit 130 = .ok (.bipush 17, 2) := by decide +kernel
theorem dX6_takesBit_132 : decode cX6_takesBit 132 = .ok (.iaload, 1) := by decide +kernel
theorem dX6_takesBit_133 : decode cX6_takesBit 133 = .ok (.ldc 108, 2) := by decide +kernel
theorem dX6_takesBit_135 : decode cX6_takesBit 135 = .ok (.if_icmp .ne 26, 3) := by decide +kernel
theorem dX6_takesBit_138 : decode cX6_takesBit 138 = .ok (.aload_n 0, 1) := by decide +kernel
theorem dX6_takesBit_139 : decode cX6_takesBit 139 = .ok (.getfield 7, 3) := by decide +kernel
theorem dX6_takesBit_142 : decode cX6_takesBit 142 = .ok (.bipush 7, 2) := by decide +kernel
theorem dX6_takesBit_144 : decode cX6_takesBit 144 = .ok (.iconst 1, 1) := by decide +kernel
theorem dX6_takesBit_145 : decode cX6_takesBit 145 = .ok (.iastore, 1) := by decide +kernel
theorem dX6_takesBit_146 : decode cX6_takesBit 146 = .ok (.aload_n 0, 1) := by decide +kernel
theorem dX6_takesBit_147 : decode cX6_takesBit 147 = .ok (.getfield 7, 3) := by decide +kernel
theorem dX6_takesBit_150 : decode cX6_takesBit 150 = .ok (.bipush 14, 2) := by decide +kernel
theorem dX6_takesBit_152 : decode cX6_takesBit 152 = .ok (.dup2, 1) := by decide +kernel
theorem dX6_takesBit_153 : decode cX6_takesBit 153 = .ok (.iaload, 1) := by decide +kernel
theorem dX6_takesBit_154 : decode cX6_takesBit 154 = .ok (.iconst 1, 1) := by decide +kernel
theorem dX6_takesBit_155 : decode cX6_takesBit 155 = .ok (.iadd, 1) := by decide +kernel
theorem dX6_takesBit_156 : decode cX6_takesBit 156 = .ok (.iastore, 1) := by decide +kernel
theorem dX6_takesBit_157 : decode cX6_takesBit 157 = .ok (.aload_n 0, 1) := by decide +kernel
theorem dX6_takesBit_158 : decode cX6_takesBit 158 = .ok (.invokevirtual 109, 3) := by decide +kernel
theorem dX6_takesBit_161 : decode cX6_takesBit 161 = .ok (.return_, 1) := by decide +kernel
theorem dX6_receive_0 : decode cX6_receive 0 = .ok (.aload_n 0, 1) := by decide +kernel
theorem dX6_receive_1 : decode cX6_receive 1 = .ok (.iload_n 1, 1) := by decide +kernel
theorem dX6_receive_2 : decode cX6_receive 2 = .ok (.iconst 1, 1) := by decide +kernel
theorem dX6_receive_3 : decode cX6_receive 3 = .ok (.sipush 2048, 3) := by decide +kernel
theorem dX6_receive_6 : decode cX6_receive 6 = .ok (.invokestatic 26, 3) := by decide +kernel
theorem dX6_receive_9 : decode cX6_receive 9 = .ok (.ifCond .ne 7, 3) := by decide +kernel
theorem dX6_receive_12 : decode cX6_receive 12 = .ok (.iconst 1, 1) := by decide +kernel
theorem dX6_receive_13 : decode cX6_receive 13 = .ok (.goto 27, 3) := by decide +kernel
theorem dX6_receive_16 : decode cX6_receive 16 = .ok (.aload_n 0, 1) := by decide +kernel
theorem dX6_receive_17 : decode cX6_receive 17 = .ok (.getfield 7, 3) := by decide +kernel
theorem dX6_receive_20 : decode cX6_receive 20 = .ok (.iconst 3, 1) := by decide +kernel
theorem dX6_receive_21 : decode cX6_receive 21 = .ok (.iaload, 1) := by decide +kernel
theorem dX6_receive_22 : decode cX6_receive 22 = .ok (.ifCond .eq 13, 3) := by decide +kernel
theorem dX6_receive_25 : decode cX6_receive 25 = .ok (.iload_n 1, 1) := by decide +kernel
theorem dX6_receive_26 : decode cX6_receive 26 = .ok (.aload_n 0, 1) := by decide +kernel
theorem dX6_receive_27 : decode cX6_receive 27 = .ok (.getfield 7, 3) := by decide +kernel
theorem dX6_receive_30 : decode cX6_receive 30 = .ok (.iconst 5, 1) := by decide +kernel
theorem dX6_receive_31 : decode cX6_receive 31 = .ok (.iaload, 1) := by decide +kernel
theorem dX6_receive_32 : decode cX6_receive 32 = .ok (.if_icmp .le 7, 3) := by decide +kernel
theorem dX6_receive_35 : decode cX6_receive 35 = .ok (.iconst 2, 1) := by decide +kernel
theorem dX6_receive_36 : decode cX6_receive 36 = .ok (.goto 4, 3) := by decide +kernel
theorem dX6_receive_39 : decode cX6_receive 39 = .ok (.iconst 0, 1) := by decide +kernel
theorem dX6_receive_40 : decode cX6_receive 40 = .ok (.putfield 19, 3) := by decide +kernel
theorem dX6_receive_43 : decode cX6_receive 43 = .ok (.aload_n 0, 1) := by decide +kernel
theorem dX6_receive_44 : decode cX6_receive 44 = .ok (.getfield 19, 3) := by decide +kernel
theorem dX6_receive_47 : decode cX6_receive 47 = .ok (.ifCond .eq 5, 3) := by decide +kernel
theorem dX6_receive_50 : decode cX6_receive 50 = .ok (.iconst 0, 1) := by decide +kernel
theorem dX6_receive_51 : decode cX6_receive 51 = .ok (.ireturn, 1) := by decide +kernel
theorem dX6_receive_52 : decode cX6_receive 52 = .ok (.aload_n 0, 1) := by decide +kernel
theorem dX6_receive_53 : decode cX6_receive 53 = .ok (.invokevirtual 33, 3) := by decide +kernel
theorem dX6_receive_56 : decode cX6_receive 56 = .ok (.aload_n 0, 1) := by decide +kernel
theorem dX6_receive_57 : decode cX6_receive 57 = .ok (.getfield 7, 3) := by decide +kernel
theorem dX6_receive_60 : decode cX6_receive 60 = .ok (.bipush 9, 2) := by decide +kernel
theorem dX6_receive_62 : decode cX6_receive 62 = .ok (.iaload, 1) := by decide +kernel
theorem dX6_receive_63 : decode cX6_receive 63 = .ok (.istore_n 2, 1) := by decide +kernel
theorem dX6_receive_64 : decode cX6_receive 64 = .ok (.iconst 0, 1) := by decide +kernel
theorem dX6_receive_65 : decode cX6_receive 65 = .ok (.istore_n 3, 1) := by decide +kernel
theorem dX6_receive_66 : decode cX6_receive 66 = .ok (.iload_n 3, 1) := by decide +kernel
theorem dX6_receive_67 : decode cX6_receive 67 = .ok (.iload_n 1, 1) := by decide +kernel
theorem dX6_receive_68 : decode cX6_receive 68 = .ok (.if_icmp .ge 23, 3) := by decide +kernel
theorem dX6_receive_71 : decode cX6_receive 71 = .ok (.aload_n 0, 1) := by decide +kernel
theorem dX6_receive_72 : decode cX6_receive 72 = .ok (.aload_n 0, 1) := by decide +kernel
theorem dX6_receive_73 : decode cX6_receive 73 = .ok (.getfield 7, 3) := by decide +kernel
theorem dX6_receive_76 : decode cX6_receive 76 = .ok (.sipush 329, 3) := by decide +kernel
theorem dX6_receive_79 : decode cX6_receive 79 = .ok (.iload_n 3, 1) := by decide +kernel
theorem dX6_receive_80 : decode cX6_receive 80 = .ok (.iadd, 1) := by decide +kernel
theorem dX6_receive_81 : decode cX6_receive 81 = .ok (.iaload, 1) := by decide +kernel
theorem dX6_receive_82 : decode cX6_receive 82 = .ok (.invokevirtual 122, 3) := by decide +kernel
theorem dX6_receive_85 : decode cX6_receive 85 = .ok (.iinc 3 1, 3) := by decide +kernel
theorem dX6_receive_88 : decode cX6_receive 88 = .ok (.goto (-22), 3) := by decide +kernel
theorem dX6_receive_91 : decode cX6_receive 91 = .ok (.aload_n 0, 1) := by decide +kernel
theorem dX6_receive_92 : decode cX6_receive 92 = .ok (.getfield 7, 3) := by decide +kernel
theorem dX6_receive_95 : decode cX6_receive 95 = .ok (.iconst 5, 1) := by decide +kernel
theorem dX6_receive_96 : decode cX6_receive 96 = .ok (.dup2, 1) := by decide +kernel
theorem dX6_receive_97 : decode cX6_receive 97 = .ok (.iaload, 1) := by decide +kernel
theorem dX6_receive_98 : decode cX6_receive 98 = .ok (.iload_n 1, 1) := by decide +kernel
theorem dX6_receive_99 : decode cX6_receive 99 = .ok (.isub, 1) := by decide +kernel
theorem dX6_receive_100 : decode cX6_receive 100 = .ok (.iastore, 1) := by decide +kernel
theorem dX6_receive_101 : decode cX6_receive 101 = .ok (.iconst 0, 1) := by decide +kernel
theorem dX6_receive_102 : decode cX6_receive 102 = .ok (.istore_n 3, 1) := by decide +kernel
theorem dX6_receive_103 : decode cX6_receive 103 = .ok (.iload_n 3, 1) := by decide +kernel
theorem dX6_receive_104 : decode cX6_receive 104 = .ok (.aload_n 0, 1) := by decide +kernel
theorem dX6_receive_105 : decode cX6_receive 105 = .ok (.getfield 7, 3) := by decide +kernel
theorem dX6_receive_108 : decode cX6_receive 108 = .ok (.iconst 5, 1) := by decide +kernel
theorem dX6_receive_109 : decode cX6_receive 109 = .ok (.iaload, 1) := by decide +kernel
theorem dX6_receive_110 : decode cX6_receive 110 = .ok (.if_icmp .ge 31, 3) := by decide +kernel
theorem dX6_receive_113 : decode cX6_receive 113 = .ok (.aload_n 0, 1) := by decide +kernel
theorem dX6_receive_114 : decode cX6_receive 114 = .ok (.getfield 7, 3) := by decide +kernel
theorem dX6_receive_117 : decode cX6_receive 117 = .ok (.sipush 329, 3) := by decide +kernel
theorem dX6_receive_120 : decode cX6_receive 120 = .ok (.iload_n 3, 1) := by decide +kernel
theorem dX6_receive_121 : decode cX6_receive 121 = .ok (.iadd, 1) := by decide +kernel
theorem dX6_receive_122 : decode cX6_receive 122 = .ok (.aload_n 0, 1) := by decide +kernel
theorem dX6_receive_123 : decode cX6_receive 123 = .ok (.getfield 7, 3) := by decide +kernel
theorem dX6_receive_126 : decode cX6_receive 126 = .ok (.sipush 329, 3) := by decide +kernel
theorem dX6_receive_129 : decode cX6_receive 129 = .ok (.iload_n 3, 1) := by decide +kernel
theorem dX6_receive_130 : decode cX6_receive 130 = .ok (.iadd, 1) := by decide +kernel
theorem dX6_receive_131 : decode cX6_receive 131 = .ok (.iload_n 1, 1) := by decide +kernel
theorem dX6_receive_132 : decode cX6_receive 132 = .ok (.iadd, 1) := by decide +kernel
theorem dX6_receive_133 : decode cX6_receive 133 = .ok (.iaload, 1) := by decide +kernel
theorem dX6_receive_134 : decode cX6_receive 134 = .ok (.iastore, 1) := by decide +kernel
theorem dX6_receive_135 : decode cX6_receive 135 = .ok (.iinc 3 1, 3) := by decide +kernel
theorem dX6_receive_138 : decode cX6_receive 138 = .ok (.goto (-35), 3) := by decide +kernel
theorem dX6_receive_141 : decode cX6_receive 141 = .ok (.aload_n 0, 1) := by decide +kernel
theorem dX6_receive_142 : decode cX6_receive 142 = .ok (.getfield 7, 3) := by decide +kernel
theorem dX6_receive_145 : decode cX6_receive 145 = .ok (.bipush 9, 2) := by decide +kernel
theorem dX6_receive_147 : decode cX6_receive 147 = .ok (.iaload, 1) := by decide +kernel
theorem dX6_receive_148 : decode cX6_receive 148 = .ok (.iload_n 2, 1) := by decide +kernel
theorem dX6_receive_149 : decode cX6_receive 149 = .ok (.isub, 1) := by decide +kernel
theorem dX6_receive_150 : decode cX6_receive 150 = .ok (.ireturn, 1) := by decide +kernel
theorem dX6_receiverState_0 : decode cX6_receiverState 0 = .ok (.aload_n 0, 1) := by decide +kernel
theorem dX6_receiverState_1 : decode cX6_receiverState 1 = .ok (.iconst 0, 1) := by decide +kernel
theorem dX6_receiverState_2 : decode cX6_receiverState 2 = .ok (.putfield 19, 3) := by decide +kernel
theorem dX6_receiverState_5 : decode cX6_receiverState 5 = .ok (.aload_n 0, 1) := by decide +kernel
theorem dX6_receiverState_6 : decode cX6_receiverState 6 = .ok (.getfield 7, 3) := by decide +kernel
theorem dX6_receiverState_9 : decode cX6_receiverState 9 = .ok (.bipush 7, 2) := by decide +kernel
theorem dX6_receiverState_11 : decode cX6_receiverState 11 = .ok (.iaload, 1) := by decide +kernel
theorem dX6_receiverState_12 : decode cX6_receiverState 12 = .ok (.ireturn, 1) := by decide +kernel
theorem dX6_received_0 : decode cX6_received 0 = .ok (.aload_n 0, 1) := by decide +kernel
theorem dX6_received_1 : decode cX6_received 1 = .ok (.iload_n 1, 1) := by decide +kernel
theorem dX6_received_2 : decode cX6_received 2 = .ok (.iconst 0, 1) := by decide +kernel
theorem dX6_received_3 : decode cX6_received 3 = .ok (.iconst 5, 1) := by decide +kernel
theorem dX6_received_4 : decode cX6_received 4 = .ok (.invokestatic 26, 3) := by decide +kernel
theorem dX6_received_7 : decode cX6_received 7 = .ok (.ifCond .eq 7, 3) := by decide +kernel
theorem dX6_received_10 : decode cX6_received 10 = .ok (.iconst 0, 1) := by decide +kernel
theorem dX6_received_11 : decode cX6_received 11 = .ok (.goto 4, 3) := by decide +kernel
theorem dX6_received_14 : decode cX6_received 14 = .ok (.iconst 1, 1) := by decide +kernel
theorem dX6_received_15 : decode cX6_received 15 = .ok (.putfield 19, 3) := by decide +kernel
theorem dX6_received_18 : decode cX6_received 18 = .ok (.aload_n 0, 1) := by decide +kernel
theorem dX6_received_19 : decode cX6_received 19 = .ok (.getfield 19, 3) := by decide +kernel
theorem dX6_received_22 : decode cX6_received 22 = .ok (.ifCond .eq 7, 3) := by decide +kernel
theorem dX6_received_25 : decode cX6_received 25 = .ok (.iconst 0, 1) := by decide +kernel
theorem dX6_received_26 : decode cX6_received 26 = .ok (.goto 12, 3) := by decide +kernel
theorem dX6_received_29 : decode cX6_received 29 = .ok (.aload_n 0, 1) := by decide +kernel
theorem dX6_received_30 : decode cX6_received 30 = .ok (.getfield 7, 3) := by decide +kernel
theorem dX6_received_33 : decode cX6_received 33 = .ok (.bipush 9, 2) := by decide +kernel
theorem dX6_received_35 : decode cX6_received 35 = .ok (.iload_n 1, 1) := by decide +kernel
theorem dX6_received_36 : decode cX6_received 36 = .ok (.iadd, 1) := by decide +kernel
theorem dX6_received_37 : decode cX6_received 37 = .ok (.iaload, 1) := by decide +kernel
theorem dX6_received_38 : decode cX6_received 38 = .ok (.ireturn, 1) := by decide +kernel
theorem dX6_tells_0 : decode cX6_tells 0 = .ok (.aload_n 0, 1) := by decide +kernel
theorem dX6_tells_1 : decode cX6_tells 1 = .ok (.aload_n 0, 1) := by decide +kernel
theorem dX6_tells_2 : decode cX6_tells 2 = .ok (.iload_n 1, 1) := by decide +kernel
theorem dX6_tells_3 : decode cX6_tells 3 = .ok (.invokevirtual 75, 3) := by decide +kernel
theorem dX6_tells_6 : decode cX6_tells 6 = .ok (.ifCond .eq 7, 3) := by decide +kernel
theorem dX6_tells_9 : decode cX6_tells 9 = .ok (.iconst 0, 1) := by decide +kernel
theorem dX6_tells_10 : decode cX6_tells 10 = .ok (.goto 4, 3) := by decide +kernel
theorem dX6_tells_13 : decode cX6_tells 13 = .ok (.iconst 1, 1) := by decide +kernel
theorem dX6_tells_14 : decode cX6_tells 14 = .ok (.putfield 19, 3) := by decide +kernel
theorem dX6_tells_17 : decode cX6_tells 17 = .ok (.aload_n 0, 1) := by decide +kernel
theorem dX6_tells_18 : decode cX6_tells 18 = .ok (.getfield 19, 3) := by decide +kernel
theorem dX6_tells_21 : decode cX6_tells 21 = .ok (.ifCond .eq 7, 3) := by decide +kernel
theorem dX6_tells_24 : decode cX6_tells 24 = .ok (.iconst 0, 1) := by decide +kernel
theorem dX6_tells_25 : decode cX6_tells 25 = .ok (.goto 9, 3) := by decide +kernel
theorem dX6_tells_28 : decode cX6_tells 28 = .ok (.aload_n 0, 1) := by decide +kernel
theorem dX6_tells_29 : decode cX6_tells 29 = .ok (.iload_n 1, 1) := by decide +kernel
theorem dX6_tells_30 : decode cX6_tells 30 = .ok (.iload_n 2, 1) := by decide +kernel
theorem dX6_tells_31 : decode cX6_tells 31 = .ok (.invokevirtual 43, 3) := by decide +kernel
theorem dX6_tells_34 : decode cX6_tells 34 = .ok (.ireturn, 1) := by decide +kernel
theorem dX6_sample_0 : decode cX6_sample 0 = .ok (.aload_n 0, 1) := by decide +kernel
theorem dX6_sample_1 : decode cX6_sample 1 = .ok (.iload_n 1, 1) := by decide +kernel
theorem dX6_sample_2 : decode cX6_sample 2 = .ok (.iconst 2, 1) := by decide +kernel
theorem dX6_sample_3 : decode cX6_sample 3 = .ok (.invokevirtual 125, 3) := by decide +kernel
theorem dX6_sample_6 : decode cX6_sample 6 = .ok (.ireturn, 1) := by decide +kernel
theorem dX6_samples_0 : decode cX6_samples 0 = .ok (.aload_n 0, 1) := by decide +kernel
theorem dX6_samples_1 : decode cX6_samples 1 = .ok (.iload_n 1, 1) := by decide +kernel
theorem dX6_samples_2 : decode cX6_samples 2 = .ok (.iconst 3, 1) := by decide +kernel
theorem dX6_samples_3 : decode cX6_samples 3 = .ok (.invokevirtual 125, 3) := by decide +kernel
theorem dX6_samples_6 : decode cX6_samples 6 = .ok (.ireturn, 1) := by decide +kernel
theorem dX6_setMode_0 : decode cX6_setMode 0 = .ok (.aload_n 0, 1) := by decide +kernel
theorem dX6_setMode_1 : decode cX6_setMode 1 = .ok (.iload_n 1, 1) := by decide +kernel
theorem dX6_setMode_2 : decode cX6_setMode 2 = .ok (.iconst 0, 1) := by decide +kernel
theorem dX6_setMode_3 : decode cX6_setMode 3 = .ok (.iconst 2, 1) := by decide +kernel
theorem dX6_setMode_4 : decode cX6_setMode 4 = .ok (.invokestatic 26, 3) := by decide +kernel
theorem dX6_setMode_7 : decode cX6_setMode 7 = .ok (.ifCond .eq 7, 3) := by decide +kernel
theorem dX6_setMode_10 : decode cX6_setMode 10 = .ok (.iconst 0, 1) := by decide +kernel
theorem dX6_setMode_11 : decode cX6_setMode 11 = .ok (.goto 4, 3) := by decide +kernel
theorem dX6_setMode_14 : decode cX6_setMode 14 = .ok (.iconst 1, 1) := by decide +kernel
theorem dX6_setMode_15 : decode cX6_setMode 15 = .ok (.putfield 19, 3) := by decide +kernel
theorem dX6_setMode_18 : decode cX6_setMode 18 = .ok (.aload_n 0, 1) := by decide +kernel
theorem dX6_setMode_19 : decode cX6_setMode 19 = .ok (.getfield 19, 3) := by decide +kernel
theorem dX6_setMode_22 : decode cX6_setMode 22 = .ok (.ifCond .eq 5, 3) := by decide +kernel
theorem dX6_setMode_25 : decode cX6_setMode 25 = .ok (.iconst 0, 1) := by decide +kernel
theorem dX6_setMode_26 : decode cX6_setMode 26 = .ok (.ireturn, 1) := by decide +kernel
theorem dX6_setMode_27 : decode cX6_setMode 27 = .ok (.aload_n 0, 1) := by decide +kernel
theorem dX6_setMode_28 : decode cX6_setMode 28 = .ok (.invokevirtual 33, 3) := by decide +kernel
theorem dX6_setMode_31 : decode cX6_setMode 31 = .ok (.aload_n 0, 1) := by decide +kernel
theorem dX6_setMode_32 : decode cX6_setMode 32 = .ok (.getfield 7, 3) := by decide +kernel
theorem dX6_setMode_35 : decode cX6_setMode 35 = .ok (.bipush 6, 2) := by decide +kernel
theorem dX6_setMode_37 : decode cX6_setMode 37 = .ok (.iaload, 1) := by decide +kernel
theorem dX6_setMode_38 : decode cX6_setMode 38 = .ok (.istore_n 2, 1) := by decide +kernel
theorem dX6_setMode_39 : decode cX6_setMode 39 = .ok (.aload_n 0, 1) := by decide +kernel
theorem dX6_setMode_40 : decode cX6_setMode 40 = .ok (.getfield 7, 3) := by decide +kernel
theorem dX6_setMode_43 : decode cX6_setMode 43 = .ok (.bipush 6, 2) := by decide +kernel
theorem dX6_setMode_45 : decode cX6_setMode 45 = .ok (.iload_n 1, 1) := by decide +kernel
theorem dX6_setMode_46 : decode cX6_setMode 46 = .ok (.iastore, 1) := by decide +kernel
theorem dX6_setMode_47 : decode cX6_setMode 47 = .ok (.iload_n 2, 1) := by decide +kernel
theorem dX6_setMode_48 : decode cX6_setMode 48 = .ok (.ireturn, 1) := by decide +kernel
theorem dX6_setLimits_0 : decode cX6_setLimits 0 = .ok (.aload_n 0, 1) := by decide +kernel
theorem dX6_setLimits_1 : decode cX6_setLimits 1 = .ok (.aload_n 0, 1) := by decide +kernel
theorem dX6_setLimits_2 : decode cX6_setLimits 2 = .ok (.iload_n 1, 1) := by decide +kernel
theorem dX6_setLimits_3 : decode cX6_setLimits 3 = .ok (.invokevirtual 75, 3) := by decide +kernel
theorem dX6_setLimits_6 : decode cX6_setLimits 6 = .ok (.ifCond .ne 7, 3) := by decide +kernel
theorem dX6_setLimits_9 : decode cX6_setLimits 9 = .ok (.iconst 1, 1) := by decide +kernel
theorem dX6_setLimits_10 : decode cX6_setLimits 10 = .ok (.goto 35, 3) := by decide +kernel
theorem dX6_setLimits_13 : decode cX6_setLimits 13 = .ok (.iload_n 2, 1) := by decide +kernel
theorem dX6_setLimits_14 : decode cX6_setLimits 14 = .ok (.iconst 0, 1) := by decide +kernel
theorem dX6_setLimits_15 : decode cX6_setLimits 15 = .ok (.iconst 2, 1) := by decide +kernel
theorem dX6_setLimits_16 : decode cX6_setLimits 16 = .ok (.invokestatic 26, 3) := by decide +kernel
theorem dX6_setLimits_19 : decode cX6_setLimits 19 = .ok (.ifCond .eq 21, 3) := by decide +kernel
theorem dX6_setLimits_22 : decode cX6_setLimits 22 = .ok (.iload_n 3, 1) := by decide +kernel
theorem dX6_setLimits_23 : decode cX6_setLimits 23 = .ok (.ifCond .lt 17, 3) := by decide +kernel
theorem dX6_setLimits_26 : decode cX6_setLimits 26 = .ok (.iload 4, 2) := by decide +kernel
theorem dX6_setLimits_28 : decode cX6_setLimits 28 = .ok (.sipush 255, 3) := by decide +kernel
theorem dX6_setLimits_31 : decode cX6_setLimits 31 = .ok (.if_icmp .gt 9, 3) := by decide +kernel
theorem dX6_setLimits_34 : decode cX6_setLimits 34 = .ok (.iload_n 3, 1) := by decide +kernel
theorem dX6_setLimits_35 : decode cX6_setLimits 35 = .ok (.iload 4, 2) := by decide +kernel
theorem dX6_setLimits_37 : decode cX6_setLimits 37 = .ok (.if_icmp .le 7, 3) := by decide +kernel
theorem dX6_setLimits_40 : decode cX6_setLimits 40 = .ok (.iconst 2, 1) := by decide +kernel
theorem dX6_setLimits_41 : decode cX6_setLimits 41 = .ok (.goto 4, 3) := by decide +kernel
theorem dX6_setLimits_44 : decode cX6_setLimits 44 = .ok (.iconst 0, 1) := by decide +kernel
theorem dX6_setLimits_45 : decode cX6_setLimits 45 = .ok (.putfield 19, 3) := by decide +kernel
theorem dX6_setLimits_48 : decode cX6_setLimits 48 = .ok (.aload_n 0, 1) := by decide +kernel
theorem dX6_setLimits_49 : decode cX6_setLimits 49 = .ok (.getfield 19, 3) := by decide +kernel
theorem dX6_setLimits_52 : decode cX6_setLimits 52 = .ok (.ifCond .eq 5, 3) := by decide +kernel
theorem dX6_setLimits_55 : decode cX6_setLimits 55 = .ok (.iconst 0, 1) := by decide +kernel
theorem dX6_setLimits_56 : decode cX6_setLimits 56 = .ok (.ireturn, 1) := by decide +kernel
theorem dX6_setLimits_57 : decode cX6_setLimits 57 = .ok (.aload_n 0, 1) := by decide +kernel
theorem dX6_setLimits_58 : decode cX6_setLimits 58 = .ok (.invokevirtual 33, 3) := by decide +kernel
theorem dX6_setLimits_61 : decode cX6_setLimits 61 = .ok (.iconst 4, 1) := by decide +kernel
theorem dX6_setLimits_62 : decode cX6_setLimits 62 = .ok (.iconst 2, 1) := by decide +kernel
theorem dX6_setLimits_63 : decode cX6_setLimits 63 = .ok (.iload_n 2, 1) := by decide +kernel
theorem dX6_setLimits_64 : decode cX6_setLimits 64 = .ok (.imul, 1) := by decide +kernel
theorem dX6_setLimits_65 : decode cX6_setLimits 65 = .ok (.iadd, 1) := by decide +kernel
theorem dX6_setLimits_66 : decode cX6_setLimits 66 = .ok (.istore 5, 2) := by decide +kernel
theorem dX6_setLimits_68 : decode cX6_setLimits 68 = .ok (.sipush 1000, 3) := by decide +kernel
theorem dX6_setLimits_71 : decode cX6_setLimits 71 = .ok (.aload_n 0, 1) := by decide +kernel
theorem dX6_setLimits_72 : decode cX6_setLimits 72 = .ok (.iload_n 1, 1) := by decide +kernel
theorem dX6_setLimits_73 : decode cX6_setLimits 73 = .ok (.iload 5, 2) := by decide +kernel
theorem dX6_setLimits_75 : decode cX6_setLimits 75 = .ok (.invokevirtual 43, 3) := by decide +kernel
theorem dX6_setLimits_78 : decode cX6_setLimits 78 = .ok (.imul, 1) := by decide +kernel
theorem dX6_setLimits_79 : decode cX6_setLimits 79 = .ok (.aload_n 0, 1) := by decide +kernel
theorem dX6_setLimits_80 : decode cX6_setLimits 80 = .ok (.iload_n 1, 1) := by decide +kernel
theorem dX6_setLimits_81 : decode cX6_setLimits 81 = .ok (.iload 5, 2) := by decide +kernel
theorem dX6_setLimits_83 : decode cX6_setLimits 83 = .ok (.iconst 1, 1) := by decide +kernel
theorem dX6_setLimits_84 : decode cX6_setLimits 84 = .ok (.iadd, 1) := by decide +kernel
theorem dX6_setLimits_85 : decode cX6_setLimits 85 = .ok (.invokevirtual 43, 3) := by decide +kernel
theorem dX6_setLimits_88 : decode cX6_setLimits 88 = .ok (.iadd, 1) := by decide +kernel
theorem dX6_setLimits_89 : decode cX6_setLimits 89 = .ok (.istore 6, 2) := by decide +kernel
theorem dX6_setLimits_91 : decode cX6_setLimits 91 = .ok (.aload_n 0, 1) := by decide +kernel
theorem dX6_setLimits_92 : decode cX6_setLimits 92 = .ok (.iload_n 1, 1) := by decide +kernel
theorem dX6_setLimits_93 : decode cX6_setLimits 93 = .ok (.iload 5, 2) := by decide +kernel
theorem dX6_setLimits_95 : decode cX6_setLimits 95 = .ok (.iload_n 3, 1) := by decide +kernel
theorem dX6_setLimits_96 : decode cX6_setLimits 96 = .ok (.invokevirtual 39, 3) := by decide +kernel
theorem dX6_setLimits_99 : decode cX6_setLimits 99 = .ok (.aload_n 0, 1) := by decide +kernel
theorem dX6_setLimits_100 : decode cX6_setLimits 100 = .ok (.iload_n 1, 1) := by decide +kernel
theorem dX6_setLimits_101 : decode cX6_setLimits 101 = .ok (.iload 5, 2) := by decide +kernel
theorem dX6_setLimits_103 : decode cX6_setLimits 103 = .ok (.iconst 1, 1) := by decide +kernel
theorem dX6_setLimits_104 : decode cX6_setLimits 104 = .ok (.iadd, 1) := by decide +kernel
theorem dX6_setLimits_105 : decode cX6_setLimits 105 = .ok (.iload 4, 2) := by decide +kernel
theorem dX6_setLimits_107 : decode cX6_setLimits 107 = .ok (.invokevirtual 39, 3) := by decide +kernel
theorem dX6_setLimits_110 : decode cX6_setLimits 110 = .ok (.iload 6, 2) := by decide +kernel
theorem dX6_setLimits_112 : decode cX6_setLimits 112 = .ok (.ireturn, 1) := by decide +kernel
theorem dX6_setPersistence_0 : decode cX6_setPersistence 0 = .ok (.aload_n 0, 1) := by decide +kernel
theorem dX6_setPersistence_1 : decode cX6_setPersistence 1 = .ok (.aload_n 0, 1) := by decide +kernel
theorem dX6_setPersistence_2 : decode cX6_setPersistence 2 = .ok (.iload_n 1, 1) := by decide +kernel
theorem dX6_setPersistence_3 : decode cX6_setPersistence 3 = .ok (.invokevirtual 75, 3) := by decide +kernel
theorem dX6_setPersistence_6 : decode cX6_setPersistence 6 = .ok (.ifCond .ne 7, 3) := by decide +kernel
theorem dX6_setPersistence_9 : decode cX6_setPersistence 9 = .ok (.iconst 1, 1) := by decide +kernel
theorem dX6_setPersistence_10 : decode cX6_setPersistence 10 = .ok (.goto 17, 3) := by decide +kernel
theorem dX6_setPersistence_13 : decode cX6_setPersistence 13 = .ok (.iload_n 2, 1) := by decide +kernel
theorem dX6_setPersistence_14 : decode cX6_setPersistence 14 = .ok (.iconst 1, 1) := by decide +kernel
theorem dX6_setPersistence_15 : decode cX6_setPersistence 15 = .ok (.iconst 5, 1) := by decide +kernel
theorem dX6_setPersistence_16 : decode cX6_setPersistence 16 = .ok (.invokestatic 26, 3) := by decide +kernel
theorem dX6_setPersistence_19 : decode cX6_setPersistence 19 = .ok (.ifCond .ne 7, 3) := by decide +kernel
theorem dX6_setPersistence_22 : decode cX6_setPersistence 22 = .ok (.iconst 2, 1) := by decide +kernel
theorem dX6_setPersistence_23 : decode cX6_setPersistence 23 = .ok (.goto 4, 3) := by decide +kernel
theorem dX6_setPersistence_26 : decode cX6_setPersistence 26 = .ok (.iconst 0, 1) := by decide +kernel
theorem dX6_setPersistence_27 : decode cX6_setPersistence 27 = .ok (.putfield 19, 3) := by decide +kernel
theorem dX6_setPersistence_30 : decode cX6_setPersistence 30 = .ok (.aload_n 0, 1) := by decide +kernel
theorem dX6_setPersistence_31 : decode cX6_setPersistence 31 = .ok (.getfield 19, 3) := by decide +kernel
theorem dX6_setPersistence_34 : decode cX6_setPersistence 34 = .ok (.ifCond .eq 5, 3) := by decide +kernel
theorem dX6_setPersistence_37 : decode cX6_setPersistence 37 = .ok (.iconst 0, 1) := by decide +kernel
theorem dX6_setPersistence_38 : decode cX6_setPersistence 38 = .ok (.ireturn, 1) := by decide +kernel
theorem dX6_setPersistence_39 : decode cX6_setPersistence 39 = .ok (.aload_n 0, 1) := by decide +kernel
theorem dX6_setPersistence_40 : decode cX6_setPersistence 40 = .ok (.invokevirtual 33, 3) := by decide +kernel
theorem dX6_setPersistence_43 : decode cX6_setPersistence 43 = .ok (.aload_n 0, 1) := by decide +kernel
theorem dX6_setPersistence_44 : decode cX6_setPersistence 44 = .ok (.iload_n 1, 1) := by decide +kernel
theorem dX6_setPersistence_45 : decode cX6_setPersistence 45 = .ok (.bipush 10, 2) := by decide +kernel
theorem dX6_setPersistence_47 : decode cX6_setPersistence 47 = .ok (.invokevirtual 43, 3) := by decide +kernel
theorem dX6_setPersistence_50 : decode cX6_setPersistence 50 = .ok (.istore_n 3, 1) := by decide +kernel
theorem dX6_setPersistence_51 : decode cX6_setPersistence 51 = .ok (.aload_n 0, 1) := by decide +kernel
theorem dX6_setPersistence_52 : decode cX6_setPersistence 52 = .ok (.iload_n 1, 1) := by decide +kernel
theorem dX6_setPersistence_53 : decode cX6_setPersistence 53 = .ok (.bipush 10, 2) := by decide +kernel
theorem dX6_setPersistence_55 : decode cX6_setPersistence 55 = .ok (.iload_n 2, 1) := by decide +kernel
theorem dX6_setPersistence_56 : decode cX6_setPersistence 56 = .ok (.invokevirtual 39, 3) := by decide +kernel
theorem dX6_setPersistence_59 : decode cX6_setPersistence 59 = .ok (.iload_n 3, 1) := by decide +kernel
theorem dX6_setPersistence_60 : decode cX6_setPersistence 60 = .ok (.ireturn, 1) := by decide +kernel
theorem dX6_hasAlarm_0 : decode cX6_hasAlarm 0 = .ok (.aload_n 0, 1) := by decide +kernel
theorem dX6_hasAlarm_1 : decode cX6_hasAlarm 1 = .ok (.iload_n 1, 1) := by decide +kernel
theorem dX6_hasAlarm_2 : decode cX6_hasAlarm 2 = .ok (.bipush 11, 2) := by decide +kernel
theorem dX6_hasAlarm_4 : decode cX6_hasAlarm 4 = .ok (.invokevirtual 125, 3) := by decide +kernel
theorem dX6_hasAlarm_7 : decode cX6_hasAlarm 7 = .ok (.iconst 1, 1) := by decide +kernel
theorem dX6_hasAlarm_8 : decode cX6_hasAlarm 8 = .ok (.if_icmp .ne 7, 3) := by decide +kernel
theorem dX6_hasAlarm_11 : decode cX6_hasAlarm 11 = .ok (.iconst 1, 1) := by decide +kernel
theorem dX6_hasAlarm_12 : decode cX6_hasAlarm 12 = .ok (.goto 4, 3) := by decide +kernel
theorem dX6_hasAlarm_15 : decode cX6_hasAlarm 15 = .ok (.iconst 0, 1) := by decide +kernel
theorem dX6_hasAlarm_16 : decode cX6_hasAlarm 16 = .ok (.ireturn, 1) := by decide +kernel
theorem dX6_alarms_0 : decode cX6_alarms 0 = .ok (.aload_n 0, 1) := by decide +kernel
theorem dX6_alarms_1 : decode cX6_alarms 1 = .ok (.iload_n 1, 1) := by decide +kernel
theorem dX6_alarms_2 : decode cX6_alarms 2 = .ok (.bipush 13, 2) := by decide +kernel
theorem dX6_alarms_4 : decode cX6_alarms 4 = .ok (.invokevirtual 125, 3) := by decide +kernel
theorem dX6_alarms_7 : decode cX6_alarms 7 = .ok (.ireturn, 1) := by decide +kernel
theorem dX6_undo_0 : decode cX6_undo 0 = .ok (.aload_n 0, 1) := by decide +kernel
theorem dX6_undo_1 : decode cX6_undo 1 = .ok (.aload_n 0, 1) := by decide +kernel
theorem dX6_undo_2 : decode cX6_undo 2 = .ok (.getfield 23, 3) := by decide +kernel
theorem dX6_undo_5 : decode cX6_undo 5 = .ok (.ifCond .ne 7, 3) := by decide +kernel
theorem dX6_undo_8 : decode cX6_undo 8 = .ok (.iconst 1, 1) := by decide +kernel
theorem dX6_undo_9 : decode cX6_undo 9 = .ok (.goto 4, 3) := by decide +kernel
theorem dX6_undo_12 : decode cX6_undo 12 = .ok (.iconst 0, 1) := by decide +kernel
theorem dX6_undo_13 : decode cX6_undo 13 = .ok (.putfield 19, 3) := by decide +kernel
theorem dX6_undo_16 : decode cX6_undo 16 = .ok (.aload_n 0, 1) := by decide +kernel
theorem dX6_undo_17 : decode cX6_undo 17 = .ok (.getfield 19, 3) := by decide +kernel
theorem dX6_undo_20 : decode cX6_undo 20 = .ok (.ifCond .eq 5, 3) := by decide +kernel
theorem dX6_undo_23 : decode cX6_undo 23 = .ok (.iconst 0, 1) := by decide +kernel
theorem dX6_undo_24 : decode cX6_undo 24 = .ok (.ireturn, 1) := by decide +kernel
theorem dX6_undo_25 : decode cX6_undo 25 = .ok (.aload_n 0, 1) := by decide +kernel
theorem dX6_undo_26 : decode cX6_undo 26 = .ok (.dup, 1) := by decide +kernel
theorem dX6_undo_27 : decode cX6_undo 27 = .ok (.getfield 23, 3) := by decide +kernel
theorem dX6_undo_30 : decode cX6_undo 30 = .ok (.iconst 1, 1) := by decide +kernel
theorem dX6_undo_31 : decode cX6_undo 31 = .ok (.isub, 1) := by decide +kernel
theorem dX6_undo_32 : decode cX6_undo 32 = .ok (.putfield 23, 3) := by decide +kernel
theorem dX6_undo_35 : decode cX6_undo 35 = .ok (.iconst 0, 1) := by decide +kernel
theorem dX6_undo_36 : decode cX6_undo 36 = .ok (.istore_n 1, 1) := by decide +kernel
theorem dX6_undo_37 : decode cX6_undo 37 = .ok (.iload_n 1, 1) := by decide +kernel
theorem dX6_undo_38 : decode cX6_undo 38 = .ok (.sipush 2377, 3) := by decide +kernel
theorem dX6_undo_41 : decode cX6_undo 41 = .ok (.if_icmp .ge 30, 3) := by decide +kernel
theorem dX6_undo_44 : decode cX6_undo 44 = .ok (.aload_n 0, 1) := by decide +kernel
theorem dX6_undo_45 : decode cX6_undo 45 = .ok (.getfield 7, 3) := by decide +kernel
theorem dX6_undo_48 : decode cX6_undo 48 = .ok (.iload_n 1, 1) := by decide +kernel
theorem dX6_undo_49 : decode cX6_undo 49 = .ok (.aload_n 0, 1) := by decide +kernel
theorem dX6_undo_50 : decode cX6_undo 50 = .ok (.getfield 13, 3) := by decide +kernel
theorem dX6_undo_53 : decode cX6_undo 53 = .ok (.sipush 2377, 3) := by decide +kernel
theorem dX6_undo_56 : decode cX6_undo 56 = .ok (.aload_n 0, 1) := by decide +kernel
theorem dX6_undo_57 : decode cX6_undo 57 = .ok (.getfield 23, 3) := by decide +kernel
theorem dX6_undo_60 : decode cX6_undo 60 = .ok (.imul, 1) := by decide +kernel
theorem dX6_undo_61 : decode cX6_undo 61 = .ok (.iload_n 1, 1) := by decide +kernel
theorem dX6_undo_62 : decode cX6_undo 62 = .ok (.iadd, 1) := by decide +kernel
theorem dX6_undo_63 : decode cX6_undo 63 = .ok (.iaload, 1) := by decide +kernel
theorem dX6_undo_64 : decode cX6_undo 64 = .ok (.iastore, 1) := by decide +kernel
theorem dX6_undo_65 : decode cX6_undo 65 = .ok (.iinc 1 1, 3) := by decide +kernel
theorem dX6_undo_68 : decode cX6_undo 68 = .ok (.goto (-31), 3) := by decide +kernel
theorem dX6_undo_71 : decode cX6_undo 71 = .ok (.aload_n 0, 1) := by decide +kernel
theorem dX6_undo_72 : decode cX6_undo 72 = .ok (.getfield 23, 3) := by decide +kernel
theorem dX6_undo_75 : decode cX6_undo 75 = .ok (.ireturn, 1) := by decide +kernel
theorem dX6_mix_0 : decode cX6_mix 0 = .ok (.aload_n 0, 1) := by decide +kernel
theorem dX6_mix_1 : decode cX6_mix 1 = .ok (.ldc2_w 128, 3) := by decide +kernel
theorem dX6_mix_4 : decode cX6_mix 4 = .ok (.aload_n 0, 1) := by decide +kernel
theorem dX6_mix_5 : decode cX6_mix 5 = .ok (.getfield 130, 3) := by decide +kernel
theorem dX6_mix_8 : decode cX6_mix 8 = .ok (.lmul, 1) := by decide +kernel
theorem dX6_mix_9 : decode cX6_mix 9 = .ok (.lload_n 1, 1) := by decide +kernel
theorem dX6_mix_10 : decode cX6_mix 10 = .ok (.ladd, 1) := by decide +kernel
theorem dX6_mix_11 : decode cX6_mix 11 = .ok (.putfield 130, 3) := by decide +kernel
theorem dX6_mix_14 : decode cX6_mix 14 = .ok (.return_, 1) := by decide +kernel
theorem dX6_mixPlan_0 : decode cX6_mixPlan 0 = .ok (.aload_n 0, 1) := by decide +kernel
theorem dX6_mixPlan_1 : decode cX6_mixPlan 1 = .ok (.aload_n 0, 1) := by decide +kernel
theorem dX6_mixPlan_2 : decode cX6_mixPlan 2 = .ok (.getfield 7, 3) := by decide +kernel
theorem dX6_mixPlan_5 : decode cX6_mixPlan 5 = .ok (.iconst 3, 1) := by decide +kernel
theorem dX6_mixPlan_6 : decode cX6_mixPlan 6 = .ok (.iaload, 1) := by decide +kernel
theorem dX6_mixPlan_7 : decode cX6_mixPlan 7 = .ok (.i2l, 1) := by decide +kernel
theorem dX6_mixPlan_8 : decode cX6_mixPlan 8 = .ok (.invokevirtual 134, 3) := by decide +kernel
theorem dX6_mixPlan_11 : decode cX6_mixPlan 11 = .ok (.iconst 0, 1) := by decide +kernel
theorem dX6_mixPlan_12 : decode cX6_mixPlan 12 = .ok (.istore_n 1, 1) := by decide +kernel
theorem dX6_mixPlan_13 : decode cX6_mixPlan 13 = .ok (.iload_n 1, 1) := by decide +kernel
theorem dX6_mixPlan_14 : decode cX6_mixPlan 14 = .ok (.bipush 16, 2) := by decide +kernel
theorem dX6_mixPlan_16 : decode cX6_mixPlan 16 = .ok (.aload_n 0, 1) := by decide +kernel
theorem dX6_mixPlan_17 : decode cX6_mixPlan 17 = .ok (.getfield 7, 3) := by decide +kernel
theorem dX6_mixPlan_20 : decode cX6_mixPlan 20 = .ok (.iconst 1, 1) := by decide +kernel
theorem dX6_mixPlan_21 : decode cX6_mixPlan 21 = .ok (.iaload, 1) := by decide +kernel
theorem dX6_mixPlan_22 : decode cX6_mixPlan 22 = .ok (.imul, 1) := by decide +kernel
theorem dX6_mixPlan_23 : decode cX6_mixPlan 23 = .ok (.if_icmp .ge 47, 3) := by decide +kernel
theorem dX6_mixPlan_26 : decode cX6_mixPlan 26 = .ok (.aload_n 0, 1) := by decide +kernel
theorem dX6_mixPlan_27 : decode cX6_mixPlan 27 = .ok (.getfield 7, 3) := by decide +kernel
theorem dX6_mixPlan_30 : decode cX6_mixPlan 30 = .ok (.iconst 3, 1) := by decide +kernel
theorem dX6_mixPlan_31 : decode cX6_mixPlan 31 = .ok (.iaload, 1) := by decide +kernel
theorem dX6_mixPlan_32 : decode cX6_mixPlan 32 = .ok (.iconst 1, 1) := by decide +kernel
theorem dX6_mixPlan_33 : decode cX6_mixPlan 33 = .ok (.if_icmp .ne 37, 3) := by decide +kernel
theorem dX6_mixPlan_36 : decode cX6_mixPlan 36 = .ok (.iload_n 1, 1) := by decide +kernel
theorem dX6_mixPlan_37 : decode cX6_mixPlan 37 = .ok (.bipush 16, 2) := by decide +kernel
theorem dX6_mixPlan_39 : decode cX6_mixPlan 39 = .ok (.irem, 1) := by decide +kernel
theorem dX6_mixPlan_40 : decode cX6_mixPlan 40 = .ok (.aload_n 0, 1) := by decide +kernel
theorem dX6_mixPlan_41 : decode cX6_mixPlan 41 = .ok (.getfield 7, 3) := by decide +kernel
theorem dX6_mixPlan_44 : decode cX6_mixPlan 44 = .ok (.iconst 0, 1) := by decide +kernel
theorem dX6_mixPlan_45 : decode cX6_mixPlan 45 = .ok (.iaload, 1) := by decide +kernel
theorem dX6_mixPlan_46 : decode cX6_mixPlan 46 = .ok (.if_icmp .ge 18, 3) := by decide +kernel
theorem dX6_mixPlan_49 : decode cX6_mixPlan 49 = .ok (.aload_n 0, 1) := by decide +kernel
theorem dX6_mixPlan_50 : decode cX6_mixPlan 50 = .ok (.aload_n 0, 1) := by decide +kernel
theorem dX6_mixPlan_51 : decode cX6_mixPlan 51 = .ok (.getfield 7, 3) := by decide +kernel
theorem dX6_mixPlan_54 : decode cX6_mixPlan 54 = .ok (.sipush 201, 3) := by decide +kernel
theorem dX6_mixPlan_57 : decode cX6_mixPlan 57 = .ok (.iload_n 1, 1) := by decide +kernel
theorem dX6_mixPlan_58 : decode cX6_mixPlan 58 = .ok (.iadd, 1) := by decide +kernel
theorem dX6_mixPlan_59 : decode cX6_mixPlan 59 = .ok (.iaload, 1) := by decide +kernel
theorem dX6_mixPlan_60 : decode cX6_mixPlan 60 = .ok (.i2l, 1) := by decide +kernel
theorem dX6_mixPlan_61 : decode cX6_mixPlan 61 = .ok (.invokevirtual 134, 3) := by decide +kernel
theorem dX6_mixPlan_64 : decode cX6_mixPlan 64 = .ok (.iinc 1 1, 3) := by decide +kernel
theorem dX6_mixPlan_67 : decode cX6_mixPlan 67 = .ok (.goto (-54), 3) := by decide +kernel
theorem dX6_mixPlan_70 : decode cX6_mixPlan 70 = .ok (.return_, 1) := by decide +kernel
theorem dX6_digest_0 : decode cX6_digest 0 = .ok (.aload_n 0, 1) := by decide +kernel
theorem dX6_digest_1 : decode cX6_digest 1 = .ok (.iconst 0, 1) := by decide +kernel
theorem dX6_digest_2 : decode cX6_digest 2 = .ok (.putfield 19, 3) := by decide +kernel
theorem dX6_digest_5 : decode cX6_digest 5 = .ok (.aload_n 0, 1) := by decide +kernel
theorem dX6_digest_6 : decode cX6_digest 6 = .ok (.ldc2_w 138, 3) := by decide +kernel
theorem dX6_digest_9 : decode cX6_digest 9 = .ok (.putfield 130, 3) := by decide +kernel
theorem dX6_digest_12 : decode cX6_digest 12 = .ok (.aload_n 0, 1) := by decide +kernel
theorem dX6_digest_13 : decode cX6_digest 13 = .ok (.aload_n 0, 1) := by decide +kernel
theorem dX6_digest_14 : decode cX6_digest 14 = .ok (.getfield 7, 3) := by decide +kernel
theorem dX6_digest_17 : decode cX6_digest 17 = .ok (.iconst 0, 1) := by decide +kernel
theorem dX6_digest_18 : decode cX6_digest 18 = .ok (.iaload, 1) := by decide +kernel
theorem dX6_digest_19 : decode cX6_digest 19 = .ok (.i2l, 1) := by decide +kernel
theorem dX6_digest_20 : decode cX6_digest 20 = .ok (.invokevirtual 134, 3) := by decide +kernel
theorem dX6_digest_23 : decode cX6_digest 23 = .ok (.aload_n 0, 1) := by decide +kernel
theorem dX6_digest_24 : decode cX6_digest 24 = .ok (.aload_n 0, 1) := by decide +kernel
theorem dX6_digest_25 : decode cX6_digest 25 = .ok (.getfield 7, 3) := by decide +kernel
theorem dX6_digest_28 : decode cX6_digest 28 = .ok (.iconst 1, 1) := by decide +kernel
theorem dX6_digest_29 : decode cX6_digest 29 = .ok (.iaload, 1) := by decide +kernel
theorem dX6_digest_30 : decode cX6_digest 30 = .ok (.i2l, 1) := by decide +kernel
theorem dX6_digest_31 : decode cX6_digest 31 = .ok (.invokevirtual 134, 3) := by decide +kernel
theorem dX6_digest_34 : decode cX6_digest 34 = .ok (.aload_n 0, 1) := by decide +kernel
theorem dX6_digest_35 : decode cX6_digest 35 = .ok (.aload_n 0, 1) := by decide +kernel
theorem dX6_digest_36 : decode cX6_digest 36 = .ok (.getfield 7, 3) := by decide +kernel
theorem dX6_digest_39 : decode cX6_digest 39 = .ok (.iconst 2, 1) := by decide +kernel
theorem dX6_digest_40 : decode cX6_digest 40 = .ok (.iaload, 1) := by decide +kernel
theorem dX6_digest_41 : decode cX6_digest 41 = .ok (.i2l, 1) := by decide +kernel
theorem dX6_digest_42 : decode cX6_digest 42 = .ok (.invokevirtual 134, 3) := by decide +kernel
theorem dX6_digest_45 : decode cX6_digest 45 = .ok (.iconst 0, 1) := by decide +kernel
theorem dX6_digest_46 : decode cX6_digest 46 = .ok (.istore_n 1, 1) := by decide +kernel
theorem dX6_digest_47 : decode cX6_digest 47 = .ok (.iload_n 1, 1) := by decide +kernel
theorem dX6_digest_48 : decode cX6_digest 48 = .ok (.bipush 14, 2) := by decide +kernel
theorem dX6_digest_50 : decode cX6_digest 50 = .ok (.aload_n 0, 1) := by decide +kernel
theorem dX6_digest_51 : decode cX6_digest 51 = .ok (.getfield 7, 3) := by decide +kernel
theorem dX6_digest_54 : decode cX6_digest 54 = .ok (.iconst 2, 1) := by decide +kernel
theorem dX6_digest_55 : decode cX6_digest 55 = .ok (.iaload, 1) := by decide +kernel
theorem dX6_digest_56 : decode cX6_digest 56 = .ok (.imul, 1) := by decide +kernel
theorem dX6_digest_57 : decode cX6_digest 57 = .ok (.if_icmp .ge 23, 3) := by decide +kernel
theorem dX6_digest_60 : decode cX6_digest 60 = .ok (.aload_n 0, 1) := by decide +kernel
theorem dX6_digest_61 : decode cX6_digest 61 = .ok (.aload_n 0, 1) := by decide +kernel
theorem dX6_digest_62 : decode cX6_digest 62 = .ok (.getfield 7, 3) := by decide +kernel
theorem dX6_digest_65 : decode cX6_digest 65 = .ok (.bipush 33, 2) := by decide +kernel
theorem dX6_digest_67 : decode cX6_digest 67 = .ok (.iload_n 1, 1) := by decide +kernel
theorem dX6_digest_68 : decode cX6_digest 68 = .ok (.iadd, 1) := by decide +kernel
theorem dX6_digest_69 : decode cX6_digest 69 = .ok (.iaload, 1) := by decide +kernel
theorem dX6_digest_70 : decode cX6_digest 70 = .ok (.i2l, 1) := by decide +kernel
theorem dX6_digest_71 : decode cX6_digest 71 = .ok (.invokevirtual 134, 3) := by decide +kernel
theorem dX6_digest_74 : decode cX6_digest 74 = .ok (.iinc 1 1, 3) := by decide +kernel
theorem dX6_digest_77 : decode cX6_digest 77 = .ok (.goto (-30), 3) := by decide +kernel
theorem dX6_digest_80 : decode cX6_digest 80 = .ok (.aload_n 0, 1) := by decide +kernel
theorem dX6_digest_81 : decode cX6_digest 81 = .ok (.invokevirtual 140, 3) := by decide +kernel
theorem dX6_digest_84 : decode cX6_digest 84 = .ok (.aload_n 0, 1) := by decide +kernel
theorem dX6_digest_85 : decode cX6_digest 85 = .ok (.aload_n 0, 1) := by decide +kernel
theorem dX6_digest_86 : decode cX6_digest 86 = .ok (.getfield 7, 3) := by decide +kernel
theorem dX6_digest_89 : decode cX6_digest 89 = .ok (.iconst 4, 1) := by decide +kernel
theorem dX6_digest_90 : decode cX6_digest 90 = .ok (.iaload, 1) := by decide +kernel
theorem dX6_digest_91 : decode cX6_digest 91 = .ok (.i2l, 1) := by decide +kernel
theorem dX6_digest_92 : decode cX6_digest 92 = .ok (.invokevirtual 134, 3) := by decide +kernel
theorem dX6_digest_95 : decode cX6_digest 95 = .ok (.aload_n 0, 1) := by decide +kernel
theorem dX6_digest_96 : decode cX6_digest 96 = .ok (.aload_n 0, 1) := by decide +kernel
theorem dX6_digest_97 : decode cX6_digest 97 = .ok (.getfield 7, 3) := by decide +kernel
theorem dX6_digest_100 : decode cX6_digest 100 = .ok (.iconst 5, 1) := by decide +kernel
theorem dX6_digest_101 : decode cX6_digest 101 = .ok (.iaload, 1) := by decide +kernel
theorem dX6_digest_102 : decode cX6_digest 102 = .ok (.i2l, 1) := by decide +kernel
theorem dX6_digest_103 : decode cX6_digest 103 = .ok (.invokevirtual 134, 3) := by decide +kernel
theorem dX6_digest_106 : decode cX6_digest 106 = .ok (.iconst 0, 1) := by decide +kernel
theorem dX6_digest_107 : decode cX6_digest 107 = .ok (.istore_n 1, 1) := by decide +kernel
theorem dX6_digest_108 : decode cX6_digest 108 = .ok (.iload_n 1, 1) := by decide +kernel
theorem dX6_digest_109 : decode cX6_digest 109 = .ok (.aload_n 0, 1) := by decide +kernel
theorem dX6_digest_110 : decode cX6_digest 110 = .ok (.getfield 7, 3) := by decide +kernel
theorem dX6_digest_113 : decode cX6_digest 113 = .ok (.iconst 5, 1) := by decide +kernel
theorem dX6_digest_114 : decode cX6_digest 114 = .ok (.iaload, 1) := by decide +kernel
theorem dX6_digest_115 : decode cX6_digest 115 = .ok (.if_icmp .ge 24, 3) := by decide +kernel
theorem dX6_digest_118 : decode cX6_digest 118 = .ok (.aload_n 0, 1) := by decide +kernel
theorem dX6_digest_119 : decode cX6_digest 119 = .ok (.aload_n 0, 1) := by decide +kernel
theorem dX6_digest_120 : decode cX6_digest 120 = .ok (.getfield 7, 3) := by decide +kernel
theorem dX6_digest_123 : decode cX6_digest 123 = .ok (.sipush 329, 3) := by decide +kernel
theorem dX6_digest_126 : decode cX6_digest 126 = .ok (.iload_n 1, 1) := by decide +kernel
theorem dX6_digest_127 : decode cX6_digest 127 = .ok (.iadd, 1) := by decide +kernel
theorem dX6_digest_128 : decode cX6_digest 128 = .ok (.iaload, 1) := by decide +kernel
theorem dX6_digest_129 : decode cX6_digest 129 = .ok (.i2l, 1) := by decide +kernel
theorem dX6_digest_130 : decode cX6_digest 130 = .ok (.invokevirtual 134, 3) := by decide +kernel
theorem dX6_digest_133 : decode cX6_digest 133 = .ok (.iinc 1 1, 3) := by decide +kernel
theorem dX6_digest_136 : decode cX6_digest 136 = .ok (.goto (-28), 3) := by decide +kernel
theorem dX6_digest_139 : decode cX6_digest 139 = .ok (.aload_n 0, 1) := by decide +kernel
theorem dX6_digest_140 : decode cX6_digest 140 = .ok (.aload_n 0, 1) := by decide +kernel
theorem dX6_digest_141 : decode cX6_digest 141 = .ok (.getfield 7, 3) := by decide +kernel
theorem dX6_digest_144 : decode cX6_digest 144 = .ok (.bipush 7, 2) := by decide +kernel
theorem dX6_digest_146 : decode cX6_digest 146 = .ok (.iaload, 1) := by decide +kernel
theorem dX6_digest_147 : decode cX6_digest 147 = .ok (.i2l, 1) := by decide +kernel
theorem dX6_digest_148 : decode cX6_digest 148 = .ok (.invokevirtual 134, 3) := by decide +kernel
theorem dX6_digest_151 : decode cX6_digest 151 = .ok (.aload_n 0, 1) := by decide +kernel
theorem dX6_digest_152 : decode cX6_digest 152 = .ok (.aload_n 0, 1) := by decide +kernel
theorem dX6_digest_153 : decode cX6_digest 153 = .ok (.getfield 7, 3) := by decide +kernel
theorem dX6_digest_156 : decode cX6_digest 156 = .ok (.bipush 8, 2) := by decide +kernel
theorem dX6_digest_158 : decode cX6_digest 158 = .ok (.iaload, 1) := by decide +kernel
theorem dX6_digest_159 : decode cX6_digest 159 = .ok (.i2l, 1) := by decide +kernel
theorem dX6_digest_160 : decode cX6_digest 160 = .ok (.invokevirtual 134, 3) := by decide +kernel
theorem dX6_digest_163 : decode cX6_digest 163 = .ok (.iconst 0, 1) := by decide +kernel
theorem dX6_digest_164 : decode cX6_digest 164 = .ok (.istore_n 1, 1) := by decide +kernel
theorem dX6_digest_165 : decode cX6_digest 165 = .ok (.iload_n 1, 1) := by decide +kernel
theorem dX6_digest_166 : decode cX6_digest 166 = .ok (.bipush 6, 2) := by decide +kernel
theorem dX6_digest_168 : decode cX6_digest 168 = .ok (.if_icmp .ge 23, 3) := by decide +kernel
theorem dX6_digest_171 : decode cX6_digest 171 = .ok (.aload_n 0, 1) := by decide +kernel
theorem dX6_digest_172 : decode cX6_digest 172 = .ok (.aload_n 0, 1) := by decide +kernel
theorem dX6_digest_173 : decode cX6_digest 173 = .ok (.getfield 7, 3) := by decide +kernel
theorem dX6_digest_176 : decode cX6_digest 176 = .ok (.bipush 9, 2) := by decide +kernel
theorem dX6_digest_178 : decode cX6_digest 178 = .ok (.iload_n 1, 1) := by decide +kernel
theorem dX6_digest_179 : decode cX6_digest 179 = .ok (.iadd, 1) := by decide +kernel
theorem dX6_digest_180 : decode cX6_digest 180 = .ok (.iaload, 1) := by decide +kernel
theorem dX6_digest_181 : decode cX6_digest 181 = .ok (.i2l, 1) := by decide +kernel
theorem dX6_digest_182 : decode cX6_digest 182 = .ok (.invokevirtual 134, 3) := by decide +kernel
theorem dX6_digest_185 : decode cX6_digest 185 = .ok (.iinc 1 1, 3) := by decide +kernel
theorem dX6_digest_188 : decode cX6_digest 188 = .ok (.goto (-23), 3) := by decide +kernel
theorem dX6_digest_191 : decode cX6_digest 191 = .ok (.aload_n 0, 1) := by decide +kernel
theorem dX6_digest_192 : decode cX6_digest 192 = .ok (.aload_n 0, 1) := by decide +kernel
theorem dX6_digest_193 : decode cX6_digest 193 = .ok (.getfield 7, 3) := by decide +kernel
theorem dX6_digest_196 : decode cX6_digest 196 = .ok (.bipush 6, 2) := by decide +kernel
theorem dX6_digest_198 : decode cX6_digest 198 = .ok (.iaload, 1) := by decide +kernel
theorem dX6_digest_199 : decode cX6_digest 199 = .ok (.i2l, 1) := by decide +kernel
theorem dX6_digest_200 : decode cX6_digest 200 = .ok (.invokevirtual 134, 3) := by decide +kernel
theorem dX6_digest_203 : decode cX6_digest 203 = .ok (.aload_n 0, 1) := by decide +kernel
theorem dX6_digest_204 : decode cX6_digest 204 = .ok (.aload_n 0, 1) := by decide +kernel
theorem dX6_digest_205 : decode cX6_digest 205 = .ok (.getfield 23, 3) := by decide +kernel
theorem dX6_digest_208 : decode cX6_digest 208 = .ok (.i2l, 1) := by decide +kernel
theorem dX6_digest_209 : decode cX6_digest 209 = .ok (.invokevirtual 134, 3) := by decide +kernel
theorem dX6_digest_212 : decode cX6_digest 212 = .ok (.aload_n 0, 1) := by decide +kernel
theorem dX6_digest_213 : decode cX6_digest 213 = .ok (.getfield 130, 3) := by decide +kernel
theorem dX6_digest_216 : decode cX6_digest 216 = .ok (.lreturn, 1) := by decide +kernel
end
section
/-! ===== a ghost heap: which cell lies at which address; the judgement J over it ===== -/
abbrev GH : Type := Nat → Option va_E
abbrev jK : Type := va_G × (Nat → ClassId)
def gset (G : GH) (a : Nat) (e : va_E) : GH := fun b => if b = a then some e else G b
theorem gset_s (G : GH) (a : Nat) (e : va_E) : gset G a e a = some e := by simp [gset]
theorem gset_n {G : GH} {a b : Nat} {e : va_E} (h : b ≠ a) : gset G a e b = G b := by simp [gset, h]
def gA (G : GH) (hs : Nat) : Nat → Prop := fun q => G q ≠ none ∨ hs ≤ q
def gP (D : va_G) (A : Nat → Prop) (G : GH) (H : Heap) : Prop :=
  ∃ (L : List Nat) (f : Nat → va_E), (∀ a, G a = if a ∈ L then some (f a) else none) ∧ va_P D vwCl (va_pl L f) H ∧ va_D A (va_pl L f)
theorem gP.place {D : va_G} {G : GH} {H : Heap} {L : List Nat} {f : Nat → va_E} (hG : ∀ a, G a = if a ∈ L then some (f a) else none) {a : Nat} {e : va_E} (h : G a = some e) : a ∈ L ∧ f a = e := by
  rw [hG a] at h
  by_cases hm : a ∈ L
  · rw [if_pos hm] at h
    exact ⟨hm, Option.some.inj h⟩
  · rw [if_neg hm] at h
    cases h
theorem gP.at_ {D : va_G} {A : Nat → Prop} {G : GH} {H : Heap} (h : gP D A G H) {a : Nat} {e : va_E} (hg : G a = some e) : va_at D vwCl (a, e) H := by
  obtain ⟨L, f, hG, hP, hD⟩ := h
  obtain ⟨hm, he⟩ := gP.place (D := D) (H := H) hG hg
  obtain ⟨k, hk⟩ := va_pl_get (X := []) (f := f) hm
  rw [he] at hk
  exact hP k _ hk
theorem gP.inA {D : va_G} {A : Nat → Prop} {G : GH} {H : Heap} (h : gP D A G H) {a : Nat} {e : va_E} (hg : G a = some e) : A a := by
  obtain ⟨L, f, hG, hP, hD⟩ := h
  obtain ⟨hm, he⟩ := gP.place (D := D) (H := H) hG hg
  obtain ⟨k, hk⟩ := va_pl_get (X := []) (f := f) hm
  exact hD.2 k _ hk
theorem gP.lt {D : va_G} {A : Nat → Prop} {G : GH} {H : Heap} (h : gP D A G H) {a : Nat} {e : va_E} (hg : G a = some e) : a < H.size := (h.at_ hg).lt
theorem va_P1 {D : va_G} {cl : List vw_C} {q : Nat × va_E} {H : Heap} (h : va_at D cl q H) : va_P D cl [q] H := by
  intro k z hz
  have h1 : k < 1 := (List.getElem?_eq_some_iff.mp hz).1
  have h0 : k = 0 := by omega
  subst h0
  cases hz
  exact h
theorem gP.p1 {D : va_G} {A : Nat → Prop} {G : GH} {H : Heap} (h : gP D A G H) {a : Nat} {e : va_E} (hg : G a = some e) : va_P D vwCl [(a, e)] H := va_P1 (h.at_ hg)
/-- a write to one cell, by the kit's row over the whole world -/
theorem gP.write {D : va_G} {A : Nat → Prop} {G : GH} {H : Heap} (h : gP D A G H) {a : Nat} {e e' : va_E} (hg : G a = some e) :
    ∃ (ws : va_W) (k : Nat), va_P D vwCl ws H ∧ va_D A ws ∧ ws[k]? = some (a, e) ∧ ∀ H1, va_P D vwCl (ws.set k (a, e')) H1 → va_D A (ws.set k (a, e')) → gP D A (gset G a e') H1 := by
  obtain ⟨L, f, hG, hP, hD⟩ := h
  obtain ⟨hm, he⟩ := gP.place (D := D) (H := H) hG hg
  obtain ⟨k, hk⟩ := va_pl_get (X := []) (f := f) hm
  refine ⟨va_pl L f, k, hP, hD, by rw [← he]; exact hk, fun H1 hP1 hD1 => ?_⟩
  have e1 : (va_pl L f).set k (a, e') = va_pl L (va_up f a e') := va_pl_set (X := []) hD hm hk
  rw [e1] at hP1 hD1
  refine ⟨L, va_up f a e', fun b => ?_, hP1, hD1⟩
  by_cases hb : b = a
  · subst hb
    rw [gset_s, if_pos hm, va_up_self]
  · rw [gset_n hb, hG b, va_up_ne f e' hb]
theorem gP.push {D : va_G} {A : Nat → Prop} {G : GH} {H H1 : Heap} (h : gP D A G H) {a : Nat} {e : va_E} (ha : a = H.size) (hA : A a) (he : va_at D vwCl (a, e) H1) (ho : ∀ q, q < H.size → H1[q]? = H[q]?) : gP D A (gset G a e) H1 := by
  obtain ⟨L, f, hG, hP, hD⟩ := h
  have hn : a ∉ L := fun hm => by
    obtain ⟨k, hk⟩ := va_pl_get (X := []) (f := f) hm
    have := (hP k _ hk).lt
    omega
  refine ⟨L ++ [a], va_up f a e, fun b => ?_, ?_, ?_⟩
  · by_cases hb : b = a
    · subst hb
      rw [gset_s, va_up_self, if_pos (List.mem_append_right _ (List.mem_singleton.mpr rfl))]
    · rw [gset_n hb, hG b, va_up_ne f e hb]
      have : (b ∈ L ++ [a]) = (b ∈ L) := by simp [hb]
      simp only [this]
  · rw [← va_pl_push hn]
    exact (hP.kept (fun k q hk => ho q.1 (hP k q hk).lt)).app (va_P1 he)
  · rw [← va_pl_push hn]
    exact hD.push hP ha hA
theorem gP.weaken {D : va_G} {A B : Nat → Prop} {G : GH} {H : Heap} (h : gP D A G H) (hB : ∀ a, G a ≠ none → B a) : gP D B G H := by
  obtain ⟨L, f, hG, hP, hD⟩ := h
  refine ⟨L, f, hG, hP, hD.weaken (fun k q hk _ => hB q.1 ?_)⟩
  obtain ⟨b, hb, rfl⟩ := List.mem_map.mp (List.mem_of_getElem? hk)
  rw [hG b, if_pos hb]
  exact fun h => by cases h
theorem gP.kept {D : va_G} {A : Nat → Prop} {G : GH} {H H1 : Heap} (h : gP D A G H) (ho : ∀ q, q < H.size → H1[q]? = H[q]?) : gP D A G H1 := by
  obtain ⟨L, f, hG, hP, hD⟩ := h
  exact ⟨L, f, hG, hP.kept (fun k q hk => ho q.1 (hP k q hk).lt), hD⟩
/-! locals by their slots -/
def jla : Nat → List (Option Value) → List (Nat × Value)
  | _, [] => []
  | k, none :: t => jla (k + 1) t
  | k, some v :: t => (k, v) :: jla (k + 1) t
theorem jla_mem : ∀ (lo : List (Option Value)) (k j : Nat) (v : Value), (j, v) ∈ jla k lo ↔ ∃ i, j = k + i ∧ lo[i]? = some (some v)
  | [], k, j, v => by simp [jla]
  | none :: t, k, j, v => by
    rw [jla, jla_mem t (k + 1) j v]
    constructor
    · rintro ⟨i, h1, h2⟩
      exact ⟨i + 1, by omega, by simpa using h2⟩
    · rintro ⟨i, h1, h2⟩
      cases i with
      | zero => simp at h2
      | succ i => exact ⟨i, by omega, by simpa using h2⟩
  | some w :: t, k, j, v => by
    rw [jla, List.mem_cons, jla_mem t (k + 1) j v]
    constructor
    · rintro (h | ⟨i, h1, h2⟩)
      · cases h
        exact ⟨0, rfl, rfl⟩
      · exact ⟨i + 1, by omega, by simpa using h2⟩
    · rintro ⟨i, h1, h2⟩
      cases i with
      | zero =>
        simp at h2
        left
        rw [h1, ← h2]
        rfl
      | succ i => exact Or.inr ⟨i, by omega, by simpa using h2⟩
def jlv (ls : Array Slot) (nL : Nat) (lo : List (Option Value)) : Prop := lv_has ls nL (jla 0 lo)
theorem jlv.at_ {ls : Array Slot} {nL : Nat} {lo : List (Option Value)} (h : jlv ls nL lo) {i : Nat} {v : Value} (hi : lo[i]? = some (some v)) : ls[i]? = some (.val v) := h.2.2 (i, v) ((jla_mem lo 0 i v).mpr ⟨i, by omega, hi⟩)
theorem jlv.place {ls : Array Slot} {nL : Nat} {lo : List (Option Value)} (_ : jlv ls nL lo) {i : Nat} {v : Value} (hi : lo[i]? = some (some v)) : ∃ k : Nat, (jla 0 lo)[k]? = some (i, v) := List.getElem?_of_mem ((jla_mem lo 0 i v).mpr ⟨i, by omega, hi⟩)
theorem jlv.sub {ls : Array Slot} {nL : Nat} {l : List (Nat × Value)} {lo : List (Option Value)} (h : lv_has ls nL l) (hs : ∀ (i : Nat) (v : Value), lo[i]? = some (some v) → (i, v) ∈ l) : jlv ls nL lo :=
  ⟨h.1, h.2.1, fun q hq => by
    obtain ⟨i, h1, h2⟩ := (jla_mem lo 0 q.1 q.2).mp hq
    have h3 : q.1 = i := by omega
    have := hs i q.2 h2
    rw [← h3] at this
    exact h.2.2 q this⟩
theorem jlv.less {ls : Array Slot} {nL : Nat} {l lo : List (Option Value)} (h : jlv ls nL l) (hs : ∀ (i : Nat) (v : Value), lo[i]? = some (some v) → l[i]? = some (some v)) : jlv ls nL lo :=
  jlv.sub h (fun i v hi => (jla_mem l 0 i v).mpr ⟨i, by omega, hs i v hi⟩)
theorem jlv.store1 {ls : Array Slot} {nL i : Nat} {v : Value} {lo : List (Option Value)} (h : lv_has ls nL ((i, v) :: (jla 0 lo).filter (fun q => !(q.1 == i) && !(q.1 + 1 == i && q.2.category == 2)))) (hc : ∀ (w : Value) (j : Nat), j + 1 = i → lo[j]? = some (some w) → w.category = 1) : jlv ls nL (lo.set i (some v)) := by
  refine jlv.sub h (fun j w hj => ?_)
  by_cases hji : j = i
  · subst hji
    rw [List.getElem?_set_self'] at hj
    cases hl : lo[j]? with
    | none => rw [hl] at hj; cases hj
    | some z =>
      rw [hl] at hj
      cases hj
      exact List.mem_cons_self
  · rw [List.getElem?_set_ne (Ne.symm hji)] at hj
    refine List.mem_cons_of_mem _ (List.mem_filter.mpr ⟨(jla_mem lo 0 j w).mpr ⟨j, by omega, hj⟩, ?_⟩)
    have h1 : (j == i) = false := by simp [hji]
    by_cases h2 : j + 1 = i
    · simp [h1, hc w j h2 hj]
    · simp [h1, h2]
theorem jlv.store2 {ls : Array Slot} {nL i : Nat} {v : Value} {lo : List (Option Value)} (h : lv_has ls nL ((i, v) :: (jla 0 lo).filter (fun q => !(q.1 == i) && (!(q.1 == i + 1) && !(q.1 + 1 == i && q.2.category == 2))))) (hc : ∀ (w : Value) (j : Nat), j + 1 = i → lo[j]? = some (some w) → w.category = 1) : jlv ls nL ((lo.set i (some v)).set (i + 1) none) := by
  refine jlv.sub h (fun j w hj => ?_)
  by_cases hj1 : j = i + 1
  · subst hj1
    rw [List.getElem?_set_self'] at hj
    cases hl : (lo.set i (some v))[i + 1]? with
    | none => rw [hl] at hj; cases hj
    | some z => rw [hl] at hj; cases hj
  · rw [List.getElem?_set_ne (Ne.symm hj1)] at hj
    by_cases hji : j = i
    · subst hji
      rw [List.getElem?_set_self'] at hj
      cases hl : lo[j]? with
      | none => rw [hl] at hj; cases hj
      | some z =>
        rw [hl] at hj
        cases hj
        exact List.mem_cons_self
    · rw [List.getElem?_set_ne (Ne.symm hji)] at hj
      refine List.mem_cons_of_mem _ (List.mem_filter.mpr ⟨(jla_mem lo 0 j w).mpr ⟨j, by omega, hj⟩, ?_⟩)
      have h1 : (j == i) = false := by simp [hji]
      have h3 : (j == i + 1) = false := by simp [hj1]
      by_cases h2 : j + 1 = i
      · simp [h1, h3, hc w j h2 hj]
      · simp [h1, h3, h2]
/-- the slots of a method's arguments -/
def jsl : List Value → List (Option Value)
  | [] => []
  | v :: t => if v.category = 2 then some v :: none :: jsl t else some v :: jsl t
theorem jsl_args : ∀ (vs : List Value) (k i : Nat) (v : Value), (jsl vs)[i]? = some (some v) → (k + i, v) ∈ lv_args k vs
  | [], k, i, v, h => by simp [jsl] at h
  | w :: t, k, i, v, h => by
    rw [lv_args]
    unfold jsl at h
    by_cases hc : w.category = 2
    · rw [if_pos hc] at h ⊢
      cases i with
      | zero =>
        simp at h
        rw [h]
        exact List.mem_cons_self
      | succ i =>
        cases i with
        | zero => simp at h
        | succ i =>
          have := jsl_args t (k + 2) i v (by simpa using h)
          rw [show k + (i + 1 + 1) = k + 2 + i by omega]
          exact List.mem_cons_of_mem _ this
    · rw [if_neg hc] at h ⊢
      cases i with
      | zero =>
        simp at h
        rw [h]
        exact List.mem_cons_self
      | succ i =>
        have := jsl_args t (k + 1) i v (by simpa using h)
        rw [show k + (i + 1) = k + 1 + i by omega]
        exact List.mem_cons_of_mem _ this
end
section
/-! ===== the words that every method gets; what else holds at every call's start ===== -/
def jW : List Cond := lw_tbl.filter goodWord
theorem jW_good : ∀ w ∈ jW, (w.onTables && w.keeps) = true ∨ ∃ ty, w = .arrayClass ty := fun w h => good_of_word (List.mem_filter.mp h).2
theorem jW_tab {w : Cond} (i : Nat) (h : tables_1[i]? = some w) (g : goodWord w = true) : w ∈ jW := List.mem_filter.mpr ⟨List.mem_append_right _ (List.mem_of_getElem? h), g⟩
theorem jW_sel {w : Cond} (i : Nat) (h : (k2_sels lw_privs)[i]? = some w) (g : goodWord w = true) : w ∈ jW := List.mem_filter.mpr ⟨List.mem_append_left _ (List.mem_of_getElem? h), g⟩
abbrev jT (K : jK) : List (ClassId × FieldType) := [(K.2 0, .int), (K.2 1, .object "FrameCommutator$Parameter"), (K.2 2, .object "FrameCommutator$State"), (K.2 3, .long), (K.2 4, .double)]
/-- calls of a nest mate's private members -/
def jNest : List (String × Nat × MethodName × String) := [("FrameCommutator$State", 11, yX1_init, "FrameCommutator"), ("FrameCommutator$State", 33, yX0_init, "FrameCommutator"), ("FrameCommutator$State", 40, yX3_init, "FrameCommutator"), ("FrameCommutator$State", 48, yX2_init, "FrameCommutator"), ("FrameCommutator", 29, yX1_init, "FrameCommutator"), ("FrameCommutator$State", 117, yX5_mix, "FrameCommutator"), ("FrameCommutator$Parameter", 60, yX5_mix, "FrameCommutator"), ("FrameCommutator$Layout", 75, yX5_mix, "FrameCommutator"), ("FrameCommutator$Channel", 25, yX5_mix, "FrameCommutator"), ("FrameCommutator$Receiver", 65, yX5_mix, "FrameCommutator")]
def jDecl : List MethodName := [⟨"java/lang/RuntimeException", "<init>", "()V"⟩, ⟨"java/lang/RuntimeException", "<init>", "(Ljava/lang/String;)V"⟩, ⟨"java/lang/Exception", "<init>", "()V"⟩, ⟨"java/lang/Exception", "<init>", "(Ljava/lang/String;)V"⟩, ⟨"java/lang/Throwable", "<init>", "()V"⟩, ⟨"java/lang/Throwable", "<init>", "(Ljava/lang/String;)V"⟩]
abbrev jIA : String := "java/lang/IllegalArgumentException"
abbrev jIS : String := "java/lang/IllegalStateException"
abbrev jIX : String := "java/lang/IndexOutOfBoundsException"
def jCast : List (String × String) := [(jIA, jIA), (jIS, jIS), (jIX, jIX)]
def jNot : List (String × String) := [(jIA, jIS), (jIA, jIX), (jIS, jIA), (jIS, jIX), (jIX, jIA), (jIX, jIS)]
def jStr : List (Nat × String) := [(185, "an argument is out of range"), (192, "the call is not possible in this state"), (197, "there is nothing with this number")]
def gN (K : jK) (A : Nat → Prop) (U : State) : Prop :=
  va_K K.1 vwCl (jT K) U ∧ (∀ q ∈ jNest, va_Nw (.methodLinkNest q.1 q.2.1 q.2.2.1 q.2.2.2) U) ∧ (∀ q ∈ jDecl, va_Nw (.declares q) U) ∧ (∀ q ∈ jCast, va_Nw (.castable q.1 q.2) U) ∧ (∀ q ∈ jNot, va_Nc q.1 q.2 U) ∧
  va_AO "FrameCommutator$Parameter" U ∧ va_AO "FrameCommutator$State" U ∧ (∀ q ∈ jStr, ∃ a, vk_R "FrameCommutator" q.1 q.2 a U) ∧
  vx_Zq Bundle.tN "UNASSIGNED_STACK" Bundle.steD A U U.heap ∧ vx_Zq Bundle.tN "SUPPRESSED_SENTINEL" Bundle.listD A U U.heap
theorem gN.move {K : jK} {A B : Nat → Prop} {s U : State} (h : gN K A s) (hW : s.WarmedH U.vm) (hk : ∀ q : Nat, q < s.heap.size → ¬ A q → U.heap[q]? = s.heap[q]?) (hB : ∀ q, B q → A q) : gN K B U := by
  obtain ⟨h1, h2, h3, h4, h5, h6, h7, h8, h9, h10⟩ := h
  refine ⟨va_K.moved hW.alike h1, fun q hq => va_Nw.warmM hW (h2 q hq), fun q hq => va_Nw.warmD hW (h3 q hq), fun q hq => va_Nw.warmC hW (h4 q hq), fun q hq => (h5 q hq).moved hW.alike, h6.moved hW.alike, h7.moved hW.alike, fun q hq => ?_, ?_, ?_⟩
  · obtain ⟨a, ha⟩ := h8 q hq
    exact ⟨a, vk_R.warm hW ha⟩
  · exact ((h9.moved hW.alike).kept hk).narrow hB
  · exact ((h10.moved hW.alike).kept hk).narrow hB
theorem gN.calling {K : jK} {A : Nat → Prop} {U : State} (h : gN K A U) (g : JFrame) (mk : MethodId) (a : Array Value) : gN K A (U.calling g mk a) := by
  obtain ⟨h1, h2, h3, h4, h5, h6, h7, h8, h9, h10⟩ := h
  have hv : U.vm.Alike (U.calling g mk a).vm := Vm.Alike.refl U.vm
  refine ⟨va_K.moved hv h1, fun q hq => va_Nw.same rfl (rfl : U.vm = (U.calling g mk a).vm) (h2 q hq), fun q hq => va_Nw.same rfl (rfl : U.vm = (U.calling g mk a).vm) (h3 q hq), fun q hq => va_Nw.same rfl (rfl : U.vm = (U.calling g mk a).vm) (h4 q hq), fun q hq => (h5 q hq).moved hv, h6.moved hv, h7.moved hv, fun q hq => ?_, h9.moved hv, h10.moved hv⟩
  obtain ⟨b, hb⟩ := h8 q hq
  exact ⟨b, vk_R.same rfl hb⟩
/-! ===== the judgement ===== -/
abbrev jE : Type := Program × Launch × Env × Room × State × MethodId × Array Value × List Frame × Method × Code × (State → Prop)
def J (K : jK) (A : Nat → Prop) (E : jE) (nL : Nat) (G : GH) (hs cells slots pc : Nat) (lo : List (Option Value)) (st : List Value) : Prop := match E with
  | (p, l, e, R, s, m, args, below, meth, c, Q) => ∀ (H : Heap) (locs : List Loc) (ls : Array Slot), gP K.1 A G H → H.size = hs → va_S A s.heap H locs → jlv ls nL lo → W p l e R s m args below meth c H locs cells slots Q (F0 m pc ls st)
/-- the same with q, of the class X, thrown over the frame -/
def JX (K : jK) (A : Nat → Prop) (E : jE) (nL : Nat) (G : GH) (cells slots pc : Nat) (lo : List (Option Value)) (st : List Value) (X : String) : Prop := match E with
  | (p, l, e, R, s, m, args, below, meth, c, Q) => ∀ (H : Heap) (locs : List Loc) (ls : Array Slot) (q : Addr) (ce : Cell), gP K.1 A G H → va_S A s.heap H locs → jlv ls nL lo → H[q]? = some ce → ce.vm = .none → s.vm.findClass X = some ce.cls → vx_W p l e R s m args below meth c H locs cells slots Q (F0 m pc ls st) q
def jC (K : jK) (A : Nat → Prop) (E : jE) (own : String) (cc : ByteArray) (nL fr lo mc ms : Nat) : Prop := match E with
  | (p, l, _, R, s, m, args, _, meth, c, _) => p.tables.exec = Jvm.exec ∧ c.code = cc ∧ c.maxLocals = nL ∧ s.vm.findClass own = some m.cls ∧ meth.locks = false ∧ (∀ w ∈ jW, w.before args s = true) ∧ gN K A s ∧ (∀ q, s.heap.size ≤ q → A q) ∧ l.stackTraces = false ∧ R = { frames := fr, cells := mc, slots := ms, locals := lo }
def gQ (K : jK) (A : Nat → Prop) (post : Option Value → GH → Nat → Prop) : Array Value → State → Outcome → State → Prop := fun _ st oc t => (∃ (v : Option Value) (G : GH), oc = .returned v ∧ post v G t.heap.size ∧ gP K.1 A G t.heap) ∧ va_F A st t
def gX (K : jK) (A : Nat → Prop) (px : String → GH → Prop) : String → State → State → Prop := fun X st t => (∃ G : GH, px X G ∧ gP K.1 A G t.heap) ∧ va_F A st t
def jQ (K : jK) (A : Nat → Prop) (E : jE) (ret : Option FieldType) (mc ms : Nat) (post : Option Value → GH → Nat → Prop) (px : String → GH → Prop) : Prop := match E with
  | (_, _, _, _, s, _, args, below, meth, _, Q) => meth.sig.returnType = ret ∧ Q = vx_MQ below (gQ K A post) (gX K A px) args s mc ms A
def jNoX (E : jE) : Prop := match E with | (_, _, _, _, _, _, _, _, _, c, _) => ∀ x ∈ c.exceptionTable.toList, False
def jNm (E : jE) (n : String) : Prop := match E with | (_, _, _, _, _, _, _, _, meth, _, _) => meth.name = n
/-- a method's contract, from the ghost heap G of hs cells -/
def Ct (l : Launch) (K : jK) (y : MethodName) (cc : ByteArray) (nL : Nat) (ret : Option FieldType) (fr lo mc ms : Nat) (args : List Value) (G : GH) (hs : Nat) (post : Option Value → GH → Nat → Prop) (px : String → GH → Prop) : Prop :=
  vx_Met l y (Cond.code y cc nL ret :: jW) { frames := fr, cells := mc, slots := ms, locals := lo } (va_Pc args (fun U => U.heap.size = hs ∧ gP K.1 (gA G hs) G U.heap ∧ gN K (gA G hs) U)) (gQ K (gA G hs) post) (gX K (gA G hs) px) mc ms (gA G hs)
def jno : String → GH → Prop := fun _ _ => False
theorem Ct.of {l : Launch} {K : jK} {y : MethodName} {cc : ByteArray} {nL : Nat} {ret : Option FieldType} {fr lo mc ms : Nat} {args : List Value} {G : GH} {hs : Nat} {post : Option Value → GH → Nat → Prop} {px : String → GH → Prop} (hl : l.stackTraces = false) (hy : plainName y.cls = true) (hn : (lg_sl args).length ≤ nL) {L0 : List (Option Value)} (hL0 : ∀ (i : Nat) (v : Value), L0[i]? = some (some v) → (jsl args)[i]? = some (some v))
    (h : ∀ E, jC K (gA G hs) E y.cls cc nL fr lo mc ms → jQ K (gA G hs) E ret mc ms post px → jNoX E → jNm E y.name → J K (gA G hs) E nL G hs 0 0 0 L0 []) : Ct l K y cc nL ret fr lo mc ms args G hs post px := by
  refine vx_ofW (cc := cc) (maxL := nL) (ret := ret) hy rfl ?_
  intro p e s m as below meth c s₁ B hml hnx hv
  obtain ⟨rfl, hsz, hP, hN⟩ := hv
  have hts := atoms_spec (ws := Cond.code y cc nL ret :: jW) B.pre
  have hown : s.vm.findClass y.cls = some m.cls := findClass_of_methodNamed B.named
  have hin : meth.name = y.name := (name_of_methodNamed B.named B.method).1
  have hv0 := lv_entry args (n := nL) hn
  rw [lg_entry_eq]
  have key := h (p, l, e, _, s, m, args.toArray, below, meth, c, vx_MQ below (gQ K (gA G hs) post) (gX K (gA G hs) px) args.toArray s mc ms (gA G hs)) ⟨B.exec, B.bytes, hml, hown, B.notSynchronized, fun w hw => hts w (List.mem_cons_of_mem _ hw), hN, fun q hq => Or.inr (by rw [← hsz]; exact hq), hl, rfl⟩ ⟨B.returns, rfl⟩ hnx hin
  exact key s.heap [] _ hP hsz va_S.rf (jlv.sub hv0 (fun i v hi => by
    have := jsl_args args 0 i v (hL0 i v hi)
    rwa [Nat.zero_add] at this))
theorem Ct.met {l : Launch} {K : jK} {y : MethodName} {cc : ByteArray} {nL : Nat} {ret : Option FieldType} {fr lo mc ms : Nat} {args : List Value} {G : GH} {hs : Nat} {post : Option Value → GH → Nat → Prop} (h : Ct l K y cc nL ret fr lo mc ms args G hs post jno) :
    Met l y (Cond.code y cc nL ret :: jW) { frames := fr, cells := mc, slots := ms, locals := lo } (va_Pc args (fun U => U.heap.size = hs ∧ gP K.1 (gA G hs) G U.heap ∧ gN K (gA G hs) U)) (gQ K (gA G hs) post) mc ms (gA G hs) := by
  intro p e ha hf hc s m as below h1 h2 h3 h4
  obtain ⟨n, o, b1, b2, b3, b4⟩ := h p e ha hf hc s m as below h1 h2 h3 h4
  refine ⟨n, o, b1, b2, b3, ?_⟩
  rcases b4 with b | ⟨q, -, X, ce, L, ⟨⟨G9, hx, -⟩, -⟩, -⟩
  · exact b
  · exact hx.elim
theorem gA_blind {K : jK} {args : List Value} {G : GH} {hs : Nat} : FrameBlind (va_Pc args (fun U => U.heap.size = hs ∧ gP K.1 (gA G hs) G U.heap ∧ gN K (gA G hs) U)) := fun a U g mk q => by
  obtain ⟨q0, q1, qP, qN⟩ := q
  exact ⟨q0, q1, qP, qN.calling g mk a⟩
end
section
/-! ===== the rows of J, an instruction each ===== -/
section JR
variable {K : jK} {A : Nat → Prop} {E : jE} {own : String} {cc : ByteArray} {nL fr lo9 mc ms : Nat} {G : GH} {hs cells slots pc : Nat} {lo : List (Option Value)} {rest : List Value}
theorem j_iconst (hE : jC K A E own cc nL fr lo9 mc ms) {n : Int} {v : Int32} (hd : decode cc pc = .ok (.iconst n, 1)) (hv : Int32.ofInt n = v) (k : J K A E nL G hs cells slots (pc + 1) lo (.int v :: rest)) : J K A E nL G hs cells slots pc lo rest := by
  obtain ⟨p, l, e, R, s, m, args, below, meth, c, Q⟩ := E
  obtain ⟨hx, hb, hml, hown, hlk, hts, hN, hA, hst, hR⟩ := hE
  intro H locs ls hP hz hS hl
  exact lv_iconst hx hb hd hv (k H locs ls hP hz hS hl)
theorem j_bipush (hE : jC K A E own cc nL fr lo9 mc ms) {n : Int} {v : Int32} (hd : decode cc pc = .ok (.bipush n, 2)) (hv : (Int8.ofInt n).toInt32 = v) (k : J K A E nL G hs cells slots (pc + 2) lo (.int v :: rest)) : J K A E nL G hs cells slots pc lo rest := by
  obtain ⟨p, l, e, R, s, m, args, below, meth, c, Q⟩ := E
  obtain ⟨hx, hb, hml, hown, hlk, hts, hN, hA, hst, hR⟩ := hE
  intro H locs ls hP hz hS hl
  exact lv_bipush hx hb hd hv (k H locs ls hP hz hS hl)
theorem j_sipush (hE : jC K A E own cc nL fr lo9 mc ms) {n : Int} {v : Int32} (hd : decode cc pc = .ok (.sipush n, 3)) (hv : (Int16.ofInt n).toInt32 = v) (k : J K A E nL G hs cells slots (pc + 3) lo (.int v :: rest)) : J K A E nL G hs cells slots pc lo rest := by
  obtain ⟨p, l, e, R, s, m, args, below, meth, c, Q⟩ := E
  obtain ⟨hx, hb, hml, hown, hlk, hts, hN, hA, hst, hR⟩ := hE
  intro H locs ls hP hz hS hl
  exact lv_sipush hx hb hd hv (k H locs ls hP hz hS hl)
theorem j_lconst (hE : jC K A E own cc nL fr lo9 mc ms) {n : Fin 2} {v : Int64} (hd : decode cc pc = .ok (.lconst n, 1)) (hv : Int64.ofNat (n : Nat) = v) (k : J K A E nL G hs cells slots (pc + 1) lo (.long v :: rest)) : J K A E nL G hs cells slots pc lo rest := by
  obtain ⟨p, l, e, R, s, m, args, below, meth, c, Q⟩ := E
  obtain ⟨hx, hb, hml, hown, hlk, hts, hN, hA, hst, hR⟩ := hE
  intro H locs ls hP hz hS hl
  exact lv_lconst hx hb hd hv (k H locs ls hP hz hS hl)
theorem j_ldc (hE : jC K A E own cc nL fr lo9 mc ms) {idx : Nat} {v : Int32} (hd : decode cc pc = .ok (.ldc idx, 2)) (hw : Cond.constant own idx v ∈ jW) (k : J K A E nL G hs cells slots (pc + 2) lo (.int v :: rest)) : J K A E nL G hs cells slots pc lo rest := by
  obtain ⟨p, l, e, R, s, m, args, below, meth, c, Q⟩ := E
  obtain ⟨hx, hb, hml, hown, hlk, hts, hN, hA, hst, hR⟩ := hE
  intro H locs ls hP hz hS hl
  exact lv_ldc hx hb hown (hts _ hw) hd (k H locs ls hP hz hS hl)
theorem j_ldc2 (hE : jC K A E own cc nL fr lo9 mc ms) {idx : Nat} {v : Int64} (hd : decode cc pc = .ok (.ldc2_w idx, 3)) (hw : Cond.constantLong own idx v ∈ jW) (k : J K A E nL G hs cells slots (pc + 3) lo (.long v :: rest)) : J K A E nL G hs cells slots pc lo rest := by
  obtain ⟨p, l, e, R, s, m, args, below, meth, c, Q⟩ := E
  obtain ⟨hx, hb, hml, hown, hlk, hts, hN, hA, hst, hR⟩ := hE
  intro H locs ls hP hz hS hl
  exact lv_ldc2 hx hb hown (hts _ hw) hd (k H locs ls hP hz hS hl)
theorem j_dconst0 (hE : jC K A E own cc nL fr lo9 mc ms) (hd : decode cc pc = .ok (.dconst 0, 1)) (k : J K A E nL G hs cells slots (pc + 1) lo (.double FP.dconst0 :: rest)) : J K A E nL G hs cells slots pc lo rest := by
  obtain ⟨p, l, e, R, s, m, args, below, meth, c, Q⟩ := E
  obtain ⟨hx, hb, hml, hown, hlk, hts, hN, hA, hst, hR⟩ := hE
  intro H locs ls hP hz hS hl
  exact lv_dconst0 hx hb hd (k H locs ls hP hz hS hl)
theorem j_iload_n (hE : jC K A E own cc nL fr lo9 mc ms) {k : Fin 4} {i : Nat} {x : Int32} (hd : decode cc pc = .ok (.iload_n k, 1)) (hi : (k : Nat) = i) (hv : lo[i]? = some (some (.int x))) (k : J K A E nL G hs cells slots (pc + 1) lo (.int x :: rest)) : J K A E nL G hs cells slots pc lo rest := by
  obtain ⟨p, l, e, R, s, m, args, below, meth, c, Q⟩ := E
  obtain ⟨hx, hb, hml, hown, hlk, hts, hN, hA, hst, hR⟩ := hE
  intro H locs ls hP hz hS hl
  exact lv_iload_n hx hb hd hi (hl.at_ hv) (k H locs ls hP hz hS hl)
theorem j_aload_n (hE : jC K A E own cc nL fr lo9 mc ms) {k : Fin 4} {i : Nat} {x : Nat} (hd : decode cc pc = .ok (.aload_n k, 1)) (hi : (k : Nat) = i) (hv : lo[i]? = some (some (.ref x))) (k : J K A E nL G hs cells slots (pc + 1) lo (.ref x :: rest)) : J K A E nL G hs cells slots pc lo rest := by
  obtain ⟨p, l, e, R, s, m, args, below, meth, c, Q⟩ := E
  obtain ⟨hx, hb, hml, hown, hlk, hts, hN, hA, hst, hR⟩ := hE
  intro H locs ls hP hz hS hl
  exact lv_aload_n hx hb hd hi (hl.at_ hv) (k H locs ls hP hz hS hl)
theorem j_lload_n (hE : jC K A E own cc nL fr lo9 mc ms) {k : Fin 4} {i : Nat} {x : Int64} (hd : decode cc pc = .ok (.lload_n k, 1)) (hi : (k : Nat) = i) (hv : lo[i]? = some (some (.long x))) (k : J K A E nL G hs cells slots (pc + 1) lo (.long x :: rest)) : J K A E nL G hs cells slots pc lo rest := by
  obtain ⟨p, l, e, R, s, m, args, below, meth, c, Q⟩ := E
  obtain ⟨hx, hb, hml, hown, hlk, hts, hN, hA, hst, hR⟩ := hE
  intro H locs ls hP hz hS hl
  exact lv_lload_n hx hb hd hi (hl.at_ hv) (k H locs ls hP hz hS hl)
theorem j_iload (hE : jC K A E own cc nL fr lo9 mc ms) {i : Nat} {x : Int32} (hd : decode cc pc = .ok (.iload i, 2)) (hv : lo[i]? = some (some (.int x))) (k : J K A E nL G hs cells slots (pc + 2) lo (.int x :: rest)) : J K A E nL G hs cells slots pc lo rest := by
  obtain ⟨p, l, e, R, s, m, args, below, meth, c, Q⟩ := E
  obtain ⟨hx, hb, hml, hown, hlk, hts, hN, hA, hst, hR⟩ := hE
  intro H locs ls hP hz hS hl
  exact lv_iload hx hb hd (hl.at_ hv) (k H locs ls hP hz hS hl)
theorem j_aload (hE : jC K A E own cc nL fr lo9 mc ms) {i : Nat} {x : Nat} (hd : decode cc pc = .ok (.aload i, 2)) (hv : lo[i]? = some (some (.ref x))) (k : J K A E nL G hs cells slots (pc + 2) lo (.ref x :: rest)) : J K A E nL G hs cells slots pc lo rest := by
  obtain ⟨p, l, e, R, s, m, args, below, meth, c, Q⟩ := E
  obtain ⟨hx, hb, hml, hown, hlk, hts, hN, hA, hst, hR⟩ := hE
  intro H locs ls hP hz hS hl
  exact lv_aload hx hb hd (hl.at_ hv) (k H locs ls hP hz hS hl)
theorem j_dload (hE : jC K A E own cc nL fr lo9 mc ms) {i : Nat} {x : UInt64} (hd : decode cc pc = .ok (.dload i, 2)) (hv : lo[i]? = some (some (.double x))) (k : J K A E nL G hs cells slots (pc + 2) lo (.double x :: rest)) : J K A E nL G hs cells slots pc lo rest := by
  obtain ⟨p, l, e, R, s, m, args, below, meth, c, Q⟩ := E
  obtain ⟨hx, hb, hml, hown, hlk, hts, hN, hA, hst, hR⟩ := hE
  intro H locs ls hP hz hS hl
  exact lv_dload hx hb hd (hl.at_ hv) (k H locs ls hP hz hS hl)
theorem j_istore_n (hE : jC K A E own cc nL fr lo9 mc ms) {k : Fin 4} {i : Nat} {x : Int32} (hd : decode cc pc = .ok (.istore_n k, 1)) (hi : (k : Nat) = i) (hn : i < nL) (hc : ∀ (w : Value) (j : Nat), j + 1 = i → lo[j]? = some (some w) → w.category = 1) (k : J K A E nL G hs cells slots (pc + 1) (lo.set i (some (.int x))) rest) : J K A E nL G hs cells slots pc lo (.int x :: rest) := by
  obtain ⟨p, l, e, R, s, m, args, below, meth, c, Q⟩ := E
  obtain ⟨hx, hb, hml, hown, hlk, hts, hN, hA, hst, hR⟩ := hE
  intro H locs ls hP hz hS hl
  exact lv_istore_n hx hb hd hi hl hn rfl (fun ls hl => k H locs ls hP hz hS (jlv.store1 hl hc))
theorem j_istore (hE : jC K A E own cc nL fr lo9 mc ms) {i : Nat} {x : Int32} (hd : decode cc pc = .ok (.istore i, 2)) (hn : i < nL) (hc : ∀ (w : Value) (j : Nat), j + 1 = i → lo[j]? = some (some w) → w.category = 1) (k : J K A E nL G hs cells slots (pc + 2) (lo.set i (some (.int x))) rest) : J K A E nL G hs cells slots pc lo (.int x :: rest) := by
  obtain ⟨p, l, e, R, s, m, args, below, meth, c, Q⟩ := E
  obtain ⟨hx, hb, hml, hown, hlk, hts, hN, hA, hst, hR⟩ := hE
  intro H locs ls hP hz hS hl
  exact lv_istore hx hb hd hl hn rfl (fun ls hl => k H locs ls hP hz hS (jlv.store1 hl hc))
theorem j_astore_n (hE : jC K A E own cc nL fr lo9 mc ms) {k : Fin 4} {i : Nat} {x : Nat} (hd : decode cc pc = .ok (.astore_n k, 1)) (hi : (k : Nat) = i) (hn : i < nL) (hc : ∀ (w : Value) (j : Nat), j + 1 = i → lo[j]? = some (some w) → w.category = 1) (k : J K A E nL G hs cells slots (pc + 1) (lo.set i (some (.ref x))) rest) : J K A E nL G hs cells slots pc lo (.ref x :: rest) := by
  obtain ⟨p, l, e, R, s, m, args, below, meth, c, Q⟩ := E
  obtain ⟨hx, hb, hml, hown, hlk, hts, hN, hA, hst, hR⟩ := hE
  intro H locs ls hP hz hS hl
  exact lv_astore_n hx hb hd hi hl hn rfl (fun ls hl => k H locs ls hP hz hS (jlv.store1 hl hc))
theorem j_astore (hE : jC K A E own cc nL fr lo9 mc ms) {i : Nat} {x : Nat} (hd : decode cc pc = .ok (.astore i, 2)) (hn : i < nL) (hc : ∀ (w : Value) (j : Nat), j + 1 = i → lo[j]? = some (some w) → w.category = 1) (k : J K A E nL G hs cells slots (pc + 2) (lo.set i (some (.ref x))) rest) : J K A E nL G hs cells slots pc lo (.ref x :: rest) := by
  obtain ⟨p, l, e, R, s, m, args, below, meth, c, Q⟩ := E
  obtain ⟨hx, hb, hml, hown, hlk, hts, hN, hA, hst, hR⟩ := hE
  intro H locs ls hP hz hS hl
  exact lv_astore hx hb hd hl hn rfl (fun ls hl => k H locs ls hP hz hS (jlv.store1 hl hc))
theorem j_lstore_n (hE : jC K A E own cc nL fr lo9 mc ms) {k : Fin 4} {i : Nat} {x : Int64} (hd : decode cc pc = .ok (.lstore_n k, 1)) (hi : (k : Nat) = i) (hn : i + 1 < nL) (hc : ∀ (w : Value) (j : Nat), j + 1 = i → lo[j]? = some (some w) → w.category = 1) (k : J K A E nL G hs cells slots (pc + 1) ((lo.set i (some (.long x))).set (i + 1) none) rest) : J K A E nL G hs cells slots pc lo (.long x :: rest) := by
  obtain ⟨p, l, e, R, s, m, args, below, meth, c, Q⟩ := E
  obtain ⟨hx, hb, hml, hown, hlk, hts, hN, hA, hst, hR⟩ := hE
  intro H locs ls hP hz hS hl
  exact lv_lstore_n hx hb hd hi hl hn rfl (fun ls hl => k H locs ls hP hz hS (jlv.store2 hl hc))
theorem j_dstore (hE : jC K A E own cc nL fr lo9 mc ms) {i : Nat} {x : UInt64} (hd : decode cc pc = .ok (.dstore i, 2)) (hn : i + 1 < nL) (hc : ∀ (w : Value) (j : Nat), j + 1 = i → lo[j]? = some (some w) → w.category = 1) (k : J K A E nL G hs cells slots (pc + 2) ((lo.set i (some (.double x))).set (i + 1) none) rest) : J K A E nL G hs cells slots pc lo (.double x :: rest) := by
  obtain ⟨p, l, e, R, s, m, args, below, meth, c, Q⟩ := E
  obtain ⟨hx, hb, hml, hown, hlk, hts, hN, hA, hst, hR⟩ := hE
  intro H locs ls hP hz hS hl
  exact lv_dstore hx hb hd hl hn rfl (fun ls hl => k H locs ls hP hz hS (jlv.store2 hl hc))
theorem j_iinc (hE : jC K A E own cc nL fr lo9 mc ms) {i : Nat} {n : Int} {x v : Int32} (hd : decode cc pc = .ok (.iinc i n, 3)) (hx9 : lo[i]? = some (some (.int x))) (hv : x + Int32.ofInt n = v) (hn : i < nL) (hc : ∀ (w : Value) (j : Nat), j + 1 = i → lo[j]? = some (some w) → w.category = 1) (k : J K A E nL G hs cells slots (pc + 3) (lo.set i (some (.int v))) rest) : J K A E nL G hs cells slots pc lo rest := by
  obtain ⟨p, l, e, R, s, m, args, below, meth, c, Q⟩ := E
  obtain ⟨hx, hb, hml, hown, hlk, hts, hN, hA, hst, hR⟩ := hE
  intro H locs ls hP hz hS hl
  obtain ⟨k9, hk9⟩ := hl.place hx9
  exact lv_iinc hx hb hd hl hk9 hv hn rfl (fun ls hl => k H locs ls hP hz hS (jlv.store1 hl hc))
theorem j_dup (hE : jC K A E own cc nL fr lo9 mc ms) {va : Value} (hd : decode cc pc = .ok (.dup, 1)) (hva : va.category = 1) (k : J K A E nL G hs cells slots (pc + 1) lo (va :: va :: rest)) : J K A E nL G hs cells slots pc lo (va :: rest) := by
  obtain ⟨p, l, e, R, s, m, args, below, meth, c, Q⟩ := E
  obtain ⟨hx, hb, hml, hown, hlk, hts, hN, hA, hst, hR⟩ := hE
  intro H locs ls hP hz hS hl
  exact lv_dup hx hb hd hva (k H locs ls hP hz hS hl)
theorem j_dup2 (hE : jC K A E own cc nL fr lo9 mc ms) {va vb : Value} (hd : decode cc pc = .ok (.dup2, 1)) (hva : va.category = 1) (hvb : vb.category = 1) (k : J K A E nL G hs cells slots (pc + 1) lo (va :: vb :: va :: vb :: rest)) : J K A E nL G hs cells slots pc lo (va :: vb :: rest) := by
  obtain ⟨p, l, e, R, s, m, args, below, meth, c, Q⟩ := E
  obtain ⟨hx, hb, hml, hown, hlk, hts, hN, hA, hst, hR⟩ := hE
  intro H locs ls hP hz hS hl
  exact lv_dup2_11 hx hb hd hva hvb (k H locs ls hP hz hS hl)
theorem j_iadd (hE : jC K A E own cc nL fr lo9 mc ms) {x y : Int32} (hd : decode cc pc = .ok (.iadd, 1)) (k : J K A E nL G hs cells slots (pc + 1) lo (.int (x + y) :: rest)) : J K A E nL G hs cells slots pc lo (.int y :: .int x :: rest) := by
  obtain ⟨p, l, e, R, s, m, args, below, meth, c, Q⟩ := E
  obtain ⟨hx, hb, hml, hown, hlk, hts, hN, hA, hst, hR⟩ := hE
  intro H locs ls hP hz hS hl
  exact lv_iadd hx hb hd (k H locs ls hP hz hS hl)
theorem j_isub (hE : jC K A E own cc nL fr lo9 mc ms) {x y : Int32} (hd : decode cc pc = .ok (.isub, 1)) (k : J K A E nL G hs cells slots (pc + 1) lo (.int (x - y) :: rest)) : J K A E nL G hs cells slots pc lo (.int y :: .int x :: rest) := by
  obtain ⟨p, l, e, R, s, m, args, below, meth, c, Q⟩ := E
  obtain ⟨hx, hb, hml, hown, hlk, hts, hN, hA, hst, hR⟩ := hE
  intro H locs ls hP hz hS hl
  exact lv_isub hx hb hd (k H locs ls hP hz hS hl)
theorem j_imul (hE : jC K A E own cc nL fr lo9 mc ms) {x y : Int32} (hd : decode cc pc = .ok (.imul, 1)) (k : J K A E nL G hs cells slots (pc + 1) lo (.int (x * y) :: rest)) : J K A E nL G hs cells slots pc lo (.int y :: .int x :: rest) := by
  obtain ⟨p, l, e, R, s, m, args, below, meth, c, Q⟩ := E
  obtain ⟨hx, hb, hml, hown, hlk, hts, hN, hA, hst, hR⟩ := hE
  intro H locs ls hP hz hS hl
  exact lv_imul hx hb hd (k H locs ls hP hz hS hl)
theorem j_iand (hE : jC K A E own cc nL fr lo9 mc ms) {x y : Int32} (hd : decode cc pc = .ok (.iand, 1)) (k : J K A E nL G hs cells slots (pc + 1) lo (.int (x &&& y) :: rest)) : J K A E nL G hs cells slots pc lo (.int y :: .int x :: rest) := by
  obtain ⟨p, l, e, R, s, m, args, below, meth, c, Q⟩ := E
  obtain ⟨hx, hb, hml, hown, hlk, hts, hN, hA, hst, hR⟩ := hE
  intro H locs ls hP hz hS hl
  exact lv_iand hx hb hd (k H locs ls hP hz hS hl)
theorem j_ior (hE : jC K A E own cc nL fr lo9 mc ms) {x y : Int32} (hd : decode cc pc = .ok (.ior, 1)) (k : J K A E nL G hs cells slots (pc + 1) lo (.int (x ||| y) :: rest)) : J K A E nL G hs cells slots pc lo (.int y :: .int x :: rest) := by
  obtain ⟨p, l, e, R, s, m, args, below, meth, c, Q⟩ := E
  obtain ⟨hx, hb, hml, hown, hlk, hts, hN, hA, hst, hR⟩ := hE
  intro H locs ls hP hz hS hl
  exact lv_ior hx hb hd (k H locs ls hP hz hS hl)
theorem j_ishl (hE : jC K A E own cc nL fr lo9 mc ms) {x y : Int32} (hd : decode cc pc = .ok (.ishl, 1)) (k : J K A E nL G hs cells slots (pc + 1) lo (.int (x <<< (y &&& 31)) :: rest)) : J K A E nL G hs cells slots pc lo (.int y :: .int x :: rest) := by
  obtain ⟨p, l, e, R, s, m, args, below, meth, c, Q⟩ := E
  obtain ⟨hx, hb, hml, hown, hlk, hts, hN, hA, hst, hR⟩ := hE
  intro H locs ls hP hz hS hl
  exact lv_ishl hx hb hd (k H locs ls hP hz hS hl)
theorem j_ishr (hE : jC K A E own cc nL fr lo9 mc ms) {x y : Int32} (hd : decode cc pc = .ok (.ishr, 1)) (k : J K A E nL G hs cells slots (pc + 1) lo (.int (x >>> (y &&& 31)) :: rest)) : J K A E nL G hs cells slots pc lo (.int y :: .int x :: rest) := by
  obtain ⟨p, l, e, R, s, m, args, below, meth, c, Q⟩ := E
  obtain ⟨hx, hb, hml, hown, hlk, hts, hN, hA, hst, hR⟩ := hE
  intro H locs ls hP hz hS hl
  exact lv_ishr hx hb hd (k H locs ls hP hz hS hl)
theorem j_idiv (hE : jC K A E own cc nL fr lo9 mc ms) {x y : Int32} (hd : decode cc pc = .ok (.idiv, 1)) (hne : ¬ y = 0) (k : J K A E nL G hs cells slots (pc + 1) lo (.int (x / y) :: rest)) : J K A E nL G hs cells slots pc lo (.int y :: .int x :: rest) := by
  obtain ⟨p, l, e, R, s, m, args, below, meth, c, Q⟩ := E
  obtain ⟨hx, hb, hml, hown, hlk, hts, hN, hA, hst, hR⟩ := hE
  intro H locs ls hP hz hS hl
  exact lv_idiv hx hb hd hne (k H locs ls hP hz hS hl)
theorem j_irem (hE : jC K A E own cc nL fr lo9 mc ms) {x y : Int32} (hd : decode cc pc = .ok (.irem, 1)) (hne : ¬ y = 0) (k : J K A E nL G hs cells slots (pc + 1) lo (.int (x - x / y * y) :: rest)) : J K A E nL G hs cells slots pc lo (.int y :: .int x :: rest) := by
  obtain ⟨p, l, e, R, s, m, args, below, meth, c, Q⟩ := E
  obtain ⟨hx, hb, hml, hown, hlk, hts, hN, hA, hst, hR⟩ := hE
  intro H locs ls hP hz hS hl
  exact lv_irem hx hb hd hne (k H locs ls hP hz hS hl)
theorem j_ineg (hE : jC K A E own cc nL fr lo9 mc ms) {x : Int32} (hd : decode cc pc = .ok (.ineg, 1)) (k : J K A E nL G hs cells slots (pc + 1) lo (.int (-x) :: rest)) : J K A E nL G hs cells slots pc lo (.int x :: rest) := by
  obtain ⟨p, l, e, R, s, m, args, below, meth, c, Q⟩ := E
  obtain ⟨hx, hb, hml, hown, hlk, hts, hN, hA, hst, hR⟩ := hE
  intro H locs ls hP hz hS hl
  exact lv_ineg hx hb hd (k H locs ls hP hz hS hl)
theorem j_i2l (hE : jC K A E own cc nL fr lo9 mc ms) {x : Int32} (hd : decode cc pc = .ok (.i2l, 1)) (k : J K A E nL G hs cells slots (pc + 1) lo (.long x.toInt64 :: rest)) : J K A E nL G hs cells slots pc lo (.int x :: rest) := by
  obtain ⟨p, l, e, R, s, m, args, below, meth, c, Q⟩ := E
  obtain ⟨hx, hb, hml, hown, hlk, hts, hN, hA, hst, hR⟩ := hE
  intro H locs ls hP hz hS hl
  exact lv_i2l hx hb hd rfl (k H locs ls hP hz hS hl)
theorem j_i2d (hE : jC K A E own cc nL fr lo9 mc ms) {x : Int32} (hd : decode cc pc = .ok (.i2d, 1)) (k : J K A E nL G hs cells slots (pc + 1) lo (.double (FP.i2d x) :: rest)) : J K A E nL G hs cells slots pc lo (.int x :: rest) := by
  obtain ⟨p, l, e, R, s, m, args, below, meth, c, Q⟩ := E
  obtain ⟨hx, hb, hml, hown, hlk, hts, hN, hA, hst, hR⟩ := hE
  intro H locs ls hP hz hS hl
  exact lv_i2d hx hb hd (k H locs ls hP hz hS hl)
theorem j_ladd (hE : jC K A E own cc nL fr lo9 mc ms) {x y : Int64} (hd : decode cc pc = .ok (.ladd, 1)) (k : J K A E nL G hs cells slots (pc + 1) lo (.long (x + y) :: rest)) : J K A E nL G hs cells slots pc lo (.long y :: .long x :: rest) := by
  obtain ⟨p, l, e, R, s, m, args, below, meth, c, Q⟩ := E
  obtain ⟨hx, hb, hml, hown, hlk, hts, hN, hA, hst, hR⟩ := hE
  intro H locs ls hP hz hS hl
  exact lv_ladd hx hb hd (k H locs ls hP hz hS hl)
theorem j_lmul (hE : jC K A E own cc nL fr lo9 mc ms) {x y : Int64} (hd : decode cc pc = .ok (.lmul, 1)) (k : J K A E nL G hs cells slots (pc + 1) lo (.long (x * y) :: rest)) : J K A E nL G hs cells slots pc lo (.long y :: .long x :: rest) := by
  obtain ⟨p, l, e, R, s, m, args, below, meth, c, Q⟩ := E
  obtain ⟨hx, hb, hml, hown, hlk, hts, hN, hA, hst, hR⟩ := hE
  intro H locs ls hP hz hS hl
  exact lv_lmul hx hb hd (k H locs ls hP hz hS hl)
theorem j_lcmp (hE : jC K A E own cc nL fr lo9 mc ms) {x y : Int64} (hd : decode cc pc = .ok (.lcmp, 1)) (k : J K A E nL G hs cells slots (pc + 1) lo (.int (lg_cmp x y) :: rest)) : J K A E nL G hs cells slots pc lo (.long y :: .long x :: rest) := by
  obtain ⟨p, l, e, R, s, m, args, below, meth, c, Q⟩ := E
  obtain ⟨hx, hb, hml, hown, hlk, hts, hN, hA, hst, hR⟩ := hE
  intro H locs ls hP hz hS hl
  exact W.lcmp hx hb hd (k H locs ls hP hz hS hl)
theorem j_ddiv (hE : jC K A E own cc nL fr lo9 mc ms) {x y : UInt64} (hd : decode cc pc = .ok (.ddiv, 1)) (hne : vf_n64 (FP.ddiv x y)) (k : J K A E nL G hs cells slots (pc + 1) lo (.double (FP.ddiv x y) :: rest)) : J K A E nL G hs cells slots pc lo (.double y :: .double x :: rest) := by
  obtain ⟨p, l, e, R, s, m, args, below, meth, c, Q⟩ := E
  obtain ⟨hx, hb, hml, hown, hlk, hts, hN, hA, hst, hR⟩ := hE
  intro H locs ls hP hz hS hl
  exact lv_ddiv hx hb hd hne (k H locs ls hP hz hS hl)
theorem j_dcmp (hE : jC K A E own cc nL fr lo9 mc ms) {x y : UInt64} {op : CmpOp} (hd : decode cc pc = .ok (.dcmp op, 1)) (k : J K A E nL G hs cells slots (pc + 1) lo (.int (Op.cmpValue (FP.dcmp x y) op) :: rest)) : J K A E nL G hs cells slots pc lo (.double y :: .double x :: rest) := by
  obtain ⟨p, l, e, R, s, m, args, below, meth, c, Q⟩ := E
  obtain ⟨hx, hb, hml, hown, hlk, hts, hN, hA, hst, hR⟩ := hE
  intro H locs ls hP hz hS hl
  exact lv_dcmp hx hb hd (k H locs ls hP hz hS hl)
theorem j_iaddN (hE : jC K A E own cc nL fr lo9 mc ms) {x y : Nat} (hd : decode cc pc = .ok (.iadd, 1)) (k : J K A E nL G hs cells slots (pc + 1) lo (.int (nI (x + y)) :: rest)) : J K A E nL G hs cells slots pc lo (.int (nI y) :: .int (nI x) :: rest) := by
  obtain ⟨p, l, e, R, s, m, args, below, meth, c, Q⟩ := E
  obtain ⟨hx, hb, hml, hown, hlk, hts, hN, hA, hst, hR⟩ := hE
  intro H locs ls hP hz hS hl
  exact lv_iadd hx hb hd <| by rw [nI_add]; exact (k H locs ls hP hz hS hl)
theorem j_imulN (hE : jC K A E own cc nL fr lo9 mc ms) {x y : Nat} (hd : decode cc pc = .ok (.imul, 1)) (k : J K A E nL G hs cells slots (pc + 1) lo (.int (nI (x * y)) :: rest)) : J K A E nL G hs cells slots pc lo (.int (nI y) :: .int (nI x) :: rest) := by
  obtain ⟨p, l, e, R, s, m, args, below, meth, c, Q⟩ := E
  obtain ⟨hx, hb, hml, hown, hlk, hts, hN, hA, hst, hR⟩ := hE
  intro H locs ls hP hz hS hl
  exact lv_imul hx hb hd <| by rw [pk_mul]; exact (k H locs ls hP hz hS hl)
theorem j_isubN (hE : jC K A E own cc nL fr lo9 mc ms) {x y : Nat} (hd : decode cc pc = .ok (.isub, 1)) (hle : y ≤ x) (k : J K A E nL G hs cells slots (pc + 1) lo (.int (nI (x - y)) :: rest)) : J K A E nL G hs cells slots pc lo (.int (nI y) :: .int (nI x) :: rest) := by
  obtain ⟨p, l, e, R, s, m, args, below, meth, c, Q⟩ := E
  obtain ⟨hx, hb, hml, hown, hlk, hts, hN, hA, hst, hR⟩ := hE
  intro H locs ls hP hz hS hl
  exact lv_isub hx hb hd <| by rw [pk_sub hle]; exact (k H locs ls hP hz hS hl)
theorem j_idivN (hE : jC K A E own cc nL fr lo9 mc ms) {x y : Nat} (hd : decode cc pc = .ok (.idiv, 1)) (h0 : 0 < y) (hX : x < 2 ^ 31) (hY : y < 2 ^ 31) (k : J K A E nL G hs cells slots (pc + 1) lo (.int (nI (x / y)) :: rest)) : J K A E nL G hs cells slots pc lo (.int (nI y) :: .int (nI x) :: rest) := by
  obtain ⟨p, l, e, R, s, m, args, below, meth, c, Q⟩ := E
  obtain ⟨hx, hb, hml, hown, hlk, hts, hN, hA, hst, hR⟩ := hE
  intro H locs ls hP hz hS hl
  exact lv_idiv hx hb hd (nI_ne0 h0 hY) <| by rw [pk_div hX h0 hY]; exact (k H locs ls hP hz hS hl)
theorem j_iremN (hE : jC K A E own cc nL fr lo9 mc ms) {x y : Nat} (hd : decode cc pc = .ok (.irem, 1)) (h0 : 0 < y) (hX : x < 2 ^ 31) (hY : y < 2 ^ 31) (k : J K A E nL G hs cells slots (pc + 1) lo (.int (nI (x % y)) :: rest)) : J K A E nL G hs cells slots pc lo (.int (nI y) :: .int (nI x) :: rest) := by
  obtain ⟨p, l, e, R, s, m, args, below, meth, c, Q⟩ := E
  obtain ⟨hx, hb, hml, hown, hlk, hts, hN, hA, hst, hR⟩ := hE
  intro H locs ls hP hz hS hl
  exact lv_irem hx hb hd (nI_ne0 h0 hY) <| by rw [pk_rem hX h0 hY]; exact (k H locs ls hP hz hS hl)
theorem j_goto (hE : jC K A E own cc nL fr lo9 mc ms) {off : Int} {tgt : Nat} (hd : decode cc pc = .ok (.goto off, 3)) (ht : (pc : Int) + off = (tgt : Int)) (k : J K A E nL G hs cells slots tgt lo rest) : J K A E nL G hs cells slots pc lo rest := by
  obtain ⟨p, l, e, R, s, m, args, below, meth, c, Q⟩ := E
  obtain ⟨hx, hb, hml, hown, hlk, hts, hN, hA, hst, hR⟩ := hE
  intro H locs ls hP hz hS hl
  exact lv_goto hx hb hd ht (k H locs ls hP hz hS hl)
theorem j_if_eq (hE : jC K A E own cc nL fr lo9 mc ms) {x : Int32} {off : Int} {tgt : Nat} (hd : decode cc pc = .ok (.ifCond .eq off, 3)) (ht : (pc : Int) + off = (tgt : Int)) (kt : x = 0 → J K A E nL G hs cells slots tgt lo rest) (kf : ¬ x = 0 → J K A E nL G hs cells slots (pc + 3) lo rest) : J K A E nL G hs cells slots pc lo (.int x :: rest) := by
  obtain ⟨p, l, e, R, s, m, args, below, meth, c, Q⟩ := E
  obtain ⟨hx, hb, hml, hown, hlk, hts, hN, hA, hst, hR⟩ := hE
  intro H locs ls hP hz hS hl
  exact lv_if_eq hx hb hd ht (fun h => kt h H locs ls hP hz hS hl) (fun h => kf h H locs ls hP hz hS hl)
theorem j_if_ne (hE : jC K A E own cc nL fr lo9 mc ms) {x : Int32} {off : Int} {tgt : Nat} (hd : decode cc pc = .ok (.ifCond .ne off, 3)) (ht : (pc : Int) + off = (tgt : Int)) (kt : ¬ x = 0 → J K A E nL G hs cells slots tgt lo rest) (kf : x = 0 → J K A E nL G hs cells slots (pc + 3) lo rest) : J K A E nL G hs cells slots pc lo (.int x :: rest) := by
  obtain ⟨p, l, e, R, s, m, args, below, meth, c, Q⟩ := E
  obtain ⟨hx, hb, hml, hown, hlk, hts, hN, hA, hst, hR⟩ := hE
  intro H locs ls hP hz hS hl
  exact lv_if_ne hx hb hd ht (fun h => kt h H locs ls hP hz hS hl) (fun h => kf h H locs ls hP hz hS hl)
theorem j_if_lt (hE : jC K A E own cc nL fr lo9 mc ms) {x : Int32} {off : Int} {tgt : Nat} (hd : decode cc pc = .ok (.ifCond .lt off, 3)) (ht : (pc : Int) + off = (tgt : Int)) (kt : x < 0 → J K A E nL G hs cells slots tgt lo rest) (kf : ¬ x < 0 → J K A E nL G hs cells slots (pc + 3) lo rest) : J K A E nL G hs cells slots pc lo (.int x :: rest) := by
  obtain ⟨p, l, e, R, s, m, args, below, meth, c, Q⟩ := E
  obtain ⟨hx, hb, hml, hown, hlk, hts, hN, hA, hst, hR⟩ := hE
  intro H locs ls hP hz hS hl
  exact lv_if_lt hx hb hd ht (fun h => kt h H locs ls hP hz hS hl) (fun h => kf h H locs ls hP hz hS hl)
theorem j_if_ge (hE : jC K A E own cc nL fr lo9 mc ms) {x : Int32} {off : Int} {tgt : Nat} (hd : decode cc pc = .ok (.ifCond .ge off, 3)) (ht : (pc : Int) + off = (tgt : Int)) (kt : 0 ≤ x → J K A E nL G hs cells slots tgt lo rest) (kf : ¬ 0 ≤ x → J K A E nL G hs cells slots (pc + 3) lo rest) : J K A E nL G hs cells slots pc lo (.int x :: rest) := by
  obtain ⟨p, l, e, R, s, m, args, below, meth, c, Q⟩ := E
  obtain ⟨hx, hb, hml, hown, hlk, hts, hN, hA, hst, hR⟩ := hE
  intro H locs ls hP hz hS hl
  exact lv_if_ge hx hb hd ht (fun h => kt h H locs ls hP hz hS hl) (fun h => kf h H locs ls hP hz hS hl)
theorem j_if_gt (hE : jC K A E own cc nL fr lo9 mc ms) {x : Int32} {off : Int} {tgt : Nat} (hd : decode cc pc = .ok (.ifCond .gt off, 3)) (ht : (pc : Int) + off = (tgt : Int)) (kt : 0 < x → J K A E nL G hs cells slots tgt lo rest) (kf : ¬ 0 < x → J K A E nL G hs cells slots (pc + 3) lo rest) : J K A E nL G hs cells slots pc lo (.int x :: rest) := by
  obtain ⟨p, l, e, R, s, m, args, below, meth, c, Q⟩ := E
  obtain ⟨hx, hb, hml, hown, hlk, hts, hN, hA, hst, hR⟩ := hE
  intro H locs ls hP hz hS hl
  exact lv_if_gt hx hb hd ht (fun h => kt h H locs ls hP hz hS hl) (fun h => kf h H locs ls hP hz hS hl)
theorem j_if_le (hE : jC K A E own cc nL fr lo9 mc ms) {x : Int32} {off : Int} {tgt : Nat} (hd : decode cc pc = .ok (.ifCond .le off, 3)) (ht : (pc : Int) + off = (tgt : Int)) (kt : x ≤ 0 → J K A E nL G hs cells slots tgt lo rest) (kf : ¬ x ≤ 0 → J K A E nL G hs cells slots (pc + 3) lo rest) : J K A E nL G hs cells slots pc lo (.int x :: rest) := by
  obtain ⟨p, l, e, R, s, m, args, below, meth, c, Q⟩ := E
  obtain ⟨hx, hb, hml, hown, hlk, hts, hN, hA, hst, hR⟩ := hE
  intro H locs ls hP hz hS hl
  exact lv_if_le hx hb hd ht (fun h => kt h H locs ls hP hz hS hl) (fun h => kf h H locs ls hP hz hS hl)
theorem j_ic_eq (hE : jC K A E own cc nL fr lo9 mc ms) {x y : Int32} {off : Int} {tgt : Nat} (hd : decode cc pc = .ok (.if_icmp .eq off, 3)) (ht : (pc : Int) + off = (tgt : Int)) (kt : x = y → J K A E nL G hs cells slots tgt lo rest) (kf : ¬ x = y → J K A E nL G hs cells slots (pc + 3) lo rest) : J K A E nL G hs cells slots pc lo (.int y :: .int x :: rest) := by
  obtain ⟨p, l, e, R, s, m, args, below, meth, c, Q⟩ := E
  obtain ⟨hx, hb, hml, hown, hlk, hts, hN, hA, hst, hR⟩ := hE
  intro H locs ls hP hz hS hl
  exact lv_icmp_eq hx hb hd ht (fun h => kt h H locs ls hP hz hS hl) (fun h => kf h H locs ls hP hz hS hl)
theorem j_ic_ne (hE : jC K A E own cc nL fr lo9 mc ms) {x y : Int32} {off : Int} {tgt : Nat} (hd : decode cc pc = .ok (.if_icmp .ne off, 3)) (ht : (pc : Int) + off = (tgt : Int)) (kt : ¬ x = y → J K A E nL G hs cells slots tgt lo rest) (kf : x = y → J K A E nL G hs cells slots (pc + 3) lo rest) : J K A E nL G hs cells slots pc lo (.int y :: .int x :: rest) := by
  obtain ⟨p, l, e, R, s, m, args, below, meth, c, Q⟩ := E
  obtain ⟨hx, hb, hml, hown, hlk, hts, hN, hA, hst, hR⟩ := hE
  intro H locs ls hP hz hS hl
  exact lv_icmp_ne hx hb hd ht (fun h => kt h H locs ls hP hz hS hl) (fun h => kf h H locs ls hP hz hS hl)
theorem j_ic_lt (hE : jC K A E own cc nL fr lo9 mc ms) {x y : Int32} {off : Int} {tgt : Nat} (hd : decode cc pc = .ok (.if_icmp .lt off, 3)) (ht : (pc : Int) + off = (tgt : Int)) (kt : x < y → J K A E nL G hs cells slots tgt lo rest) (kf : ¬ x < y → J K A E nL G hs cells slots (pc + 3) lo rest) : J K A E nL G hs cells slots pc lo (.int y :: .int x :: rest) := by
  obtain ⟨p, l, e, R, s, m, args, below, meth, c, Q⟩ := E
  obtain ⟨hx, hb, hml, hown, hlk, hts, hN, hA, hst, hR⟩ := hE
  intro H locs ls hP hz hS hl
  exact lv_icmp_lt hx hb hd ht (fun h => kt h H locs ls hP hz hS hl) (fun h => kf h H locs ls hP hz hS hl)
theorem j_ic_ge (hE : jC K A E own cc nL fr lo9 mc ms) {x y : Int32} {off : Int} {tgt : Nat} (hd : decode cc pc = .ok (.if_icmp .ge off, 3)) (ht : (pc : Int) + off = (tgt : Int)) (kt : y ≤ x → J K A E nL G hs cells slots tgt lo rest) (kf : ¬ y ≤ x → J K A E nL G hs cells slots (pc + 3) lo rest) : J K A E nL G hs cells slots pc lo (.int y :: .int x :: rest) := by
  obtain ⟨p, l, e, R, s, m, args, below, meth, c, Q⟩ := E
  obtain ⟨hx, hb, hml, hown, hlk, hts, hN, hA, hst, hR⟩ := hE
  intro H locs ls hP hz hS hl
  exact lv_icmp_ge hx hb hd ht (fun h => kt h H locs ls hP hz hS hl) (fun h => kf h H locs ls hP hz hS hl)
theorem j_ic_gt (hE : jC K A E own cc nL fr lo9 mc ms) {x y : Int32} {off : Int} {tgt : Nat} (hd : decode cc pc = .ok (.if_icmp .gt off, 3)) (ht : (pc : Int) + off = (tgt : Int)) (kt : y < x → J K A E nL G hs cells slots tgt lo rest) (kf : ¬ y < x → J K A E nL G hs cells slots (pc + 3) lo rest) : J K A E nL G hs cells slots pc lo (.int y :: .int x :: rest) := by
  obtain ⟨p, l, e, R, s, m, args, below, meth, c, Q⟩ := E
  obtain ⟨hx, hb, hml, hown, hlk, hts, hN, hA, hst, hR⟩ := hE
  intro H locs ls hP hz hS hl
  exact lv_icmp_gt hx hb hd ht (fun h => kt h H locs ls hP hz hS hl) (fun h => kf h H locs ls hP hz hS hl)
theorem j_ic_le (hE : jC K A E own cc nL fr lo9 mc ms) {x y : Int32} {off : Int} {tgt : Nat} (hd : decode cc pc = .ok (.if_icmp .le off, 3)) (ht : (pc : Int) + off = (tgt : Int)) (kt : x ≤ y → J K A E nL G hs cells slots tgt lo rest) (kf : ¬ x ≤ y → J K A E nL G hs cells slots (pc + 3) lo rest) : J K A E nL G hs cells slots pc lo (.int y :: .int x :: rest) := by
  obtain ⟨p, l, e, R, s, m, args, below, meth, c, Q⟩ := E
  obtain ⟨hx, hb, hml, hown, hlk, hts, hN, hA, hst, hR⟩ := hE
  intro H locs ls hP hz hS hl
  exact lv_icmp_le hx hb hd ht (fun h => kt h H locs ls hP hz hS hl) (fun h => kf h H locs ls hP hz hS hl)
theorem j_ic_eqN (hE : jC K A E own cc nL fr lo9 mc ms) {x y : Nat} {off : Int} {tgt : Nat} (hd : decode cc pc = .ok (.if_icmp .eq off, 3)) (ht : (pc : Int) + off = (tgt : Int)) (hX : x < 2 ^ 31) (hY : y < 2 ^ 31) (kt : x = y → J K A E nL G hs cells slots tgt lo rest) (kf : x ≠ y → J K A E nL G hs cells slots (pc + 3) lo rest) : J K A E nL G hs cells slots pc lo (.int (nI y) :: .int (nI x) :: rest) := by
  exact j_ic_eq hE hd ht (fun h => kt ((nI_eq hX hY).mp h)) (fun h => kf (fun q => h ((nI_eq hX hY).mpr q)))
theorem j_ic_neN (hE : jC K A E own cc nL fr lo9 mc ms) {x y : Nat} {off : Int} {tgt : Nat} (hd : decode cc pc = .ok (.if_icmp .ne off, 3)) (ht : (pc : Int) + off = (tgt : Int)) (hX : x < 2 ^ 31) (hY : y < 2 ^ 31) (kt : x ≠ y → J K A E nL G hs cells slots tgt lo rest) (kf : x = y → J K A E nL G hs cells slots (pc + 3) lo rest) : J K A E nL G hs cells slots pc lo (.int (nI y) :: .int (nI x) :: rest) := by
  exact j_ic_ne hE hd ht (fun h => kt (fun q => h ((nI_eq hX hY).mpr q))) (fun h => kf ((nI_eq hX hY).mp h))
theorem j_ic_ltN (hE : jC K A E own cc nL fr lo9 mc ms) {x y : Nat} {off : Int} {tgt : Nat} (hd : decode cc pc = .ok (.if_icmp .lt off, 3)) (ht : (pc : Int) + off = (tgt : Int)) (hX : x < 2 ^ 31) (hY : y < 2 ^ 31) (kt : x < y → J K A E nL G hs cells slots tgt lo rest) (kf : y ≤ x → J K A E nL G hs cells slots (pc + 3) lo rest) : J K A E nL G hs cells slots pc lo (.int (nI y) :: .int (nI x) :: rest) := by
  exact j_ic_lt hE hd ht (fun h => kt ((nI_ltI hX hY).mp h)) (fun h => kf (by have h2 := mt (nI_ltI hX hY).mpr h; omega))
theorem j_ic_geN (hE : jC K A E own cc nL fr lo9 mc ms) {x y : Nat} {off : Int} {tgt : Nat} (hd : decode cc pc = .ok (.if_icmp .ge off, 3)) (ht : (pc : Int) + off = (tgt : Int)) (hX : x < 2 ^ 31) (hY : y < 2 ^ 31) (kt : y ≤ x → J K A E nL G hs cells slots tgt lo rest) (kf : x < y → J K A E nL G hs cells slots (pc + 3) lo rest) : J K A E nL G hs cells slots pc lo (.int (nI y) :: .int (nI x) :: rest) := by
  exact j_ic_ge hE hd ht (fun h => kt ((nI_leI hY hX).mp h)) (fun h => kf (by have h2 := mt (nI_leI hY hX).mpr h; omega))
theorem j_ic_gtN (hE : jC K A E own cc nL fr lo9 mc ms) {x y : Nat} {off : Int} {tgt : Nat} (hd : decode cc pc = .ok (.if_icmp .gt off, 3)) (ht : (pc : Int) + off = (tgt : Int)) (hX : x < 2 ^ 31) (hY : y < 2 ^ 31) (kt : y < x → J K A E nL G hs cells slots tgt lo rest) (kf : x ≤ y → J K A E nL G hs cells slots (pc + 3) lo rest) : J K A E nL G hs cells slots pc lo (.int (nI y) :: .int (nI x) :: rest) := by
  exact j_ic_gt hE hd ht (fun h => kt ((nI_ltI hY hX).mp h)) (fun h => kf (by have h2 := mt (nI_ltI hY hX).mpr h; omega))
theorem j_ic_leN (hE : jC K A E own cc nL fr lo9 mc ms) {x y : Nat} {off : Int} {tgt : Nat} (hd : decode cc pc = .ok (.if_icmp .le off, 3)) (ht : (pc : Int) + off = (tgt : Int)) (hX : x < 2 ^ 31) (hY : y < 2 ^ 31) (kt : x ≤ y → J K A E nL G hs cells slots tgt lo rest) (kf : y < x → J K A E nL G hs cells slots (pc + 3) lo rest) : J K A E nL G hs cells slots pc lo (.int (nI y) :: .int (nI x) :: rest) := by
  exact j_ic_le hE hd ht (fun h => kt ((nI_leI hX hY).mp h)) (fun h => kf (by have h2 := mt (nI_leI hX hY).mpr h; omega))
theorem j_if_eqN (hE : jC K A E own cc nL fr lo9 mc ms) {x : Nat} {off : Int} {tgt : Nat} (hd : decode cc pc = .ok (.ifCond .eq off, 3)) (ht : (pc : Int) + off = (tgt : Int)) (hX : x < 2 ^ 31) (kt : x = 0 → J K A E nL G hs cells slots tgt lo rest) (kf : x ≠ 0 → J K A E nL G hs cells slots (pc + 3) lo rest) : J K A E nL G hs cells slots pc lo (.int (nI x) :: rest) :=
  j_if_eq hE hd ht (fun h => kt ((Nat.eq_zero_or_pos x).elim (fun q => q) (fun q => absurd h (nI_ne0 q hX)))) (fun h => kf (fun q => h (by rw [q]; rfl)))
theorem j_if_neN (hE : jC K A E own cc nL fr lo9 mc ms) {x : Nat} {off : Int} {tgt : Nat} (hd : decode cc pc = .ok (.ifCond .ne off, 3)) (ht : (pc : Int) + off = (tgt : Int)) (hX : x < 2 ^ 31) (kt : x ≠ 0 → J K A E nL G hs cells slots tgt lo rest) (kf : x = 0 → J K A E nL G hs cells slots (pc + 3) lo rest) : J K A E nL G hs cells slots pc lo (.int (nI x) :: rest) :=
  j_if_ne hE hd ht (fun h => kt (fun q => h (by rw [q]; rfl))) (fun h => kf ((Nat.eq_zero_or_pos x).elim (fun q => q) (fun q => absurd h (nI_ne0 q hX))))
theorem j_if_leN (hE : jC K A E own cc nL fr lo9 mc ms) {x : Nat} {off : Int} {tgt : Nat} (hd : decode cc pc = .ok (.ifCond .le off, 3)) (ht : (pc : Int) + off = (tgt : Int)) (hX : x < 2 ^ 31) (kt : x = 0 → J K A E nL G hs cells slots tgt lo rest) (kf : 0 < x → J K A E nL G hs cells slots (pc + 3) lo rest) : J K A E nL G hs cells slots pc lo (.int (nI x) :: rest) :=
  j_if_le hE hd ht (fun h => kt ((Nat.eq_zero_or_pos x).elim (fun q => q) (fun q => absurd h (nI_nle q hX)))) (fun h => kf ((Nat.eq_zero_or_pos x).elim (fun q => absurd (by subst q; decide) h) (fun q => q)))
theorem j_if_gtN (hE : jC K A E own cc nL fr lo9 mc ms) {x : Nat} {off : Int} {tgt : Nat} (hd : decode cc pc = .ok (.ifCond .gt off, 3)) (ht : (pc : Int) + off = (tgt : Int)) (hX : x < 2 ^ 31) (kt : 0 < x → J K A E nL G hs cells slots tgt lo rest) (kf : x = 0 → J K A E nL G hs cells slots (pc + 3) lo rest) : J K A E nL G hs cells slots pc lo (.int (nI x) :: rest) :=
  j_if_gt hE hd ht (fun h => kt ((Nat.eq_zero_or_pos x).elim (fun q => absurd h (by subst q; decide)) (fun q => q))) (fun h => kf ((Nat.eq_zero_or_pos x).elim (fun q => q) (fun q => absurd (by rw [← nI_0]; exact nI_lt q hX) h)))
theorem j_tableIn (hE : jC K A E own cc nL fr lo9 mc ms) {dflt lw hi : Int} {offs : Array Int} {len : Nat} {x : Int32} {off : Int} {tgt : Nat} (hd : decode cc pc = .ok (.tableswitch dflt lw hi offs, len)) (h1 : ¬ x.toInt < lw) (h2 : ¬ hi < x.toInt) (ho : offs[(x.toInt - lw).toNat]? = some off) (ht : (pc : Int) + off = (tgt : Int)) (k : J K A E nL G hs cells slots tgt lo rest) : J K A E nL G hs cells slots pc lo (.int x :: rest) := by
  obtain ⟨p, l, e, R, s, m, args, below, meth, c, Q⟩ := E
  obtain ⟨hx, hb, hml, hown, hlk, hts, hN, hA, hst, hR⟩ := hE
  intro H locs ls hP hz hS hl
  exact lv_tableIn hx hb hd h1 h2 ho ht (k H locs ls hP hz hS hl)
theorem j_tableOut (hE : jC K A E own cc nL fr lo9 mc ms) {dflt lw hi : Int} {offs : Array Int} {len : Nat} {x : Int32} {tgt : Nat} (hd : decode cc pc = .ok (.tableswitch dflt lw hi offs, len)) (h : x.toInt < lw ∨ hi < x.toInt) (ht : (pc : Int) + dflt = (tgt : Int)) (k : J K A E nL G hs cells slots tgt lo rest) : J K A E nL G hs cells slots pc lo (.int x :: rest) := by
  obtain ⟨p, l, e, R, s, m, args, below, meth, c, Q⟩ := E
  obtain ⟨hx, hb, hml, hown, hlk, hts, hN, hA, hst, hR⟩ := hE
  intro H locs ls hP hz hS hl
  exact lv_tableOut hx hb hd h ht (k H locs ls hP hz hS hl)
theorem j_widen {k n : Nat} (h1 : cells ≤ k) (h2 : slots ≤ n) (kk : J K A E nL G hs k n pc lo rest) : J K A E nL G hs cells slots pc lo rest := by
  obtain ⟨p, l, e, R, s, m, args, below, meth, c, Q⟩ := E
  intro H locs ls hP hz hS hl
  exact W.widen h1 h2 (kk H locs ls hP hz hS hl)
theorem j_less {lo2 : List (Option Value)} (hq : ∀ (i : Nat) (v : Value), lo2[i]? = some (some v) → lo[i]? = some (some v)) (kk : J K A E nL G hs cells slots pc lo2 rest) : J K A E nL G hs cells slots pc lo rest := by
  obtain ⟨p, l, e, R, s, m, args, below, meth, c, Q⟩ := E
  intro H locs ls hP hz hS hl
  exact kk H locs ls hP hz hS (hl.less hq)
theorem j_ist0 (hE : jC K A E own cc nL fr lo9 mc ms) {z : Option Value} {tl : List (Option Value)} {k : Fin 4} {x : Int32} (hd : decode cc pc = .ok (.istore_n k, 1)) (hi : (k : Nat) = 0) (hn : 0 < nL) (k : J K A E nL G hs cells slots (pc + 1) (some (.int x) :: tl) rest) : J K A E nL G hs cells slots pc (z :: tl) (.int x :: rest) :=
  j_istore_n hE (i := 0) hd hi hn (fun w j hj => by omega) k
theorem j_ast0 (hE : jC K A E own cc nL fr lo9 mc ms) {z : Option Value} {tl : List (Option Value)} {k : Fin 4} {x : Nat} (hd : decode cc pc = .ok (.astore_n k, 1)) (hi : (k : Nat) = 0) (hn : 0 < nL) (k : J K A E nL G hs cells slots (pc + 1) (some (.ref x) :: tl) rest) : J K A E nL G hs cells slots pc (z :: tl) (.ref x :: rest) :=
  j_astore_n hE (i := 0) hd hi hn (fun w j hj => by omega) k
theorem j_inc0 (hE : jC K A E own cc nL fr lo9 mc ms) {tl : List (Option Value)} {n : Int} {x v : Int32} (hd : decode cc pc = .ok (.iinc 0 n, 3)) (hv : x + Int32.ofInt n = v) (hn : 0 < nL) (k : J K A E nL G hs cells slots (pc + 3) (some (.int v) :: tl) rest) : J K A E nL G hs cells slots pc (some (.int x) :: tl) rest :=
  j_iinc hE (i := 0) hd rfl hv hn (fun w j hj => by omega) k
theorem j_incN0 (hE : jC K A E own cc nL fr lo9 mc ms) {tl : List (Option Value)} {x : Nat} (hd : decode cc pc = .ok (.iinc 0 1, 3)) (hn : 0 < nL) (k : J K A E nL G hs cells slots (pc + 3) (some (.int (nI (x + 1))) :: tl) rest) : J K A E nL G hs cells slots pc (some (.int (nI x)) :: tl) rest :=
  j_inc0 hE hd (nI_1 x) hn k
theorem j_ist1 (hE : jC K A E own cc nL fr lo9 mc ms) {a0 : Option Value} {z : Option Value} {tl : List (Option Value)} {k : Fin 4} {x : Int32} (hd : decode cc pc = .ok (.istore_n k, 1)) (hi : (k : Nat) = 1) (hn : 1 < nL) (hc : a0.all (fun w => w.category == 1) = true) (k : J K A E nL G hs cells slots (pc + 1) (a0 :: some (.int x) :: tl) rest) : J K A E nL G hs cells slots pc (a0 :: z :: tl) (.int x :: rest) :=
  j_istore_n hE (i := 1) hd hi hn (fun w j hj hw => by
    have e : j = 0 := by omega
    subst e
    cases hw
    simpa using hc) k
theorem j_ast1 (hE : jC K A E own cc nL fr lo9 mc ms) {a0 : Option Value} {z : Option Value} {tl : List (Option Value)} {k : Fin 4} {x : Nat} (hd : decode cc pc = .ok (.astore_n k, 1)) (hi : (k : Nat) = 1) (hn : 1 < nL) (hc : a0.all (fun w => w.category == 1) = true) (k : J K A E nL G hs cells slots (pc + 1) (a0 :: some (.ref x) :: tl) rest) : J K A E nL G hs cells slots pc (a0 :: z :: tl) (.ref x :: rest) :=
  j_astore_n hE (i := 1) hd hi hn (fun w j hj hw => by
    have e : j = 0 := by omega
    subst e
    cases hw
    simpa using hc) k
theorem j_inc1 (hE : jC K A E own cc nL fr lo9 mc ms) {a0 : Option Value} {tl : List (Option Value)} {n : Int} {x v : Int32} (hd : decode cc pc = .ok (.iinc 1 n, 3)) (hv : x + Int32.ofInt n = v) (hn : 1 < nL) (hc : a0.all (fun w => w.category == 1) = true) (k : J K A E nL G hs cells slots (pc + 3) (a0 :: some (.int v) :: tl) rest) : J K A E nL G hs cells slots pc (a0 :: some (.int x) :: tl) rest :=
  j_iinc hE (i := 1) hd rfl hv hn (fun w j hj hw => by
    have e : j = 0 := by omega
    subst e
    cases hw
    simpa using hc) k
theorem j_incN1 (hE : jC K A E own cc nL fr lo9 mc ms) {a0 : Option Value} {tl : List (Option Value)} {x : Nat} (hd : decode cc pc = .ok (.iinc 1 1, 3)) (hn : 1 < nL) (hc : a0.all (fun w => w.category == 1) = true) (k : J K A E nL G hs cells slots (pc + 3) (a0 :: some (.int (nI (x + 1))) :: tl) rest) : J K A E nL G hs cells slots pc (a0 :: some (.int (nI x)) :: tl) rest :=
  j_inc1 hE hd (nI_1 x) hn hc k
theorem j_ist2 (hE : jC K A E own cc nL fr lo9 mc ms) {a0 a1 : Option Value} {z : Option Value} {tl : List (Option Value)} {k : Fin 4} {x : Int32} (hd : decode cc pc = .ok (.istore_n k, 1)) (hi : (k : Nat) = 2) (hn : 2 < nL) (hc : a1.all (fun w => w.category == 1) = true) (k : J K A E nL G hs cells slots (pc + 1) (a0 :: a1 :: some (.int x) :: tl) rest) : J K A E nL G hs cells slots pc (a0 :: a1 :: z :: tl) (.int x :: rest) :=
  j_istore_n hE (i := 2) hd hi hn (fun w j hj hw => by
    have e : j = 1 := by omega
    subst e
    cases hw
    simpa using hc) k
theorem j_ast2 (hE : jC K A E own cc nL fr lo9 mc ms) {a0 a1 : Option Value} {z : Option Value} {tl : List (Option Value)} {k : Fin 4} {x : Nat} (hd : decode cc pc = .ok (.astore_n k, 1)) (hi : (k : Nat) = 2) (hn : 2 < nL) (hc : a1.all (fun w => w.category == 1) = true) (k : J K A E nL G hs cells slots (pc + 1) (a0 :: a1 :: some (.ref x) :: tl) rest) : J K A E nL G hs cells slots pc (a0 :: a1 :: z :: tl) (.ref x :: rest) :=
  j_astore_n hE (i := 2) hd hi hn (fun w j hj hw => by
    have e : j = 1 := by omega
    subst e
    cases hw
    simpa using hc) k
theorem j_inc2 (hE : jC K A E own cc nL fr lo9 mc ms) {a0 a1 : Option Value} {tl : List (Option Value)} {n : Int} {x v : Int32} (hd : decode cc pc = .ok (.iinc 2 n, 3)) (hv : x + Int32.ofInt n = v) (hn : 2 < nL) (hc : a1.all (fun w => w.category == 1) = true) (k : J K A E nL G hs cells slots (pc + 3) (a0 :: a1 :: some (.int v) :: tl) rest) : J K A E nL G hs cells slots pc (a0 :: a1 :: some (.int x) :: tl) rest :=
  j_iinc hE (i := 2) hd rfl hv hn (fun w j hj hw => by
    have e : j = 1 := by omega
    subst e
    cases hw
    simpa using hc) k
theorem j_incN2 (hE : jC K A E own cc nL fr lo9 mc ms) {a0 a1 : Option Value} {tl : List (Option Value)} {x : Nat} (hd : decode cc pc = .ok (.iinc 2 1, 3)) (hn : 2 < nL) (hc : a1.all (fun w => w.category == 1) = true) (k : J K A E nL G hs cells slots (pc + 3) (a0 :: a1 :: some (.int (nI (x + 1))) :: tl) rest) : J K A E nL G hs cells slots pc (a0 :: a1 :: some (.int (nI x)) :: tl) rest :=
  j_inc2 hE hd (nI_1 x) hn hc k
theorem j_ist3 (hE : jC K A E own cc nL fr lo9 mc ms) {a0 a1 a2 : Option Value} {z : Option Value} {tl : List (Option Value)} {k : Fin 4} {x : Int32} (hd : decode cc pc = .ok (.istore_n k, 1)) (hi : (k : Nat) = 3) (hn : 3 < nL) (hc : a2.all (fun w => w.category == 1) = true) (k : J K A E nL G hs cells slots (pc + 1) (a0 :: a1 :: a2 :: some (.int x) :: tl) rest) : J K A E nL G hs cells slots pc (a0 :: a1 :: a2 :: z :: tl) (.int x :: rest) :=
  j_istore_n hE (i := 3) hd hi hn (fun w j hj hw => by
    have e : j = 2 := by omega
    subst e
    cases hw
    simpa using hc) k
theorem j_ast3 (hE : jC K A E own cc nL fr lo9 mc ms) {a0 a1 a2 : Option Value} {z : Option Value} {tl : List (Option Value)} {k : Fin 4} {x : Nat} (hd : decode cc pc = .ok (.astore_n k, 1)) (hi : (k : Nat) = 3) (hn : 3 < nL) (hc : a2.all (fun w => w.category == 1) = true) (k : J K A E nL G hs cells slots (pc + 1) (a0 :: a1 :: a2 :: some (.ref x) :: tl) rest) : J K A E nL G hs cells slots pc (a0 :: a1 :: a2 :: z :: tl) (.ref x :: rest) :=
  j_astore_n hE (i := 3) hd hi hn (fun w j hj hw => by
    have e : j = 2 := by omega
    subst e
    cases hw
    simpa using hc) k
theorem j_inc3 (hE : jC K A E own cc nL fr lo9 mc ms) {a0 a1 a2 : Option Value} {tl : List (Option Value)} {n : Int} {x v : Int32} (hd : decode cc pc = .ok (.iinc 3 n, 3)) (hv : x + Int32.ofInt n = v) (hn : 3 < nL) (hc : a2.all (fun w => w.category == 1) = true) (k : J K A E nL G hs cells slots (pc + 3) (a0 :: a1 :: a2 :: some (.int v) :: tl) rest) : J K A E nL G hs cells slots pc (a0 :: a1 :: a2 :: some (.int x) :: tl) rest :=
  j_iinc hE (i := 3) hd rfl hv hn (fun w j hj hw => by
    have e : j = 2 := by omega
    subst e
    cases hw
    simpa using hc) k
theorem j_incN3 (hE : jC K A E own cc nL fr lo9 mc ms) {a0 a1 a2 : Option Value} {tl : List (Option Value)} {x : Nat} (hd : decode cc pc = .ok (.iinc 3 1, 3)) (hn : 3 < nL) (hc : a2.all (fun w => w.category == 1) = true) (k : J K A E nL G hs cells slots (pc + 3) (a0 :: a1 :: a2 :: some (.int (nI (x + 1))) :: tl) rest) : J K A E nL G hs cells slots pc (a0 :: a1 :: a2 :: some (.int (nI x)) :: tl) rest :=
  j_inc3 hE hd (nI_1 x) hn hc k
theorem j_ist4 (hE : jC K A E own cc nL fr lo9 mc ms) {a0 a1 a2 a3 : Option Value} {z : Option Value} {tl : List (Option Value)} {x : Int32} (hd : decode cc pc = .ok (.istore 4, 2)) (hn : 4 < nL) (hc : a3.all (fun w => w.category == 1) = true) (k : J K A E nL G hs cells slots (pc + 2) (a0 :: a1 :: a2 :: a3 :: some (.int x) :: tl) rest) : J K A E nL G hs cells slots pc (a0 :: a1 :: a2 :: a3 :: z :: tl) (.int x :: rest) :=
  j_istore hE (i := 4) hd hn (fun w j hj hw => by
    have e : j = 3 := by omega
    subst e
    cases hw
    simpa using hc) k
theorem j_ast4 (hE : jC K A E own cc nL fr lo9 mc ms) {a0 a1 a2 a3 : Option Value} {z : Option Value} {tl : List (Option Value)} {x : Nat} (hd : decode cc pc = .ok (.astore 4, 2)) (hn : 4 < nL) (hc : a3.all (fun w => w.category == 1) = true) (k : J K A E nL G hs cells slots (pc + 2) (a0 :: a1 :: a2 :: a3 :: some (.ref x) :: tl) rest) : J K A E nL G hs cells slots pc (a0 :: a1 :: a2 :: a3 :: z :: tl) (.ref x :: rest) :=
  j_astore hE (i := 4) hd hn (fun w j hj hw => by
    have e : j = 3 := by omega
    subst e
    cases hw
    simpa using hc) k
theorem j_inc4 (hE : jC K A E own cc nL fr lo9 mc ms) {a0 a1 a2 a3 : Option Value} {tl : List (Option Value)} {n : Int} {x v : Int32} (hd : decode cc pc = .ok (.iinc 4 n, 3)) (hv : x + Int32.ofInt n = v) (hn : 4 < nL) (hc : a3.all (fun w => w.category == 1) = true) (k : J K A E nL G hs cells slots (pc + 3) (a0 :: a1 :: a2 :: a3 :: some (.int v) :: tl) rest) : J K A E nL G hs cells slots pc (a0 :: a1 :: a2 :: a3 :: some (.int x) :: tl) rest :=
  j_iinc hE (i := 4) hd rfl hv hn (fun w j hj hw => by
    have e : j = 3 := by omega
    subst e
    cases hw
    simpa using hc) k
theorem j_incN4 (hE : jC K A E own cc nL fr lo9 mc ms) {a0 a1 a2 a3 : Option Value} {tl : List (Option Value)} {x : Nat} (hd : decode cc pc = .ok (.iinc 4 1, 3)) (hn : 4 < nL) (hc : a3.all (fun w => w.category == 1) = true) (k : J K A E nL G hs cells slots (pc + 3) (a0 :: a1 :: a2 :: a3 :: some (.int (nI (x + 1))) :: tl) rest) : J K A E nL G hs cells slots pc (a0 :: a1 :: a2 :: a3 :: some (.int (nI x)) :: tl) rest :=
  j_inc4 hE hd (nI_1 x) hn hc k
theorem j_ist5 (hE : jC K A E own cc nL fr lo9 mc ms) {a0 a1 a2 a3 a4 : Option Value} {z : Option Value} {tl : List (Option Value)} {x : Int32} (hd : decode cc pc = .ok (.istore 5, 2)) (hn : 5 < nL) (hc : a4.all (fun w => w.category == 1) = true) (k : J K A E nL G hs cells slots (pc + 2) (a0 :: a1 :: a2 :: a3 :: a4 :: some (.int x) :: tl) rest) : J K A E nL G hs cells slots pc (a0 :: a1 :: a2 :: a3 :: a4 :: z :: tl) (.int x :: rest) :=
  j_istore hE (i := 5) hd hn (fun w j hj hw => by
    have e : j = 4 := by omega
    subst e
    cases hw
    simpa using hc) k
theorem j_ast5 (hE : jC K A E own cc nL fr lo9 mc ms) {a0 a1 a2 a3 a4 : Option Value} {z : Option Value} {tl : List (Option Value)} {x : Nat} (hd : decode cc pc = .ok (.astore 5, 2)) (hn : 5 < nL) (hc : a4.all (fun w => w.category == 1) = true) (k : J K A E nL G hs cells slots (pc + 2) (a0 :: a1 :: a2 :: a3 :: a4 :: some (.ref x) :: tl) rest) : J K A E nL G hs cells slots pc (a0 :: a1 :: a2 :: a3 :: a4 :: z :: tl) (.ref x :: rest) :=
  j_astore hE (i := 5) hd hn (fun w j hj hw => by
    have e : j = 4 := by omega
    subst e
    cases hw
    simpa using hc) k
theorem j_inc5 (hE : jC K A E own cc nL fr lo9 mc ms) {a0 a1 a2 a3 a4 : Option Value} {tl : List (Option Value)} {n : Int} {x v : Int32} (hd : decode cc pc = .ok (.iinc 5 n, 3)) (hv : x + Int32.ofInt n = v) (hn : 5 < nL) (hc : a4.all (fun w => w.category == 1) = true) (k : J K A E nL G hs cells slots (pc + 3) (a0 :: a1 :: a2 :: a3 :: a4 :: some (.int v) :: tl) rest) : J K A E nL G hs cells slots pc (a0 :: a1 :: a2 :: a3 :: a4 :: some (.int x) :: tl) rest :=
  j_iinc hE (i := 5) hd rfl hv hn (fun w j hj hw => by
    have e : j = 4 := by omega
    subst e
    cases hw
    simpa using hc) k
theorem j_incN5 (hE : jC K A E own cc nL fr lo9 mc ms) {a0 a1 a2 a3 a4 : Option Value} {tl : List (Option Value)} {x : Nat} (hd : decode cc pc = .ok (.iinc 5 1, 3)) (hn : 5 < nL) (hc : a4.all (fun w => w.category == 1) = true) (k : J K A E nL G hs cells slots (pc + 3) (a0 :: a1 :: a2 :: a3 :: a4 :: some (.int (nI (x + 1))) :: tl) rest) : J K A E nL G hs cells slots pc (a0 :: a1 :: a2 :: a3 :: a4 :: some (.int (nI x)) :: tl) rest :=
  j_inc5 hE hd (nI_1 x) hn hc k
theorem j_ist6 (hE : jC K A E own cc nL fr lo9 mc ms) {a0 a1 a2 a3 a4 a5 : Option Value} {z : Option Value} {tl : List (Option Value)} {x : Int32} (hd : decode cc pc = .ok (.istore 6, 2)) (hn : 6 < nL) (hc : a5.all (fun w => w.category == 1) = true) (k : J K A E nL G hs cells slots (pc + 2) (a0 :: a1 :: a2 :: a3 :: a4 :: a5 :: some (.int x) :: tl) rest) : J K A E nL G hs cells slots pc (a0 :: a1 :: a2 :: a3 :: a4 :: a5 :: z :: tl) (.int x :: rest) :=
  j_istore hE (i := 6) hd hn (fun w j hj hw => by
    have e : j = 5 := by omega
    subst e
    cases hw
    simpa using hc) k
theorem j_ast6 (hE : jC K A E own cc nL fr lo9 mc ms) {a0 a1 a2 a3 a4 a5 : Option Value} {z : Option Value} {tl : List (Option Value)} {x : Nat} (hd : decode cc pc = .ok (.astore 6, 2)) (hn : 6 < nL) (hc : a5.all (fun w => w.category == 1) = true) (k : J K A E nL G hs cells slots (pc + 2) (a0 :: a1 :: a2 :: a3 :: a4 :: a5 :: some (.ref x) :: tl) rest) : J K A E nL G hs cells slots pc (a0 :: a1 :: a2 :: a3 :: a4 :: a5 :: z :: tl) (.ref x :: rest) :=
  j_astore hE (i := 6) hd hn (fun w j hj hw => by
    have e : j = 5 := by omega
    subst e
    cases hw
    simpa using hc) k
theorem j_inc6 (hE : jC K A E own cc nL fr lo9 mc ms) {a0 a1 a2 a3 a4 a5 : Option Value} {tl : List (Option Value)} {n : Int} {x v : Int32} (hd : decode cc pc = .ok (.iinc 6 n, 3)) (hv : x + Int32.ofInt n = v) (hn : 6 < nL) (hc : a5.all (fun w => w.category == 1) = true) (k : J K A E nL G hs cells slots (pc + 3) (a0 :: a1 :: a2 :: a3 :: a4 :: a5 :: some (.int v) :: tl) rest) : J K A E nL G hs cells slots pc (a0 :: a1 :: a2 :: a3 :: a4 :: a5 :: some (.int x) :: tl) rest :=
  j_iinc hE (i := 6) hd rfl hv hn (fun w j hj hw => by
    have e : j = 5 := by omega
    subst e
    cases hw
    simpa using hc) k
theorem j_incN6 (hE : jC K A E own cc nL fr lo9 mc ms) {a0 a1 a2 a3 a4 a5 : Option Value} {tl : List (Option Value)} {x : Nat} (hd : decode cc pc = .ok (.iinc 6 1, 3)) (hn : 6 < nL) (hc : a5.all (fun w => w.category == 1) = true) (k : J K A E nL G hs cells slots (pc + 3) (a0 :: a1 :: a2 :: a3 :: a4 :: a5 :: some (.int (nI (x + 1))) :: tl) rest) : J K A E nL G hs cells slots pc (a0 :: a1 :: a2 :: a3 :: a4 :: a5 :: some (.int (nI x)) :: tl) rest :=
  j_inc6 hE hd (nI_1 x) hn hc k
theorem j_ist7 (hE : jC K A E own cc nL fr lo9 mc ms) {a0 a1 a2 a3 a4 a5 a6 : Option Value} {z : Option Value} {tl : List (Option Value)} {x : Int32} (hd : decode cc pc = .ok (.istore 7, 2)) (hn : 7 < nL) (hc : a6.all (fun w => w.category == 1) = true) (k : J K A E nL G hs cells slots (pc + 2) (a0 :: a1 :: a2 :: a3 :: a4 :: a5 :: a6 :: some (.int x) :: tl) rest) : J K A E nL G hs cells slots pc (a0 :: a1 :: a2 :: a3 :: a4 :: a5 :: a6 :: z :: tl) (.int x :: rest) :=
  j_istore hE (i := 7) hd hn (fun w j hj hw => by
    have e : j = 6 := by omega
    subst e
    cases hw
    simpa using hc) k
theorem j_ast7 (hE : jC K A E own cc nL fr lo9 mc ms) {a0 a1 a2 a3 a4 a5 a6 : Option Value} {z : Option Value} {tl : List (Option Value)} {x : Nat} (hd : decode cc pc = .ok (.astore 7, 2)) (hn : 7 < nL) (hc : a6.all (fun w => w.category == 1) = true) (k : J K A E nL G hs cells slots (pc + 2) (a0 :: a1 :: a2 :: a3 :: a4 :: a5 :: a6 :: some (.ref x) :: tl) rest) : J K A E nL G hs cells slots pc (a0 :: a1 :: a2 :: a3 :: a4 :: a5 :: a6 :: z :: tl) (.ref x :: rest) :=
  j_astore hE (i := 7) hd hn (fun w j hj hw => by
    have e : j = 6 := by omega
    subst e
    cases hw
    simpa using hc) k
theorem j_inc7 (hE : jC K A E own cc nL fr lo9 mc ms) {a0 a1 a2 a3 a4 a5 a6 : Option Value} {tl : List (Option Value)} {n : Int} {x v : Int32} (hd : decode cc pc = .ok (.iinc 7 n, 3)) (hv : x + Int32.ofInt n = v) (hn : 7 < nL) (hc : a6.all (fun w => w.category == 1) = true) (k : J K A E nL G hs cells slots (pc + 3) (a0 :: a1 :: a2 :: a3 :: a4 :: a5 :: a6 :: some (.int v) :: tl) rest) : J K A E nL G hs cells slots pc (a0 :: a1 :: a2 :: a3 :: a4 :: a5 :: a6 :: some (.int x) :: tl) rest :=
  j_iinc hE (i := 7) hd rfl hv hn (fun w j hj hw => by
    have e : j = 6 := by omega
    subst e
    cases hw
    simpa using hc) k
theorem j_incN7 (hE : jC K A E own cc nL fr lo9 mc ms) {a0 a1 a2 a3 a4 a5 a6 : Option Value} {tl : List (Option Value)} {x : Nat} (hd : decode cc pc = .ok (.iinc 7 1, 3)) (hn : 7 < nL) (hc : a6.all (fun w => w.category == 1) = true) (k : J K A E nL G hs cells slots (pc + 3) (a0 :: a1 :: a2 :: a3 :: a4 :: a5 :: a6 :: some (.int (nI (x + 1))) :: tl) rest) : J K A E nL G hs cells slots pc (a0 :: a1 :: a2 :: a3 :: a4 :: a5 :: a6 :: some (.int (nI x)) :: tl) rest :=
  j_inc7 hE hd (nI_1 x) hn hc k
theorem j_ist8 (hE : jC K A E own cc nL fr lo9 mc ms) {a0 a1 a2 a3 a4 a5 a6 a7 : Option Value} {z : Option Value} {tl : List (Option Value)} {x : Int32} (hd : decode cc pc = .ok (.istore 8, 2)) (hn : 8 < nL) (hc : a7.all (fun w => w.category == 1) = true) (k : J K A E nL G hs cells slots (pc + 2) (a0 :: a1 :: a2 :: a3 :: a4 :: a5 :: a6 :: a7 :: some (.int x) :: tl) rest) : J K A E nL G hs cells slots pc (a0 :: a1 :: a2 :: a3 :: a4 :: a5 :: a6 :: a7 :: z :: tl) (.int x :: rest) :=
  j_istore hE (i := 8) hd hn (fun w j hj hw => by
    have e : j = 7 := by omega
    subst e
    cases hw
    simpa using hc) k
theorem j_ast8 (hE : jC K A E own cc nL fr lo9 mc ms) {a0 a1 a2 a3 a4 a5 a6 a7 : Option Value} {z : Option Value} {tl : List (Option Value)} {x : Nat} (hd : decode cc pc = .ok (.astore 8, 2)) (hn : 8 < nL) (hc : a7.all (fun w => w.category == 1) = true) (k : J K A E nL G hs cells slots (pc + 2) (a0 :: a1 :: a2 :: a3 :: a4 :: a5 :: a6 :: a7 :: some (.ref x) :: tl) rest) : J K A E nL G hs cells slots pc (a0 :: a1 :: a2 :: a3 :: a4 :: a5 :: a6 :: a7 :: z :: tl) (.ref x :: rest) :=
  j_astore hE (i := 8) hd hn (fun w j hj hw => by
    have e : j = 7 := by omega
    subst e
    cases hw
    simpa using hc) k
theorem j_inc8 (hE : jC K A E own cc nL fr lo9 mc ms) {a0 a1 a2 a3 a4 a5 a6 a7 : Option Value} {tl : List (Option Value)} {n : Int} {x v : Int32} (hd : decode cc pc = .ok (.iinc 8 n, 3)) (hv : x + Int32.ofInt n = v) (hn : 8 < nL) (hc : a7.all (fun w => w.category == 1) = true) (k : J K A E nL G hs cells slots (pc + 3) (a0 :: a1 :: a2 :: a3 :: a4 :: a5 :: a6 :: a7 :: some (.int v) :: tl) rest) : J K A E nL G hs cells slots pc (a0 :: a1 :: a2 :: a3 :: a4 :: a5 :: a6 :: a7 :: some (.int x) :: tl) rest :=
  j_iinc hE (i := 8) hd rfl hv hn (fun w j hj hw => by
    have e : j = 7 := by omega
    subst e
    cases hw
    simpa using hc) k
theorem j_incN8 (hE : jC K A E own cc nL fr lo9 mc ms) {a0 a1 a2 a3 a4 a5 a6 a7 : Option Value} {tl : List (Option Value)} {x : Nat} (hd : decode cc pc = .ok (.iinc 8 1, 3)) (hn : 8 < nL) (hc : a7.all (fun w => w.category == 1) = true) (k : J K A E nL G hs cells slots (pc + 3) (a0 :: a1 :: a2 :: a3 :: a4 :: a5 :: a6 :: a7 :: some (.int (nI (x + 1))) :: tl) rest) : J K A E nL G hs cells slots pc (a0 :: a1 :: a2 :: a3 :: a4 :: a5 :: a6 :: a7 :: some (.int (nI x)) :: tl) rest :=
  j_inc8 hE hd (nI_1 x) hn hc k
theorem j_lst3 (hE : jC K A E own cc nL fr lo9 mc ms) {a0 a1 a2 : Option Value} {z z2 : Option Value} {tl : List (Option Value)} {k : Fin 4} {x : Int64} (hd : decode cc pc = .ok (.lstore_n k, 1)) (hi : (k : Nat) = 3) (hn : 3 + 1 < nL) (hc : a2.all (fun w => w.category == 1) = true) (k : J K A E nL G hs cells slots (pc + 1) (a0 :: a1 :: a2 :: some (.long x) :: none :: tl) rest) : J K A E nL G hs cells slots pc (a0 :: a1 :: a2 :: z :: z2 :: tl) (.long x :: rest) :=
  j_lstore_n hE (i := 3) hd hi hn (fun w j hj hw => by
    have e : j = 2 := by omega
    subst e
    cases hw
    simpa using hc) k
theorem j_dst7 (hE : jC K A E own cc nL fr lo9 mc ms) {a0 a1 a2 a3 a4 a5 a6 : Option Value} {z z2 : Option Value} {tl : List (Option Value)} {x : UInt64} (hd : decode cc pc = .ok (.dstore 7, 2)) (hn : 7 + 1 < nL) (hc : a6.all (fun w => w.category == 1) = true) (k : J K A E nL G hs cells slots (pc + 2) (a0 :: a1 :: a2 :: a3 :: a4 :: a5 :: a6 :: some (.double x) :: none :: tl) rest) : J K A E nL G hs cells slots pc (a0 :: a1 :: a2 :: a3 :: a4 :: a5 :: a6 :: z :: z2 :: tl) (.double x :: rest) :=
  j_dstore hE (i := 7) hd hn (fun w j hj hw => by
    have e : j = 6 := by omega
    subst e
    cases hw
    simpa using hc) k
end JR
end
section
/-! ===== the rows of J that read and write cells, make cells, call, return, throw ===== -/
abbrev iA (K : jK) (n : Nat) (f : Nat → Int32) : va_E := .inl (K.2 0, n, .inl f)
abbrev lA (K : jK) (n : Nat) (f : Nat → Int64) : va_E := .inl (K.2 3, n, .inr (.inl f))
abbrev dA (K : jK) (n : Nat) (f : Nat → UInt64) : va_E := .inl (K.2 4, n, .inr (.inr (.inr (.inl f))))
abbrev pA (K : jK) (n : Nat) (f : Nat → Option Nat) : va_E := .inl (K.2 1, n, .inr (.inr (.inr (.inr f))))
abbrev sA (K : jK) (n : Nat) (f : Nat → Option Nat) : va_E := .inl (K.2 2, n, .inr (.inr (.inr (.inr f))))
/-- a field by its link: the class's number, the field's number, final or not, its type -/
def jF (own : String) (idx ci k : Nat) (fin : Bool) (ty : FieldType) : Prop := ∃ (C : String) (T : u_T) (N : Nat) (ty0 : Nat → FieldType), vwCl[ci]? = some (C, T, N) ∧ (∀ w ∈ u_ws C T N, w ∈ jW) ∧ (∀ k, k < N → parseFieldDescriptor (T k).2.2.1 = some (ty0 k)) ∧ (∀ a, a < N → ∀ b, b < N → a ≠ b → (T a).2.1 ≠ (T b).2.1) ∧ k < N ∧ Cond.fieldLink own idx (T k).1 (T k).2.1 (T k).2.2.1 ∈ jW ∧ (T k).2.2.2 = fin ∧ (T k).1 = C ∧ parseFieldDescriptor (T k).2.2.1 = some ty
section JH
variable {K : jK} {A : Nat → Prop} {E : jE} {own : String} {cc : ByteArray} {nL fr lo9 mc ms : Nat} {G : GH} {hs cells slots pc : Nat} {lo : List (Option Value)} {rest : List Value}
theorem j_get (hE : jC K A E own cc nL fr lo9 mc ms) {idx ci k : Nat} {fin : Bool} {ty : FieldType} {a : Nat} {fs : List Value} {v : Value} (hF : jF own idx ci k fin ty) (hG : G a = some (.inr (ci, fs))) (hv : fs[k]? = some v) (hd : decode cc pc = .ok (.getfield idx, 3)) (kk : J K A E nL G hs cells slots (pc + 3) lo (v :: rest)) : J K A E nL G hs cells slots pc lo (.ref a :: rest) := by
  obtain ⟨p, l, e, R, s, m, args, below, meth, c, Q⟩ := E
  obtain ⟨hx, hb, hml, hown, hlk, hts, hN, hA, hst, hR⟩ := hE
  obtain ⟨C, T, N, ty0, h1, h2, h3, h4, h5, h6, h7, h8, h9⟩ := hF
  intro H locs ls hP hz hS hl
  exact va_get (D := K.1) (ci := ci) (C := C) (T := T) (N := N) hx hb hts h2 hown hN.1 (hP.p1 hG) 0 rfl h1 k h5 (hts _ h6) (fun _ h => h) hv hd (kk H locs ls hP hz hS hl)
theorem j_put (hE : jC K A E own cc nL fr lo9 mc ms) {idx ci k : Nat} {ty : FieldType} {a : Nat} {fs : List Value} {v : Value} (hF : jF own idx ci k false ty) (hG : G a = some (.inr (ci, fs))) (hn : narrow ty v = v) (hfit : fits ty v = true) (hl9 : k < fs.length) (hd : decode cc pc = .ok (.putfield idx, 3)) (kk : J K A E nL (gset G a (.inr (ci, fs.set k v))) hs cells slots (pc + 3) lo rest) : J K A E nL G hs cells slots pc lo (v :: .ref a :: rest) := by
  obtain ⟨p, l, e, R, s, m, args, below, meth, c, Q⟩ := E
  obtain ⟨hx, hb, hml, hown, hlk, hts, hN, hA, hst, hR⟩ := hE
  obtain ⟨C, T, N, ty0, h1, h2, h3, h4, h5, h6, h7, h8, h9⟩ := hF
  intro H locs ls hP hz hS hl
  have hK := hN.1
  have hap := va_apart (own := own) hts h2 ty0 h3 h4 hK h1
  obtain ⟨ws, q0, hPw, hDw, he, hback⟩ := hP.write (e' := .inr (ci, fs.set k v)) hG
  obtain ⟨r, g1, cell, q1, q2, q3, q4⟩ := hPw q0 _ he
  have hr : r = (C, T, N) := Option.some.inj (g1.symm.trans h1)
  subst hr
  obtain ⟨hSl, hfc, kC, hkC, hkind⟩ := hK.1 ci _ h1
  obtain ⟨cf, kf, fi, f, hi, hsl⟩ := hSl k h5
  have hlay := hts _ (h2 _ (u_in_lay h5))
  unfold u_lay at hlay
  rw [if_neg (by rw [h7]; decide)] at hlay
  have hst9 := (u_facts hfc hkC (u_lays hts h2 h5) hi).1
  have h6s := u_store hfc hkC hkind hlay hi h9 hn hfit
  refine W.putK hx hb (f := f) ⟨hown, hts _ h6, ⟨_, _, _, hi⟩, hst9⟩ (by rw [q2]; exact h6s) q1 q3 (by rw [hsl]; exact k2_hasslot (q4 k h5)) rfl rfl hd fun H' e1 e2 e3 => ?_
  rw [hsl] at e1 ⊢
  exact kk H' _ ls (hback H' (hPw.set hDw he ⟨_, h1, t_OB.to (V := updV (vp_V fs) k v) ⟨_, e1, q2, q3, t_set q4 hap h5 v⟩ (fun j _ => vp_updV_set hl9 v j)⟩ e3) (hDw.set he)) (e2.trans hz) (hS.put e2 e3 (hDw.2 q0 _ he)) hl
theorem j_putF (hE : jC K A E own cc nL fr lo9 mc ms) (hNm : jNm E "<init>") {idx ci k : Nat} {ty : FieldType} {a : Nat} {fs : List Value} {v : Value} (hF : jF own idx ci k true ty) (hC : (vwCl[ci]?).map (fun q => q.1) = some own) (hG : G a = some (.inr (ci, fs))) (hn : narrow ty v = v) (hfit : fits ty v = true) (hl9 : k < fs.length) (hd : decode cc pc = .ok (.putfield idx, 3)) (kk : J K A E nL (gset G a (.inr (ci, fs.set k v))) hs cells slots (pc + 3) lo rest) : J K A E nL G hs cells slots pc lo (v :: .ref a :: rest) := by
  obtain ⟨p, l, e, R, s, m, args, below, meth, c, Q⟩ := E
  obtain ⟨hx, hb, hml, hown, hlk, hts, hN, hA, hst, hR⟩ := hE
  obtain ⟨C, T, N, ty0, h1, h2, h3, h4, h5, h6, h7, h8, h9⟩ := hF
  intro H locs ls hP hz hS hl
  have hCo : C = own := by
    rw [h1] at hC
    exact Option.some.inj hC
  have hK := hN.1
  have hap := va_apart (own := own) hts h2 ty0 h3 h4 hK h1
  obtain ⟨ws, q0, hPw, hDw, he, hback⟩ := hP.write (e' := .inr (ci, fs.set k v)) hG
  obtain ⟨r, g1, cell, q1, q2, q3, q4⟩ := hPw q0 _ he
  have hr : r = (C, T, N) := Option.some.inj (g1.symm.trans h1)
  subst hr
  obtain ⟨hSl, hfc, kC, hkC, hkind⟩ := hK.1 ci _ h1
  obtain ⟨cf, kf, fi, f, hi, hsl⟩ := hSl k h5
  have hlay := hts _ (h2 _ (u_in_lay h5))
  unfold u_lay at hlay
  rw [if_pos h7] at hlay
  have hst9 := (u_facts hfc hkC (u_lays hts h2 h5) hi).1
  have hcf : m.cls = cf := by
    obtain ⟨_, _, c', _, _, _, -, -, hf', -, -, -, hown2, -⟩ := Cond.laysFinal_spec hlay
    have e1 : c' = cf := by have := hi.symm.trans hf'; simp at this; exact this.1.symm
    rw [h8, hCo] at hown2
    rw [← e1]; exact Option.some.inj (hown.symm.trans hown2)
  have h6s := u_fits hfc hkC hkind (Or.inr hlay) hi h9 hn hfit
  refine W.putFinK hx hb hown (hts _ h6) hi hst9 hcf hNm (by rw [q2]; exact h6s) q1 q3 (by rw [hsl]; exact k2_hasslot (q4 k h5)) rfl rfl hd fun H' e1 e2 e3 => ?_
  rw [hsl] at e1 ⊢
  exact kk H' _ ls (hback H' (hPw.set hDw he ⟨_, h1, t_OB.to (V := updV (vp_V fs) k v) ⟨_, e1, q2, q3, t_set q4 hap h5 v⟩ (fun j _ => vp_updV_set hl9 v j)⟩ e3) (hDw.set he)) (e2.trans hz) (hS.put e2 e3 (hDw.2 q0 _ he)) hl
theorem j_iald (hE : jC K A E own cc nL fr lo9 mc ms) {a n j : Nat} {f : Nat → Int32} {x : Int32} (hG : G a = some (iA K n f)) (hx9 : x = nI j) (hj : j < n) (hn : n < 2 ^ 31) (hd : decode cc pc = .ok (.iaload, 1)) (kk : J K A E nL G hs cells slots (pc + 1) lo (.int (f j) :: rest)) : J K A E nL G hs cells slots pc lo (.int x :: .ref a :: rest) := by
  obtain ⟨p, l, e, R, s, m, args, below, meth, c, Q⟩ := E
  obtain ⟨hx, hb, hml, hown, hlk, hts, hN, hA, hst, hR⟩ := hE
  intro H locs ls hP hz hS hl
  subst hx9
  refine va_iald (D := K.1) (cl := vwCl) hx hb hN.1 (hP.p1 hG) 0 0 rfl rfl (vp_in_nI hj hn) hd ?_
  rw [nI_clamp (by omega)]
  exact kk H locs ls hP hz hS hl
theorem j_lald (hE : jC K A E own cc nL fr lo9 mc ms) {a n j : Nat} {f : Nat → Int64} {x : Int32} (hG : G a = some (lA K n f)) (hx9 : x = nI j) (hj : j < n) (hn : n < 2 ^ 31) (hd : decode cc pc = .ok (.laload, 1)) (kk : J K A E nL G hs cells slots (pc + 1) lo (.long (f j) :: rest)) : J K A E nL G hs cells slots pc lo (.int x :: .ref a :: rest) := by
  obtain ⟨p, l, e, R, s, m, args, below, meth, c, Q⟩ := E
  obtain ⟨hx, hb, hml, hown, hlk, hts, hN, hA, hst, hR⟩ := hE
  intro H locs ls hP hz hS hl
  subst hx9
  refine va_lald (D := K.1) (cl := vwCl) hx hb hN.1 (hP.p1 hG) 0 3 rfl rfl (vp_in_nI hj hn) hd ?_
  rw [nI_clamp (by omega)]
  exact kk H locs ls hP hz hS hl
theorem j_dald (hE : jC K A E own cc nL fr lo9 mc ms) {a n j : Nat} {f : Nat → UInt64} {x : Int32} (hG : G a = some (dA K n f)) (hx9 : x = nI j) (hj : j < n) (hn : n < 2 ^ 31) (hd : decode cc pc = .ok (.daload, 1)) (kk : J K A E nL G hs cells slots (pc + 1) lo (.double (f j) :: rest)) : J K A E nL G hs cells slots pc lo (.int x :: .ref a :: rest) := by
  obtain ⟨p, l, e, R, s, m, args, below, meth, c, Q⟩ := E
  obtain ⟨hx, hb, hml, hown, hlk, hts, hN, hA, hst, hR⟩ := hE
  intro H locs ls hP hz hS hl
  subst hx9
  refine va_dald (D := K.1) (cl := vwCl) hx hb hN.1 (hP.p1 hG) 0 4 rfl rfl (vp_in_nI hj hn) hd ?_
  rw [nI_clamp (by omega)]
  exact kk H locs ls hP hz hS hl
theorem j_aldP (hE : jC K A E own cc nL fr lo9 mc ms) {a n j : Nat} {f : Nat → Option Nat} {x : Int32} (hG : G a = some (pA K n f)) (hx9 : x = nI j) (hj : j < n) (hn : n < 2 ^ 31) (hd : decode cc pc = .ok (.aaload, 1)) (kk : J K A E nL G hs cells slots (pc + 1) lo (va_rf (f j) :: rest)) : J K A E nL G hs cells slots pc lo (.int x :: .ref a :: rest) := by
  obtain ⟨p, l, e, R, s, m, args, below, meth, c, Q⟩ := E
  obtain ⟨hx, hb, hml, hown, hlk, hts, hN, hA, hst, hR⟩ := hE
  intro H locs ls hP hz hS hl
  subst hx9
  refine va_aldq (D := K.1) (cl := vwCl) hx hb hN.1 (hP.p1 hG) 0 1 rfl rfl (vp_in_nI hj hn) hd ?_
  rw [nI_clamp (by omega)]
  exact kk H locs ls hP hz hS hl
theorem j_aldS (hE : jC K A E own cc nL fr lo9 mc ms) {a n j : Nat} {f : Nat → Option Nat} {x : Int32} (hG : G a = some (sA K n f)) (hx9 : x = nI j) (hj : j < n) (hn : n < 2 ^ 31) (hd : decode cc pc = .ok (.aaload, 1)) (kk : J K A E nL G hs cells slots (pc + 1) lo (va_rf (f j) :: rest)) : J K A E nL G hs cells slots pc lo (.int x :: .ref a :: rest) := by
  obtain ⟨p, l, e, R, s, m, args, below, meth, c, Q⟩ := E
  obtain ⟨hx, hb, hml, hown, hlk, hts, hN, hA, hst, hR⟩ := hE
  intro H locs ls hP hz hS hl
  subst hx9
  refine va_aldq (D := K.1) (cl := vwCl) hx hb hN.1 (hP.p1 hG) 0 2 rfl rfl (vp_in_nI hj hn) hd ?_
  rw [nI_clamp (by omega)]
  exact kk H locs ls hP hz hS hl
theorem j_iast (hE : jC K A E own cc nL fr lo9 mc ms) {a n j : Nat} {f : Nat → Int32} {x v : Int32} (hG : G a = some (iA K n f)) (hx9 : x = nI j) (hj : j < n) (hn : n < 2 ^ 31) (hd : decode cc pc = .ok (.iastore, 1)) (kk : J K A E nL (gset G a (iA K n (upd f j v))) hs cells slots (pc + 1) lo rest) : J K A E nL G hs cells slots pc lo (.int v :: .int x :: .ref a :: rest) := by
  obtain ⟨p, l, e, R, s, m, args, below, meth, c, Q⟩ := E
  obtain ⟨hx, hb, hml, hown, hlk, hts, hN, hA, hst, hR⟩ := hE
  intro H locs ls hP hz hS hl
  subst hx9
  obtain ⟨ws, q0, hPw, hDw, he, hback⟩ := hP.write (e' := iA K n (upd f j v)) hG
  refine W.iast hx hb (hPw q0 _ he) ((hN.1.2 0 _ rfl).1 n (fun j => .int (f j))) (fun q => by cases q) (by show ¬ (_ ∨ (arrV _ _ _).slots.size ≤ _); rw [arrV_size]; exact vp_in_nI hj hn) rfl rfl hd fun H1 e z oq => ?_
  refine kk H1 _ ls (hback H1 (hPw.set hDw he ?_ oq) (hDw.set he)) (z.trans hz) (hS.put z oq (hDw.2 q0 _ he)) hl
  show H1[a]? = some (vp_cell _ _)
  rw [e, vp_cell_i, vp_cell_i, arrV_store, nI_clamp (by omega)]
  congr 2
  funext q
  by_cases hq : q = j
  · subst hq
    simp [updV, upd]
  · simp [updV, upd, hq]
theorem j_last (hE : jC K A E own cc nL fr lo9 mc ms) {a n j : Nat} {f : Nat → Int64} {x : Int32} {v : Int64} (hG : G a = some (lA K n f)) (hx9 : x = nI j) (hj : j < n) (hn : n < 2 ^ 31) (hd : decode cc pc = .ok (.lastore, 1)) (kk : ∀ hs, J K A E nL (gset G a (lA K n (vp_updL f j v))) hs cells slots (pc + 1) lo rest) : J K A E nL G hs cells slots pc lo (.long v :: .int x :: .ref a :: rest) := by
  obtain ⟨p, l, e, R, s, m, args, below, meth, c, Q⟩ := E
  obtain ⟨hx, hb, hml, hown, hlk, hts, hN, hA, hst, hR⟩ := hE
  intro H locs ls hP hz hS hl
  subst hx9
  obtain ⟨ws, q0, hPw, hDw, he, hback⟩ := hP.write (e' := lA K n (vp_updL f j v)) hG
  refine va_last (D := K.1) (cl := vwCl) hx hb hN.1 hPw hDw hS q0 3 he rfl (vp_in_nI hj hn) hd (fun H1 locs1 hP1 hD1 hS1 => ?_)
  rw [nI_clamp (by omega)] at hP1 hD1
  exact kk H1.size H1 locs1 ls (hback H1 hP1 hD1) rfl hS1 hl
theorem j_dast (hE : jC K A E own cc nL fr lo9 mc ms) {a n j : Nat} {f : Nat → UInt64} {x : Int32} {v : UInt64} (hG : G a = some (dA K n f)) (hx9 : x = nI j) (hj : j < n) (hn : n < 2 ^ 31) (hd : decode cc pc = .ok (.dastore, 1)) (kk : ∀ hs, J K A E nL (gset G a (dA K n (vf_upd f j v))) hs cells slots (pc + 1) lo rest) : J K A E nL G hs cells slots pc lo (.double v :: .int x :: .ref a :: rest) := by
  obtain ⟨p, l, e, R, s, m, args, below, meth, c, Q⟩ := E
  obtain ⟨hx, hb, hml, hown, hlk, hts, hN, hA, hst, hR⟩ := hE
  intro H locs ls hP hz hS hl
  subst hx9
  obtain ⟨ws, q0, hPw, hDw, he, hback⟩ := hP.write (e' := dA K n (vf_upd f j v)) hG
  refine va_dast (D := K.1) (cl := vwCl) hx hb hN.1 hPw hDw hS q0 4 he rfl (vp_in_nI hj hn) hd (fun H1 locs1 hP1 hD1 hS1 => ?_)
  rw [nI_clamp (by omega)] at hP1 hD1
  exact kk H1.size H1 locs1 ls (hback H1 hP1 hD1) rfl hS1 hl
theorem j_alen (hE : jC K A E own cc nL fr lo9 mc ms) {a n : Nat} {f : Nat → Int32} (hG : G a = some (iA K n f)) (hd : decode cc pc = .ok (.arraylength, 1)) (kk : J K A E nL G hs cells slots (pc + 1) lo (.int (nI n) :: rest)) : J K A E nL G hs cells slots pc lo (.ref a :: rest) := by
  obtain ⟨p, l, e, R, s, m, args, below, meth, c, Q⟩ := E
  obtain ⟨hx, hb, hml, hown, hlk, hts, hN, hA, hst, hR⟩ := hE
  intro H locs ls hP hz hS hl
  exact va_alen (D := K.1) (cl := vwCl) hx hb hN.1 (hP.p1 hG) 0 0 rfl rfl rfl hd (kk H locs ls hP hz hS hl)
theorem j_alenP (hE : jC K A E own cc nL fr lo9 mc ms) {a n : Nat} {f : Nat → Option Nat} (hG : G a = some (pA K n f)) (hd : decode cc pc = .ok (.arraylength, 1)) (kk : J K A E nL G hs cells slots (pc + 1) lo (.int (nI n) :: rest)) : J K A E nL G hs cells slots pc lo (.ref a :: rest) := by
  obtain ⟨p, l, e, R, s, m, args, below, meth, c, Q⟩ := E
  obtain ⟨hx, hb, hml, hown, hlk, hts, hN, hA, hst, hR⟩ := hE
  intro H locs ls hP hz hS hl
  exact va_alen (D := K.1) (cl := vwCl) hx hb hN.1 (hP.p1 hG) 0 1 rfl rfl rfl hd (kk H locs ls hP hz hS hl)
theorem j_alenS (hE : jC K A E own cc nL fr lo9 mc ms) {a n : Nat} {f : Nat → Option Nat} (hG : G a = some (sA K n f)) (hd : decode cc pc = .ok (.arraylength, 1)) (kk : J K A E nL G hs cells slots (pc + 1) lo (.int (nI n) :: rest)) : J K A E nL G hs cells slots pc lo (.ref a :: rest) := by
  obtain ⟨p, l, e, R, s, m, args, below, meth, c, Q⟩ := E
  obtain ⟨hx, hb, hml, hown, hlk, hts, hN, hA, hst, hR⟩ := hE
  intro H locs ls hP hz hS hl
  exact va_alen (D := K.1) (cl := vwCl) hx hb hN.1 (hP.p1 hG) 0 2 rfl rfl rfl hd (kk H locs ls hP hz hS hl)
end JH
end
section
/-! ===== cells that are made; copies; calls; ends ===== -/
theorem gP.two {D : va_G} {A : Nat → Prop} {G : GH} {H : Heap} (h : gP D A G H) {a b : Nat} {e e' eb : va_E} (hg : G a = some e) (hb : G b = some eb) :
    ∃ (ws : va_W) (k kb : Nat), va_P D vwCl ws H ∧ va_D A ws ∧ ws[k]? = some (a, e) ∧ ws[kb]? = some (b, eb) ∧ ∀ H1, va_P D vwCl (ws.set k (a, e')) H1 → va_D A (ws.set k (a, e')) → gP D A (gset G a e') H1 := by
  obtain ⟨L, f, hG, hP, hD⟩ := h
  obtain ⟨hm, he⟩ := gP.place (D := D) (H := H) hG hg
  obtain ⟨hm2, he2⟩ := gP.place (D := D) (H := H) hG hb
  obtain ⟨k, hk⟩ := va_pl_get (X := []) (f := f) hm
  obtain ⟨kb, hkb⟩ := va_pl_get (X := []) (f := f) hm2
  refine ⟨va_pl L f, k, kb, hP, hD, by rw [← he]; exact hk, by rw [← he2]; exact hkb, fun H1 hP1 hD1 => ?_⟩
  have e1 : (va_pl L f).set k (a, e') = va_pl L (va_up f a e') := va_pl_set (X := []) hD hm hk
  rw [e1] at hP1 hD1
  refine ⟨L, va_up f a e', fun b => ?_, hP1, hD1⟩
  by_cases hb : b = a
  · subst hb
    rw [gset_s, if_pos hm, va_up_self]
  · rw [gset_n hb, hG b, va_up_ne f e' hb]
/-- a class that is made: its link, its number, its fields at birth -/
def jMk (own : String) (idx ci N : Nat) (fs : List Value) : Prop := ∃ (C : String) (T : u_T) (ty0 : Nat → FieldType), vwCl[ci]? = some (C, T, N) ∧ (∀ w ∈ u_ws C T N, w ∈ jW) ∧ (∀ k, k < N → parseFieldDescriptor (T k).2.2.1 = some (ty0 k)) ∧ Cond.classLink own idx C ∈ jW ∧ Cond.instantiable C N ∈ jW ∧ Cond.initialized C ∈ jW ∧ ∀ j, j < N → defaultValue (ty0 j) = vp_V fs j
/-- a method that is called: by a receiver's class; static -/
def jV (own : String) (idx ci : Nat) (y : MethodName) (cc : ByteArray) (maxL : Nat) (ret : Option FieldType) (n : Nat) : Prop := Cond.methodLink own idx y ∈ jW ∧ Cond.instanceMethod y ∈ jW ∧ Cond.selects y.cls y y ∈ jW ∧ Cond.initialized y.cls ∈ jW ∧ Cond.code y cc maxL ret ∈ jW ∧ (∃ (T : u_T) (N : Nat), vwCl[ci]? = some (y.cls, T, N)) ∧ (y.cls ≠ "java/lang/invoke/MethodHandle" ∧ y.cls ≠ "java/lang/invoke/VarHandle") ∧ (parseMethodDescriptor y.desc).map (fun d => d.parameters.length) = some n
def jS (own : String) (idx : Nat) (y : MethodName) (cc : ByteArray) (maxL : Nat) (ret : Option FieldType) (n : Nat) : Prop := Cond.methodLink own idx y ∈ jW ∧ Cond.static y ∈ jW ∧ Cond.initialized y.cls ∈ jW ∧ Cond.code y cc maxL ret ∈ jW ∧ (y.cls ≠ "java/lang/invoke/MethodHandle" ∧ y.cls ≠ "java/lang/invoke/VarHandle") ∧ (parseMethodDescriptor y.desc).map (fun d => d.parameters.length) = some n
/-- a constructor by a plain link -/
def jI (own : String) (idx : Nat) (y : MethodName) (cc : ByteArray) (maxL : Nat) (n : Nat) : Prop := Cond.methodLink own idx y ∈ jW ∧ Cond.instanceMethod y ∈ jW ∧ Cond.initialized y.cls ∈ jW ∧ Cond.code y cc maxL none ∈ jW ∧ y.name = "<init>" ∧ (y.cls ≠ "java/lang/invoke/MethodHandle" ∧ y.cls ≠ "java/lang/invoke/VarHandle") ∧ (parseMethodDescriptor y.desc).map (fun d => d.parameters.length) = some n
/-- .. of a nest mate -/
def jIN (own : String) (idx : Nat) (y : MethodName) (cc : ByteArray) (maxL : Nat) (n : Nat) : Prop := (own, idx, y, "FrameCommutator") ∈ jNest ∧ Cond.instanceMethod y ∈ jW ∧ Cond.initialized y.cls ∈ jW ∧ Cond.code y cc maxL none ∈ jW ∧ y.name = "<init>" ∧ (y.cls ≠ "java/lang/invoke/MethodHandle" ∧ y.cls ≠ "java/lang/invoke/VarHandle") ∧ (parseMethodDescriptor y.desc).map (fun d => d.parameters.length) = some n
def jSN (own : String) (idx : Nat) (y : MethodName) (cc : ByteArray) (maxL : Nat) (ret : Option FieldType) (n : Nat) : Prop := (own, idx, y, "FrameCommutator") ∈ jNest ∧ Cond.static y ∈ jW ∧ Cond.initialized y.cls ∈ jW ∧ Cond.code y cc maxL ret ∈ jW ∧ (y.cls ≠ "java/lang/invoke/MethodHandle" ∧ y.cls ≠ "java/lang/invoke/VarHandle") ∧ (parseMethodDescriptor y.desc).map (fun d => d.parameters.length) = some n
theorem jW_cons {y : MethodName} {cc : ByteArray} {maxL : Nat} {ret : Option FieldType} (h : Cond.code y cc maxL ret ∈ jW) : GoodIn jW (Cond.code y cc maxL ret :: jW) := fun w hw => by
  rcases List.mem_cons.mp hw with rfl | hw
  · exact ⟨h, jW_good _ h⟩
  · exact ⟨hw, jW_good _ hw⟩
section JM
variable {K : jK} {A : Nat → Prop} {E : jE} {own : String} {cc : ByteArray} {nL fr lo9 mc ms : Nat} {G : GH} {hs cells slots pc : Nat} {lo : List (Option Value)} {rest : List Value}
theorem j_new (hE : jC K A E own cc nL fr lo9 mc ms) {idx ci N : Nat} {fs : List Value} (hM : jMk own idx ci N fs) (hc9 : cells + 1 ≤ mc) (hs9 : slots + N ≤ ms) (hd : decode cc pc = .ok (.new idx, 3)) (kk : J K A E nL (gset G hs (.inr (ci, fs))) (hs + 1) (cells + 1) (slots + N) (pc + 3) lo (.ref hs :: rest)) : J K A E nL G hs cells slots pc lo rest := by
  obtain ⟨p, l, e, R, s, m, args, below, meth, c, Q⟩ := E
  obtain ⟨hx, hb, hml, hown, hlk, hts, hN, hA, hst, hR⟩ := hE
  obtain ⟨C, T, ty0, h1, h2, h3, h4, h5, h6, h7⟩ := hM
  intro H locs ls hP hz hS hl
  subst hR
  have hKn := hN.1.1 ci _ h1
  refine W.newcK hx hb hown (hts _ h4) (hts _ h5) (hts _ h6) rfl hd hc9 hs9 hKn.2.1 rfl fun H1 kC hkC e1 z1 o1 => ?_
  rw [hz] at e1 z1 o1 ⊢
  refine kk H1 locs ls (hP.push hz.symm (hA _ (by rw [← hz]; exact hS.1)) ⟨_, h1, (u_born ty0 hts h2 hKn hkC e1 h3).to h7⟩ (by rw [hz]; exact o1)) z1 ⟨Nat.le_trans hS.1 (by omega), fun x g1 g2 => (o1 x (Nat.lt_of_lt_of_le g1 (by rw [← hz]; exact hS.1))).trans (hS.2.1 x g1 g2), hS.2.2⟩ hl
theorem j_newi (hE : jC K A E own cc nL fr lo9 mc ms) {N : Nat} {x : Int32} (hx9 : x = nI N) (hN9 : N ≤ 100000) (hw : Cond.arrayClass .int ∈ jW) (hc9 : cells + 1 ≤ mc) (hs9 : slots + N ≤ ms) (hd : decode cc pc = .ok (.newarray .int, 2)) (kk : J K A E nL (gset G hs (iA K N (fun _ => 0))) (hs + 1) (cells + 1) (slots + N) (pc + 2) lo (.ref hs :: rest)) : J K A E nL G hs cells slots pc lo (.int x :: rest) := by
  obtain ⟨p, l, e, R, s, m, args, below, meth, c, Q⟩ := E
  obtain ⟨hx, hb, hml, hown, hlk, hts, hN, hA, hst, hR⟩ := hE
  intro H locs ls hP hz hS hl
  subst hR
  subst hx9
  refine va_newaK (atype := .int) (N := N) (h := hs) hx hb (hts _ hw) rfl hd rfl (nI_pos (by omega)) (nI_clamp (by omega)) (by show N * 4 ≤ _; omega) hc9 hs9 hz fun H1 cA e1 z1 o1 hAr hNm => ?_
  have hcA : cA = K.2 0 := Option.some.inj (hNm.symm.trans (hN.1.2 0 _ rfl).2)
  subst hcA
  exact kk H1 locs ls (hP.push hz.symm (hA _ (by rw [← hz]; exact hS.1)) e1 (by rw [hz]; exact o1)) z1 ⟨Nat.le_trans hS.1 (by omega), fun x g1 g2 => (o1 x (Nat.lt_of_lt_of_le g1 (by rw [← hz]; exact hS.1))).trans (hS.2.1 x g1 g2), hS.2.2⟩ hl
theorem j_newl (hE : jC K A E own cc nL fr lo9 mc ms) {N : Nat} {x : Int32} (hx9 : x = nI N) (hN9 : N ≤ 100000) (hw : Cond.arrayClass .long ∈ jW) (hc9 : cells + 1 ≤ mc) (hs9 : slots + N ≤ ms) (hd : decode cc pc = .ok (.newarray .long, 2)) (kk : J K A E nL (gset G hs (lA K N (fun _ => 0))) (hs + 1) (cells + 1) (slots + N) (pc + 2) lo (.ref hs :: rest)) : J K A E nL G hs cells slots pc lo (.int x :: rest) := by
  obtain ⟨p, l, e, R, s, m, args, below, meth, c, Q⟩ := E
  obtain ⟨hx, hb, hml, hown, hlk, hts, hN, hA, hst, hR⟩ := hE
  intro H locs ls hP hz hS hl
  subst hR
  subst hx9
  refine va_newaK (atype := .long) (N := N) (h := hs) hx hb (hts _ hw) rfl hd rfl (nI_pos (by omega)) (nI_clamp (by omega)) (by show N * 8 ≤ _; omega) hc9 hs9 hz fun H1 cA e1 z1 o1 hAr hNm => ?_
  have hcA : cA = K.2 3 := Option.some.inj (hNm.symm.trans (hN.1.2 3 _ rfl).2)
  subst hcA
  exact kk H1 locs ls (hP.push hz.symm (hA _ (by rw [← hz]; exact hS.1)) e1 (by rw [hz]; exact o1)) z1 ⟨Nat.le_trans hS.1 (by omega), fun x g1 g2 => (o1 x (Nat.lt_of_lt_of_le g1 (by rw [← hz]; exact hS.1))).trans (hS.2.1 x g1 g2), hS.2.2⟩ hl
theorem j_newd (hE : jC K A E own cc nL fr lo9 mc ms) {N : Nat} {x : Int32} (hx9 : x = nI N) (hN9 : N ≤ 100000) (hw : Cond.arrayClass .double ∈ jW) (hc9 : cells + 1 ≤ mc) (hs9 : slots + N ≤ ms) (hd : decode cc pc = .ok (.newarray .double, 2)) (kk : J K A E nL (gset G hs (dA K N (fun _ => 0))) (hs + 1) (cells + 1) (slots + N) (pc + 2) lo (.ref hs :: rest)) : J K A E nL G hs cells slots pc lo (.int x :: rest) := by
  obtain ⟨p, l, e, R, s, m, args, below, meth, c, Q⟩ := E
  obtain ⟨hx, hb, hml, hown, hlk, hts, hN, hA, hst, hR⟩ := hE
  intro H locs ls hP hz hS hl
  subst hR
  subst hx9
  refine va_newaK (atype := .double) (N := N) (h := hs) hx hb (hts _ hw) rfl hd rfl (nI_pos (by omega)) (nI_clamp (by omega)) (by show N * 8 ≤ _; omega) hc9 hs9 hz fun H1 cA e1 z1 o1 hAr hNm => ?_
  have hcA : cA = K.2 4 := Option.some.inj (hNm.symm.trans (hN.1.2 4 _ rfl).2)
  subst hcA
  exact kk H1 locs ls (hP.push hz.symm (hA _ (by rw [← hz]; exact hS.1)) e1 (by rw [hz]; exact o1)) z1 ⟨Nat.le_trans hS.1 (by omega), fun x g1 g2 => (o1 x (Nat.lt_of_lt_of_le g1 (by rw [← hz]; exact hS.1))).trans (hS.2.1 x g1 g2), hS.2.2⟩ hl
theorem j_newq {C : String} (i9 : Nat) (hT9 : ∀ K : jK, (jT K)[i9]? = some (K.2 i9, .object C)) (hAO : gN K A E.2.2.2.2.1 → va_AO C E.2.2.2.2.1) (hE : jC K A E own cc nL fr lo9 mc ms) {idx N : Nat} {x : Int32} (hx9 : x = nI N) (hN9 : N ≤ 100000) (hw : Cond.classLink own idx C ∈ jW) (hc9 : cells + 1 ≤ mc) (hs9 : slots + N ≤ ms) (hd : decode cc pc = .ok (.anewarray idx, 3)) (kk : J K A E nL (gset G hs (.inl (K.2 i9, N, .inr (.inr (.inr (.inr (fun _ => none))))))) (hs + 1) (cells + 1) (slots + N) (pc + 3) lo (.ref hs :: rest)) : J K A E nL G hs cells slots pc lo (.int x :: rest) := by
  obtain ⟨p, l, e, R, s, m, args, below, meth, c, Q⟩ := E
  obtain ⟨hx, hb, hml, hown, hlk, hts, hN, hA, hst, hR⟩ := hE
  intro H locs ls hP hz hS hl
  subst hR
  subst hx9
  refine W.anew hx hb hown (hts _ hw) (va_AO.use (hAO hN)) rfl hd rfl (nI_pos (by omega)) (by rw [nI_clamp (by omega)]; show N * 4 ≤ _; omega) hc9 (by rw [nI_clamp (by omega)]; exact hs9) fun cA kA comp f1 f2 f3 f4 => ?_
  rw [nI_clamp (by omega)]
  generalize hH1 : H.push ({ cls := cA, slots := Array.replicate N .null, vm := .none } : Cell) = H1
  have z1 : H1.size = H.size + 1 := by rw [← hH1, Array.size_push]
  have e1 : H1[H.size]? = some (arrV cA N (fun _ => .null)) := by rw [← hH1, Array.getElem?_push_size, ← arrV_new]
  have o1 : ∀ q : Nat, q < H.size → H1[q]? = H[q]? := fun q hq => by rw [← hH1, Array.getElem?_push, if_neg (Nat.ne_of_lt hq)]
  have hcA : cA = K.2 i9 := by
    obtain ⟨kA9, comp9, g1, g2, g3, g4⟩ := (hN.1.2 i9 _ (hT9 K)).2
    exact Option.some.inj (f1.symm.trans g4)
  subst hcA
  rw [hz] at e1 z1 o1 ⊢
  exact kk H1 locs ls (hP.push hz.symm (hA _ (by rw [← hz]; exact hS.1)) e1 (by rw [hz]; exact o1)) z1 ⟨Nat.le_trans hS.1 (by omega), fun x g1 g2 => (o1 x (Nat.lt_of_lt_of_le g1 (by rw [← hz]; exact hS.1))).trans (hS.2.1 x g1 g2), hS.2.2⟩ hl
theorem j_astq {C : String} (i9 ci : Nat) (hT9 : ∀ K : jK, (jT K)[i9]? = some (K.2 i9, .object C)) (hC9 : ∃ (T : u_T) (N : Nat), vwCl[ci]? = some (C, T, N)) (hE : jC K A E own cc nL fr lo9 mc ms) {a n j v : Nat} {vs : List Value} {f : Nat → Option Nat} {x : Int32} (hG : G a = some (.inl (K.2 i9, n, .inr (.inr (.inr (.inr f)))))) (hv : G v = some (.inr (ci, vs))) (hx9 : x = nI j) (hj : j < n) (hn : n < 2 ^ 31) (hd : decode cc pc = .ok (.aastore, 1)) (kk : J K A E nL (gset G a (.inl (K.2 i9, n, .inr (.inr (.inr (.inr (va_up f j (some v)))))))) hs cells slots (pc + 1) lo rest) : J K A E nL G hs cells slots pc lo (.ref v :: .int x :: .ref a :: rest) := by
  obtain ⟨p, l, e, R, s, m, args, below, meth, c, Q⟩ := E
  obtain ⟨hx, hb, hml, hown, hlk, hts, hN, hA, hst, hR⟩ := hE
  obtain ⟨T9, N9, hC9⟩ := hC9
  intro H locs ls hP hz hS hl
  subst hx9
  obtain ⟨ws, q0, qk, hPw, hDw, he, hev, hback⟩ := hP.two (e' := .inl (K.2 i9, n, .inr (.inr (.inr (.inr (va_up f j (some v))))))) hG hv
  obtain ⟨r', hr', cellV, g1, g2, g3, -⟩ := hPw qk _ hev
  have hcls := (hN.1.1 ci _ hC9).2
  obtain ⟨kA, comp, k1, k2, k3, -⟩ := (hN.1.2 i9 _ (hT9 K)).2
  have hcomp : comp = K.1.1 ci := Option.some.inj (k3.symm.trans hcls.1)
  subst hcomp
  obtain ⟨kC, hkC, -⟩ := hcls.2
  refine W.aast hx hb (hPw q0 _ he) (fun q h => by cases h) (fun h => by cases h) k1 k2 rfl hkC ⟨nI_pos (by omega), by show _ < (arrV _ _ _).slots.size; rw [arrV_size, nI_clamp (by omega)]; exact hj⟩ g1 (fun q h => by rw [g3] at h; cases h) (by rw [g2]; exact hkC) (by rw [g2]; exact va_assign hcls) rfl rfl hd fun H1 e z oq => ?_
  refine kk H1 _ ls (hback H1 (hPw.set hDw he ?_ oq) (hDw.set he)) (z.trans hz) (hS.put z oq (hDw.2 q0 _ he)) hl
  show H1[a]? = some (vp_cell _ _)
  rw [e, vp_cell_q, vp_cell_q, arrV_store, nI_clamp (by omega)]
  congr 2
  funext q
  by_cases hq : q = j
  · subst hq
    simp [updV, va_up, va_rf]
  · simp [updV, va_up, hq]
theorem j_copy (hE : jC K A E own cc nL fr lo9 mc ms) {idx a0 a n0 n1 sp dp n : Nat} {f g : Nat → Int32} {x y z : Int32} (hw : Cond.methodLink own idx arraycopyName ∈ jW) (hw1 : Cond.native arraycopyName ∈ jW) (hw2 : Cond.static arraycopyName ∈ jW) (hw3 : Cond.initialized "java/lang/System" ∈ jW) (hG0 : G a0 = some (iA K n0 f)) (hG1 : G a = some (iA K n1 g)) (hx9 : x = nI n) (hy9 : y = nI dp) (hz9 : z = nI sp) (h4 : sp + n ≤ n0) (h5 : dp + n ≤ n1) (h6 : n0 < 2 ^ 31) (h7 : n1 < 2 ^ 31) (hfr : 1 ≤ fr) (hlo : (rest.map fun v => v.category).sum + (nativeFrameWords "java/lang/System" "arraycopy" 5 + 11) ≤ lo9) (hd : decode cc pc = .ok (.invokestatic idx, 3))
    (kk : ∀ hs, J K A E nL (gset G a (iA K n1 (va_cpy f g sp dp n))) hs cells slots (pc + 3) lo rest) : J K A E nL G hs cells slots pc lo (.int x :: .int y :: .ref a :: .int z :: .ref a0 :: rest) := by
  obtain ⟨p, l, e, R, s, m, args, below, meth, c, Q⟩ := E
  obtain ⟨hx, hb, hml, hown, hlk, hts, hN, hA, hst, hR⟩ := hE
  intro H locs ls hP hz hS hl
  subst hR
  subst hx9
  subst hy9
  subst hz9
  obtain ⟨ws, q1, q0, hPw, hDw, he1, he0, hback⟩ := hP.two (e' := iA K n1 (va_cpy f g sp dp n)) hG1 hG0
  refine va_copyi (D := K.1) (cl := vwCl) (ty := .int) hx hb (hml.trans hl.1.symm) hown (hts _ hw) (hts _ hw1) (hts _ hw2) (hts _ hw3) hN.1 hPw hDw hS q0 q1 0 0 he0 he1 rfl rfl rfl (nI_pos (by omega)) (nI_pos (by omega)) (nI_pos (by omega)) (by rw [nI_clamp (by omega), nI_clamp (by omega)]; exact h4) (by rw [nI_clamp (by omega), nI_clamp (by omega)]; exact h5) (fun i hi => rfl) hfr hlo hd (fun H1 locs1 hP1 hD1 hS1 => ?_)
  rw [nI_clamp (by omega), nI_clamp (by omega), nI_clamp (by omega)] at hP1 hD1
  exact kk H1.size H1 locs1 ls (hback H1 hP1 hD1) rfl hS1 hl
end JM
end
section
/-! ===== calls, ends, throws ===== -/
section JC
variable {K : jK} {A : Nat → Prop} {E : jE} {own : String} {cc : ByteArray} {nL fr lo9 mc ms : Nat} {G : GH} {hs cells slots pc : Nat} {lo : List (Option Value)} {rest st0 : List Value}
theorem gA_sub {H : Heap} {H0 : Heap} {locs : List Loc} (hP : gP K.1 A G H) (hz : H.size = hs) (hS : va_S A H0 H locs) (hA : ∀ q, H0.size ≤ q → A q) : ∀ q, gA G hs q → A q := by
  intro q h
  rcases h with h | h
  · cases hg : G q with
    | none => exact absurd hg h
    | some e => exact hP.inA hg
  · exact hA q (Nat.le_trans hS.1 (by rw [hz]; exact h))
theorem gP_up {B : Nat → Prop} {G' : GH} {H : Heap} (hP : gP K.1 B G' H) (hB : ∀ q, B q → A q) : gP K.1 A G' H := hP.weaken (fun a ha => by
  cases hg : G' a with
  | none => exact absurd hg ha
  | some e => exact hB a (hP.inA hg))
theorem gP_self {H : Heap} (hP : gP K.1 A G H) : gP K.1 (gA G hs) G H := hP.weaken (fun _ h => Or.inl h)
/-- behind a call that may throw -/
theorem j_back (hE : jC K A E own cc nL fr lo9 mc ms) {mc' ms' : Nat} {aa : Array Value} {post : Option Value → GH → Nat → Prop} {px : String → GH → Prop}
    (hr : match E with | (p, l, e, R, s, m, args, below, meth, c, _) => ∀ (H : Heap) (locs : List Loc) (ls : Array Slot), gP K.1 A G H → H.size = hs → va_S A s.heap H locs → jlv ls nL lo → vx_Run p l e R s m args below meth c H locs cells slots mc' ms' (F0 m pc ls st0) rest (gQ K (gA G hs) post aa) (gX K (gA G hs) px) (gA G hs))
    (kk : ∀ (v : Option Value) (G' : GH) (hs' : Nat), post v G' hs' → J K A E nL G' hs' (cells + mc') (slots + ms') (pc + 3) lo (v.toList ++ rest)) (kx : ∀ (X : String) (G' : GH), px X G' → JX K A E nL G' (cells + mc') (slots + ms') pc lo rest X) : J K A E nL G hs cells slots pc lo st0 := by
  obtain ⟨p, l, e, R, s, m, args, below, meth, c, Q⟩ := E
  obtain ⟨hx, hb, hml, hown, hlk, hts, hN, hA, hst, hR⟩ := hE
  intro H locs ls hP hz hS hl
  have hsub := gA_sub hP hz hS hA
  intro T hT X
  rcases hr H locs ls hP hz hS hl T hT X with ⟨v, st₀, t, T', L, h0, X', hL, e1, e2, ⟨⟨v9, G', hv, hp, hP'⟩, hF⟩, st⟩ | ⟨q, st₀, t, T', L, Xn, ce, h0, X', hL, e1, e2, ⟨⟨G', hp, hP'⟩, hF⟩, hce, hcv, hcl, st⟩
  · cases hv
    obtain ⟨k1, k2, k3⟩ := vx_keep h0 e1 hS (fun q _ h => hsub q h) hsub hL hF
    obtain ⟨t2, a1, b1⟩ := kk v G' t.heap.size hp T'.heap (locs ++ L) ls (by rw [e1]; exact gP_up hP' hsub) (by rw [e1]) k3 hl T' rfl X'
    exact ⟨t2, st t2 a1, b1⟩
  · obtain ⟨k1, k2, k3⟩ := vx_keep h0 e1 hS (fun q _ h => hsub q h) hsub hL hF
    obtain ⟨t2, a1, b1⟩ := kx Xn G' hp T'.heap (locs ++ L) ls q ce (by rw [e1]; exact gP_up hP' hsub) k3 hl (by rw [e1]; exact hce) hcv hcl T' rfl X'
    exact ⟨t2, st.trans a1, b1⟩
theorem j_backM (hE : jC K A E own cc nL fr lo9 mc ms) {mc' ms' : Nat} {aa : Array Value} {post : Option Value → GH → Nat → Prop}
    (hr : match E with | (p, l, e, R, s, m, args, below, meth, c, _) => ∀ (H : Heap) (locs : List Loc) (ls : Array Slot), gP K.1 A G H → H.size = hs → va_S A s.heap H locs → jlv ls nL lo → va_Run p l e R s m args below meth c H locs cells slots mc' ms' (F0 m pc ls st0) rest (gQ K (gA G hs) post aa) (gA G hs))
    (kk : ∀ (v : Option Value) (G' : GH) (hs' : Nat), post v G' hs' → J K A E nL G' hs' (cells + mc') (slots + ms') (pc + 3) lo (v.toList ++ rest)) : J K A E nL G hs cells slots pc lo st0 := by
  obtain ⟨p, l, e, R, s, m, args, below, meth, c, Q⟩ := E
  obtain ⟨hx, hb, hml, hown, hlk, hts, hN, hA, hst, hR⟩ := hE
  intro H locs ls hP hz hS hl
  have hsub := gA_sub hP hz hS hA
  intro T hT X
  obtain ⟨v, st₀, t, T', L, h0, X', hL, e1, e2, ⟨⟨v9, G', hv, hp, hP'⟩, hF⟩, st⟩ := hr H locs ls hP hz hS hl T hT X
  cases hv
  obtain ⟨k1, k2, k3⟩ := vx_keep h0 e1 hS (fun q _ h => hsub q h) hsub hL hF
  obtain ⟨t2, a1, b1⟩ := kk v G' t.heap.size hp T'.heap (locs ++ L) ls (by rw [e1]; exact gP_up hP' hsub) (by rw [e1]) k3 hl T' rfl X'
  exact ⟨t2, st t2 a1, b1⟩
theorem j_pre {s : State} {H : Heap} {locs : List Loc} {av : List Value} (hP : gP K.1 A G H) (hz : H.size = hs) (hS : va_S A s.heap H locs) (hA : ∀ q, s.heap.size ≤ q → A q) (hN : gN K A s) : ∀ U : State, U.heap = H → s.WarmedH U.vm → va_Pc av (fun U => U.heap.size = hs ∧ gP K.1 (gA G hs) G U.heap ∧ gN K (gA G hs) U) av.toArray U := by
  intro U hU hW
  exact ⟨rfl, by rw [hU]; exact hz, by rw [hU]; exact gP_self hP, hN.move hW (fun q h1 h2 => by rw [hU]; exact hS.2.1 q h1 h2) (gA_sub hP hz hS hA)⟩
theorem j_callV (hE : jC K A E own cc nL fr lo9 mc ms) {idx ci : Nat} {y : MethodName} {cc' : ByteArray} {maxL : Nat} {ret : Option FieldType} {n fr' lo' mc' ms' : Nat} {b : Nat} {As : List Value} {fs : List Value} {post : Option Value → GH → Nat → Prop} {px : String → GH → Prop} (hV : jV own idx ci y cc' maxL ret n) (hG : G b = some (.inr (ci, fs)))
    (hM : ∀ l, l.stackTraces = false → Ct l K y cc' maxL ret fr' lo' mc' ms' (.ref b :: As) G hs post px) (hn : As.length = n) (hst0 : st0 = As.reverse ++ .ref b :: rest) (hrs : (rest.map fun v => v.category).sum ≤ 8) (hfr : fr' + 1 ≤ fr) (hlo : 8 + (maxL + 11) + lo' ≤ lo9) (hc9 : cells + mc' ≤ mc) (hs9 : slots + ms' ≤ ms) (hd : decode cc pc = .ok (.invokevirtual idx, 3))
    (kk : ∀ (v : Option Value) (G' : GH) (hs' : Nat), post v G' hs' → J K A E nL G' hs' (cells + mc') (slots + ms') (pc + 3) lo (v.toList ++ rest)) (kx : ∀ (X : String) (G' : GH), px X G' → JX K A E nL G' (cells + mc') (slots + ms') pc lo rest X) : J K A E nL G hs cells slots pc lo st0 := by
  refine j_back hE (mc' := mc') (ms' := ms') (aa := (Value.ref b :: As).toArray) ?_ kk kx
  obtain ⟨p, l, e, R, s, m, args, below, meth, c, Q⟩ := E
  obtain ⟨hx, hb, hml, hown, hlk, hts, hN, hA, hst, hR⟩ := hE
  obtain ⟨h1, h2, h3, h4, h5, ⟨T9, N9, h6⟩, h7, h8⟩ := hV
  intro H locs ls hP hz hS hl
  subst hR
  refine vx_runV (C := y.cls) ⟨hx, hb, hml, hown, hts⟩ (hM l hst) (cwV n hts (fun w hw => ?_) rfl rfl rfl ⟨rfl, h7.1, h7.2, h8⟩ ⟨hfr, hlo⟩) ⟨gA_blind, va_recv hN.1 (hP.p1 hG) h6 (q0 := 0) rfl, j_pre hP hz hS hA hN⟩ rfl hn hl.1 hst0 (lv_room hrs) hd ⟨hc9, hs9⟩
  have hw' : w ∈ jW := by
    simp only [wsV, List.mem_append, List.mem_cons, List.not_mem_nil, or_false] at hw
    rcases hw with (rfl | rfl | rfl | rfl) | rfl | hw
    · exact h1
    · exact h2
    · exact h3
    · exact h4
    · exact h5
    · exact hw
  exact ⟨hw', jW_good _ hw'⟩
theorem j_callS (hE : jC K A E own cc nL fr lo9 mc ms) {idx : Nat} {y : MethodName} {cc' : ByteArray} {maxL : Nat} {ret : Option FieldType} {n fr' lo' mc' ms' : Nat} {As : List Value} {post : Option Value → GH → Nat → Prop} {px : String → GH → Prop} (hV : jS own idx y cc' maxL ret n)
    (hM : ∀ l, l.stackTraces = false → Ct l K y cc' maxL ret fr' lo' mc' ms' As G hs post px) (hn : As.length = n) (hst0 : st0 = As.reverse ++ rest) (hrs : (rest.map fun v => v.category).sum ≤ 8) (hfr : fr' + 1 ≤ fr) (hlo : 8 + (maxL + 11) + lo' ≤ lo9) (hc9 : cells + mc' ≤ mc) (hs9 : slots + ms' ≤ ms) (hd : decode cc pc = .ok (.invokestatic idx, 3))
    (kk : ∀ (v : Option Value) (G' : GH) (hs' : Nat), post v G' hs' → J K A E nL G' hs' (cells + mc') (slots + ms') (pc + 3) lo (v.toList ++ rest)) (kx : ∀ (X : String) (G' : GH), px X G' → JX K A E nL G' (cells + mc') (slots + ms') pc lo rest X) : J K A E nL G hs cells slots pc lo st0 := by
  refine j_back hE (mc' := mc') (ms' := ms') (aa := As.toArray) ?_ kk kx
  obtain ⟨p, l, e, R, s, m, args, below, meth, c, Q⟩ := E
  obtain ⟨hx, hb, hml, hown, hlk, hts, hN, hA, hst, hR⟩ := hE
  obtain ⟨h1, h2, h3, h4, h5, h6⟩ := hV
  intro H locs ls hP hz hS hl
  subst hR
  exact vx_runS ⟨hx, hb, hml, hown, hts⟩ (hM l hst) ⟨callB_of n hts (jW_cons h4) rfl rfl rfl (hts _ h3) (hts _ h1) ⟨h5.1, h5.2, h6⟩ ⟨hfr, hlo⟩, hts _ h2⟩ ⟨gA_blind, j_pre hP hz hS hA hN⟩ rfl hn hl.1 hst0 (lv_room hrs) hd ⟨hc9, hs9⟩
theorem j_callSN (hE : jC K A E own cc nL fr lo9 mc ms) {idx : Nat} {y : MethodName} {cc' : ByteArray} {maxL : Nat} {ret : Option FieldType} {n fr' lo' mc' ms' : Nat} {As : List Value} {post : Option Value → GH → Nat → Prop} (hV : jSN own idx y cc' maxL ret n)
    (hM : ∀ l, l.stackTraces = false → Ct l K y cc' maxL ret fr' lo' mc' ms' As G hs post jno) (hn : As.length = n) (hst0 : st0 = As.reverse ++ rest) (hrs : (rest.map fun v => v.category).sum ≤ 8) (hfr : fr' + 1 ≤ fr) (hlo : 8 + (maxL + 11) + lo' ≤ lo9) (hc9 : cells + mc' ≤ mc) (hs9 : slots + ms' ≤ ms) (hd : decode cc pc = .ok (.invokestatic idx, 3))
    (kk : ∀ (v : Option Value) (G' : GH) (hs' : Nat), post v G' hs' → J K A E nL G' hs' (cells + mc') (slots + ms') (pc + 3) lo (v.toList ++ rest)) : J K A E nL G hs cells slots pc lo st0 := by
  refine j_backM hE (mc' := mc') (ms' := ms') (aa := As.toArray) ?_ kk
  obtain ⟨p, l, e, R, s, m, args, below, meth, c, Q⟩ := E
  obtain ⟨hx, hb, hml, hown, hlk, hts, hN, hA, hst, hR⟩ := hE
  obtain ⟨h1, h2, h3, h4, h5, h6⟩ := hV
  intro H locs ls hP hz hS hl
  subst hR
  exact va_runSN ⟨hx, hb, hml, hown, hts⟩ (hM l hst).met ⟨va_cnB (host := "FrameCommutator") n hts (jW_cons h4) rfl rfl rfl (hN.2.1 _ h1) (hts _ h3) ⟨h5.1, h5.2, h6⟩ ⟨hfr, hlo⟩, hts _ h2, trivial⟩ ⟨gA_blind, j_pre hP hz hS hA hN⟩ rfl hn hl.1 hst0 (lv_room hrs) hd ⟨hc9, hs9⟩
theorem j_callI (hE : jC K A E own cc nL fr lo9 mc ms) {idx : Nat} {y : MethodName} {cc' : ByteArray} {maxL : Nat} {n fr' lo' mc' ms' : Nat} {b : Nat} {As : List Value} {post : Option Value → GH → Nat → Prop} (hV : jI own idx y cc' maxL n)
    (hM : ∀ l, l.stackTraces = false → Ct l K y cc' maxL none fr' lo' mc' ms' (.ref b :: As) G hs post jno) (hn : As.length = n) (hst0 : st0 = As.reverse ++ .ref b :: rest) (hrs : (rest.map fun v => v.category).sum ≤ 8) (hfr : fr' + 1 ≤ fr) (hlo : 8 + (maxL + 11) + lo' ≤ lo9) (hc9 : cells + mc' ≤ mc) (hs9 : slots + ms' ≤ ms) (hd : decode cc pc = .ok (.invokespecial idx, 3))
    (kk : ∀ (v : Option Value) (G' : GH) (hs' : Nat), post v G' hs' → J K A E nL G' hs' (cells + mc') (slots + ms') (pc + 3) lo (v.toList ++ rest)) : J K A E nL G hs cells slots pc lo st0 := by
  refine j_backM hE (mc' := mc') (ms' := ms') (aa := (Value.ref b :: As).toArray) ?_ kk
  obtain ⟨p, l, e, R, s, m, args, below, meth, c, Q⟩ := E
  obtain ⟨hx, hb, hml, hown, hlk, hts, hN, hA, hst, hR⟩ := hE
  obtain ⟨h1, h2, h3, h4, h5, h6, h7⟩ := hV
  intro H locs ls hP hz hS hl
  subst hR
  exact va_runI ⟨hx, hb, hml, hown, hts⟩ (hM l hst).met (cwI n hts (jW_cons h4) rfl rfl rfl (hts _ h3) (hts _ h1) (hts _ h2) h5 ⟨h6.1, h6.2, h7⟩ ⟨hfr, hlo⟩) ⟨gA_blind, j_pre hP hz hS hA hN⟩ rfl hn hl.1 hst0 (lv_room hrs) hd ⟨hc9, hs9⟩
theorem j_callIN (hE : jC K A E own cc nL fr lo9 mc ms) {idx : Nat} {y : MethodName} {cc' : ByteArray} {maxL : Nat} {n fr' lo' mc' ms' : Nat} {b : Nat} {As : List Value} {post : Option Value → GH → Nat → Prop} (hV : jIN own idx y cc' maxL n)
    (hM : ∀ l, l.stackTraces = false → Ct l K y cc' maxL none fr' lo' mc' ms' (.ref b :: As) G hs post jno) (hn : As.length = n) (hst0 : st0 = As.reverse ++ .ref b :: rest) (hrs : (rest.map fun v => v.category).sum ≤ 8) (hfr : fr' + 1 ≤ fr) (hlo : 8 + (maxL + 11) + lo' ≤ lo9) (hc9 : cells + mc' ≤ mc) (hs9 : slots + ms' ≤ ms) (hd : decode cc pc = .ok (.invokespecial idx, 3))
    (kk : ∀ (v : Option Value) (G' : GH) (hs' : Nat), post v G' hs' → J K A E nL G' hs' (cells + mc') (slots + ms') (pc + 3) lo (v.toList ++ rest)) : J K A E nL G hs cells slots pc lo st0 := by
  refine j_backM hE (mc' := mc') (ms' := ms') (aa := (Value.ref b :: As).toArray) ?_ kk
  obtain ⟨p, l, e, R, s, m, args, below, meth, c, Q⟩ := E
  obtain ⟨hx, hb, hml, hown, hlk, hts, hN, hA, hst, hR⟩ := hE
  obtain ⟨h1, h2, h3, h4, h5, h6, h7⟩ := hV
  intro H locs ls hP hz hS hl
  subst hR
  exact va_runIN ⟨hx, hb, hml, hown, hts⟩ (hM l hst).met ⟨va_cnB (host := "FrameCommutator") n hts (jW_cons h4) rfl rfl rfl (hN.2.1 _ h1) (hts _ h3) ⟨h6.1, h6.2, h7⟩ ⟨hfr, hlo⟩, h5, hts _ h2⟩ ⟨gA_blind, j_pre hP hz hS hA hN⟩ rfl hn hl.1 hst0 (lv_room hrs) hd ⟨hc9, hs9⟩
theorem j_obj (hE : jC K A E own cc nL fr lo9 mc ms) {idx a : Nat} (h1 : Cond.methodLink own idx objectInit ∈ jW) (h2 : Cond.instanceMethod objectInit ∈ jW) (h3 : Cond.code objectInit ⟨#[0xb1]⟩ 1 none ∈ jW) (hfr : 1 ≤ fr) (hlo : (rest.map fun v => v.category).sum + 12 ≤ lo9) (hd : decode cc pc = .ok (.invokespecial idx, 3)) (kk : J K A E nL G hs cells slots (pc + 3) lo rest) : J K A E nL G hs cells slots pc lo (.ref a :: rest) := by
  obtain ⟨p, l, e, R, s, m, args, below, meth, c, Q⟩ := E
  obtain ⟨hx, hb, hml, hown, hlk, hts, hN, hA, hst, hR⟩ := hE
  intro H locs ls hP hz hS hl
  subst hR
  refine W.objInit hx hb hown (hts _ h1) (hts _ h2) (hts _ h3) rfl (by rw [hml]; exact hl.1) rfl hd hfr (by show 2 * 0 + _ + 12 ≤ lo9; omega) ?_
  exact kk H locs ls hP hz hS hl
/-! ends -/
theorem j_iret (hE : jC K A E own cc nL fr lo9 mc ms) {post : Option Value → GH → Nat → Prop} {px : String → GH → Prop} {v : Int32} {ty : FieldType} (hQ : jQ K A E (some ty) mc ms post px) (hn : narrow ty (.int v) = .int v) (hc9 : cells ≤ mc) (hs9 : slots ≤ ms) (hd : decode cc pc = .ok (.ireturn, 1)) (hp : post (some (.int v)) G hs) : J K A E nL G hs cells slots pc lo [.int v] := by
  obtain ⟨p, l, e, R, s, m, args, below, meth, c, Q⟩ := E
  obtain ⟨hx, hb, hml, hown, hlk, hts, hN, hA, hst, hR⟩ := hE
  obtain ⟨hr, hQ⟩ := hQ
  intro H locs ls hP hz hS hl
  subst hQ
  exact W.widen hc9 hs9 (vx_ret (W.zret hx hb hr hn (fun t ht hW => ⟨⟨_, G, rfl, by rw [ht, hz]; exact hp, by rw [ht]; exact hP⟩, hS.F ht⟩) hS.2.2 hd hlk))
theorem j_lret (hE : jC K A E own cc nL fr lo9 mc ms) {post : Option Value → GH → Nat → Prop} {px : String → GH → Prop} {v : Int64} (hQ : jQ K A E (some .long) mc ms post px) (hc9 : cells ≤ mc) (hs9 : slots ≤ ms) (hd : decode cc pc = .ok (.lreturn, 1)) (hp : post (some (.long v)) G hs) : J K A E nL G hs cells slots pc lo [.long v] := by
  obtain ⟨p, l, e, R, s, m, args, below, meth, c, Q⟩ := E
  obtain ⟨hx, hb, hml, hown, hlk, hts, hN, hA, hst, hR⟩ := hE
  obtain ⟨hr, hQ⟩ := hQ
  intro H locs ls hP hz hS hl
  subst hQ
  exact W.widen hc9 hs9 (vx_ret (W.lret hx hb hr (fun t ht hW => ⟨⟨_, G, rfl, by rw [ht, hz]; exact hp, by rw [ht]; exact hP⟩, hS.F ht⟩) hS.2.2 hd hlk))
theorem j_dret (hE : jC K A E own cc nL fr lo9 mc ms) {post : Option Value → GH → Nat → Prop} {px : String → GH → Prop} {v : UInt64} (hQ : jQ K A E (some .double) mc ms post px) (hc9 : cells ≤ mc) (hs9 : slots ≤ ms) (hd : decode cc pc = .ok (.dreturn, 1)) (hp : post (some (.double v)) G hs) : J K A E nL G hs cells slots pc lo [.double v] := by
  obtain ⟨p, l, e, R, s, m, args, below, meth, c, Q⟩ := E
  obtain ⟨hx, hb, hml, hown, hlk, hts, hN, hA, hst, hR⟩ := hE
  obtain ⟨hr, hQ⟩ := hQ
  intro H locs ls hP hz hS hl
  subst hQ
  exact W.widen hc9 hs9 (vx_ret (W.dret hx hb hr (fun t ht hW => ⟨⟨_, G, rfl, by rw [ht, hz]; exact hp, by rw [ht]; exact hP⟩, hS.F ht⟩) hS.2.2 hd hlk))
theorem j_aret (hE : jC K A E own cc nL fr lo9 mc ms) {post : Option Value → GH → Nat → Prop} {px : String → GH → Prop} {a : Nat} {C : String} (hQ : jQ K A E (some (.object C)) mc ms post px) (hc9 : cells ≤ mc) (hs9 : slots ≤ ms) (hd : decode cc pc = .ok (.areturn, 1)) (hp : post (some (.ref a)) G hs) : J K A E nL G hs cells slots pc lo [.ref a] := by
  obtain ⟨p, l, e, R, s, m, args, below, meth, c, Q⟩ := E
  obtain ⟨hx, hb, hml, hown, hlk, hts, hN, hA, hst, hR⟩ := hE
  obtain ⟨hr, hQ⟩ := hQ
  intro H locs ls hP hz hS hl
  subst hQ
  exact W.widen hc9 hs9 (vx_ret (W.aret hx hb hr (Or.inl ⟨_, rfl⟩) (Or.inr ⟨_, rfl⟩) (fun t ht hW => ⟨⟨_, G, rfl, by rw [ht, hz]; exact hp, by rw [ht]; exact hP⟩, hS.F ht⟩) hS.2.2 hd hlk))
theorem j_vret (hE : jC K A E own cc nL fr lo9 mc ms) {post : Option Value → GH → Nat → Prop} {px : String → GH → Prop} (hQ : jQ K A E none mc ms post px) (hc9 : cells ≤ mc) (hs9 : slots ≤ ms) (hd : decode cc pc = .ok (.return_, 1)) (hp : post none G hs) : J K A E nL G hs cells slots pc lo [] := by
  obtain ⟨p, l, e, R, s, m, args, below, meth, c, Q⟩ := E
  obtain ⟨hx, hb, hml, hown, hlk, hts, hN, hA, hst, hR⟩ := hE
  obtain ⟨hr, hQ⟩ := hQ
  intro H locs ls hP hz hS hl
  subst hQ
  exact W.widen hc9 hs9 (vx_ret (W.vret hx hb hr (fun t ht hW => ⟨⟨_, G, rfl, by rw [ht, hz]; exact hp, by rw [ht]; exact hP⟩, hS.F ht⟩) hS.2.2 hd hlk))
/-- not caught here -/
theorem j_out (hE : jC K A E own cc nL fr lo9 mc ms) (hX : jNoX E) {ret : Option FieldType} {post : Option Value → GH → Nat → Prop} {px : String → GH → Prop} {X : String} (hQ : jQ K A E ret mc ms post px) (hc9 : cells ≤ mc) (hs9 : slots ≤ ms) (hp : px X G) : JX K A E nL G cells slots pc lo rest X := by
  obtain ⟨p, l, e, R, s, m, args, below, meth, c, Q⟩ := E
  obtain ⟨hx, hb, hml, hown, hlk, hts, hN, hA, hst, hR⟩ := hE
  obtain ⟨hr, hQ⟩ := hQ
  intro H locs ls q ce hP hS hl hce hcv hcl
  subst hQ
  exact vx_out (fun x hx => (hX x hx).elim) hlk hce hcv hcl (fun t ht hW => ⟨⟨G, hp, by rw [ht]; exact hP⟩, hS.F ht⟩) hS.2.2 hc9 hs9
/-- what a 'throw new E("text")' needs -/
def jTh (own cls : String) (ik is ic : Nat) (text : String) : Prop := own = "FrameCommutator" ∧ (is, text) ∈ jStr ∧ Bundle.fit cls = true ∧ Cond.classLink own ik cls ∈ jW ∧ Cond.initialized cls ∈ jW ∧ (∀ w ∈ (vx_atS own ic cls ["java/lang/RuntimeException", "java/lang/Exception"]).filter goodWord, w ∈ jW) ∧ (∀ w ∈ (vx_atS own ic cls ["java/lang/RuntimeException", "java/lang/Exception"]).filter (fun w => !goodWord w), w ∈ jDecl.map Cond.declares) ∧ (∀ w ∈ Cond.classLink own ik cls :: Cond.initialized cls :: vx_atS own ic cls ["java/lang/RuntimeException", "java/lang/Exception"], vx_ot w = true)
theorem j_throw (hE : jC K A E own cc nL fr lo9 mc ms) (hX : jNoX E) {ret : Option FieldType} {post : Option Value → GH → Nat → Prop} {px : String → GH → Prop} (hQ : jQ K A E ret mc ms post px) {cls text : String} {ik is ic : Nat} (hT : jTh own cls ik is ic text) (hfr : 6 ≤ fr) (hlo : (rest.map fun v => v.category).sum + 82 ≤ lo9) (hc9 : cells + 1 ≤ mc) (hs9 : slots + 6 ≤ ms)
    (d0 : decode cc pc = .ok (.new ik, 3)) (d3 : decode cc (pc + 3) = .ok (.dup, 1)) (d4 : decode cc (pc + 4) = .ok (.ldc is, 2)) (d6 : decode cc (pc + 6) = .ok (.invokespecial ic, 3)) (d9 : decode cc (pc + 9) = .ok (.athrow, 1)) (hp : px cls G) : J K A E nL G hs cells slots pc lo rest := by
  obtain ⟨p, l, e, R, s, m, args, below, meth, c, Q⟩ := E
  obtain ⟨hx, hb, hml, hown, hlk, hts, hN, hA, hst, hR⟩ := hE
  obtain ⟨hr, hQ⟩ := hQ
  obtain ⟨rfl, t1, t2, t3, t4, t5, t6, t7⟩ := hT
  intro H locs ls hP hz hS hl
  subst hQ
  subst hR
  obtain ⟨n1, n2, n3, n4, n5, n6, n7, n8, n9, n10⟩ := hN
  obtain ⟨sa, hsa⟩ := n8 _ t1
  refine vx_throwS (A := A) (names := ["java/lang/RuntimeException", "java/lang/Exception"]) hx hb hst hown t2 (by decide) (hts _ t3) (hts _ t4) hsa (vx_hat (fun w hw => hts _ (t5 w hw)) t6 (fun w hw => ?_)) t7 n9 n10 hS (hl.1.trans hml.symm) d0 d3 d4 d6 d9 (fun x hx => (hX x hx).elim) (by show 2 + 3 < fr; omega) (by show _ + (13 * (2 + 1) + 43) ≤ lo9; omega) hc9 hs9 hlk (fun t h1 h2 h3 => ⟨⟨G, hp, hP.kept h3⟩, ⟨Nat.le_trans hS.1 h2, fun q g1 g2 => (h3 q (Nat.lt_of_lt_of_le g1 hS.1)).trans (hS.2.1 q g1 g2)⟩⟩) hS.2.2 hc9 hs9
  obtain ⟨q, hq, rfl⟩ := List.mem_map.mp hw
  exact va_Nw.use rfl (n3 q hq)
end JC
end
section
/-! ===== words by their places; links of fields, classes, methods ===== -/
theorem tw_74 : Cond.laysFinal RX0 RX0 "bits" "[I" ∈ jW := jW_tab 74 (by decide +kernel) (by decide +kernel)
theorem tw_76 : Cond.lays RX0 RX0 "size" "I" ∈ jW := jW_tab 76 (by decide +kernel) (by decide +kernel)
theorem in9X0 : ∀ w ∈ u_ws RX0 TX0 2, w ∈ jW := fun w hw => by
  obtain ⟨k, hk, rfl⟩ := List.mem_map.mp hw
  have hk := List.mem_range.mp hk
  exact match k, hk with
    | 0, _ => tw_74
    | 1, _ => tw_76
    | k + 2, h => absurd h (by omega)
theorem tw_48 : Cond.lays RX1 RX1 "words" "I" ∈ jW := jW_tab 48 (by decide +kernel) (by decide +kernel)
theorem tw_50 : Cond.lays RX1 RX1 "minors" "I" ∈ jW := jW_tab 50 (by decide +kernel) (by decide +kernel)
theorem tw_52 : Cond.lays RX1 RX1 "planned" "Z" ∈ jW := jW_tab 52 (by decide +kernel) (by decide +kernel)
theorem tw_54 : Cond.lays RX1 RX1 "wordsTaken" "I" ∈ jW := jW_tab 54 (by decide +kernel) (by decide +kernel)
theorem tw_56 : Cond.laysFinal RX1 RX1 "owners" "[I" ∈ jW := jW_tab 56 (by decide +kernel) (by decide +kernel)
theorem in9X1 : ∀ w ∈ u_ws RX1 TX1 5, w ∈ jW := fun w hw => by
  obtain ⟨k, hk, rfl⟩ := List.mem_map.mp hw
  have hk := List.mem_range.mp hk
  exact match k, hk with
    | 0, _ => tw_48
    | 1, _ => tw_50
    | 2, _ => tw_52
    | 3, _ => tw_54
    | 4, _ => tw_56
    | k + 5, h => absurd h (by omega)
theorem tw_133 : Cond.lays RX2 RX2 "rate" "I" ∈ jW := jW_tab 133 (by decide +kernel) (by decide +kernel)
theorem tw_135 : Cond.lays RX2 RX2 "value" "I" ∈ jW := jW_tab 135 (by decide +kernel) (by decide +kernel)
theorem tw_137 : Cond.lays RX2 RX2 "latest" "I" ∈ jW := jW_tab 137 (by decide +kernel) (by decide +kernel)
theorem tw_139 : Cond.lays RX2 RX2 "sampleCount" "I" ∈ jW := jW_tab 139 (by decide +kernel) (by decide +kernel)
theorem tw_141 : Cond.laysFinal RX2 RX2 "lows" "[I" ∈ jW := jW_tab 141 (by decide +kernel) (by decide +kernel)
theorem tw_143 : Cond.laysFinal RX2 RX2 "highs" "[I" ∈ jW := jW_tab 143 (by decide +kernel) (by decide +kernel)
theorem tw_145 : Cond.lays RX2 RX2 "persistence" "I" ∈ jW := jW_tab 145 (by decide +kernel) (by decide +kernel)
theorem tw_147 : Cond.lays RX2 RX2 "alarmed" "Z" ∈ jW := jW_tab 147 (by decide +kernel) (by decide +kernel)
theorem tw_149 : Cond.lays RX2 RX2 "outInRow" "I" ∈ jW := jW_tab 149 (by decide +kernel) (by decide +kernel)
theorem tw_151 : Cond.lays RX2 RX2 "alarmCount" "I" ∈ jW := jW_tab 151 (by decide +kernel) (by decide +kernel)
theorem in9X2 : ∀ w ∈ u_ws RX2 TX2 10, w ∈ jW := fun w hw => by
  obtain ⟨k, hk, rfl⟩ := List.mem_map.mp hw
  have hk := List.mem_range.mp hk
  exact match k, hk with
    | 0, _ => tw_133
    | 1, _ => tw_135
    | 2, _ => tw_137
    | 3, _ => tw_139
    | 4, _ => tw_141
    | 5, _ => tw_143
    | 6, _ => tw_145
    | 7, _ => tw_147
    | 8, _ => tw_149
    | 9, _ => tw_151
    | k + 10, h => absurd h (by omega)
theorem tw_95 : Cond.lays RX3 RX3 "condition" "I" ∈ jW := jW_tab 95 (by decide +kernel) (by decide +kernel)
theorem tw_97 : Cond.lays RX3 RX3 "missesInRow" "I" ∈ jW := jW_tab 97 (by decide +kernel) (by decide +kernel)
theorem tw_99 : Cond.laysFinal RX3 RX3 "counts" "[I" ∈ jW := jW_tab 99 (by decide +kernel) (by decide +kernel)
theorem tw_101 : Cond.laysFinal RX3 RX3 "frame" "[I" ∈ jW := jW_tab 101 (by decide +kernel) (by decide +kernel)
theorem tw_103 : Cond.lays RX3 RX3 "position" "I" ∈ jW := jW_tab 103 (by decide +kernel) (by decide +kernel)
theorem tw_105 : Cond.lays RX3 RX3 "history" "I" ∈ jW := jW_tab 105 (by decide +kernel) (by decide +kernel)
theorem in9X3 : ∀ w ∈ u_ws RX3 TX3 6, w ∈ jW := fun w hw => by
  obtain ⟨k, hk, rfl⟩ := List.mem_map.mp hw
  have hk := List.mem_range.mp hk
  exact match k, hk with
    | 0, _ => tw_95
    | 1, _ => tw_97
    | 2, _ => tw_99
    | 3, _ => tw_101
    | 4, _ => tw_103
    | 5, _ => tw_105
    | k + 6, h => absurd h (by omega)
theorem tw_167 : Cond.laysFinal RX4 RX4 "layout" "LFrameCommutator$Layout;" ∈ jW := jW_tab 167 (by decide +kernel) (by decide +kernel)
theorem tw_169 : Cond.laysFinal RX4 RX4 "parameters" "[LFrameCommutator$Parameter;" ∈ jW := jW_tab 169 (by decide +kernel) (by decide +kernel)
theorem tw_171 : Cond.lays RX4 RX4 "parameterCount" "I" ∈ jW := jW_tab 171 (by decide +kernel) (by decide +kernel)
theorem tw_173 : Cond.lays RX4 RX4 "nextMinor" "I" ∈ jW := jW_tab 173 (by decide +kernel) (by decide +kernel)
theorem tw_175 : Cond.laysFinal RX4 RX4 "channel" "LFrameCommutator$Channel;" ∈ jW := jW_tab 175 (by decide +kernel) (by decide +kernel)
theorem tw_177 : Cond.laysFinal RX4 RX4 "receiver" "LFrameCommutator$Receiver;" ∈ jW := jW_tab 177 (by decide +kernel) (by decide +kernel)
theorem tw_179 : Cond.lays RX4 RX4 "mode" "I" ∈ jW := jW_tab 179 (by decide +kernel) (by decide +kernel)
theorem in9X4 : ∀ w ∈ u_ws RX4 TX4 7, w ∈ jW := fun w hw => by
  obtain ⟨k, hk, rfl⟩ := List.mem_map.mp hw
  have hk := List.mem_range.mp hk
  exact match k, hk with
    | 0, _ => tw_167
    | 1, _ => tw_169
    | 2, _ => tw_171
    | 3, _ => tw_173
    | 4, _ => tw_175
    | 5, _ => tw_177
    | 6, _ => tw_179
    | k + 7, h => absurd h (by omega)
theorem tw_190 : Cond.lays RX5 RX5 "now" "LFrameCommutator$State;" ∈ jW := jW_tab 190 (by decide +kernel) (by decide +kernel)
theorem tw_192 : Cond.laysFinal RX5 RX5 "saved" "[LFrameCommutator$State;" ∈ jW := jW_tab 192 (by decide +kernel) (by decide +kernel)
theorem tw_194 : Cond.lays RX5 RX5 "savedCount" "I" ∈ jW := jW_tab 194 (by decide +kernel) (by decide +kernel)
theorem tw_196 : Cond.lays RX5 RX5 "newest" "I" ∈ jW := jW_tab 196 (by decide +kernel) (by decide +kernel)
theorem tw_198 : Cond.laysFinal RX5 RX5 "draft" "LFrameCommutator$Layout;" ∈ jW := jW_tab 198 (by decide +kernel) (by decide +kernel)
theorem in9X5 : ∀ w ∈ u_ws RX5 TX5 5, w ∈ jW := fun w hw => by
  obtain ⟨k, hk, rfl⟩ := List.mem_map.mp hw
  have hk := List.mem_range.mp hk
  exact match k, hk with
    | 0, _ => tw_190
    | 1, _ => tw_192
    | 2, _ => tw_194
    | 3, _ => tw_196
    | 4, _ => tw_198
    | k + 5, h => absurd h (by omega)
theorem tw_700 : Cond.laysFinal RX6 RX6 "now" "[I" ∈ jW := jW_tab 700 (by decide +kernel) (by decide +kernel)
theorem tw_702 : Cond.laysFinal RX6 RX6 "past" "[I" ∈ jW := jW_tab 702 (by decide +kernel) (by decide +kernel)
theorem tw_704 : Cond.lays RX6 RX6 "kept" "I" ∈ jW := jW_tab 704 (by decide +kernel) (by decide +kernel)
theorem tw_706 : Cond.lays RX6 RX6 "thrown" "I" ∈ jW := jW_tab 706 (by decide +kernel) (by decide +kernel)
theorem tw_708 : Cond.laysFinal RX6 RX6 "drawn" "[I" ∈ jW := jW_tab 708 (by decide +kernel) (by decide +kernel)
theorem tw_710 : Cond.lays RX6 RX6 "hash" "J" ∈ jW := jW_tab 710 (by decide +kernel) (by decide +kernel)
theorem in9X6 : ∀ w ∈ u_ws RX6 TX6 6, w ∈ jW := fun w hw => by
  obtain ⟨k, hk, rfl⟩ := List.mem_map.mp hw
  have hk := List.mem_range.mp hk
  exact match k, hk with
    | 0, _ => tw_700
    | 1, _ => tw_702
    | 2, _ => tw_704
    | 3, _ => tw_706
    | 4, _ => tw_708
    | 5, _ => tw_710
    | k + 6, h => absurd h (by omega)
theorem tw_36 : Cond.fieldLink RX1 9 RX1 "words" "I" ∈ jW := jW_tab 36 (by decide +kernel) (by decide +kernel)
theorem flX1_9 : jF RX1 9 1 0 false .int := ⟨RX1, TX1, 5, tyX1, rfl, in9X1, tyX1_ok, nmX1, by decide, tw_36, rfl, rfl, rfl⟩
theorem tw_37 : Cond.fieldLink RX5 44 RX1 "words" "I" ∈ jW := jW_tab 37 (by decide +kernel) (by decide +kernel)
theorem flX5_44 : jF RX5 44 1 0 false .int := ⟨RX1, TX1, 5, tyX1, rfl, in9X1, tyX1_ok, nmX1, by decide, tw_37, rfl, rfl, rfl⟩
theorem tw_38 : Cond.fieldLink RX4 76 RX1 "words" "I" ∈ jW := jW_tab 38 (by decide +kernel) (by decide +kernel)
theorem flX4_76 : jF RX4 76 1 0 false .int := ⟨RX1, TX1, 5, tyX1, rfl, in9X1, tyX1_ok, nmX1, by decide, tw_38, rfl, rfl, rfl⟩
theorem tw_39 : Cond.fieldLink RX1 15 RX1 "minors" "I" ∈ jW := jW_tab 39 (by decide +kernel) (by decide +kernel)
theorem flX1_15 : jF RX1 15 1 1 false .int := ⟨RX1, TX1, 5, tyX1, rfl, in9X1, tyX1_ok, nmX1, by decide, tw_39, rfl, rfl, rfl⟩
theorem tw_40 : Cond.fieldLink RX5 47 RX1 "minors" "I" ∈ jW := jW_tab 40 (by decide +kernel) (by decide +kernel)
theorem flX5_47 : jF RX5 47 1 1 false .int := ⟨RX1, TX1, 5, tyX1, rfl, in9X1, tyX1_ok, nmX1, by decide, tw_40, rfl, rfl, rfl⟩
theorem tw_41 : Cond.fieldLink RX4 90 RX1 "minors" "I" ∈ jW := jW_tab 41 (by decide +kernel) (by decide +kernel)
theorem flX4_90 : jF RX4 90 1 1 false .int := ⟨RX1, TX1, 5, tyX1, rfl, in9X1, tyX1_ok, nmX1, by decide, tw_41, rfl, rfl, rfl⟩
theorem tw_42 : Cond.fieldLink RX1 18 RX1 "planned" "Z" ∈ jW := jW_tab 42 (by decide +kernel) (by decide +kernel)
theorem flX1_18 : jF RX1 18 1 2 false .boolean := ⟨RX1, TX1, 5, tyX1, rfl, in9X1, tyX1_ok, nmX1, by decide, tw_42, rfl, rfl, rfl⟩
theorem tw_43 : Cond.fieldLink RX4 62 RX1 "planned" "Z" ∈ jW := jW_tab 43 (by decide +kernel) (by decide +kernel)
theorem flX4_62 : jF RX4 62 1 2 false .boolean := ⟨RX1, TX1, 5, tyX1, rfl, in9X1, tyX1_ok, nmX1, by decide, tw_43, rfl, rfl, rfl⟩
theorem tw_44 : Cond.fieldLink RX5 80 RX1 "planned" "Z" ∈ jW := jW_tab 44 (by decide +kernel) (by decide +kernel)
theorem flX5_80 : jF RX5 80 1 2 false .boolean := ⟨RX1, TX1, 5, tyX1, rfl, in9X1, tyX1_ok, nmX1, by decide, tw_44, rfl, rfl, rfl⟩
theorem tw_45 : Cond.fieldLink RX1 22 RX1 "wordsTaken" "I" ∈ jW := jW_tab 45 (by decide +kernel) (by decide +kernel)
theorem flX1_22 : jF RX1 22 1 3 false .int := ⟨RX1, TX1, 5, tyX1, rfl, in9X1, tyX1_ok, nmX1, by decide, tw_45, rfl, rfl, rfl⟩
theorem tw_46 : Cond.fieldLink RX5 84 RX1 "wordsTaken" "I" ∈ jW := jW_tab 46 (by decide +kernel) (by decide +kernel)
theorem flX5_84 : jF RX5 84 1 3 false .int := ⟨RX1, TX1, 5, tyX1, rfl, in9X1, tyX1_ok, nmX1, by decide, tw_46, rfl, rfl, rfl⟩
theorem tw_47 : Cond.fieldLink RX1 25 RX1 "owners" "[I" ∈ jW := jW_tab 47 (by decide +kernel) (by decide +kernel)
theorem flX1_25 : jF RX1 25 1 4 true (.array .int) := ⟨RX1, TX1, 5, tyX1, rfl, in9X1, tyX1_ok, nmX1, by decide, tw_47, rfl, rfl, rfl⟩
theorem tw_68 : Cond.fieldLink RX0 9 RX0 "bits" "[I" ∈ jW := jW_tab 68 (by decide +kernel) (by decide +kernel)
theorem flX0_9 : jF RX0 9 0 0 true (.array .int) := ⟨RX0, TX0, 2, tyX0, rfl, in9X0, tyX0_ok, nmX0, by decide, tw_68, rfl, rfl, rfl⟩
theorem tw_69 : Cond.fieldLink RX4 93 RX0 "bits" "[I" ∈ jW := jW_tab 69 (by decide +kernel) (by decide +kernel)
theorem flX4_93 : jF RX4 93 0 0 true (.array .int) := ⟨RX0, TX0, 2, tyX0, rfl, in9X0, tyX0_ok, nmX0, by decide, tw_69, rfl, rfl, rfl⟩
theorem tw_70 : Cond.fieldLink RX5 121 RX0 "bits" "[I" ∈ jW := jW_tab 70 (by decide +kernel) (by decide +kernel)
theorem flX5_121 : jF RX5 121 0 0 true (.array .int) := ⟨RX0, TX0, 2, tyX0, rfl, in9X0, tyX0_ok, nmX0, by decide, tw_70, rfl, rfl, rfl⟩
theorem tw_71 : Cond.fieldLink RX0 15 RX0 "size" "I" ∈ jW := jW_tab 71 (by decide +kernel) (by decide +kernel)
theorem flX0_15 : jF RX0 15 0 1 false .int := ⟨RX0, TX0, 2, tyX0, rfl, in9X0, tyX0_ok, nmX0, by decide, tw_71, rfl, rfl, rfl⟩
theorem tw_72 : Cond.fieldLink RX4 66 RX0 "size" "I" ∈ jW := jW_tab 72 (by decide +kernel) (by decide +kernel)
theorem flX4_66 : jF RX4 66 0 1 false .int := ⟨RX0, TX0, 2, tyX0, rfl, in9X0, tyX0_ok, nmX0, by decide, tw_72, rfl, rfl, rfl⟩
theorem tw_73 : Cond.fieldLink RX5 113 RX0 "size" "I" ∈ jW := jW_tab 73 (by decide +kernel) (by decide +kernel)
theorem flX5_113 : jF RX5 113 0 1 false .int := ⟨RX0, TX0, 2, tyX0, rfl, in9X0, tyX0_ok, nmX0, by decide, tw_73, rfl, rfl, rfl⟩
theorem tw_85 : Cond.fieldLink RX3 9 RX3 "condition" "I" ∈ jW := jW_tab 85 (by decide +kernel) (by decide +kernel)
theorem flX3_9 : jF RX3 9 3 0 false .int := ⟨RX3, TX3, 6, tyX3, rfl, in9X3, tyX3_ok, nmX3, by decide, tw_85, rfl, rfl, rfl⟩
theorem tw_86 : Cond.fieldLink RX5 146 RX3 "condition" "I" ∈ jW := jW_tab 86 (by decide +kernel) (by decide +kernel)
theorem flX5_146 : jF RX5 146 3 0 false .int := ⟨RX3, TX3, 6, tyX3, rfl, in9X3, tyX3_ok, nmX3, by decide, tw_86, rfl, rfl, rfl⟩
theorem tw_87 : Cond.fieldLink RX3 15 RX3 "missesInRow" "I" ∈ jW := jW_tab 87 (by decide +kernel) (by decide +kernel)
theorem flX3_15 : jF RX3 15 3 1 false .int := ⟨RX3, TX3, 6, tyX3, rfl, in9X3, tyX3_ok, nmX3, by decide, tw_87, rfl, rfl, rfl⟩
theorem tw_88 : Cond.fieldLink RX3 18 RX3 "counts" "[I" ∈ jW := jW_tab 88 (by decide +kernel) (by decide +kernel)
theorem flX3_18 : jF RX3 18 3 2 true (.array .int) := ⟨RX3, TX3, 6, tyX3, rfl, in9X3, tyX3_ok, nmX3, by decide, tw_88, rfl, rfl, rfl⟩
theorem tw_89 : Cond.fieldLink RX4 107 RX3 "counts" "[I" ∈ jW := jW_tab 89 (by decide +kernel) (by decide +kernel)
theorem flX4_107 : jF RX4 107 3 2 true (.array .int) := ⟨RX3, TX3, 6, tyX3, rfl, in9X3, tyX3_ok, nmX3, by decide, tw_89, rfl, rfl, rfl⟩
theorem tw_90 : Cond.fieldLink RX5 138 RX3 "counts" "[I" ∈ jW := jW_tab 90 (by decide +kernel) (by decide +kernel)
theorem flX5_138 : jF RX5 138 3 2 true (.array .int) := ⟨RX3, TX3, 6, tyX3, rfl, in9X3, tyX3_ok, nmX3, by decide, tw_90, rfl, rfl, rfl⟩
theorem tw_91 : Cond.fieldLink RX3 22 RX3 "frame" "[I" ∈ jW := jW_tab 91 (by decide +kernel) (by decide +kernel)
theorem flX3_22 : jF RX3 22 3 3 true (.array .int) := ⟨RX3, TX3, 6, tyX3, rfl, in9X3, tyX3_ok, nmX3, by decide, tw_91, rfl, rfl, rfl⟩
theorem tw_92 : Cond.fieldLink RX4 110 RX3 "frame" "[I" ∈ jW := jW_tab 92 (by decide +kernel) (by decide +kernel)
theorem flX4_110 : jF RX4 110 3 3 true (.array .int) := ⟨RX3, TX3, 6, tyX3, rfl, in9X3, tyX3_ok, nmX3, by decide, tw_92, rfl, rfl, rfl⟩
theorem tw_93 : Cond.fieldLink RX3 25 RX3 "position" "I" ∈ jW := jW_tab 93 (by decide +kernel) (by decide +kernel)
theorem flX3_25 : jF RX3 25 3 4 false .int := ⟨RX3, TX3, 6, tyX3, rfl, in9X3, tyX3_ok, nmX3, by decide, tw_93, rfl, rfl, rfl⟩
theorem tw_94 : Cond.fieldLink RX3 28 RX3 "history" "I" ∈ jW := jW_tab 94 (by decide +kernel) (by decide +kernel)
theorem flX3_28 : jF RX3 28 3 5 false .int := ⟨RX3, TX3, 6, tyX3, rfl, in9X3, tyX3_ok, nmX3, by decide, tw_94, rfl, rfl, rfl⟩
theorem tw_113 : Cond.fieldLink RX2 18 RX2 "rate" "I" ∈ jW := jW_tab 113 (by decide +kernel) (by decide +kernel)
theorem flX2_18 : jF RX2 18 2 0 false .int := ⟨RX2, TX2, 10, tyX2, rfl, in9X2, tyX2_ok, nmX2, by decide, tw_113, rfl, rfl, rfl⟩
theorem tw_114 : Cond.fieldLink RX5 203 RX2 "rate" "I" ∈ jW := jW_tab 114 (by decide +kernel) (by decide +kernel)
theorem flX5_203 : jF RX5 203 2 0 false .int := ⟨RX2, TX2, 10, tyX2, rfl, in9X2, tyX2_ok, nmX2, by decide, tw_114, rfl, rfl, rfl⟩
theorem tw_115 : Cond.fieldLink RX2 22 RX2 "value" "I" ∈ jW := jW_tab 115 (by decide +kernel) (by decide +kernel)
theorem flX2_22 : jF RX2 22 2 1 false .int := ⟨RX2, TX2, 10, tyX2, rfl, in9X2, tyX2_ok, nmX2, by decide, tw_115, rfl, rfl, rfl⟩
theorem tw_116 : Cond.fieldLink RX4 87 RX2 "value" "I" ∈ jW := jW_tab 116 (by decide +kernel) (by decide +kernel)
theorem flX4_87 : jF RX4 87 2 1 false .int := ⟨RX2, TX2, 10, tyX2, rfl, in9X2, tyX2_ok, nmX2, by decide, tw_116, rfl, rfl, rfl⟩
theorem tw_117 : Cond.fieldLink RX5 106 RX2 "value" "I" ∈ jW := jW_tab 117 (by decide +kernel) (by decide +kernel)
theorem flX5_106 : jF RX5 106 2 1 false .int := ⟨RX2, TX2, 10, tyX2, rfl, in9X2, tyX2_ok, nmX2, by decide, tw_117, rfl, rfl, rfl⟩
theorem tw_118 : Cond.fieldLink RX2 25 RX2 "latest" "I" ∈ jW := jW_tab 118 (by decide +kernel) (by decide +kernel)
theorem flX2_25 : jF RX2 25 2 2 false .int := ⟨RX2, TX2, 10, tyX2, rfl, in9X2, tyX2_ok, nmX2, by decide, tw_118, rfl, rfl, rfl⟩
theorem tw_119 : Cond.fieldLink RX5 149 RX2 "latest" "I" ∈ jW := jW_tab 119 (by decide +kernel) (by decide +kernel)
theorem flX5_149 : jF RX5 149 2 2 false .int := ⟨RX2, TX2, 10, tyX2, rfl, in9X2, tyX2_ok, nmX2, by decide, tw_119, rfl, rfl, rfl⟩
theorem tw_120 : Cond.fieldLink RX2 28 RX2 "sampleCount" "I" ∈ jW := jW_tab 120 (by decide +kernel) (by decide +kernel)
theorem flX2_28 : jF RX2 28 2 3 false .int := ⟨RX2, TX2, 10, tyX2, rfl, in9X2, tyX2_ok, nmX2, by decide, tw_120, rfl, rfl, rfl⟩
theorem tw_121 : Cond.fieldLink RX5 152 RX2 "sampleCount" "I" ∈ jW := jW_tab 121 (by decide +kernel) (by decide +kernel)
theorem flX5_152 : jF RX5 152 2 3 false .int := ⟨RX2, TX2, 10, tyX2, rfl, in9X2, tyX2_ok, nmX2, by decide, tw_121, rfl, rfl, rfl⟩
theorem tw_122 : Cond.fieldLink RX2 9 RX2 "lows" "[I" ∈ jW := jW_tab 122 (by decide +kernel) (by decide +kernel)
theorem flX2_9 : jF RX2 9 2 4 true (.array .int) := ⟨RX2, TX2, 10, tyX2, rfl, in9X2, tyX2_ok, nmX2, by decide, tw_122, rfl, rfl, rfl⟩
theorem tw_123 : Cond.fieldLink RX5 158 RX2 "lows" "[I" ∈ jW := jW_tab 123 (by decide +kernel) (by decide +kernel)
theorem flX5_158 : jF RX5 158 2 4 true (.array .int) := ⟨RX2, TX2, 10, tyX2, rfl, in9X2, tyX2_ok, nmX2, by decide, tw_123, rfl, rfl, rfl⟩
theorem tw_124 : Cond.fieldLink RX2 15 RX2 "highs" "[I" ∈ jW := jW_tab 124 (by decide +kernel) (by decide +kernel)
theorem flX2_15 : jF RX2 15 2 5 true (.array .int) := ⟨RX2, TX2, 10, tyX2, rfl, in9X2, tyX2_ok, nmX2, by decide, tw_124, rfl, rfl, rfl⟩
theorem tw_125 : Cond.fieldLink RX5 161 RX2 "highs" "[I" ∈ jW := jW_tab 125 (by decide +kernel) (by decide +kernel)
theorem flX5_161 : jF RX5 161 2 5 true (.array .int) := ⟨RX2, TX2, 10, tyX2, rfl, in9X2, tyX2_ok, nmX2, by decide, tw_125, rfl, rfl, rfl⟩
theorem tw_126 : Cond.fieldLink RX2 37 RX2 "persistence" "I" ∈ jW := jW_tab 126 (by decide +kernel) (by decide +kernel)
theorem flX2_37 : jF RX2 37 2 6 false .int := ⟨RX2, TX2, 10, tyX2, rfl, in9X2, tyX2_ok, nmX2, by decide, tw_126, rfl, rfl, rfl⟩
theorem tw_127 : Cond.fieldLink RX5 164 RX2 "persistence" "I" ∈ jW := jW_tab 127 (by decide +kernel) (by decide +kernel)
theorem flX5_164 : jF RX5 164 2 6 false .int := ⟨RX2, TX2, 10, tyX2, rfl, in9X2, tyX2_ok, nmX2, by decide, tw_127, rfl, rfl, rfl⟩
theorem tw_128 : Cond.fieldLink RX2 40 RX2 "alarmed" "Z" ∈ jW := jW_tab 128 (by decide +kernel) (by decide +kernel)
theorem flX2_40 : jF RX2 40 2 7 false .boolean := ⟨RX2, TX2, 10, tyX2, rfl, in9X2, tyX2_ok, nmX2, by decide, tw_128, rfl, rfl, rfl⟩
theorem tw_129 : Cond.fieldLink RX5 167 RX2 "alarmed" "Z" ∈ jW := jW_tab 129 (by decide +kernel) (by decide +kernel)
theorem flX5_167 : jF RX5 167 2 7 false .boolean := ⟨RX2, TX2, 10, tyX2, rfl, in9X2, tyX2_ok, nmX2, by decide, tw_129, rfl, rfl, rfl⟩
theorem tw_130 : Cond.fieldLink RX2 44 RX2 "outInRow" "I" ∈ jW := jW_tab 130 (by decide +kernel) (by decide +kernel)
theorem flX2_44 : jF RX2 44 2 8 false .int := ⟨RX2, TX2, 10, tyX2, rfl, in9X2, tyX2_ok, nmX2, by decide, tw_130, rfl, rfl, rfl⟩
theorem tw_131 : Cond.fieldLink RX2 47 RX2 "alarmCount" "I" ∈ jW := jW_tab 131 (by decide +kernel) (by decide +kernel)
theorem flX2_47 : jF RX2 47 2 9 false .int := ⟨RX2, TX2, 10, tyX2, rfl, in9X2, tyX2_ok, nmX2, by decide, tw_131, rfl, rfl, rfl⟩
theorem tw_132 : Cond.fieldLink RX5 170 RX2 "alarmCount" "I" ∈ jW := jW_tab 132 (by decide +kernel) (by decide +kernel)
theorem flX5_170 : jF RX5 170 2 9 false .int := ⟨RX2, TX2, 10, tyX2, rfl, in9X2, tyX2_ok, nmX2, by decide, tw_132, rfl, rfl, rfl⟩
theorem tw_154 : Cond.fieldLink RX4 12 RX4 "layout" "LFrameCommutator$Layout;" ∈ jW := jW_tab 154 (by decide +kernel) (by decide +kernel)
theorem flX4_12 : jF RX4 12 4 0 true (.object "FrameCommutator$Layout") := ⟨RX4, TX4, 7, tyX4, rfl, in9X4, tyX4_ok, nmX4, by decide, tw_154, rfl, rfl, rfl⟩
theorem tw_155 : Cond.fieldLink RX5 41 RX4 "layout" "LFrameCommutator$Layout;" ∈ jW := jW_tab 155 (by decide +kernel) (by decide +kernel)
theorem flX5_41 : jF RX5 41 4 0 true (.object "FrameCommutator$Layout") := ⟨RX4, TX4, 7, tyX4, rfl, in9X4, tyX4_ok, nmX4, by decide, tw_155, rfl, rfl, rfl⟩
theorem tw_156 : Cond.fieldLink RX4 20 RX4 "parameters" "[LFrameCommutator$Parameter;" ∈ jW := jW_tab 156 (by decide +kernel) (by decide +kernel)
theorem flX4_20 : jF RX4 20 4 1 true (.array (.object "FrameCommutator$Parameter")) := ⟨RX4, TX4, 7, tyX4, rfl, in9X4, tyX4_ok, nmX4, by decide, tw_156, rfl, rfl, rfl⟩
theorem tw_157 : Cond.fieldLink RX5 59 RX4 "parameters" "[LFrameCommutator$Parameter;" ∈ jW := jW_tab 157 (by decide +kernel) (by decide +kernel)
theorem flX5_59 : jF RX5 59 4 1 true (.array (.object "FrameCommutator$Parameter")) := ⟨RX4, TX4, 7, tyX4, rfl, in9X4, tyX4_ok, nmX4, by decide, tw_157, rfl, rfl, rfl⟩
theorem tw_158 : Cond.fieldLink RX4 24 RX4 "parameterCount" "I" ∈ jW := jW_tab 158 (by decide +kernel) (by decide +kernel)
theorem flX4_24 : jF RX4 24 4 2 false .int := ⟨RX4, TX4, 7, tyX4, rfl, in9X4, tyX4_ok, nmX4, by decide, tw_158, rfl, rfl, rfl⟩
theorem tw_159 : Cond.fieldLink RX5 53 RX4 "parameterCount" "I" ∈ jW := jW_tab 159 (by decide +kernel) (by decide +kernel)
theorem flX5_53 : jF RX5 53 4 2 false .int := ⟨RX4, TX4, 7, tyX4, rfl, in9X4, tyX4_ok, nmX4, by decide, tw_159, rfl, rfl, rfl⟩
theorem tw_160 : Cond.fieldLink RX4 28 RX4 "nextMinor" "I" ∈ jW := jW_tab 160 (by decide +kernel) (by decide +kernel)
theorem flX4_28 : jF RX4 28 4 3 false .int := ⟨RX4, TX4, 7, tyX4, rfl, in9X4, tyX4_ok, nmX4, by decide, tw_160, rfl, rfl, rfl⟩
theorem tw_161 : Cond.fieldLink RX4 34 RX4 "channel" "LFrameCommutator$Channel;" ∈ jW := jW_tab 161 (by decide +kernel) (by decide +kernel)
theorem flX4_34 : jF RX4 34 4 4 true (.object "FrameCommutator$Channel") := ⟨RX4, TX4, 7, tyX4, rfl, in9X4, tyX4_ok, nmX4, by decide, tw_161, rfl, rfl, rfl⟩
theorem tw_162 : Cond.fieldLink RX5 109 RX4 "channel" "LFrameCommutator$Channel;" ∈ jW := jW_tab 162 (by decide +kernel) (by decide +kernel)
theorem flX5_109 : jF RX5 109 4 4 true (.object "FrameCommutator$Channel") := ⟨RX4, TX4, 7, tyX4, rfl, in9X4, tyX4_ok, nmX4, by decide, tw_162, rfl, rfl, rfl⟩
theorem tw_163 : Cond.fieldLink RX4 41 RX4 "receiver" "LFrameCommutator$Receiver;" ∈ jW := jW_tab 163 (by decide +kernel) (by decide +kernel)
theorem flX4_41 : jF RX4 41 4 5 true (.object "FrameCommutator$Receiver") := ⟨RX4, TX4, 7, tyX4, rfl, in9X4, tyX4_ok, nmX4, by decide, tw_163, rfl, rfl, rfl⟩
theorem tw_164 : Cond.fieldLink RX5 134 RX4 "receiver" "LFrameCommutator$Receiver;" ∈ jW := jW_tab 164 (by decide +kernel) (by decide +kernel)
theorem flX5_134 : jF RX5 134 4 5 true (.object "FrameCommutator$Receiver") := ⟨RX4, TX4, 7, tyX4, rfl, in9X4, tyX4_ok, nmX4, by decide, tw_164, rfl, rfl, rfl⟩
theorem tw_165 : Cond.fieldLink RX4 45 RX4 "mode" "I" ∈ jW := jW_tab 165 (by decide +kernel) (by decide +kernel)
theorem flX4_45 : jF RX4 45 4 6 false .int := ⟨RX4, TX4, 7, tyX4, rfl, in9X4, tyX4_ok, nmX4, by decide, tw_165, rfl, rfl, rfl⟩
theorem tw_166 : Cond.fieldLink RX5 155 RX4 "mode" "I" ∈ jW := jW_tab 166 (by decide +kernel) (by decide +kernel)
theorem flX5_155 : jF RX5 155 4 6 false .int := ⟨RX4, TX4, 7, tyX4, rfl, in9X4, tyX4_ok, nmX4, by decide, tw_166, rfl, rfl, rfl⟩
theorem tw_185 : Cond.fieldLink RX5 12 RX5 "now" "LFrameCommutator$State;" ∈ jW := jW_tab 185 (by decide +kernel) (by decide +kernel)
theorem flX5_12 : jF RX5 12 5 0 false (.object "FrameCommutator$State") := ⟨RX5, TX5, 5, tyX5, rfl, in9X5, tyX5_ok, nmX5, by decide, tw_185, rfl, rfl, rfl⟩
theorem tw_186 : Cond.fieldLink RX5 16 RX5 "saved" "[LFrameCommutator$State;" ∈ jW := jW_tab 186 (by decide +kernel) (by decide +kernel)
theorem flX5_16 : jF RX5 16 5 1 true (.array (.object "FrameCommutator$State")) := ⟨RX5, TX5, 5, tyX5, rfl, in9X5, tyX5_ok, nmX5, by decide, tw_186, rfl, rfl, rfl⟩
theorem tw_187 : Cond.fieldLink RX5 20 RX5 "savedCount" "I" ∈ jW := jW_tab 187 (by decide +kernel) (by decide +kernel)
theorem flX5_20 : jF RX5 20 5 2 false .int := ⟨RX5, TX5, 5, tyX5, rfl, in9X5, tyX5_ok, nmX5, by decide, tw_187, rfl, rfl, rfl⟩
theorem tw_188 : Cond.fieldLink RX5 24 RX5 "newest" "I" ∈ jW := jW_tab 188 (by decide +kernel) (by decide +kernel)
theorem flX5_24 : jF RX5 24 5 3 false .int := ⟨RX5, TX5, 5, tyX5, rfl, in9X5, tyX5_ok, nmX5, by decide, tw_188, rfl, rfl, rfl⟩
theorem tw_189 : Cond.fieldLink RX5 30 RX5 "draft" "LFrameCommutator$Layout;" ∈ jW := jW_tab 189 (by decide +kernel) (by decide +kernel)
theorem flX5_30 : jF RX5 30 5 4 true (.object "FrameCommutator$Layout") := ⟨RX5, TX5, 5, tyX5, rfl, in9X5, tyX5_ok, nmX5, by decide, tw_189, rfl, rfl, rfl⟩
theorem tw_694 : Cond.fieldLink RX6 7 RX6 "now" "[I" ∈ jW := jW_tab 694 (by decide +kernel) (by decide +kernel)
theorem flX6_7 : jF RX6 7 6 0 true (.array .int) := ⟨RX6, TX6, 6, tyX6, rfl, in9X6, tyX6_ok, nmX6, by decide, tw_694, rfl, rfl, rfl⟩
theorem tw_695 : Cond.fieldLink RX6 13 RX6 "past" "[I" ∈ jW := jW_tab 695 (by decide +kernel) (by decide +kernel)
theorem flX6_13 : jF RX6 13 6 1 true (.array .int) := ⟨RX6, TX6, 6, tyX6, rfl, in9X6, tyX6_ok, nmX6, by decide, tw_695, rfl, rfl, rfl⟩
theorem tw_696 : Cond.fieldLink RX6 23 RX6 "kept" "I" ∈ jW := jW_tab 696 (by decide +kernel) (by decide +kernel)
theorem flX6_23 : jF RX6 23 6 2 false .int := ⟨RX6, TX6, 6, tyX6, rfl, in9X6, tyX6_ok, nmX6, by decide, tw_696, rfl, rfl, rfl⟩
theorem tw_697 : Cond.fieldLink RX6 19 RX6 "thrown" "I" ∈ jW := jW_tab 697 (by decide +kernel) (by decide +kernel)
theorem flX6_19 : jF RX6 19 6 3 false .int := ⟨RX6, TX6, 6, tyX6, rfl, in9X6, tyX6_ok, nmX6, by decide, tw_697, rfl, rfl, rfl⟩
theorem tw_698 : Cond.fieldLink RX6 16 RX6 "drawn" "[I" ∈ jW := jW_tab 698 (by decide +kernel) (by decide +kernel)
theorem flX6_16 : jF RX6 16 6 4 true (.array .int) := ⟨RX6, TX6, 6, tyX6, rfl, in9X6, tyX6_ok, nmX6, by decide, tw_698, rfl, rfl, rfl⟩
theorem tw_699 : Cond.fieldLink RX6 130 RX6 "hash" "J" ∈ jW := jW_tab 699 (by decide +kernel) (by decide +kernel)
theorem flX6_130 : jF RX6 130 6 5 false .long := ⟨RX6, TX6, 6, tyX6, rfl, in9X6, tyX6_ok, nmX6, by decide, tw_699, rfl, rfl, rfl⟩
theorem tw_20 : Cond.code yX5_init cX5_init 2 none ∈ jW := jW_tab 20 (by decide +kernel) (by decide +kernel)
theorem tw_1 : Cond.initialized RX5 ∈ jW := jW_tab 1 (by decide +kernel) (by decide +kernel)
theorem tw_19 : Cond.instanceMethod yX5_init ∈ jW := jW_tab 19 (by decide +kernel) (by decide +kernel)
theorem tw_18 : Cond.methodLink RL 82 yX5_init ∈ jW := jW_tab 18 (by decide +kernel) (by decide +kernel)
theorem mlL_82 : jI RL 82 yX5_init cX5_init 2 0 := ⟨tw_18, tw_19, tw_1, tw_20, rfl, ⟨by decide, by decide⟩, by decide⟩
theorem tw_21 : Cond.methodLink RX5 3 objectInit ∈ jW := jW_tab 21 (by decide +kernel) (by decide +kernel)
theorem tw_22 : Cond.instanceMethod objectInit ∈ jW := jW_tab 22 (by decide +kernel) (by decide +kernel)
theorem tw_23 : Cond.code objectInit ⟨#[0xb1]⟩ 1 none ∈ jW := jW_tab 23 (by decide +kernel) (by decide +kernel)
theorem tw_28 : Cond.code yX4_init cX4_init 2 none ∈ jW := jW_tab 28 (by decide +kernel) (by decide +kernel)
theorem tw_2 : Cond.initialized RX4 ∈ jW := jW_tab 2 (by decide +kernel) (by decide +kernel)
theorem tw_27 : Cond.instanceMethod yX4_init ∈ jW := jW_tab 27 (by decide +kernel) (by decide +kernel)
theorem tw_26 : Cond.methodLink RX5 11 yX4_init ∈ jW := jW_tab 26 (by decide +kernel) (by decide +kernel)
theorem mlX5_11 : jI RX5 11 yX4_init cX4_init 2 0 := ⟨tw_26, tw_27, tw_2, tw_28, rfl, ⟨by decide, by decide⟩, by decide⟩
theorem tw_29 : Cond.methodLink RX4 3 objectInit ∈ jW := jW_tab 29 (by decide +kernel) (by decide +kernel)
theorem tw_34 : Cond.code yX1_init cX1_init 1 none ∈ jW := jW_tab 34 (by decide +kernel) (by decide +kernel)
theorem tw_3 : Cond.initialized RX1 ∈ jW := jW_tab 3 (by decide +kernel) (by decide +kernel)
theorem tw_33 : Cond.instanceMethod yX1_init ∈ jW := jW_tab 33 (by decide +kernel) (by decide +kernel)
theorem mlX4_11 : jIN RX4 11 yX1_init cX1_init 1 0 := ⟨by decide, tw_33, tw_3, tw_34, rfl, ⟨by decide, by decide⟩, by decide⟩
theorem tw_35 : Cond.methodLink RX1 3 objectInit ∈ jW := jW_tab 35 (by decide +kernel) (by decide +kernel)
theorem tw_66 : Cond.code yX0_init cX0_init 1 none ∈ jW := jW_tab 66 (by decide +kernel) (by decide +kernel)
theorem tw_4 : Cond.initialized RX0 ∈ jW := jW_tab 4 (by decide +kernel) (by decide +kernel)
theorem tw_65 : Cond.instanceMethod yX0_init ∈ jW := jW_tab 65 (by decide +kernel) (by decide +kernel)
theorem mlX4_33 : jIN RX4 33 yX0_init cX0_init 1 0 := ⟨by decide, tw_65, tw_4, tw_66, rfl, ⟨by decide, by decide⟩, by decide⟩
theorem tw_67 : Cond.methodLink RX0 3 objectInit ∈ jW := jW_tab 67 (by decide +kernel) (by decide +kernel)
theorem tw_83 : Cond.code yX3_init cX3_init 1 none ∈ jW := jW_tab 83 (by decide +kernel) (by decide +kernel)
theorem tw_5 : Cond.initialized RX3 ∈ jW := jW_tab 5 (by decide +kernel) (by decide +kernel)
theorem tw_82 : Cond.instanceMethod yX3_init ∈ jW := jW_tab 82 (by decide +kernel) (by decide +kernel)
theorem mlX4_40 : jIN RX4 40 yX3_init cX3_init 1 0 := ⟨by decide, tw_82, tw_5, tw_83, rfl, ⟨by decide, by decide⟩, by decide⟩
theorem tw_84 : Cond.methodLink RX3 3 objectInit ∈ jW := jW_tab 84 (by decide +kernel) (by decide +kernel)
theorem tw_111 : Cond.code yX2_init cX2_init 1 none ∈ jW := jW_tab 111 (by decide +kernel) (by decide +kernel)
theorem tw_6 : Cond.initialized RX2 ∈ jW := jW_tab 6 (by decide +kernel) (by decide +kernel)
theorem tw_110 : Cond.instanceMethod yX2_init ∈ jW := jW_tab 110 (by decide +kernel) (by decide +kernel)
theorem mlX4_48 : jIN RX4 48 yX2_init cX2_init 1 0 := ⟨by decide, tw_110, tw_6, tw_111, rfl, ⟨by decide, by decide⟩, by decide⟩
theorem tw_112 : Cond.methodLink RX2 3 objectInit ∈ jW := jW_tab 112 (by decide +kernel) (by decide +kernel)
theorem mlX5_29 : jIN RX5 29 yX1_init cX1_init 1 0 := ⟨by decide, tw_33, tw_3, tw_34, rfl, ⟨by decide, by decide⟩, by decide⟩
theorem tw_204 : Cond.code yX5_plan cX5_plan 2 (some .int) ∈ jW := jW_tab 204 (by decide +kernel) (by decide +kernel)
theorem tw_202 : Cond.instanceMethod yX5_plan ∈ jW := jW_tab 202 (by decide +kernel) (by decide +kernel)
theorem tw_203 : Cond.selects RX5 yX5_plan yX5_plan ∈ jW := jW_tab 203 (by decide +kernel) (by decide +kernel)
theorem tw_201 : Cond.methodLink RL 99 yX5_plan ∈ jW := jW_tab 201 (by decide +kernel) (by decide +kernel)
theorem mlL_99 : jV RL 99 5 yX5_plan cX5_plan 2 (some .int) 0 := ⟨tw_201, tw_202, tw_203, tw_1, tw_204, ⟨TX5, 5, rfl⟩, ⟨by decide, by decide⟩, by decide⟩
theorem tw_208 : Cond.code yX1_copyFrom cX1_copyFrom 2 none ∈ jW := jW_tab 208 (by decide +kernel) (by decide +kernel)
theorem tw_206 : Cond.instanceMethod yX1_copyFrom ∈ jW := jW_tab 206 (by decide +kernel) (by decide +kernel)
theorem tw_207 : Cond.selects RX1 yX1_copyFrom yX1_copyFrom ∈ jW := jW_tab 207 (by decide +kernel) (by decide +kernel)
theorem tw_205 : Cond.methodLink RX5 69 yX1_copyFrom ∈ jW := jW_tab 205 (by decide +kernel) (by decide +kernel)
theorem mlX5_69 : jV RX5 69 1 yX1_copyFrom cX1_copyFrom 2 none 1 := ⟨tw_205, tw_206, tw_207, tw_3, tw_208, ⟨TX1, 5, rfl⟩, ⟨by decide, by decide⟩, by decide⟩
theorem tw_209 : Cond.methodLink RX1 29 arraycopyName ∈ jW := jW_tab 209 (by decide +kernel) (by decide +kernel)
theorem tw_211 : Cond.native arraycopyName ∈ jW := jW_tab 211 (by decide +kernel) (by decide +kernel)
theorem tw_210 : Cond.static arraycopyName ∈ jW := jW_tab 210 (by decide +kernel) (by decide +kernel)
theorem tw_12 : Cond.initialized "java/lang/System" ∈ jW := jW_tab 12 (by decide +kernel) (by decide +kernel)
theorem tw_215 : Cond.code yX1_freeAll cX1_freeAll 1 none ∈ jW := jW_tab 215 (by decide +kernel) (by decide +kernel)
theorem tw_213 : Cond.instanceMethod yX1_freeAll ∈ jW := jW_tab 213 (by decide +kernel) (by decide +kernel)
theorem tw_214 : Cond.selects RX1 yX1_freeAll yX1_freeAll ∈ jW := jW_tab 214 (by decide +kernel) (by decide +kernel)
theorem tw_212 : Cond.methodLink RX5 73 yX1_freeAll ∈ jW := jW_tab 212 (by decide +kernel) (by decide +kernel)
theorem mlX5_73 : jV RX5 73 1 yX1_freeAll cX1_freeAll 1 none 0 := ⟨tw_212, tw_213, tw_214, tw_3, tw_215, ⟨TX1, 5, rfl⟩, ⟨by decide, by decide⟩, by decide⟩
theorem tw_218 : Cond.code yJ7_fill_53178 cJ7_fill_53178 4 none ∈ jW := jW_tab 218 (by decide +kernel) (by decide +kernel)
theorem tw_14 : Cond.initialized "java/util/Arrays" ∈ jW := jW_tab 14 (by decide +kernel) (by decide +kernel)
theorem tw_217 : Cond.static yJ7_fill_53178 ∈ jW := jW_tab 217 (by decide +kernel) (by decide +kernel)
theorem tw_216 : Cond.methodLink RX1 35 yJ7_fill_53178 ∈ jW := jW_tab 216 (by decide +kernel) (by decide +kernel)
theorem mlX1_35 : jS RX1 35 yJ7_fill_53178 cJ7_fill_53178 4 none 2 := ⟨tw_216, tw_217, tw_14, tw_218, ⟨by decide, by decide⟩, by decide⟩
theorem tw_222 : Cond.code yX5_placeAll cX5_placeAll 4 (some .int) ∈ jW := jW_tab 222 (by decide +kernel) (by decide +kernel)
theorem tw_221 : Cond.instanceMethod yX5_placeAll ∈ jW := jW_tab 221 (by decide +kernel) (by decide +kernel)
theorem tp_0 : Cond.selects RX5 yX5_placeAll yX5_placeAll ∈ jW := jW_sel 0 (by decide +kernel) rfl
theorem tw_219 : Cond.methodLink RX5 76 yX5_placeAll ∈ jW := jW_tab 219 (by decide +kernel) (by decide +kernel)
theorem mlX5_76 : jV RX5 76 5 yX5_placeAll cX5_placeAll 4 (some .int) 0 := ⟨tw_219, tw_221, tp_0, tw_1, tw_222, ⟨TX5, 5, rfl⟩, ⟨by decide, by decide⟩, by decide⟩
theorem tw_226 : Cond.code yX2_samplesIn cX2_samplesIn 2 (some .int) ∈ jW := jW_tab 226 (by decide +kernel) (by decide +kernel)
theorem tw_224 : Cond.instanceMethod yX2_samplesIn ∈ jW := jW_tab 224 (by decide +kernel) (by decide +kernel)
theorem tw_225 : Cond.selects RX2 yX2_samplesIn yX2_samplesIn ∈ jW := jW_tab 225 (by decide +kernel) (by decide +kernel)
theorem tw_223 : Cond.methodLink RX5 91 yX2_samplesIn ∈ jW := jW_tab 223 (by decide +kernel) (by decide +kernel)
theorem mlX5_91 : jV RX5 91 2 yX2_samplesIn cX2_samplesIn 2 (some .int) 1 := ⟨tw_223, tw_224, tw_225, tw_6, tw_226, ⟨TX2, 10, rfl⟩, ⟨by decide, by decide⟩, by decide⟩
theorem tw_230 : Cond.code yX1_place cX1_place 3 (some .boolean) ∈ jW := jW_tab 230 (by decide +kernel) (by decide +kernel)
theorem tw_228 : Cond.instanceMethod yX1_place ∈ jW := jW_tab 228 (by decide +kernel) (by decide +kernel)
theorem tw_229 : Cond.selects RX1 yX1_place yX1_place ∈ jW := jW_tab 229 (by decide +kernel) (by decide +kernel)
theorem tw_227 : Cond.methodLink RX5 206 yX1_place ∈ jW := jW_tab 227 (by decide +kernel) (by decide +kernel)
theorem mlX5_206 : jV RX5 206 1 yX1_place cX1_place 3 (some .boolean) 2 := ⟨tw_227, tw_228, tw_229, tw_3, tw_230, ⟨TX1, 5, rfl⟩, ⟨by decide, by decide⟩, by decide⟩
theorem tw_234 : Cond.code yX1_placeOften cX1_placeOften 6 (some .boolean) ∈ jW := jW_tab 234 (by decide +kernel) (by decide +kernel)
theorem tw_233 : Cond.instanceMethod yX1_placeOften ∈ jW := jW_tab 233 (by decide +kernel) (by decide +kernel)
theorem tp_1 : Cond.selects RX1 yX1_placeOften yX1_placeOften ∈ jW := jW_sel 1 (by decide +kernel) rfl
theorem tw_231 : Cond.methodLink RX1 41 yX1_placeOften ∈ jW := jW_tab 231 (by decide +kernel) (by decide +kernel)
theorem mlX1_41 : jV RX1 41 1 yX1_placeOften cX1_placeOften 6 (some .boolean) 2 := ⟨tw_231, tw_233, tp_1, tw_3, tw_234, ⟨TX1, 5, rfl⟩, ⟨by decide, by decide⟩, by decide⟩
theorem tw_238 : Cond.code yX1_columns cX1_columns 1 (some .int) ∈ jW := jW_tab 238 (by decide +kernel) (by decide +kernel)
theorem tw_236 : Cond.instanceMethod yX1_columns ∈ jW := jW_tab 236 (by decide +kernel) (by decide +kernel)
theorem tw_237 : Cond.selects RX1 yX1_columns yX1_columns ∈ jW := jW_tab 237 (by decide +kernel) (by decide +kernel)
theorem tw_235 : Cond.methodLink RX1 48 yX1_columns ∈ jW := jW_tab 235 (by decide +kernel) (by decide +kernel)
theorem mlX1_48 : jV RX1 48 1 yX1_columns cX1_columns 1 (some .int) 0 := ⟨tw_235, tw_236, tw_237, tw_3, tw_238, ⟨TX1, 5, rfl⟩, ⟨by decide, by decide⟩, by decide⟩
theorem tw_242 : Cond.code yX1_areFree cX1_areFree 5 (some .boolean) ∈ jW := jW_tab 242 (by decide +kernel) (by decide +kernel)
theorem tw_241 : Cond.instanceMethod yX1_areFree ∈ jW := jW_tab 241 (by decide +kernel) (by decide +kernel)
theorem tp_2 : Cond.selects RX1 yX1_areFree yX1_areFree ∈ jW := jW_sel 2 (by decide +kernel) rfl
theorem tw_239 : Cond.methodLink RX1 52 yX1_areFree ∈ jW := jW_tab 239 (by decide +kernel) (by decide +kernel)
theorem mlX1_52 : jV RX1 52 1 yX1_areFree cX1_areFree 5 (some .boolean) 3 := ⟨tw_239, tw_241, tp_2, tw_3, tw_242, ⟨TX1, 5, rfl⟩, ⟨by decide, by decide⟩, by decide⟩
theorem tw_246 : Cond.code yX1_isFree cX1_isFree 6 (some .boolean) ∈ jW := jW_tab 246 (by decide +kernel) (by decide +kernel)
theorem tw_245 : Cond.instanceMethod yX1_isFree ∈ jW := jW_tab 245 (by decide +kernel) (by decide +kernel)
theorem tp_3 : Cond.selects RX1 yX1_isFree yX1_isFree ∈ jW := jW_sel 3 (by decide +kernel) rfl
theorem tw_243 : Cond.methodLink RX1 60 yX1_isFree ∈ jW := jW_tab 243 (by decide +kernel) (by decide +kernel)
theorem mlX1_60 : jV RX1 60 1 yX1_isFree cX1_isFree 6 (some .boolean) 3 := ⟨tw_243, tw_245, tp_3, tw_3, tw_246, ⟨TX1, 5, rfl⟩, ⟨by decide, by decide⟩, by decide⟩
theorem tw_250 : Cond.code yX1_minorsOf cX1_minorsOf 2 (some .int) ∈ jW := jW_tab 250 (by decide +kernel) (by decide +kernel)
theorem tw_249 : Cond.instanceMethod yX1_minorsOf ∈ jW := jW_tab 249 (by decide +kernel) (by decide +kernel)
theorem tp_4 : Cond.selects RX1 yX1_minorsOf yX1_minorsOf ∈ jW := jW_sel 4 (by decide +kernel) rfl
theorem tw_247 : Cond.methodLink RX1 63 yX1_minorsOf ∈ jW := jW_tab 247 (by decide +kernel) (by decide +kernel)
theorem mlX1_63 : jV RX1 63 1 yX1_minorsOf cX1_minorsOf 2 (some .int) 1 := ⟨tw_247, tw_249, tp_4, tw_3, tw_250, ⟨TX1, 5, rfl⟩, ⟨by decide, by decide⟩, by decide⟩
theorem tw_254 : Cond.code yX1_ownerAt cX1_ownerAt 4 (some .int) ∈ jW := jW_tab 254 (by decide +kernel) (by decide +kernel)
theorem tw_252 : Cond.instanceMethod yX1_ownerAt ∈ jW := jW_tab 252 (by decide +kernel) (by decide +kernel)
theorem tw_253 : Cond.selects RX1 yX1_ownerAt yX1_ownerAt ∈ jW := jW_tab 253 (by decide +kernel) (by decide +kernel)
theorem tw_251 : Cond.methodLink RX1 67 yX1_ownerAt ∈ jW := jW_tab 251 (by decide +kernel) (by decide +kernel)
theorem mlX1_67 : jV RX1 67 1 yX1_ownerAt cX1_ownerAt 4 (some .int) 2 := ⟨tw_251, tw_252, tw_253, tw_3, tw_254, ⟨TX1, 5, rfl⟩, ⟨by decide, by decide⟩, by decide⟩
theorem tw_258 : Cond.code yX1_giveColumn cX1_giveColumn 7 none ∈ jW := jW_tab 258 (by decide +kernel) (by decide +kernel)
theorem tw_257 : Cond.instanceMethod yX1_giveColumn ∈ jW := jW_tab 257 (by decide +kernel) (by decide +kernel)
theorem tp_5 : Cond.selects RX1 yX1_giveColumn yX1_giveColumn ∈ jW := jW_sel 5 (by decide +kernel) rfl
theorem tw_255 : Cond.methodLink RX1 56 yX1_giveColumn ∈ jW := jW_tab 255 (by decide +kernel) (by decide +kernel)
theorem mlX1_56 : jV RX1 56 1 yX1_giveColumn cX1_giveColumn 7 none 4 := ⟨tw_255, tw_257, tp_5, tw_3, tw_258, ⟨TX1, 5, rfl⟩, ⟨by decide, by decide⟩, by decide⟩
theorem tw_262 : Cond.code yX1_giveWord cX1_giveWord 5 none ∈ jW := jW_tab 262 (by decide +kernel) (by decide +kernel)
theorem tw_260 : Cond.instanceMethod yX1_giveWord ∈ jW := jW_tab 260 (by decide +kernel) (by decide +kernel)
theorem tw_261 : Cond.selects RX1 yX1_giveWord yX1_giveWord ∈ jW := jW_tab 261 (by decide +kernel) (by decide +kernel)
theorem tw_259 : Cond.methodLink RX1 71 yX1_giveWord ∈ jW := jW_tab 259 (by decide +kernel) (by decide +kernel)
theorem mlX1_71 : jV RX1 71 1 yX1_giveWord cX1_giveWord 5 none 3 := ⟨tw_259, tw_260, tw_261, tw_3, tw_262, ⟨TX1, 5, rfl⟩, ⟨by decide, by decide⟩, by decide⟩
theorem tw_266 : Cond.code yX1_placeSeldom cX1_placeSeldom 5 (some .boolean) ∈ jW := jW_tab 266 (by decide +kernel) (by decide +kernel)
theorem tw_265 : Cond.instanceMethod yX1_placeSeldom ∈ jW := jW_tab 265 (by decide +kernel) (by decide +kernel)
theorem tp_6 : Cond.selects RX1 yX1_placeSeldom yX1_placeSeldom ∈ jW := jW_sel 6 (by decide +kernel) rfl
theorem tw_263 : Cond.methodLink RX1 45 yX1_placeSeldom ∈ jW := jW_tab 263 (by decide +kernel) (by decide +kernel)
theorem mlX1_45 : jV RX1 45 1 yX1_placeSeldom cX1_placeSeldom 5 (some .boolean) 2 := ⟨tw_263, tw_265, tp_6, tw_3, tw_266, ⟨TX1, 5, rfl⟩, ⟨by decide, by decide⟩, by decide⟩
theorem tw_270 : Cond.code yX5_save cX5_save 1 none ∈ jW := jW_tab 270 (by decide +kernel) (by decide +kernel)
theorem tw_269 : Cond.instanceMethod yX5_save ∈ jW := jW_tab 269 (by decide +kernel) (by decide +kernel)
theorem tp_7 : Cond.selects RX5 yX5_save yX5_save ∈ jW := jW_sel 7 (by decide +kernel) rfl
theorem tw_267 : Cond.methodLink RX5 38 yX5_save ∈ jW := jW_tab 267 (by decide +kernel) (by decide +kernel)
theorem mlX5_38 : jV RX5 38 5 yX5_save cX5_save 1 none 0 := ⟨tw_267, tw_269, tp_7, tw_1, tw_270, ⟨TX5, 5, rfl⟩, ⟨by decide, by decide⟩, by decide⟩
theorem tw_274 : Cond.code yX4_copyFrom cX4_copyFrom 3 none ∈ jW := jW_tab 274 (by decide +kernel) (by decide +kernel)
theorem tw_272 : Cond.instanceMethod yX4_copyFrom ∈ jW := jW_tab 272 (by decide +kernel) (by decide +kernel)
theorem tw_273 : Cond.selects RX4 yX4_copyFrom yX4_copyFrom ∈ jW := jW_tab 273 (by decide +kernel) (by decide +kernel)
theorem tw_271 : Cond.methodLink RX5 200 yX4_copyFrom ∈ jW := jW_tab 271 (by decide +kernel) (by decide +kernel)
theorem mlX5_200 : jV RX5 200 4 yX4_copyFrom cX4_copyFrom 3 none 1 := ⟨tw_271, tw_272, tw_273, tw_2, tw_274, ⟨TX4, 7, rfl⟩, ⟨by decide, by decide⟩, by decide⟩
theorem tw_275 : Cond.methodLink RX4 49 yX1_copyFrom ∈ jW := jW_tab 275 (by decide +kernel) (by decide +kernel)
theorem mlX4_49 : jV RX4 49 1 yX1_copyFrom cX1_copyFrom 2 none 1 := ⟨tw_275, tw_206, tw_207, tw_3, tw_208, ⟨TX1, 5, rfl⟩, ⟨by decide, by decide⟩, by decide⟩
theorem tw_279 : Cond.code yX2_copyFrom cX2_copyFrom 2 none ∈ jW := jW_tab 279 (by decide +kernel) (by decide +kernel)
theorem tw_277 : Cond.instanceMethod yX2_copyFrom ∈ jW := jW_tab 277 (by decide +kernel) (by decide +kernel)
theorem tw_278 : Cond.selects RX2 yX2_copyFrom yX2_copyFrom ∈ jW := jW_tab 278 (by decide +kernel) (by decide +kernel)
theorem tw_276 : Cond.methodLink RX4 53 yX2_copyFrom ∈ jW := jW_tab 276 (by decide +kernel) (by decide +kernel)
theorem mlX4_53 : jV RX4 53 2 yX2_copyFrom cX2_copyFrom 2 none 1 := ⟨tw_276, tw_277, tw_278, tw_6, tw_279, ⟨TX2, 10, rfl⟩, ⟨by decide, by decide⟩, by decide⟩
theorem tw_280 : Cond.methodLink RX2 50 arraycopyName ∈ jW := jW_tab 280 (by decide +kernel) (by decide +kernel)
theorem tw_284 : Cond.code yX0_copyFrom cX0_copyFrom 2 none ∈ jW := jW_tab 284 (by decide +kernel) (by decide +kernel)
theorem tw_282 : Cond.instanceMethod yX0_copyFrom ∈ jW := jW_tab 282 (by decide +kernel) (by decide +kernel)
theorem tw_283 : Cond.selects RX0 yX0_copyFrom yX0_copyFrom ∈ jW := jW_tab 283 (by decide +kernel) (by decide +kernel)
theorem tw_281 : Cond.methodLink RX4 56 yX0_copyFrom ∈ jW := jW_tab 281 (by decide +kernel) (by decide +kernel)
theorem mlX4_56 : jV RX4 56 0 yX0_copyFrom cX0_copyFrom 2 none 1 := ⟨tw_281, tw_282, tw_283, tw_4, tw_284, ⟨TX0, 2, rfl⟩, ⟨by decide, by decide⟩, by decide⟩
theorem tw_285 : Cond.methodLink RX0 19 arraycopyName ∈ jW := jW_tab 285 (by decide +kernel) (by decide +kernel)
theorem tw_289 : Cond.code yX3_copyFrom cX3_copyFrom 2 none ∈ jW := jW_tab 289 (by decide +kernel) (by decide +kernel)
theorem tw_287 : Cond.instanceMethod yX3_copyFrom ∈ jW := jW_tab 287 (by decide +kernel) (by decide +kernel)
theorem tw_288 : Cond.selects RX3 yX3_copyFrom yX3_copyFrom ∈ jW := jW_tab 288 (by decide +kernel) (by decide +kernel)
theorem tw_286 : Cond.methodLink RX4 59 yX3_copyFrom ∈ jW := jW_tab 286 (by decide +kernel) (by decide +kernel)
theorem mlX4_59 : jV RX4 59 3 yX3_copyFrom cX3_copyFrom 2 none 1 := ⟨tw_286, tw_287, tw_288, tw_5, tw_289, ⟨TX3, 6, rfl⟩, ⟨by decide, by decide⟩, by decide⟩
theorem tw_290 : Cond.methodLink RX3 31 arraycopyName ∈ jW := jW_tab 290 (by decide +kernel) (by decide +kernel)
theorem tw_294 : Cond.code yX5_pending cX5_pending 1 (some .int) ∈ jW := jW_tab 294 (by decide +kernel) (by decide +kernel)
theorem tw_292 : Cond.instanceMethod yX5_pending ∈ jW := jW_tab 292 (by decide +kernel) (by decide +kernel)
theorem tw_293 : Cond.selects RX5 yX5_pending yX5_pending ∈ jW := jW_tab 293 (by decide +kernel) (by decide +kernel)
theorem tw_291 : Cond.methodLink RL 123 yX5_pending ∈ jW := jW_tab 291 (by decide +kernel) (by decide +kernel)
theorem mlL_123 : jV RL 123 5 yX5_pending cX5_pending 1 (some .int) 0 := ⟨tw_291, tw_292, tw_293, tw_1, tw_294, ⟨TX5, 5, rfl⟩, ⟨by decide, by decide⟩, by decide⟩
theorem tw_298 : Cond.code yX5_receiverState cX5_receiverState 1 (some .int) ∈ jW := jW_tab 298 (by decide +kernel) (by decide +kernel)
theorem tw_296 : Cond.instanceMethod yX5_receiverState ∈ jW := jW_tab 296 (by decide +kernel) (by decide +kernel)
theorem tw_297 : Cond.selects RX5 yX5_receiverState yX5_receiverState ∈ jW := jW_tab 297 (by decide +kernel) (by decide +kernel)
theorem tw_295 : Cond.methodLink RL 136 yX5_receiverState ∈ jW := jW_tab 295 (by decide +kernel) (by decide +kernel)
theorem mlL_136 : jV RL 136 5 yX5_receiverState cX5_receiverState 1 (some .int) 0 := ⟨tw_295, tw_296, tw_297, tw_1, tw_298, ⟨TX5, 5, rfl⟩, ⟨by decide, by decide⟩, by decide⟩
theorem tw_302 : Cond.code yX5_digest cX5_digest 1 (some .long) ∈ jW := jW_tab 302 (by decide +kernel) (by decide +kernel)
theorem tw_300 : Cond.instanceMethod yX5_digest ∈ jW := jW_tab 300 (by decide +kernel) (by decide +kernel)
theorem tw_301 : Cond.selects RX5 yX5_digest yX5_digest ∈ jW := jW_tab 301 (by decide +kernel) (by decide +kernel)
theorem tw_299 : Cond.methodLink RL 169 yX5_digest ∈ jW := jW_tab 299 (by decide +kernel) (by decide +kernel)
theorem mlL_169 : jV RL 169 5 yX5_digest cX5_digest 1 (some .long) 0 := ⟨tw_299, tw_300, tw_301, tw_1, tw_302, ⟨TX5, 5, rfl⟩, ⟨by decide, by decide⟩, by decide⟩
theorem tw_307 : Cond.code yX4_mixInto cX4_mixInto 6 (some .long) ∈ jW := jW_tab 307 (by decide +kernel) (by decide +kernel)
theorem tw_305 : Cond.instanceMethod yX4_mixInto ∈ jW := jW_tab 305 (by decide +kernel) (by decide +kernel)
theorem tw_306 : Cond.selects RX4 yX4_mixInto yX4_mixInto ∈ jW := jW_tab 306 (by decide +kernel) (by decide +kernel)
theorem tw_304 : Cond.methodLink RX5 175 yX4_mixInto ∈ jW := jW_tab 304 (by decide +kernel) (by decide +kernel)
theorem mlX5_175 : jV RX5 175 4 yX4_mixInto cX4_mixInto 6 (some .long) 1 := ⟨tw_304, tw_305, tw_306, tw_2, tw_307, ⟨TX4, 7, rfl⟩, ⟨by decide, by decide⟩, by decide⟩
theorem tw_310 : Cond.code yX5_mix cX5_mix 4 (some .long) ∈ jW := jW_tab 310 (by decide +kernel) (by decide +kernel)
theorem tw_309 : Cond.static yX5_mix ∈ jW := jW_tab 309 (by decide +kernel) (by decide +kernel)
theorem mlX4_117 : jSN RX4 117 yX5_mix cX5_mix 4 (some .long) 2 := ⟨by decide, tw_309, tw_1, tw_310, ⟨by decide, by decide⟩, by decide⟩
theorem tw_315 : Cond.code yX2_mixInto cX2_mixInto 6 (some .long) ∈ jW := jW_tab 315 (by decide +kernel) (by decide +kernel)
theorem tw_313 : Cond.instanceMethod yX2_mixInto ∈ jW := jW_tab 313 (by decide +kernel) (by decide +kernel)
theorem tw_314 : Cond.selects RX2 yX2_mixInto yX2_mixInto ∈ jW := jW_tab 314 (by decide +kernel) (by decide +kernel)
theorem tw_312 : Cond.methodLink RX4 121 yX2_mixInto ∈ jW := jW_tab 312 (by decide +kernel) (by decide +kernel)
theorem mlX4_121 : jV RX4 121 2 yX2_mixInto cX2_mixInto 6 (some .long) 1 := ⟨tw_312, tw_313, tw_314, tw_6, tw_315, ⟨TX2, 10, rfl⟩, ⟨by decide, by decide⟩, by decide⟩
theorem mlX2_60 : jSN RX2 60 yX5_mix cX5_mix 4 (some .long) 2 := ⟨by decide, tw_309, tw_1, tw_310, ⟨by decide, by decide⟩, by decide⟩
theorem tw_320 : Cond.code yX1_mixInto cX1_mixInto 7 (some .long) ∈ jW := jW_tab 320 (by decide +kernel) (by decide +kernel)
theorem tw_318 : Cond.instanceMethod yX1_mixInto ∈ jW := jW_tab 318 (by decide +kernel) (by decide +kernel)
theorem tw_319 : Cond.selects RX1 yX1_mixInto yX1_mixInto ∈ jW := jW_tab 319 (by decide +kernel) (by decide +kernel)
theorem tw_317 : Cond.methodLink RX4 125 yX1_mixInto ∈ jW := jW_tab 317 (by decide +kernel) (by decide +kernel)
theorem mlX4_125 : jV RX4 125 1 yX1_mixInto cX1_mixInto 7 (some .long) 1 := ⟨tw_317, tw_318, tw_319, tw_3, tw_320, ⟨TX1, 5, rfl⟩, ⟨by decide, by decide⟩, by decide⟩
theorem mlX1_75 : jSN RX1 75 yX5_mix cX5_mix 4 (some .long) 2 := ⟨by decide, tw_309, tw_1, tw_310, ⟨by decide, by decide⟩, by decide⟩
theorem tw_325 : Cond.code yX0_mixInto cX0_mixInto 6 (some .long) ∈ jW := jW_tab 325 (by decide +kernel) (by decide +kernel)
theorem tw_323 : Cond.instanceMethod yX0_mixInto ∈ jW := jW_tab 323 (by decide +kernel) (by decide +kernel)
theorem tw_324 : Cond.selects RX0 yX0_mixInto yX0_mixInto ∈ jW := jW_tab 324 (by decide +kernel) (by decide +kernel)
theorem tw_322 : Cond.methodLink RX4 126 yX0_mixInto ∈ jW := jW_tab 322 (by decide +kernel) (by decide +kernel)
theorem mlX4_126 : jV RX4 126 0 yX0_mixInto cX0_mixInto 6 (some .long) 1 := ⟨tw_322, tw_323, tw_324, tw_4, tw_325, ⟨TX0, 2, rfl⟩, ⟨by decide, by decide⟩, by decide⟩
theorem mlX0_25 : jSN RX0 25 yX5_mix cX5_mix 4 (some .long) 2 := ⟨by decide, tw_309, tw_1, tw_310, ⟨by decide, by decide⟩, by decide⟩
theorem tw_331 : Cond.code yX3_mixInto cX3_mixInto 6 (some .long) ∈ jW := jW_tab 331 (by decide +kernel) (by decide +kernel)
theorem tw_329 : Cond.instanceMethod yX3_mixInto ∈ jW := jW_tab 329 (by decide +kernel) (by decide +kernel)
theorem tw_330 : Cond.selects RX3 yX3_mixInto yX3_mixInto ∈ jW := jW_tab 330 (by decide +kernel) (by decide +kernel)
theorem tw_328 : Cond.methodLink RX4 127 yX3_mixInto ∈ jW := jW_tab 328 (by decide +kernel) (by decide +kernel)
theorem mlX4_127 : jV RX4 127 3 yX3_mixInto cX3_mixInto 6 (some .long) 1 := ⟨tw_328, tw_329, tw_330, tw_5, tw_331, ⟨TX3, 6, rfl⟩, ⟨by decide, by decide⟩, by decide⟩
theorem mlX3_65 : jSN RX3 65 yX5_mix cX5_mix 4 (some .long) 2 := ⟨by decide, tw_309, tw_1, tw_310, ⟨by decide, by decide⟩, by decide⟩
theorem tw_333 : Cond.methodLink RX5 179 yX5_mix ∈ jW := jW_tab 333 (by decide +kernel) (by decide +kernel)
theorem mlX5_179 : jS RX5 179 yX5_mix cX5_mix 4 (some .long) 2 := ⟨tw_333, tw_309, tw_1, tw_310, ⟨by decide, by decide⟩, by decide⟩
theorem tw_341 : Cond.code yX5_setFrame cX5_setFrame 3 (some .int) ∈ jW := jW_tab 341 (by decide +kernel) (by decide +kernel)
theorem tw_339 : Cond.instanceMethod yX5_setFrame ∈ jW := jW_tab 339 (by decide +kernel) (by decide +kernel)
theorem tw_340 : Cond.selects RX5 yX5_setFrame yX5_setFrame ∈ jW := jW_tab 340 (by decide +kernel) (by decide +kernel)
theorem tw_338 : Cond.methodLink RL 7 yX5_setFrame ∈ jW := jW_tab 338 (by decide +kernel) (by decide +kernel)
theorem mlL_7 : jV RL 7 5 yX5_setFrame cX5_setFrame 3 (some .int) 2 := ⟨tw_338, tw_339, tw_340, tw_1, tw_341, ⟨TX5, 5, rfl⟩, ⟨by decide, by decide⟩, by decide⟩
theorem tw_344 : Cond.code yX5_requireArgument cX5_requireArgument 1 none ∈ jW := jW_tab 344 (by decide +kernel) (by decide +kernel)
theorem tw_343 : Cond.static yX5_requireArgument ∈ jW := jW_tab 343 (by decide +kernel) (by decide +kernel)
theorem tw_342 : Cond.methodLink RX5 34 yX5_requireArgument ∈ jW := jW_tab 342 (by decide +kernel) (by decide +kernel)
theorem mlX5_34 : jS RX5 34 yX5_requireArgument cX5_requireArgument 1 none 1 := ⟨tw_342, tw_343, tw_1, tw_344, ⟨by decide, by decide⟩, by decide⟩
theorem tw_416 : Cond.code yX4_restartLink cX4_restartLink 1 none ∈ jW := jW_tab 416 (by decide +kernel) (by decide +kernel)
theorem tw_414 : Cond.instanceMethod yX4_restartLink ∈ jW := jW_tab 414 (by decide +kernel) (by decide +kernel)
theorem tw_415 : Cond.selects RX4 yX4_restartLink yX4_restartLink ∈ jW := jW_tab 415 (by decide +kernel) (by decide +kernel)
theorem tw_413 : Cond.methodLink RX5 50 yX4_restartLink ∈ jW := jW_tab 413 (by decide +kernel) (by decide +kernel)
theorem mlX5_50 : jV RX5 50 4 yX4_restartLink cX4_restartLink 1 none 0 := ⟨tw_413, tw_414, tw_415, tw_2, tw_416, ⟨TX4, 7, rfl⟩, ⟨by decide, by decide⟩, by decide⟩
theorem tw_420 : Cond.code yX3_restart cX3_restart 1 none ∈ jW := jW_tab 420 (by decide +kernel) (by decide +kernel)
theorem tw_418 : Cond.instanceMethod yX3_restart ∈ jW := jW_tab 418 (by decide +kernel) (by decide +kernel)
theorem tw_419 : Cond.selects RX3 yX3_restart yX3_restart ∈ jW := jW_tab 419 (by decide +kernel) (by decide +kernel)
theorem tw_417 : Cond.methodLink RX4 69 yX3_restart ∈ jW := jW_tab 417 (by decide +kernel) (by decide +kernel)
theorem mlX4_69 : jV RX4 69 3 yX3_restart cX3_restart 1 none 0 := ⟨tw_417, tw_418, tw_419, tw_5, tw_420, ⟨TX3, 6, rfl⟩, ⟨by decide, by decide⟩, by decide⟩
theorem tw_428 : Cond.code yX5_addParameter cX5_addParameter 5 (some .int) ∈ jW := jW_tab 428 (by decide +kernel) (by decide +kernel)
theorem tw_426 : Cond.instanceMethod yX5_addParameter ∈ jW := jW_tab 426 (by decide +kernel) (by decide +kernel)
theorem tw_427 : Cond.selects RX5 yX5_addParameter yX5_addParameter ∈ jW := jW_tab 427 (by decide +kernel) (by decide +kernel)
theorem tw_425 : Cond.methodLink RL 15 yX5_addParameter ∈ jW := jW_tab 425 (by decide +kernel) (by decide +kernel)
theorem mlL_15 : jV RL 15 5 yX5_addParameter cX5_addParameter 5 (some .int) 1 := ⟨tw_425, tw_426, tw_427, tw_1, tw_428, ⟨TX5, 5, rfl⟩, ⟨by decide, by decide⟩, by decide⟩
theorem tw_431 : Cond.code yX5_requireState cX5_requireState 1 none ∈ jW := jW_tab 431 (by decide +kernel) (by decide +kernel)
theorem tw_430 : Cond.static yX5_requireState ∈ jW := jW_tab 430 (by decide +kernel) (by decide +kernel)
theorem tw_429 : Cond.methodLink RX5 56 yX5_requireState ∈ jW := jW_tab 429 (by decide +kernel) (by decide +kernel)
theorem mlX5_56 : jS RX5 56 yX5_requireState cX5_requireState 1 none 1 := ⟨tw_429, tw_430, tw_1, tw_431, ⟨by decide, by decide⟩, by decide⟩
theorem tw_451 : Cond.code yX2_begin cX2_begin 2 none ∈ jW := jW_tab 451 (by decide +kernel) (by decide +kernel)
theorem tw_449 : Cond.instanceMethod yX2_begin ∈ jW := jW_tab 449 (by decide +kernel) (by decide +kernel)
theorem tw_450 : Cond.selects RX2 yX2_begin yX2_begin ∈ jW := jW_tab 450 (by decide +kernel) (by decide +kernel)
theorem tw_448 : Cond.methodLink RX5 63 yX2_begin ∈ jW := jW_tab 448 (by decide +kernel) (by decide +kernel)
theorem mlX5_63 : jV RX5 63 2 yX2_begin cX2_begin 2 none 1 := ⟨tw_448, tw_449, tw_450, tw_6, tw_451, ⟨TX2, 10, rfl⟩, ⟨by decide, by decide⟩, by decide⟩
theorem tw_452 : Cond.methodLink RX2 31 yJ7_fill_53178 ∈ jW := jW_tab 452 (by decide +kernel) (by decide +kernel)
theorem mlX2_31 : jS RX2 31 yJ7_fill_53178 cJ7_fill_53178 4 none 2 := ⟨tw_452, tw_217, tw_14, tw_218, ⟨by decide, by decide⟩, by decide⟩
theorem tw_460 : Cond.code yX5_samplesPerMajor cX5_samplesPerMajor 2 (some .int) ∈ jW := jW_tab 460 (by decide +kernel) (by decide +kernel)
theorem tw_458 : Cond.instanceMethod yX5_samplesPerMajor ∈ jW := jW_tab 458 (by decide +kernel) (by decide +kernel)
theorem tw_459 : Cond.selects RX5 yX5_samplesPerMajor yX5_samplesPerMajor ∈ jW := jW_tab 459 (by decide +kernel) (by decide +kernel)
theorem tw_457 : Cond.methodLink RL 21 yX5_samplesPerMajor ∈ jW := jW_tab 457 (by decide +kernel) (by decide +kernel)
theorem mlL_21 : jV RL 21 5 yX5_samplesPerMajor cX5_samplesPerMajor 2 (some .int) 1 := ⟨tw_457, tw_458, tw_459, tw_1, tw_460, ⟨TX5, 5, rfl⟩, ⟨by decide, by decide⟩, by decide⟩
theorem tw_464 : Cond.code yX5_parameterAt cX5_parameterAt 2 (some (.object "FrameCommutator$Parameter")) ∈ jW := jW_tab 464 (by decide +kernel) (by decide +kernel)
theorem tw_463 : Cond.instanceMethod yX5_parameterAt ∈ jW := jW_tab 463 (by decide +kernel) (by decide +kernel)
theorem tp_9 : Cond.selects RX5 yX5_parameterAt yX5_parameterAt ∈ jW := jW_sel 9 (by decide +kernel) rfl
theorem tw_461 : Cond.methodLink RX5 87 yX5_parameterAt ∈ jW := jW_tab 461 (by decide +kernel) (by decide +kernel)
theorem mlX5_87 : jV RX5 87 5 yX5_parameterAt cX5_parameterAt 2 (some (.object "FrameCommutator$Parameter")) 1 := ⟨tw_461, tw_463, tp_9, tw_1, tw_464, ⟨TX5, 5, rfl⟩, ⟨by decide, by decide⟩, by decide⟩
theorem tw_467 : Cond.code yX5_requireIndex cX5_requireIndex 2 none ∈ jW := jW_tab 467 (by decide +kernel) (by decide +kernel)
theorem tw_466 : Cond.static yX5_requireIndex ∈ jW := jW_tab 466 (by decide +kernel) (by decide +kernel)
theorem tw_465 : Cond.methodLink RX5 95 yX5_requireIndex ∈ jW := jW_tab 465 (by decide +kernel) (by decide +kernel)
theorem mlX5_95 : jS RX5 95 yX5_requireIndex cX5_requireIndex 2 none 2 := ⟨tw_465, tw_466, tw_1, tw_467, ⟨by decide, by decide⟩, by decide⟩
theorem tw_490 : Cond.code yX5_slot cX5_slot 5 (some .int) ∈ jW := jW_tab 490 (by decide +kernel) (by decide +kernel)
theorem tw_488 : Cond.instanceMethod yX5_slot ∈ jW := jW_tab 488 (by decide +kernel) (by decide +kernel)
theorem tw_489 : Cond.selects RX5 yX5_slot yX5_slot ∈ jW := jW_tab 489 (by decide +kernel) (by decide +kernel)
theorem tw_487 : Cond.methodLink RL 26 yX5_slot ∈ jW := jW_tab 487 (by decide +kernel) (by decide +kernel)
theorem mlL_26 : jV RL 26 5 yX5_slot cX5_slot 5 (some .int) 3 := ⟨tw_487, tw_488, tw_489, tw_1, tw_490, ⟨TX5, 5, rfl⟩, ⟨by decide, by decide⟩, by decide⟩
theorem tw_494 : Cond.code yX1_placeOf cX1_placeOf 5 (some .int) ∈ jW := jW_tab 494 (by decide +kernel) (by decide +kernel)
theorem tw_492 : Cond.instanceMethod yX1_placeOf ∈ jW := jW_tab 492 (by decide +kernel) (by decide +kernel)
theorem tw_493 : Cond.selects RX1 yX1_placeOf yX1_placeOf ∈ jW := jW_tab 493 (by decide +kernel) (by decide +kernel)
theorem tw_491 : Cond.methodLink RX5 99 yX1_placeOf ∈ jW := jW_tab 491 (by decide +kernel) (by decide +kernel)
theorem mlX5_99 : jV RX5 99 1 yX1_placeOf cX1_placeOf 5 (some .int) 2 := ⟨tw_491, tw_492, tw_493, tw_3, tw_494, ⟨TX1, 5, rfl⟩, ⟨by decide, by decide⟩, by decide⟩
theorem tw_501 : Cond.code yX5_ownerOf cX5_ownerOf 3 (some .int) ∈ jW := jW_tab 501 (by decide +kernel) (by decide +kernel)
theorem tw_499 : Cond.instanceMethod yX5_ownerOf ∈ jW := jW_tab 499 (by decide +kernel) (by decide +kernel)
theorem tw_500 : Cond.selects RX5 yX5_ownerOf yX5_ownerOf ∈ jW := jW_tab 500 (by decide +kernel) (by decide +kernel)
theorem tw_498 : Cond.methodLink RL 30 yX5_ownerOf ∈ jW := jW_tab 498 (by decide +kernel) (by decide +kernel)
theorem mlL_30 : jV RL 30 5 yX5_ownerOf cX5_ownerOf 3 (some .int) 2 := ⟨tw_498, tw_499, tw_500, tw_1, tw_501, ⟨TX5, 5, rfl⟩, ⟨by decide, by decide⟩, by decide⟩
theorem tw_502 : Cond.methodLink RX5 103 yX1_ownerAt ∈ jW := jW_tab 502 (by decide +kernel) (by decide +kernel)
theorem mlX5_103 : jV RX5 103 1 yX1_ownerAt cX1_ownerAt 4 (some .int) 2 := ⟨tw_502, tw_252, tw_253, tw_3, tw_254, ⟨TX1, 5, rfl⟩, ⟨by decide, by decide⟩, by decide⟩
theorem tw_509 : Cond.code yX5_efficiency cX5_efficiency 1 (some .double) ∈ jW := jW_tab 509 (by decide +kernel) (by decide +kernel)
theorem tw_507 : Cond.instanceMethod yX5_efficiency ∈ jW := jW_tab 507 (by decide +kernel) (by decide +kernel)
theorem tw_508 : Cond.selects RX5 yX5_efficiency yX5_efficiency ∈ jW := jW_tab 508 (by decide +kernel) (by decide +kernel)
theorem tw_506 : Cond.methodLink RL 33 yX5_efficiency ∈ jW := jW_tab 506 (by decide +kernel) (by decide +kernel)
theorem mlL_33 : jV RL 33 5 yX5_efficiency cX5_efficiency 1 (some .double) 0 := ⟨tw_506, tw_507, tw_508, tw_1, tw_509, ⟨TX5, 5, rfl⟩, ⟨by decide, by decide⟩, by decide⟩
theorem tw_516 : Cond.code yX5_setValue cX5_setValue 5 (some .int) ∈ jW := jW_tab 516 (by decide +kernel) (by decide +kernel)
theorem tw_514 : Cond.instanceMethod yX5_setValue ∈ jW := jW_tab 514 (by decide +kernel) (by decide +kernel)
theorem tw_515 : Cond.selects RX5 yX5_setValue yX5_setValue ∈ jW := jW_tab 515 (by decide +kernel) (by decide +kernel)
theorem tw_513 : Cond.methodLink RL 37 yX5_setValue ∈ jW := jW_tab 513 (by decide +kernel) (by decide +kernel)
theorem mlL_37 : jV RL 37 5 yX5_setValue cX5_setValue 5 (some .int) 2 := ⟨tw_513, tw_514, tw_515, tw_1, tw_516, ⟨TX5, 5, rfl⟩, ⟨by decide, by decide⟩, by decide⟩
theorem tw_523 : Cond.code yX5_send cX5_send 3 (some .int) ∈ jW := jW_tab 523 (by decide +kernel) (by decide +kernel)
theorem tw_521 : Cond.instanceMethod yX5_send ∈ jW := jW_tab 521 (by decide +kernel) (by decide +kernel)
theorem tw_522 : Cond.selects RX5 yX5_send yX5_send ∈ jW := jW_tab 522 (by decide +kernel) (by decide +kernel)
theorem tw_520 : Cond.methodLink RL 40 yX5_send ∈ jW := jW_tab 520 (by decide +kernel) (by decide +kernel)
theorem mlL_40 : jV RL 40 5 yX5_send cX5_send 3 (some .int) 1 := ⟨tw_520, tw_521, tw_522, tw_1, tw_523, ⟨TX5, 5, rfl⟩, ⟨by decide, by decide⟩, by decide⟩
theorem tw_527 : Cond.code yX4_sendMinor cX4_sendMinor 3 none ∈ jW := jW_tab 527 (by decide +kernel) (by decide +kernel)
theorem tw_525 : Cond.instanceMethod yX4_sendMinor ∈ jW := jW_tab 525 (by decide +kernel) (by decide +kernel)
theorem tw_526 : Cond.selects RX4 yX4_sendMinor yX4_sendMinor ∈ jW := jW_tab 526 (by decide +kernel) (by decide +kernel)
theorem tw_524 : Cond.methodLink RX5 118 yX4_sendMinor ∈ jW := jW_tab 524 (by decide +kernel) (by decide +kernel)
theorem mlX5_118 : jV RX5 118 4 yX4_sendMinor cX4_sendMinor 3 none 0 := ⟨tw_524, tw_525, tw_526, tw_2, tw_527, ⟨TX4, 7, rfl⟩, ⟨by decide, by decide⟩, by decide⟩
theorem tw_531 : Cond.code yX0_appendWord cX0_appendWord 3 none ∈ jW := jW_tab 531 (by decide +kernel) (by decide +kernel)
theorem tw_529 : Cond.instanceMethod yX0_appendWord ∈ jW := jW_tab 529 (by decide +kernel) (by decide +kernel)
theorem tw_530 : Cond.selects RX0 yX0_appendWord yX0_appendWord ∈ jW := jW_tab 530 (by decide +kernel) (by decide +kernel)
theorem tw_528 : Cond.methodLink RX4 72 yX0_appendWord ∈ jW := jW_tab 528 (by decide +kernel) (by decide +kernel)
theorem mlX4_72 : jV RX4 72 0 yX0_appendWord cX0_appendWord 3 none 1 := ⟨tw_528, tw_529, tw_530, tw_4, tw_531, ⟨TX0, 2, rfl⟩, ⟨by decide, by decide⟩, by decide⟩
theorem tw_532 : Cond.methodLink RX4 79 yX1_ownerAt ∈ jW := jW_tab 532 (by decide +kernel) (by decide +kernel)
theorem mlX4_79 : jV RX4 79 1 yX1_ownerAt cX1_ownerAt 4 (some .int) 2 := ⟨tw_532, tw_252, tw_253, tw_3, tw_254, ⟨TX1, 5, rfl⟩, ⟨by decide, by decide⟩, by decide⟩
theorem tw_536 : Cond.code yX4_isParameter cX4_isParameter 2 (some .boolean) ∈ jW := jW_tab 536 (by decide +kernel) (by decide +kernel)
theorem tw_535 : Cond.instanceMethod yX4_isParameter ∈ jW := jW_tab 535 (by decide +kernel) (by decide +kernel)
theorem tp_10 : Cond.selects RX4 yX4_isParameter yX4_isParameter ∈ jW := jW_sel 10 (by decide +kernel) rfl
theorem tw_533 : Cond.methodLink RX4 83 yX4_isParameter ∈ jW := jW_tab 533 (by decide +kernel) (by decide +kernel)
theorem mlX4_83 : jV RX4 83 4 yX4_isParameter cX4_isParameter 2 (some .boolean) 1 := ⟨tw_533, tw_535, tp_10, tw_2, tw_536, ⟨TX4, 7, rfl⟩, ⟨by decide, by decide⟩, by decide⟩
theorem tw_543 : Cond.code yX5_bit cX5_bit 2 (some .int) ∈ jW := jW_tab 543 (by decide +kernel) (by decide +kernel)
theorem tw_541 : Cond.instanceMethod yX5_bit ∈ jW := jW_tab 541 (by decide +kernel) (by decide +kernel)
theorem tw_542 : Cond.selects RX5 yX5_bit yX5_bit ∈ jW := jW_tab 542 (by decide +kernel) (by decide +kernel)
theorem tw_540 : Cond.methodLink RL 43 yX5_bit ∈ jW := jW_tab 540 (by decide +kernel) (by decide +kernel)
theorem mlL_43 : jV RL 43 5 yX5_bit cX5_bit 2 (some .int) 1 := ⟨tw_540, tw_541, tw_542, tw_1, tw_543, ⟨TX5, 5, rfl⟩, ⟨by decide, by decide⟩, by decide⟩
theorem tw_550 : Cond.code yX5_disturb cX5_disturb 4 (some .int) ∈ jW := jW_tab 550 (by decide +kernel) (by decide +kernel)
theorem tw_548 : Cond.instanceMethod yX5_disturb ∈ jW := jW_tab 548 (by decide +kernel) (by decide +kernel)
theorem tw_549 : Cond.selects RX5 yX5_disturb yX5_disturb ∈ jW := jW_tab 549 (by decide +kernel) (by decide +kernel)
theorem tw_547 : Cond.methodLink RL 46 yX5_disturb ∈ jW := jW_tab 547 (by decide +kernel) (by decide +kernel)
theorem mlL_46 : jV RL 46 5 yX5_disturb cX5_disturb 4 (some .int) 2 := ⟨tw_547, tw_548, tw_549, tw_1, tw_550, ⟨TX5, 5, rfl⟩, ⟨by decide, by decide⟩, by decide⟩
theorem tw_554 : Cond.code yX0_flip cX0_flip 2 none ∈ jW := jW_tab 554 (by decide +kernel) (by decide +kernel)
theorem tw_552 : Cond.instanceMethod yX0_flip ∈ jW := jW_tab 552 (by decide +kernel) (by decide +kernel)
theorem tw_553 : Cond.selects RX0 yX0_flip yX0_flip ∈ jW := jW_tab 553 (by decide +kernel) (by decide +kernel)
theorem tw_551 : Cond.methodLink RX5 125 yX0_flip ∈ jW := jW_tab 551 (by decide +kernel) (by decide +kernel)
theorem mlX5_125 : jV RX5 125 0 yX0_flip cX0_flip 2 none 1 := ⟨tw_551, tw_552, tw_553, tw_4, tw_554, ⟨TX0, 2, rfl⟩, ⟨by decide, by decide⟩, by decide⟩
theorem tw_558 : Cond.code yX0_remove cX0_remove 2 none ∈ jW := jW_tab 558 (by decide +kernel) (by decide +kernel)
theorem tw_556 : Cond.instanceMethod yX0_remove ∈ jW := jW_tab 556 (by decide +kernel) (by decide +kernel)
theorem tw_557 : Cond.selects RX0 yX0_remove yX0_remove ∈ jW := jW_tab 557 (by decide +kernel) (by decide +kernel)
theorem tw_555 : Cond.methodLink RX5 128 yX0_remove ∈ jW := jW_tab 555 (by decide +kernel) (by decide +kernel)
theorem mlX5_128 : jV RX5 128 0 yX0_remove cX0_remove 2 none 1 := ⟨tw_555, tw_556, tw_557, tw_4, tw_558, ⟨TX0, 2, rfl⟩, ⟨by decide, by decide⟩, by decide⟩
theorem tw_562 : Cond.code yX0_insert cX0_insert 3 none ∈ jW := jW_tab 562 (by decide +kernel) (by decide +kernel)
theorem tw_560 : Cond.instanceMethod yX0_insert ∈ jW := jW_tab 560 (by decide +kernel) (by decide +kernel)
theorem tw_561 : Cond.selects RX0 yX0_insert yX0_insert ∈ jW := jW_tab 561 (by decide +kernel) (by decide +kernel)
theorem tw_559 : Cond.methodLink RX5 131 yX0_insert ∈ jW := jW_tab 559 (by decide +kernel) (by decide +kernel)
theorem mlX5_131 : jV RX5 131 0 yX0_insert cX0_insert 3 none 2 := ⟨tw_559, tw_560, tw_561, tw_4, tw_562, ⟨TX0, 2, rfl⟩, ⟨by decide, by decide⟩, by decide⟩
theorem tw_569 : Cond.code yX5_receive cX5_receive 3 (some .int) ∈ jW := jW_tab 569 (by decide +kernel) (by decide +kernel)
theorem tw_567 : Cond.instanceMethod yX5_receive ∈ jW := jW_tab 567 (by decide +kernel) (by decide +kernel)
theorem tw_568 : Cond.selects RX5 yX5_receive yX5_receive ∈ jW := jW_tab 568 (by decide +kernel) (by decide +kernel)
theorem tw_566 : Cond.methodLink RL 49 yX5_receive ∈ jW := jW_tab 566 (by decide +kernel) (by decide +kernel)
theorem mlL_49 : jV RL 49 5 yX5_receive cX5_receive 3 (some .int) 1 := ⟨tw_566, tw_567, tw_568, tw_1, tw_569, ⟨TX5, 5, rfl⟩, ⟨by decide, by decide⟩, by decide⟩
theorem tw_573 : Cond.code yX4_takeBits cX4_takeBits 4 none ∈ jW := jW_tab 573 (by decide +kernel) (by decide +kernel)
theorem tw_571 : Cond.instanceMethod yX4_takeBits ∈ jW := jW_tab 571 (by decide +kernel) (by decide +kernel)
theorem tw_572 : Cond.selects RX4 yX4_takeBits yX4_takeBits ∈ jW := jW_tab 572 (by decide +kernel) (by decide +kernel)
theorem tw_570 : Cond.methodLink RX5 143 yX4_takeBits ∈ jW := jW_tab 570 (by decide +kernel) (by decide +kernel)
theorem mlX5_143 : jV RX5 143 4 yX4_takeBits cX4_takeBits 4 none 1 := ⟨tw_570, tw_571, tw_572, tw_2, tw_573, ⟨TX4, 7, rfl⟩, ⟨by decide, by decide⟩, by decide⟩
theorem tw_577 : Cond.code yX3_takeBit cX3_takeBit 3 (some .boolean) ∈ jW := jW_tab 577 (by decide +kernel) (by decide +kernel)
theorem tw_575 : Cond.instanceMethod yX3_takeBit ∈ jW := jW_tab 575 (by decide +kernel) (by decide +kernel)
theorem tw_576 : Cond.selects RX3 yX3_takeBit yX3_takeBit ∈ jW := jW_tab 576 (by decide +kernel) (by decide +kernel)
theorem tw_574 : Cond.methodLink RX4 97 yX3_takeBit ∈ jW := jW_tab 574 (by decide +kernel) (by decide +kernel)
theorem mlX4_97 : jV RX4 97 3 yX3_takeBit cX3_takeBit 3 (some .boolean) 2 := ⟨tw_574, tw_575, tw_576, tw_5, tw_577, ⟨TX3, 6, rfl⟩, ⟨by decide, by decide⟩, by decide⟩
theorem tw_581 : Cond.code yX3_lookForSync cX3_lookForSync 1 none ∈ jW := jW_tab 581 (by decide +kernel) (by decide +kernel)
theorem tw_580 : Cond.instanceMethod yX3_lookForSync ∈ jW := jW_tab 580 (by decide +kernel) (by decide +kernel)
theorem tp_11 : Cond.selects RX3 yX3_lookForSync yX3_lookForSync ∈ jW := jW_sel 11 (by decide +kernel) rfl
theorem tw_578 : Cond.methodLink RX3 37 yX3_lookForSync ∈ jW := jW_tab 578 (by decide +kernel) (by decide +kernel)
theorem mlX3_37 : jV RX3 37 3 yX3_lookForSync cX3_lookForSync 1 none 0 := ⟨tw_578, tw_580, tp_11, tw_5, tw_581, ⟨TX3, 6, rfl⟩, ⟨by decide, by decide⟩, by decide⟩
theorem tw_585 : Cond.code yX3_endsWithSync cX3_endsWithSync 2 (some .boolean) ∈ jW := jW_tab 585 (by decide +kernel) (by decide +kernel)
theorem tw_584 : Cond.instanceMethod yX3_endsWithSync ∈ jW := jW_tab 584 (by decide +kernel) (by decide +kernel)
theorem tp_12 : Cond.selects RX3 yX3_endsWithSync yX3_endsWithSync ∈ jW := jW_sel 12 (by decide +kernel) rfl
theorem tw_582 : Cond.methodLink RX3 52 yX3_endsWithSync ∈ jW := jW_tab 582 (by decide +kernel) (by decide +kernel)
theorem mlX3_52 : jV RX3 52 3 yX3_endsWithSync cX3_endsWithSync 2 (some .boolean) 1 := ⟨tw_582, tw_584, tp_12, tw_5, tw_585, ⟨TX3, 6, rfl⟩, ⟨by decide, by decide⟩, by decide⟩
theorem tw_591 : Cond.code yX3_storeBit cX3_storeBit 3 none ∈ jW := jW_tab 591 (by decide +kernel) (by decide +kernel)
theorem tw_590 : Cond.instanceMethod yX3_storeBit ∈ jW := jW_tab 590 (by decide +kernel) (by decide +kernel)
theorem tp_13 : Cond.selects RX3 yX3_storeBit yX3_storeBit ∈ jW := jW_sel 13 (by decide +kernel) rfl
theorem tw_588 : Cond.methodLink RX3 40 yX3_storeBit ∈ jW := jW_tab 588 (by decide +kernel) (by decide +kernel)
theorem mlX3_40 : jV RX3 40 3 yX3_storeBit cX3_storeBit 3 none 1 := ⟨tw_588, tw_590, tp_13, tw_5, tw_591, ⟨TX3, 6, rfl⟩, ⟨by decide, by decide⟩, by decide⟩
theorem tw_595 : Cond.code yX3_expectSync cX3_expectSync 2 none ∈ jW := jW_tab 595 (by decide +kernel) (by decide +kernel)
theorem tw_594 : Cond.instanceMethod yX3_expectSync ∈ jW := jW_tab 594 (by decide +kernel) (by decide +kernel)
theorem tp_14 : Cond.selects RX3 yX3_expectSync yX3_expectSync ∈ jW := jW_sel 14 (by decide +kernel) rfl
theorem tw_592 : Cond.methodLink RX3 44 yX3_expectSync ∈ jW := jW_tab 592 (by decide +kernel) (by decide +kernel)
theorem mlX3_44 : jV RX3 44 3 yX3_expectSync cX3_expectSync 2 none 1 := ⟨tw_592, tw_594, tp_14, tw_5, tw_595, ⟨TX3, 6, rfl⟩, ⟨by decide, by decide⟩, by decide⟩
theorem tw_599 : Cond.code yX3_continueAfterSync cX3_continueAfterSync 1 none ∈ jW := jW_tab 599 (by decide +kernel) (by decide +kernel)
theorem tw_598 : Cond.instanceMethod yX3_continueAfterSync ∈ jW := jW_tab 598 (by decide +kernel) (by decide +kernel)
theorem tp_15 : Cond.selects RX3 yX3_continueAfterSync yX3_continueAfterSync ∈ jW := jW_sel 15 (by decide +kernel) rfl
theorem tw_596 : Cond.methodLink RX3 56 yX3_continueAfterSync ∈ jW := jW_tab 596 (by decide +kernel) (by decide +kernel)
theorem mlX3_56 : jV RX3 56 3 yX3_continueAfterSync cX3_continueAfterSync 1 none 0 := ⟨tw_596, tw_598, tp_15, tw_5, tw_599, ⟨TX3, 6, rfl⟩, ⟨by decide, by decide⟩, by decide⟩
theorem tw_603 : Cond.code yX3_beginFrameWith cX3_beginFrameWith 2 none ∈ jW := jW_tab 603 (by decide +kernel) (by decide +kernel)
theorem tw_602 : Cond.instanceMethod yX3_beginFrameWith ∈ jW := jW_tab 602 (by decide +kernel) (by decide +kernel)
theorem tp_16 : Cond.selects RX3 yX3_beginFrameWith yX3_beginFrameWith ∈ jW := jW_sel 16 (by decide +kernel) rfl
theorem tw_600 : Cond.methodLink RX3 59 yX3_beginFrameWith ∈ jW := jW_tab 600 (by decide +kernel) (by decide +kernel)
theorem mlX3_59 : jV RX3 59 3 yX3_beginFrameWith cX3_beginFrameWith 2 none 1 := ⟨tw_600, tw_602, tp_16, tw_5, tw_603, ⟨TX3, 6, rfl⟩, ⟨by decide, by decide⟩, by decide⟩
theorem tw_607 : Cond.code yX3_expectLateSync cX3_expectLateSync 2 none ∈ jW := jW_tab 607 (by decide +kernel) (by decide +kernel)
theorem tw_606 : Cond.instanceMethod yX3_expectLateSync ∈ jW := jW_tab 606 (by decide +kernel) (by decide +kernel)
theorem tp_17 : Cond.selects RX3 yX3_expectLateSync yX3_expectLateSync ∈ jW := jW_sel 17 (by decide +kernel) rfl
theorem tw_604 : Cond.methodLink RX3 47 yX3_expectLateSync ∈ jW := jW_tab 604 (by decide +kernel) (by decide +kernel)
theorem mlX3_47 : jV RX3 47 3 yX3_expectLateSync cX3_expectLateSync 2 none 1 := ⟨tw_604, tw_606, tp_17, tw_5, tw_607, ⟨TX3, 6, rfl⟩, ⟨by decide, by decide⟩, by decide⟩
theorem tw_608 : Cond.methodLink RX3 62 yX3_restart ∈ jW := jW_tab 608 (by decide +kernel) (by decide +kernel)
theorem mlX3_62 : jV RX3 62 3 yX3_restart cX3_restart 1 none 0 := ⟨tw_608, tw_418, tw_419, tw_5, tw_420, ⟨TX3, 6, rfl⟩, ⟨by decide, by decide⟩, by decide⟩
theorem tw_612 : Cond.code yX4_deliver cX4_deliver 4 none ∈ jW := jW_tab 612 (by decide +kernel) (by decide +kernel)
theorem tw_611 : Cond.instanceMethod yX4_deliver ∈ jW := jW_tab 611 (by decide +kernel) (by decide +kernel)
theorem tp_18 : Cond.selects RX4 yX4_deliver yX4_deliver ∈ jW := jW_sel 18 (by decide +kernel) rfl
theorem tw_609 : Cond.methodLink RX4 101 yX4_deliver ∈ jW := jW_tab 609 (by decide +kernel) (by decide +kernel)
theorem mlX4_101 : jV RX4 101 4 yX4_deliver cX4_deliver 4 none 0 := ⟨tw_609, tw_611, tp_18, tw_2, tw_612, ⟨TX4, 7, rfl⟩, ⟨by decide, by decide⟩, by decide⟩
theorem tw_616 : Cond.code yX2_takeSample cX2_takeSample 3 none ∈ jW := jW_tab 616 (by decide +kernel) (by decide +kernel)
theorem tw_614 : Cond.instanceMethod yX2_takeSample ∈ jW := jW_tab 614 (by decide +kernel) (by decide +kernel)
theorem tw_615 : Cond.selects RX2 yX2_takeSample yX2_takeSample ∈ jW := jW_tab 615 (by decide +kernel) (by decide +kernel)
theorem tw_613 : Cond.methodLink RX4 113 yX2_takeSample ∈ jW := jW_tab 613 (by decide +kernel) (by decide +kernel)
theorem mlX4_113 : jV RX4 113 2 yX2_takeSample cX2_takeSample 3 none 2 := ⟨tw_613, tw_614, tw_615, tw_6, tw_616, ⟨TX2, 10, rfl⟩, ⟨by decide, by decide⟩, by decide⟩
theorem tw_620 : Cond.code yX2_isWithinLimits cX2_isWithinLimits 3 (some .boolean) ∈ jW := jW_tab 620 (by decide +kernel) (by decide +kernel)
theorem tw_619 : Cond.instanceMethod yX2_isWithinLimits ∈ jW := jW_tab 619 (by decide +kernel) (by decide +kernel)
theorem tp_19 : Cond.selects RX2 yX2_isWithinLimits yX2_isWithinLimits ∈ jW := jW_sel 19 (by decide +kernel) rfl
theorem tw_617 : Cond.methodLink RX2 56 yX2_isWithinLimits ∈ jW := jW_tab 617 (by decide +kernel) (by decide +kernel)
theorem mlX2_56 : jV RX2 56 2 yX2_isWithinLimits cX2_isWithinLimits 3 (some .boolean) 2 := ⟨tw_617, tw_619, tp_19, tw_6, tw_620, ⟨TX2, 10, rfl⟩, ⟨by decide, by decide⟩, by decide⟩
theorem tw_624 : Cond.code yX0_dropFirst cX0_dropFirst 2 none ∈ jW := jW_tab 624 (by decide +kernel) (by decide +kernel)
theorem tw_622 : Cond.instanceMethod yX0_dropFirst ∈ jW := jW_tab 622 (by decide +kernel) (by decide +kernel)
theorem tw_623 : Cond.selects RX0 yX0_dropFirst yX0_dropFirst ∈ jW := jW_tab 623 (by decide +kernel) (by decide +kernel)
theorem tw_621 : Cond.methodLink RX4 104 yX0_dropFirst ∈ jW := jW_tab 621 (by decide +kernel) (by decide +kernel)
theorem mlX4_104 : jV RX4 104 0 yX0_dropFirst cX0_dropFirst 2 none 1 := ⟨tw_621, tw_622, tw_623, tw_4, tw_624, ⟨TX0, 2, rfl⟩, ⟨by decide, by decide⟩, by decide⟩
theorem tw_631 : Cond.code yX5_received cX5_received 2 (some .int) ∈ jW := jW_tab 631 (by decide +kernel) (by decide +kernel)
theorem tw_629 : Cond.instanceMethod yX5_received ∈ jW := jW_tab 629 (by decide +kernel) (by decide +kernel)
theorem tw_630 : Cond.selects RX5 yX5_received yX5_received ∈ jW := jW_tab 630 (by decide +kernel) (by decide +kernel)
theorem tw_628 : Cond.methodLink RL 52 yX5_received ∈ jW := jW_tab 628 (by decide +kernel) (by decide +kernel)
theorem mlL_52 : jV RL 52 5 yX5_received cX5_received 2 (some .int) 1 := ⟨tw_628, tw_629, tw_630, tw_1, tw_631, ⟨TX5, 5, rfl⟩, ⟨by decide, by decide⟩, by decide⟩
theorem tw_638 : Cond.code yX5_sample cX5_sample 2 (some .int) ∈ jW := jW_tab 638 (by decide +kernel) (by decide +kernel)
theorem tw_636 : Cond.instanceMethod yX5_sample ∈ jW := jW_tab 636 (by decide +kernel) (by decide +kernel)
theorem tw_637 : Cond.selects RX5 yX5_sample yX5_sample ∈ jW := jW_tab 637 (by decide +kernel) (by decide +kernel)
theorem tw_635 : Cond.methodLink RL 55 yX5_sample ∈ jW := jW_tab 635 (by decide +kernel) (by decide +kernel)
theorem mlL_55 : jV RL 55 5 yX5_sample cX5_sample 2 (some .int) 1 := ⟨tw_635, tw_636, tw_637, tw_1, tw_638, ⟨TX5, 5, rfl⟩, ⟨by decide, by decide⟩, by decide⟩
theorem tw_645 : Cond.code yX5_samples cX5_samples 2 (some .int) ∈ jW := jW_tab 645 (by decide +kernel) (by decide +kernel)
theorem tw_643 : Cond.instanceMethod yX5_samples ∈ jW := jW_tab 643 (by decide +kernel) (by decide +kernel)
theorem tw_644 : Cond.selects RX5 yX5_samples yX5_samples ∈ jW := jW_tab 644 (by decide +kernel) (by decide +kernel)
theorem tw_642 : Cond.methodLink RL 58 yX5_samples ∈ jW := jW_tab 642 (by decide +kernel) (by decide +kernel)
theorem mlL_58 : jV RL 58 5 yX5_samples cX5_samples 2 (some .int) 1 := ⟨tw_642, tw_643, tw_644, tw_1, tw_645, ⟨TX5, 5, rfl⟩, ⟨by decide, by decide⟩, by decide⟩
theorem tw_652 : Cond.code yX5_setMode cX5_setMode 3 (some .int) ∈ jW := jW_tab 652 (by decide +kernel) (by decide +kernel)
theorem tw_650 : Cond.instanceMethod yX5_setMode ∈ jW := jW_tab 650 (by decide +kernel) (by decide +kernel)
theorem tw_651 : Cond.selects RX5 yX5_setMode yX5_setMode ∈ jW := jW_tab 651 (by decide +kernel) (by decide +kernel)
theorem tw_649 : Cond.methodLink RL 61 yX5_setMode ∈ jW := jW_tab 649 (by decide +kernel) (by decide +kernel)
theorem mlL_61 : jV RL 61 5 yX5_setMode cX5_setMode 3 (some .int) 1 := ⟨tw_649, tw_650, tw_651, tw_1, tw_652, ⟨TX5, 5, rfl⟩, ⟨by decide, by decide⟩, by decide⟩
theorem tw_659 : Cond.code yX5_setLimits cX5_setLimits 7 (some .int) ∈ jW := jW_tab 659 (by decide +kernel) (by decide +kernel)
theorem tw_657 : Cond.instanceMethod yX5_setLimits ∈ jW := jW_tab 657 (by decide +kernel) (by decide +kernel)
theorem tw_658 : Cond.selects RX5 yX5_setLimits yX5_setLimits ∈ jW := jW_tab 658 (by decide +kernel) (by decide +kernel)
theorem tw_656 : Cond.methodLink RL 64 yX5_setLimits ∈ jW := jW_tab 656 (by decide +kernel) (by decide +kernel)
theorem mlL_64 : jV RL 64 5 yX5_setLimits cX5_setLimits 7 (some .int) 4 := ⟨tw_656, tw_657, tw_658, tw_1, tw_659, ⟨TX5, 5, rfl⟩, ⟨by decide, by decide⟩, by decide⟩
theorem tw_666 : Cond.code yX5_setPersistence cX5_setPersistence 5 (some .int) ∈ jW := jW_tab 666 (by decide +kernel) (by decide +kernel)
theorem tw_664 : Cond.instanceMethod yX5_setPersistence ∈ jW := jW_tab 664 (by decide +kernel) (by decide +kernel)
theorem tw_665 : Cond.selects RX5 yX5_setPersistence yX5_setPersistence ∈ jW := jW_tab 665 (by decide +kernel) (by decide +kernel)
theorem tw_663 : Cond.methodLink RL 68 yX5_setPersistence ∈ jW := jW_tab 663 (by decide +kernel) (by decide +kernel)
theorem mlL_68 : jV RL 68 5 yX5_setPersistence cX5_setPersistence 5 (some .int) 2 := ⟨tw_663, tw_664, tw_665, tw_1, tw_666, ⟨TX5, 5, rfl⟩, ⟨by decide, by decide⟩, by decide⟩
theorem tw_673 : Cond.code yX5_hasAlarm cX5_hasAlarm 2 (some .boolean) ∈ jW := jW_tab 673 (by decide +kernel) (by decide +kernel)
theorem tw_671 : Cond.instanceMethod yX5_hasAlarm ∈ jW := jW_tab 671 (by decide +kernel) (by decide +kernel)
theorem tw_672 : Cond.selects RX5 yX5_hasAlarm yX5_hasAlarm ∈ jW := jW_tab 672 (by decide +kernel) (by decide +kernel)
theorem tw_670 : Cond.methodLink RL 71 yX5_hasAlarm ∈ jW := jW_tab 670 (by decide +kernel) (by decide +kernel)
theorem mlL_71 : jV RL 71 5 yX5_hasAlarm cX5_hasAlarm 2 (some .boolean) 1 := ⟨tw_670, tw_671, tw_672, tw_1, tw_673, ⟨TX5, 5, rfl⟩, ⟨by decide, by decide⟩, by decide⟩
theorem tw_680 : Cond.code yX5_alarms cX5_alarms 2 (some .int) ∈ jW := jW_tab 680 (by decide +kernel) (by decide +kernel)
theorem tw_678 : Cond.instanceMethod yX5_alarms ∈ jW := jW_tab 678 (by decide +kernel) (by decide +kernel)
theorem tw_679 : Cond.selects RX5 yX5_alarms yX5_alarms ∈ jW := jW_tab 679 (by decide +kernel) (by decide +kernel)
theorem tw_677 : Cond.methodLink RL 75 yX5_alarms ∈ jW := jW_tab 677 (by decide +kernel) (by decide +kernel)
theorem mlL_75 : jV RL 75 5 yX5_alarms cX5_alarms 2 (some .int) 1 := ⟨tw_677, tw_678, tw_679, tw_1, tw_680, ⟨TX5, 5, rfl⟩, ⟨by decide, by decide⟩, by decide⟩
theorem tw_687 : Cond.code yX5_undo cX5_undo 2 (some .int) ∈ jW := jW_tab 687 (by decide +kernel) (by decide +kernel)
theorem tw_685 : Cond.instanceMethod yX5_undo ∈ jW := jW_tab 685 (by decide +kernel) (by decide +kernel)
theorem tw_686 : Cond.selects RX5 yX5_undo yX5_undo ∈ jW := jW_tab 686 (by decide +kernel) (by decide +kernel)
theorem tw_684 : Cond.methodLink RL 78 yX5_undo ∈ jW := jW_tab 684 (by decide +kernel) (by decide +kernel)
theorem mlL_78 : jV RL 78 5 yX5_undo cX5_undo 2 (some .int) 0 := ⟨tw_684, tw_685, tw_686, tw_1, tw_687, ⟨TX5, 5, rfl⟩, ⟨by decide, by decide⟩, by decide⟩
theorem tw_692 : Cond.code yX6_init cX6_init 1 none ∈ jW := jW_tab 692 (by decide +kernel) (by decide +kernel)
theorem tw_7 : Cond.initialized RX6 ∈ jW := jW_tab 7 (by decide +kernel) (by decide +kernel)
theorem tw_691 : Cond.instanceMethod yX6_init ∈ jW := jW_tab 691 (by decide +kernel) (by decide +kernel)
theorem tw_690 : Cond.methodLink RL 85 yX6_init ∈ jW := jW_tab 690 (by decide +kernel) (by decide +kernel)
theorem mlL_85 : jI RL 85 yX6_init cX6_init 1 0 := ⟨tw_690, tw_691, tw_7, tw_692, rfl, ⟨by decide, by decide⟩, by decide⟩
theorem tw_693 : Cond.methodLink RX6 1 objectInit ∈ jW := jW_tab 693 (by decide +kernel) (by decide +kernel)
theorem tw_716 : Cond.code yX6_thrown cX6_thrown 1 (some .int) ∈ jW := jW_tab 716 (by decide +kernel) (by decide +kernel)
theorem tw_714 : Cond.instanceMethod yX6_thrown ∈ jW := jW_tab 714 (by decide +kernel) (by decide +kernel)
theorem tw_715 : Cond.selects RX6 yX6_thrown yX6_thrown ∈ jW := jW_tab 715 (by decide +kernel) (by decide +kernel)
theorem tw_713 : Cond.methodLink RL 92 yX6_thrown ∈ jW := jW_tab 713 (by decide +kernel) (by decide +kernel)
theorem mlL_92 : jV RL 92 6 yX6_thrown cX6_thrown 1 (some .int) 0 := ⟨tw_713, tw_714, tw_715, tw_7, tw_716, ⟨TX6, 6, rfl⟩, ⟨by decide, by decide⟩, by decide⟩
theorem tw_720 : Cond.code yX6_setFrame cX6_setFrame 3 (some .int) ∈ jW := jW_tab 720 (by decide +kernel) (by decide +kernel)
theorem tw_718 : Cond.instanceMethod yX6_setFrame ∈ jW := jW_tab 718 (by decide +kernel) (by decide +kernel)
theorem tw_719 : Cond.selects RX6 yX6_setFrame yX6_setFrame ∈ jW := jW_tab 719 (by decide +kernel) (by decide +kernel)
theorem tw_717 : Cond.methodLink RL 91 yX6_setFrame ∈ jW := jW_tab 717 (by decide +kernel) (by decide +kernel)
theorem mlL_91 : jV RL 91 6 yX6_setFrame cX6_setFrame 3 (some .int) 2 := ⟨tw_717, tw_718, tw_719, tw_7, tw_720, ⟨TX6, 6, rfl⟩, ⟨by decide, by decide⟩, by decide⟩
theorem tw_723 : Cond.code yX6_in cX6_in 3 (some .boolean) ∈ jW := jW_tab 723 (by decide +kernel) (by decide +kernel)
theorem tw_722 : Cond.static yX6_in ∈ jW := jW_tab 722 (by decide +kernel) (by decide +kernel)
theorem tw_721 : Cond.methodLink RX6 26 yX6_in ∈ jW := jW_tab 721 (by decide +kernel) (by decide +kernel)
theorem mlX6_26 : jS RX6 26 yX6_in cX6_in 3 (some .boolean) 3 := ⟨tw_721, tw_722, tw_7, tw_723, ⟨by decide, by decide⟩, by decide⟩
theorem tw_727 : Cond.code yX6_keep cX6_keep 2 none ∈ jW := jW_tab 727 (by decide +kernel) (by decide +kernel)
theorem tw_726 : Cond.instanceMethod yX6_keep ∈ jW := jW_tab 726 (by decide +kernel) (by decide +kernel)
theorem tp_20 : Cond.selects RX6 yX6_keep yX6_keep ∈ jW := jW_sel 20 (by decide +kernel) rfl
theorem tw_724 : Cond.methodLink RX6 33 yX6_keep ∈ jW := jW_tab 724 (by decide +kernel) (by decide +kernel)
theorem mlX6_33 : jV RX6 33 6 yX6_keep cX6_keep 2 none 0 := ⟨tw_724, tw_726, tp_20, tw_7, tw_727, ⟨TX6, 6, rfl⟩, ⟨by decide, by decide⟩, by decide⟩
theorem tw_731 : Cond.code yX6_beginsAnew cX6_beginsAnew 1 none ∈ jW := jW_tab 731 (by decide +kernel) (by decide +kernel)
theorem tw_730 : Cond.instanceMethod yX6_beginsAnew ∈ jW := jW_tab 730 (by decide +kernel) (by decide +kernel)
theorem tp_21 : Cond.selects RX6 yX6_beginsAnew yX6_beginsAnew ∈ jW := jW_sel 21 (by decide +kernel) rfl
theorem tw_728 : Cond.methodLink RX6 36 yX6_beginsAnew ∈ jW := jW_tab 728 (by decide +kernel) (by decide +kernel)
theorem mlX6_36 : jV RX6 36 6 yX6_beginsAnew cX6_beginsAnew 1 none 0 := ⟨tw_728, tw_730, tp_21, tw_7, tw_731, ⟨TX6, 6, rfl⟩, ⟨by decide, by decide⟩, by decide⟩
theorem tw_735 : Cond.code yX6_searches cX6_searches 1 none ∈ jW := jW_tab 735 (by decide +kernel) (by decide +kernel)
theorem tw_734 : Cond.instanceMethod yX6_searches ∈ jW := jW_tab 734 (by decide +kernel) (by decide +kernel)
theorem tp_22 : Cond.selects RX6 yX6_searches yX6_searches ∈ jW := jW_sel 22 (by decide +kernel) rfl
theorem tw_732 : Cond.methodLink RX6 30 yX6_searches ∈ jW := jW_tab 732 (by decide +kernel) (by decide +kernel)
theorem mlX6_30 : jV RX6 30 6 yX6_searches cX6_searches 1 none 0 := ⟨tw_732, tw_734, tp_22, tw_7, tw_735, ⟨TX6, 6, rfl⟩, ⟨by decide, by decide⟩, by decide⟩
theorem tw_739 : Cond.code yX6_addParameter cX6_addParameter 5 (some .int) ∈ jW := jW_tab 739 (by decide +kernel) (by decide +kernel)
theorem tw_737 : Cond.instanceMethod yX6_addParameter ∈ jW := jW_tab 737 (by decide +kernel) (by decide +kernel)
theorem tw_738 : Cond.selects RX6 yX6_addParameter yX6_addParameter ∈ jW := jW_tab 738 (by decide +kernel) (by decide +kernel)
theorem tw_736 : Cond.methodLink RL 98 yX6_addParameter ∈ jW := jW_tab 736 (by decide +kernel) (by decide +kernel)
theorem mlL_98 : jV RL 98 6 yX6_addParameter cX6_addParameter 5 (some .int) 1 := ⟨tw_736, tw_737, tw_738, tw_7, tw_739, ⟨TX6, 6, rfl⟩, ⟨by decide, by decide⟩, by decide⟩
theorem tw_743 : Cond.code yX6_put cX6_put 4 none ∈ jW := jW_tab 743 (by decide +kernel) (by decide +kernel)
theorem tw_742 : Cond.instanceMethod yX6_put ∈ jW := jW_tab 742 (by decide +kernel) (by decide +kernel)
theorem tp_23 : Cond.selects RX6 yX6_put yX6_put ∈ jW := jW_sel 23 (by decide +kernel) rfl
theorem tw_740 : Cond.methodLink RX6 39 yX6_put ∈ jW := jW_tab 740 (by decide +kernel) (by decide +kernel)
theorem mlX6_39 : jV RX6 39 6 yX6_put cX6_put 4 none 3 := ⟨tw_740, tw_742, tp_23, tw_7, tw_743, ⟨TX6, 6, rfl⟩, ⟨by decide, by decide⟩, by decide⟩
theorem tw_747 : Cond.code yX6_plan cX6_plan 3 (some .int) ∈ jW := jW_tab 747 (by decide +kernel) (by decide +kernel)
theorem tw_745 : Cond.instanceMethod yX6_plan ∈ jW := jW_tab 745 (by decide +kernel) (by decide +kernel)
theorem tw_746 : Cond.selects RX6 yX6_plan yX6_plan ∈ jW := jW_tab 746 (by decide +kernel) (by decide +kernel)
theorem tw_744 : Cond.methodLink RL 102 yX6_plan ∈ jW := jW_tab 744 (by decide +kernel) (by decide +kernel)
theorem mlL_102 : jV RL 102 6 yX6_plan cX6_plan 3 (some .int) 0 := ⟨tw_744, tw_745, tw_746, tw_7, tw_747, ⟨TX6, 6, rfl⟩, ⟨by decide, by decide⟩, by decide⟩
theorem tw_751 : Cond.code yX6_draws cX6_draws 5 (some .int) ∈ jW := jW_tab 751 (by decide +kernel) (by decide +kernel)
theorem tw_750 : Cond.instanceMethod yX6_draws ∈ jW := jW_tab 750 (by decide +kernel) (by decide +kernel)
theorem tp_24 : Cond.selects RX6 yX6_draws yX6_draws ∈ jW := jW_sel 24 (by decide +kernel) rfl
theorem tw_748 : Cond.methodLink RX6 68 yX6_draws ∈ jW := jW_tab 748 (by decide +kernel) (by decide +kernel)
theorem mlX6_68 : jV RX6 68 6 yX6_draws cX6_draws 5 (some .int) 0 := ⟨tw_748, tw_750, tp_24, tw_7, tw_751, ⟨TX6, 6, rfl⟩, ⟨by decide, by decide⟩, by decide⟩
theorem tw_755 : Cond.code yX6_placedAt cX6_placedAt 6 (some .int) ∈ jW := jW_tab 755 (by decide +kernel) (by decide +kernel)
theorem tw_754 : Cond.instanceMethod yX6_placedAt ∈ jW := jW_tab 754 (by decide +kernel) (by decide +kernel)
theorem tp_25 : Cond.selects RX6 yX6_placedAt yX6_placedAt ∈ jW := jW_sel 25 (by decide +kernel) rfl
theorem tw_752 : Cond.methodLink RX6 58 yX6_placedAt ∈ jW := jW_tab 752 (by decide +kernel) (by decide +kernel)
theorem mlX6_58 : jV RX6 58 6 yX6_placedAt cX6_placedAt 6 (some .int) 1 := ⟨tw_752, tw_754, tp_25, tw_7, tw_755, ⟨TX6, 6, rfl⟩, ⟨by decide, by decide⟩, by decide⟩
theorem tw_759 : Cond.code yX6_samplesOf cX6_samplesOf 3 (some .int) ∈ jW := jW_tab 759 (by decide +kernel) (by decide +kernel)
theorem tw_758 : Cond.instanceMethod yX6_samplesOf ∈ jW := jW_tab 758 (by decide +kernel) (by decide +kernel)
theorem tp_26 : Cond.selects RX6 yX6_samplesOf yX6_samplesOf ∈ jW := jW_sel 26 (by decide +kernel) rfl
theorem tw_756 : Cond.methodLink RX6 54 yX6_samplesOf ∈ jW := jW_tab 756 (by decide +kernel) (by decide +kernel)
theorem mlX6_54 : jV RX6 54 6 yX6_samplesOf cX6_samplesOf 3 (some .int) 1 := ⟨tw_756, tw_758, tp_26, tw_7, tw_759, ⟨TX6, 6, rfl⟩, ⟨by decide, by decide⟩, by decide⟩
theorem tw_763 : Cond.code yX6_of cX6_of 3 (some .int) ∈ jW := jW_tab 763 (by decide +kernel) (by decide +kernel)
theorem tw_762 : Cond.instanceMethod yX6_of ∈ jW := jW_tab 762 (by decide +kernel) (by decide +kernel)
theorem tp_27 : Cond.selects RX6 yX6_of yX6_of ∈ jW := jW_sel 27 (by decide +kernel) rfl
theorem tw_760 : Cond.methodLink RX6 43 yX6_of ∈ jW := jW_tab 760 (by decide +kernel) (by decide +kernel)
theorem mlX6_43 : jV RX6 43 6 yX6_of cX6_of 3 (some .int) 2 := ⟨tw_760, tw_762, tp_27, tw_7, tw_763, ⟨TX6, 6, rfl⟩, ⟨by decide, by decide⟩, by decide⟩
theorem tw_767 : Cond.code yX6_placesMany cX6_placesMany 8 (some .boolean) ∈ jW := jW_tab 767 (by decide +kernel) (by decide +kernel)
theorem tw_766 : Cond.instanceMethod yX6_placesMany ∈ jW := jW_tab 766 (by decide +kernel) (by decide +kernel)
theorem tp_28 : Cond.selects RX6 yX6_placesMany yX6_placesMany ∈ jW := jW_sel 28 (by decide +kernel) rfl
theorem tw_764 : Cond.methodLink RX6 61 yX6_placesMany ∈ jW := jW_tab 764 (by decide +kernel) (by decide +kernel)
theorem mlX6_61 : jV RX6 61 6 yX6_placesMany cX6_placesMany 8 (some .boolean) 2 := ⟨tw_764, tw_766, tp_28, tw_7, tw_767, ⟨TX6, 6, rfl⟩, ⟨by decide, by decide⟩, by decide⟩
theorem tw_771 : Cond.code yX6_isFree cX6_isFree 6 (some .boolean) ∈ jW := jW_tab 771 (by decide +kernel) (by decide +kernel)
theorem tw_770 : Cond.instanceMethod yX6_isFree ∈ jW := jW_tab 770 (by decide +kernel) (by decide +kernel)
theorem tp_29 : Cond.selects RX6 yX6_isFree yX6_isFree ∈ jW := jW_sel 29 (by decide +kernel) rfl
theorem tw_768 : Cond.methodLink RX6 47 yX6_isFree ∈ jW := jW_tab 768 (by decide +kernel) (by decide +kernel)
theorem mlX6_47 : jV RX6 47 6 yX6_isFree cX6_isFree 6 (some .boolean) 3 := ⟨tw_768, tw_770, tp_29, tw_7, tw_771, ⟨TX6, 6, rfl⟩, ⟨by decide, by decide⟩, by decide⟩
theorem tw_775 : Cond.code yX6_takes cX6_takes 6 none ∈ jW := jW_tab 775 (by decide +kernel) (by decide +kernel)
theorem tw_774 : Cond.instanceMethod yX6_takes ∈ jW := jW_tab 774 (by decide +kernel) (by decide +kernel)
theorem tp_30 : Cond.selects RX6 yX6_takes yX6_takes ∈ jW := jW_sel 30 (by decide +kernel) rfl
theorem tw_772 : Cond.methodLink RX6 50 yX6_takes ∈ jW := jW_tab 772 (by decide +kernel) (by decide +kernel)
theorem mlX6_50 : jV RX6 50 6 yX6_takes cX6_takes 6 none 4 := ⟨tw_772, tw_774, tp_30, tw_7, tw_775, ⟨TX6, 6, rfl⟩, ⟨by decide, by decide⟩, by decide⟩
theorem tw_779 : Cond.code yX6_placesFew cX6_placesFew 5 (some .boolean) ∈ jW := jW_tab 779 (by decide +kernel) (by decide +kernel)
theorem tw_778 : Cond.instanceMethod yX6_placesFew ∈ jW := jW_tab 778 (by decide +kernel) (by decide +kernel)
theorem tp_31 : Cond.selects RX6 yX6_placesFew yX6_placesFew ∈ jW := jW_sel 31 (by decide +kernel) rfl
theorem tw_776 : Cond.methodLink RX6 65 yX6_placesFew ∈ jW := jW_tab 776 (by decide +kernel) (by decide +kernel)
theorem mlX6_65 : jV RX6 65 6 yX6_placesFew cX6_placesFew 5 (some .boolean) 2 := ⟨tw_776, tw_778, tp_31, tw_7, tw_779, ⟨TX6, 6, rfl⟩, ⟨by decide, by decide⟩, by decide⟩
theorem tw_783 : Cond.code yX6_takenWords cX6_takenWords 3 (some .int) ∈ jW := jW_tab 783 (by decide +kernel) (by decide +kernel)
theorem tw_782 : Cond.instanceMethod yX6_takenWords ∈ jW := jW_tab 782 (by decide +kernel) (by decide +kernel)
theorem tp_32 : Cond.selects RX6 yX6_takenWords yX6_takenWords ∈ jW := jW_sel 32 (by decide +kernel) rfl
theorem tw_780 : Cond.methodLink RX6 72 yX6_takenWords ∈ jW := jW_tab 780 (by decide +kernel) (by decide +kernel)
theorem mlX6_72 : jV RX6 72 6 yX6_takenWords cX6_takenWords 3 (some .int) 0 := ⟨tw_780, tw_782, tp_32, tw_7, tw_783, ⟨TX6, 6, rfl⟩, ⟨by decide, by decide⟩, by decide⟩
theorem tw_787 : Cond.code yX6_samplesPerMajor cX6_samplesPerMajor 2 (some .int) ∈ jW := jW_tab 787 (by decide +kernel) (by decide +kernel)
theorem tw_785 : Cond.instanceMethod yX6_samplesPerMajor ∈ jW := jW_tab 785 (by decide +kernel) (by decide +kernel)
theorem tw_786 : Cond.selects RX6 yX6_samplesPerMajor yX6_samplesPerMajor ∈ jW := jW_tab 786 (by decide +kernel) (by decide +kernel)
theorem tw_784 : Cond.methodLink RL 105 yX6_samplesPerMajor ∈ jW := jW_tab 784 (by decide +kernel) (by decide +kernel)
theorem mlL_105 : jV RL 105 6 yX6_samplesPerMajor cX6_samplesPerMajor 2 (some .int) 1 := ⟨tw_784, tw_785, tw_786, tw_7, tw_787, ⟨TX6, 6, rfl⟩, ⟨by decide, by decide⟩, by decide⟩
theorem tw_791 : Cond.code yX6_isParameter cX6_isParameter 2 (some .boolean) ∈ jW := jW_tab 791 (by decide +kernel) (by decide +kernel)
theorem tw_790 : Cond.instanceMethod yX6_isParameter ∈ jW := jW_tab 790 (by decide +kernel) (by decide +kernel)
theorem tp_33 : Cond.selects RX6 yX6_isParameter yX6_isParameter ∈ jW := jW_sel 33 (by decide +kernel) rfl
theorem tw_788 : Cond.methodLink RX6 75 yX6_isParameter ∈ jW := jW_tab 788 (by decide +kernel) (by decide +kernel)
theorem mlX6_75 : jV RX6 75 6 yX6_isParameter cX6_isParameter 2 (some .boolean) 1 := ⟨tw_788, tw_790, tp_33, tw_7, tw_791, ⟨TX6, 6, rfl⟩, ⟨by decide, by decide⟩, by decide⟩
theorem tw_795 : Cond.code yX6_slot cX6_slot 5 (some .int) ∈ jW := jW_tab 795 (by decide +kernel) (by decide +kernel)
theorem tw_793 : Cond.instanceMethod yX6_slot ∈ jW := jW_tab 793 (by decide +kernel) (by decide +kernel)
theorem tw_794 : Cond.selects RX6 yX6_slot yX6_slot ∈ jW := jW_tab 794 (by decide +kernel) (by decide +kernel)
theorem tw_792 : Cond.methodLink RL 109 yX6_slot ∈ jW := jW_tab 792 (by decide +kernel) (by decide +kernel)
theorem mlL_109 : jV RL 109 6 yX6_slot cX6_slot 5 (some .int) 3 := ⟨tw_792, tw_793, tw_794, tw_7, tw_795, ⟨TX6, 6, rfl⟩, ⟨by decide, by decide⟩, by decide⟩
theorem tw_799 : Cond.code yX6_slotOf cX6_slotOf 5 (some .int) ∈ jW := jW_tab 799 (by decide +kernel) (by decide +kernel)
theorem tw_798 : Cond.instanceMethod yX6_slotOf ∈ jW := jW_tab 798 (by decide +kernel) (by decide +kernel)
theorem tp_34 : Cond.selects RX6 yX6_slotOf yX6_slotOf ∈ jW := jW_sel 34 (by decide +kernel) rfl
theorem tw_796 : Cond.methodLink RX6 79 yX6_slotOf ∈ jW := jW_tab 796 (by decide +kernel) (by decide +kernel)
theorem mlX6_79 : jV RX6 79 6 yX6_slotOf cX6_slotOf 5 (some .int) 2 := ⟨tw_796, tw_798, tp_34, tw_7, tw_799, ⟨TX6, 6, rfl⟩, ⟨by decide, by decide⟩, by decide⟩
theorem tw_803 : Cond.code yX6_ownerOf cX6_ownerOf 3 (some .int) ∈ jW := jW_tab 803 (by decide +kernel) (by decide +kernel)
theorem tw_801 : Cond.instanceMethod yX6_ownerOf ∈ jW := jW_tab 801 (by decide +kernel) (by decide +kernel)
theorem tw_802 : Cond.selects RX6 yX6_ownerOf yX6_ownerOf ∈ jW := jW_tab 802 (by decide +kernel) (by decide +kernel)
theorem tw_800 : Cond.methodLink RL 112 yX6_ownerOf ∈ jW := jW_tab 800 (by decide +kernel) (by decide +kernel)
theorem mlL_112 : jV RL 112 6 yX6_ownerOf cX6_ownerOf 3 (some .int) 2 := ⟨tw_800, tw_801, tw_802, tw_7, tw_803, ⟨TX6, 6, rfl⟩, ⟨by decide, by decide⟩, by decide⟩
theorem tw_807 : Cond.code yX6_ownerAt cX6_ownerAt 3 (some .int) ∈ jW := jW_tab 807 (by decide +kernel) (by decide +kernel)
theorem tw_806 : Cond.instanceMethod yX6_ownerAt ∈ jW := jW_tab 806 (by decide +kernel) (by decide +kernel)
theorem tp_35 : Cond.selects RX6 yX6_ownerAt yX6_ownerAt ∈ jW := jW_sel 35 (by decide +kernel) rfl
theorem tw_804 : Cond.methodLink RX6 82 yX6_ownerAt ∈ jW := jW_tab 804 (by decide +kernel) (by decide +kernel)
theorem mlX6_82 : jV RX6 82 6 yX6_ownerAt cX6_ownerAt 3 (some .int) 2 := ⟨tw_804, tw_806, tp_35, tw_7, tw_807, ⟨TX6, 6, rfl⟩, ⟨by decide, by decide⟩, by decide⟩
theorem tw_811 : Cond.code yX6_efficiency cX6_efficiency 1 (some .double) ∈ jW := jW_tab 811 (by decide +kernel) (by decide +kernel)
theorem tw_809 : Cond.instanceMethod yX6_efficiency ∈ jW := jW_tab 809 (by decide +kernel) (by decide +kernel)
theorem tw_810 : Cond.selects RX6 yX6_efficiency yX6_efficiency ∈ jW := jW_tab 810 (by decide +kernel) (by decide +kernel)
theorem tw_808 : Cond.methodLink RL 116 yX6_efficiency ∈ jW := jW_tab 808 (by decide +kernel) (by decide +kernel)
theorem mlL_116 : jV RL 116 6 yX6_efficiency cX6_efficiency 1 (some .double) 0 := ⟨tw_808, tw_809, tw_810, tw_7, tw_811, ⟨TX6, 6, rfl⟩, ⟨by decide, by decide⟩, by decide⟩
theorem tw_815 : Cond.code yX6_setValue cX6_setValue 4 (some .int) ∈ jW := jW_tab 815 (by decide +kernel) (by decide +kernel)
theorem tw_813 : Cond.instanceMethod yX6_setValue ∈ jW := jW_tab 813 (by decide +kernel) (by decide +kernel)
theorem tw_814 : Cond.selects RX6 yX6_setValue yX6_setValue ∈ jW := jW_tab 814 (by decide +kernel) (by decide +kernel)
theorem tw_812 : Cond.methodLink RL 119 yX6_setValue ∈ jW := jW_tab 812 (by decide +kernel) (by decide +kernel)
theorem mlL_119 : jV RL 119 6 yX6_setValue cX6_setValue 4 (some .int) 2 := ⟨tw_812, tw_813, tw_814, tw_7, tw_815, ⟨TX6, 6, rfl⟩, ⟨by decide, by decide⟩, by decide⟩
theorem tw_819 : Cond.code yX6_send cX6_send 3 (some .int) ∈ jW := jW_tab 819 (by decide +kernel) (by decide +kernel)
theorem tw_817 : Cond.instanceMethod yX6_send ∈ jW := jW_tab 817 (by decide +kernel) (by decide +kernel)
theorem tw_818 : Cond.selects RX6 yX6_send yX6_send ∈ jW := jW_tab 818 (by decide +kernel) (by decide +kernel)
theorem tw_816 : Cond.methodLink RL 122 yX6_send ∈ jW := jW_tab 816 (by decide +kernel) (by decide +kernel)
theorem mlL_122 : jV RL 122 6 yX6_send cX6_send 3 (some .int) 1 := ⟨tw_816, tw_817, tw_818, tw_7, tw_819, ⟨TX6, 6, rfl⟩, ⟨by decide, by decide⟩, by decide⟩
theorem tw_823 : Cond.code yX6_sends cX6_sends 4 none ∈ jW := jW_tab 823 (by decide +kernel) (by decide +kernel)
theorem tw_822 : Cond.instanceMethod yX6_sends ∈ jW := jW_tab 822 (by decide +kernel) (by decide +kernel)
theorem tp_36 : Cond.selects RX6 yX6_sends yX6_sends ∈ jW := jW_sel 36 (by decide +kernel) rfl
theorem tw_820 : Cond.methodLink RX6 88 yX6_sends ∈ jW := jW_tab 820 (by decide +kernel) (by decide +kernel)
theorem mlX6_88 : jV RX6 88 6 yX6_sends cX6_sends 4 none 0 := ⟨tw_820, tw_822, tp_36, tw_7, tw_823, ⟨TX6, 6, rfl⟩, ⟨by decide, by decide⟩, by decide⟩
theorem tw_827 : Cond.code yX6_wordOf cX6_wordOf 4 (some .int) ∈ jW := jW_tab 827 (by decide +kernel) (by decide +kernel)
theorem tw_826 : Cond.instanceMethod yX6_wordOf ∈ jW := jW_tab 826 (by decide +kernel) (by decide +kernel)
theorem tp_37 : Cond.selects RX6 yX6_wordOf yX6_wordOf ∈ jW := jW_sel 37 (by decide +kernel) rfl
theorem tw_824 : Cond.methodLink RX6 85 yX6_wordOf ∈ jW := jW_tab 824 (by decide +kernel) (by decide +kernel)
theorem mlX6_85 : jV RX6 85 6 yX6_wordOf cX6_wordOf 4 (some .int) 2 := ⟨tw_824, tw_826, tp_37, tw_7, tw_827, ⟨TX6, 6, rfl⟩, ⟨by decide, by decide⟩, by decide⟩
theorem tw_831 : Cond.code yX6_pending cX6_pending 1 (some .int) ∈ jW := jW_tab 831 (by decide +kernel) (by decide +kernel)
theorem tw_829 : Cond.instanceMethod yX6_pending ∈ jW := jW_tab 829 (by decide +kernel) (by decide +kernel)
theorem tw_830 : Cond.selects RX6 yX6_pending yX6_pending ∈ jW := jW_tab 830 (by decide +kernel) (by decide +kernel)
theorem tw_828 : Cond.methodLink RL 126 yX6_pending ∈ jW := jW_tab 828 (by decide +kernel) (by decide +kernel)
theorem mlL_126 : jV RL 126 6 yX6_pending cX6_pending 1 (some .int) 0 := ⟨tw_828, tw_829, tw_830, tw_7, tw_831, ⟨TX6, 6, rfl⟩, ⟨by decide, by decide⟩, by decide⟩
theorem tw_835 : Cond.code yX6_bit cX6_bit 2 (some .int) ∈ jW := jW_tab 835 (by decide +kernel) (by decide +kernel)
theorem tw_833 : Cond.instanceMethod yX6_bit ∈ jW := jW_tab 833 (by decide +kernel) (by decide +kernel)
theorem tw_834 : Cond.selects RX6 yX6_bit yX6_bit ∈ jW := jW_tab 834 (by decide +kernel) (by decide +kernel)
theorem tw_832 : Cond.methodLink RL 129 yX6_bit ∈ jW := jW_tab 832 (by decide +kernel) (by decide +kernel)
theorem mlL_129 : jV RL 129 6 yX6_bit cX6_bit 2 (some .int) 1 := ⟨tw_832, tw_833, tw_834, tw_7, tw_835, ⟨TX6, 6, rfl⟩, ⟨by decide, by decide⟩, by decide⟩
theorem tw_839 : Cond.code yX6_isBit cX6_isBit 2 (some .boolean) ∈ jW := jW_tab 839 (by decide +kernel) (by decide +kernel)
theorem tw_838 : Cond.instanceMethod yX6_isBit ∈ jW := jW_tab 838 (by decide +kernel) (by decide +kernel)
theorem tp_38 : Cond.selects RX6 yX6_isBit yX6_isBit ∈ jW := jW_sel 38 (by decide +kernel) rfl
theorem tw_836 : Cond.methodLink RX6 91 yX6_isBit ∈ jW := jW_tab 836 (by decide +kernel) (by decide +kernel)
theorem mlX6_91 : jV RX6 91 6 yX6_isBit cX6_isBit 2 (some .boolean) 1 := ⟨tw_836, tw_838, tp_38, tw_7, tw_839, ⟨TX6, 6, rfl⟩, ⟨by decide, by decide⟩, by decide⟩
theorem tw_843 : Cond.code yX6_disturb cX6_disturb 3 (some .int) ∈ jW := jW_tab 843 (by decide +kernel) (by decide +kernel)
theorem tw_841 : Cond.instanceMethod yX6_disturb ∈ jW := jW_tab 841 (by decide +kernel) (by decide +kernel)
theorem tw_842 : Cond.selects RX6 yX6_disturb yX6_disturb ∈ jW := jW_tab 842 (by decide +kernel) (by decide +kernel)
theorem tw_840 : Cond.methodLink RL 132 yX6_disturb ∈ jW := jW_tab 840 (by decide +kernel) (by decide +kernel)
theorem mlL_132 : jV RL 132 6 yX6_disturb cX6_disturb 3 (some .int) 2 := ⟨tw_840, tw_841, tw_842, tw_7, tw_843, ⟨TX6, 6, rfl⟩, ⟨by decide, by decide⟩, by decide⟩
theorem tw_847 : Cond.code yX6_removes cX6_removes 3 none ∈ jW := jW_tab 847 (by decide +kernel) (by decide +kernel)
theorem tw_846 : Cond.instanceMethod yX6_removes ∈ jW := jW_tab 846 (by decide +kernel) (by decide +kernel)
theorem tp_39 : Cond.selects RX6 yX6_removes yX6_removes ∈ jW := jW_sel 39 (by decide +kernel) rfl
theorem tw_844 : Cond.methodLink RX6 94 yX6_removes ∈ jW := jW_tab 844 (by decide +kernel) (by decide +kernel)
theorem mlX6_94 : jV RX6 94 6 yX6_removes cX6_removes 3 none 1 := ⟨tw_844, tw_846, tp_39, tw_7, tw_847, ⟨TX6, 6, rfl⟩, ⟨by decide, by decide⟩, by decide⟩
theorem tw_851 : Cond.code yX6_inserts cX6_inserts 4 none ∈ jW := jW_tab 851 (by decide +kernel) (by decide +kernel)
theorem tw_850 : Cond.instanceMethod yX6_inserts ∈ jW := jW_tab 850 (by decide +kernel) (by decide +kernel)
theorem tp_40 : Cond.selects RX6 yX6_inserts yX6_inserts ∈ jW := jW_sel 40 (by decide +kernel) rfl
theorem tw_848 : Cond.methodLink RX6 98 yX6_inserts ∈ jW := jW_tab 848 (by decide +kernel) (by decide +kernel)
theorem mlX6_98 : jV RX6 98 6 yX6_inserts cX6_inserts 4 none 2 := ⟨tw_848, tw_850, tp_40, tw_7, tw_851, ⟨TX6, 6, rfl⟩, ⟨by decide, by decide⟩, by decide⟩
theorem tw_855 : Cond.code yX6_receive cX6_receive 4 (some .int) ∈ jW := jW_tab 855 (by decide +kernel) (by decide +kernel)
theorem tw_853 : Cond.instanceMethod yX6_receive ∈ jW := jW_tab 853 (by decide +kernel) (by decide +kernel)
theorem tw_854 : Cond.selects RX6 yX6_receive yX6_receive ∈ jW := jW_tab 854 (by decide +kernel) (by decide +kernel)
theorem tw_852 : Cond.methodLink RL 135 yX6_receive ∈ jW := jW_tab 852 (by decide +kernel) (by decide +kernel)
theorem mlL_135 : jV RL 135 6 yX6_receive cX6_receive 4 (some .int) 1 := ⟨tw_852, tw_853, tw_854, tw_7, tw_855, ⟨TX6, 6, rfl⟩, ⟨by decide, by decide⟩, by decide⟩
theorem tw_859 : Cond.code yX6_takesBit cX6_takesBit 2 none ∈ jW := jW_tab 859 (by decide +kernel) (by decide +kernel)
theorem tw_858 : Cond.instanceMethod yX6_takesBit ∈ jW := jW_tab 858 (by decide +kernel) (by decide +kernel)
theorem tp_41 : Cond.selects RX6 yX6_takesBit yX6_takesBit ∈ jW := jW_sel 41 (by decide +kernel) rfl
theorem tw_856 : Cond.methodLink RX6 122 yX6_takesBit ∈ jW := jW_tab 856 (by decide +kernel) (by decide +kernel)
theorem mlX6_122 : jV RX6 122 6 yX6_takesBit cX6_takesBit 2 none 1 := ⟨tw_856, tw_858, tp_41, tw_7, tw_859, ⟨TX6, 6, rfl⟩, ⟨by decide, by decide⟩, by decide⟩
theorem tw_863 : Cond.code yX6_takesIntoFrame cX6_takesIntoFrame 3 none ∈ jW := jW_tab 863 (by decide +kernel) (by decide +kernel)
theorem tw_862 : Cond.instanceMethod yX6_takesIntoFrame ∈ jW := jW_tab 862 (by decide +kernel) (by decide +kernel)
theorem tp_42 : Cond.selects RX6 yX6_takesIntoFrame yX6_takesIntoFrame ∈ jW := jW_sel 42 (by decide +kernel) rfl
theorem tw_860 : Cond.methodLink RX6 112 yX6_takesIntoFrame ∈ jW := jW_tab 860 (by decide +kernel) (by decide +kernel)
theorem mlX6_112 : jV RX6 112 6 yX6_takesIntoFrame cX6_takesIntoFrame 3 none 1 := ⟨tw_860, tw_862, tp_42, tw_7, tw_863, ⟨TX6, 6, rfl⟩, ⟨by decide, by decide⟩, by decide⟩
theorem tw_867 : Cond.code yX6_delivers cX6_delivers 4 none ∈ jW := jW_tab 867 (by decide +kernel) (by decide +kernel)
theorem tw_866 : Cond.instanceMethod yX6_delivers ∈ jW := jW_tab 866 (by decide +kernel) (by decide +kernel)
theorem tp_43 : Cond.selects RX6 yX6_delivers yX6_delivers ∈ jW := jW_sel 43 (by decide +kernel) rfl
theorem tw_864 : Cond.methodLink RX6 105 yX6_delivers ∈ jW := jW_tab 864 (by decide +kernel) (by decide +kernel)
theorem mlX6_105 : jV RX6 105 6 yX6_delivers cX6_delivers 4 none 0 := ⟨tw_864, tw_866, tp_43, tw_7, tw_867, ⟨TX6, 6, rfl⟩, ⟨by decide, by decide⟩, by decide⟩
theorem tw_871 : Cond.code yX6_receivesSample cX6_receivesSample 4 none ∈ jW := jW_tab 871 (by decide +kernel) (by decide +kernel)
theorem tw_870 : Cond.instanceMethod yX6_receivesSample ∈ jW := jW_tab 870 (by decide +kernel) (by decide +kernel)
theorem tp_44 : Cond.selects RX6 yX6_receivesSample yX6_receivesSample ∈ jW := jW_sel 44 (by decide +kernel) rfl
theorem tw_868 : Cond.methodLink RX6 102 yX6_receivesSample ∈ jW := jW_tab 868 (by decide +kernel) (by decide +kernel)
theorem mlX6_102 : jV RX6 102 6 yX6_receivesSample cX6_receivesSample 4 none 2 := ⟨tw_868, tw_870, tp_44, tw_7, tw_871, ⟨TX6, 6, rfl⟩, ⟨by decide, by decide⟩, by decide⟩
theorem tw_876 : Cond.code yX6_takesOneMore cX6_takesOneMore 2 none ∈ jW := jW_tab 876 (by decide +kernel) (by decide +kernel)
theorem tw_875 : Cond.instanceMethod yX6_takesOneMore ∈ jW := jW_tab 875 (by decide +kernel) (by decide +kernel)
theorem tp_45 : Cond.selects RX6 yX6_takesOneMore yX6_takesOneMore ∈ jW := jW_sel 45 (by decide +kernel) rfl
theorem tw_873 : Cond.methodLink RX6 116 yX6_takesOneMore ∈ jW := jW_tab 873 (by decide +kernel) (by decide +kernel)
theorem mlX6_116 : jV RX6 116 6 yX6_takesOneMore cX6_takesOneMore 2 none 1 := ⟨tw_873, tw_875, tp_45, tw_7, tw_876, ⟨TX6, 6, rfl⟩, ⟨by decide, by decide⟩, by decide⟩
theorem tw_881 : Cond.code yX6_beginsFrame cX6_beginsFrame 2 none ∈ jW := jW_tab 881 (by decide +kernel) (by decide +kernel)
theorem tw_880 : Cond.instanceMethod yX6_beginsFrame ∈ jW := jW_tab 880 (by decide +kernel) (by decide +kernel)
theorem tp_46 : Cond.selects RX6 yX6_beginsFrame yX6_beginsFrame ∈ jW := jW_sel 46 (by decide +kernel) rfl
theorem tw_878 : Cond.methodLink RX6 109 yX6_beginsFrame ∈ jW := jW_tab 878 (by decide +kernel) (by decide +kernel)
theorem mlX6_109 : jV RX6 109 6 yX6_beginsFrame cX6_beginsFrame 2 none 0 := ⟨tw_878, tw_880, tp_46, tw_7, tw_881, ⟨TX6, 6, rfl⟩, ⟨by decide, by decide⟩, by decide⟩
theorem tw_885 : Cond.code yX6_compares cX6_compares 2 none ∈ jW := jW_tab 885 (by decide +kernel) (by decide +kernel)
theorem tw_884 : Cond.instanceMethod yX6_compares ∈ jW := jW_tab 884 (by decide +kernel) (by decide +kernel)
theorem tp_47 : Cond.selects RX6 yX6_compares yX6_compares ∈ jW := jW_sel 47 (by decide +kernel) rfl
theorem tw_882 : Cond.methodLink RX6 119 yX6_compares ∈ jW := jW_tab 882 (by decide +kernel) (by decide +kernel)
theorem mlX6_119 : jV RX6 119 6 yX6_compares cX6_compares 2 none 0 := ⟨tw_882, tw_884, tp_47, tw_7, tw_885, ⟨TX6, 6, rfl⟩, ⟨by decide, by decide⟩, by decide⟩
theorem tw_889 : Cond.code yX6_receiverState cX6_receiverState 1 (some .int) ∈ jW := jW_tab 889 (by decide +kernel) (by decide +kernel)
theorem tw_887 : Cond.instanceMethod yX6_receiverState ∈ jW := jW_tab 887 (by decide +kernel) (by decide +kernel)
theorem tw_888 : Cond.selects RX6 yX6_receiverState yX6_receiverState ∈ jW := jW_tab 888 (by decide +kernel) (by decide +kernel)
theorem tw_886 : Cond.methodLink RL 139 yX6_receiverState ∈ jW := jW_tab 886 (by decide +kernel) (by decide +kernel)
theorem mlL_139 : jV RL 139 6 yX6_receiverState cX6_receiverState 1 (some .int) 0 := ⟨tw_886, tw_887, tw_888, tw_7, tw_889, ⟨TX6, 6, rfl⟩, ⟨by decide, by decide⟩, by decide⟩
theorem tw_893 : Cond.code yX6_received cX6_received 2 (some .int) ∈ jW := jW_tab 893 (by decide +kernel) (by decide +kernel)
theorem tw_891 : Cond.instanceMethod yX6_received ∈ jW := jW_tab 891 (by decide +kernel) (by decide +kernel)
theorem tw_892 : Cond.selects RX6 yX6_received yX6_received ∈ jW := jW_tab 892 (by decide +kernel) (by decide +kernel)
theorem tw_890 : Cond.methodLink RL 142 yX6_received ∈ jW := jW_tab 890 (by decide +kernel) (by decide +kernel)
theorem mlL_142 : jV RL 142 6 yX6_received cX6_received 2 (some .int) 1 := ⟨tw_890, tw_891, tw_892, tw_7, tw_893, ⟨TX6, 6, rfl⟩, ⟨by decide, by decide⟩, by decide⟩
theorem tw_897 : Cond.code yX6_sample cX6_sample 2 (some .int) ∈ jW := jW_tab 897 (by decide +kernel) (by decide +kernel)
theorem tw_895 : Cond.instanceMethod yX6_sample ∈ jW := jW_tab 895 (by decide +kernel) (by decide +kernel)
theorem tw_896 : Cond.selects RX6 yX6_sample yX6_sample ∈ jW := jW_tab 896 (by decide +kernel) (by decide +kernel)
theorem tw_894 : Cond.methodLink RL 145 yX6_sample ∈ jW := jW_tab 894 (by decide +kernel) (by decide +kernel)
theorem mlL_145 : jV RL 145 6 yX6_sample cX6_sample 2 (some .int) 1 := ⟨tw_894, tw_895, tw_896, tw_7, tw_897, ⟨TX6, 6, rfl⟩, ⟨by decide, by decide⟩, by decide⟩
theorem tw_901 : Cond.code yX6_tells cX6_tells 3 (some .int) ∈ jW := jW_tab 901 (by decide +kernel) (by decide +kernel)
theorem tw_900 : Cond.instanceMethod yX6_tells ∈ jW := jW_tab 900 (by decide +kernel) (by decide +kernel)
theorem tp_48 : Cond.selects RX6 yX6_tells yX6_tells ∈ jW := jW_sel 48 (by decide +kernel) rfl
theorem tw_898 : Cond.methodLink RX6 125 yX6_tells ∈ jW := jW_tab 898 (by decide +kernel) (by decide +kernel)
theorem mlX6_125 : jV RX6 125 6 yX6_tells cX6_tells 3 (some .int) 2 := ⟨tw_898, tw_900, tp_48, tw_7, tw_901, ⟨TX6, 6, rfl⟩, ⟨by decide, by decide⟩, by decide⟩
theorem tw_905 : Cond.code yX6_samples cX6_samples 2 (some .int) ∈ jW := jW_tab 905 (by decide +kernel) (by decide +kernel)
theorem tw_903 : Cond.instanceMethod yX6_samples ∈ jW := jW_tab 903 (by decide +kernel) (by decide +kernel)
theorem tw_904 : Cond.selects RX6 yX6_samples yX6_samples ∈ jW := jW_tab 904 (by decide +kernel) (by decide +kernel)
theorem tw_902 : Cond.methodLink RL 148 yX6_samples ∈ jW := jW_tab 902 (by decide +kernel) (by decide +kernel)
theorem mlL_148 : jV RL 148 6 yX6_samples cX6_samples 2 (some .int) 1 := ⟨tw_902, tw_903, tw_904, tw_7, tw_905, ⟨TX6, 6, rfl⟩, ⟨by decide, by decide⟩, by decide⟩
theorem tw_909 : Cond.code yX6_setMode cX6_setMode 3 (some .int) ∈ jW := jW_tab 909 (by decide +kernel) (by decide +kernel)
theorem tw_907 : Cond.instanceMethod yX6_setMode ∈ jW := jW_tab 907 (by decide +kernel) (by decide +kernel)
theorem tw_908 : Cond.selects RX6 yX6_setMode yX6_setMode ∈ jW := jW_tab 908 (by decide +kernel) (by decide +kernel)
theorem tw_906 : Cond.methodLink RL 151 yX6_setMode ∈ jW := jW_tab 906 (by decide +kernel) (by decide +kernel)
theorem mlL_151 : jV RL 151 6 yX6_setMode cX6_setMode 3 (some .int) 1 := ⟨tw_906, tw_907, tw_908, tw_7, tw_909, ⟨TX6, 6, rfl⟩, ⟨by decide, by decide⟩, by decide⟩
theorem tw_913 : Cond.code yX6_setLimits cX6_setLimits 7 (some .int) ∈ jW := jW_tab 913 (by decide +kernel) (by decide +kernel)
theorem tw_911 : Cond.instanceMethod yX6_setLimits ∈ jW := jW_tab 911 (by decide +kernel) (by decide +kernel)
theorem tw_912 : Cond.selects RX6 yX6_setLimits yX6_setLimits ∈ jW := jW_tab 912 (by decide +kernel) (by decide +kernel)
theorem tw_910 : Cond.methodLink RL 155 yX6_setLimits ∈ jW := jW_tab 910 (by decide +kernel) (by decide +kernel)
theorem mlL_155 : jV RL 155 6 yX6_setLimits cX6_setLimits 7 (some .int) 4 := ⟨tw_910, tw_911, tw_912, tw_7, tw_913, ⟨TX6, 6, rfl⟩, ⟨by decide, by decide⟩, by decide⟩
theorem tw_917 : Cond.code yX6_setPersistence cX6_setPersistence 4 (some .int) ∈ jW := jW_tab 917 (by decide +kernel) (by decide +kernel)
theorem tw_915 : Cond.instanceMethod yX6_setPersistence ∈ jW := jW_tab 915 (by decide +kernel) (by decide +kernel)
theorem tw_916 : Cond.selects RX6 yX6_setPersistence yX6_setPersistence ∈ jW := jW_tab 916 (by decide +kernel) (by decide +kernel)
theorem tw_914 : Cond.methodLink RL 158 yX6_setPersistence ∈ jW := jW_tab 914 (by decide +kernel) (by decide +kernel)
theorem mlL_158 : jV RL 158 6 yX6_setPersistence cX6_setPersistence 4 (some .int) 2 := ⟨tw_914, tw_915, tw_916, tw_7, tw_917, ⟨TX6, 6, rfl⟩, ⟨by decide, by decide⟩, by decide⟩
theorem tw_921 : Cond.code yX6_hasAlarm cX6_hasAlarm 2 (some .boolean) ∈ jW := jW_tab 921 (by decide +kernel) (by decide +kernel)
theorem tw_919 : Cond.instanceMethod yX6_hasAlarm ∈ jW := jW_tab 919 (by decide +kernel) (by decide +kernel)
theorem tw_920 : Cond.selects RX6 yX6_hasAlarm yX6_hasAlarm ∈ jW := jW_tab 920 (by decide +kernel) (by decide +kernel)
theorem tw_918 : Cond.methodLink RL 161 yX6_hasAlarm ∈ jW := jW_tab 918 (by decide +kernel) (by decide +kernel)
theorem mlL_161 : jV RL 161 6 yX6_hasAlarm cX6_hasAlarm 2 (some .boolean) 1 := ⟨tw_918, tw_919, tw_920, tw_7, tw_921, ⟨TX6, 6, rfl⟩, ⟨by decide, by decide⟩, by decide⟩
theorem tw_925 : Cond.code yX6_alarms cX6_alarms 2 (some .int) ∈ jW := jW_tab 925 (by decide +kernel) (by decide +kernel)
theorem tw_923 : Cond.instanceMethod yX6_alarms ∈ jW := jW_tab 923 (by decide +kernel) (by decide +kernel)
theorem tw_924 : Cond.selects RX6 yX6_alarms yX6_alarms ∈ jW := jW_tab 924 (by decide +kernel) (by decide +kernel)
theorem tw_922 : Cond.methodLink RL 164 yX6_alarms ∈ jW := jW_tab 922 (by decide +kernel) (by decide +kernel)
theorem mlL_164 : jV RL 164 6 yX6_alarms cX6_alarms 2 (some .int) 1 := ⟨tw_922, tw_923, tw_924, tw_7, tw_925, ⟨TX6, 6, rfl⟩, ⟨by decide, by decide⟩, by decide⟩
theorem tw_929 : Cond.code yX6_undo cX6_undo 2 (some .int) ∈ jW := jW_tab 929 (by decide +kernel) (by decide +kernel)
theorem tw_927 : Cond.instanceMethod yX6_undo ∈ jW := jW_tab 927 (by decide +kernel) (by decide +kernel)
theorem tw_928 : Cond.selects RX6 yX6_undo yX6_undo ∈ jW := jW_tab 928 (by decide +kernel) (by decide +kernel)
theorem tw_926 : Cond.methodLink RL 168 yX6_undo ∈ jW := jW_tab 926 (by decide +kernel) (by decide +kernel)
theorem mlL_168 : jV RL 168 6 yX6_undo cX6_undo 2 (some .int) 0 := ⟨tw_926, tw_927, tw_928, tw_7, tw_929, ⟨TX6, 6, rfl⟩, ⟨by decide, by decide⟩, by decide⟩
theorem tw_933 : Cond.code yX6_digest cX6_digest 2 (some .long) ∈ jW := jW_tab 933 (by decide +kernel) (by decide +kernel)
theorem tw_931 : Cond.instanceMethod yX6_digest ∈ jW := jW_tab 931 (by decide +kernel) (by decide +kernel)
theorem tw_932 : Cond.selects RX6 yX6_digest yX6_digest ∈ jW := jW_tab 932 (by decide +kernel) (by decide +kernel)
theorem tw_930 : Cond.methodLink RL 173 yX6_digest ∈ jW := jW_tab 930 (by decide +kernel) (by decide +kernel)
theorem mlL_173 : jV RL 173 6 yX6_digest cX6_digest 2 (some .long) 0 := ⟨tw_930, tw_931, tw_932, tw_7, tw_933, ⟨TX6, 6, rfl⟩, ⟨by decide, by decide⟩, by decide⟩
theorem tw_938 : Cond.code yX6_mix cX6_mix 3 none ∈ jW := jW_tab 938 (by decide +kernel) (by decide +kernel)
theorem tw_937 : Cond.instanceMethod yX6_mix ∈ jW := jW_tab 937 (by decide +kernel) (by decide +kernel)
theorem tp_49 : Cond.selects RX6 yX6_mix yX6_mix ∈ jW := jW_sel 49 (by decide +kernel) rfl
theorem tw_935 : Cond.methodLink RX6 134 yX6_mix ∈ jW := jW_tab 935 (by decide +kernel) (by decide +kernel)
theorem mlX6_134 : jV RX6 134 6 yX6_mix cX6_mix 3 none 1 := ⟨tw_935, tw_937, tp_49, tw_7, tw_938, ⟨TX6, 6, rfl⟩, ⟨by decide, by decide⟩, by decide⟩
theorem tw_943 : Cond.code yX6_mixPlan cX6_mixPlan 2 none ∈ jW := jW_tab 943 (by decide +kernel) (by decide +kernel)
theorem tw_942 : Cond.instanceMethod yX6_mixPlan ∈ jW := jW_tab 942 (by decide +kernel) (by decide +kernel)
theorem tp_50 : Cond.selects RX6 yX6_mixPlan yX6_mixPlan ∈ jW := jW_sel 50 (by decide +kernel) rfl
theorem tw_940 : Cond.methodLink RX6 140 yX6_mixPlan ∈ jW := jW_tab 940 (by decide +kernel) (by decide +kernel)
theorem mlX6_140 : jV RX6 140 6 yX6_mixPlan cX6_mixPlan 2 none 0 := ⟨tw_940, tw_942, tp_50, tw_7, tw_943, ⟨TX6, 6, rfl⟩, ⟨by decide, by decide⟩, by decide⟩
theorem tw_16 : Cond.classLink RL 8 RX5 ∈ jW := jW_tab 16 (by decide +kernel) (by decide +kernel)
theorem tw_17 : Cond.instantiable RX5 5 ∈ jW := jW_tab 17 (by decide +kernel) (by decide +kernel)
theorem mkL_8 : jMk RL 8 5 5 [.null, .null, .int 0, .int 0, .null] := ⟨RX5, TX5, tyX5, rfl, in9X5, tyX5_ok, tw_16, tw_17, tw_1, fun j hj => match j, hj with | 0, _ => rfl | 1, _ => rfl | 2, _ => rfl | 3, _ => rfl | 4, _ => rfl | k + 5, h => absurd h (by omega)⟩
theorem tw_24 : Cond.classLink RX5 9 RX4 ∈ jW := jW_tab 24 (by decide +kernel) (by decide +kernel)
theorem tw_25 : Cond.instantiable RX4 7 ∈ jW := jW_tab 25 (by decide +kernel) (by decide +kernel)
theorem mkX5_9 : jMk RX5 9 4 7 [.null, .null, .int 0, .int 0, .null, .null, .int 0] := ⟨RX4, TX4, tyX4, rfl, in9X4, tyX4_ok, tw_24, tw_25, tw_2, fun j hj => match j, hj with | 0, _ => rfl | 1, _ => rfl | 2, _ => rfl | 3, _ => rfl | 4, _ => rfl | 5, _ => rfl | 6, _ => rfl | k + 7, h => absurd h (by omega)⟩
theorem tw_30 : Cond.classLink RX4 9 RX1 ∈ jW := jW_tab 30 (by decide +kernel) (by decide +kernel)
theorem tw_31 : Cond.instantiable RX1 5 ∈ jW := jW_tab 31 (by decide +kernel) (by decide +kernel)
theorem mkX4_9 : jMk RX4 9 1 5 [.int 0, .int 0, .int 0, .int 0, .null] := ⟨RX1, TX1, tyX1, rfl, in9X1, tyX1_ok, tw_30, tw_31, tw_3, fun j hj => match j, hj with | 0, _ => rfl | 1, _ => rfl | 2, _ => rfl | 3, _ => rfl | 4, _ => rfl | k + 5, h => absurd h (by omega)⟩
theorem tw_60 : Cond.classLink RX4 18 RX2 ∈ jW := jW_tab 60 (by decide +kernel) (by decide +kernel)
theorem tw_108 : Cond.instantiable RX2 10 ∈ jW := jW_tab 108 (by decide +kernel) (by decide +kernel)
theorem mkX4_18 : jMk RX4 18 2 10 [.int 0, .int 0, .int 0, .int 0, .null, .null, .int 0, .int 0, .int 0, .int 0] := ⟨RX2, TX2, tyX2, rfl, in9X2, tyX2_ok, tw_60, tw_108, tw_6, fun j hj => match j, hj with | 0, _ => rfl | 1, _ => rfl | 2, _ => rfl | 3, _ => rfl | 4, _ => rfl | 5, _ => rfl | 6, _ => rfl | 7, _ => rfl | 8, _ => rfl | 9, _ => rfl | k + 10, h => absurd h (by omega)⟩
theorem tw_62 : Cond.classLink RX4 31 RX0 ∈ jW := jW_tab 62 (by decide +kernel) (by decide +kernel)
theorem tw_63 : Cond.instantiable RX0 2 ∈ jW := jW_tab 63 (by decide +kernel) (by decide +kernel)
theorem mkX4_31 : jMk RX4 31 0 2 [.null, .int 0] := ⟨RX0, TX0, tyX0, rfl, in9X0, tyX0_ok, tw_62, tw_63, tw_4, fun j hj => match j, hj with | 0, _ => rfl | 1, _ => rfl | k + 2, h => absurd h (by omega)⟩
theorem tw_79 : Cond.classLink RX4 38 RX3 ∈ jW := jW_tab 79 (by decide +kernel) (by decide +kernel)
theorem tw_80 : Cond.instantiable RX3 6 ∈ jW := jW_tab 80 (by decide +kernel) (by decide +kernel)
theorem mkX4_38 : jMk RX4 38 3 6 [.int 0, .int 0, .null, .null, .int 0, .int 0] := ⟨RX3, TX3, tyX3, rfl, in9X3, tyX3_ok, tw_79, tw_80, tw_5, fun j hj => match j, hj with | 0, _ => rfl | 1, _ => rfl | 2, _ => rfl | 3, _ => rfl | 4, _ => rfl | 5, _ => rfl | k + 6, h => absurd h (by omega)⟩
theorem tw_183 : Cond.classLink RX5 27 RX1 ∈ jW := jW_tab 183 (by decide +kernel) (by decide +kernel)
theorem mkX5_27 : jMk RX5 27 1 5 [.int 0, .int 0, .int 0, .int 0, .null] := ⟨RX1, TX1, tyX1, rfl, in9X1, tyX1_ok, tw_183, tw_31, tw_3, fun j hj => match j, hj with | 0, _ => rfl | 1, _ => rfl | 2, _ => rfl | 3, _ => rfl | 4, _ => rfl | k + 5, h => absurd h (by omega)⟩
theorem tw_688 : Cond.classLink RL 83 RX6 ∈ jW := jW_tab 688 (by decide +kernel) (by decide +kernel)
theorem tw_689 : Cond.instantiable RX6 6 ∈ jW := jW_tab 689 (by decide +kernel) (by decide +kernel)
theorem mkL_83 : jMk RL 83 6 6 [.null, .null, .int 0, .int 0, .null, .long 0] := ⟨RX6, TX6, tyX6, rfl, in9X6, tyX6_ok, tw_688, tw_689, tw_7, fun j hj => match j, hj with | 0, _ => rfl | 1, _ => rfl | 2, _ => rfl | 3, _ => rfl | 4, _ => rfl | 5, _ => rfl | k + 6, h => absurd h (by omega)⟩
theorem tw_59 : Cond.arrayClass .int ∈ jW := jW_tab 59 (by decide +kernel) (by decide +kernel)
theorem tw_303 : Cond.constantLong RX5 173 2837 ∈ jW := jW_tab 303 (by decide +kernel) (by decide +kernel)
theorem tw_311 : Cond.constantLong RX5 210 31 ∈ jW := jW_tab 311 (by decide +kernel) (by decide +kernel)
theorem tw_327 : Cond.constantLong RX0 29 31 ∈ jW := jW_tab 327 (by decide +kernel) (by decide +kernel)
theorem tw_412 : Cond.arrayClass .byte ∈ jW := jW_tab 412 (by decide +kernel) (by decide +kernel)
theorem tw_586 : Cond.constant RX3 50 65535 ∈ jW := jW_tab 586 (by decide +kernel) (by decide +kernel)
theorem tw_587 : Cond.constant RX3 51 60304 ∈ jW := jW_tab 587 (by decide +kernel) (by decide +kernel)
theorem tw_872 : Cond.constant RX6 115 65535 ∈ jW := jW_tab 872 (by decide +kernel) (by decide +kernel)
theorem tw_877 : Cond.constant RX6 108 60304 ∈ jW := jW_tab 877 (by decide +kernel) (by decide +kernel)
theorem tw_934 : Cond.constantLong RX6 138 2837 ∈ jW := jW_tab 934 (by decide +kernel) (by decide +kernel)
theorem tw_939 : Cond.constantLong RX6 128 31 ∈ jW := jW_tab 939 (by decide +kernel) (by decide +kernel)
theorem tw_944 : Cond.arrayClass .long ∈ jW := jW_tab 944 (by decide +kernel) (by decide +kernel)
theorem tw_945 : Cond.arrayClass .double ∈ jW := jW_tab 945 (by decide +kernel) (by decide +kernel)
end
section
/-! ===== cells side by side from an address on ===== -/
def gB (F : GH) (h0 : Nat) (es : List va_E) : GH := fun a => if h0 ≤ a then (match es[a - h0]? with | some e => some e | none => F a) else F a
theorem gB_at {F : GH} {h0 : Nat} {es : List va_E} {i : Nat} {e : va_E} (h : es[i]? = some e) : gB F h0 es (h0 + i) = some e := by
  unfold gB
  rw [if_pos (Nat.le_add_right _ _), Nat.add_sub_cancel_left, h]
theorem gB_0 {F : GH} {h0 : Nat} {e : va_E} {tl : List va_E} : gB F h0 (e :: tl) h0 = some e := gB_at (i := 0) rfl
theorem gB_1 {F : GH} {h0 : Nat} {e0 e : va_E} {tl : List va_E} : gB F h0 (e0 :: e :: tl) (h0 + 1) = some e := gB_at (i := 1) rfl
theorem gB_2 {F : GH} {h0 : Nat} {e0 e1 e : va_E} {tl : List va_E} : gB F h0 (e0 :: e1 :: e :: tl) (h0 + 2) = some e := gB_at (i := 2) rfl
theorem gB_3 {F : GH} {h0 : Nat} {e0 e1 e2 e : va_E} {tl : List va_E} : gB F h0 (e0 :: e1 :: e2 :: e :: tl) (h0 + 3) = some e := gB_at (i := 3) rfl
theorem gB_out {F : GH} {h0 : Nat} {es : List va_E} {a : Nat} (h : a < h0 ∨ h0 + es.length ≤ a) : gB F h0 es a = F a := by
  unfold gB
  rcases h with h | h
  · rw [if_neg (by omega)]
  · by_cases h1 : h0 ≤ a
    · rw [if_pos h1, List.getElem?_eq_none (by omega)]
    · rw [if_neg h1]
theorem gB_set {F : GH} {h0 : Nat} {es : List va_E} {i : Nat} {e : va_E} (h : i < es.length) : gset (gB F h0 es) (h0 + i) e = gB F h0 (es.set i e) := by
  funext a
  by_cases ha : a = h0 + i
  · subst ha
    rw [gset_s, gB_at (e := e)]
    rw [List.getElem?_set_self h]
  · rw [gset_n ha]
    unfold gB
    by_cases h1 : h0 ≤ a
    · rw [if_pos h1, if_pos h1, List.getElem?_set_ne (by omega)]
    · rw [if_neg h1, if_neg h1]
theorem gB_id {G : GH} {h0 : Nat} {es : List va_E} (h : ∀ (i : Nat) (e : va_E), es[i]? = some e → G (h0 + i) = some e) : gB G h0 es = G := by
  funext a
  unfold gB
  by_cases h1 : h0 ≤ a
  · rw [if_pos h1]
    cases he : es[a - h0]? with
    | none => rfl
    | some e =>
      have := h _ _ he
      rw [show h0 + (a - h0) = a by omega] at this
      exact this.symm
  · rw [if_neg h1]
theorem gB_gB {F : GH} {h0 : Nat} {es es' : List va_E} (h : es.length = es'.length) : gB (gB F h0 es) h0 es' = gB F h0 es' := by
  funext a
  by_cases h1 : a < h0 ∨ h0 + es'.length ≤ a
  · rw [gB_out h1, gB_out (by omega), gB_out h1]
  · have h2 : a - h0 < es'.length := by omega
    have e1 : es'[a - h0]? = some es'[a - h0] := List.getElem?_eq_getElem h2
    have e2 : ∀ G : GH, gB G h0 es' a = some es'[a - h0] := fun G => by
      have := gB_at (F := G) (h0 := h0) e1
      rwa [show h0 + (a - h0) = a by omega] at this
    rw [e2, e2]
section JB
variable {K : jK} {A : Nat → Prop} {E : jE} {own : String} {cc : ByteArray} {nL fr lo9 mc ms : Nat} {F : GH} {h0 hs cells slots pc : Nat} {lo : List (Option Value)} {rest : List Value}
theorem b_put0 (hE : jC K A E own cc nL fr lo9 mc ms) {idx ci : Nat} {ty : FieldType} {x v : Value} {ft : List Value} {tl : List va_E} (hF : jF own idx ci 0 false ty) (hn : narrow ty v = v) (hfit : fits ty v = true) (hd : decode cc pc = .ok (.putfield idx, 3)) (kk : J K A E nL (gB F h0 (.inr (ci, v :: ft) :: tl)) hs cells slots (pc + 3) lo rest) : J K A E nL (gB F h0 (.inr (ci, x :: ft) :: tl)) hs cells slots pc lo (v :: .ref h0 :: rest) := by
  refine j_put hE hF gB_0 hn hfit (by simp only [List.length_cons]; omega) hd ?_
  have e := gB_set (F := F) (h0 := h0) (es := .inr (ci, x :: ft) :: tl) (i := 0) (e := .inr (ci, v :: ft)) (by simp)
  exact Eq.mpr (congrArg (fun G9 => J K A E nL G9 hs cells slots (pc + 3) lo rest) e) kk
theorem b_putF0 (hE : jC K A E own cc nL fr lo9 mc ms) {idx ci : Nat} {ty : FieldType} {x v : Value} {ft : List Value} {tl : List va_E} (hNm : jNm E "<init>") (hC : (vwCl[ci]?).map (fun q => q.1) = some own) (hF : jF own idx ci 0 true ty) (hn : narrow ty v = v) (hfit : fits ty v = true) (hd : decode cc pc = .ok (.putfield idx, 3)) (kk : J K A E nL (gB F h0 (.inr (ci, v :: ft) :: tl)) hs cells slots (pc + 3) lo rest) : J K A E nL (gB F h0 (.inr (ci, x :: ft) :: tl)) hs cells slots pc lo (v :: .ref h0 :: rest) := by
  refine j_putF hE hNm hF hC gB_0 hn hfit (by simp only [List.length_cons]; omega) hd ?_
  have e := gB_set (F := F) (h0 := h0) (es := .inr (ci, x :: ft) :: tl) (i := 0) (e := .inr (ci, v :: ft)) (by simp)
  exact Eq.mpr (congrArg (fun G9 => J K A E nL G9 hs cells slots (pc + 3) lo rest) e) kk
theorem b_put1 (hE : jC K A E own cc nL fr lo9 mc ms) {idx ci : Nat} {ty : FieldType} {f0 : Value} {x v : Value} {ft : List Value} {tl : List va_E} (hF : jF own idx ci 1 false ty) (hn : narrow ty v = v) (hfit : fits ty v = true) (hd : decode cc pc = .ok (.putfield idx, 3)) (kk : J K A E nL (gB F h0 (.inr (ci, f0 :: v :: ft) :: tl)) hs cells slots (pc + 3) lo rest) : J K A E nL (gB F h0 (.inr (ci, f0 :: x :: ft) :: tl)) hs cells slots pc lo (v :: .ref h0 :: rest) := by
  refine j_put hE hF gB_0 hn hfit (by simp only [List.length_cons]; omega) hd ?_
  have e := gB_set (F := F) (h0 := h0) (es := .inr (ci, f0 :: x :: ft) :: tl) (i := 0) (e := .inr (ci, f0 :: v :: ft)) (by simp)
  exact Eq.mpr (congrArg (fun G9 => J K A E nL G9 hs cells slots (pc + 3) lo rest) e) kk
theorem b_putF1 (hE : jC K A E own cc nL fr lo9 mc ms) {idx ci : Nat} {ty : FieldType} {f0 : Value} {x v : Value} {ft : List Value} {tl : List va_E} (hNm : jNm E "<init>") (hC : (vwCl[ci]?).map (fun q => q.1) = some own) (hF : jF own idx ci 1 true ty) (hn : narrow ty v = v) (hfit : fits ty v = true) (hd : decode cc pc = .ok (.putfield idx, 3)) (kk : J K A E nL (gB F h0 (.inr (ci, f0 :: v :: ft) :: tl)) hs cells slots (pc + 3) lo rest) : J K A E nL (gB F h0 (.inr (ci, f0 :: x :: ft) :: tl)) hs cells slots pc lo (v :: .ref h0 :: rest) := by
  refine j_putF hE hNm hF hC gB_0 hn hfit (by simp only [List.length_cons]; omega) hd ?_
  have e := gB_set (F := F) (h0 := h0) (es := .inr (ci, f0 :: x :: ft) :: tl) (i := 0) (e := .inr (ci, f0 :: v :: ft)) (by simp)
  exact Eq.mpr (congrArg (fun G9 => J K A E nL G9 hs cells slots (pc + 3) lo rest) e) kk
theorem b_put2 (hE : jC K A E own cc nL fr lo9 mc ms) {idx ci : Nat} {ty : FieldType} {f0 f1 : Value} {x v : Value} {ft : List Value} {tl : List va_E} (hF : jF own idx ci 2 false ty) (hn : narrow ty v = v) (hfit : fits ty v = true) (hd : decode cc pc = .ok (.putfield idx, 3)) (kk : J K A E nL (gB F h0 (.inr (ci, f0 :: f1 :: v :: ft) :: tl)) hs cells slots (pc + 3) lo rest) : J K A E nL (gB F h0 (.inr (ci, f0 :: f1 :: x :: ft) :: tl)) hs cells slots pc lo (v :: .ref h0 :: rest) := by
  refine j_put hE hF gB_0 hn hfit (by simp only [List.length_cons]; omega) hd ?_
  have e := gB_set (F := F) (h0 := h0) (es := .inr (ci, f0 :: f1 :: x :: ft) :: tl) (i := 0) (e := .inr (ci, f0 :: f1 :: v :: ft)) (by simp)
  exact Eq.mpr (congrArg (fun G9 => J K A E nL G9 hs cells slots (pc + 3) lo rest) e) kk
theorem b_putF2 (hE : jC K A E own cc nL fr lo9 mc ms) {idx ci : Nat} {ty : FieldType} {f0 f1 : Value} {x v : Value} {ft : List Value} {tl : List va_E} (hNm : jNm E "<init>") (hC : (vwCl[ci]?).map (fun q => q.1) = some own) (hF : jF own idx ci 2 true ty) (hn : narrow ty v = v) (hfit : fits ty v = true) (hd : decode cc pc = .ok (.putfield idx, 3)) (kk : J K A E nL (gB F h0 (.inr (ci, f0 :: f1 :: v :: ft) :: tl)) hs cells slots (pc + 3) lo rest) : J K A E nL (gB F h0 (.inr (ci, f0 :: f1 :: x :: ft) :: tl)) hs cells slots pc lo (v :: .ref h0 :: rest) := by
  refine j_putF hE hNm hF hC gB_0 hn hfit (by simp only [List.length_cons]; omega) hd ?_
  have e := gB_set (F := F) (h0 := h0) (es := .inr (ci, f0 :: f1 :: x :: ft) :: tl) (i := 0) (e := .inr (ci, f0 :: f1 :: v :: ft)) (by simp)
  exact Eq.mpr (congrArg (fun G9 => J K A E nL G9 hs cells slots (pc + 3) lo rest) e) kk
theorem b_put3 (hE : jC K A E own cc nL fr lo9 mc ms) {idx ci : Nat} {ty : FieldType} {f0 f1 f2 : Value} {x v : Value} {ft : List Value} {tl : List va_E} (hF : jF own idx ci 3 false ty) (hn : narrow ty v = v) (hfit : fits ty v = true) (hd : decode cc pc = .ok (.putfield idx, 3)) (kk : J K A E nL (gB F h0 (.inr (ci, f0 :: f1 :: f2 :: v :: ft) :: tl)) hs cells slots (pc + 3) lo rest) : J K A E nL (gB F h0 (.inr (ci, f0 :: f1 :: f2 :: x :: ft) :: tl)) hs cells slots pc lo (v :: .ref h0 :: rest) := by
  refine j_put hE hF gB_0 hn hfit (by simp only [List.length_cons]; omega) hd ?_
  have e := gB_set (F := F) (h0 := h0) (es := .inr (ci, f0 :: f1 :: f2 :: x :: ft) :: tl) (i := 0) (e := .inr (ci, f0 :: f1 :: f2 :: v :: ft)) (by simp)
  exact Eq.mpr (congrArg (fun G9 => J K A E nL G9 hs cells slots (pc + 3) lo rest) e) kk
theorem b_putF3 (hE : jC K A E own cc nL fr lo9 mc ms) {idx ci : Nat} {ty : FieldType} {f0 f1 f2 : Value} {x v : Value} {ft : List Value} {tl : List va_E} (hNm : jNm E "<init>") (hC : (vwCl[ci]?).map (fun q => q.1) = some own) (hF : jF own idx ci 3 true ty) (hn : narrow ty v = v) (hfit : fits ty v = true) (hd : decode cc pc = .ok (.putfield idx, 3)) (kk : J K A E nL (gB F h0 (.inr (ci, f0 :: f1 :: f2 :: v :: ft) :: tl)) hs cells slots (pc + 3) lo rest) : J K A E nL (gB F h0 (.inr (ci, f0 :: f1 :: f2 :: x :: ft) :: tl)) hs cells slots pc lo (v :: .ref h0 :: rest) := by
  refine j_putF hE hNm hF hC gB_0 hn hfit (by simp only [List.length_cons]; omega) hd ?_
  have e := gB_set (F := F) (h0 := h0) (es := .inr (ci, f0 :: f1 :: f2 :: x :: ft) :: tl) (i := 0) (e := .inr (ci, f0 :: f1 :: f2 :: v :: ft)) (by simp)
  exact Eq.mpr (congrArg (fun G9 => J K A E nL G9 hs cells slots (pc + 3) lo rest) e) kk
theorem b_put4 (hE : jC K A E own cc nL fr lo9 mc ms) {idx ci : Nat} {ty : FieldType} {f0 f1 f2 f3 : Value} {x v : Value} {ft : List Value} {tl : List va_E} (hF : jF own idx ci 4 false ty) (hn : narrow ty v = v) (hfit : fits ty v = true) (hd : decode cc pc = .ok (.putfield idx, 3)) (kk : J K A E nL (gB F h0 (.inr (ci, f0 :: f1 :: f2 :: f3 :: v :: ft) :: tl)) hs cells slots (pc + 3) lo rest) : J K A E nL (gB F h0 (.inr (ci, f0 :: f1 :: f2 :: f3 :: x :: ft) :: tl)) hs cells slots pc lo (v :: .ref h0 :: rest) := by
  refine j_put hE hF gB_0 hn hfit (by simp only [List.length_cons]; omega) hd ?_
  have e := gB_set (F := F) (h0 := h0) (es := .inr (ci, f0 :: f1 :: f2 :: f3 :: x :: ft) :: tl) (i := 0) (e := .inr (ci, f0 :: f1 :: f2 :: f3 :: v :: ft)) (by simp)
  exact Eq.mpr (congrArg (fun G9 => J K A E nL G9 hs cells slots (pc + 3) lo rest) e) kk
theorem b_putF4 (hE : jC K A E own cc nL fr lo9 mc ms) {idx ci : Nat} {ty : FieldType} {f0 f1 f2 f3 : Value} {x v : Value} {ft : List Value} {tl : List va_E} (hNm : jNm E "<init>") (hC : (vwCl[ci]?).map (fun q => q.1) = some own) (hF : jF own idx ci 4 true ty) (hn : narrow ty v = v) (hfit : fits ty v = true) (hd : decode cc pc = .ok (.putfield idx, 3)) (kk : J K A E nL (gB F h0 (.inr (ci, f0 :: f1 :: f2 :: f3 :: v :: ft) :: tl)) hs cells slots (pc + 3) lo rest) : J K A E nL (gB F h0 (.inr (ci, f0 :: f1 :: f2 :: f3 :: x :: ft) :: tl)) hs cells slots pc lo (v :: .ref h0 :: rest) := by
  refine j_putF hE hNm hF hC gB_0 hn hfit (by simp only [List.length_cons]; omega) hd ?_
  have e := gB_set (F := F) (h0 := h0) (es := .inr (ci, f0 :: f1 :: f2 :: f3 :: x :: ft) :: tl) (i := 0) (e := .inr (ci, f0 :: f1 :: f2 :: f3 :: v :: ft)) (by simp)
  exact Eq.mpr (congrArg (fun G9 => J K A E nL G9 hs cells slots (pc + 3) lo rest) e) kk
theorem b_put5 (hE : jC K A E own cc nL fr lo9 mc ms) {idx ci : Nat} {ty : FieldType} {f0 f1 f2 f3 f4 : Value} {x v : Value} {ft : List Value} {tl : List va_E} (hF : jF own idx ci 5 false ty) (hn : narrow ty v = v) (hfit : fits ty v = true) (hd : decode cc pc = .ok (.putfield idx, 3)) (kk : J K A E nL (gB F h0 (.inr (ci, f0 :: f1 :: f2 :: f3 :: f4 :: v :: ft) :: tl)) hs cells slots (pc + 3) lo rest) : J K A E nL (gB F h0 (.inr (ci, f0 :: f1 :: f2 :: f3 :: f4 :: x :: ft) :: tl)) hs cells slots pc lo (v :: .ref h0 :: rest) := by
  refine j_put hE hF gB_0 hn hfit (by simp only [List.length_cons]; omega) hd ?_
  have e := gB_set (F := F) (h0 := h0) (es := .inr (ci, f0 :: f1 :: f2 :: f3 :: f4 :: x :: ft) :: tl) (i := 0) (e := .inr (ci, f0 :: f1 :: f2 :: f3 :: f4 :: v :: ft)) (by simp)
  exact Eq.mpr (congrArg (fun G9 => J K A E nL G9 hs cells slots (pc + 3) lo rest) e) kk
theorem b_putF5 (hE : jC K A E own cc nL fr lo9 mc ms) {idx ci : Nat} {ty : FieldType} {f0 f1 f2 f3 f4 : Value} {x v : Value} {ft : List Value} {tl : List va_E} (hNm : jNm E "<init>") (hC : (vwCl[ci]?).map (fun q => q.1) = some own) (hF : jF own idx ci 5 true ty) (hn : narrow ty v = v) (hfit : fits ty v = true) (hd : decode cc pc = .ok (.putfield idx, 3)) (kk : J K A E nL (gB F h0 (.inr (ci, f0 :: f1 :: f2 :: f3 :: f4 :: v :: ft) :: tl)) hs cells slots (pc + 3) lo rest) : J K A E nL (gB F h0 (.inr (ci, f0 :: f1 :: f2 :: f3 :: f4 :: x :: ft) :: tl)) hs cells slots pc lo (v :: .ref h0 :: rest) := by
  refine j_putF hE hNm hF hC gB_0 hn hfit (by simp only [List.length_cons]; omega) hd ?_
  have e := gB_set (F := F) (h0 := h0) (es := .inr (ci, f0 :: f1 :: f2 :: f3 :: f4 :: x :: ft) :: tl) (i := 0) (e := .inr (ci, f0 :: f1 :: f2 :: f3 :: f4 :: v :: ft)) (by simp)
  exact Eq.mpr (congrArg (fun G9 => J K A E nL G9 hs cells slots (pc + 3) lo rest) e) kk
theorem b_put6 (hE : jC K A E own cc nL fr lo9 mc ms) {idx ci : Nat} {ty : FieldType} {f0 f1 f2 f3 f4 f5 : Value} {x v : Value} {ft : List Value} {tl : List va_E} (hF : jF own idx ci 6 false ty) (hn : narrow ty v = v) (hfit : fits ty v = true) (hd : decode cc pc = .ok (.putfield idx, 3)) (kk : J K A E nL (gB F h0 (.inr (ci, f0 :: f1 :: f2 :: f3 :: f4 :: f5 :: v :: ft) :: tl)) hs cells slots (pc + 3) lo rest) : J K A E nL (gB F h0 (.inr (ci, f0 :: f1 :: f2 :: f3 :: f4 :: f5 :: x :: ft) :: tl)) hs cells slots pc lo (v :: .ref h0 :: rest) := by
  refine j_put hE hF gB_0 hn hfit (by simp only [List.length_cons]; omega) hd ?_
  have e := gB_set (F := F) (h0 := h0) (es := .inr (ci, f0 :: f1 :: f2 :: f3 :: f4 :: f5 :: x :: ft) :: tl) (i := 0) (e := .inr (ci, f0 :: f1 :: f2 :: f3 :: f4 :: f5 :: v :: ft)) (by simp)
  exact Eq.mpr (congrArg (fun G9 => J K A E nL G9 hs cells slots (pc + 3) lo rest) e) kk
theorem b_putF6 (hE : jC K A E own cc nL fr lo9 mc ms) {idx ci : Nat} {ty : FieldType} {f0 f1 f2 f3 f4 f5 : Value} {x v : Value} {ft : List Value} {tl : List va_E} (hNm : jNm E "<init>") (hC : (vwCl[ci]?).map (fun q => q.1) = some own) (hF : jF own idx ci 6 true ty) (hn : narrow ty v = v) (hfit : fits ty v = true) (hd : decode cc pc = .ok (.putfield idx, 3)) (kk : J K A E nL (gB F h0 (.inr (ci, f0 :: f1 :: f2 :: f3 :: f4 :: f5 :: v :: ft) :: tl)) hs cells slots (pc + 3) lo rest) : J K A E nL (gB F h0 (.inr (ci, f0 :: f1 :: f2 :: f3 :: f4 :: f5 :: x :: ft) :: tl)) hs cells slots pc lo (v :: .ref h0 :: rest) := by
  refine j_putF hE hNm hF hC gB_0 hn hfit (by simp only [List.length_cons]; omega) hd ?_
  have e := gB_set (F := F) (h0 := h0) (es := .inr (ci, f0 :: f1 :: f2 :: f3 :: f4 :: f5 :: x :: ft) :: tl) (i := 0) (e := .inr (ci, f0 :: f1 :: f2 :: f3 :: f4 :: f5 :: v :: ft)) (by simp)
  exact Eq.mpr (congrArg (fun G9 => J K A E nL G9 hs cells slots (pc + 3) lo rest) e) kk
theorem b_put7 (hE : jC K A E own cc nL fr lo9 mc ms) {idx ci : Nat} {ty : FieldType} {f0 f1 f2 f3 f4 f5 f6 : Value} {x v : Value} {ft : List Value} {tl : List va_E} (hF : jF own idx ci 7 false ty) (hn : narrow ty v = v) (hfit : fits ty v = true) (hd : decode cc pc = .ok (.putfield idx, 3)) (kk : J K A E nL (gB F h0 (.inr (ci, f0 :: f1 :: f2 :: f3 :: f4 :: f5 :: f6 :: v :: ft) :: tl)) hs cells slots (pc + 3) lo rest) : J K A E nL (gB F h0 (.inr (ci, f0 :: f1 :: f2 :: f3 :: f4 :: f5 :: f6 :: x :: ft) :: tl)) hs cells slots pc lo (v :: .ref h0 :: rest) := by
  refine j_put hE hF gB_0 hn hfit (by simp only [List.length_cons]; omega) hd ?_
  have e := gB_set (F := F) (h0 := h0) (es := .inr (ci, f0 :: f1 :: f2 :: f3 :: f4 :: f5 :: f6 :: x :: ft) :: tl) (i := 0) (e := .inr (ci, f0 :: f1 :: f2 :: f3 :: f4 :: f5 :: f6 :: v :: ft)) (by simp)
  exact Eq.mpr (congrArg (fun G9 => J K A E nL G9 hs cells slots (pc + 3) lo rest) e) kk
theorem b_putF7 (hE : jC K A E own cc nL fr lo9 mc ms) {idx ci : Nat} {ty : FieldType} {f0 f1 f2 f3 f4 f5 f6 : Value} {x v : Value} {ft : List Value} {tl : List va_E} (hNm : jNm E "<init>") (hC : (vwCl[ci]?).map (fun q => q.1) = some own) (hF : jF own idx ci 7 true ty) (hn : narrow ty v = v) (hfit : fits ty v = true) (hd : decode cc pc = .ok (.putfield idx, 3)) (kk : J K A E nL (gB F h0 (.inr (ci, f0 :: f1 :: f2 :: f3 :: f4 :: f5 :: f6 :: v :: ft) :: tl)) hs cells slots (pc + 3) lo rest) : J K A E nL (gB F h0 (.inr (ci, f0 :: f1 :: f2 :: f3 :: f4 :: f5 :: f6 :: x :: ft) :: tl)) hs cells slots pc lo (v :: .ref h0 :: rest) := by
  refine j_putF hE hNm hF hC gB_0 hn hfit (by simp only [List.length_cons]; omega) hd ?_
  have e := gB_set (F := F) (h0 := h0) (es := .inr (ci, f0 :: f1 :: f2 :: f3 :: f4 :: f5 :: f6 :: x :: ft) :: tl) (i := 0) (e := .inr (ci, f0 :: f1 :: f2 :: f3 :: f4 :: f5 :: f6 :: v :: ft)) (by simp)
  exact Eq.mpr (congrArg (fun G9 => J K A E nL G9 hs cells slots (pc + 3) lo rest) e) kk
theorem b_put8 (hE : jC K A E own cc nL fr lo9 mc ms) {idx ci : Nat} {ty : FieldType} {f0 f1 f2 f3 f4 f5 f6 f7 : Value} {x v : Value} {ft : List Value} {tl : List va_E} (hF : jF own idx ci 8 false ty) (hn : narrow ty v = v) (hfit : fits ty v = true) (hd : decode cc pc = .ok (.putfield idx, 3)) (kk : J K A E nL (gB F h0 (.inr (ci, f0 :: f1 :: f2 :: f3 :: f4 :: f5 :: f6 :: f7 :: v :: ft) :: tl)) hs cells slots (pc + 3) lo rest) : J K A E nL (gB F h0 (.inr (ci, f0 :: f1 :: f2 :: f3 :: f4 :: f5 :: f6 :: f7 :: x :: ft) :: tl)) hs cells slots pc lo (v :: .ref h0 :: rest) := by
  refine j_put hE hF gB_0 hn hfit (by simp only [List.length_cons]; omega) hd ?_
  have e := gB_set (F := F) (h0 := h0) (es := .inr (ci, f0 :: f1 :: f2 :: f3 :: f4 :: f5 :: f6 :: f7 :: x :: ft) :: tl) (i := 0) (e := .inr (ci, f0 :: f1 :: f2 :: f3 :: f4 :: f5 :: f6 :: f7 :: v :: ft)) (by simp)
  exact Eq.mpr (congrArg (fun G9 => J K A E nL G9 hs cells slots (pc + 3) lo rest) e) kk
theorem b_putF8 (hE : jC K A E own cc nL fr lo9 mc ms) {idx ci : Nat} {ty : FieldType} {f0 f1 f2 f3 f4 f5 f6 f7 : Value} {x v : Value} {ft : List Value} {tl : List va_E} (hNm : jNm E "<init>") (hC : (vwCl[ci]?).map (fun q => q.1) = some own) (hF : jF own idx ci 8 true ty) (hn : narrow ty v = v) (hfit : fits ty v = true) (hd : decode cc pc = .ok (.putfield idx, 3)) (kk : J K A E nL (gB F h0 (.inr (ci, f0 :: f1 :: f2 :: f3 :: f4 :: f5 :: f6 :: f7 :: v :: ft) :: tl)) hs cells slots (pc + 3) lo rest) : J K A E nL (gB F h0 (.inr (ci, f0 :: f1 :: f2 :: f3 :: f4 :: f5 :: f6 :: f7 :: x :: ft) :: tl)) hs cells slots pc lo (v :: .ref h0 :: rest) := by
  refine j_putF hE hNm hF hC gB_0 hn hfit (by simp only [List.length_cons]; omega) hd ?_
  have e := gB_set (F := F) (h0 := h0) (es := .inr (ci, f0 :: f1 :: f2 :: f3 :: f4 :: f5 :: f6 :: f7 :: x :: ft) :: tl) (i := 0) (e := .inr (ci, f0 :: f1 :: f2 :: f3 :: f4 :: f5 :: f6 :: f7 :: v :: ft)) (by simp)
  exact Eq.mpr (congrArg (fun G9 => J K A E nL G9 hs cells slots (pc + 3) lo rest) e) kk
theorem b_put9 (hE : jC K A E own cc nL fr lo9 mc ms) {idx ci : Nat} {ty : FieldType} {f0 f1 f2 f3 f4 f5 f6 f7 f8 : Value} {x v : Value} {ft : List Value} {tl : List va_E} (hF : jF own idx ci 9 false ty) (hn : narrow ty v = v) (hfit : fits ty v = true) (hd : decode cc pc = .ok (.putfield idx, 3)) (kk : J K A E nL (gB F h0 (.inr (ci, f0 :: f1 :: f2 :: f3 :: f4 :: f5 :: f6 :: f7 :: f8 :: v :: ft) :: tl)) hs cells slots (pc + 3) lo rest) : J K A E nL (gB F h0 (.inr (ci, f0 :: f1 :: f2 :: f3 :: f4 :: f5 :: f6 :: f7 :: f8 :: x :: ft) :: tl)) hs cells slots pc lo (v :: .ref h0 :: rest) := by
  refine j_put hE hF gB_0 hn hfit (by simp only [List.length_cons]; omega) hd ?_
  have e := gB_set (F := F) (h0 := h0) (es := .inr (ci, f0 :: f1 :: f2 :: f3 :: f4 :: f5 :: f6 :: f7 :: f8 :: x :: ft) :: tl) (i := 0) (e := .inr (ci, f0 :: f1 :: f2 :: f3 :: f4 :: f5 :: f6 :: f7 :: f8 :: v :: ft)) (by simp)
  exact Eq.mpr (congrArg (fun G9 => J K A E nL G9 hs cells slots (pc + 3) lo rest) e) kk
theorem b_putF9 (hE : jC K A E own cc nL fr lo9 mc ms) {idx ci : Nat} {ty : FieldType} {f0 f1 f2 f3 f4 f5 f6 f7 f8 : Value} {x v : Value} {ft : List Value} {tl : List va_E} (hNm : jNm E "<init>") (hC : (vwCl[ci]?).map (fun q => q.1) = some own) (hF : jF own idx ci 9 true ty) (hn : narrow ty v = v) (hfit : fits ty v = true) (hd : decode cc pc = .ok (.putfield idx, 3)) (kk : J K A E nL (gB F h0 (.inr (ci, f0 :: f1 :: f2 :: f3 :: f4 :: f5 :: f6 :: f7 :: f8 :: v :: ft) :: tl)) hs cells slots (pc + 3) lo rest) : J K A E nL (gB F h0 (.inr (ci, f0 :: f1 :: f2 :: f3 :: f4 :: f5 :: f6 :: f7 :: f8 :: x :: ft) :: tl)) hs cells slots pc lo (v :: .ref h0 :: rest) := by
  refine j_putF hE hNm hF hC gB_0 hn hfit (by simp only [List.length_cons]; omega) hd ?_
  have e := gB_set (F := F) (h0 := h0) (es := .inr (ci, f0 :: f1 :: f2 :: f3 :: f4 :: f5 :: f6 :: f7 :: f8 :: x :: ft) :: tl) (i := 0) (e := .inr (ci, f0 :: f1 :: f2 :: f3 :: f4 :: f5 :: f6 :: f7 :: f8 :: v :: ft)) (by simp)
  exact Eq.mpr (congrArg (fun G9 => J K A E nL G9 hs cells slots (pc + 3) lo rest) e) kk
theorem b_ast1 (hE : jC K A E own cc nL fr lo9 mc ms) {e0 : va_E} {n j : Nat} {f : Nat → Int32} {x v : Int32} {tl : List va_E} (hx9 : x = nI j) (hj : j < n) (hn : n < 2 ^ 31) (hd : decode cc pc = .ok (.iastore, 1)) (kk : J K A E nL (gB F h0 (e0 :: iA K n (upd f j v) :: tl)) hs cells slots (pc + 1) lo rest) : J K A E nL (gB F h0 (e0 :: iA K n f :: tl)) hs cells slots pc lo (.int v :: .int x :: .ref (h0 + 1) :: rest) := by
  refine j_iast hE gB_1 hx9 hj hn hd ?_
  have e := gB_set (F := F) (h0 := h0) (es := e0 :: iA K n f :: tl) (i := 1) (e := iA K n (upd f j v)) (by simp)
  exact Eq.mpr (congrArg (fun G9 => J K A E nL G9 hs cells slots (pc + 1) lo rest) e) kk
theorem b_ast2 (hE : jC K A E own cc nL fr lo9 mc ms) {e0 e1 : va_E} {n j : Nat} {f : Nat → Int32} {x v : Int32} {tl : List va_E} (hx9 : x = nI j) (hj : j < n) (hn : n < 2 ^ 31) (hd : decode cc pc = .ok (.iastore, 1)) (kk : J K A E nL (gB F h0 (e0 :: e1 :: iA K n (upd f j v) :: tl)) hs cells slots (pc + 1) lo rest) : J K A E nL (gB F h0 (e0 :: e1 :: iA K n f :: tl)) hs cells slots pc lo (.int v :: .int x :: .ref (h0 + 2) :: rest) := by
  refine j_iast hE gB_2 hx9 hj hn hd ?_
  have e := gB_set (F := F) (h0 := h0) (es := e0 :: e1 :: iA K n f :: tl) (i := 2) (e := iA K n (upd f j v)) (by simp)
  exact Eq.mpr (congrArg (fun G9 => J K A E nL G9 hs cells slots (pc + 1) lo rest) e) kk
theorem b_ast3 (hE : jC K A E own cc nL fr lo9 mc ms) {e0 e1 e2 : va_E} {n j : Nat} {f : Nat → Int32} {x v : Int32} {tl : List va_E} (hx9 : x = nI j) (hj : j < n) (hn : n < 2 ^ 31) (hd : decode cc pc = .ok (.iastore, 1)) (kk : J K A E nL (gB F h0 (e0 :: e1 :: e2 :: iA K n (upd f j v) :: tl)) hs cells slots (pc + 1) lo rest) : J K A E nL (gB F h0 (e0 :: e1 :: e2 :: iA K n f :: tl)) hs cells slots pc lo (.int v :: .int x :: .ref (h0 + 3) :: rest) := by
  refine j_iast hE gB_3 hx9 hj hn hd ?_
  have e := gB_set (F := F) (h0 := h0) (es := e0 :: e1 :: e2 :: iA K n f :: tl) (i := 3) (e := iA K n (upd f j v)) (by simp)
  exact Eq.mpr (congrArg (fun G9 => J K A E nL G9 hs cells slots (pc + 1) lo rest) e) kk
end JB
end
section
/-! ===== posts by kind; calls by the kind of their answer; loops ===== -/
def pI (p : Int32 → GH → Nat → Prop) : Option Value → GH → Nat → Prop := fun v G h => ∃ r : Int32, v = some (.int r) ∧ p r G h
def pL (p : Int64 → GH → Nat → Prop) : Option Value → GH → Nat → Prop := fun v G h => ∃ r : Int64, v = some (.long r) ∧ p r G h
def pD (p : UInt64 → GH → Nat → Prop) : Option Value → GH → Nat → Prop := fun v G h => ∃ r : UInt64, v = some (.double r) ∧ p r G h
def pR (p : Nat → GH → Nat → Prop) : Option Value → GH → Nat → Prop := fun v G h => ∃ r : Nat, v = some (.ref r) ∧ p r G h
def pV (p : GH → Nat → Prop) : Option Value → GH → Nat → Prop := fun v G h => v = none ∧ p G h
theorem dloop (P : Nat → Prop) (N : Nat) (hs : ∀ i, i < N → P (i + 1) → P i) (he : P N) : ∀ i, i ≤ N → P i := by
  have key : ∀ k i, i + k = N → P i := by
    intro k
    induction k with
    | zero => intro i hi; rw [show i = N by omega]; exact he
    | succ k ih => intro i hi; exact hs i (by omega) (ih (i + 1) (by omega))
  exact fun i hi => key (N - i) i (by omega)
theorem jL_of {args : List Value} {L0 : List (Option Value)} (k : Nat) (h : L0 = jsl args ++ List.replicate k none) : ∀ (i : Nat) (v : Value), L0[i]? = some (some v) → (jsl args)[i]? = some (some v) := by
  intro i v hi
  rw [h] at hi
  by_cases hl : i < (jsl args).length
  · rwa [List.getElem?_append_left hl] at hi
  · rw [List.getElem?_append_right (by omega), List.getElem?_replicate] at hi
    split at hi
    · cases hi
    · cases hi
theorem Ct.mono {l : Launch} {K : jK} {y : MethodName} {cc : ByteArray} {nL : Nat} {ret : Option FieldType} {fr lo mc ms : Nat} {args : List Value} {G : GH} {hs : Nat} {post post' : Option Value → GH → Nat → Prop} {px px' : String → GH → Prop} (h : Ct l K y cc nL ret fr lo mc ms args G hs post px) (hp : ∀ v G h, post v G h → post' v G h) (hx : ∀ X G, px X G → px' X G) : Ct l K y cc nL ret fr lo mc ms args G hs post' px' := by
  intro p e ha hf hc s m as below h1 h2 h3 h4
  obtain ⟨n, o, b1, b2, b3, b4⟩ := h p e ha hf hc s m as below h1 h2 h3 h4
  refine ⟨n, o, b1, b2, b3, ?_⟩
  rcases b4 with ⟨⟨⟨v, G, e1, e2, e3⟩, hF⟩, b⟩ | ⟨q, hq, X, ce, L, ⟨⟨G9, hx9, hP⟩, hF⟩, b⟩
  · exact Or.inl ⟨⟨⟨v, G, e1, hp _ _ _ e2, e3⟩, hF⟩, b⟩
  · exact Or.inr ⟨q, hq, X, ce, L, ⟨⟨G9, hx _ _ hx9, hP⟩, hF⟩, b⟩
section JD
variable {K : jK} {A : Nat → Prop} {E : jE} {own : String} {cc : ByteArray} {nL fr lo9 mc ms : Nat} {G : GH} {hs cells slots pc : Nat} {lo : List (Option Value)} {rest st0 : List Value}
theorem j_cVi (hE : jC K A E own cc nL fr lo9 mc ms) {idx ci : Nat} {y : MethodName} {cc' : ByteArray} {maxL : Nat} {ret : Option FieldType} {n fr' lo' mc' ms' : Nat} {As : List Value} {b : Nat} {fs : List Value} {p : Int32 → GH → Nat → Prop} {px : String → GH → Prop} (hV : jV own idx ci y cc' maxL ret n) (hG : G b = some (.inr (ci, fs))) (hM : ∀ l : Launch, l.stackTraces = false → Ct l K y cc' maxL ret fr' lo' mc' ms' (.ref b :: As) G hs (pI p) px) (hn : As.length = n) (hst0 : st0 = As.reverse ++ .ref b :: rest) (hrs : (rest.map fun v => v.category).sum ≤ 8) (hfr : fr' + 1 ≤ fr) (hlo : 8 + (maxL + 11) + lo' ≤ lo9) (hc9 : cells + mc' ≤ mc) (hs9 : slots + ms' ≤ ms) (hd : decode cc pc = .ok (.invokevirtual idx, 3))
    (kk : ∀ (r : Int32) (G' : GH) (hs' : Nat), p r G' hs' → J K A E nL G' hs' (cells + mc') (slots + ms') (pc + 3) lo (.int r :: rest)) (kx : ∀ (X : String) (G' : GH), px X G' → JX K A E nL G' (cells + mc') (slots + ms') pc lo rest X) : J K A E nL G hs cells slots pc lo st0 :=
  j_callV hE hV hG hM hn hst0 hrs hfr hlo hc9 hs9 hd (fun v G' hs' h => by
    obtain ⟨r, rfl, h⟩ := h
    exact kk r G' hs' h) kx
theorem j_cVl (hE : jC K A E own cc nL fr lo9 mc ms) {idx ci : Nat} {y : MethodName} {cc' : ByteArray} {maxL : Nat} {ret : Option FieldType} {n fr' lo' mc' ms' : Nat} {As : List Value} {b : Nat} {fs : List Value} {p : Int64 → GH → Nat → Prop} {px : String → GH → Prop} (hV : jV own idx ci y cc' maxL ret n) (hG : G b = some (.inr (ci, fs))) (hM : ∀ l : Launch, l.stackTraces = false → Ct l K y cc' maxL ret fr' lo' mc' ms' (.ref b :: As) G hs (pL p) px) (hn : As.length = n) (hst0 : st0 = As.reverse ++ .ref b :: rest) (hrs : (rest.map fun v => v.category).sum ≤ 8) (hfr : fr' + 1 ≤ fr) (hlo : 8 + (maxL + 11) + lo' ≤ lo9) (hc9 : cells + mc' ≤ mc) (hs9 : slots + ms' ≤ ms) (hd : decode cc pc = .ok (.invokevirtual idx, 3))
    (kk : ∀ (r : Int64) (G' : GH) (hs' : Nat), p r G' hs' → J K A E nL G' hs' (cells + mc') (slots + ms') (pc + 3) lo (.long r :: rest)) (kx : ∀ (X : String) (G' : GH), px X G' → JX K A E nL G' (cells + mc') (slots + ms') pc lo rest X) : J K A E nL G hs cells slots pc lo st0 :=
  j_callV hE hV hG hM hn hst0 hrs hfr hlo hc9 hs9 hd (fun v G' hs' h => by
    obtain ⟨r, rfl, h⟩ := h
    exact kk r G' hs' h) kx
theorem j_cVd (hE : jC K A E own cc nL fr lo9 mc ms) {idx ci : Nat} {y : MethodName} {cc' : ByteArray} {maxL : Nat} {ret : Option FieldType} {n fr' lo' mc' ms' : Nat} {As : List Value} {b : Nat} {fs : List Value} {p : UInt64 → GH → Nat → Prop} {px : String → GH → Prop} (hV : jV own idx ci y cc' maxL ret n) (hG : G b = some (.inr (ci, fs))) (hM : ∀ l : Launch, l.stackTraces = false → Ct l K y cc' maxL ret fr' lo' mc' ms' (.ref b :: As) G hs (pD p) px) (hn : As.length = n) (hst0 : st0 = As.reverse ++ .ref b :: rest) (hrs : (rest.map fun v => v.category).sum ≤ 8) (hfr : fr' + 1 ≤ fr) (hlo : 8 + (maxL + 11) + lo' ≤ lo9) (hc9 : cells + mc' ≤ mc) (hs9 : slots + ms' ≤ ms) (hd : decode cc pc = .ok (.invokevirtual idx, 3))
    (kk : ∀ (r : UInt64) (G' : GH) (hs' : Nat), p r G' hs' → J K A E nL G' hs' (cells + mc') (slots + ms') (pc + 3) lo (.double r :: rest)) (kx : ∀ (X : String) (G' : GH), px X G' → JX K A E nL G' (cells + mc') (slots + ms') pc lo rest X) : J K A E nL G hs cells slots pc lo st0 :=
  j_callV hE hV hG hM hn hst0 hrs hfr hlo hc9 hs9 hd (fun v G' hs' h => by
    obtain ⟨r, rfl, h⟩ := h
    exact kk r G' hs' h) kx
theorem j_cVr (hE : jC K A E own cc nL fr lo9 mc ms) {idx ci : Nat} {y : MethodName} {cc' : ByteArray} {maxL : Nat} {ret : Option FieldType} {n fr' lo' mc' ms' : Nat} {As : List Value} {b : Nat} {fs : List Value} {p : Nat → GH → Nat → Prop} {px : String → GH → Prop} (hV : jV own idx ci y cc' maxL ret n) (hG : G b = some (.inr (ci, fs))) (hM : ∀ l : Launch, l.stackTraces = false → Ct l K y cc' maxL ret fr' lo' mc' ms' (.ref b :: As) G hs (pR p) px) (hn : As.length = n) (hst0 : st0 = As.reverse ++ .ref b :: rest) (hrs : (rest.map fun v => v.category).sum ≤ 8) (hfr : fr' + 1 ≤ fr) (hlo : 8 + (maxL + 11) + lo' ≤ lo9) (hc9 : cells + mc' ≤ mc) (hs9 : slots + ms' ≤ ms) (hd : decode cc pc = .ok (.invokevirtual idx, 3))
    (kk : ∀ (r : Nat) (G' : GH) (hs' : Nat), p r G' hs' → J K A E nL G' hs' (cells + mc') (slots + ms') (pc + 3) lo (.ref r :: rest)) (kx : ∀ (X : String) (G' : GH), px X G' → JX K A E nL G' (cells + mc') (slots + ms') pc lo rest X) : J K A E nL G hs cells slots pc lo st0 :=
  j_callV hE hV hG hM hn hst0 hrs hfr hlo hc9 hs9 hd (fun v G' hs' h => by
    obtain ⟨r, rfl, h⟩ := h
    exact kk r G' hs' h) kx
theorem j_cVv (hE : jC K A E own cc nL fr lo9 mc ms) {idx ci : Nat} {y : MethodName} {cc' : ByteArray} {maxL : Nat} {ret : Option FieldType} {n fr' lo' mc' ms' : Nat} {As : List Value} {b : Nat} {fs : List Value} {p : GH → Nat → Prop} {px : String → GH → Prop} (hV : jV own idx ci y cc' maxL ret n) (hG : G b = some (.inr (ci, fs))) (hM : ∀ l : Launch, l.stackTraces = false → Ct l K y cc' maxL ret fr' lo' mc' ms' (.ref b :: As) G hs (pV p) px) (hn : As.length = n) (hst0 : st0 = As.reverse ++ .ref b :: rest) (hrs : (rest.map fun v => v.category).sum ≤ 8) (hfr : fr' + 1 ≤ fr) (hlo : 8 + (maxL + 11) + lo' ≤ lo9) (hc9 : cells + mc' ≤ mc) (hs9 : slots + ms' ≤ ms) (hd : decode cc pc = .ok (.invokevirtual idx, 3))
    (kk : ∀ (G' : GH) (hs' : Nat), p G' hs' → J K A E nL G' hs' (cells + mc') (slots + ms') (pc + 3) lo (rest)) (kx : ∀ (X : String) (G' : GH), px X G' → JX K A E nL G' (cells + mc') (slots + ms') pc lo rest X) : J K A E nL G hs cells slots pc lo st0 :=
  j_callV hE hV hG hM hn hst0 hrs hfr hlo hc9 hs9 hd (fun v G' hs' h => by
    obtain ⟨rfl, h⟩ := h
    exact kk G' hs' h) kx
theorem j_cSi (hE : jC K A E own cc nL fr lo9 mc ms) {idx : Nat} {y : MethodName} {cc' : ByteArray} {maxL : Nat} {ret : Option FieldType} {n fr' lo' mc' ms' : Nat} {As : List Value} {p : Int32 → GH → Nat → Prop} {px : String → GH → Prop} (hV : jS own idx y cc' maxL ret n) (hM : ∀ l : Launch, l.stackTraces = false → Ct l K y cc' maxL ret fr' lo' mc' ms' As G hs (pI p) px) (hn : As.length = n) (hst0 : st0 = As.reverse ++ rest) (hrs : (rest.map fun v => v.category).sum ≤ 8) (hfr : fr' + 1 ≤ fr) (hlo : 8 + (maxL + 11) + lo' ≤ lo9) (hc9 : cells + mc' ≤ mc) (hs9 : slots + ms' ≤ ms) (hd : decode cc pc = .ok (.invokestatic idx, 3))
    (kk : ∀ (r : Int32) (G' : GH) (hs' : Nat), p r G' hs' → J K A E nL G' hs' (cells + mc') (slots + ms') (pc + 3) lo (.int r :: rest)) (kx : ∀ (X : String) (G' : GH), px X G' → JX K A E nL G' (cells + mc') (slots + ms') pc lo rest X) : J K A E nL G hs cells slots pc lo st0 :=
  j_callS hE hV hM hn hst0 hrs hfr hlo hc9 hs9 hd (fun v G' hs' h => by
    obtain ⟨r, rfl, h⟩ := h
    exact kk r G' hs' h) kx
theorem j_cSl (hE : jC K A E own cc nL fr lo9 mc ms) {idx : Nat} {y : MethodName} {cc' : ByteArray} {maxL : Nat} {ret : Option FieldType} {n fr' lo' mc' ms' : Nat} {As : List Value} {p : Int64 → GH → Nat → Prop} {px : String → GH → Prop} (hV : jS own idx y cc' maxL ret n) (hM : ∀ l : Launch, l.stackTraces = false → Ct l K y cc' maxL ret fr' lo' mc' ms' As G hs (pL p) px) (hn : As.length = n) (hst0 : st0 = As.reverse ++ rest) (hrs : (rest.map fun v => v.category).sum ≤ 8) (hfr : fr' + 1 ≤ fr) (hlo : 8 + (maxL + 11) + lo' ≤ lo9) (hc9 : cells + mc' ≤ mc) (hs9 : slots + ms' ≤ ms) (hd : decode cc pc = .ok (.invokestatic idx, 3))
    (kk : ∀ (r : Int64) (G' : GH) (hs' : Nat), p r G' hs' → J K A E nL G' hs' (cells + mc') (slots + ms') (pc + 3) lo (.long r :: rest)) (kx : ∀ (X : String) (G' : GH), px X G' → JX K A E nL G' (cells + mc') (slots + ms') pc lo rest X) : J K A E nL G hs cells slots pc lo st0 :=
  j_callS hE hV hM hn hst0 hrs hfr hlo hc9 hs9 hd (fun v G' hs' h => by
    obtain ⟨r, rfl, h⟩ := h
    exact kk r G' hs' h) kx
theorem j_cSv (hE : jC K A E own cc nL fr lo9 mc ms) {idx : Nat} {y : MethodName} {cc' : ByteArray} {maxL : Nat} {ret : Option FieldType} {n fr' lo' mc' ms' : Nat} {As : List Value} {p : GH → Nat → Prop} {px : String → GH → Prop} (hV : jS own idx y cc' maxL ret n) (hM : ∀ l : Launch, l.stackTraces = false → Ct l K y cc' maxL ret fr' lo' mc' ms' As G hs (pV p) px) (hn : As.length = n) (hst0 : st0 = As.reverse ++ rest) (hrs : (rest.map fun v => v.category).sum ≤ 8) (hfr : fr' + 1 ≤ fr) (hlo : 8 + (maxL + 11) + lo' ≤ lo9) (hc9 : cells + mc' ≤ mc) (hs9 : slots + ms' ≤ ms) (hd : decode cc pc = .ok (.invokestatic idx, 3))
    (kk : ∀ (G' : GH) (hs' : Nat), p G' hs' → J K A E nL G' hs' (cells + mc') (slots + ms') (pc + 3) lo (rest)) (kx : ∀ (X : String) (G' : GH), px X G' → JX K A E nL G' (cells + mc') (slots + ms') pc lo rest X) : J K A E nL G hs cells slots pc lo st0 :=
  j_callS hE hV hM hn hst0 hrs hfr hlo hc9 hs9 hd (fun v G' hs' h => by
    obtain ⟨rfl, h⟩ := h
    exact kk G' hs' h) kx
theorem j_cNl (hE : jC K A E own cc nL fr lo9 mc ms) {idx : Nat} {y : MethodName} {cc' : ByteArray} {maxL : Nat} {ret : Option FieldType} {n fr' lo' mc' ms' : Nat} {As : List Value} {p : Int64 → GH → Nat → Prop} (hV : jSN own idx y cc' maxL ret n) (hM : ∀ l : Launch, l.stackTraces = false → Ct l K y cc' maxL ret fr' lo' mc' ms' As G hs (pL p) jno) (hn : As.length = n) (hst0 : st0 = As.reverse ++ rest) (hrs : (rest.map fun v => v.category).sum ≤ 8) (hfr : fr' + 1 ≤ fr) (hlo : 8 + (maxL + 11) + lo' ≤ lo9) (hc9 : cells + mc' ≤ mc) (hs9 : slots + ms' ≤ ms) (hd : decode cc pc = .ok (.invokestatic idx, 3))
    (kk : ∀ (r : Int64) (G' : GH) (hs' : Nat), p r G' hs' → J K A E nL G' hs' (cells + mc') (slots + ms') (pc + 3) lo (.long r :: rest)) : J K A E nL G hs cells slots pc lo st0 :=
  j_callSN hE hV hM hn hst0 hrs hfr hlo hc9 hs9 hd (fun v G' hs' h => by
    obtain ⟨r, rfl, h⟩ := h
    exact kk r G' hs' h)
theorem j_cI (hE : jC K A E own cc nL fr lo9 mc ms) {idx : Nat} {y : MethodName} {cc' : ByteArray} {maxL : Nat} {n fr' lo' mc' ms' : Nat} {As : List Value} {b : Nat} {p : GH → Nat → Prop} (hV : jI own idx y cc' maxL n) (hM : ∀ l : Launch, l.stackTraces = false → Ct l K y cc' maxL none fr' lo' mc' ms' (.ref b :: As) G hs (pV p) jno) (hn : As.length = n) (hst0 : st0 = As.reverse ++ .ref b :: rest) (hrs : (rest.map fun v => v.category).sum ≤ 8) (hfr : fr' + 1 ≤ fr) (hlo : 8 + (maxL + 11) + lo' ≤ lo9) (hc9 : cells + mc' ≤ mc) (hs9 : slots + ms' ≤ ms) (hd : decode cc pc = .ok (.invokespecial idx, 3))
    (kk : ∀ (G' : GH) (hs' : Nat), p G' hs' → J K A E nL G' hs' (cells + mc') (slots + ms') (pc + 3) lo (rest)) : J K A E nL G hs cells slots pc lo st0 :=
  j_callI hE hV hM hn hst0 hrs hfr hlo hc9 hs9 hd (fun v G' hs' h => by
    obtain ⟨rfl, h⟩ := h
    exact kk G' hs' h)
theorem j_cIN (hE : jC K A E own cc nL fr lo9 mc ms) {idx : Nat} {y : MethodName} {cc' : ByteArray} {maxL : Nat} {n fr' lo' mc' ms' : Nat} {As : List Value} {b : Nat} {p : GH → Nat → Prop} (hV : jIN own idx y cc' maxL n) (hM : ∀ l : Launch, l.stackTraces = false → Ct l K y cc' maxL none fr' lo' mc' ms' (.ref b :: As) G hs (pV p) jno) (hn : As.length = n) (hst0 : st0 = As.reverse ++ .ref b :: rest) (hrs : (rest.map fun v => v.category).sum ≤ 8) (hfr : fr' + 1 ≤ fr) (hlo : 8 + (maxL + 11) + lo' ≤ lo9) (hc9 : cells + mc' ≤ mc) (hs9 : slots + ms' ≤ ms) (hd : decode cc pc = .ok (.invokespecial idx, 3))
    (kk : ∀ (G' : GH) (hs' : Nat), p G' hs' → J K A E nL G' hs' (cells + mc') (slots + ms') (pc + 3) lo (rest)) : J K A E nL G hs cells slots pc lo st0 :=
  j_callIN hE hV hM hn hst0 hrs hfr hlo hc9 hs9 hd (fun v G' hs' h => by
    obtain ⟨rfl, h⟩ := h
    exact kk G' hs' h)
end JD
end
section
/-! ===== numbers: ranges of an Int32 by a natural number ===== -/
theorem rg_t {a j b : Nat} (h1 : a ≤ j) (h2 : j ≤ b) (hb : b < 2 ^ 31) : nI a ≤ nI j ∧ nI j ≤ nI b := ⟨nI_le h1 (by omega), nI_le h2 hb⟩
theorem rg_f {a b : Nat} {p : Int32} (h : ∀ j, a ≤ j → j ≤ b → p ≠ nI j) (ha : a < 2 ^ 31) (hb : b < 2 ^ 31) : ¬ (nI a ≤ p ∧ p ≤ nI b) := by
  rintro ⟨h1, h2⟩
  have h0 : ¬ p < 0 := fun q => by
    have q1 := Int32.lt_iff_toInt_lt.mp q
    have q2 := Int32.le_iff_toInt_le.mp h1
    rw [nI_toInt ha] at q2
    rw [Int32.toInt_zero] at q1
    omega
  obtain ⟨j, hj, rfl⟩ := nI_of h0
  exact h j ((nI_leI ha hj).mp h1) ((nI_leI hj hb).mp h2) rfl
theorem ix_t {j n : Nat} (h : j < n) (hn : n < 2 ^ 30) : nI 0 ≤ nI j ∧ nI j ≤ nI n - nI 1 := by
  rw [pk_sub (by omega)]
  exact rg_t (Nat.zero_le _) (by omega) (by omega)
theorem ix_f {n : Nat} {p : Int32} (h : ∀ j, j < n → p ≠ nI j) (hn : n < 2 ^ 30) : ¬ (nI 0 ≤ p ∧ p ≤ nI n - nI 1) := by
  rcases Nat.eq_zero_or_pos n with h0 | h0
  · subst h0
    rintro ⟨h1, h2⟩
    have q1 := Int32.le_iff_toInt_le.mp h1
    have q2 := Int32.le_iff_toInt_le.mp h2
    rw [show (nI 0).toInt = 0 from rfl] at q1
    rw [show (nI 0 - nI 1).toInt = -1 from by decide] at q2
    omega
  · rw [pk_sub (by omega)]
    exact rg_f (fun j _ h2 => h j (by omega)) (by omega) (by omega)
theorem nI_inj {a b : Nat} (h : nI a = nI b) (ha : a < 2 ^ 31) (hb : b < 2 ^ 31) : a = b := (nI_eq ha hb).mp h
theorem nI_m1 {a : Nat} (ha : a < 2 ^ 31) : nI a ≠ -1 := fun h => by
  have h1 := congrArg Int32.toInt h
  rw [nI_toInt ha] at h1
  have h2 : (-1 : Int32).toInt = -1 := by decide
  omega
theorem upd_s (f : Nat → Int32) (k : Nat) (x : Int32) : upd f k x k = x := by simp [upd]
theorem upd_n {f : Nat → Int32} {k j : Nat} {x : Int32} (h : j ≠ k) : upd f k x j = f j := by simp [upd, h]
def jb (b : Bool) : Int32 := if b then nI 1 else nI 0
theorem jb_t : jb true = nI 1 := rfl
theorem jb_f : jb false = nI 0 := rfl
theorem jb_nar (b : Bool) : narrow .boolean (.int (jb b)) = .int (jb b) := by cases b <;> decide
theorem jb_fit (b : Bool) : fits .boolean (.int (jb b)) = true := by cases b <;> decide
theorem jb_0 {b : Bool} : jb b = 0 ↔ b = false := by cases b <;> decide
theorem jb_nI : ∀ {b : Bool}, ∃ k : Nat, k ≤ 1 ∧ jb b = nI k ∧ (k = 1 ↔ b = true)
  | false => ⟨0, by omega, rfl, by simp⟩
  | true => ⟨1, by omega, rfl, by simp⟩
theorem Ct.ofA {l : Launch} {K : jK} {y : MethodName} {cc : ByteArray} {nL : Nat} {ret : Option FieldType} {fr lo mc ms : Nat} {args : List Value} {G : GH} {hs : Nat} {post : Option Value → GH → Nat → Prop} {px : String → GH → Prop} (hl : l.stackTraces = false) (hy : plainName y.cls = true) (hn : (lg_sl args).length ≤ nL) {L0 : List (Option Value)} (hL0 : ∀ (i : Nat) (v : Value), L0[i]? = some (some v) → (jsl args)[i]? = some (some v))
    (h : ∀ A E, jC K A E y.cls cc nL fr lo mc ms → jQ K A E ret mc ms post px → jNoX E → jNm E y.name → J K A E nL G hs 0 0 0 L0 []) : Ct l K y cc nL ret fr lo mc ms args G hs post px := Ct.of hl hy hn hL0 (h (gA G hs))
end
section
/-! ===== the reference: its cells, its small methods ===== -/
abbrev mC (K : jK) (h0 : Nat) (now past : Nat → Int32) (kept thrown : Int32) (drawn : Nat → Int32) (hash : Int64) : List va_E := [.inr (6, [.ref (h0 + 1), .ref (h0 + 2), .int kept, .int thrown, .ref (h0 + 3), .long hash]), iA K 2377 now, iA K 9508 past, iA K 128 drawn]
set_option maxRecDepth 100000 in
set_option maxHeartbeats 4000000 in
theorem c_X6_thrown {l : Launch} (hl : l.stackTraces = false) (K : jK) (F : GH) (h0 hs : Nat) (now past : Nat → Int32) (kept thrown : Int32) (drawn : Nat → Int32) (hash : Int64) : Ct l K yX6_thrown cX6_thrown 1 (some .int) 0 0 0 0 [.ref h0] (gB F h0 (mC K h0 now past kept thrown drawn hash)) hs (pI (fun r G' _ => r = thrown ∧ G' = (gB F h0 (mC K h0 now past kept thrown drawn hash)))) jno := by
  refine Ct.ofA hl (by decide) (Nat.le_of_ble_eq_true rfl) (L0 := [some (.ref h0)]) (jL_of 0 rfl) ?_
  intro A E hE hQ hX hNm
  refine j_aload_n hE (i := 0) dX6_thrown_0 rfl rfl ?_
  refine j_get hE flX6_19 gB_0 rfl dX6_thrown_1 ?_
  refine j_iret hE hQ rfl (by omega) (by omega) dX6_thrown_4 ?_
  exact ⟨_, rfl, rfl, rfl⟩

set_option maxRecDepth 100000 in
set_option maxHeartbeats 4000000 in
theorem c_X6_of {l : Launch} (hl : l.stackTraces = false) (K : jK) (F : GH) (h0 hs : Nat) (now past : Nat → Int32) (kept thrown : Int32) (drawn : Nat → Int32) (hash : Int64) (p w : Nat) (hp : 33 + 14 * p + w < 2377) : Ct l K yX6_of cX6_of 3 (some .int) 0 0 0 0 [.ref h0, .int (nI p), .int (nI w)] (gB F h0 (mC K h0 now past kept thrown drawn hash)) hs (pI (fun r G' _ => r = now (33 + 14 * p + w) ∧ G' = (gB F h0 (mC K h0 now past kept thrown drawn hash)))) jno := by
  refine Ct.ofA hl (by decide) (Nat.le_of_ble_eq_true rfl) (L0 := [some (.ref h0), some (.int (nI p)), some (.int (nI w))]) (jL_of 0 rfl) ?_
  intro A E hE hQ hX hNm
  refine j_aload_n hE (i := 0) dX6_of_0 rfl rfl ?_
  refine j_get hE flX6_7 gB_0 rfl dX6_of_1 ?_
  refine j_bipush hE (v := nI 33) dX6_of_4 (by decide) ?_
  refine j_bipush hE (v := nI 14) dX6_of_6 (by decide) ?_
  refine j_iload_n hE (i := 1) dX6_of_8 rfl rfl ?_
  refine j_imulN hE dX6_of_9 ?_
  refine j_iaddN hE dX6_of_10 ?_
  refine j_iload_n hE (i := 2) dX6_of_11 rfl rfl ?_
  refine j_iaddN hE dX6_of_12 ?_
  refine j_iald hE gB_1 rfl (by omega) (by decide) dX6_of_13 ?_
  refine j_iret hE hQ rfl (by omega) (by omega) dX6_of_14 ?_
  exact ⟨_, rfl, rfl, rfl⟩

set_option maxRecDepth 100000 in
set_option maxHeartbeats 4000000 in
theorem c_X6_put {l : Launch} (hl : l.stackTraces = false) (K : jK) (F : GH) (h0 hs : Nat) (now past : Nat → Int32) (kept thrown : Int32) (drawn : Nat → Int32) (hash : Int64) (p w : Nat) (v : Int32) (hp : 33 + 14 * p + w < 2377) : Ct l K yX6_put cX6_put 4 none 0 0 0 0 [.ref h0, .int (nI p), .int (nI w), .int v] (gB F h0 (mC K h0 now past kept thrown drawn hash)) hs (pV (fun G' _ => G' = (gB F h0 (mC K h0 (upd now (33 + 14 * p + w) v) past kept thrown drawn hash)))) jno := by
  refine Ct.ofA hl (by decide) (Nat.le_of_ble_eq_true rfl) (L0 := [some (.ref h0), some (.int (nI p)), some (.int (nI w)), some (.int v)]) (jL_of 0 rfl) ?_
  intro A E hE hQ hX hNm
  refine j_aload_n hE (i := 0) dX6_put_0 rfl rfl ?_
  refine j_get hE flX6_7 gB_0 rfl dX6_put_1 ?_
  refine j_bipush hE (v := nI 33) dX6_put_4 (by decide) ?_
  refine j_bipush hE (v := nI 14) dX6_put_6 (by decide) ?_
  refine j_iload_n hE (i := 1) dX6_put_8 rfl rfl ?_
  refine j_imulN hE dX6_put_9 ?_
  refine j_iaddN hE dX6_put_10 ?_
  refine j_iload_n hE (i := 2) dX6_put_11 rfl rfl ?_
  refine j_iaddN hE dX6_put_12 ?_
  refine j_iload_n hE (i := 3) dX6_put_13 rfl rfl ?_
  refine b_ast1 hE rfl (by omega) (by decide) dX6_put_14 ?_
  refine j_vret hE hQ (by omega) (by omega) dX6_put_15 ?_
  exact ⟨rfl, rfl⟩

set_option maxRecDepth 100000 in
set_option maxHeartbeats 4000000 in
theorem c_X6_in_t {l : Launch} (hl : l.stackTraces = false) (K : jK) (G : GH) (hs : Nat) (v low high : Int32) (h : low ≤ v ∧ v ≤ high) : Ct l K yX6_in cX6_in 3 (some .boolean) 0 0 0 0 [.int v, .int low, .int high] G hs (pI (fun r G' _ => r = nI 1 ∧ G' = G)) jno := by
  refine Ct.ofA hl (by decide) (Nat.le_of_ble_eq_true rfl) (L0 := [some (.int v), some (.int low), some (.int high)]) (jL_of 0 rfl) ?_
  intro A E hE hQ hX hNm
  refine j_iload_n hE (i := 0) dX6_in_0 rfl rfl ?_
  refine j_iload_n hE (i := 1) dX6_in_1 rfl rfl ?_
  refine j_ic_lt hE (tgt := 14) dX6_in_2 (by decide) (fun h2 => ?_) (fun h2 => ?_)
  · exact absurd h2 (Int32.not_lt.mpr h.1)
  · refine j_iload_n hE (i := 0) dX6_in_5 rfl rfl ?_
    refine j_iload_n hE (i := 2) dX6_in_6 rfl rfl ?_
    refine j_ic_gt hE (tgt := 14) dX6_in_7 (by decide) (fun h7 => ?_) (fun h7 => ?_)
    · exact absurd h7 (Int32.not_lt.mpr h.2)
    · refine j_iconst hE (v := nI 1) dX6_in_10 (by decide) ?_
      refine j_goto hE (tgt := 15) dX6_in_11 (by decide) ?_
      refine j_iret hE hQ rfl (by omega) (by omega) dX6_in_15 ?_
      exact ⟨_, rfl, rfl, rfl⟩

set_option maxRecDepth 100000 in
set_option maxHeartbeats 4000000 in
theorem c_X6_in_f {l : Launch} (hl : l.stackTraces = false) (K : jK) (G : GH) (hs : Nat) (v low high : Int32) (h : ¬ (low ≤ v ∧ v ≤ high)) : Ct l K yX6_in cX6_in 3 (some .boolean) 0 0 0 0 [.int v, .int low, .int high] G hs (pI (fun r G' _ => r = nI 0 ∧ G' = G)) jno := by
  refine Ct.ofA hl (by decide) (Nat.le_of_ble_eq_true rfl) (L0 := [some (.int v), some (.int low), some (.int high)]) (jL_of 0 rfl) ?_
  intro A E hE hQ hX hNm
  refine j_iload_n hE (i := 0) dX6_in_0 rfl rfl ?_
  refine j_iload_n hE (i := 1) dX6_in_1 rfl rfl ?_
  refine j_ic_lt hE (tgt := 14) dX6_in_2 (by decide) (fun h2 => ?_) (fun h2 => ?_)
  · refine j_iconst hE (v := nI 0) dX6_in_14 (by decide) ?_
    refine j_iret hE hQ rfl (by omega) (by omega) dX6_in_15 ?_
    exact ⟨_, rfl, rfl, rfl⟩
  · refine j_iload_n hE (i := 0) dX6_in_5 rfl rfl ?_
    refine j_iload_n hE (i := 2) dX6_in_6 rfl rfl ?_
    refine j_ic_gt hE (tgt := 14) dX6_in_7 (by decide) (fun h7 => ?_) (fun h7 => ?_)
    · refine j_iconst hE (v := nI 0) dX6_in_14 (by decide) ?_
      refine j_iret hE hQ rfl (by omega) (by omega) dX6_in_15 ?_
      exact ⟨_, rfl, rfl, rfl⟩
    · exact absurd ⟨Int32.not_lt.mp h2, Int32.not_lt.mp h7⟩ h

set_option maxRecDepth 100000 in
set_option maxHeartbeats 4000000 in
theorem c_X6_searches {l : Launch} (hl : l.stackTraces = false) (K : jK) (F : GH) (h0 hs : Nat) (now past : Nat → Int32) (kept thrown : Int32) (drawn : Nat → Int32) (hash : Int64) : Ct l K yX6_searches cX6_searches 1 none 0 0 0 0 [.ref h0] (gB F h0 (mC K h0 now past kept thrown drawn hash)) hs (pV (fun G' _ => G' = (gB F h0 (mC K h0 (upd (upd (upd (upd now 7 (nI 0)) 15 (nI 0)) 16 (nI 0)) 17 (nI 0)) past kept thrown drawn hash)))) jno := by
  refine Ct.ofA hl (by decide) (Nat.le_of_ble_eq_true rfl) (L0 := [some (.ref h0)]) (jL_of 0 rfl) ?_
  intro A E hE hQ hX hNm
  refine j_aload_n hE (i := 0) dX6_searches_0 rfl rfl ?_
  refine j_get hE flX6_7 gB_0 rfl dX6_searches_1 ?_
  refine j_bipush hE (v := nI 7) dX6_searches_4 (by decide) ?_
  refine j_iconst hE (v := nI 0) dX6_searches_6 (by decide) ?_
  refine b_ast1 hE rfl (by omega) (by decide) dX6_searches_7 ?_
  refine j_aload_n hE (i := 0) dX6_searches_8 rfl rfl ?_
  refine j_get hE flX6_7 gB_0 rfl dX6_searches_9 ?_
  refine j_bipush hE (v := nI 15) dX6_searches_12 (by decide) ?_
  refine j_iconst hE (v := nI 0) dX6_searches_14 (by decide) ?_
  refine b_ast1 hE rfl (by omega) (by decide) dX6_searches_15 ?_
  refine j_aload_n hE (i := 0) dX6_searches_16 rfl rfl ?_
  refine j_get hE flX6_7 gB_0 rfl dX6_searches_17 ?_
  refine j_bipush hE (v := nI 16) dX6_searches_20 (by decide) ?_
  refine j_iconst hE (v := nI 0) dX6_searches_22 (by decide) ?_
  refine b_ast1 hE rfl (by omega) (by decide) dX6_searches_23 ?_
  refine j_aload_n hE (i := 0) dX6_searches_24 rfl rfl ?_
  refine j_get hE flX6_7 gB_0 rfl dX6_searches_25 ?_
  refine j_bipush hE (v := nI 17) dX6_searches_28 (by decide) ?_
  refine j_iconst hE (v := nI 0) dX6_searches_30 (by decide) ?_
  refine b_ast1 hE rfl (by omega) (by decide) dX6_searches_31 ?_
  refine j_vret hE hQ (by omega) (by omega) dX6_searches_32 ?_
  exact ⟨rfl, rfl⟩

def mSear (now : Nat → Int32) : Nat → Int32 := upd (upd (upd (upd now 7 (nI 0)) 15 (nI 0)) 16 (nI 0)) 17 (nI 0)
def mAnew (now : Nat → Int32) : Nat → Int32 := mSear (upd (upd (upd (upd now 3 (nI 0)) 5 (nI 0)) 4 (nI 0)) 8 (nI 0))
set_option maxRecDepth 100000 in
set_option maxHeartbeats 4000000 in
theorem c_X6_beginsAnew {l : Launch} (hl : l.stackTraces = false) (K : jK) (F : GH) (h0 hs : Nat) (now past : Nat → Int32) (kept thrown : Int32) (drawn : Nat → Int32) (hash : Int64) : Ct l K yX6_beginsAnew cX6_beginsAnew 1 none 1 20 0 0 [.ref h0] (gB F h0 (mC K h0 now past kept thrown drawn hash)) hs (pV (fun G' _ => G' = (gB F h0 (mC K h0 (mAnew now) past kept thrown drawn hash)))) jno := by
  refine Ct.ofA hl (by decide) (Nat.le_of_ble_eq_true rfl) (L0 := [some (.ref h0)]) (jL_of 0 rfl) ?_
  intro A E hE hQ hX hNm
  refine j_aload_n hE (i := 0) dX6_beginsAnew_0 rfl rfl ?_
  refine j_get hE flX6_7 gB_0 rfl dX6_beginsAnew_1 ?_
  refine j_iconst hE (v := nI 3) dX6_beginsAnew_4 (by decide) ?_
  refine j_iconst hE (v := nI 0) dX6_beginsAnew_5 (by decide) ?_
  refine b_ast1 hE rfl (by omega) (by decide) dX6_beginsAnew_6 ?_
  refine j_aload_n hE (i := 0) dX6_beginsAnew_7 rfl rfl ?_
  refine j_get hE flX6_7 gB_0 rfl dX6_beginsAnew_8 ?_
  refine j_iconst hE (v := nI 5) dX6_beginsAnew_11 (by decide) ?_
  refine j_iconst hE (v := nI 0) dX6_beginsAnew_12 (by decide) ?_
  refine b_ast1 hE rfl (by omega) (by decide) dX6_beginsAnew_13 ?_
  refine j_aload_n hE (i := 0) dX6_beginsAnew_14 rfl rfl ?_
  refine j_get hE flX6_7 gB_0 rfl dX6_beginsAnew_15 ?_
  refine j_iconst hE (v := nI 4) dX6_beginsAnew_18 (by decide) ?_
  refine j_iconst hE (v := nI 0) dX6_beginsAnew_19 (by decide) ?_
  refine b_ast1 hE rfl (by omega) (by decide) dX6_beginsAnew_20 ?_
  refine j_aload_n hE (i := 0) dX6_beginsAnew_21 rfl rfl ?_
  refine j_get hE flX6_7 gB_0 rfl dX6_beginsAnew_22 ?_
  refine j_bipush hE (v := nI 8) dX6_beginsAnew_25 (by decide) ?_
  refine j_iconst hE (v := nI 0) dX6_beginsAnew_27 (by decide) ?_
  refine b_ast1 hE rfl (by omega) (by decide) dX6_beginsAnew_28 ?_
  refine j_aload_n hE (i := 0) dX6_beginsAnew_29 rfl rfl ?_
  refine j_cVv hE mlX6_30 gB_0 (fun l hl => c_X6_searches hl K F h0 _ _ _ _ _ _ _) rfl rfl (Nat.le_of_ble_eq_true rfl) (by decide) (by decide) (by omega) (by omega) dX6_beginsAnew_30 (fun G9 hs9 hp => ?_) (fun _ _ h => h.elim)
  subst hp
  refine j_vret hE hQ (by omega) (by omega) dX6_beginsAnew_33 ?_
  exact ⟨rfl, rfl⟩

set_option maxRecDepth 100000 in
set_option maxHeartbeats 4000000 in
theorem c_X6_isParameter_t {l : Launch} (hl : l.stackTraces = false) (K : jK) (F : GH) (h0 hs : Nat) (now past : Nat → Int32) (kept thrown : Int32) (drawn : Nat → Int32) (hash : Int64) (n j : Nat) (hn : now 2 = nI n) (hn9 : n ≤ 12) (hj : j < n) : Ct l K yX6_isParameter cX6_isParameter 2 (some .boolean) 1 22 0 0 [.ref h0, .int (nI j)] (gB F h0 (mC K h0 now past kept thrown drawn hash)) hs (pI (fun r G' _ => r = nI 1 ∧ G' = (gB F h0 (mC K h0 now past kept thrown drawn hash)))) jno := by
  refine Ct.ofA hl (by decide) (Nat.le_of_ble_eq_true rfl) (L0 := [some (.ref h0), some (.int (nI j))]) (jL_of 0 rfl) ?_
  intro A E hE hQ hX hNm
  refine j_iload_n hE (i := 1) dX6_isParameter_0 rfl rfl ?_
  refine j_iconst hE (v := nI 0) dX6_isParameter_1 (by decide) ?_
  refine j_aload_n hE (i := 0) dX6_isParameter_2 rfl rfl ?_
  refine j_get hE flX6_7 gB_0 rfl dX6_isParameter_3 ?_
  refine j_iconst hE (v := nI 2) dX6_isParameter_6 (by decide) ?_
  refine j_iald hE gB_1 rfl (by omega) (by decide) dX6_isParameter_7 ?_
  rw [hn]
  refine j_iconst hE (v := nI 1) dX6_isParameter_8 (by decide) ?_
  refine j_isub hE dX6_isParameter_9 ?_
  refine j_cSi hE mlX6_26 (fun l hl => c_X6_in_t hl K _ _ _ _ _ (ix_t hj (by omega))) rfl rfl (Nat.le_of_ble_eq_true rfl) (by decide) (by decide) (by omega) (by omega) dX6_isParameter_10 (fun r G9 hs9 hp => ?_) (fun _ _ h => h.elim)
  obtain ⟨rfl, rfl⟩ := hp
  refine j_iret hE hQ rfl (by omega) (by omega) dX6_isParameter_13 ?_
  exact ⟨_, rfl, rfl, rfl⟩

set_option maxRecDepth 100000 in
set_option maxHeartbeats 4000000 in
theorem c_X6_isParameter_f {l : Launch} (hl : l.stackTraces = false) (K : jK) (F : GH) (h0 hs : Nat) (now past : Nat → Int32) (kept thrown : Int32) (drawn : Nat → Int32) (hash : Int64) (n : Nat) (p : Int32) (hn : now 2 = nI n) (hn9 : n ≤ 12) (hj : ∀ j, j < n → p ≠ nI j) : Ct l K yX6_isParameter cX6_isParameter 2 (some .boolean) 1 22 0 0 [.ref h0, .int p] (gB F h0 (mC K h0 now past kept thrown drawn hash)) hs (pI (fun r G' _ => r = nI 0 ∧ G' = (gB F h0 (mC K h0 now past kept thrown drawn hash)))) jno := by
  refine Ct.ofA hl (by decide) (Nat.le_of_ble_eq_true rfl) (L0 := [some (.ref h0), some (.int p)]) (jL_of 0 rfl) ?_
  intro A E hE hQ hX hNm
  refine j_iload_n hE (i := 1) dX6_isParameter_0 rfl rfl ?_
  refine j_iconst hE (v := nI 0) dX6_isParameter_1 (by decide) ?_
  refine j_aload_n hE (i := 0) dX6_isParameter_2 rfl rfl ?_
  refine j_get hE flX6_7 gB_0 rfl dX6_isParameter_3 ?_
  refine j_iconst hE (v := nI 2) dX6_isParameter_6 (by decide) ?_
  refine j_iald hE gB_1 rfl (by omega) (by decide) dX6_isParameter_7 ?_
  rw [hn]
  refine j_iconst hE (v := nI 1) dX6_isParameter_8 (by decide) ?_
  refine j_isub hE dX6_isParameter_9 ?_
  refine j_cSi hE mlX6_26 (fun l hl => c_X6_in_f hl K _ _ _ _ _ (ix_f hj (by omega))) rfl rfl (Nat.le_of_ble_eq_true rfl) (by decide) (by decide) (by omega) (by omega) dX6_isParameter_10 (fun r G9 hs9 hp => ?_) (fun _ _ h => h.elim)
  obtain ⟨rfl, rfl⟩ := hp
  refine j_iret hE hQ rfl (by omega) (by omega) dX6_isParameter_13 ?_
  exact ⟨_, rfl, rfl, rfl⟩

set_option maxRecDepth 100000 in
set_option maxHeartbeats 4000000 in
theorem c_X6_isBit_t {l : Launch} (hl : l.stackTraces = false) (K : jK) (F : GH) (h0 hs : Nat) (now past : Nat → Int32) (kept thrown : Int32) (drawn : Nat → Int32) (hash : Int64) (n j : Nat) (hn : now 5 = nI n) (hn9 : n ≤ 2048) (hj : j < n) : Ct l K yX6_isBit cX6_isBit 2 (some .boolean) 1 22 0 0 [.ref h0, .int (nI j)] (gB F h0 (mC K h0 now past kept thrown drawn hash)) hs (pI (fun r G' _ => r = nI 1 ∧ G' = (gB F h0 (mC K h0 now past kept thrown drawn hash)))) jno := by
  refine Ct.ofA hl (by decide) (Nat.le_of_ble_eq_true rfl) (L0 := [some (.ref h0), some (.int (nI j))]) (jL_of 0 rfl) ?_
  intro A E hE hQ hX hNm
  refine j_iload_n hE (i := 1) dX6_isBit_0 rfl rfl ?_
  refine j_iconst hE (v := nI 0) dX6_isBit_1 (by decide) ?_
  refine j_aload_n hE (i := 0) dX6_isBit_2 rfl rfl ?_
  refine j_get hE flX6_7 gB_0 rfl dX6_isBit_3 ?_
  refine j_iconst hE (v := nI 5) dX6_isBit_6 (by decide) ?_
  refine j_iald hE gB_1 rfl (by omega) (by decide) dX6_isBit_7 ?_
  rw [hn]
  refine j_iconst hE (v := nI 1) dX6_isBit_8 (by decide) ?_
  refine j_isub hE dX6_isBit_9 ?_
  refine j_cSi hE mlX6_26 (fun l hl => c_X6_in_t hl K _ _ _ _ _ (ix_t hj (by omega))) rfl rfl (Nat.le_of_ble_eq_true rfl) (by decide) (by decide) (by omega) (by omega) dX6_isBit_10 (fun r G9 hs9 hp => ?_) (fun _ _ h => h.elim)
  obtain ⟨rfl, rfl⟩ := hp
  refine j_iret hE hQ rfl (by omega) (by omega) dX6_isBit_13 ?_
  exact ⟨_, rfl, rfl, rfl⟩

set_option maxRecDepth 100000 in
set_option maxHeartbeats 4000000 in
theorem c_X6_isBit_f {l : Launch} (hl : l.stackTraces = false) (K : jK) (F : GH) (h0 hs : Nat) (now past : Nat → Int32) (kept thrown : Int32) (drawn : Nat → Int32) (hash : Int64) (n : Nat) (p : Int32) (hn : now 5 = nI n) (hn9 : n ≤ 2048) (hj : ∀ j, j < n → p ≠ nI j) : Ct l K yX6_isBit cX6_isBit 2 (some .boolean) 1 22 0 0 [.ref h0, .int p] (gB F h0 (mC K h0 now past kept thrown drawn hash)) hs (pI (fun r G' _ => r = nI 0 ∧ G' = (gB F h0 (mC K h0 now past kept thrown drawn hash)))) jno := by
  refine Ct.ofA hl (by decide) (Nat.le_of_ble_eq_true rfl) (L0 := [some (.ref h0), some (.int p)]) (jL_of 0 rfl) ?_
  intro A E hE hQ hX hNm
  refine j_iload_n hE (i := 1) dX6_isBit_0 rfl rfl ?_
  refine j_iconst hE (v := nI 0) dX6_isBit_1 (by decide) ?_
  refine j_aload_n hE (i := 0) dX6_isBit_2 rfl rfl ?_
  refine j_get hE flX6_7 gB_0 rfl dX6_isBit_3 ?_
  refine j_iconst hE (v := nI 5) dX6_isBit_6 (by decide) ?_
  refine j_iald hE gB_1 rfl (by omega) (by decide) dX6_isBit_7 ?_
  rw [hn]
  refine j_iconst hE (v := nI 1) dX6_isBit_8 (by decide) ?_
  refine j_isub hE dX6_isBit_9 ?_
  refine j_cSi hE mlX6_26 (fun l hl => c_X6_in_f hl K _ _ _ _ _ (ix_f hj (by omega))) rfl rfl (Nat.le_of_ble_eq_true rfl) (by decide) (by decide) (by omega) (by omega) dX6_isBit_10 (fun r G9 hs9 hp => ?_) (fun _ _ h => h.elim)
  obtain ⟨rfl, rfl⟩ := hp
  refine j_iret hE hQ rfl (by omega) (by omega) dX6_isBit_13 ?_
  exact ⟨_, rfl, rfl, rfl⟩

set_option maxRecDepth 100000 in
set_option maxHeartbeats 4000000 in
theorem c_X6_pending {l : Launch} (hl : l.stackTraces = false) (K : jK) (F : GH) (h0 hs : Nat) (now past : Nat → Int32) (kept thrown : Int32) (drawn : Nat → Int32) (hash : Int64) : Ct l K yX6_pending cX6_pending 1 (some .int) 0 0 0 0 [.ref h0] (gB F h0 (mC K h0 now past kept thrown drawn hash)) hs (pI (fun r G' _ => r = now 5 ∧ G' = (gB F h0 (mC K h0 now past kept (nI 0) drawn hash)))) jno := by
  refine Ct.ofA hl (by decide) (Nat.le_of_ble_eq_true rfl) (L0 := [some (.ref h0)]) (jL_of 0 rfl) ?_
  intro A E hE hQ hX hNm
  refine j_aload_n hE (i := 0) dX6_pending_0 rfl rfl ?_
  refine j_iconst hE (v := nI 0) dX6_pending_1 (by decide) ?_
  refine b_put3 hE flX6_19 rfl rfl dX6_pending_2 ?_
  refine j_aload_n hE (i := 0) dX6_pending_5 rfl rfl ?_
  refine j_get hE flX6_7 gB_0 rfl dX6_pending_6 ?_
  refine j_iconst hE (v := nI 5) dX6_pending_9 (by decide) ?_
  refine j_iald hE gB_1 rfl (by omega) (by decide) dX6_pending_10 ?_
  refine j_iret hE hQ rfl (by omega) (by omega) dX6_pending_11 ?_
  exact ⟨_, rfl, rfl, rfl⟩

set_option maxRecDepth 100000 in
set_option maxHeartbeats 4000000 in
theorem c_X6_receiverState {l : Launch} (hl : l.stackTraces = false) (K : jK) (F : GH) (h0 hs : Nat) (now past : Nat → Int32) (kept thrown : Int32) (drawn : Nat → Int32) (hash : Int64) : Ct l K yX6_receiverState cX6_receiverState 1 (some .int) 0 0 0 0 [.ref h0] (gB F h0 (mC K h0 now past kept thrown drawn hash)) hs (pI (fun r G' _ => r = now 7 ∧ G' = (gB F h0 (mC K h0 now past kept (nI 0) drawn hash)))) jno := by
  refine Ct.ofA hl (by decide) (Nat.le_of_ble_eq_true rfl) (L0 := [some (.ref h0)]) (jL_of 0 rfl) ?_
  intro A E hE hQ hX hNm
  refine j_aload_n hE (i := 0) dX6_receiverState_0 rfl rfl ?_
  refine j_iconst hE (v := nI 0) dX6_receiverState_1 (by decide) ?_
  refine b_put3 hE flX6_19 rfl rfl dX6_receiverState_2 ?_
  refine j_aload_n hE (i := 0) dX6_receiverState_5 rfl rfl ?_
  refine j_get hE flX6_7 gB_0 rfl dX6_receiverState_6 ?_
  refine j_bipush hE (v := nI 7) dX6_receiverState_9 (by decide) ?_
  refine j_iald hE gB_1 rfl (by omega) (by decide) dX6_receiverState_11 ?_
  refine j_iret hE hQ rfl (by omega) (by omega) dX6_receiverState_12 ?_
  exact ⟨_, rfl, rfl, rfl⟩

set_option maxRecDepth 100000 in
set_option maxHeartbeats 4000000 in
theorem c_X6_ownerAt {l : Launch} (hl : l.stackTraces = false) (K : jK) (F : GH) (h0 hs : Nat) (now past : Nat → Int32) (kept thrown : Int32) (drawn : Nat → Int32) (hash : Int64) (f w : Nat) (hp : 201 + 16 * f + w < 2377) : Ct l K yX6_ownerAt cX6_ownerAt 3 (some .int) 0 0 0 0 [.ref h0, .int (nI f), .int (nI w)] (gB F h0 (mC K h0 now past kept thrown drawn hash)) hs (pI (fun r G' _ => r = now (201 + 16 * f + w) ∧ G' = (gB F h0 (mC K h0 now past kept thrown drawn hash)))) jno := by
  refine Ct.ofA hl (by decide) (Nat.le_of_ble_eq_true rfl) (L0 := [some (.ref h0), some (.int (nI f)), some (.int (nI w))]) (jL_of 0 rfl) ?_
  intro A E hE hQ hX hNm
  refine j_aload_n hE (i := 0) dX6_ownerAt_0 rfl rfl ?_
  refine j_get hE flX6_7 gB_0 rfl dX6_ownerAt_1 ?_
  refine j_sipush hE (v := nI 201) dX6_ownerAt_4 (by decide) ?_
  refine j_bipush hE (v := nI 16) dX6_ownerAt_7 (by decide) ?_
  refine j_iload_n hE (i := 1) dX6_ownerAt_9 rfl rfl ?_
  refine j_imulN hE dX6_ownerAt_10 ?_
  refine j_iaddN hE dX6_ownerAt_11 ?_
  refine j_iload_n hE (i := 2) dX6_ownerAt_12 rfl rfl ?_
  refine j_iaddN hE dX6_ownerAt_13 ?_
  refine j_iald hE gB_1 rfl (by omega) (by decide) dX6_ownerAt_14 ?_
  refine j_iret hE hQ rfl (by omega) (by omega) dX6_ownerAt_15 ?_
  exact ⟨_, rfl, rfl, rfl⟩

set_option maxRecDepth 100000 in
set_option maxHeartbeats 4000000 in
theorem c_X6_bit_t {l : Launch} (hl : l.stackTraces = false) (K : jK) (F : GH) (h0 hs : Nat) (now past : Nat → Int32) (kept thrown : Int32) (drawn : Nat → Int32) (hash : Int64) (n j : Nat) (hn : now 5 = nI n) (hn9 : n ≤ 2048) (hj : j < n) : Ct l K yX6_bit cX6_bit 2 (some .int) 2 43 0 0 [.ref h0, .int (nI j)] (gB F h0 (mC K h0 now past kept thrown drawn hash)) hs (pI (fun r G' _ => r = now (329 + j) ∧ G' = (gB F h0 (mC K h0 now past kept (nI 0) drawn hash)))) jno := by
  refine Ct.ofA hl (by decide) (Nat.le_of_ble_eq_true rfl) (L0 := [some (.ref h0), some (.int (nI j))]) (jL_of 0 rfl) ?_
  intro A E hE hQ hX hNm
  refine j_aload_n hE (i := 0) dX6_bit_0 rfl rfl ?_
  refine j_aload_n hE (i := 0) dX6_bit_1 rfl rfl ?_
  refine j_iload_n hE (i := 1) dX6_bit_2 rfl rfl ?_
  refine j_cVi hE mlX6_91 gB_0 (fun l hl => c_X6_isBit_t hl K F h0 _ _ _ _ _ _ _ n _ hn hn9 hj) rfl rfl (Nat.le_of_ble_eq_true rfl) (by decide) (by decide) (by omega) (by omega) dX6_bit_3 (fun r G9 hs9 hp => ?_) (fun _ _ h => h.elim)
  obtain ⟨rfl, rfl⟩ := hp
  refine j_if_eqN hE (tgt := 13) dX6_bit_6 (by decide) (by omega) (fun h6 => ?_) (fun h6 => ?_)
  · exfalso; omega
  · refine j_iconst hE (v := nI 0) dX6_bit_9 (by decide) ?_
    refine j_goto hE (tgt := 14) dX6_bit_10 (by decide) ?_
    refine b_put3 hE flX6_19 rfl rfl dX6_bit_14 ?_
    refine j_aload_n hE (i := 0) dX6_bit_17 rfl rfl ?_
    refine j_get hE flX6_19 gB_0 rfl dX6_bit_18 ?_
    refine j_if_eqN hE (tgt := 28) dX6_bit_21 (by decide) (by omega) (fun h21 => ?_) (fun h21 => ?_)
    · refine j_aload_n hE (i := 0) dX6_bit_28 rfl rfl ?_
      refine j_get hE flX6_7 gB_0 rfl dX6_bit_29 ?_
      refine j_sipush hE (v := nI 329) dX6_bit_32 (by decide) ?_
      refine j_iload_n hE (i := 1) dX6_bit_35 rfl rfl ?_
      refine j_iaddN hE dX6_bit_36 ?_
      refine j_iald hE gB_1 rfl (by omega) (by decide) dX6_bit_37 ?_
      refine j_iret hE hQ rfl (by omega) (by omega) dX6_bit_38 ?_
      exact ⟨_, rfl, rfl, rfl⟩
    · exfalso; omega

set_option maxRecDepth 100000 in
set_option maxHeartbeats 4000000 in
theorem c_X6_bit_f {l : Launch} (hl : l.stackTraces = false) (K : jK) (F : GH) (h0 hs : Nat) (now past : Nat → Int32) (kept thrown : Int32) (drawn : Nat → Int32) (hash : Int64) (n : Nat) (p : Int32) (hn : now 5 = nI n) (hn9 : n ≤ 2048) (hj : ∀ j, j < n → p ≠ nI j) : Ct l K yX6_bit cX6_bit 2 (some .int) 2 43 0 0 [.ref h0, .int p] (gB F h0 (mC K h0 now past kept thrown drawn hash)) hs (pI (fun r G' _ => r = nI 0 ∧ G' = (gB F h0 (mC K h0 now past kept (nI 1) drawn hash)))) jno := by
  refine Ct.ofA hl (by decide) (Nat.le_of_ble_eq_true rfl) (L0 := [some (.ref h0), some (.int p)]) (jL_of 0 rfl) ?_
  intro A E hE hQ hX hNm
  refine j_aload_n hE (i := 0) dX6_bit_0 rfl rfl ?_
  refine j_aload_n hE (i := 0) dX6_bit_1 rfl rfl ?_
  refine j_iload_n hE (i := 1) dX6_bit_2 rfl rfl ?_
  refine j_cVi hE mlX6_91 gB_0 (fun l hl => c_X6_isBit_f hl K F h0 _ _ _ _ _ _ _ n _ hn hn9 hj) rfl rfl (Nat.le_of_ble_eq_true rfl) (by decide) (by decide) (by omega) (by omega) dX6_bit_3 (fun r G9 hs9 hp => ?_) (fun _ _ h => h.elim)
  obtain ⟨rfl, rfl⟩ := hp
  refine j_if_eqN hE (tgt := 13) dX6_bit_6 (by decide) (by omega) (fun h6 => ?_) (fun h6 => ?_)
  · refine j_iconst hE (v := nI 1) dX6_bit_13 (by decide) ?_
    refine b_put3 hE flX6_19 rfl rfl dX6_bit_14 ?_
    refine j_aload_n hE (i := 0) dX6_bit_17 rfl rfl ?_
    refine j_get hE flX6_19 gB_0 rfl dX6_bit_18 ?_
    refine j_if_eqN hE (tgt := 28) dX6_bit_21 (by decide) (by omega) (fun h21 => ?_) (fun h21 => ?_)
    · exfalso; omega
    · refine j_iconst hE (v := nI 0) dX6_bit_24 (by decide) ?_
      refine j_goto hE (tgt := 38) dX6_bit_25 (by decide) ?_
      refine j_iret hE hQ rfl (by omega) (by omega) dX6_bit_38 ?_
      exact ⟨_, rfl, rfl, rfl⟩
  · exfalso; omega

set_option maxRecDepth 100000 in
set_option maxHeartbeats 4000000 in
theorem c_X6_received_t {l : Launch} (hl : l.stackTraces = false) (K : jK) (F : GH) (h0 hs : Nat) (now past : Nat → Int32) (kept thrown : Int32) (drawn : Nat → Int32) (hash : Int64) (j : Nat) (hj : j ≤ 5) : Ct l K yX6_received cX6_received 2 (some .int) 1 22 0 0 [.ref h0, .int (nI j)] (gB F h0 (mC K h0 now past kept thrown drawn hash)) hs (pI (fun r G' _ => r = now (9 + j) ∧ G' = (gB F h0 (mC K h0 now past kept (nI 0) drawn hash)))) jno := by
  refine Ct.ofA hl (by decide) (Nat.le_of_ble_eq_true rfl) (L0 := [some (.ref h0), some (.int (nI j))]) (jL_of 0 rfl) ?_
  intro A E hE hQ hX hNm
  refine j_aload_n hE (i := 0) dX6_received_0 rfl rfl ?_
  refine j_iload_n hE (i := 1) dX6_received_1 rfl rfl ?_
  refine j_iconst hE (v := nI 0) dX6_received_2 (by decide) ?_
  refine j_iconst hE (v := nI 5) dX6_received_3 (by decide) ?_
  refine j_cSi hE mlX6_26 (fun l hl => c_X6_in_t hl K _ _ _ _ _ (rg_t (Nat.zero_le _) hj (by decide))) rfl rfl (Nat.le_of_ble_eq_true rfl) (by decide) (by decide) (by omega) (by omega) dX6_received_4 (fun r G9 hs9 hp => ?_) (fun _ _ h => h.elim)
  obtain ⟨rfl, rfl⟩ := hp
  refine j_if_eqN hE (tgt := 14) dX6_received_7 (by decide) (by omega) (fun h7 => ?_) (fun h7 => ?_)
  · exfalso; omega
  · refine j_iconst hE (v := nI 0) dX6_received_10 (by decide) ?_
    refine j_goto hE (tgt := 15) dX6_received_11 (by decide) ?_
    refine b_put3 hE flX6_19 rfl rfl dX6_received_15 ?_
    refine j_aload_n hE (i := 0) dX6_received_18 rfl rfl ?_
    refine j_get hE flX6_19 gB_0 rfl dX6_received_19 ?_
    refine j_if_eqN hE (tgt := 29) dX6_received_22 (by decide) (by omega) (fun h22 => ?_) (fun h22 => ?_)
    · refine j_aload_n hE (i := 0) dX6_received_29 rfl rfl ?_
      refine j_get hE flX6_7 gB_0 rfl dX6_received_30 ?_
      refine j_bipush hE (v := nI 9) dX6_received_33 (by decide) ?_
      refine j_iload_n hE (i := 1) dX6_received_35 rfl rfl ?_
      refine j_iaddN hE dX6_received_36 ?_
      refine j_iald hE gB_1 rfl (by omega) (by decide) dX6_received_37 ?_
      refine j_iret hE hQ rfl (by omega) (by omega) dX6_received_38 ?_
      exact ⟨_, rfl, rfl, rfl⟩
    · exfalso; omega

set_option maxRecDepth 100000 in
set_option maxHeartbeats 4000000 in
theorem c_X6_received_f {l : Launch} (hl : l.stackTraces = false) (K : jK) (F : GH) (h0 hs : Nat) (now past : Nat → Int32) (kept thrown : Int32) (drawn : Nat → Int32) (hash : Int64) (p : Int32) (hj : ∀ j, 0 ≤ j → j ≤ 5 → p ≠ nI j) : Ct l K yX6_received cX6_received 2 (some .int) 1 22 0 0 [.ref h0, .int p] (gB F h0 (mC K h0 now past kept thrown drawn hash)) hs (pI (fun r G' _ => r = nI 0 ∧ G' = (gB F h0 (mC K h0 now past kept (nI 1) drawn hash)))) jno := by
  refine Ct.ofA hl (by decide) (Nat.le_of_ble_eq_true rfl) (L0 := [some (.ref h0), some (.int p)]) (jL_of 0 rfl) ?_
  intro A E hE hQ hX hNm
  refine j_aload_n hE (i := 0) dX6_received_0 rfl rfl ?_
  refine j_iload_n hE (i := 1) dX6_received_1 rfl rfl ?_
  refine j_iconst hE (v := nI 0) dX6_received_2 (by decide) ?_
  refine j_iconst hE (v := nI 5) dX6_received_3 (by decide) ?_
  refine j_cSi hE mlX6_26 (fun l hl => c_X6_in_f hl K _ _ _ _ _ (rg_f hj (by decide) (by decide))) rfl rfl (Nat.le_of_ble_eq_true rfl) (by decide) (by decide) (by omega) (by omega) dX6_received_4 (fun r G9 hs9 hp => ?_) (fun _ _ h => h.elim)
  obtain ⟨rfl, rfl⟩ := hp
  refine j_if_eqN hE (tgt := 14) dX6_received_7 (by decide) (by omega) (fun h7 => ?_) (fun h7 => ?_)
  · refine j_iconst hE (v := nI 1) dX6_received_14 (by decide) ?_
    refine b_put3 hE flX6_19 rfl rfl dX6_received_15 ?_
    refine j_aload_n hE (i := 0) dX6_received_18 rfl rfl ?_
    refine j_get hE flX6_19 gB_0 rfl dX6_received_19 ?_
    refine j_if_eqN hE (tgt := 29) dX6_received_22 (by decide) (by omega) (fun h22 => ?_) (fun h22 => ?_)
    · exfalso; omega
    · refine j_iconst hE (v := nI 0) dX6_received_25 (by decide) ?_
      refine j_goto hE (tgt := 38) dX6_received_26 (by decide) ?_
      refine j_iret hE hQ rfl (by omega) (by omega) dX6_received_38 ?_
      exact ⟨_, rfl, rfl, rfl⟩
  · exfalso; omega

set_option maxRecDepth 100000 in
set_option maxHeartbeats 4000000 in
theorem c_X6_tells_t {l : Launch} (hl : l.stackTraces = false) (K : jK) (F : GH) (h0 hs : Nat) (now past : Nat → Int32) (kept thrown : Int32) (drawn : Nat → Int32) (hash : Int64) (n j : Nat) (hn : now 2 = nI n) (hn9 : n ≤ 12) (hj : j < n) (w : Nat) (hw : w < 14) : Ct l K yX6_tells cX6_tells 3 (some .int) 2 43 0 0 [.ref h0, .int (nI j), .int (nI w)] (gB F h0 (mC K h0 now past kept thrown drawn hash)) hs (pI (fun r G' _ => r = now (33 + 14 * j + w) ∧ G' = (gB F h0 (mC K h0 now past kept (nI 0) drawn hash)))) jno := by
  refine Ct.ofA hl (by decide) (Nat.le_of_ble_eq_true rfl) (L0 := [some (.ref h0), some (.int (nI j)), some (.int (nI w))]) (jL_of 0 rfl) ?_
  intro A E hE hQ hX hNm
  refine j_aload_n hE (i := 0) dX6_tells_0 rfl rfl ?_
  refine j_aload_n hE (i := 0) dX6_tells_1 rfl rfl ?_
  refine j_iload_n hE (i := 1) dX6_tells_2 rfl rfl ?_
  refine j_cVi hE mlX6_75 gB_0 (fun l hl => c_X6_isParameter_t hl K F h0 _ _ _ _ _ _ _ n _ hn hn9 hj) rfl rfl (Nat.le_of_ble_eq_true rfl) (by decide) (by decide) (by omega) (by omega) dX6_tells_3 (fun r G9 hs9 hp => ?_) (fun _ _ h => h.elim)
  obtain ⟨rfl, rfl⟩ := hp
  refine j_if_eqN hE (tgt := 13) dX6_tells_6 (by decide) (by omega) (fun h6 => ?_) (fun h6 => ?_)
  · exfalso; omega
  · refine j_iconst hE (v := nI 0) dX6_tells_9 (by decide) ?_
    refine j_goto hE (tgt := 14) dX6_tells_10 (by decide) ?_
    refine b_put3 hE flX6_19 rfl rfl dX6_tells_14 ?_
    refine j_aload_n hE (i := 0) dX6_tells_17 rfl rfl ?_
    refine j_get hE flX6_19 gB_0 rfl dX6_tells_18 ?_
    refine j_if_eqN hE (tgt := 28) dX6_tells_21 (by decide) (by omega) (fun h21 => ?_) (fun h21 => ?_)
    · refine j_aload_n hE (i := 0) dX6_tells_28 rfl rfl ?_
      refine j_iload_n hE (i := 1) dX6_tells_29 rfl rfl ?_
      refine j_iload_n hE (i := 2) dX6_tells_30 rfl rfl ?_
      refine j_cVi hE mlX6_43 gB_0 (fun l hl => c_X6_of hl K F h0 _ _ _ _ _ _ _ _ _ (by omega)) rfl rfl (Nat.le_of_ble_eq_true rfl) (by decide) (by decide) (by omega) (by omega) dX6_tells_31 (fun r G9 hs9 hp => ?_) (fun _ _ h => h.elim)
      obtain ⟨rfl, rfl⟩ := hp
      refine j_iret hE hQ rfl (by omega) (by omega) dX6_tells_34 ?_
      exact ⟨_, rfl, rfl, rfl⟩
    · exfalso; omega

set_option maxRecDepth 100000 in
set_option maxHeartbeats 4000000 in
theorem c_X6_tells_f {l : Launch} (hl : l.stackTraces = false) (K : jK) (F : GH) (h0 hs : Nat) (now past : Nat → Int32) (kept thrown : Int32) (drawn : Nat → Int32) (hash : Int64) (n : Nat) (p : Int32) (hn : now 2 = nI n) (hn9 : n ≤ 12) (hj : ∀ j, j < n → p ≠ nI j) (w : Nat) (hw : w < 14) : Ct l K yX6_tells cX6_tells 3 (some .int) 2 43 0 0 [.ref h0, .int p, .int (nI w)] (gB F h0 (mC K h0 now past kept thrown drawn hash)) hs (pI (fun r G' _ => r = nI 0 ∧ G' = (gB F h0 (mC K h0 now past kept (nI 1) drawn hash)))) jno := by
  refine Ct.ofA hl (by decide) (Nat.le_of_ble_eq_true rfl) (L0 := [some (.ref h0), some (.int p), some (.int (nI w))]) (jL_of 0 rfl) ?_
  intro A E hE hQ hX hNm
  refine j_aload_n hE (i := 0) dX6_tells_0 rfl rfl ?_
  refine j_aload_n hE (i := 0) dX6_tells_1 rfl rfl ?_
  refine j_iload_n hE (i := 1) dX6_tells_2 rfl rfl ?_
  refine j_cVi hE mlX6_75 gB_0 (fun l hl => c_X6_isParameter_f hl K F h0 _ _ _ _ _ _ _ n _ hn hn9 hj) rfl rfl (Nat.le_of_ble_eq_true rfl) (by decide) (by decide) (by omega) (by omega) dX6_tells_3 (fun r G9 hs9 hp => ?_) (fun _ _ h => h.elim)
  obtain ⟨rfl, rfl⟩ := hp
  refine j_if_eqN hE (tgt := 13) dX6_tells_6 (by decide) (by omega) (fun h6 => ?_) (fun h6 => ?_)
  · refine j_iconst hE (v := nI 1) dX6_tells_13 (by decide) ?_
    refine b_put3 hE flX6_19 rfl rfl dX6_tells_14 ?_
    refine j_aload_n hE (i := 0) dX6_tells_17 rfl rfl ?_
    refine j_get hE flX6_19 gB_0 rfl dX6_tells_18 ?_
    refine j_if_eqN hE (tgt := 28) dX6_tells_21 (by decide) (by omega) (fun h21 => ?_) (fun h21 => ?_)
    · exfalso; omega
    · refine j_iconst hE (v := nI 0) dX6_tells_24 (by decide) ?_
      refine j_goto hE (tgt := 34) dX6_tells_25 (by decide) ?_
      refine j_iret hE hQ rfl (by omega) (by omega) dX6_tells_34 ?_
      exact ⟨_, rfl, rfl, rfl⟩
  · exfalso; omega

set_option maxRecDepth 100000 in
set_option maxHeartbeats 4000000 in
theorem c_X6_sample_t {l : Launch} (hl : l.stackTraces = false) (K : jK) (F : GH) (h0 hs : Nat) (now past : Nat → Int32) (kept thrown : Int32) (drawn : Nat → Int32) (hash : Int64) (n j : Nat) (hn : now 2 = nI n) (hn9 : n ≤ 12) (hj : j < n) : Ct l K yX6_sample cX6_sample 2 (some .int) 3 65 0 0 [.ref h0, .int (nI j)] (gB F h0 (mC K h0 now past kept thrown drawn hash)) hs (pI (fun r G' _ => r = now (33 + 14 * j + 2) ∧ G' = (gB F h0 (mC K h0 now past kept (nI 0) drawn hash)))) jno := by
  refine Ct.ofA hl (by decide) (Nat.le_of_ble_eq_true rfl) (L0 := [some (.ref h0), some (.int (nI j))]) (jL_of 0 rfl) ?_
  intro A E hE hQ hX hNm
  refine j_aload_n hE (i := 0) dX6_sample_0 rfl rfl ?_
  refine j_iload_n hE (i := 1) dX6_sample_1 rfl rfl ?_
  refine j_iconst hE (v := nI 2) dX6_sample_2 (by decide) ?_
  refine j_cVi hE mlX6_125 gB_0 (fun l hl => c_X6_tells_t hl K F h0 _ _ _ _ _ _ _ n _ hn hn9 hj _ (by decide)) rfl rfl (Nat.le_of_ble_eq_true rfl) (by decide) (by decide) (by omega) (by omega) dX6_sample_3 (fun r G9 hs9 hp => ?_) (fun _ _ h => h.elim)
  obtain ⟨rfl, rfl⟩ := hp
  refine j_iret hE hQ rfl (by omega) (by omega) dX6_sample_6 ?_
  exact ⟨_, rfl, rfl, rfl⟩

set_option maxRecDepth 100000 in
set_option maxHeartbeats 4000000 in
theorem c_X6_sample_f {l : Launch} (hl : l.stackTraces = false) (K : jK) (F : GH) (h0 hs : Nat) (now past : Nat → Int32) (kept thrown : Int32) (drawn : Nat → Int32) (hash : Int64) (n : Nat) (p : Int32) (hn : now 2 = nI n) (hn9 : n ≤ 12) (hj : ∀ j, j < n → p ≠ nI j) : Ct l K yX6_sample cX6_sample 2 (some .int) 3 65 0 0 [.ref h0, .int p] (gB F h0 (mC K h0 now past kept thrown drawn hash)) hs (pI (fun r G' _ => r = nI 0 ∧ G' = (gB F h0 (mC K h0 now past kept (nI 1) drawn hash)))) jno := by
  refine Ct.ofA hl (by decide) (Nat.le_of_ble_eq_true rfl) (L0 := [some (.ref h0), some (.int p)]) (jL_of 0 rfl) ?_
  intro A E hE hQ hX hNm
  refine j_aload_n hE (i := 0) dX6_sample_0 rfl rfl ?_
  refine j_iload_n hE (i := 1) dX6_sample_1 rfl rfl ?_
  refine j_iconst hE (v := nI 2) dX6_sample_2 (by decide) ?_
  refine j_cVi hE mlX6_125 gB_0 (fun l hl => c_X6_tells_f hl K F h0 _ _ _ _ _ _ _ n _ hn hn9 hj _ (by decide)) rfl rfl (Nat.le_of_ble_eq_true rfl) (by decide) (by decide) (by omega) (by omega) dX6_sample_3 (fun r G9 hs9 hp => ?_) (fun _ _ h => h.elim)
  obtain ⟨rfl, rfl⟩ := hp
  refine j_iret hE hQ rfl (by omega) (by omega) dX6_sample_6 ?_
  exact ⟨_, rfl, rfl, rfl⟩

set_option maxRecDepth 100000 in
set_option maxHeartbeats 4000000 in
theorem c_X6_samples_t {l : Launch} (hl : l.stackTraces = false) (K : jK) (F : GH) (h0 hs : Nat) (now past : Nat → Int32) (kept thrown : Int32) (drawn : Nat → Int32) (hash : Int64) (n j : Nat) (hn : now 2 = nI n) (hn9 : n ≤ 12) (hj : j < n) : Ct l K yX6_samples cX6_samples 2 (some .int) 3 65 0 0 [.ref h0, .int (nI j)] (gB F h0 (mC K h0 now past kept thrown drawn hash)) hs (pI (fun r G' _ => r = now (33 + 14 * j + 3) ∧ G' = (gB F h0 (mC K h0 now past kept (nI 0) drawn hash)))) jno := by
  refine Ct.ofA hl (by decide) (Nat.le_of_ble_eq_true rfl) (L0 := [some (.ref h0), some (.int (nI j))]) (jL_of 0 rfl) ?_
  intro A E hE hQ hX hNm
  refine j_aload_n hE (i := 0) dX6_samples_0 rfl rfl ?_
  refine j_iload_n hE (i := 1) dX6_samples_1 rfl rfl ?_
  refine j_iconst hE (v := nI 3) dX6_samples_2 (by decide) ?_
  refine j_cVi hE mlX6_125 gB_0 (fun l hl => c_X6_tells_t hl K F h0 _ _ _ _ _ _ _ n _ hn hn9 hj _ (by decide)) rfl rfl (Nat.le_of_ble_eq_true rfl) (by decide) (by decide) (by omega) (by omega) dX6_samples_3 (fun r G9 hs9 hp => ?_) (fun _ _ h => h.elim)
  obtain ⟨rfl, rfl⟩ := hp
  refine j_iret hE hQ rfl (by omega) (by omega) dX6_samples_6 ?_
  exact ⟨_, rfl, rfl, rfl⟩

set_option maxRecDepth 100000 in
set_option maxHeartbeats 4000000 in
theorem c_X6_samples_f {l : Launch} (hl : l.stackTraces = false) (K : jK) (F : GH) (h0 hs : Nat) (now past : Nat → Int32) (kept thrown : Int32) (drawn : Nat → Int32) (hash : Int64) (n : Nat) (p : Int32) (hn : now 2 = nI n) (hn9 : n ≤ 12) (hj : ∀ j, j < n → p ≠ nI j) : Ct l K yX6_samples cX6_samples 2 (some .int) 3 65 0 0 [.ref h0, .int p] (gB F h0 (mC K h0 now past kept thrown drawn hash)) hs (pI (fun r G' _ => r = nI 0 ∧ G' = (gB F h0 (mC K h0 now past kept (nI 1) drawn hash)))) jno := by
  refine Ct.ofA hl (by decide) (Nat.le_of_ble_eq_true rfl) (L0 := [some (.ref h0), some (.int p)]) (jL_of 0 rfl) ?_
  intro A E hE hQ hX hNm
  refine j_aload_n hE (i := 0) dX6_samples_0 rfl rfl ?_
  refine j_iload_n hE (i := 1) dX6_samples_1 rfl rfl ?_
  refine j_iconst hE (v := nI 3) dX6_samples_2 (by decide) ?_
  refine j_cVi hE mlX6_125 gB_0 (fun l hl => c_X6_tells_f hl K F h0 _ _ _ _ _ _ _ n _ hn hn9 hj _ (by decide)) rfl rfl (Nat.le_of_ble_eq_true rfl) (by decide) (by decide) (by omega) (by omega) dX6_samples_3 (fun r G9 hs9 hp => ?_) (fun _ _ h => h.elim)
  obtain ⟨rfl, rfl⟩ := hp
  refine j_iret hE hQ rfl (by omega) (by omega) dX6_samples_6 ?_
  exact ⟨_, rfl, rfl, rfl⟩

set_option maxRecDepth 100000 in
set_option maxHeartbeats 4000000 in
theorem c_X6_alarms_t {l : Launch} (hl : l.stackTraces = false) (K : jK) (F : GH) (h0 hs : Nat) (now past : Nat → Int32) (kept thrown : Int32) (drawn : Nat → Int32) (hash : Int64) (n j : Nat) (hn : now 2 = nI n) (hn9 : n ≤ 12) (hj : j < n) : Ct l K yX6_alarms cX6_alarms 2 (some .int) 3 65 0 0 [.ref h0, .int (nI j)] (gB F h0 (mC K h0 now past kept thrown drawn hash)) hs (pI (fun r G' _ => r = now (33 + 14 * j + 13) ∧ G' = (gB F h0 (mC K h0 now past kept (nI 0) drawn hash)))) jno := by
  refine Ct.ofA hl (by decide) (Nat.le_of_ble_eq_true rfl) (L0 := [some (.ref h0), some (.int (nI j))]) (jL_of 0 rfl) ?_
  intro A E hE hQ hX hNm
  refine j_aload_n hE (i := 0) dX6_alarms_0 rfl rfl ?_
  refine j_iload_n hE (i := 1) dX6_alarms_1 rfl rfl ?_
  refine j_bipush hE (v := nI 13) dX6_alarms_2 (by decide) ?_
  refine j_cVi hE mlX6_125 gB_0 (fun l hl => c_X6_tells_t hl K F h0 _ _ _ _ _ _ _ n _ hn hn9 hj _ (by decide)) rfl rfl (Nat.le_of_ble_eq_true rfl) (by decide) (by decide) (by omega) (by omega) dX6_alarms_4 (fun r G9 hs9 hp => ?_) (fun _ _ h => h.elim)
  obtain ⟨rfl, rfl⟩ := hp
  refine j_iret hE hQ rfl (by omega) (by omega) dX6_alarms_7 ?_
  exact ⟨_, rfl, rfl, rfl⟩

set_option maxRecDepth 100000 in
set_option maxHeartbeats 4000000 in
theorem c_X6_alarms_f {l : Launch} (hl : l.stackTraces = false) (K : jK) (F : GH) (h0 hs : Nat) (now past : Nat → Int32) (kept thrown : Int32) (drawn : Nat → Int32) (hash : Int64) (n : Nat) (p : Int32) (hn : now 2 = nI n) (hn9 : n ≤ 12) (hj : ∀ j, j < n → p ≠ nI j) : Ct l K yX6_alarms cX6_alarms 2 (some .int) 3 65 0 0 [.ref h0, .int p] (gB F h0 (mC K h0 now past kept thrown drawn hash)) hs (pI (fun r G' _ => r = nI 0 ∧ G' = (gB F h0 (mC K h0 now past kept (nI 1) drawn hash)))) jno := by
  refine Ct.ofA hl (by decide) (Nat.le_of_ble_eq_true rfl) (L0 := [some (.ref h0), some (.int p)]) (jL_of 0 rfl) ?_
  intro A E hE hQ hX hNm
  refine j_aload_n hE (i := 0) dX6_alarms_0 rfl rfl ?_
  refine j_iload_n hE (i := 1) dX6_alarms_1 rfl rfl ?_
  refine j_bipush hE (v := nI 13) dX6_alarms_2 (by decide) ?_
  refine j_cVi hE mlX6_125 gB_0 (fun l hl => c_X6_tells_f hl K F h0 _ _ _ _ _ _ _ n _ hn hn9 hj _ (by decide)) rfl rfl (Nat.le_of_ble_eq_true rfl) (by decide) (by decide) (by omega) (by omega) dX6_alarms_4 (fun r G9 hs9 hp => ?_) (fun _ _ h => h.elim)
  obtain ⟨rfl, rfl⟩ := hp
  refine j_iret hE hQ rfl (by omega) (by omega) dX6_alarms_7 ?_
  exact ⟨_, rfl, rfl, rfl⟩

set_option maxRecDepth 100000 in
set_option maxHeartbeats 4000000 in
theorem c_X6_hasAlarm_t {l : Launch} (hl : l.stackTraces = false) (K : jK) (F : GH) (h0 hs : Nat) (now past : Nat → Int32) (kept thrown : Int32) (drawn : Nat → Int32) (hash : Int64) (n j : Nat) (hn : now 2 = nI n) (hn9 : n ≤ 12) (hj : j < n) (b : Bool) (hb : now (33 + 14 * j + 11) = jb b) : Ct l K yX6_hasAlarm cX6_hasAlarm 2 (some .boolean) 3 65 0 0 [.ref h0, .int (nI j)] (gB F h0 (mC K h0 now past kept thrown drawn hash)) hs (pI (fun r G' _ => r = jb b ∧ G' = (gB F h0 (mC K h0 now past kept (nI 0) drawn hash)))) jno := by
  refine Ct.ofA hl (by decide) (Nat.le_of_ble_eq_true rfl) (L0 := [some (.ref h0), some (.int (nI j))]) (jL_of 0 rfl) ?_
  intro A E hE hQ hX hNm
  refine j_aload_n hE (i := 0) dX6_hasAlarm_0 rfl rfl ?_
  refine j_iload_n hE (i := 1) dX6_hasAlarm_1 rfl rfl ?_
  refine j_bipush hE (v := nI 11) dX6_hasAlarm_2 (by decide) ?_
  refine j_cVi hE mlX6_125 gB_0 (fun l hl => c_X6_tells_t hl K F h0 _ _ _ _ _ _ _ n _ hn hn9 hj _ (by decide)) rfl rfl (Nat.le_of_ble_eq_true rfl) (by decide) (by decide) (by omega) (by omega) dX6_hasAlarm_4 (fun r G9 hs9 hp => ?_) (fun _ _ h => h.elim)
  obtain ⟨rfl, rfl⟩ := hp
  rw [hb]
  refine j_iconst hE (v := nI 1) dX6_hasAlarm_7 (by decide) ?_
  refine j_ic_ne hE (tgt := 15) dX6_hasAlarm_8 (by decide) (fun h8 => ?_) (fun h8 => ?_)
  · have e : b = false := by cases b <;> first | rfl | exact absurd rfl h8
    subst e
    refine j_iconst hE (v := nI 0) dX6_hasAlarm_15 (by decide) ?_
    refine j_iret hE hQ rfl (by omega) (by omega) dX6_hasAlarm_16 ?_
    exact ⟨_, rfl, rfl, rfl⟩
  · have e : b = true := by cases b <;> first | rfl | exact absurd h8 (by decide)
    subst e
    refine j_iconst hE (v := nI 1) dX6_hasAlarm_11 (by decide) ?_
    refine j_goto hE (tgt := 16) dX6_hasAlarm_12 (by decide) ?_
    refine j_iret hE hQ rfl (by omega) (by omega) dX6_hasAlarm_16 ?_
    exact ⟨_, rfl, rfl, rfl⟩

set_option maxRecDepth 100000 in
set_option maxHeartbeats 4000000 in
theorem c_X6_hasAlarm_f {l : Launch} (hl : l.stackTraces = false) (K : jK) (F : GH) (h0 hs : Nat) (now past : Nat → Int32) (kept thrown : Int32) (drawn : Nat → Int32) (hash : Int64) (n : Nat) (p : Int32) (hn : now 2 = nI n) (hn9 : n ≤ 12) (hj : ∀ j, j < n → p ≠ nI j) : Ct l K yX6_hasAlarm cX6_hasAlarm 2 (some .boolean) 3 65 0 0 [.ref h0, .int p] (gB F h0 (mC K h0 now past kept thrown drawn hash)) hs (pI (fun r G' _ => r = nI 0 ∧ G' = (gB F h0 (mC K h0 now past kept (nI 1) drawn hash)))) jno := by
  refine Ct.ofA hl (by decide) (Nat.le_of_ble_eq_true rfl) (L0 := [some (.ref h0), some (.int p)]) (jL_of 0 rfl) ?_
  intro A E hE hQ hX hNm
  refine j_aload_n hE (i := 0) dX6_hasAlarm_0 rfl rfl ?_
  refine j_iload_n hE (i := 1) dX6_hasAlarm_1 rfl rfl ?_
  refine j_bipush hE (v := nI 11) dX6_hasAlarm_2 (by decide) ?_
  refine j_cVi hE mlX6_125 gB_0 (fun l hl => c_X6_tells_f hl K F h0 _ _ _ _ _ _ _ n _ hn hn9 hj _ (by decide)) rfl rfl (Nat.le_of_ble_eq_true rfl) (by decide) (by decide) (by omega) (by omega) dX6_hasAlarm_4 (fun r G9 hs9 hp => ?_) (fun _ _ h => h.elim)
  obtain ⟨rfl, rfl⟩ := hp
  refine j_iconst hE (v := nI 1) dX6_hasAlarm_7 (by decide) ?_
  refine j_ic_neN hE (tgt := 15) dX6_hasAlarm_8 (by decide) (by omega) (by omega) (fun h8 => ?_) (fun h8 => ?_)
  · refine j_iconst hE (v := nI 0) dX6_hasAlarm_15 (by decide) ?_
    refine j_iret hE hQ rfl (by omega) (by omega) dX6_hasAlarm_16 ?_
    exact ⟨_, rfl, rfl, rfl⟩
  · exfalso; omega

set_option maxRecDepth 100000 in
set_option maxHeartbeats 4000000 in
theorem c_X6_mix {l : Launch} (hl : l.stackTraces = false) (K : jK) (F : GH) (h0 hs : Nat) (now past : Nat → Int32) (kept thrown : Int32) (drawn : Nat → Int32) (hash : Int64) (v : Int64) : Ct l K yX6_mix cX6_mix 3 none 0 0 0 0 [.ref h0, .long v] (gB F h0 (mC K h0 now past kept thrown drawn hash)) hs (pV (fun G' _ => G' = (gB F h0 (mC K h0 now past kept thrown drawn (31 * hash + v))))) jno := by
  refine Ct.ofA hl (by decide) (Nat.le_of_ble_eq_true rfl) (L0 := [some (.ref h0), some (.long v), none]) (jL_of 0 rfl) ?_
  intro A E hE hQ hX hNm
  refine j_aload_n hE (i := 0) dX6_mix_0 rfl rfl ?_
  refine j_ldc2 hE dX6_mix_1 tw_939 ?_
  refine j_aload_n hE (i := 0) dX6_mix_4 rfl rfl ?_
  refine j_get hE flX6_130 gB_0 rfl dX6_mix_5 ?_
  refine j_lmul hE dX6_mix_8 ?_
  refine j_lload_n hE (i := 1) dX6_mix_9 rfl rfl ?_
  refine j_ladd hE dX6_mix_10 ?_
  refine b_put5 hE flX6_130 rfl rfl dX6_mix_11 ?_
  refine j_vret hE hQ (by omega) (by omega) dX6_mix_14 ?_
  exact ⟨rfl, rfl⟩
end
section
/-! ===== the reference: what is kept, undone; loops that copy ===== -/
def itr {σ : Type} (f : Nat → σ → σ) : Nat → σ → σ
  | 0, s => s
  | n + 1, s => f n (itr f n s)
theorem itr_0 {σ : Type} (f : Nat → σ → σ) (s : σ) : itr f 0 s = s := rfl
theorem itr_s {σ : Type} (f : Nat → σ → σ) (n : Nat) (s : σ) : itr f (n + 1) s = f n (itr f n s) := rfl
def kShift (i : Nat) (p : Nat → Int32) : Nat → Int32 := upd p i (p (i + 2377))
def kRow (now : Nat → Int32) (k i : Nat) (p : Nat → Int32) : Nat → Int32 := upd p (2377 * k + i) (now i)
/-- what keep() makes of the past: k states were kept -/
def mKeep (now past : Nat → Int32) (k : Nat) : Nat → Int32 := if k = 4 then itr (kRow now 3) 2377 (itr kShift 7131 past) else itr (kRow now k) 2377 past
def mKept (k : Nat) : Nat := if k = 4 then 4 else k + 1
set_option maxRecDepth 100000 in
set_option maxHeartbeats 4000000 in
theorem c_X6_keep {l : Launch} (hl : l.stackTraces = false) (K : jK) (F : GH) (h0 hs : Nat) (now past : Nat → Int32) (thrown : Int32) (k : Nat) (hk : k ≤ 4) (drawn : Nat → Int32) (hash : Int64) : Ct l K yX6_keep cX6_keep 2 none 0 0 0 0 [.ref h0] (gB F h0 (mC K h0 now past (nI k) thrown drawn hash)) hs (pV (fun G' _ => G' = (gB F h0 (mC K h0 now (mKeep now past k) (nI (mKept k)) thrown drawn hash)))) jno := by
  refine Ct.ofA hl (by decide) (Nat.le_of_ble_eq_true rfl) (L0 := [some (.ref h0), none]) (jL_of 1 rfl) ?_
  intro A E hE hQ hX hNm
  refine j_aload_n hE (i := 0) dX6_keep_0 rfl rfl ?_
  refine j_get hE flX6_23 gB_0 rfl dX6_keep_1 ?_
  refine j_iconst hE (v := nI 4) dX6_keep_4 (by decide) ?_
  refine j_ic_neN hE (tgt := 49) dX6_keep_5 (by decide) (by omega) (by omega) (fun h5 => ?_) (fun h5 => ?_)
  · obtain ⟨p9, hp9⟩ : ∃ p9, p9 = past := ⟨_, rfl⟩
    obtain ⟨k9, hk9⟩ : ∃ k9, k9 = k := ⟨_, rfl⟩
    rw [← hp9, ← hk9]
    have hk4 : k9 ≤ 3 := by omega
    have hq : mKeep now past k = itr (kRow now k9) 2377 p9 ∧ mKept k = k9 + 1 := by
      subst hp9; subst hk9
      exact ⟨if_neg (by omega), if_neg (by omega)⟩
    refine j_iconst hE (v := nI 0) dX6_keep_49 (by decide) ?_
    refine j_ist1 hE dX6_keep_50 rfl (by decide) rfl ?_
    have key51 : ∀ i, i ≤ 2377 → ∀ hs, J K A E 2 (gB F h0 (mC K h0 now (itr (kRow now k9) i p9) (nI k9) thrown drawn hash)) hs 0 0 51 [some (.ref h0), some (.int (nI i))] [] := by
      refine dloop (fun i => ∀ hs, J K A E 2 (gB F h0 (mC K h0 now (itr (kRow now k9) i p9) (nI k9) thrown drawn hash)) hs 0 0 51 [some (.ref h0), some (.int (nI i))] []) (2377) (fun i hi51 ih51 => ?_) ?_
      · intro hs
        refine j_iload_n hE (i := 1) dX6_keep_51 rfl rfl ?_
        refine j_sipush hE (v := nI 2377) dX6_keep_52 (by decide) ?_
        refine j_ic_geN hE (tgt := 85) dX6_keep_55 (by decide) (by omega) (by omega) (fun h55 => ?_) (fun h55 => ?_)
        · exfalso; omega
        · refine j_aload_n hE (i := 0) dX6_keep_58 rfl rfl ?_
          refine j_get hE flX6_13 gB_0 rfl dX6_keep_59 ?_
          refine j_sipush hE (v := nI 2377) dX6_keep_62 (by decide) ?_
          refine j_aload_n hE (i := 0) dX6_keep_65 rfl rfl ?_
          refine j_get hE flX6_23 gB_0 rfl dX6_keep_66 ?_
          refine j_imulN hE dX6_keep_69 ?_
          refine j_iload_n hE (i := 1) dX6_keep_70 rfl rfl ?_
          refine j_iaddN hE dX6_keep_71 ?_
          refine j_aload_n hE (i := 0) dX6_keep_72 rfl rfl ?_
          refine j_get hE flX6_7 gB_0 rfl dX6_keep_73 ?_
          refine j_iload_n hE (i := 1) dX6_keep_76 rfl rfl ?_
          refine j_iald hE gB_1 rfl (by omega) (by decide) dX6_keep_77 ?_
          refine b_ast2 hE rfl (by omega) (by decide) dX6_keep_78 ?_
          refine j_incN1 hE dX6_keep_79 (by decide) rfl ?_
          refine j_goto hE (tgt := 51) dX6_keep_82 (by decide) ?_
          exact ih51 _
      · intro hs
        refine j_iload_n hE (i := 1) dX6_keep_51 rfl rfl ?_
        refine j_sipush hE (v := nI 2377) dX6_keep_52 (by decide) ?_
        refine j_ic_geN hE (tgt := 85) dX6_keep_55 (by decide) (by omega) (by omega) (fun h55 => ?_) (fun h55 => ?_)
        · refine j_aload_n hE (i := 0) dX6_keep_85 rfl rfl ?_
          refine j_dup hE dX6_keep_86 rfl ?_
          refine j_get hE flX6_23 gB_0 rfl dX6_keep_87 ?_
          refine j_iconst hE (v := nI 1) dX6_keep_90 (by decide) ?_
          refine j_iaddN hE dX6_keep_91 ?_
          refine b_put2 hE flX6_23 rfl rfl dX6_keep_92 ?_
          refine j_vret hE hQ (by omega) (by omega) dX6_keep_95 ?_
          exact ⟨rfl, by rw [hq.1, hq.2]⟩
        · exfalso; omega
    exact key51 0 (by omega) _
  · subst h5
    refine j_iconst hE (v := nI 0) dX6_keep_8 (by decide) ?_
    refine j_ist1 hE dX6_keep_9 rfl (by decide) rfl ?_
    have key10 : ∀ i, i ≤ 7131 → ∀ hs, J K A E 2 (gB F h0 (mC K h0 now (itr kShift i past) (nI 4) thrown drawn hash)) hs 0 0 10 [some (.ref h0), some (.int (nI i))] [] := by
      refine dloop (fun i => ∀ hs, J K A E 2 (gB F h0 (mC K h0 now (itr kShift i past) (nI 4) thrown drawn hash)) hs 0 0 10 [some (.ref h0), some (.int (nI i))] []) (7131) (fun i hi10 ih10 => ?_) ?_
      · intro hs
        refine j_iload_n hE (i := 1) dX6_keep_10 rfl rfl ?_
        refine j_sipush hE (v := nI 7131) dX6_keep_11 (by decide) ?_
        refine j_ic_geN hE (tgt := 39) dX6_keep_14 (by decide) (by omega) (by omega) (fun h14 => ?_) (fun h14 => ?_)
        · exfalso; omega
        · refine j_aload_n hE (i := 0) dX6_keep_17 rfl rfl ?_
          refine j_get hE flX6_13 gB_0 rfl dX6_keep_18 ?_
          refine j_iload_n hE (i := 1) dX6_keep_21 rfl rfl ?_
          refine j_aload_n hE (i := 0) dX6_keep_22 rfl rfl ?_
          refine j_get hE flX6_13 gB_0 rfl dX6_keep_23 ?_
          refine j_iload_n hE (i := 1) dX6_keep_26 rfl rfl ?_
          refine j_sipush hE (v := nI 2377) dX6_keep_27 (by decide) ?_
          refine j_iaddN hE dX6_keep_30 ?_
          refine j_iald hE gB_2 rfl (by omega) (by decide) dX6_keep_31 ?_
          refine b_ast2 hE rfl (by omega) (by decide) dX6_keep_32 ?_
          refine j_incN1 hE dX6_keep_33 (by decide) rfl ?_
          refine j_goto hE (tgt := 10) dX6_keep_36 (by decide) ?_
          exact ih10 _
      · intro hs
        refine j_iload_n hE (i := 1) dX6_keep_10 rfl rfl ?_
        refine j_sipush hE (v := nI 7131) dX6_keep_11 (by decide) ?_
        refine j_ic_geN hE (tgt := 39) dX6_keep_14 (by decide) (by omega) (by omega) (fun h14 => ?_) (fun h14 => ?_)
        · refine j_aload_n hE (i := 0) dX6_keep_39 rfl rfl ?_
          refine j_dup hE dX6_keep_40 rfl ?_
          refine j_get hE flX6_23 gB_0 rfl dX6_keep_41 ?_
          refine j_iconst hE (v := nI 1) dX6_keep_44 (by decide) ?_
          refine j_isubN hE dX6_keep_45 (by omega) ?_
          obtain ⟨p9, hp9⟩ : ∃ p9, p9 = itr kShift 7131 past := ⟨_, rfl⟩
          obtain ⟨k9, hk9⟩ : ∃ k9, k9 = 4 - 1 := ⟨_, rfl⟩
          rw [← hp9, ← hk9]
          have hk4 : k9 ≤ 3 := by omega
          have hq : mKeep now past 4 = itr (kRow now k9) 2377 p9 ∧ mKept 4 = k9 + 1 := by
            subst hp9; subst hk9
            exact ⟨rfl, rfl⟩
          refine b_put2 hE flX6_23 rfl rfl dX6_keep_46 ?_
          refine j_iconst hE (v := nI 0) dX6_keep_49 (by decide) ?_
          refine j_ist1 hE dX6_keep_50 rfl (by decide) rfl ?_
          have key51 : ∀ i, i ≤ 2377 → ∀ hs, J K A E 2 (gB F h0 (mC K h0 now (itr (kRow now k9) i p9) (nI k9) thrown drawn hash)) hs 0 0 51 [some (.ref h0), some (.int (nI i))] [] := by
            refine dloop (fun i => ∀ hs, J K A E 2 (gB F h0 (mC K h0 now (itr (kRow now k9) i p9) (nI k9) thrown drawn hash)) hs 0 0 51 [some (.ref h0), some (.int (nI i))] []) (2377) (fun i hi51 ih51 => ?_) ?_
            · intro hs
              refine j_iload_n hE (i := 1) dX6_keep_51 rfl rfl ?_
              refine j_sipush hE (v := nI 2377) dX6_keep_52 (by decide) ?_
              refine j_ic_geN hE (tgt := 85) dX6_keep_55 (by decide) (by omega) (by omega) (fun h55 => ?_) (fun h55 => ?_)
              · exfalso; omega
              · refine j_aload_n hE (i := 0) dX6_keep_58 rfl rfl ?_
                refine j_get hE flX6_13 gB_0 rfl dX6_keep_59 ?_
                refine j_sipush hE (v := nI 2377) dX6_keep_62 (by decide) ?_
                refine j_aload_n hE (i := 0) dX6_keep_65 rfl rfl ?_
                refine j_get hE flX6_23 gB_0 rfl dX6_keep_66 ?_
                refine j_imulN hE dX6_keep_69 ?_
                refine j_iload_n hE (i := 1) dX6_keep_70 rfl rfl ?_
                refine j_iaddN hE dX6_keep_71 ?_
                refine j_aload_n hE (i := 0) dX6_keep_72 rfl rfl ?_
                refine j_get hE flX6_7 gB_0 rfl dX6_keep_73 ?_
                refine j_iload_n hE (i := 1) dX6_keep_76 rfl rfl ?_
                refine j_iald hE gB_1 rfl (by omega) (by decide) dX6_keep_77 ?_
                refine b_ast2 hE rfl (by omega) (by decide) dX6_keep_78 ?_
                refine j_incN1 hE dX6_keep_79 (by decide) rfl ?_
                refine j_goto hE (tgt := 51) dX6_keep_82 (by decide) ?_
                exact ih51 _
            · intro hs
              refine j_iload_n hE (i := 1) dX6_keep_51 rfl rfl ?_
              refine j_sipush hE (v := nI 2377) dX6_keep_52 (by decide) ?_
              refine j_ic_geN hE (tgt := 85) dX6_keep_55 (by decide) (by omega) (by omega) (fun h55 => ?_) (fun h55 => ?_)
              · refine j_aload_n hE (i := 0) dX6_keep_85 rfl rfl ?_
                refine j_dup hE dX6_keep_86 rfl ?_
                refine j_get hE flX6_23 gB_0 rfl dX6_keep_87 ?_
                refine j_iconst hE (v := nI 1) dX6_keep_90 (by decide) ?_
                refine j_iaddN hE dX6_keep_91 ?_
                refine b_put2 hE flX6_23 rfl rfl dX6_keep_92 ?_
                refine j_vret hE hQ (by omega) (by omega) dX6_keep_95 ?_
                exact ⟨rfl, by rw [hq.1, hq.2]⟩
              · exfalso; omega
          exact key51 0 (by omega) _
        · exfalso; omega
    exact key10 0 (by omega) _
end
section
/-! ===== the reference: layout, values, limits ===== -/
theorem c_X6_in {l : Launch} (hl : l.stackTraces = false) (K : jK) (G : GH) (hs : Nat) (v low high : Int32) : Ct l K yX6_in cX6_in 3 (some .boolean) 0 0 0 0 [.int v, .int low, .int high] G hs (pI (fun r G' _ => r = jb (decide (low ≤ v ∧ v ≤ high)) ∧ G' = G)) jno := by
  by_cases h : low ≤ v ∧ v ≤ high
  · rw [decide_eq_true h]
    exact c_X6_in_t hl K G hs v low high h
  · rw [decide_eq_false h]
    exact c_X6_in_f hl K G hs v low high h
theorem jb_ne {b : Bool} (h : ¬ jb b = 0) : b = true := by cases b <;> first | rfl | exact absurd rfl h
theorem jb_eq {b : Bool} (h : jb b = 0) : b = false := jb_0.mp h
theorem jbd_ne {p : Prop} [Decidable p] (h : ¬ jb (decide p) = 0) : p := of_decide_eq_true (jb_ne h)
theorem jbd_eq {p : Prop} [Decidable p] (h : jb (decide p) = 0) : ¬ p := of_decide_eq_false (jb_eq h)
theorem rg_ex {a b : Nat} {p : Int32} (h : nI a ≤ p ∧ p ≤ nI b) (ha : a < 2 ^ 31) (hb : b < 2 ^ 31) : ∃ j, a ≤ j ∧ j ≤ b ∧ p = nI j := by
  apply Classical.byContradiction
  intro hn
  exact rg_f (fun j h1 h2 e => hn ⟨j, h1, h2, e⟩) ha hb h
set_option maxRecDepth 100000 in
set_option maxHeartbeats 4000000 in
theorem c_X6_setFrame_t {l : Launch} (hl : l.stackTraces = false) (K : jK) (F : GH) (h0 hs : Nat) (now past : Nat → Int32) (thrown : Int32) (k : Nat) (hk : k ≤ 4) (drawn : Nat → Int32) (hash : Int64) (w m : Nat) (hw : 6 ≤ w) (hw2 : w ≤ 16) (hm : m = 1 ∨ m = 2 ∨ m = 4 ∨ m = 8) : Ct l K yX6_setFrame cX6_setFrame 3 (some .int) 2 40 0 0 [.ref h0, .int (nI w), .int (nI m)] (gB F h0 (mC K h0 now past (nI k) thrown drawn hash)) hs (pI (fun r G' _ => r = nI (w * m) ∧ G' = (gB F h0 (mC K h0 (mAnew (upd (upd now 0 (nI w)) 1 (nI m))) (mKeep now past k) (nI (mKept k)) (nI 0) drawn hash)))) jno := by
  refine Ct.ofA hl (by decide) (Nat.le_of_ble_eq_true rfl) (L0 := [some (.ref h0), some (.int (nI w)), some (.int (nI m))]) (jL_of 0 rfl) ?_
  intro A E hE hQ hX hNm
  refine j_aload_n hE (i := 0) dX6_setFrame_0 rfl rfl ?_
  refine j_iload_n hE (i := 1) dX6_setFrame_1 rfl rfl ?_
  refine j_bipush hE (v := nI 6) dX6_setFrame_2 (by decide) ?_
  refine j_bipush hE (v := nI 16) dX6_setFrame_4 (by decide) ?_
  refine j_cSi hE mlX6_26 (fun l hl => c_X6_in_t hl K _ _ _ _ _ (rg_t (by omega) (by omega) (by decide))) rfl rfl (Nat.le_of_ble_eq_true rfl) (by decide) (by decide) (by omega) (by omega) dX6_setFrame_6 (fun r G9 hs9 hp => ?_) (fun _ _ h => h.elim)
  obtain ⟨rfl, rfl⟩ := hp
  refine j_if_eqN hE (tgt := 34) dX6_setFrame_9 (by decide) (by omega) (fun h9 => ?_) (fun h9 => ?_)
  · exfalso; omega
  · refine j_iload_n hE (i := 2) dX6_setFrame_12 rfl rfl ?_
    refine j_iconst hE (v := nI 1) dX6_setFrame_13 (by decide) ?_
    refine j_bipush hE (v := nI 8) dX6_setFrame_14 (by decide) ?_
    refine j_cSi hE mlX6_26 (fun l hl => c_X6_in_t hl K _ _ _ _ _ (rg_t (by omega) (by omega) (by decide))) rfl rfl (Nat.le_of_ble_eq_true rfl) (by decide) (by decide) (by omega) (by omega) dX6_setFrame_16 (fun r G9 hs9 hp => ?_) (fun _ _ h => h.elim)
    obtain ⟨rfl, rfl⟩ := hp
    refine j_if_eqN hE (tgt := 34) dX6_setFrame_19 (by decide) (by omega) (fun h19 => ?_) (fun h19 => ?_)
    · exfalso; omega
    · refine j_iload_n hE (i := 2) dX6_setFrame_22 rfl rfl ?_
      refine j_iload_n hE (i := 2) dX6_setFrame_23 rfl rfl ?_
      refine j_iconst hE (v := nI 1) dX6_setFrame_24 (by decide) ?_
      refine j_isub hE dX6_setFrame_25 ?_
      refine j_iand hE dX6_setFrame_26 ?_
      refine j_if_ne hE (tgt := 34) dX6_setFrame_27 (by decide) (fun h27 => ?_) (fun h27 => ?_)
      · exact absurd (by rcases hm with rfl | rfl | rfl | rfl <;> decide) h27
      · refine j_iconst hE (v := nI 0) dX6_setFrame_30 (by decide) ?_
        refine j_goto hE (tgt := 35) dX6_setFrame_31 (by decide) ?_
        refine b_put3 hE flX6_19 rfl rfl dX6_setFrame_35 ?_
        refine j_aload_n hE (i := 0) dX6_setFrame_38 rfl rfl ?_
        refine j_get hE flX6_19 gB_0 rfl dX6_setFrame_39 ?_
        refine j_if_eqN hE (tgt := 47) dX6_setFrame_42 (by decide) (by omega) (fun h42 => ?_) (fun h42 => ?_)
        · refine j_aload_n hE (i := 0) dX6_setFrame_47 rfl rfl ?_
          refine j_cVv hE mlX6_33 gB_0 (fun l hl => c_X6_keep hl K F h0 _ _ _ _ _ hk _ _) rfl rfl (Nat.le_of_ble_eq_true rfl) (by decide) (by decide) (by omega) (by omega) dX6_setFrame_48 (fun G9 hs9 hp => ?_) (fun _ _ h => h.elim)
          subst hp
          refine j_aload_n hE (i := 0) dX6_setFrame_51 rfl rfl ?_
          refine j_get hE flX6_7 gB_0 rfl dX6_setFrame_52 ?_
          refine j_iconst hE (v := nI 0) dX6_setFrame_55 (by decide) ?_
          refine j_iload_n hE (i := 1) dX6_setFrame_56 rfl rfl ?_
          refine b_ast1 hE rfl (by omega) (by decide) dX6_setFrame_57 ?_
          refine j_aload_n hE (i := 0) dX6_setFrame_58 rfl rfl ?_
          refine j_get hE flX6_7 gB_0 rfl dX6_setFrame_59 ?_
          refine j_iconst hE (v := nI 1) dX6_setFrame_62 (by decide) ?_
          refine j_iload_n hE (i := 2) dX6_setFrame_63 rfl rfl ?_
          refine b_ast1 hE rfl (by omega) (by decide) dX6_setFrame_64 ?_
          refine j_aload_n hE (i := 0) dX6_setFrame_65 rfl rfl ?_
          refine j_cVv hE mlX6_36 gB_0 (fun l hl => c_X6_beginsAnew hl K F h0 _ _ _ _ _ _ _) rfl rfl (Nat.le_of_ble_eq_true rfl) (by decide) (by decide) (by omega) (by omega) dX6_setFrame_66 (fun G9 hs9 hp => ?_) (fun _ _ h => h.elim)
          subst hp
          refine j_iload_n hE (i := 1) dX6_setFrame_69 rfl rfl ?_
          refine j_iload_n hE (i := 2) dX6_setFrame_70 rfl rfl ?_
          refine j_imulN hE dX6_setFrame_71 ?_
          refine j_iret hE hQ rfl (by omega) (by omega) dX6_setFrame_72 ?_
          exact ⟨_, rfl, rfl, rfl⟩
        · exfalso; omega

set_option maxRecDepth 100000 in
set_option maxHeartbeats 4000000 in
theorem c_X6_setFrame_f {l : Launch} (hl : l.stackTraces = false) (K : jK) (F : GH) (h0 hs : Nat) (now past : Nat → Int32) (thrown : Int32) (k : Nat) (hk : k ≤ 4) (drawn : Nat → Int32) (hash : Int64) (p q : Int32) (hbad : ∀ w m, 6 ≤ w → w ≤ 16 → (m = 1 ∨ m = 2 ∨ m = 4 ∨ m = 8) → p = nI w → q = nI m → False) : Ct l K yX6_setFrame cX6_setFrame 3 (some .int) 2 40 0 0 [.ref h0, .int p, .int q] (gB F h0 (mC K h0 now past (nI k) thrown drawn hash)) hs (pI (fun r G' _ => r = nI 0 ∧ G' = (gB F h0 (mC K h0 now past (nI k) (nI 1) drawn hash)))) jno := by
  refine Ct.ofA hl (by decide) (Nat.le_of_ble_eq_true rfl) (L0 := [some (.ref h0), some (.int p), some (.int q)]) (jL_of 0 rfl) ?_
  intro A E hE hQ hX hNm
  refine j_aload_n hE (i := 0) dX6_setFrame_0 rfl rfl ?_
  refine j_iload_n hE (i := 1) dX6_setFrame_1 rfl rfl ?_
  refine j_bipush hE (v := nI 6) dX6_setFrame_2 (by decide) ?_
  refine j_bipush hE (v := nI 16) dX6_setFrame_4 (by decide) ?_
  refine j_cSi hE mlX6_26 (fun l hl => c_X6_in hl K _ _ _ _ _) rfl rfl (Nat.le_of_ble_eq_true rfl) (by decide) (by decide) (by omega) (by omega) dX6_setFrame_6 (fun r G9 hs9 hp => ?_) (fun _ _ h => h.elim)
  obtain ⟨rfl, rfl⟩ := hp
  refine j_if_eq hE (tgt := 34) dX6_setFrame_9 (by decide) (fun h9 => ?_) (fun h9 => ?_)
  · refine j_iconst hE (v := nI 1) dX6_setFrame_34 (by decide) ?_
    refine b_put3 hE flX6_19 rfl rfl dX6_setFrame_35 ?_
    refine j_aload_n hE (i := 0) dX6_setFrame_38 rfl rfl ?_
    refine j_get hE flX6_19 gB_0 rfl dX6_setFrame_39 ?_
    refine j_if_eqN hE (tgt := 47) dX6_setFrame_42 (by decide) (by omega) (fun h42 => ?_) (fun h42 => ?_)
    · exfalso; omega
    · refine j_iconst hE (v := nI 0) dX6_setFrame_45 (by decide) ?_
      refine j_iret hE hQ rfl (by omega) (by omega) dX6_setFrame_46 ?_
      exact ⟨_, rfl, rfl, rfl⟩
  · refine j_iload_n hE (i := 2) dX6_setFrame_12 rfl rfl ?_
    refine j_iconst hE (v := nI 1) dX6_setFrame_13 (by decide) ?_
    refine j_bipush hE (v := nI 8) dX6_setFrame_14 (by decide) ?_
    refine j_cSi hE mlX6_26 (fun l hl => c_X6_in hl K _ _ _ _ _) rfl rfl (Nat.le_of_ble_eq_true rfl) (by decide) (by decide) (by omega) (by omega) dX6_setFrame_16 (fun r G9 hs9 hp => ?_) (fun _ _ h => h.elim)
    obtain ⟨rfl, rfl⟩ := hp
    refine j_if_eq hE (tgt := 34) dX6_setFrame_19 (by decide) (fun h19 => ?_) (fun h19 => ?_)
    · refine j_iconst hE (v := nI 1) dX6_setFrame_34 (by decide) ?_
      refine b_put3 hE flX6_19 rfl rfl dX6_setFrame_35 ?_
      refine j_aload_n hE (i := 0) dX6_setFrame_38 rfl rfl ?_
      refine j_get hE flX6_19 gB_0 rfl dX6_setFrame_39 ?_
      refine j_if_eqN hE (tgt := 47) dX6_setFrame_42 (by decide) (by omega) (fun h42 => ?_) (fun h42 => ?_)
      · exfalso; omega
      · refine j_iconst hE (v := nI 0) dX6_setFrame_45 (by decide) ?_
        refine j_iret hE hQ rfl (by omega) (by omega) dX6_setFrame_46 ?_
        exact ⟨_, rfl, rfl, rfl⟩
    · refine j_iload_n hE (i := 2) dX6_setFrame_22 rfl rfl ?_
      refine j_iload_n hE (i := 2) dX6_setFrame_23 rfl rfl ?_
      refine j_iconst hE (v := nI 1) dX6_setFrame_24 (by decide) ?_
      refine j_isub hE dX6_setFrame_25 ?_
      refine j_iand hE dX6_setFrame_26 ?_
      refine j_if_ne hE (tgt := 34) dX6_setFrame_27 (by decide) (fun h27 => ?_) (fun h27 => ?_)
      · refine j_iconst hE (v := nI 1) dX6_setFrame_34 (by decide) ?_
        refine b_put3 hE flX6_19 rfl rfl dX6_setFrame_35 ?_
        refine j_aload_n hE (i := 0) dX6_setFrame_38 rfl rfl ?_
        refine j_get hE flX6_19 gB_0 rfl dX6_setFrame_39 ?_
        refine j_if_eqN hE (tgt := 47) dX6_setFrame_42 (by decide) (by omega) (fun h42 => ?_) (fun h42 => ?_)
        · exfalso; omega
        · refine j_iconst hE (v := nI 0) dX6_setFrame_45 (by decide) ?_
          refine j_iret hE hQ rfl (by omega) (by omega) dX6_setFrame_46 ?_
          exact ⟨_, rfl, rfl, rfl⟩
      · obtain ⟨w, w1, w2, rfl⟩ := rg_ex (jbd_ne h9) (by decide) (by decide)
        obtain ⟨m, m1, m2, rfl⟩ := rg_ex (jbd_ne h19) (by decide) (by decide)
        refine (hbad w m w1 w2 ?_ rfl rfl).elim
        rcases (show m = 1 ∨ m = 2 ∨ m = 3 ∨ m = 4 ∨ m = 5 ∨ m = 6 ∨ m = 7 ∨ m = 8 by omega) with rfl | rfl | rfl | rfl | rfl | rfl | rfl | rfl <;> first | omega | exact absurd h27 (by decide)

set_option maxRecDepth 100000 in
set_option maxHeartbeats 4000000 in
theorem c_X6_setMode_t {l : Launch} (hl : l.stackTraces = false) (K : jK) (F : GH) (h0 hs : Nat) (now past : Nat → Int32) (thrown : Int32) (k : Nat) (hk : k ≤ 4) (drawn : Nat → Int32) (hash : Int64) (j : Nat) (hj : j ≤ 2) : Ct l K yX6_setMode cX6_setMode 3 (some .int) 1 22 0 0 [.ref h0, .int (nI j)] (gB F h0 (mC K h0 now past (nI k) thrown drawn hash)) hs (pI (fun r G' _ => r = now 6 ∧ G' = (gB F h0 (mC K h0 (upd now 6 (nI j)) (mKeep now past k) (nI (mKept k)) (nI 0) drawn hash)))) jno := by
  refine Ct.ofA hl (by decide) (Nat.le_of_ble_eq_true rfl) (L0 := [some (.ref h0), some (.int (nI j)), none]) (jL_of 1 rfl) ?_
  intro A E hE hQ hX hNm
  refine j_aload_n hE (i := 0) dX6_setMode_0 rfl rfl ?_
  refine j_iload_n hE (i := 1) dX6_setMode_1 rfl rfl ?_
  refine j_iconst hE (v := nI 0) dX6_setMode_2 (by decide) ?_
  refine j_iconst hE (v := nI 2) dX6_setMode_3 (by decide) ?_
  refine j_cSi hE mlX6_26 (fun l hl => c_X6_in_t hl K _ _ _ _ _ (rg_t (by omega) (by omega) (by decide))) rfl rfl (Nat.le_of_ble_eq_true rfl) (by decide) (by decide) (by omega) (by omega) dX6_setMode_4 (fun r G9 hs9 hp => ?_) (fun _ _ h => h.elim)
  obtain ⟨rfl, rfl⟩ := hp
  refine j_if_eqN hE (tgt := 14) dX6_setMode_7 (by decide) (by omega) (fun h7 => ?_) (fun h7 => ?_)
  · exfalso; omega
  · refine j_iconst hE (v := nI 0) dX6_setMode_10 (by decide) ?_
    refine j_goto hE (tgt := 15) dX6_setMode_11 (by decide) ?_
    refine b_put3 hE flX6_19 rfl rfl dX6_setMode_15 ?_
    refine j_aload_n hE (i := 0) dX6_setMode_18 rfl rfl ?_
    refine j_get hE flX6_19 gB_0 rfl dX6_setMode_19 ?_
    refine j_if_eqN hE (tgt := 27) dX6_setMode_22 (by decide) (by omega) (fun h22 => ?_) (fun h22 => ?_)
    · refine j_aload_n hE (i := 0) dX6_setMode_27 rfl rfl ?_
      refine j_cVv hE mlX6_33 gB_0 (fun l hl => c_X6_keep hl K F h0 _ _ _ _ _ hk _ _) rfl rfl (Nat.le_of_ble_eq_true rfl) (by decide) (by decide) (by omega) (by omega) dX6_setMode_28 (fun G9 hs9 hp => ?_) (fun _ _ h => h.elim)
      subst hp
      refine j_aload_n hE (i := 0) dX6_setMode_31 rfl rfl ?_
      refine j_get hE flX6_7 gB_0 rfl dX6_setMode_32 ?_
      refine j_bipush hE (v := nI 6) dX6_setMode_35 (by decide) ?_
      refine j_iald hE gB_1 rfl (by omega) (by decide) dX6_setMode_37 ?_
      refine j_ist2 hE dX6_setMode_38 rfl (by decide) rfl ?_
      refine j_aload_n hE (i := 0) dX6_setMode_39 rfl rfl ?_
      refine j_get hE flX6_7 gB_0 rfl dX6_setMode_40 ?_
      refine j_bipush hE (v := nI 6) dX6_setMode_43 (by decide) ?_
      refine j_iload_n hE (i := 1) dX6_setMode_45 rfl rfl ?_
      refine b_ast1 hE rfl (by omega) (by decide) dX6_setMode_46 ?_
      refine j_iload_n hE (i := 2) dX6_setMode_47 rfl rfl ?_
      refine j_iret hE hQ rfl (by omega) (by omega) dX6_setMode_48 ?_
      exact ⟨_, rfl, rfl, rfl⟩
    · exfalso; omega

set_option maxRecDepth 100000 in
set_option maxHeartbeats 4000000 in
theorem c_X6_setMode_f {l : Launch} (hl : l.stackTraces = false) (K : jK) (F : GH) (h0 hs : Nat) (now past : Nat → Int32) (thrown : Int32) (k : Nat) (hk : k ≤ 4) (drawn : Nat → Int32) (hash : Int64) (p : Int32) (hj : ∀ j, 0 ≤ j → j ≤ 2 → p ≠ nI j) : Ct l K yX6_setMode cX6_setMode 3 (some .int) 1 22 0 0 [.ref h0, .int p] (gB F h0 (mC K h0 now past (nI k) thrown drawn hash)) hs (pI (fun r G' _ => r = nI 0 ∧ G' = (gB F h0 (mC K h0 now past (nI k) (nI 1) drawn hash)))) jno := by
  refine Ct.ofA hl (by decide) (Nat.le_of_ble_eq_true rfl) (L0 := [some (.ref h0), some (.int p), none]) (jL_of 1 rfl) ?_
  intro A E hE hQ hX hNm
  refine j_aload_n hE (i := 0) dX6_setMode_0 rfl rfl ?_
  refine j_iload_n hE (i := 1) dX6_setMode_1 rfl rfl ?_
  refine j_iconst hE (v := nI 0) dX6_setMode_2 (by decide) ?_
  refine j_iconst hE (v := nI 2) dX6_setMode_3 (by decide) ?_
  refine j_cSi hE mlX6_26 (fun l hl => c_X6_in_f hl K _ _ _ _ _ (rg_f hj (by decide) (by decide))) rfl rfl (Nat.le_of_ble_eq_true rfl) (by decide) (by decide) (by omega) (by omega) dX6_setMode_4 (fun r G9 hs9 hp => ?_) (fun _ _ h => h.elim)
  obtain ⟨rfl, rfl⟩ := hp
  refine j_if_eqN hE (tgt := 14) dX6_setMode_7 (by decide) (by omega) (fun h7 => ?_) (fun h7 => ?_)
  · refine j_iconst hE (v := nI 1) dX6_setMode_14 (by decide) ?_
    refine b_put3 hE flX6_19 rfl rfl dX6_setMode_15 ?_
    refine j_aload_n hE (i := 0) dX6_setMode_18 rfl rfl ?_
    refine j_get hE flX6_19 gB_0 rfl dX6_setMode_19 ?_
    refine j_if_eqN hE (tgt := 27) dX6_setMode_22 (by decide) (by omega) (fun h22 => ?_) (fun h22 => ?_)
    · exfalso; omega
    · refine j_iconst hE (v := nI 0) dX6_setMode_25 (by decide) ?_
      refine j_iret hE hQ rfl (by omega) (by omega) dX6_setMode_26 ?_
      exact ⟨_, rfl, rfl, rfl⟩
  · exfalso; omega

set_option maxRecDepth 100000 in
set_option maxHeartbeats 4000000 in
theorem c_X6_setValue_t {l : Launch} (hl : l.stackTraces = false) (K : jK) (F : GH) (h0 hs : Nat) (now past : Nat → Int32) (thrown : Int32) (k : Nat) (hk : k ≤ 4) (drawn : Nat → Int32) (hash : Int64) (n j : Nat) (hn : now 2 = nI n) (hn9 : n ≤ 12) (hj : j < n) (v : Nat) (hv : 0 ≤ v) (hv2 : v ≤ 255) : Ct l K yX6_setValue cX6_setValue 4 (some .int) 2 43 0 0 [.ref h0, .int (nI j), .int (nI v)] (gB F h0 (mC K h0 now past (nI k) thrown drawn hash)) hs (pI (fun r G' _ => r = now (33 + 14 * j + 1) ∧ G' = (gB F h0 (mC K h0 (upd now (33 + 14 * j + 1) (nI v)) (mKeep now past k) (nI (mKept k)) (nI 0) drawn hash)))) jno := by
  refine Ct.ofA hl (by decide) (Nat.le_of_ble_eq_true rfl) (L0 := [some (.ref h0), some (.int (nI j)), some (.int (nI v)), none]) (jL_of 1 rfl) ?_
  intro A E hE hQ hX hNm
  refine j_aload_n hE (i := 0) dX6_setValue_0 rfl rfl ?_
  refine j_aload_n hE (i := 0) dX6_setValue_1 rfl rfl ?_
  refine j_iload_n hE (i := 1) dX6_setValue_2 rfl rfl ?_
  refine j_cVi hE mlX6_75 gB_0 (fun l hl => c_X6_isParameter_t hl K F h0 _ _ _ _ _ _ _ n _ hn hn9 hj) rfl rfl (Nat.le_of_ble_eq_true rfl) (by decide) (by decide) (by omega) (by omega) dX6_setValue_3 (fun r G9 hs9 hp => ?_) (fun _ _ h => h.elim)
  obtain ⟨rfl, rfl⟩ := hp
  refine j_if_neN hE (tgt := 13) dX6_setValue_6 (by decide) (by omega) (fun h6 => ?_) (fun h6 => ?_)
  · refine j_iload_n hE (i := 2) dX6_setValue_13 rfl rfl ?_
    refine j_iconst hE (v := nI 0) dX6_setValue_14 (by decide) ?_
    refine j_sipush hE (v := nI 255) dX6_setValue_15 (by decide) ?_
    refine j_cSi hE mlX6_26 (fun l hl => c_X6_in_t hl K _ _ _ _ _ (rg_t (by omega) (by omega) (by decide))) rfl rfl (Nat.le_of_ble_eq_true rfl) (by decide) (by decide) (by omega) (by omega) dX6_setValue_18 (fun r G9 hs9 hp => ?_) (fun _ _ h => h.elim)
    obtain ⟨rfl, rfl⟩ := hp
    refine j_if_neN hE (tgt := 28) dX6_setValue_21 (by decide) (by omega) (fun h21 => ?_) (fun h21 => ?_)
    · refine j_iconst hE (v := nI 0) dX6_setValue_28 (by decide) ?_
      refine b_put3 hE flX6_19 rfl rfl dX6_setValue_29 ?_
      refine j_aload_n hE (i := 0) dX6_setValue_32 rfl rfl ?_
      refine j_get hE flX6_19 gB_0 rfl dX6_setValue_33 ?_
      refine j_if_eqN hE (tgt := 41) dX6_setValue_36 (by decide) (by omega) (fun h36 => ?_) (fun h36 => ?_)
      · refine j_aload_n hE (i := 0) dX6_setValue_41 rfl rfl ?_
        refine j_cVv hE mlX6_33 gB_0 (fun l hl => c_X6_keep hl K F h0 _ _ _ _ _ hk _ _) rfl rfl (Nat.le_of_ble_eq_true rfl) (by decide) (by decide) (by omega) (by omega) dX6_setValue_42 (fun G9 hs9 hp => ?_) (fun _ _ h => h.elim)
        subst hp
        refine j_aload_n hE (i := 0) dX6_setValue_45 rfl rfl ?_
        refine j_iload_n hE (i := 1) dX6_setValue_46 rfl rfl ?_
        refine j_iconst hE (v := nI 1) dX6_setValue_47 (by decide) ?_
        refine j_cVi hE mlX6_43 gB_0 (fun l hl => c_X6_of hl K F h0 _ _ _ _ _ _ _ _ _ (by omega)) rfl rfl (Nat.le_of_ble_eq_true rfl) (by decide) (by decide) (by omega) (by omega) dX6_setValue_48 (fun r G9 hs9 hp => ?_) (fun _ _ h => h.elim)
        obtain ⟨rfl, rfl⟩ := hp
        refine j_ist3 hE dX6_setValue_51 rfl (by decide) rfl ?_
        refine j_aload_n hE (i := 0) dX6_setValue_52 rfl rfl ?_
        refine j_iload_n hE (i := 1) dX6_setValue_53 rfl rfl ?_
        refine j_iconst hE (v := nI 1) dX6_setValue_54 (by decide) ?_
        refine j_iload_n hE (i := 2) dX6_setValue_55 rfl rfl ?_
        refine j_cVv hE mlX6_39 gB_0 (fun l hl => c_X6_put hl K F h0 _ _ _ _ _ _ _ _ _ _ (by omega)) rfl rfl (Nat.le_of_ble_eq_true rfl) (by decide) (by decide) (by omega) (by omega) dX6_setValue_56 (fun G9 hs9 hp => ?_) (fun _ _ h => h.elim)
        subst hp
        refine j_iload_n hE (i := 3) dX6_setValue_59 rfl rfl ?_
        refine j_iret hE hQ rfl (by omega) (by omega) dX6_setValue_60 ?_
        exact ⟨_, rfl, rfl, rfl⟩
      · exfalso; omega
    · exfalso; omega
  · exfalso; omega

set_option maxRecDepth 100000 in
set_option maxHeartbeats 4000000 in
theorem c_X6_setValue_f1 {l : Launch} (hl : l.stackTraces = false) (K : jK) (F : GH) (h0 hs : Nat) (now past : Nat → Int32) (thrown : Int32) (k : Nat) (hk : k ≤ 4) (drawn : Nat → Int32) (hash : Int64) (n : Nat) (p : Int32) (hn : now 2 = nI n) (hn9 : n ≤ 12) (hj : ∀ j, j < n → p ≠ nI j) (q : Int32) : Ct l K yX6_setValue cX6_setValue 4 (some .int) 2 43 0 0 [.ref h0, .int p, .int q] (gB F h0 (mC K h0 now past (nI k) thrown drawn hash)) hs (pI (fun r G' _ => r = nI 0 ∧ G' = (gB F h0 (mC K h0 now past (nI k) (nI 1) drawn hash)))) jno := by
  refine Ct.ofA hl (by decide) (Nat.le_of_ble_eq_true rfl) (L0 := [some (.ref h0), some (.int p), some (.int q), none]) (jL_of 1 rfl) ?_
  intro A E hE hQ hX hNm
  refine j_aload_n hE (i := 0) dX6_setValue_0 rfl rfl ?_
  refine j_aload_n hE (i := 0) dX6_setValue_1 rfl rfl ?_
  refine j_iload_n hE (i := 1) dX6_setValue_2 rfl rfl ?_
  refine j_cVi hE mlX6_75 gB_0 (fun l hl => c_X6_isParameter_f hl K F h0 _ _ _ _ _ _ _ n _ hn hn9 hj) rfl rfl (Nat.le_of_ble_eq_true rfl) (by decide) (by decide) (by omega) (by omega) dX6_setValue_3 (fun r G9 hs9 hp => ?_) (fun _ _ h => h.elim)
  obtain ⟨rfl, rfl⟩ := hp
  refine j_if_neN hE (tgt := 13) dX6_setValue_6 (by decide) (by omega) (fun h6 => ?_) (fun h6 => ?_)
  · exfalso; omega
  · refine j_iconst hE (v := nI 1) dX6_setValue_9 (by decide) ?_
    refine j_goto hE (tgt := 29) dX6_setValue_10 (by decide) ?_
    refine b_put3 hE flX6_19 rfl rfl dX6_setValue_29 ?_
    refine j_aload_n hE (i := 0) dX6_setValue_32 rfl rfl ?_
    refine j_get hE flX6_19 gB_0 rfl dX6_setValue_33 ?_
    refine j_if_eqN hE (tgt := 41) dX6_setValue_36 (by decide) (by omega) (fun h36 => ?_) (fun h36 => ?_)
    · exfalso; omega
    · refine j_iconst hE (v := nI 0) dX6_setValue_39 (by decide) ?_
      refine j_iret hE hQ rfl (by omega) (by omega) dX6_setValue_40 ?_
      exact ⟨_, rfl, rfl, rfl⟩

set_option maxRecDepth 100000 in
set_option maxHeartbeats 4000000 in
theorem c_X6_setValue_f2 {l : Launch} (hl : l.stackTraces = false) (K : jK) (F : GH) (h0 hs : Nat) (now past : Nat → Int32) (thrown : Int32) (k : Nat) (hk : k ≤ 4) (drawn : Nat → Int32) (hash : Int64) (n j : Nat) (hn : now 2 = nI n) (hn9 : n ≤ 12) (hj : j < n) (q : Int32) (hq : ∀ i, 0 ≤ i → i ≤ 255 → q ≠ nI i) : Ct l K yX6_setValue cX6_setValue 4 (some .int) 2 43 0 0 [.ref h0, .int (nI j), .int q] (gB F h0 (mC K h0 now past (nI k) thrown drawn hash)) hs (pI (fun r G' _ => r = nI 0 ∧ G' = (gB F h0 (mC K h0 now past (nI k) (nI 2) drawn hash)))) jno := by
  refine Ct.ofA hl (by decide) (Nat.le_of_ble_eq_true rfl) (L0 := [some (.ref h0), some (.int (nI j)), some (.int q), none]) (jL_of 1 rfl) ?_
  intro A E hE hQ hX hNm
  refine j_aload_n hE (i := 0) dX6_setValue_0 rfl rfl ?_
  refine j_aload_n hE (i := 0) dX6_setValue_1 rfl rfl ?_
  refine j_iload_n hE (i := 1) dX6_setValue_2 rfl rfl ?_
  refine j_cVi hE mlX6_75 gB_0 (fun l hl => c_X6_isParameter_t hl K F h0 _ _ _ _ _ _ _ n _ hn hn9 hj) rfl rfl (Nat.le_of_ble_eq_true rfl) (by decide) (by decide) (by omega) (by omega) dX6_setValue_3 (fun r G9 hs9 hp => ?_) (fun _ _ h => h.elim)
  obtain ⟨rfl, rfl⟩ := hp
  refine j_if_neN hE (tgt := 13) dX6_setValue_6 (by decide) (by omega) (fun h6 => ?_) (fun h6 => ?_)
  · refine j_iload_n hE (i := 2) dX6_setValue_13 rfl rfl ?_
    refine j_iconst hE (v := nI 0) dX6_setValue_14 (by decide) ?_
    refine j_sipush hE (v := nI 255) dX6_setValue_15 (by decide) ?_
    refine j_cSi hE mlX6_26 (fun l hl => c_X6_in_f hl K _ _ _ _ _ (rg_f hq (by decide) (by decide))) rfl rfl (Nat.le_of_ble_eq_true rfl) (by decide) (by decide) (by omega) (by omega) dX6_setValue_18 (fun r G9 hs9 hp => ?_) (fun _ _ h => h.elim)
    obtain ⟨rfl, rfl⟩ := hp
    refine j_if_neN hE (tgt := 28) dX6_setValue_21 (by decide) (by omega) (fun h21 => ?_) (fun h21 => ?_)
    · exfalso; omega
    · refine j_iconst hE (v := nI 2) dX6_setValue_24 (by decide) ?_
      refine j_goto hE (tgt := 29) dX6_setValue_25 (by decide) ?_
      refine b_put3 hE flX6_19 rfl rfl dX6_setValue_29 ?_
      refine j_aload_n hE (i := 0) dX6_setValue_32 rfl rfl ?_
      refine j_get hE flX6_19 gB_0 rfl dX6_setValue_33 ?_
      refine j_if_eqN hE (tgt := 41) dX6_setValue_36 (by decide) (by omega) (fun h36 => ?_) (fun h36 => ?_)
      · exfalso; omega
      · refine j_iconst hE (v := nI 0) dX6_setValue_39 (by decide) ?_
        refine j_iret hE hQ rfl (by omega) (by omega) dX6_setValue_40 ?_
        exact ⟨_, rfl, rfl, rfl⟩
  · exfalso; omega

set_option maxRecDepth 100000 in
set_option maxHeartbeats 4000000 in
theorem c_X6_setPersistence_t {l : Launch} (hl : l.stackTraces = false) (K : jK) (F : GH) (h0 hs : Nat) (now past : Nat → Int32) (thrown : Int32) (k : Nat) (hk : k ≤ 4) (drawn : Nat → Int32) (hash : Int64) (n j : Nat) (hn : now 2 = nI n) (hn9 : n ≤ 12) (hj : j < n) (v : Nat) (hv : 1 ≤ v) (hv2 : v ≤ 5) : Ct l K yX6_setPersistence cX6_setPersistence 4 (some .int) 2 43 0 0 [.ref h0, .int (nI j), .int (nI v)] (gB F h0 (mC K h0 now past (nI k) thrown drawn hash)) hs (pI (fun r G' _ => r = now (33 + 14 * j + 10) ∧ G' = (gB F h0 (mC K h0 (upd now (33 + 14 * j + 10) (nI v)) (mKeep now past k) (nI (mKept k)) (nI 0) drawn hash)))) jno := by
  refine Ct.ofA hl (by decide) (Nat.le_of_ble_eq_true rfl) (L0 := [some (.ref h0), some (.int (nI j)), some (.int (nI v)), none]) (jL_of 1 rfl) ?_
  intro A E hE hQ hX hNm
  refine j_aload_n hE (i := 0) dX6_setPersistence_0 rfl rfl ?_
  refine j_aload_n hE (i := 0) dX6_setPersistence_1 rfl rfl ?_
  refine j_iload_n hE (i := 1) dX6_setPersistence_2 rfl rfl ?_
  refine j_cVi hE mlX6_75 gB_0 (fun l hl => c_X6_isParameter_t hl K F h0 _ _ _ _ _ _ _ n _ hn hn9 hj) rfl rfl (Nat.le_of_ble_eq_true rfl) (by decide) (by decide) (by omega) (by omega) dX6_setPersistence_3 (fun r G9 hs9 hp => ?_) (fun _ _ h => h.elim)
  obtain ⟨rfl, rfl⟩ := hp
  refine j_if_neN hE (tgt := 13) dX6_setPersistence_6 (by decide) (by omega) (fun h6 => ?_) (fun h6 => ?_)
  · refine j_iload_n hE (i := 2) dX6_setPersistence_13 rfl rfl ?_
    refine j_iconst hE (v := nI 1) dX6_setPersistence_14 (by decide) ?_
    refine j_iconst hE (v := nI 5) dX6_setPersistence_15 (by decide) ?_
    refine j_cSi hE mlX6_26 (fun l hl => c_X6_in_t hl K _ _ _ _ _ (rg_t (by omega) (by omega) (by decide))) rfl rfl (Nat.le_of_ble_eq_true rfl) (by decide) (by decide) (by omega) (by omega) dX6_setPersistence_16 (fun r G9 hs9 hp => ?_) (fun _ _ h => h.elim)
    obtain ⟨rfl, rfl⟩ := hp
    refine j_if_neN hE (tgt := 26) dX6_setPersistence_19 (by decide) (by omega) (fun h19 => ?_) (fun h19 => ?_)
    · refine j_iconst hE (v := nI 0) dX6_setPersistence_26 (by decide) ?_
      refine b_put3 hE flX6_19 rfl rfl dX6_setPersistence_27 ?_
      refine j_aload_n hE (i := 0) dX6_setPersistence_30 rfl rfl ?_
      refine j_get hE flX6_19 gB_0 rfl dX6_setPersistence_31 ?_
      refine j_if_eqN hE (tgt := 39) dX6_setPersistence_34 (by decide) (by omega) (fun h34 => ?_) (fun h34 => ?_)
      · refine j_aload_n hE (i := 0) dX6_setPersistence_39 rfl rfl ?_
        refine j_cVv hE mlX6_33 gB_0 (fun l hl => c_X6_keep hl K F h0 _ _ _ _ _ hk _ _) rfl rfl (Nat.le_of_ble_eq_true rfl) (by decide) (by decide) (by omega) (by omega) dX6_setPersistence_40 (fun G9 hs9 hp => ?_) (fun _ _ h => h.elim)
        subst hp
        refine j_aload_n hE (i := 0) dX6_setPersistence_43 rfl rfl ?_
        refine j_iload_n hE (i := 1) dX6_setPersistence_44 rfl rfl ?_
        refine j_bipush hE (v := nI 10) dX6_setPersistence_45 (by decide) ?_
        refine j_cVi hE mlX6_43 gB_0 (fun l hl => c_X6_of hl K F h0 _ _ _ _ _ _ _ _ _ (by omega)) rfl rfl (Nat.le_of_ble_eq_true rfl) (by decide) (by decide) (by omega) (by omega) dX6_setPersistence_47 (fun r G9 hs9 hp => ?_) (fun _ _ h => h.elim)
        obtain ⟨rfl, rfl⟩ := hp
        refine j_ist3 hE dX6_setPersistence_50 rfl (by decide) rfl ?_
        refine j_aload_n hE (i := 0) dX6_setPersistence_51 rfl rfl ?_
        refine j_iload_n hE (i := 1) dX6_setPersistence_52 rfl rfl ?_
        refine j_bipush hE (v := nI 10) dX6_setPersistence_53 (by decide) ?_
        refine j_iload_n hE (i := 2) dX6_setPersistence_55 rfl rfl ?_
        refine j_cVv hE mlX6_39 gB_0 (fun l hl => c_X6_put hl K F h0 _ _ _ _ _ _ _ _ _ _ (by omega)) rfl rfl (Nat.le_of_ble_eq_true rfl) (by decide) (by decide) (by omega) (by omega) dX6_setPersistence_56 (fun G9 hs9 hp => ?_) (fun _ _ h => h.elim)
        subst hp
        refine j_iload_n hE (i := 3) dX6_setPersistence_59 rfl rfl ?_
        refine j_iret hE hQ rfl (by omega) (by omega) dX6_setPersistence_60 ?_
        exact ⟨_, rfl, rfl, rfl⟩
      · exfalso; omega
    · exfalso; omega
  · exfalso; omega

set_option maxRecDepth 100000 in
set_option maxHeartbeats 4000000 in
theorem c_X6_setPersistence_f1 {l : Launch} (hl : l.stackTraces = false) (K : jK) (F : GH) (h0 hs : Nat) (now past : Nat → Int32) (thrown : Int32) (k : Nat) (hk : k ≤ 4) (drawn : Nat → Int32) (hash : Int64) (n : Nat) (p : Int32) (hn : now 2 = nI n) (hn9 : n ≤ 12) (hj : ∀ j, j < n → p ≠ nI j) (q : Int32) : Ct l K yX6_setPersistence cX6_setPersistence 4 (some .int) 2 43 0 0 [.ref h0, .int p, .int q] (gB F h0 (mC K h0 now past (nI k) thrown drawn hash)) hs (pI (fun r G' _ => r = nI 0 ∧ G' = (gB F h0 (mC K h0 now past (nI k) (nI 1) drawn hash)))) jno := by
  refine Ct.ofA hl (by decide) (Nat.le_of_ble_eq_true rfl) (L0 := [some (.ref h0), some (.int p), some (.int q), none]) (jL_of 1 rfl) ?_
  intro A E hE hQ hX hNm
  refine j_aload_n hE (i := 0) dX6_setPersistence_0 rfl rfl ?_
  refine j_aload_n hE (i := 0) dX6_setPersistence_1 rfl rfl ?_
  refine j_iload_n hE (i := 1) dX6_setPersistence_2 rfl rfl ?_
  refine j_cVi hE mlX6_75 gB_0 (fun l hl => c_X6_isParameter_f hl K F h0 _ _ _ _ _ _ _ n _ hn hn9 hj) rfl rfl (Nat.le_of_ble_eq_true rfl) (by decide) (by decide) (by omega) (by omega) dX6_setPersistence_3 (fun r G9 hs9 hp => ?_) (fun _ _ h => h.elim)
  obtain ⟨rfl, rfl⟩ := hp
  refine j_if_neN hE (tgt := 13) dX6_setPersistence_6 (by decide) (by omega) (fun h6 => ?_) (fun h6 => ?_)
  · exfalso; omega
  · refine j_iconst hE (v := nI 1) dX6_setPersistence_9 (by decide) ?_
    refine j_goto hE (tgt := 27) dX6_setPersistence_10 (by decide) ?_
    refine b_put3 hE flX6_19 rfl rfl dX6_setPersistence_27 ?_
    refine j_aload_n hE (i := 0) dX6_setPersistence_30 rfl rfl ?_
    refine j_get hE flX6_19 gB_0 rfl dX6_setPersistence_31 ?_
    refine j_if_eqN hE (tgt := 39) dX6_setPersistence_34 (by decide) (by omega) (fun h34 => ?_) (fun h34 => ?_)
    · exfalso; omega
    · refine j_iconst hE (v := nI 0) dX6_setPersistence_37 (by decide) ?_
      refine j_iret hE hQ rfl (by omega) (by omega) dX6_setPersistence_38 ?_
      exact ⟨_, rfl, rfl, rfl⟩

set_option maxRecDepth 100000 in
set_option maxHeartbeats 4000000 in
theorem c_X6_setPersistence_f2 {l : Launch} (hl : l.stackTraces = false) (K : jK) (F : GH) (h0 hs : Nat) (now past : Nat → Int32) (thrown : Int32) (k : Nat) (hk : k ≤ 4) (drawn : Nat → Int32) (hash : Int64) (n j : Nat) (hn : now 2 = nI n) (hn9 : n ≤ 12) (hj : j < n) (q : Int32) (hq : ∀ i, 1 ≤ i → i ≤ 5 → q ≠ nI i) : Ct l K yX6_setPersistence cX6_setPersistence 4 (some .int) 2 43 0 0 [.ref h0, .int (nI j), .int q] (gB F h0 (mC K h0 now past (nI k) thrown drawn hash)) hs (pI (fun r G' _ => r = nI 0 ∧ G' = (gB F h0 (mC K h0 now past (nI k) (nI 2) drawn hash)))) jno := by
  refine Ct.ofA hl (by decide) (Nat.le_of_ble_eq_true rfl) (L0 := [some (.ref h0), some (.int (nI j)), some (.int q), none]) (jL_of 1 rfl) ?_
  intro A E hE hQ hX hNm
  refine j_aload_n hE (i := 0) dX6_setPersistence_0 rfl rfl ?_
  refine j_aload_n hE (i := 0) dX6_setPersistence_1 rfl rfl ?_
  refine j_iload_n hE (i := 1) dX6_setPersistence_2 rfl rfl ?_
  refine j_cVi hE mlX6_75 gB_0 (fun l hl => c_X6_isParameter_t hl K F h0 _ _ _ _ _ _ _ n _ hn hn9 hj) rfl rfl (Nat.le_of_ble_eq_true rfl) (by decide) (by decide) (by omega) (by omega) dX6_setPersistence_3 (fun r G9 hs9 hp => ?_) (fun _ _ h => h.elim)
  obtain ⟨rfl, rfl⟩ := hp
  refine j_if_neN hE (tgt := 13) dX6_setPersistence_6 (by decide) (by omega) (fun h6 => ?_) (fun h6 => ?_)
  · refine j_iload_n hE (i := 2) dX6_setPersistence_13 rfl rfl ?_
    refine j_iconst hE (v := nI 1) dX6_setPersistence_14 (by decide) ?_
    refine j_iconst hE (v := nI 5) dX6_setPersistence_15 (by decide) ?_
    refine j_cSi hE mlX6_26 (fun l hl => c_X6_in_f hl K _ _ _ _ _ (rg_f hq (by decide) (by decide))) rfl rfl (Nat.le_of_ble_eq_true rfl) (by decide) (by decide) (by omega) (by omega) dX6_setPersistence_16 (fun r G9 hs9 hp => ?_) (fun _ _ h => h.elim)
    obtain ⟨rfl, rfl⟩ := hp
    refine j_if_neN hE (tgt := 26) dX6_setPersistence_19 (by decide) (by omega) (fun h19 => ?_) (fun h19 => ?_)
    · exfalso; omega
    · refine j_iconst hE (v := nI 2) dX6_setPersistence_22 (by decide) ?_
      refine j_goto hE (tgt := 27) dX6_setPersistence_23 (by decide) ?_
      refine b_put3 hE flX6_19 rfl rfl dX6_setPersistence_27 ?_
      refine j_aload_n hE (i := 0) dX6_setPersistence_30 rfl rfl ?_
      refine j_get hE flX6_19 gB_0 rfl dX6_setPersistence_31 ?_
      refine j_if_eqN hE (tgt := 39) dX6_setPersistence_34 (by decide) (by omega) (fun h34 => ?_) (fun h34 => ?_)
      · exfalso; omega
      · refine j_iconst hE (v := nI 0) dX6_setPersistence_37 (by decide) ?_
        refine j_iret hE hQ rfl (by omega) (by omega) dX6_setPersistence_38 ?_
        exact ⟨_, rfl, rfl, rfl⟩
  · exfalso; omega

set_option maxRecDepth 100000 in
set_option maxHeartbeats 4000000 in
theorem c_X6_setLimits_t {l : Launch} (hl : l.stackTraces = false) (K : jK) (F : GH) (h0 hs : Nat) (now past : Nat → Int32) (thrown : Int32) (k : Nat) (hk : k ≤ 4) (drawn : Nat → Int32) (hash : Int64) (n j : Nat) (hn : now 2 = nI n) (hn9 : n ≤ 12) (hj : j < n) (m a b : Nat) (hm : m ≤ 2) (hab : a ≤ b) (hb : b ≤ 255) : Ct l K yX6_setLimits cX6_setLimits 7 (some .int) 2 43 0 0 [.ref h0, .int (nI j), .int (nI m), .int (nI a), .int (nI b)] (gB F h0 (mC K h0 now past (nI k) thrown drawn hash)) hs (pI (fun r G' _ => r = nI 1000 * now (33 + 14 * j + (4 + 2 * m)) + now (33 + 14 * j + (4 + 2 * m + 1)) ∧ G' = (gB F h0 (mC K h0 (upd (upd now (33 + 14 * j + (4 + 2 * m)) (nI a)) (33 + 14 * j + (4 + 2 * m + 1)) (nI b)) (mKeep now past k) (nI (mKept k)) (nI 0) drawn hash)))) jno := by
  refine Ct.ofA hl (by decide) (Nat.le_of_ble_eq_true rfl) (L0 := [some (.ref h0), some (.int (nI j)), some (.int (nI m)), some (.int (nI a)), some (.int (nI b)), none, none]) (jL_of 2 rfl) ?_
  intro A E hE hQ hX hNm
  refine j_aload_n hE (i := 0) dX6_setLimits_0 rfl rfl ?_
  refine j_aload_n hE (i := 0) dX6_setLimits_1 rfl rfl ?_
  refine j_iload_n hE (i := 1) dX6_setLimits_2 rfl rfl ?_
  refine j_cVi hE mlX6_75 gB_0 (fun l hl => c_X6_isParameter_t hl K F h0 _ _ _ _ _ _ _ n _ hn hn9 hj) rfl rfl (Nat.le_of_ble_eq_true rfl) (by decide) (by decide) (by omega) (by omega) dX6_setLimits_3 (fun r G9 hs9 hp => ?_) (fun _ _ h => h.elim)
  obtain ⟨rfl, rfl⟩ := hp
  refine j_if_neN hE (tgt := 13) dX6_setLimits_6 (by decide) (by omega) (fun h6 => ?_) (fun h6 => ?_)
  · refine j_iload_n hE (i := 2) dX6_setLimits_13 rfl rfl ?_
    refine j_iconst hE (v := nI 0) dX6_setLimits_14 (by decide) ?_
    refine j_iconst hE (v := nI 2) dX6_setLimits_15 (by decide) ?_
    refine j_cSi hE mlX6_26 (fun l hl => c_X6_in_t hl K _ _ _ _ _ (rg_t (by omega) (by omega) (by decide))) rfl rfl (Nat.le_of_ble_eq_true rfl) (by decide) (by decide) (by omega) (by omega) dX6_setLimits_16 (fun r G9 hs9 hp => ?_) (fun _ _ h => h.elim)
    obtain ⟨rfl, rfl⟩ := hp
    refine j_if_eqN hE (tgt := 40) dX6_setLimits_19 (by decide) (by omega) (fun h19 => ?_) (fun h19 => ?_)
    · exfalso; omega
    · refine j_iload_n hE (i := 3) dX6_setLimits_22 rfl rfl ?_
      refine j_if_lt hE (tgt := 40) dX6_setLimits_23 (by decide) (fun h23 => ?_) (fun h23 => ?_)
      · exact absurd h23 (nI_pos (by omega))
      · refine j_iload hE dX6_setLimits_26 rfl ?_
        refine j_sipush hE (v := nI 255) dX6_setLimits_28 (by decide) ?_
        refine j_ic_gtN hE (tgt := 40) dX6_setLimits_31 (by decide) (by omega) (by omega) (fun h31 => ?_) (fun h31 => ?_)
        · exfalso; omega
        · refine j_iload_n hE (i := 3) dX6_setLimits_34 rfl rfl ?_
          refine j_iload hE dX6_setLimits_35 rfl ?_
          refine j_ic_leN hE (tgt := 44) dX6_setLimits_37 (by decide) (by omega) (by omega) (fun h37 => ?_) (fun h37 => ?_)
          · refine j_iconst hE (v := nI 0) dX6_setLimits_44 (by decide) ?_
            refine b_put3 hE flX6_19 rfl rfl dX6_setLimits_45 ?_
            refine j_aload_n hE (i := 0) dX6_setLimits_48 rfl rfl ?_
            refine j_get hE flX6_19 gB_0 rfl dX6_setLimits_49 ?_
            refine j_if_eqN hE (tgt := 57) dX6_setLimits_52 (by decide) (by omega) (fun h52 => ?_) (fun h52 => ?_)
            · refine j_aload_n hE (i := 0) dX6_setLimits_57 rfl rfl ?_
              refine j_cVv hE mlX6_33 gB_0 (fun l hl => c_X6_keep hl K F h0 _ _ _ _ _ hk _ _) rfl rfl (Nat.le_of_ble_eq_true rfl) (by decide) (by decide) (by omega) (by omega) dX6_setLimits_58 (fun G9 hs9 hp => ?_) (fun _ _ h => h.elim)
              subst hp
              refine j_iconst hE (v := nI 4) dX6_setLimits_61 (by decide) ?_
              refine j_iconst hE (v := nI 2) dX6_setLimits_62 (by decide) ?_
              refine j_iload_n hE (i := 2) dX6_setLimits_63 rfl rfl ?_
              refine j_imulN hE dX6_setLimits_64 ?_
              refine j_iaddN hE dX6_setLimits_65 ?_
              refine j_ist5 hE dX6_setLimits_66 (by decide) rfl ?_
              refine j_sipush hE (v := nI 1000) dX6_setLimits_68 (by decide) ?_
              refine j_aload_n hE (i := 0) dX6_setLimits_71 rfl rfl ?_
              refine j_iload_n hE (i := 1) dX6_setLimits_72 rfl rfl ?_
              refine j_iload hE dX6_setLimits_73 rfl ?_
              refine j_cVi hE mlX6_43 gB_0 (fun l hl => c_X6_of hl K F h0 _ _ _ _ _ _ _ _ _ (by omega)) rfl rfl (Nat.le_of_ble_eq_true rfl) (by decide) (by decide) (by omega) (by omega) dX6_setLimits_75 (fun r G9 hs9 hp => ?_) (fun _ _ h => h.elim)
              obtain ⟨rfl, rfl⟩ := hp
              refine j_imul hE dX6_setLimits_78 ?_
              refine j_aload_n hE (i := 0) dX6_setLimits_79 rfl rfl ?_
              refine j_iload_n hE (i := 1) dX6_setLimits_80 rfl rfl ?_
              refine j_iload hE dX6_setLimits_81 rfl ?_
              refine j_iconst hE (v := nI 1) dX6_setLimits_83 (by decide) ?_
              refine j_iaddN hE dX6_setLimits_84 ?_
              refine j_cVi hE mlX6_43 gB_0 (fun l hl => c_X6_of hl K F h0 _ _ _ _ _ _ _ _ _ (by omega)) rfl rfl (Nat.le_of_ble_eq_true rfl) (by decide) (by decide) (by omega) (by omega) dX6_setLimits_85 (fun r G9 hs9 hp => ?_) (fun _ _ h => h.elim)
              obtain ⟨rfl, rfl⟩ := hp
              refine j_iadd hE dX6_setLimits_88 ?_
              refine j_ist6 hE dX6_setLimits_89 (by decide) rfl ?_
              refine j_aload_n hE (i := 0) dX6_setLimits_91 rfl rfl ?_
              refine j_iload_n hE (i := 1) dX6_setLimits_92 rfl rfl ?_
              refine j_iload hE dX6_setLimits_93 rfl ?_
              refine j_iload_n hE (i := 3) dX6_setLimits_95 rfl rfl ?_
              refine j_cVv hE mlX6_39 gB_0 (fun l hl => c_X6_put hl K F h0 _ _ _ _ _ _ _ _ _ _ (by omega)) rfl rfl (Nat.le_of_ble_eq_true rfl) (by decide) (by decide) (by omega) (by omega) dX6_setLimits_96 (fun G9 hs9 hp => ?_) (fun _ _ h => h.elim)
              subst hp
              refine j_aload_n hE (i := 0) dX6_setLimits_99 rfl rfl ?_
              refine j_iload_n hE (i := 1) dX6_setLimits_100 rfl rfl ?_
              refine j_iload hE dX6_setLimits_101 rfl ?_
              refine j_iconst hE (v := nI 1) dX6_setLimits_103 (by decide) ?_
              refine j_iaddN hE dX6_setLimits_104 ?_
              refine j_iload hE dX6_setLimits_105 rfl ?_
              refine j_cVv hE mlX6_39 gB_0 (fun l hl => c_X6_put hl K F h0 _ _ _ _ _ _ _ _ _ _ (by omega)) rfl rfl (Nat.le_of_ble_eq_true rfl) (by decide) (by decide) (by omega) (by omega) dX6_setLimits_107 (fun G9 hs9 hp => ?_) (fun _ _ h => h.elim)
              subst hp
              refine j_iload hE dX6_setLimits_110 rfl ?_
              refine j_iret hE hQ rfl (by omega) (by omega) dX6_setLimits_112 ?_
              exact ⟨_, rfl, rfl, rfl⟩
            · exfalso; omega
          · exfalso; omega
  · exfalso; omega

set_option maxRecDepth 100000 in
set_option maxHeartbeats 4000000 in
theorem c_X6_setLimits_f1 {l : Launch} (hl : l.stackTraces = false) (K : jK) (F : GH) (h0 hs : Nat) (now past : Nat → Int32) (thrown : Int32) (k : Nat) (hk : k ≤ 4) (drawn : Nat → Int32) (hash : Int64) (n : Nat) (p : Int32) (hn : now 2 = nI n) (hn9 : n ≤ 12) (hj : ∀ j, j < n → p ≠ nI j) (q a b : Int32) : Ct l K yX6_setLimits cX6_setLimits 7 (some .int) 2 43 0 0 [.ref h0, .int p, .int q, .int a, .int b] (gB F h0 (mC K h0 now past (nI k) thrown drawn hash)) hs (pI (fun r G' _ => r = nI 0 ∧ G' = (gB F h0 (mC K h0 now past (nI k) (nI 1) drawn hash)))) jno := by
  refine Ct.ofA hl (by decide) (Nat.le_of_ble_eq_true rfl) (L0 := [some (.ref h0), some (.int p), some (.int q), some (.int a), some (.int b), none, none]) (jL_of 2 rfl) ?_
  intro A E hE hQ hX hNm
  refine j_aload_n hE (i := 0) dX6_setLimits_0 rfl rfl ?_
  refine j_aload_n hE (i := 0) dX6_setLimits_1 rfl rfl ?_
  refine j_iload_n hE (i := 1) dX6_setLimits_2 rfl rfl ?_
  refine j_cVi hE mlX6_75 gB_0 (fun l hl => c_X6_isParameter_f hl K F h0 _ _ _ _ _ _ _ n _ hn hn9 hj) rfl rfl (Nat.le_of_ble_eq_true rfl) (by decide) (by decide) (by omega) (by omega) dX6_setLimits_3 (fun r G9 hs9 hp => ?_) (fun _ _ h => h.elim)
  obtain ⟨rfl, rfl⟩ := hp
  refine j_if_neN hE (tgt := 13) dX6_setLimits_6 (by decide) (by omega) (fun h6 => ?_) (fun h6 => ?_)
  · exfalso; omega
  · refine j_iconst hE (v := nI 1) dX6_setLimits_9 (by decide) ?_
    refine j_goto hE (tgt := 45) dX6_setLimits_10 (by decide) ?_
    refine b_put3 hE flX6_19 rfl rfl dX6_setLimits_45 ?_
    refine j_aload_n hE (i := 0) dX6_setLimits_48 rfl rfl ?_
    refine j_get hE flX6_19 gB_0 rfl dX6_setLimits_49 ?_
    refine j_if_eqN hE (tgt := 57) dX6_setLimits_52 (by decide) (by omega) (fun h52 => ?_) (fun h52 => ?_)
    · exfalso; omega
    · refine j_iconst hE (v := nI 0) dX6_setLimits_55 (by decide) ?_
      refine j_iret hE hQ rfl (by omega) (by omega) dX6_setLimits_56 ?_
      exact ⟨_, rfl, rfl, rfl⟩

set_option maxRecDepth 100000 in
set_option maxHeartbeats 4000000 in
theorem c_X6_setLimits_f2 {l : Launch} (hl : l.stackTraces = false) (K : jK) (F : GH) (h0 hs : Nat) (now past : Nat → Int32) (thrown : Int32) (k : Nat) (hk : k ≤ 4) (drawn : Nat → Int32) (hash : Int64) (n j : Nat) (hn : now 2 = nI n) (hn9 : n ≤ 12) (hj : j < n) (q a b : Int32) (hbad : ∀ m c d, m ≤ 2 → c ≤ d → d ≤ 255 → q = nI m → a = nI c → b = nI d → False) : Ct l K yX6_setLimits cX6_setLimits 7 (some .int) 2 43 0 0 [.ref h0, .int (nI j), .int q, .int a, .int b] (gB F h0 (mC K h0 now past (nI k) thrown drawn hash)) hs (pI (fun r G' _ => r = nI 0 ∧ G' = (gB F h0 (mC K h0 now past (nI k) (nI 2) drawn hash)))) jno := by
  refine Ct.ofA hl (by decide) (Nat.le_of_ble_eq_true rfl) (L0 := [some (.ref h0), some (.int (nI j)), some (.int q), some (.int a), some (.int b), none, none]) (jL_of 2 rfl) ?_
  intro A E hE hQ hX hNm
  refine j_aload_n hE (i := 0) dX6_setLimits_0 rfl rfl ?_
  refine j_aload_n hE (i := 0) dX6_setLimits_1 rfl rfl ?_
  refine j_iload_n hE (i := 1) dX6_setLimits_2 rfl rfl ?_
  refine j_cVi hE mlX6_75 gB_0 (fun l hl => c_X6_isParameter_t hl K F h0 _ _ _ _ _ _ _ n _ hn hn9 hj) rfl rfl (Nat.le_of_ble_eq_true rfl) (by decide) (by decide) (by omega) (by omega) dX6_setLimits_3 (fun r G9 hs9 hp => ?_) (fun _ _ h => h.elim)
  obtain ⟨rfl, rfl⟩ := hp
  refine j_if_neN hE (tgt := 13) dX6_setLimits_6 (by decide) (by omega) (fun h6 => ?_) (fun h6 => ?_)
  · refine j_iload_n hE (i := 2) dX6_setLimits_13 rfl rfl ?_
    refine j_iconst hE (v := nI 0) dX6_setLimits_14 (by decide) ?_
    refine j_iconst hE (v := nI 2) dX6_setLimits_15 (by decide) ?_
    refine j_cSi hE mlX6_26 (fun l hl => c_X6_in hl K _ _ _ _ _) rfl rfl (Nat.le_of_ble_eq_true rfl) (by decide) (by decide) (by omega) (by omega) dX6_setLimits_16 (fun r G9 hs9 hp => ?_) (fun _ _ h => h.elim)
    obtain ⟨rfl, rfl⟩ := hp
    refine j_if_eq hE (tgt := 40) dX6_setLimits_19 (by decide) (fun h19 => ?_) (fun h19 => ?_)
    · refine j_iconst hE (v := nI 2) dX6_setLimits_40 (by decide) ?_
      refine j_goto hE (tgt := 45) dX6_setLimits_41 (by decide) ?_
      refine b_put3 hE flX6_19 rfl rfl dX6_setLimits_45 ?_
      refine j_aload_n hE (i := 0) dX6_setLimits_48 rfl rfl ?_
      refine j_get hE flX6_19 gB_0 rfl dX6_setLimits_49 ?_
      refine j_if_eqN hE (tgt := 57) dX6_setLimits_52 (by decide) (by omega) (fun h52 => ?_) (fun h52 => ?_)
      · exfalso; omega
      · refine j_iconst hE (v := nI 0) dX6_setLimits_55 (by decide) ?_
        refine j_iret hE hQ rfl (by omega) (by omega) dX6_setLimits_56 ?_
        exact ⟨_, rfl, rfl, rfl⟩
    · refine j_iload_n hE (i := 3) dX6_setLimits_22 rfl rfl ?_
      refine j_if_lt hE (tgt := 40) dX6_setLimits_23 (by decide) (fun h23 => ?_) (fun h23 => ?_)
      · refine j_iconst hE (v := nI 2) dX6_setLimits_40 (by decide) ?_
        refine j_goto hE (tgt := 45) dX6_setLimits_41 (by decide) ?_
        refine b_put3 hE flX6_19 rfl rfl dX6_setLimits_45 ?_
        refine j_aload_n hE (i := 0) dX6_setLimits_48 rfl rfl ?_
        refine j_get hE flX6_19 gB_0 rfl dX6_setLimits_49 ?_
        refine j_if_eqN hE (tgt := 57) dX6_setLimits_52 (by decide) (by omega) (fun h52 => ?_) (fun h52 => ?_)
        · exfalso; omega
        · refine j_iconst hE (v := nI 0) dX6_setLimits_55 (by decide) ?_
          refine j_iret hE hQ rfl (by omega) (by omega) dX6_setLimits_56 ?_
          exact ⟨_, rfl, rfl, rfl⟩
      · refine j_iload hE dX6_setLimits_26 rfl ?_
        refine j_sipush hE (v := nI 255) dX6_setLimits_28 (by decide) ?_
        refine j_ic_gt hE (tgt := 40) dX6_setLimits_31 (by decide) (fun h31 => ?_) (fun h31 => ?_)
        · refine j_iconst hE (v := nI 2) dX6_setLimits_40 (by decide) ?_
          refine j_goto hE (tgt := 45) dX6_setLimits_41 (by decide) ?_
          refine b_put3 hE flX6_19 rfl rfl dX6_setLimits_45 ?_
          refine j_aload_n hE (i := 0) dX6_setLimits_48 rfl rfl ?_
          refine j_get hE flX6_19 gB_0 rfl dX6_setLimits_49 ?_
          refine j_if_eqN hE (tgt := 57) dX6_setLimits_52 (by decide) (by omega) (fun h52 => ?_) (fun h52 => ?_)
          · exfalso; omega
          · refine j_iconst hE (v := nI 0) dX6_setLimits_55 (by decide) ?_
            refine j_iret hE hQ rfl (by omega) (by omega) dX6_setLimits_56 ?_
            exact ⟨_, rfl, rfl, rfl⟩
        · refine j_iload_n hE (i := 3) dX6_setLimits_34 rfl rfl ?_
          refine j_iload hE dX6_setLimits_35 rfl ?_
          refine j_ic_le hE (tgt := 44) dX6_setLimits_37 (by decide) (fun h37 => ?_) (fun h37 => ?_)
          · obtain ⟨m, m1, m2, rfl⟩ := rg_ex (jbd_ne h19) (by decide) (by decide)
            obtain ⟨c, c1, rfl⟩ := nI_of h23
            have hb0 : ¬ b < 0 := fun q => by
              have q1 := Int32.lt_iff_toInt_lt.mp q
              have q2 := Int32.le_iff_toInt_le.mp h37
              rw [nI_toInt c1] at q2
              rw [Int32.toInt_zero] at q1
              omega
            obtain ⟨d, d1, rfl⟩ := nI_of hb0
            exact (hbad m c d m2 ((nI_leI c1 d1).mp h37) (by have := mt (nI_ltI (a := 255) (by decide) d1).mpr h31; omega) rfl rfl rfl).elim
          · refine j_iconst hE (v := nI 2) dX6_setLimits_40 (by decide) ?_
            refine j_goto hE (tgt := 45) dX6_setLimits_41 (by decide) ?_
            refine b_put3 hE flX6_19 rfl rfl dX6_setLimits_45 ?_
            refine j_aload_n hE (i := 0) dX6_setLimits_48 rfl rfl ?_
            refine j_get hE flX6_19 gB_0 rfl dX6_setLimits_49 ?_
            refine j_if_eqN hE (tgt := 57) dX6_setLimits_52 (by decide) (by omega) (fun h52 => ?_) (fun h52 => ?_)
            · exfalso; omega
            · refine j_iconst hE (v := nI 0) dX6_setLimits_55 (by decide) ?_
              refine j_iret hE hQ rfl (by omega) (by omega) dX6_setLimits_56 ?_
              exact ⟨_, rfl, rfl, rfl⟩
  · exfalso; omega

/-- the rates that there are -/
def rOk (x : Int32) : Prop := (∃ r, 1 ≤ r ∧ r ≤ 4 ∧ x = nI r) ∨ ∃ q, (q = 2 ∨ q = 4 ∨ q = 8) ∧ x = -nI q
/-- samples in a major frame of M minor frames, at a rate -/
def sOf (M : Nat) (x : Int32) : Nat := if 0 < x then x.toInt.toNat * M else M / (-x).toInt.toNat
theorem sOf_p {M r : Nat} (h1 : 1 ≤ r) (h4 : r ≤ 4) : sOf M (nI r) = r * M := by
  unfold sOf
  rw [if_pos (by rw [← nI_0]; exact nI_lt h1 (by omega)), nI_toInt (by omega)]
  rfl
theorem sOf_n {M q : Nat} (hq : q = 2 ∨ q = 4 ∨ q = 8) : sOf M (-nI q) = M / q := by
  unfold sOf
  rcases hq with rfl | rfl | rfl
  · rw [if_neg (by decide), show (- -nI 2).toInt.toNat = 2 by decide]
  · rw [if_neg (by decide), show (- -nI 4).toInt.toNat = 4 by decide]
  · rw [if_neg (by decide), show (- -nI 8).toInt.toNat = 8 by decide]
set_option maxRecDepth 100000 in
set_option maxHeartbeats 4000000 in
theorem c_X6_samplesOf_p {l : Launch} (hl : l.stackTraces = false) (K : jK) (F : GH) (h0 hs : Nat) (now past : Nat → Int32) (kept thrown : Int32) (drawn : Nat → Int32) (hash : Int64) (M : Nat) (hM : now 1 = nI M) (hM9 : M ≤ 8) (j z : Nat) (hj : j < 12) (hr1 : 1 ≤ z) (hr4 : z ≤ 4) (hr : now (33 + 14 * j + 0) = nI z) : Ct l K yX6_samplesOf cX6_samplesOf 3 (some .int) 1 22 0 0 [.ref h0, .int (nI j)] (gB F h0 (mC K h0 now past kept thrown drawn hash)) hs (pI (fun r G' _ => r = nI (z * M) ∧ G' = (gB F h0 (mC K h0 now past kept thrown drawn hash)))) jno := by
  refine Ct.ofA hl (by decide) (Nat.le_of_ble_eq_true rfl) (L0 := [some (.ref h0), some (.int (nI j)), none]) (jL_of 1 rfl) ?_
  intro A E hE hQ hX hNm
  refine j_aload_n hE (i := 0) dX6_samplesOf_0 rfl rfl ?_
  refine j_iload_n hE (i := 1) dX6_samplesOf_1 rfl rfl ?_
  refine j_iconst hE (v := nI 0) dX6_samplesOf_2 (by decide) ?_
  refine j_cVi hE mlX6_43 gB_0 (fun l hl => c_X6_of hl K F h0 _ _ _ _ _ _ _ _ _ (by omega)) rfl rfl (Nat.le_of_ble_eq_true rfl) (by decide) (by decide) (by omega) (by omega) dX6_samplesOf_3 (fun r G9 hs9 hp => ?_) (fun _ _ h => h.elim)
  obtain ⟨rfl, rfl⟩ := hp
  rw [hr]
  refine j_ist2 hE dX6_samplesOf_6 rfl (by decide) rfl ?_
  refine j_iload_n hE (i := 2) dX6_samplesOf_7 rfl rfl ?_
  refine j_if_leN hE (tgt := 22) dX6_samplesOf_8 (by decide) (by omega) (fun h8 => ?_) (fun h8 => ?_)
  · exfalso; omega
  · refine j_iload_n hE (i := 2) dX6_samplesOf_11 rfl rfl ?_
    refine j_aload_n hE (i := 0) dX6_samplesOf_12 rfl rfl ?_
    refine j_get hE flX6_7 gB_0 rfl dX6_samplesOf_13 ?_
    refine j_iconst hE (v := nI 1) dX6_samplesOf_16 (by decide) ?_
    refine j_iald hE gB_1 rfl (by omega) (by decide) dX6_samplesOf_17 ?_
    rw [hM]
    refine j_imulN hE dX6_samplesOf_18 ?_
    refine j_goto hE (tgt := 31) dX6_samplesOf_19 (by decide) ?_
    refine j_iret hE hQ rfl (by omega) (by omega) dX6_samplesOf_31 ?_
    exact ⟨_, rfl, rfl, rfl⟩

set_option maxRecDepth 100000 in
set_option maxHeartbeats 4000000 in
theorem c_X6_samplesOf_n {l : Launch} (hl : l.stackTraces = false) (K : jK) (F : GH) (h0 hs : Nat) (now past : Nat → Int32) (kept thrown : Int32) (drawn : Nat → Int32) (hash : Int64) (M : Nat) (hM : now 1 = nI M) (hM9 : M ≤ 8) (j q : Nat) (hj : j < 12) (hq : q = 2 ∨ q = 4 ∨ q = 8) (hr : now (33 + 14 * j + 0) = -nI q) : Ct l K yX6_samplesOf cX6_samplesOf 3 (some .int) 1 22 0 0 [.ref h0, .int (nI j)] (gB F h0 (mC K h0 now past kept thrown drawn hash)) hs (pI (fun r G' _ => r = nI (M / q) ∧ G' = (gB F h0 (mC K h0 now past kept thrown drawn hash)))) jno := by
  refine Ct.ofA hl (by decide) (Nat.le_of_ble_eq_true rfl) (L0 := [some (.ref h0), some (.int (nI j)), none]) (jL_of 1 rfl) ?_
  intro A E hE hQ hX hNm
  refine j_aload_n hE (i := 0) dX6_samplesOf_0 rfl rfl ?_
  refine j_iload_n hE (i := 1) dX6_samplesOf_1 rfl rfl ?_
  refine j_iconst hE (v := nI 0) dX6_samplesOf_2 (by decide) ?_
  refine j_cVi hE mlX6_43 gB_0 (fun l hl => c_X6_of hl K F h0 _ _ _ _ _ _ _ _ _ (by omega)) rfl rfl (Nat.le_of_ble_eq_true rfl) (by decide) (by decide) (by omega) (by omega) dX6_samplesOf_3 (fun r G9 hs9 hp => ?_) (fun _ _ h => h.elim)
  obtain ⟨rfl, rfl⟩ := hp
  rw [hr]
  refine j_ist2 hE dX6_samplesOf_6 rfl (by decide) rfl ?_
  refine j_iload_n hE (i := 2) dX6_samplesOf_7 rfl rfl ?_
  refine j_if_le hE (tgt := 22) dX6_samplesOf_8 (by decide) (fun h8 => ?_) (fun h8 => ?_)
  · refine j_aload_n hE (i := 0) dX6_samplesOf_22 rfl rfl ?_
    refine j_get hE flX6_7 gB_0 rfl dX6_samplesOf_23 ?_
    refine j_iconst hE (v := nI 1) dX6_samplesOf_26 (by decide) ?_
    refine j_iald hE gB_1 rfl (by omega) (by decide) dX6_samplesOf_27 ?_
    rw [hM]
    refine j_iload_n hE (i := 2) dX6_samplesOf_28 rfl rfl ?_
    refine j_ineg hE dX6_samplesOf_29 ?_
    rw [Int32.neg_neg]
    have hq9 : 0 < q ∧ q ≤ 8 := by omega
    refine j_idivN hE dX6_samplesOf_30 (by omega) (by omega) (by omega) ?_
    refine j_iret hE hQ rfl (by omega) (by omega) dX6_samplesOf_31 ?_
    exact ⟨_, rfl, rfl, rfl⟩
  · exact absurd (by rcases hq with rfl | rfl | rfl <;> decide) h8

theorem c_X6_samplesOf {l : Launch} (hl : l.stackTraces = false) (K : jK) (F : GH) (h0 hs : Nat) (now past : Nat → Int32) (kept thrown : Int32) (drawn : Nat → Int32) (hash : Int64) (M : Nat) (hM : now 1 = nI M) (hM9 : M ≤ 8) (j : Nat) (hj : j < 12) (hr : rOk (now (33 + 14 * j + 0))) : Ct l K yX6_samplesOf cX6_samplesOf 3 (some .int) 1 22 0 0 [.ref h0, .int (nI j)] (gB F h0 (mC K h0 now past kept thrown drawn hash)) hs (pI (fun r G' _ => r = nI (sOf M (now (33 + 14 * j + 0))) ∧ G' = (gB F h0 (mC K h0 now past kept thrown drawn hash)))) jno := by
  rcases hr with ⟨r, h1, h4, h⟩ | ⟨q, hq, h⟩
  · rw [h, sOf_p h1 h4]
    exact c_X6_samplesOf_p hl K F h0 hs now past kept thrown drawn hash M hM hM9 j r hj h1 h4 h
  · rw [h, sOf_n hq]
    exact c_X6_samplesOf_n hl K F h0 hs now past kept thrown drawn hash M hM hM9 j q hj hq h
set_option maxRecDepth 100000 in
set_option maxHeartbeats 4000000 in
theorem c_X6_samplesPerMajor_t {l : Launch} (hl : l.stackTraces = false) (K : jK) (F : GH) (h0 hs : Nat) (now past : Nat → Int32) (kept thrown : Int32) (drawn : Nat → Int32) (hash : Int64) (M : Nat) (hM : now 1 = nI M) (hM9 : M ≤ 8) (n j : Nat) (hn : now 2 = nI n) (hn9 : n ≤ 12) (hj : j < n) (hr : rOk (now (33 + 14 * j + 0))) : Ct l K yX6_samplesPerMajor cX6_samplesPerMajor 2 (some .int) 2 44 0 0 [.ref h0, .int (nI j)] (gB F h0 (mC K h0 now past kept thrown drawn hash)) hs (pI (fun r G' _ => r = nI (sOf M (now (33 + 14 * j + 0))) ∧ G' = (gB F h0 (mC K h0 now past kept (nI 0) drawn hash)))) jno := by
  refine Ct.ofA hl (by decide) (Nat.le_of_ble_eq_true rfl) (L0 := [some (.ref h0), some (.int (nI j))]) (jL_of 0 rfl) ?_
  intro A E hE hQ hX hNm
  refine j_aload_n hE (i := 0) dX6_samplesPerMajor_0 rfl rfl ?_
  refine j_aload_n hE (i := 0) dX6_samplesPerMajor_1 rfl rfl ?_
  refine j_iload_n hE (i := 1) dX6_samplesPerMajor_2 rfl rfl ?_
  refine j_cVi hE mlX6_75 gB_0 (fun l hl => c_X6_isParameter_t hl K F h0 _ _ _ _ _ _ _ n _ hn hn9 hj) rfl rfl (Nat.le_of_ble_eq_true rfl) (by decide) (by decide) (by omega) (by omega) dX6_samplesPerMajor_3 (fun r G9 hs9 hp => ?_) (fun _ _ h => h.elim)
  obtain ⟨rfl, rfl⟩ := hp
  refine j_if_eqN hE (tgt := 13) dX6_samplesPerMajor_6 (by decide) (by omega) (fun h6 => ?_) (fun h6 => ?_)
  · exfalso; omega
  · refine j_iconst hE (v := nI 0) dX6_samplesPerMajor_9 (by decide) ?_
    refine j_goto hE (tgt := 14) dX6_samplesPerMajor_10 (by decide) ?_
    refine b_put3 hE flX6_19 rfl rfl dX6_samplesPerMajor_14 ?_
    refine j_aload_n hE (i := 0) dX6_samplesPerMajor_17 rfl rfl ?_
    refine j_get hE flX6_19 gB_0 rfl dX6_samplesPerMajor_18 ?_
    refine j_if_eqN hE (tgt := 28) dX6_samplesPerMajor_21 (by decide) (by omega) (fun h21 => ?_) (fun h21 => ?_)
    · refine j_aload_n hE (i := 0) dX6_samplesPerMajor_28 rfl rfl ?_
      refine j_iload_n hE (i := 1) dX6_samplesPerMajor_29 rfl rfl ?_
      refine j_cVi hE mlX6_54 gB_0 (fun l hl => c_X6_samplesOf hl K F h0 _ _ _ _ _ _ _ M hM hM9 _ (by omega) hr) rfl rfl (Nat.le_of_ble_eq_true rfl) (by decide) (by decide) (by omega) (by omega) dX6_samplesPerMajor_30 (fun r G9 hs9 hp => ?_) (fun _ _ h => h.elim)
      obtain ⟨rfl, rfl⟩ := hp
      refine j_iret hE hQ rfl (by omega) (by omega) dX6_samplesPerMajor_33 ?_
      exact ⟨_, rfl, rfl, rfl⟩
    · exfalso; omega

set_option maxRecDepth 100000 in
set_option maxHeartbeats 4000000 in
theorem c_X6_samplesPerMajor_f {l : Launch} (hl : l.stackTraces = false) (K : jK) (F : GH) (h0 hs : Nat) (now past : Nat → Int32) (kept thrown : Int32) (drawn : Nat → Int32) (hash : Int64) (n : Nat) (p : Int32) (hn : now 2 = nI n) (hn9 : n ≤ 12) (hj : ∀ j, j < n → p ≠ nI j) : Ct l K yX6_samplesPerMajor cX6_samplesPerMajor 2 (some .int) 2 44 0 0 [.ref h0, .int p] (gB F h0 (mC K h0 now past kept thrown drawn hash)) hs (pI (fun r G' _ => r = nI 0 ∧ G' = (gB F h0 (mC K h0 now past kept (nI 1) drawn hash)))) jno := by
  refine Ct.ofA hl (by decide) (Nat.le_of_ble_eq_true rfl) (L0 := [some (.ref h0), some (.int p)]) (jL_of 0 rfl) ?_
  intro A E hE hQ hX hNm
  refine j_aload_n hE (i := 0) dX6_samplesPerMajor_0 rfl rfl ?_
  refine j_aload_n hE (i := 0) dX6_samplesPerMajor_1 rfl rfl ?_
  refine j_iload_n hE (i := 1) dX6_samplesPerMajor_2 rfl rfl ?_
  refine j_cVi hE mlX6_75 gB_0 (fun l hl => c_X6_isParameter_f hl K F h0 _ _ _ _ _ _ _ n _ hn hn9 hj) rfl rfl (Nat.le_of_ble_eq_true rfl) (by decide) (by decide) (by omega) (by omega) dX6_samplesPerMajor_3 (fun r G9 hs9 hp => ?_) (fun _ _ h => h.elim)
  obtain ⟨rfl, rfl⟩ := hp
  refine j_if_eqN hE (tgt := 13) dX6_samplesPerMajor_6 (by decide) (by omega) (fun h6 => ?_) (fun h6 => ?_)
  · refine j_iconst hE (v := nI 1) dX6_samplesPerMajor_13 (by decide) ?_
    refine b_put3 hE flX6_19 rfl rfl dX6_samplesPerMajor_14 ?_
    refine j_aload_n hE (i := 0) dX6_samplesPerMajor_17 rfl rfl ?_
    refine j_get hE flX6_19 gB_0 rfl dX6_samplesPerMajor_18 ?_
    refine j_if_eqN hE (tgt := 28) dX6_samplesPerMajor_21 (by decide) (by omega) (fun h21 => ?_) (fun h21 => ?_)
    · exfalso; omega
    · refine j_iconst hE (v := nI 0) dX6_samplesPerMajor_24 (by decide) ?_
      refine j_goto hE (tgt := 33) dX6_samplesPerMajor_25 (by decide) ?_
      refine j_iret hE hQ rfl (by omega) (by omega) dX6_samplesPerMajor_33 ?_
      exact ⟨_, rfl, rfl, rfl⟩
  · exfalso; omega

def uRow (past : Nat → Int32) (k i : Nat) (p : Nat → Int32) : Nat → Int32 := upd p i (past (2377 * k + i))
set_option maxRecDepth 100000 in
set_option maxHeartbeats 4000000 in
theorem c_X6_undo_t {l : Launch} (hl : l.stackTraces = false) (K : jK) (F : GH) (h0 hs : Nat) (now past : Nat → Int32) (thrown : Int32) (k : Nat) (hk : k ≤ 4) (drawn : Nat → Int32) (hash : Int64) (hk1 : 1 ≤ k) : Ct l K yX6_undo cX6_undo 2 (some .int) 0 0 0 0 [.ref h0] (gB F h0 (mC K h0 now past (nI k) thrown drawn hash)) hs (pI (fun r G' _ => r = nI (k - 1) ∧ G' = (gB F h0 (mC K h0 (itr (uRow past (k - 1)) 2377 now) past (nI (k - 1)) (nI 0) drawn hash)))) jno := by
  refine Ct.ofA hl (by decide) (Nat.le_of_ble_eq_true rfl) (L0 := [some (.ref h0), none]) (jL_of 1 rfl) ?_
  intro A E hE hQ hX hNm
  refine j_aload_n hE (i := 0) dX6_undo_0 rfl rfl ?_
  refine j_aload_n hE (i := 0) dX6_undo_1 rfl rfl ?_
  refine j_get hE flX6_23 gB_0 rfl dX6_undo_2 ?_
  refine j_if_neN hE (tgt := 12) dX6_undo_5 (by decide) (by omega) (fun h5 => ?_) (fun h5 => ?_)
  · refine j_iconst hE (v := nI 0) dX6_undo_12 (by decide) ?_
    refine b_put3 hE flX6_19 rfl rfl dX6_undo_13 ?_
    refine j_aload_n hE (i := 0) dX6_undo_16 rfl rfl ?_
    refine j_get hE flX6_19 gB_0 rfl dX6_undo_17 ?_
    refine j_if_eqN hE (tgt := 25) dX6_undo_20 (by decide) (by omega) (fun h20 => ?_) (fun h20 => ?_)
    · refine j_aload_n hE (i := 0) dX6_undo_25 rfl rfl ?_
      refine j_dup hE dX6_undo_26 rfl ?_
      refine j_get hE flX6_23 gB_0 rfl dX6_undo_27 ?_
      refine j_iconst hE (v := nI 1) dX6_undo_30 (by decide) ?_
      refine j_isubN hE dX6_undo_31 (by omega) ?_
      refine b_put2 hE flX6_23 rfl rfl dX6_undo_32 ?_
      refine j_iconst hE (v := nI 0) dX6_undo_35 (by decide) ?_
      refine j_ist1 hE dX6_undo_36 rfl (by decide) rfl ?_
      have key37 : ∀ i, i ≤ 2377 → ∀ hs, J K A E 2 (gB F h0 (mC K h0 (itr (uRow past (k - 1)) i now) past (nI (k - 1)) (nI 0) drawn hash)) hs 0 0 37 [some (.ref h0), some (.int (nI i))] [] := by
        refine dloop (fun i => ∀ hs, J K A E 2 (gB F h0 (mC K h0 (itr (uRow past (k - 1)) i now) past (nI (k - 1)) (nI 0) drawn hash)) hs 0 0 37 [some (.ref h0), some (.int (nI i))] []) (2377) (fun i hi37 ih37 => ?_) ?_
        · intro hs
          refine j_iload_n hE (i := 1) dX6_undo_37 rfl rfl ?_
          refine j_sipush hE (v := nI 2377) dX6_undo_38 (by decide) ?_
          refine j_ic_geN hE (tgt := 71) dX6_undo_41 (by decide) (by omega) (by omega) (fun h41 => ?_) (fun h41 => ?_)
          · exfalso; omega
          · refine j_aload_n hE (i := 0) dX6_undo_44 rfl rfl ?_
            refine j_get hE flX6_7 gB_0 rfl dX6_undo_45 ?_
            refine j_iload_n hE (i := 1) dX6_undo_48 rfl rfl ?_
            refine j_aload_n hE (i := 0) dX6_undo_49 rfl rfl ?_
            refine j_get hE flX6_13 gB_0 rfl dX6_undo_50 ?_
            refine j_sipush hE (v := nI 2377) dX6_undo_53 (by decide) ?_
            refine j_aload_n hE (i := 0) dX6_undo_56 rfl rfl ?_
            refine j_get hE flX6_23 gB_0 rfl dX6_undo_57 ?_
            refine j_imulN hE dX6_undo_60 ?_
            refine j_iload_n hE (i := 1) dX6_undo_61 rfl rfl ?_
            refine j_iaddN hE dX6_undo_62 ?_
            refine j_iald hE gB_2 rfl (by omega) (by decide) dX6_undo_63 ?_
            refine b_ast1 hE rfl (by omega) (by decide) dX6_undo_64 ?_
            refine j_incN1 hE dX6_undo_65 (by decide) rfl ?_
            refine j_goto hE (tgt := 37) dX6_undo_68 (by decide) ?_
            exact ih37 _
        · intro hs
          refine j_iload_n hE (i := 1) dX6_undo_37 rfl rfl ?_
          refine j_sipush hE (v := nI 2377) dX6_undo_38 (by decide) ?_
          refine j_ic_geN hE (tgt := 71) dX6_undo_41 (by decide) (by omega) (by omega) (fun h41 => ?_) (fun h41 => ?_)
          · refine j_aload_n hE (i := 0) dX6_undo_71 rfl rfl ?_
            refine j_get hE flX6_23 gB_0 rfl dX6_undo_72 ?_
            refine j_iret hE hQ rfl (by omega) (by omega) dX6_undo_75 ?_
            exact ⟨_, rfl, rfl, rfl⟩
          · exfalso; omega
      exact key37 0 (by omega) _
    · exfalso; omega
  · exfalso; omega

set_option maxRecDepth 100000 in
set_option maxHeartbeats 4000000 in
theorem c_X6_undo_f {l : Launch} (hl : l.stackTraces = false) (K : jK) (F : GH) (h0 hs : Nat) (now past : Nat → Int32) (kept thrown : Int32) (drawn : Nat → Int32) (hash : Int64) : Ct l K yX6_undo cX6_undo 2 (some .int) 0 0 0 0 [.ref h0] (gB F h0 (mC K h0 now past (nI 0) thrown drawn hash)) hs (pI (fun r G' _ => r = nI 0 ∧ G' = (gB F h0 (mC K h0 now past (nI 0) (nI 1) drawn hash)))) jno := by
  refine Ct.ofA hl (by decide) (Nat.le_of_ble_eq_true rfl) (L0 := [some (.ref h0), none]) (jL_of 1 rfl) ?_
  intro A E hE hQ hX hNm
  refine j_aload_n hE (i := 0) dX6_undo_0 rfl rfl ?_
  refine j_aload_n hE (i := 0) dX6_undo_1 rfl rfl ?_
  refine j_get hE flX6_23 gB_0 rfl dX6_undo_2 ?_
  refine j_if_neN hE (tgt := 12) dX6_undo_5 (by decide) (by omega) (fun h5 => ?_) (fun h5 => ?_)
  · exfalso; omega
  · refine j_iconst hE (v := nI 1) dX6_undo_8 (by decide) ?_
    refine j_goto hE (tgt := 13) dX6_undo_9 (by decide) ?_
    refine b_put3 hE flX6_19 rfl rfl dX6_undo_13 ?_
    refine j_aload_n hE (i := 0) dX6_undo_16 rfl rfl ?_
    refine j_get hE flX6_19 gB_0 rfl dX6_undo_17 ?_
    refine j_if_eqN hE (tgt := 25) dX6_undo_20 (by decide) (by omega) (fun h20 => ?_) (fun h20 => ?_)
    · exfalso; omega
    · refine j_iconst hE (v := nI 0) dX6_undo_23 (by decide) ?_
      refine j_iret hE hQ rfl (by omega) (by omega) dX6_undo_24 ?_
      exact ⟨_, rfl, rfl, rfl⟩

set_option maxRecDepth 100000 in
set_option maxHeartbeats 4000000 in
theorem c_X6_ownerOf_t {l : Launch} (hl : l.stackTraces = false) (K : jK) (F : GH) (h0 hs : Nat) (now past : Nat → Int32) (kept thrown : Int32) (drawn : Nat → Int32) (hash : Int64) (W M : Nat) (hW : now 0 = nI W) (hM : now 1 = nI M) (hW9 : W ≤ 16) (hM9 : M ≤ 8) (f w : Nat) (hf : f < M) (hw : w < W) (hp : now 3 = nI 1) : Ct l K yX6_ownerOf cX6_ownerOf 3 (some .int) 1 22 0 0 [.ref h0, .int (nI f), .int (nI w)] (gB F h0 (mC K h0 now past kept thrown drawn hash)) hs (pI (fun r G' _ => r = now (201 + 16 * f + w) ∧ G' = (gB F h0 (mC K h0 now past kept (nI 0) drawn hash)))) jno := by
  refine Ct.ofA hl (by decide) (Nat.le_of_ble_eq_true rfl) (L0 := [some (.ref h0), some (.int (nI f)), some (.int (nI w))]) (jL_of 0 rfl) ?_
  intro A E hE hQ hX hNm
  refine j_aload_n hE (i := 0) dX6_ownerOf_0 rfl rfl ?_
  refine j_iload_n hE (i := 1) dX6_ownerOf_1 rfl rfl ?_
  refine j_iconst hE (v := nI 0) dX6_ownerOf_2 (by decide) ?_
  refine j_aload_n hE (i := 0) dX6_ownerOf_3 rfl rfl ?_
  refine j_get hE flX6_7 gB_0 rfl dX6_ownerOf_4 ?_
  refine j_iconst hE (v := nI 1) dX6_ownerOf_7 (by decide) ?_
  refine j_iald hE gB_1 rfl (by omega) (by decide) dX6_ownerOf_8 ?_
  rw [hM]
  refine j_iconst hE (v := nI 1) dX6_ownerOf_9 (by decide) ?_
  refine j_isub hE dX6_ownerOf_10 ?_
  refine j_cSi hE mlX6_26 (fun l hl => c_X6_in_t hl K _ _ _ _ _ (ix_t (by assumption) (by omega))) rfl rfl (Nat.le_of_ble_eq_true rfl) (by decide) (by decide) (by omega) (by omega) dX6_ownerOf_11 (fun r G9 hs9 hp => ?_) (fun _ _ h => h.elim)
  obtain ⟨rfl, rfl⟩ := hp
  refine j_if_eqN hE (tgt := 33) dX6_ownerOf_14 (by decide) (by omega) (fun h14 => ?_) (fun h14 => ?_)
  · exfalso; omega
  · refine j_iload_n hE (i := 2) dX6_ownerOf_17 rfl rfl ?_
    refine j_iconst hE (v := nI 0) dX6_ownerOf_18 (by decide) ?_
    refine j_aload_n hE (i := 0) dX6_ownerOf_19 rfl rfl ?_
    refine j_get hE flX6_7 gB_0 rfl dX6_ownerOf_20 ?_
    refine j_iconst hE (v := nI 0) dX6_ownerOf_23 (by decide) ?_
    refine j_iald hE gB_1 rfl (by omega) (by decide) dX6_ownerOf_24 ?_
    rw [hW]
    refine j_iconst hE (v := nI 1) dX6_ownerOf_25 (by decide) ?_
    refine j_isub hE dX6_ownerOf_26 ?_
    refine j_cSi hE mlX6_26 (fun l hl => c_X6_in_t hl K _ _ _ _ _ (ix_t (by assumption) (by omega))) rfl rfl (Nat.le_of_ble_eq_true rfl) (by decide) (by decide) (by omega) (by omega) dX6_ownerOf_27 (fun r G9 hs9 hp => ?_) (fun _ _ h => h.elim)
    obtain ⟨rfl, rfl⟩ := hp
    refine j_if_neN hE (tgt := 37) dX6_ownerOf_30 (by decide) (by omega) (fun h30 => ?_) (fun h30 => ?_)
    · refine j_aload_n hE (i := 0) dX6_ownerOf_37 rfl rfl ?_
      refine j_get hE flX6_7 gB_0 rfl dX6_ownerOf_38 ?_
      refine j_iconst hE (v := nI 3) dX6_ownerOf_41 (by decide) ?_
      refine j_iald hE gB_1 rfl (by omega) (by decide) dX6_ownerOf_42 ?_
      rw [hp]
      refine j_if_neN hE (tgt := 50) dX6_ownerOf_43 (by decide) (by omega) (fun h43 => ?_) (fun h43 => ?_)
      · refine j_iconst hE (v := nI 0) dX6_ownerOf_50 (by decide) ?_
        refine b_put3 hE flX6_19 rfl rfl dX6_ownerOf_51 ?_
        refine j_aload_n hE (i := 0) dX6_ownerOf_54 rfl rfl ?_
        refine j_get hE flX6_19 gB_0 rfl dX6_ownerOf_55 ?_
        refine j_if_eqN hE (tgt := 65) dX6_ownerOf_58 (by decide) (by omega) (fun h58 => ?_) (fun h58 => ?_)
        · refine j_aload_n hE (i := 0) dX6_ownerOf_65 rfl rfl ?_
          refine j_iload_n hE (i := 1) dX6_ownerOf_66 rfl rfl ?_
          refine j_iload_n hE (i := 2) dX6_ownerOf_67 rfl rfl ?_
          refine j_cVi hE mlX6_82 gB_0 (fun l hl => c_X6_ownerAt hl K F h0 _ _ _ _ _ _ _ _ _ (by omega)) rfl rfl (Nat.le_of_ble_eq_true rfl) (by decide) (by decide) (by omega) (by omega) dX6_ownerOf_68 (fun r G9 hs9 hp => ?_) (fun _ _ h => h.elim)
          obtain ⟨rfl, rfl⟩ := hp
          refine j_iret hE hQ rfl (by omega) (by omega) dX6_ownerOf_71 ?_
          exact ⟨_, rfl, rfl, rfl⟩
        · exfalso; omega
      · exfalso; omega
    · exfalso; omega

set_option maxRecDepth 100000 in
set_option maxHeartbeats 4000000 in
theorem c_X6_ownerOf_f2 {l : Launch} (hl : l.stackTraces = false) (K : jK) (F : GH) (h0 hs : Nat) (now past : Nat → Int32) (kept thrown : Int32) (drawn : Nat → Int32) (hash : Int64) (W M : Nat) (hW : now 0 = nI W) (hM : now 1 = nI M) (hW9 : W ≤ 16) (hM9 : M ≤ 8) (f w : Nat) (hf : f < M) (hw : w < W) (hp : now 3 = nI 0) : Ct l K yX6_ownerOf cX6_ownerOf 3 (some .int) 1 22 0 0 [.ref h0, .int (nI f), .int (nI w)] (gB F h0 (mC K h0 now past kept thrown drawn hash)) hs (pI (fun r G' _ => r = nI 0 ∧ G' = (gB F h0 (mC K h0 now past kept (nI 2) drawn hash)))) jno := by
  refine Ct.ofA hl (by decide) (Nat.le_of_ble_eq_true rfl) (L0 := [some (.ref h0), some (.int (nI f)), some (.int (nI w))]) (jL_of 0 rfl) ?_
  intro A E hE hQ hX hNm
  refine j_aload_n hE (i := 0) dX6_ownerOf_0 rfl rfl ?_
  refine j_iload_n hE (i := 1) dX6_ownerOf_1 rfl rfl ?_
  refine j_iconst hE (v := nI 0) dX6_ownerOf_2 (by decide) ?_
  refine j_aload_n hE (i := 0) dX6_ownerOf_3 rfl rfl ?_
  refine j_get hE flX6_7 gB_0 rfl dX6_ownerOf_4 ?_
  refine j_iconst hE (v := nI 1) dX6_ownerOf_7 (by decide) ?_
  refine j_iald hE gB_1 rfl (by omega) (by decide) dX6_ownerOf_8 ?_
  rw [hM]
  refine j_iconst hE (v := nI 1) dX6_ownerOf_9 (by decide) ?_
  refine j_isub hE dX6_ownerOf_10 ?_
  refine j_cSi hE mlX6_26 (fun l hl => c_X6_in_t hl K _ _ _ _ _ (ix_t (by assumption) (by omega))) rfl rfl (Nat.le_of_ble_eq_true rfl) (by decide) (by decide) (by omega) (by omega) dX6_ownerOf_11 (fun r G9 hs9 hp => ?_) (fun _ _ h => h.elim)
  obtain ⟨rfl, rfl⟩ := hp
  refine j_if_eqN hE (tgt := 33) dX6_ownerOf_14 (by decide) (by omega) (fun h14 => ?_) (fun h14 => ?_)
  · exfalso; omega
  · refine j_iload_n hE (i := 2) dX6_ownerOf_17 rfl rfl ?_
    refine j_iconst hE (v := nI 0) dX6_ownerOf_18 (by decide) ?_
    refine j_aload_n hE (i := 0) dX6_ownerOf_19 rfl rfl ?_
    refine j_get hE flX6_7 gB_0 rfl dX6_ownerOf_20 ?_
    refine j_iconst hE (v := nI 0) dX6_ownerOf_23 (by decide) ?_
    refine j_iald hE gB_1 rfl (by omega) (by decide) dX6_ownerOf_24 ?_
    rw [hW]
    refine j_iconst hE (v := nI 1) dX6_ownerOf_25 (by decide) ?_
    refine j_isub hE dX6_ownerOf_26 ?_
    refine j_cSi hE mlX6_26 (fun l hl => c_X6_in_t hl K _ _ _ _ _ (ix_t (by assumption) (by omega))) rfl rfl (Nat.le_of_ble_eq_true rfl) (by decide) (by decide) (by omega) (by omega) dX6_ownerOf_27 (fun r G9 hs9 hp => ?_) (fun _ _ h => h.elim)
    obtain ⟨rfl, rfl⟩ := hp
    refine j_if_neN hE (tgt := 37) dX6_ownerOf_30 (by decide) (by omega) (fun h30 => ?_) (fun h30 => ?_)
    · refine j_aload_n hE (i := 0) dX6_ownerOf_37 rfl rfl ?_
      refine j_get hE flX6_7 gB_0 rfl dX6_ownerOf_38 ?_
      refine j_iconst hE (v := nI 3) dX6_ownerOf_41 (by decide) ?_
      refine j_iald hE gB_1 rfl (by omega) (by decide) dX6_ownerOf_42 ?_
      rw [hp]
      refine j_if_neN hE (tgt := 50) dX6_ownerOf_43 (by decide) (by omega) (fun h43 => ?_) (fun h43 => ?_)
      · exfalso; omega
      · refine j_iconst hE (v := nI 2) dX6_ownerOf_46 (by decide) ?_
        refine j_goto hE (tgt := 51) dX6_ownerOf_47 (by decide) ?_
        refine b_put3 hE flX6_19 rfl rfl dX6_ownerOf_51 ?_
        refine j_aload_n hE (i := 0) dX6_ownerOf_54 rfl rfl ?_
        refine j_get hE flX6_19 gB_0 rfl dX6_ownerOf_55 ?_
        refine j_if_eqN hE (tgt := 65) dX6_ownerOf_58 (by decide) (by omega) (fun h58 => ?_) (fun h58 => ?_)
        · exfalso; omega
        · refine j_iconst hE (v := nI 0) dX6_ownerOf_61 (by decide) ?_
          refine j_goto hE (tgt := 71) dX6_ownerOf_62 (by decide) ?_
          refine j_iret hE hQ rfl (by omega) (by omega) dX6_ownerOf_71 ?_
          exact ⟨_, rfl, rfl, rfl⟩
    · exfalso; omega

set_option maxRecDepth 100000 in
set_option maxHeartbeats 4000000 in
theorem c_X6_ownerOf_f1a {l : Launch} (hl : l.stackTraces = false) (K : jK) (F : GH) (h0 hs : Nat) (now past : Nat → Int32) (kept thrown : Int32) (drawn : Nat → Int32) (hash : Int64) (W M : Nat) (hW : now 0 = nI W) (hM : now 1 = nI M) (hW9 : W ≤ 16) (hM9 : M ≤ 8) (p : Int32) (w : Int32) (hp : ∀ j, j < M → p ≠ nI j) : Ct l K yX6_ownerOf cX6_ownerOf 3 (some .int) 1 22 0 0 [.ref h0, .int p, .int w] (gB F h0 (mC K h0 now past kept thrown drawn hash)) hs (pI (fun r G' _ => r = nI 0 ∧ G' = (gB F h0 (mC K h0 now past kept (nI 1) drawn hash)))) jno := by
  refine Ct.ofA hl (by decide) (Nat.le_of_ble_eq_true rfl) (L0 := [some (.ref h0), some (.int p), some (.int w)]) (jL_of 0 rfl) ?_
  intro A E hE hQ hX hNm
  refine j_aload_n hE (i := 0) dX6_ownerOf_0 rfl rfl ?_
  refine j_iload_n hE (i := 1) dX6_ownerOf_1 rfl rfl ?_
  refine j_iconst hE (v := nI 0) dX6_ownerOf_2 (by decide) ?_
  refine j_aload_n hE (i := 0) dX6_ownerOf_3 rfl rfl ?_
  refine j_get hE flX6_7 gB_0 rfl dX6_ownerOf_4 ?_
  refine j_iconst hE (v := nI 1) dX6_ownerOf_7 (by decide) ?_
  refine j_iald hE gB_1 rfl (by omega) (by decide) dX6_ownerOf_8 ?_
  rw [hM]
  refine j_iconst hE (v := nI 1) dX6_ownerOf_9 (by decide) ?_
  refine j_isub hE dX6_ownerOf_10 ?_
  refine j_cSi hE mlX6_26 (fun l hl => c_X6_in_f hl K _ _ _ _ _ (ix_f hp (by omega))) rfl rfl (Nat.le_of_ble_eq_true rfl) (by decide) (by decide) (by omega) (by omega) dX6_ownerOf_11 (fun r G9 hs9 hp => ?_) (fun _ _ h => h.elim)
  obtain ⟨rfl, rfl⟩ := hp
  refine j_if_eqN hE (tgt := 33) dX6_ownerOf_14 (by decide) (by omega) (fun h14 => ?_) (fun h14 => ?_)
  · refine j_iconst hE (v := nI 1) dX6_ownerOf_33 (by decide) ?_
    refine j_goto hE (tgt := 51) dX6_ownerOf_34 (by decide) ?_
    refine b_put3 hE flX6_19 rfl rfl dX6_ownerOf_51 ?_
    refine j_aload_n hE (i := 0) dX6_ownerOf_54 rfl rfl ?_
    refine j_get hE flX6_19 gB_0 rfl dX6_ownerOf_55 ?_
    refine j_if_eqN hE (tgt := 65) dX6_ownerOf_58 (by decide) (by omega) (fun h58 => ?_) (fun h58 => ?_)
    · exfalso; omega
    · refine j_iconst hE (v := nI 0) dX6_ownerOf_61 (by decide) ?_
      refine j_goto hE (tgt := 71) dX6_ownerOf_62 (by decide) ?_
      refine j_iret hE hQ rfl (by omega) (by omega) dX6_ownerOf_71 ?_
      exact ⟨_, rfl, rfl, rfl⟩
  · exfalso; omega

set_option maxRecDepth 100000 in
set_option maxHeartbeats 4000000 in
theorem c_X6_ownerOf_f1b {l : Launch} (hl : l.stackTraces = false) (K : jK) (F : GH) (h0 hs : Nat) (now past : Nat → Int32) (kept thrown : Int32) (drawn : Nat → Int32) (hash : Int64) (W M : Nat) (hW : now 0 = nI W) (hM : now 1 = nI M) (hW9 : W ≤ 16) (hM9 : M ≤ 8) (f : Nat) (hf : f < M) (p : Int32) (hp : ∀ j, j < W → p ≠ nI j) : Ct l K yX6_ownerOf cX6_ownerOf 3 (some .int) 1 22 0 0 [.ref h0, .int (nI f), .int p] (gB F h0 (mC K h0 now past kept thrown drawn hash)) hs (pI (fun r G' _ => r = nI 0 ∧ G' = (gB F h0 (mC K h0 now past kept (nI 1) drawn hash)))) jno := by
  refine Ct.ofA hl (by decide) (Nat.le_of_ble_eq_true rfl) (L0 := [some (.ref h0), some (.int (nI f)), some (.int p)]) (jL_of 0 rfl) ?_
  intro A E hE hQ hX hNm
  refine j_aload_n hE (i := 0) dX6_ownerOf_0 rfl rfl ?_
  refine j_iload_n hE (i := 1) dX6_ownerOf_1 rfl rfl ?_
  refine j_iconst hE (v := nI 0) dX6_ownerOf_2 (by decide) ?_
  refine j_aload_n hE (i := 0) dX6_ownerOf_3 rfl rfl ?_
  refine j_get hE flX6_7 gB_0 rfl dX6_ownerOf_4 ?_
  refine j_iconst hE (v := nI 1) dX6_ownerOf_7 (by decide) ?_
  refine j_iald hE gB_1 rfl (by omega) (by decide) dX6_ownerOf_8 ?_
  rw [hM]
  refine j_iconst hE (v := nI 1) dX6_ownerOf_9 (by decide) ?_
  refine j_isub hE dX6_ownerOf_10 ?_
  refine j_cSi hE mlX6_26 (fun l hl => c_X6_in_t hl K _ _ _ _ _ (ix_t (by assumption) (by omega))) rfl rfl (Nat.le_of_ble_eq_true rfl) (by decide) (by decide) (by omega) (by omega) dX6_ownerOf_11 (fun r G9 hs9 hp => ?_) (fun _ _ h => h.elim)
  obtain ⟨rfl, rfl⟩ := hp
  refine j_if_eqN hE (tgt := 33) dX6_ownerOf_14 (by decide) (by omega) (fun h14 => ?_) (fun h14 => ?_)
  · exfalso; omega
  · refine j_iload_n hE (i := 2) dX6_ownerOf_17 rfl rfl ?_
    refine j_iconst hE (v := nI 0) dX6_ownerOf_18 (by decide) ?_
    refine j_aload_n hE (i := 0) dX6_ownerOf_19 rfl rfl ?_
    refine j_get hE flX6_7 gB_0 rfl dX6_ownerOf_20 ?_
    refine j_iconst hE (v := nI 0) dX6_ownerOf_23 (by decide) ?_
    refine j_iald hE gB_1 rfl (by omega) (by decide) dX6_ownerOf_24 ?_
    rw [hW]
    refine j_iconst hE (v := nI 1) dX6_ownerOf_25 (by decide) ?_
    refine j_isub hE dX6_ownerOf_26 ?_
    refine j_cSi hE mlX6_26 (fun l hl => c_X6_in_f hl K _ _ _ _ _ (ix_f hp (by omega))) rfl rfl (Nat.le_of_ble_eq_true rfl) (by decide) (by decide) (by omega) (by omega) dX6_ownerOf_27 (fun r G9 hs9 hp => ?_) (fun _ _ h => h.elim)
    obtain ⟨rfl, rfl⟩ := hp
    refine j_if_neN hE (tgt := 37) dX6_ownerOf_30 (by decide) (by omega) (fun h30 => ?_) (fun h30 => ?_)
    · exfalso; omega
    · refine j_iconst hE (v := nI 1) dX6_ownerOf_33 (by decide) ?_
      refine j_goto hE (tgt := 51) dX6_ownerOf_34 (by decide) ?_
      refine b_put3 hE flX6_19 rfl rfl dX6_ownerOf_51 ?_
      refine j_aload_n hE (i := 0) dX6_ownerOf_54 rfl rfl ?_
      refine j_get hE flX6_19 gB_0 rfl dX6_ownerOf_55 ?_
      refine j_if_eqN hE (tgt := 65) dX6_ownerOf_58 (by decide) (by omega) (fun h58 => ?_) (fun h58 => ?_)
      · exfalso; omega
      · refine j_iconst hE (v := nI 0) dX6_ownerOf_61 (by decide) ?_
        refine j_goto hE (tgt := 71) dX6_ownerOf_62 (by decide) ?_
        refine j_iret hE hQ rfl (by omega) (by omega) dX6_ownerOf_71 ?_
        exact ⟨_, rfl, rfl, rfl⟩
end
