section
-- ===== PART A: goes FIRST, ahead of the names: the tables' words, and 'selects' of the private methods out of them =====
/-- a private method of a class that the tables say can be made, by its rows of tables_1 -/
def lw_okq (q : MethodName × Nat) : Prop := (q.1.cls ≠ "java/lang/invoke/MethodHandle" ∧ q.1.cls ≠ "java/lang/invoke/VarHandle") ∧ Cond.instantiable q.1.cls q.2 ∈ tables_1 ∧ Cond.privateMethod q.1 ∈ tables_1 ∧ Cond.instanceMethod q.1 ∈ tables_1
theorem lw_p0 : lw_okq (⟨"SlotBundler$Blocks", "markBegins", "(LSlotBundler$Program;)V"⟩, 5) := ⟨⟨by decide +kernel, by decide +kernel⟩, List.mem_of_getElem? (i := 69) (by decide +kernel), List.mem_of_getElem? (i := 344) (by decide +kernel), List.mem_of_getElem? (i := 345) (by decide +kernel)⟩
theorem lw_p1 : lw_okq (⟨"SlotBundler$Blocks", "numberBlocks", "(I)V"⟩, 5) := ⟨⟨by decide +kernel, by decide +kernel⟩, List.mem_of_getElem? (i := 69) (by decide +kernel), List.mem_of_getElem? (i := 352) (by decide +kernel), List.mem_of_getElem? (i := 353) (by decide +kernel)⟩
theorem lw_p2 : lw_okq (⟨"SlotBundler$Filler", "isReady", "()Z"⟩, 8) := ⟨⟨by decide +kernel, by decide +kernel⟩, List.mem_of_getElem? (i := 121) (by decide +kernel), List.mem_of_getElem? (i := 472) (by decide +kernel), List.mem_of_getElem? (i := 473) (by decide +kernel)⟩
theorem lw_p3 : lw_okq (⟨"SlotBundler$Filler", "isPreferred", "(III)Z"⟩, 8) := ⟨⟨by decide +kernel, by decide +kernel⟩, List.mem_of_getElem? (i := 121) (by decide +kernel), List.mem_of_getElem? (i := 481) (by decide +kernel), List.mem_of_getElem? (i := 482) (by decide +kernel)⟩
theorem lw_p4 : lw_okq (⟨"SlotBundler$Packing", "takeBundle", "(IILSlotBundler$Filler;)V"⟩, 13) := ⟨⟨by decide +kernel, by decide +kernel⟩, List.mem_of_getElem? (i := 162) (by decide +kernel), List.mem_of_getElem? (i := 496) (by decide +kernel), List.mem_of_getElem? (i := 497) (by decide +kernel)⟩
theorem lw_p5 : lw_okq (⟨"SlotBundler$Packing", "filledSlots", "(I)I"⟩, 13) := ⟨⟨by decide +kernel, by decide +kernel⟩, List.mem_of_getElem? (i := 162) (by decide +kernel), List.mem_of_getElem? (i := 510) (by decide +kernel), List.mem_of_getElem? (i := 511) (by decide +kernel)⟩
theorem lw_p6 : lw_okq (⟨"SlotBundler$Packing", "writeBundle", "(I)V"⟩, 13) := ⟨⟨by decide +kernel, by decide +kernel⟩, List.mem_of_getElem? (i := 162) (by decide +kernel), List.mem_of_getElem? (i := 514) (by decide +kernel), List.mem_of_getElem? (i := 515) (by decide +kernel)⟩
theorem lw_p7 : lw_okq (⟨"SlotBundler$Packing", "writeNumber", "(I)V"⟩, 13) := ⟨⟨by decide +kernel, by decide +kernel⟩, List.mem_of_getElem? (i := 162) (by decide +kernel), List.mem_of_getElem? (i := 518) (by decide +kernel), List.mem_of_getElem? (i := 519) (by decide +kernel)⟩
theorem lw_p8 : lw_okq (⟨"SlotBundler", "executeProgram", "(LSlotBundler$Machine;I)I"⟩, 10) := ⟨⟨by decide +kernel, by decide +kernel⟩, List.mem_of_getElem? (i := 15) (by decide +kernel), List.mem_of_getElem? (i := 587) (by decide +kernel), List.mem_of_getElem? (i := 588) (by decide +kernel)⟩
theorem lw_p9 : lw_okq (⟨"SlotBundler", "executePacking", "(LSlotBundler$Machine;I)I"⟩, 10) := ⟨⟨by decide +kernel, by decide +kernel⟩, List.mem_of_getElem? (i := 15) (by decide +kernel), List.mem_of_getElem? (i := 618) (by decide +kernel), List.mem_of_getElem? (i := 619) (by decide +kernel)⟩
theorem lw_p10 : lw_okq (⟨"SlotBundler$BlockRunner", "deliver", "(LSlotBundler$Machine;III)V"⟩, 5) := ⟨⟨by decide +kernel, by decide +kernel⟩, List.mem_of_getElem? (i := 238) (by decide +kernel), List.mem_of_getElem? (i := 626) (by decide +kernel), List.mem_of_getElem? (i := 627) (by decide +kernel)⟩
theorem lw_p11 : lw_okq (⟨"SlotBundler$BlockRunner", "blockAt", "(I)I"⟩, 5) := ⟨⟨by decide +kernel, by decide +kernel⟩, List.mem_of_getElem? (i := 238) (by decide +kernel), List.mem_of_getElem? (i := 635) (by decide +kernel), List.mem_of_getElem? (i := 636) (by decide +kernel)⟩
theorem lw_p12 : lw_okq (⟨"SlotBundlerModel", "remember", "()V"⟩, 34) := ⟨⟨by decide +kernel, by decide +kernel⟩, List.mem_of_getElem? (i := 653) (by decide +kernel), List.mem_of_getElem? (i := 778) (by decide +kernel), List.mem_of_getElem? (i := 779) (by decide +kernel)⟩
theorem lw_p13 : lw_okq (⟨"SlotBundlerModel", "put", "(IIIII)V"⟩, 34) := ⟨⟨by decide +kernel, by decide +kernel⟩, List.mem_of_getElem? (i := 653) (by decide +kernel), List.mem_of_getElem? (i := 785) (by decide +kernel), List.mem_of_getElem? (i := 786) (by decide +kernel)⟩
theorem lw_p14 : lw_okq (⟨"SlotBundlerModel", "isThere", "(I)Z"⟩, 34) := ⟨⟨by decide +kernel, by decide +kernel⟩, List.mem_of_getElem? (i := 653) (by decide +kernel), List.mem_of_getElem? (i := 793) (by decide +kernel), List.mem_of_getElem? (i := 794) (by decide +kernel)⟩
theorem lw_p15 : lw_okq (⟨"SlotBundlerModel", "isComplete", "()Z"⟩, 34) := ⟨⟨by decide +kernel, by decide +kernel⟩, List.mem_of_getElem? (i := 653) (by decide +kernel), List.mem_of_getElem? (i := 817) (by decide +kernel), List.mem_of_getElem? (i := 818) (by decide +kernel)⟩
def lw_privs_1 : List (MethodName × Nat) := [(⟨"SlotBundler$Blocks", "markBegins", "(LSlotBundler$Program;)V"⟩, 5), (⟨"SlotBundler$Blocks", "numberBlocks", "(I)V"⟩, 5), (⟨"SlotBundler$Filler", "isReady", "()Z"⟩, 8), (⟨"SlotBundler$Filler", "isPreferred", "(III)Z"⟩, 8), (⟨"SlotBundler$Packing", "takeBundle", "(IILSlotBundler$Filler;)V"⟩, 13), (⟨"SlotBundler$Packing", "filledSlots", "(I)I"⟩, 13), (⟨"SlotBundler$Packing", "writeBundle", "(I)V"⟩, 13), (⟨"SlotBundler$Packing", "writeNumber", "(I)V"⟩, 13), (⟨"SlotBundler", "executeProgram", "(LSlotBundler$Machine;I)I"⟩, 10), (⟨"SlotBundler", "executePacking", "(LSlotBundler$Machine;I)I"⟩, 10), (⟨"SlotBundler$BlockRunner", "deliver", "(LSlotBundler$Machine;III)V"⟩, 5), (⟨"SlotBundler$BlockRunner", "blockAt", "(I)I"⟩, 5), (⟨"SlotBundlerModel", "remember", "()V"⟩, 34), (⟨"SlotBundlerModel", "put", "(IIIII)V"⟩, 34), (⟨"SlotBundlerModel", "isThere", "(I)Z"⟩, 34), (⟨"SlotBundlerModel", "isComplete", "()Z"⟩, 34)]
theorem lw_r1 : ∀ q ∈ lw_privs_1, lw_okq q := List.forall_mem_cons.mpr ⟨lw_p0, List.forall_mem_cons.mpr ⟨lw_p1, List.forall_mem_cons.mpr ⟨lw_p2, List.forall_mem_cons.mpr ⟨lw_p3, List.forall_mem_cons.mpr ⟨lw_p4, List.forall_mem_cons.mpr ⟨lw_p5, List.forall_mem_cons.mpr ⟨lw_p6, List.forall_mem_cons.mpr ⟨lw_p7, List.forall_mem_cons.mpr ⟨lw_p8, List.forall_mem_cons.mpr ⟨lw_p9, List.forall_mem_cons.mpr ⟨lw_p10, List.forall_mem_cons.mpr ⟨lw_p11, List.forall_mem_cons.mpr ⟨lw_p12, List.forall_mem_cons.mpr ⟨lw_p13, List.forall_mem_cons.mpr ⟨lw_p14, List.forall_mem_cons.mpr ⟨lw_p15, fun _ h => absurd h List.not_mem_nil⟩⟩⟩⟩⟩⟩⟩⟩⟩⟩⟩⟩⟩⟩⟩⟩
theorem lw_p16 : lw_okq (⟨"SlotBundlerModel", "hasTarget", "(I)Z"⟩, 34) := ⟨⟨by decide +kernel, by decide +kernel⟩, List.mem_of_getElem? (i := 653) (by decide +kernel), List.mem_of_getElem? (i := 821) (by decide +kernel), List.mem_of_getElem? (i := 822) (by decide +kernel)⟩
theorem lw_p17 : lw_okq (⟨"SlotBundlerModel", "operation", "(I)I"⟩, 34) := ⟨⟨by decide +kernel, by decide +kernel⟩, List.mem_of_getElem? (i := 653) (by decide +kernel), List.mem_of_getElem? (i := 825) (by decide +kernel), List.mem_of_getElem? (i := 826) (by decide +kernel)⟩
theorem lw_p18 : lw_okq (⟨"SlotBundlerModel", "findBlocks", "()V"⟩, 34) := ⟨⟨by decide +kernel, by decide +kernel⟩, List.mem_of_getElem? (i := 653) (by decide +kernel), List.mem_of_getElem? (i := 829) (by decide +kernel), List.mem_of_getElem? (i := 830) (by decide +kernel)⟩
theorem lw_p19 : lw_okq (⟨"SlotBundlerModel", "beginsBlock", "(I)Z"⟩, 34) := ⟨⟨by decide +kernel, by decide +kernel⟩, List.mem_of_getElem? (i := 653) (by decide +kernel), List.mem_of_getElem? (i := 833) (by decide +kernel), List.mem_of_getElem? (i := 834) (by decide +kernel)⟩
theorem lw_p20 : lw_okq (⟨"SlotBundlerModel", "isExit", "(I)Z"⟩, 34) := ⟨⟨by decide +kernel, by decide +kernel⟩, List.mem_of_getElem? (i := 653) (by decide +kernel), List.mem_of_getElem? (i := 837) (by decide +kernel), List.mem_of_getElem? (i := 838) (by decide +kernel)⟩
theorem lw_p21 : lw_okq (⟨"SlotBundlerModel", "distanceOf", "(II)I"⟩, 34) := ⟨⟨by decide +kernel, by decide +kernel⟩, List.mem_of_getElem? (i := 653) (by decide +kernel), List.mem_of_getElem? (i := 853) (by decide +kernel), List.mem_of_getElem? (i := 854) (by decide +kernel)⟩
theorem lw_p22 : lw_okq (⟨"SlotBundlerModel", "written", "(I)I"⟩, 34) := ⟨⟨by decide +kernel, by decide +kernel⟩, List.mem_of_getElem? (i := 653) (by decide +kernel), List.mem_of_getElem? (i := 857) (by decide +kernel), List.mem_of_getElem? (i := 858) (by decide +kernel)⟩
theorem lw_p23 : lw_okq (⟨"SlotBundlerModel", "reads", "(II)Z"⟩, 34) := ⟨⟨by decide +kernel, by decide +kernel⟩, List.mem_of_getElem? (i := 653) (by decide +kernel), List.mem_of_getElem? (i := 861) (by decide +kernel), List.mem_of_getElem? (i := 862) (by decide +kernel)⟩
theorem lw_p24 : lw_okq (⟨"SlotBundlerModel", "latency", "(I)I"⟩, 34) := ⟨⟨by decide +kernel, by decide +kernel⟩, List.mem_of_getElem? (i := 653) (by decide +kernel), List.mem_of_getElem? (i := 865) (by decide +kernel), List.mem_of_getElem? (i := 866) (by decide +kernel)⟩
theorem lw_p25 : lw_okq (⟨"SlotBundlerModel", "packBlock", "(I)Z"⟩, 34) := ⟨⟨by decide +kernel, by decide +kernel⟩, List.mem_of_getElem? (i := 653) (by decide +kernel), List.mem_of_getElem? (i := 892) (by decide +kernel), List.mem_of_getElem? (i := 893) (by decide +kernel)⟩
theorem lw_p26 : lw_okq (⟨"SlotBundlerModel", "chosen", "(III)I"⟩, 34) := ⟨⟨by decide +kernel, by decide +kernel⟩, List.mem_of_getElem? (i := 653) (by decide +kernel), List.mem_of_getElem? (i := 896) (by decide +kernel), List.mem_of_getElem? (i := 897) (by decide +kernel)⟩
theorem lw_p27 : lw_okq (⟨"SlotBundlerModel", "fill", "(IIII)V"⟩, 34) := ⟨⟨by decide +kernel, by decide +kernel⟩, List.mem_of_getElem? (i := 653) (by decide +kernel), List.mem_of_getElem? (i := 900) (by decide +kernel), List.mem_of_getElem? (i := 901) (by decide +kernel)⟩
theorem lw_p28 : lw_okq (⟨"SlotBundlerModel", "fits", "(II)Z"⟩, 34) := ⟨⟨by decide +kernel, by decide +kernel⟩, List.mem_of_getElem? (i := 653) (by decide +kernel), List.mem_of_getElem? (i := 904) (by decide +kernel), List.mem_of_getElem? (i := 905) (by decide +kernel)⟩
theorem lw_p29 : lw_okq (⟨"SlotBundlerModel", "isReady", "(II)Z"⟩, 34) := ⟨⟨by decide +kernel, by decide +kernel⟩, List.mem_of_getElem? (i := 653) (by decide +kernel), List.mem_of_getElem? (i := 908) (by decide +kernel), List.mem_of_getElem? (i := 909) (by decide +kernel)⟩
theorem lw_p30 : lw_okq (⟨"SlotBundlerModel", "cyclesOf", "(I)I"⟩, 34) := ⟨⟨by decide +kernel, by decide +kernel⟩, List.mem_of_getElem? (i := 653) (by decide +kernel), List.mem_of_getElem? (i := 935) (by decide +kernel), List.mem_of_getElem? (i := 936) (by decide +kernel)⟩
theorem lw_p31 : lw_okq (⟨"SlotBundlerModel", "search", "(IIIII)V"⟩, 34) := ⟨⟨by decide +kernel, by decide +kernel⟩, List.mem_of_getElem? (i := 653) (by decide +kernel), List.mem_of_getElem? (i := 947) (by decide +kernel), List.mem_of_getElem? (i := 948) (by decide +kernel)⟩
def lw_privs_2 : List (MethodName × Nat) := [(⟨"SlotBundlerModel", "hasTarget", "(I)Z"⟩, 34), (⟨"SlotBundlerModel", "operation", "(I)I"⟩, 34), (⟨"SlotBundlerModel", "findBlocks", "()V"⟩, 34), (⟨"SlotBundlerModel", "beginsBlock", "(I)Z"⟩, 34), (⟨"SlotBundlerModel", "isExit", "(I)Z"⟩, 34), (⟨"SlotBundlerModel", "distanceOf", "(II)I"⟩, 34), (⟨"SlotBundlerModel", "written", "(I)I"⟩, 34), (⟨"SlotBundlerModel", "reads", "(II)Z"⟩, 34), (⟨"SlotBundlerModel", "latency", "(I)I"⟩, 34), (⟨"SlotBundlerModel", "packBlock", "(I)Z"⟩, 34), (⟨"SlotBundlerModel", "chosen", "(III)I"⟩, 34), (⟨"SlotBundlerModel", "fill", "(IIII)V"⟩, 34), (⟨"SlotBundlerModel", "fits", "(II)Z"⟩, 34), (⟨"SlotBundlerModel", "isReady", "(II)Z"⟩, 34), (⟨"SlotBundlerModel", "cyclesOf", "(I)I"⟩, 34), (⟨"SlotBundlerModel", "search", "(IIIII)V"⟩, 34)]
theorem lw_r2 : ∀ q ∈ lw_privs_2, lw_okq q := List.forall_mem_cons.mpr ⟨lw_p16, List.forall_mem_cons.mpr ⟨lw_p17, List.forall_mem_cons.mpr ⟨lw_p18, List.forall_mem_cons.mpr ⟨lw_p19, List.forall_mem_cons.mpr ⟨lw_p20, List.forall_mem_cons.mpr ⟨lw_p21, List.forall_mem_cons.mpr ⟨lw_p22, List.forall_mem_cons.mpr ⟨lw_p23, List.forall_mem_cons.mpr ⟨lw_p24, List.forall_mem_cons.mpr ⟨lw_p25, List.forall_mem_cons.mpr ⟨lw_p26, List.forall_mem_cons.mpr ⟨lw_p27, List.forall_mem_cons.mpr ⟨lw_p28, List.forall_mem_cons.mpr ⟨lw_p29, List.forall_mem_cons.mpr ⟨lw_p30, List.forall_mem_cons.mpr ⟨lw_p31, fun _ h => absurd h List.not_mem_nil⟩⟩⟩⟩⟩⟩⟩⟩⟩⟩⟩⟩⟩⟩⟩⟩
theorem lw_p32 : lw_okq (⟨"SlotBundlerModel", "findCode", "()V"⟩, 34) := ⟨⟨by decide +kernel, by decide +kernel⟩, List.mem_of_getElem? (i := 653) (by decide +kernel), List.mem_of_getElem? (i := 955) (by decide +kernel), List.mem_of_getElem? (i := 956) (by decide +kernel)⟩
theorem lw_p33 : lw_okq (⟨"SlotBundlerModel", "isEmpty", "(I)Z"⟩, 34) := ⟨⟨by decide +kernel, by decide +kernel⟩, List.mem_of_getElem? (i := 653) (by decide +kernel), List.mem_of_getElem? (i := 959) (by decide +kernel), List.mem_of_getElem? (i := 960) (by decide +kernel)⟩
theorem lw_p34 : lw_okq (⟨"SlotBundlerModel", "addCode", "(I)V"⟩, 34) := ⟨⟨by decide +kernel, by decide +kernel⟩, List.mem_of_getElem? (i := 653) (by decide +kernel), List.mem_of_getElem? (i := 963) (by decide +kernel), List.mem_of_getElem? (i := 964) (by decide +kernel)⟩
theorem lw_p35 : lw_okq (⟨"SlotBundlerModel", "execute", "(I)Z"⟩, 34) := ⟨⟨by decide +kernel, by decide +kernel⟩, List.mem_of_getElem? (i := 653) (by decide +kernel), List.mem_of_getElem? (i := 996) (by decide +kernel), List.mem_of_getElem? (i := 997) (by decide +kernel)⟩
theorem lw_p36 : lw_okq (⟨"SlotBundlerModel", "placeWritten", "(I)I"⟩, 34) := ⟨⟨by decide +kernel, by decide +kernel⟩, List.mem_of_getElem? (i := 653) (by decide +kernel), List.mem_of_getElem? (i := 1000) (by decide +kernel), List.mem_of_getElem? (i := 1001) (by decide +kernel)⟩
theorem lw_p37 : lw_okq (⟨"SlotBundlerModel", "valueWritten", "(I)I"⟩, 34) := ⟨⟨by decide +kernel, by decide +kernel⟩, List.mem_of_getElem? (i := 653) (by decide +kernel), List.mem_of_getElem? (i := 1004) (by decide +kernel), List.mem_of_getElem? (i := 1005) (by decide +kernel)⟩
theorem lw_p38 : lw_okq (⟨"SlotBundlerModel", "behind", "(II)I"⟩, 34) := ⟨⟨by decide +kernel, by decide +kernel⟩, List.mem_of_getElem? (i := 653) (by decide +kernel), List.mem_of_getElem? (i := 1008) (by decide +kernel), List.mem_of_getElem? (i := 1009) (by decide +kernel)⟩
theorem lw_p39 : lw_okq (⟨"SlotBundlerModel", "executeBundles", "(I)Z"⟩, 34) := ⟨⟨by decide +kernel, by decide +kernel⟩, List.mem_of_getElem? (i := 653) (by decide +kernel), List.mem_of_getElem? (i := 1016) (by decide +kernel), List.mem_of_getElem? (i := 1017) (by decide +kernel)⟩
theorem lw_p40 : lw_okq (⟨"SlotBundlerModel", "executeBlock", "(I)I"⟩, 34) := ⟨⟨by decide +kernel, by decide +kernel⟩, List.mem_of_getElem? (i := 653) (by decide +kernel), List.mem_of_getElem? (i := 1020) (by decide +kernel), List.mem_of_getElem? (i := 1021) (by decide +kernel)⟩
def lw_privs_3 : List (MethodName × Nat) := [(⟨"SlotBundlerModel", "findCode", "()V"⟩, 34), (⟨"SlotBundlerModel", "isEmpty", "(I)Z"⟩, 34), (⟨"SlotBundlerModel", "addCode", "(I)V"⟩, 34), (⟨"SlotBundlerModel", "execute", "(I)Z"⟩, 34), (⟨"SlotBundlerModel", "placeWritten", "(I)I"⟩, 34), (⟨"SlotBundlerModel", "valueWritten", "(I)I"⟩, 34), (⟨"SlotBundlerModel", "behind", "(II)I"⟩, 34), (⟨"SlotBundlerModel", "executeBundles", "(I)Z"⟩, 34), (⟨"SlotBundlerModel", "executeBlock", "(I)I"⟩, 34)]
theorem lw_r3 : ∀ q ∈ lw_privs_3, lw_okq q := List.forall_mem_cons.mpr ⟨lw_p32, List.forall_mem_cons.mpr ⟨lw_p33, List.forall_mem_cons.mpr ⟨lw_p34, List.forall_mem_cons.mpr ⟨lw_p35, List.forall_mem_cons.mpr ⟨lw_p36, List.forall_mem_cons.mpr ⟨lw_p37, List.forall_mem_cons.mpr ⟨lw_p38, List.forall_mem_cons.mpr ⟨lw_p39, List.forall_mem_cons.mpr ⟨lw_p40, fun _ h => absurd h List.not_mem_nil⟩⟩⟩⟩⟩⟩⟩⟩⟩
def lw_privs : List (MethodName × Nat) := lw_privs_1 ++ (lw_privs_2 ++ (lw_privs_3))
def lw_tbl : List Cond := k2_sels lw_privs ++ tables_1
theorem lw_privs_ok : ∀ q ∈ lw_privs, lw_okq q := by
  show ∀ q ∈ lw_privs_1 ++ (lw_privs_2 ++ (lw_privs_3)), lw_okq q
  exact List.forall_mem_append.mpr ⟨lw_r1, List.forall_mem_append.mpr ⟨lw_r2, lw_r3⟩⟩
end
section
def RX0 : String := "SlotBundler$BlockRunner"
def TX0 : u_T := fun k => match k with
  | 0 => ("SlotBundler$BlockRunner", "program", "LSlotBundler$Program;", true)
  | 1 => ("SlotBundler$BlockRunner", "blocks", "LSlotBundler$Blocks;", true)
  | 2 => ("SlotBundler$BlockRunner", "packing", "LSlotBundler$Packing;", true)
  | 3 => ("SlotBundler$BlockRunner", "results", "[I", true)
  | _ => ("SlotBundler$BlockRunner", "cells", "[I", true)
def tyX0 : Nat → FieldType := fun k => match k with
  | 0 => .object "SlotBundler$Program"
  | 1 => .object "SlotBundler$Blocks"
  | 2 => .object "SlotBundler$Packing"
  | 3 => .array .int
  | _ => .array .int
abbrev wsX00 : List Cond := u_ws RX0 TX0 5
theorem nmX0 : ∀ a, a < 5 → ∀ b, b < 5 → a ≠ b → (TX0 a).2.1 ≠ (TX0 b).2.1 := by decide +kernel
theorem tyX0_ok : ∀ k, k < 5 → parseFieldDescriptor (TX0 k).2.2.1 = some (tyX0 k) := by decide +kernel
abbrev cX0_init : ByteArray := prog_2_method_1_code
def yX0_init : MethodName := ⟨RX0, "<init>", "(LSlotBundler$Program;LSlotBundler$Blocks;LSlotBundler$Packing;)V"⟩
abbrev cX0_execute : ByteArray := prog_2_method_2_code
def yX0_execute : MethodName := ⟨RX0, "execute", "(LSlotBundler$Machine;I)I"⟩
abbrev cX0_deliver : ByteArray := prog_2_method_3_code
def yX0_deliver : MethodName := ⟨RX0, "deliver", "(LSlotBundler$Machine;III)V"⟩
abbrev cX0_blockAt : ByteArray := prog_2_method_4_code
def yX0_blockAt : MethodName := ⟨RX0, "blockAt", "(I)I"⟩
def RX1 : String := "SlotBundler$Blocks"
def TX1 : u_T := fun k => match k with
  | 0 => ("SlotBundler$Blocks", "begins", "[I", true)
  | 1 => ("SlotBundler$Blocks", "ofInstruction", "[I", true)
  | 2 => ("SlotBundler$Blocks", "isBegin", "[Z", true)
  | 3 => ("SlotBundler$Blocks", "count", "I", false)
  | _ => ("SlotBundler$Blocks", "complete", "Z", false)
def tyX1 : Nat → FieldType := fun k => match k with
  | 0 => .array .int
  | 1 => .array .int
  | 2 => .array .boolean
  | 3 => .int
  | _ => .boolean
abbrev wsX10 : List Cond := u_ws RX1 TX1 5
theorem nmX1 : ∀ a, a < 5 → ∀ b, b < 5 → a ≠ b → (TX1 a).2.1 ≠ (TX1 b).2.1 := by decide +kernel
theorem tyX1_ok : ∀ k, k < 5 → parseFieldDescriptor (TX1 k).2.2.1 = some (tyX1 k) := by decide +kernel
abbrev cX1_init : ByteArray := prog_3_method_1_code
def yX1_init : MethodName := ⟨RX1, "<init>", "()V"⟩
abbrev cX1_has : ByteArray := prog_3_method_2_code
def yX1_has : MethodName := ⟨RX1, "has", "(I)Z"⟩
abbrev cX1_cut : ByteArray := prog_3_method_3_code
def yX1_cut : MethodName := ⟨RX1, "cut", "(LSlotBundler$Program;)V"⟩
abbrev cX1_hasAllTargets : ByteArray := prog_3_method_4_code
def yX1_hasAllTargets : MethodName := ⟨RX1, "hasAllTargets", "(LSlotBundler$Program;)Z"⟩
abbrev cX1_markBegins : ByteArray := prog_3_method_5_code
def yX1_markBegins : MethodName := ⟨RX1, "markBegins", "(LSlotBundler$Program;)V"⟩
abbrev cX1_numberBlocks : ByteArray := prog_3_method_6_code
def yX1_numberBlocks : MethodName := ⟨RX1, "numberBlocks", "(I)V"⟩
def RX2 : String := "SlotBundler$Filler"
def TX2 : u_T := fun k => match k with
  | 0 => ("SlotBundler$Filler", "program", "LSlotBundler$Program;", true)
  | 1 => ("SlotBundler$Filler", "templates", "LSlotBundler$Templates;", true)
  | 2 => ("SlotBundler$Filler", "groups", "[I", true)
  | 3 => ("SlotBundler$Filler", "slots", "[I", true)
  | 4 => ("SlotBundler$Filler", "begin", "I", false)
  | 5 => ("SlotBundler$Filler", "end", "I", false)
  | 6 => ("SlotBundler$Filler", "next", "I", false)
  | _ => ("SlotBundler$Filler", "group", "I", false)
def tyX2 : Nat → FieldType := fun k => match k with
  | 0 => .object "SlotBundler$Program"
  | 1 => .object "SlotBundler$Templates"
  | 2 => .array .int
  | 3 => .array .int
  | 4 => .int
  | 5 => .int
  | 6 => .int
  | _ => .int
abbrev wsX20 : List Cond := u_ws RX2 TX2 8
theorem nmX2 : ∀ a, a < 8 → ∀ b, b < 8 → a ≠ b → (TX2 a).2.1 ≠ (TX2 b).2.1 := by decide +kernel
theorem tyX2_ok : ∀ k, k < 8 → parseFieldDescriptor (TX2 k).2.2.1 = some (tyX2 k) := by decide +kernel
abbrev cX2_init : ByteArray := prog_4_method_1_code
def yX2_init : MethodName := ⟨RX2, "<init>", "(LSlotBundler$Program;LSlotBundler$Templates;)V"⟩
abbrev cX2_enter : ByteArray := prog_4_method_2_code
def yX2_enter : MethodName := ⟨RX2, "enter", "(II)V"⟩
abbrev cX2_fill : ByteArray := prog_4_method_3_code
def yX2_fill : MethodName := ⟨RX2, "fill", "(III)V"⟩
abbrev cX2_isReady : ByteArray := prog_4_method_4_code
def yX2_isReady : MethodName := ⟨RX2, "isReady", "()Z"⟩
abbrev cX2_chosenTemplate : ByteArray := prog_4_method_5_code
def yX2_chosenTemplate : MethodName := ⟨RX2, "chosenTemplate", "(II)I"⟩
abbrev cX2_isPreferred : ByteArray := prog_4_method_6_code
def yX2_isPreferred : MethodName := ⟨RX2, "isPreferred", "(III)Z"⟩
def RX3 : String := "SlotBundler$History"
def TX3 : u_T := fun k => match k with
  | 0 => ("SlotBundler$History", "sizes", "[I", true)
  | 1 => ("SlotBundler$History", "instructions", "[I", true)
  | 2 => ("SlotBundler$History", "rows", "[[I", true)
  | 3 => ("SlotBundler$History", "next", "I", false)
  | _ => ("SlotBundler$History", "count", "I", false)
def tyX3 : Nat → FieldType := fun k => match k with
  | 0 => .array .int
  | 1 => .array .int
  | 2 => .array (.array .int)
  | 3 => .int
  | _ => .int
abbrev wsX30 : List Cond := u_ws RX3 TX3 5
theorem nmX3 : ∀ a, a < 5 → ∀ b, b < 5 → a ≠ b → (TX3 a).2.1 ≠ (TX3 b).2.1 := by decide +kernel
theorem tyX3_ok : ∀ k, k < 5 → parseFieldDescriptor (TX3 k).2.2.1 = some (tyX3 k) := by decide +kernel
abbrev cX3_init : ByteArray := prog_5_method_1_code
def yX3_init : MethodName := ⟨RX3, "<init>", "()V"⟩
abbrev cX3_remember : ByteArray := prog_5_method_2_code
def yX3_remember : MethodName := ⟨RX3, "remember", "(LSlotBundler$Program;I)V"⟩
abbrev cX3_takeBack : ByteArray := prog_5_method_3_code
def yX3_takeBack : MethodName := ⟨RX3, "takeBack", "(LSlotBundler$Program;)V"⟩
def RX4 : String := "SlotBundler$Machine"
def TX4 : u_T := fun k => match k with
  | 0 => ("SlotBundler$Machine", "registers", "[I", true)
  | _ => ("SlotBundler$Machine", "cells", "[I", true)
def tyX4 : Nat → FieldType := fun k => match k with
  | 0 => .array .int
  | _ => .array .int
abbrev wsX40 : List Cond := u_ws RX4 TX4 2
theorem nmX4 : ∀ a, a < 2 → ∀ b, b < 2 → a ≠ b → (TX4 a).2.1 ≠ (TX4 b).2.1 := by decide +kernel
theorem tyX4_ok : ∀ k, k < 2 → parseFieldDescriptor (TX4 k).2.2.1 = some (tyX4 k) := by decide +kernel
abbrev cX4_init : ByteArray := prog_6_method_1_code
def yX4_init : MethodName := ⟨RX4, "<init>", "()V"⟩
abbrev cX4_copyFrom : ByteArray := prog_6_method_2_code
def yX4_copyFrom : MethodName := ⟨RX4, "copyFrom", "(LSlotBundler$Machine;)V"⟩
abbrev cX4_holdsTheSameAs : ByteArray := prog_6_method_3_code
def yX4_holdsTheSameAs : MethodName := ⟨RX4, "holdsTheSameAs", "(LSlotBundler$Machine;)Z"⟩
abbrev cX4_step : ByteArray := prog_6_method_4_code
def yX4_step : MethodName := ⟨RX4, "step", "([II)I"⟩
abbrev cX4_successor : ByteArray := prog_6_method_5_code
def yX4_successor : MethodName := ⟨RX4, "successor", "([II)I"⟩
abbrev cX4_cellOf : ByteArray := prog_6_method_6_code
def yX4_cellOf : MethodName := ⟨RX4, "cellOf", "([I)I"⟩
abbrev cX4_resultOf : ByteArray := prog_6_method_7_code
def yX4_resultOf : MethodName := ⟨RX4, "resultOf", "([I)I"⟩
abbrev cX4_calculated : ByteArray := prog_6_method_8_code
def yX4_calculated : MethodName := ⟨RX4, "calculated", "(III)I"⟩
abbrev cX4_take : ByteArray := prog_6_method_9_code
def yX4_take : MethodName := ⟨RX4, "take", "([III)V"⟩
def RX5 : String := "SlotBundler$Packing"
def TX5 : u_T := fun k => match k with
  | 0 => ("SlotBundler$Packing", "program", "LSlotBundler$Program;", true)
  | 1 => ("SlotBundler$Packing", "slots", "[[I", true)
  | 2 => ("SlotBundler$Packing", "templateOf", "[I", true)
  | 3 => ("SlotBundler$Packing", "blockOfBundle", "[I", true)
  | 4 => ("SlotBundler$Packing", "bundleOf", "[I", true)
  | 5 => ("SlotBundler$Packing", "slotOf", "[I", true)
  | 6 => ("SlotBundler$Packing", "groupOf", "[I", true)
  | 7 => ("SlotBundler$Packing", "cyclesOf", "[I", true)
  | 8 => ("SlotBundler$Packing", "codeIndexOf", "[I", true)
  | 9 => ("SlotBundler$Packing", "code", "[I", true)
  | 10 => ("SlotBundler$Packing", "codeLength", "I", false)
  | 11 => ("SlotBundler$Packing", "count", "I", false)
  | _ => ("SlotBundler$Packing", "made", "Z", false)
def tyX5 : Nat → FieldType := fun k => match k with
  | 0 => .object "SlotBundler$Program"
  | 1 => .array (.array .int)
  | 2 => .array .int
  | 3 => .array .int
  | 4 => .array .int
  | 5 => .array .int
  | 6 => .array .int
  | 7 => .array .int
  | 8 => .array .int
  | 9 => .array .int
  | 10 => .int
  | 11 => .int
  | _ => .boolean
abbrev wsX50 : List Cond := u_ws RX5 TX5 13
theorem nmX5 : ∀ a, a < 13 → ∀ b, b < 13 → a ≠ b → (TX5 a).2.1 ≠ (TX5 b).2.1 := by decide +kernel
theorem tyX5_ok : ∀ k, k < 13 → parseFieldDescriptor (TX5 k).2.2.1 = some (tyX5 k) := by decide +kernel
abbrev cX5_init : ByteArray := prog_7_method_1_code
def yX5_init : MethodName := ⟨RX5, "<init>", "(LSlotBundler$Program;)V"⟩
abbrev cX5_clear : ByteArray := prog_7_method_2_code
def yX5_clear : MethodName := ⟨RX5, "clear", "()V"⟩
abbrev cX5_takeBlock : ByteArray := prog_7_method_3_code
def yX5_takeBlock : MethodName := ⟨RX5, "takeBlock", "(ILSlotBundler$Filler;)Z"⟩
abbrev cX5_takeBundle : ByteArray := prog_7_method_4_code
def yX5_takeBundle : MethodName := ⟨RX5, "takeBundle", "(IILSlotBundler$Filler;)V"⟩
abbrev cX5_due : ByteArray := prog_7_method_5_code
def yX5_due : MethodName := ⟨RX5, "due", "(I)I"⟩
abbrev cX5_writeCode : ByteArray := prog_7_method_6_code
def yX5_writeCode : MethodName := ⟨RX5, "writeCode", "()V"⟩
abbrev cX5_writeBundle : ByteArray := prog_7_method_7_code
def yX5_writeBundle : MethodName := ⟨RX5, "writeBundle", "(I)V"⟩
abbrev cX5_writeNumber : ByteArray := prog_7_method_8_code
def yX5_writeNumber : MethodName := ⟨RX5, "writeNumber", "(I)V"⟩
abbrev cX5_filledSlots : ByteArray := prog_7_method_9_code
def yX5_filledSlots : MethodName := ⟨RX5, "filledSlots", "(I)I"⟩
def RX6 : String := "SlotBundler$Program"
def TX6 : u_T := fun k => match k with
  | 0 => ("SlotBundler$Program", "rows", "[[I", true)
  | _ => ("SlotBundler$Program", "count", "I", false)
def tyX6 : Nat → FieldType := fun k => match k with
  | 0 => .array (.array .int)
  | _ => .int
abbrev wsX60 : List Cond := u_ws RX6 TX6 2
theorem nmX6 : ∀ a, a < 2 → ∀ b, b < 2 → a ≠ b → (TX6 a).2.1 ≠ (TX6 b).2.1 := by decide +kernel
theorem tyX6_ok : ∀ k, k < 2 → parseFieldDescriptor (TX6 k).2.2.1 = some (tyX6 k) := by decide +kernel
abbrev cX6_init : ByteArray := prog_8_method_1_code
def yX6_init : MethodName := ⟨RX6, "<init>", "()V"⟩
abbrev cX6_isInstruction : ByteArray := prog_8_method_2_code
def yX6_isInstruction : MethodName := ⟨RX6, "isInstruction", "(IIII)Z"⟩
abbrev cX6_isRegister : ByteArray := prog_8_method_3_code
def yX6_isRegister : MethodName := ⟨RX6, "isRegister", "(I)Z"⟩
abbrev cX6_isTarget : ByteArray := prog_8_method_4_code
def yX6_isTarget : MethodName := ⟨RX6, "isTarget", "(I)Z"⟩
abbrev cX6_isCalculation : ByteArray := prog_8_method_5_code
def yX6_isCalculation : MethodName := ⟨RX6, "isCalculation", "(I)Z"⟩
abbrev cX6_has : ByteArray := prog_8_method_6_code
def yX6_has : MethodName := ⟨RX6, "has", "(I)Z"⟩
abbrev cX6_write : ByteArray := prog_8_method_7_code
def yX6_write : MethodName := ⟨RX6, "write", "(IIIII)V"⟩
abbrev cX6_operationOf : ByteArray := prog_8_method_8_code
def yX6_operationOf : MethodName := ⟨RX6, "operationOf", "(I)I"⟩
abbrev cX6_isExit : ByteArray := prog_8_method_9_code
def yX6_isExit : MethodName := ⟨RX6, "isExit", "(I)Z"⟩
abbrev cX6_hasTarget : ByteArray := prog_8_method_10_code
def yX6_hasTarget : MethodName := ⟨RX6, "hasTarget", "(I)Z"⟩
abbrev cX6_targetOf : ByteArray := prog_8_method_11_code
def yX6_targetOf : MethodName := ⟨RX6, "targetOf", "(I)I"⟩
abbrev cX6_latency : ByteArray := prog_8_method_12_code
def yX6_latency : MethodName := ⟨RX6, "latency", "(I)I"⟩
abbrev cX6_written : ByteArray := prog_8_method_13_code
def yX6_written : MethodName := ⟨RX6, "written", "(I)I"⟩
abbrev cX6_read : ByteArray := prog_8_method_14_code
def yX6_read : MethodName := ⟨RX6, "read", "(I)I"⟩
abbrev cX6_gap : ByteArray := prog_8_method_15_code
def yX6_gap : MethodName := ⟨RX6, "gap", "(II)I"⟩
def RX7 : String := "SlotBundler$Templates"
def TX7 : u_T := fun k => match k with
  | 0 => ("SlotBundler$Templates", "types", "[[I", true)
  | 1 => ("SlotBundler$Templates", "stops", "[I", true)
  | _ => ("SlotBundler$Templates", "count", "I", false)
def tyX7 : Nat → FieldType := fun k => match k with
  | 0 => .array (.array .int)
  | 1 => .array .int
  | _ => .int
abbrev wsX70 : List Cond := u_ws RX7 TX7 3
theorem nmX7 : ∀ a, a < 3 → ∀ b, b < 3 → a ≠ b → (TX7 a).2.1 ≠ (TX7 b).2.1 := by decide +kernel
theorem tyX7_ok : ∀ k, k < 3 → parseFieldDescriptor (TX7 k).2.2.1 = some (tyX7 k) := by decide +kernel
abbrev cX7_init : ByteArray := prog_9_method_1_code
def yX7_init : MethodName := ⟨RX7, "<init>", "()V"⟩
abbrev cX7_isType : ByteArray := prog_9_method_2_code
def yX7_isType : MethodName := ⟨RX7, "isType", "(I)Z"⟩
abbrev cX7_fits : ByteArray := prog_9_method_3_code
def yX7_fits : MethodName := ⟨RX7, "fits", "(II)Z"⟩
abbrev cX7_append : ByteArray := prog_9_method_4_code
def yX7_append : MethodName := ⟨RX7, "append", "(IIII)V"⟩
abbrev cX7_stopCount : ByteArray := prog_9_method_5_code
def yX7_stopCount : MethodName := ⟨RX7, "stopCount", "(I)I"⟩
abbrev cX7_stopsBehind : ByteArray := prog_9_method_6_code
def yX7_stopsBehind : MethodName := ⟨RX7, "stopsBehind", "(II)Z"⟩
def RX8 : String := "SlotBundler"
def TX8 : u_T := fun k => match k with
  | 0 => ("SlotBundler", "program", "LSlotBundler$Program;", true)
  | 1 => ("SlotBundler", "history", "LSlotBundler$History;", true)
  | 2 => ("SlotBundler", "blocks", "LSlotBundler$Blocks;", true)
  | 3 => ("SlotBundler", "templates", "LSlotBundler$Templates;", true)
  | 4 => ("SlotBundler", "filler", "LSlotBundler$Filler;", true)
  | 5 => ("SlotBundler", "packing", "LSlotBundler$Packing;", true)
  | 6 => ("SlotBundler", "machine", "LSlotBundler$Machine;", true)
  | 7 => ("SlotBundler", "programCopy", "LSlotBundler$Machine;", true)
  | 8 => ("SlotBundler", "packingCopy", "LSlotBundler$Machine;", true)
  | _ => ("SlotBundler", "blockRunner", "LSlotBundler$BlockRunner;", true)
def tyX8 : Nat → FieldType := fun k => match k with
  | 0 => .object "SlotBundler$Program"
  | 1 => .object "SlotBundler$History"
  | 2 => .object "SlotBundler$Blocks"
  | 3 => .object "SlotBundler$Templates"
  | 4 => .object "SlotBundler$Filler"
  | 5 => .object "SlotBundler$Packing"
  | 6 => .object "SlotBundler$Machine"
  | 7 => .object "SlotBundler$Machine"
  | 8 => .object "SlotBundler$Machine"
  | _ => .object "SlotBundler$BlockRunner"
abbrev wsX80 : List Cond := u_ws RX8 TX8 10
theorem nmX8 : ∀ a, a < 10 → ∀ b, b < 10 → a ≠ b → (TX8 a).2.1 ≠ (TX8 b).2.1 := by decide +kernel
theorem tyX8_ok : ∀ k, k < 10 → parseFieldDescriptor (TX8 k).2.2.1 = some (tyX8 k) := by decide +kernel
abbrev cX8_init : ByteArray := prog_1_method_1_code
def yX8_init : MethodName := ⟨RX8, "<init>", "()V"⟩
abbrev cX8_add : ByteArray := prog_1_method_2_code
def yX8_add : MethodName := ⟨RX8, "add", "(IIII)I"⟩
abbrev cX8_set : ByteArray := prog_1_method_3_code
def yX8_set : MethodName := ⟨RX8, "set", "(IIIII)I"⟩
abbrev cX8_removeLast : ByteArray := prog_1_method_4_code
def yX8_removeLast : MethodName := ⟨RX8, "removeLast", "()I"⟩
abbrev cX8_size : ByteArray := prog_1_method_5_code
def yX8_size : MethodName := ⟨RX8, "size", "()I"⟩
abbrev cX8_part : ByteArray := prog_1_method_6_code
def yX8_part : MethodName := ⟨RX8, "part", "(II)I"⟩
abbrev cX8_undo : ByteArray := prog_1_method_7_code
def yX8_undo : MethodName := ⟨RX8, "undo", "()I"⟩
abbrev cX8_blockCount : ByteArray := prog_1_method_8_code
def yX8_blockCount : MethodName := ⟨RX8, "blockCount", "()I"⟩
abbrev cX8_blockOf : ByteArray := prog_1_method_9_code
def yX8_blockOf : MethodName := ⟨RX8, "blockOf", "(I)I"⟩
abbrev cX8_blockBegin : ByteArray := prog_1_method_10_code
def yX8_blockBegin : MethodName := ⟨RX8, "blockBegin", "(I)I"⟩
abbrev cX8_distance : ByteArray := prog_1_method_11_code
def yX8_distance : MethodName := ⟨RX8, "distance", "(II)I"⟩
abbrev cX8_addTemplate : ByteArray := prog_1_method_12_code
def yX8_addTemplate : MethodName := ⟨RX8, "addTemplate", "(IIII)I"⟩
abbrev cX8_clearTemplates : ByteArray := prog_1_method_13_code
def yX8_clearTemplates : MethodName := ⟨RX8, "clearTemplates", "()I"⟩
abbrev cX8_templateCount : ByteArray := prog_1_method_14_code
def yX8_templateCount : MethodName := ⟨RX8, "templateCount", "()I"⟩
abbrev cX8_template : ByteArray := prog_1_method_15_code
def yX8_template : MethodName := ⟨RX8, "template", "(II)I"⟩
abbrev cX8_pack : ByteArray := prog_1_method_16_code
def yX8_pack : MethodName := ⟨RX8, "pack", "()I"⟩
abbrev cX8_unpack : ByteArray := prog_1_method_17_code
def yX8_unpack : MethodName := ⟨RX8, "unpack", "()I"⟩
abbrev cX8_bundleCount : ByteArray := prog_1_method_18_code
def yX8_bundleCount : MethodName := ⟨RX8, "bundleCount", "()I"⟩
abbrev cX8_bundle : ByteArray := prog_1_method_19_code
def yX8_bundle : MethodName := ⟨RX8, "bundle", "(II)I"⟩
abbrev cX8_placeOf : ByteArray := prog_1_method_20_code
def yX8_placeOf : MethodName := ⟨RX8, "placeOf", "(II)I"⟩
abbrev cX8_cycles : ByteArray := prog_1_method_21_code
def yX8_cycles : MethodName := ⟨RX8, "cycles", "(I)I"⟩
abbrev cX8_emptySlots : ByteArray := prog_1_method_22_code
def yX8_emptySlots : MethodName := ⟨RX8, "emptySlots", "()I"⟩
abbrev cX8_least : ByteArray := prog_1_method_23_code
def yX8_least : MethodName := ⟨RX8, "least", "(II)I"⟩
abbrev cX8_codeLength : ByteArray := prog_1_method_24_code
def yX8_codeLength : MethodName := ⟨RX8, "codeLength", "()I"⟩
abbrev cX8_code : ByteArray := prog_1_method_25_code
def yX8_code : MethodName := ⟨RX8, "code", "(I)I"⟩
abbrev cX8_codeIndex : ByteArray := prog_1_method_26_code
def yX8_codeIndex : MethodName := ⟨RX8, "codeIndex", "(I)I"⟩
abbrev cX8_setRegister : ByteArray := prog_1_method_27_code
def yX8_setRegister : MethodName := ⟨RX8, "setRegister", "(II)I"⟩
abbrev cX8_register : ByteArray := prog_1_method_28_code
def yX8_register : MethodName := ⟨RX8, "register", "(I)J"⟩
abbrev cX8_setMemory : ByteArray := prog_1_method_29_code
def yX8_setMemory : MethodName := ⟨RX8, "setMemory", "(II)I"⟩
abbrev cX8_memory : ByteArray := prog_1_method_30_code
def yX8_memory : MethodName := ⟨RX8, "memory", "(I)J"⟩
abbrev cX8_run : ByteArray := prog_1_method_31_code
def yX8_run : MethodName := ⟨RX8, "run", "(I)I"⟩
abbrev cX8_runBundles : ByteArray := prog_1_method_32_code
def yX8_runBundles : MethodName := ⟨RX8, "runBundles", "(I)I"⟩
abbrev cX8_compare : ByteArray := prog_1_method_33_code
def yX8_compare : MethodName := ⟨RX8, "compare", "(I)I"⟩
abbrev cX8_executeProgram : ByteArray := prog_1_method_34_code
def yX8_executeProgram : MethodName := ⟨RX8, "executeProgram", "(LSlotBundler$Machine;I)I"⟩
abbrev cX8_executePacking : ByteArray := prog_1_method_35_code
def yX8_executePacking : MethodName := ⟨RX8, "executePacking", "(LSlotBundler$Machine;I)I"⟩
abbrev cX8_packsInto : ByteArray := prog_1_method_36_code
def yX8_packsInto : MethodName := ⟨RX8, "packsInto", "(LSlotBundler$Filler;III)Z"⟩
def RX9 : String := "SlotBundlerModel"
def TX9 : u_T := fun k => match k with
  | 0 => ("SlotBundlerModel", "size", "I", false)
  | 1 => ("SlotBundlerModel", "program", "[[I", true)
  | 2 => ("SlotBundlerModel", "history", "[[[I", true)
  | 3 => ("SlotBundlerModel", "historySizes", "[I", true)
  | 4 => ("SlotBundlerModel", "remembered", "I", false)
  | 5 => ("SlotBundlerModel", "blockOf", "[I", true)
  | 6 => ("SlotBundlerModel", "begins", "[I", true)
  | 7 => ("SlotBundlerModel", "blocks", "I", false)
  | 8 => ("SlotBundlerModel", "templates", "I", false)
  | 9 => ("SlotBundlerModel", "types", "[[I", true)
  | 10 => ("SlotBundlerModel", "stops", "[I", true)
  | 11 => ("SlotBundlerModel", "groups", "[I", true)
  | 12 => ("SlotBundlerModel", "filled", "[I", true)
  | 13 => ("SlotBundlerModel", "next", "I", false)
  | 14 => ("SlotBundlerModel", "present", "I", false)
  | 15 => ("SlotBundlerModel", "put", "I", false)
  | 16 => ("SlotBundlerModel", "isPacked", "Z", false)
  | 17 => ("SlotBundlerModel", "bundles", "I", false)
  | 18 => ("SlotBundlerModel", "bundleSlots", "[[I", true)
  | 19 => ("SlotBundlerModel", "places", "[[I", true)
  | 20 => ("SlotBundlerModel", "bundleTemplates", "[I", true)
  | 21 => ("SlotBundlerModel", "bundleBlocks", "[I", true)
  | 22 => ("SlotBundlerModel", "fewest", "I", false)
  | 23 => ("SlotBundlerModel", "code", "[I", true)
  | 24 => ("SlotBundlerModel", "codeBegins", "[I", true)
  | 25 => ("SlotBundlerModel", "codeLength", "I", false)
  | 26 => ("SlotBundlerModel", "state", "[I", true)
  | 27 => ("SlotBundlerModel", "aside", "[I", true)
  | 28 => ("SlotBundlerModel", "other", "[I", true)
  | 29 => ("SlotBundlerModel", "steps", "I", false)
  | 30 => ("SlotBundlerModel", "awaitedPlaces", "[I", true)
  | 31 => ("SlotBundlerModel", "awaitedValues", "[I", true)
  | 32 => ("SlotBundlerModel", "awaitedGroups", "[I", true)
  | _ => ("SlotBundlerModel", "cycleSum", "I", false)
def tyX9 : Nat → FieldType := fun k => match k with
  | 0 => .int
  | 1 => .array (.array .int)
  | 2 => .array (.array (.array .int))
  | 3 => .array .int
  | 4 => .int
  | 5 => .array .int
  | 6 => .array .int
  | 7 => .int
  | 8 => .int
  | 9 => .array (.array .int)
  | 10 => .array .int
  | 11 => .array .int
  | 12 => .array .int
  | 13 => .int
  | 14 => .int
  | 15 => .int
  | 16 => .boolean
  | 17 => .int
  | 18 => .array (.array .int)
  | 19 => .array (.array .int)
  | 20 => .array .int
  | 21 => .array .int
  | 22 => .int
  | 23 => .array .int
  | 24 => .array .int
  | 25 => .int
  | 26 => .array .int
  | 27 => .array .int
  | 28 => .array .int
  | 29 => .int
  | 30 => .array .int
  | 31 => .array .int
  | 32 => .array .int
  | _ => .int
abbrev wsX90 : List Cond := u_ws RX9 TX9 34
theorem nmX9 : ∀ a, a < 34 → ∀ b, b < 34 → a ≠ b → (TX9 a).2.1 ≠ (TX9 b).2.1 := by decide +kernel
theorem tyX9_ok : ∀ k, k < 34 → parseFieldDescriptor (TX9 k).2.2.1 = some (tyX9 k) := by decide +kernel
abbrev cX9_init : ByteArray := prog_11_method_1_code
def yX9_init : MethodName := ⟨RX9, "<init>", "()V"⟩
abbrev cX9_isBetween : ByteArray := prog_11_method_2_code
def yX9_isBetween : MethodName := ⟨RX9, "isBetween", "(III)Z"⟩
abbrev cX9_isRegister : ByteArray := prog_11_method_3_code
def yX9_isRegister : MethodName := ⟨RX9, "isRegister", "(I)Z"⟩
abbrev cX9_remember : ByteArray := prog_11_method_4_code
def yX9_remember : MethodName := ⟨RX9, "remember", "()V"⟩
abbrev cX9_copy : ByteArray := prog_11_method_5_code
def yX9_copy : MethodName := ⟨RX9, "copy", "([[I[[I)V"⟩
abbrev cX9_isInstruction : ByteArray := prog_11_method_6_code
def yX9_isInstruction : MethodName := ⟨RX9, "isInstruction", "(IIII)Z"⟩
abbrev cX9_put : ByteArray := prog_11_method_7_code
def yX9_put : MethodName := ⟨RX9, "put", "(IIIII)V"⟩
abbrev cX9_add : ByteArray := prog_11_method_8_code
def yX9_add : MethodName := ⟨RX9, "add", "(IIII)I"⟩
abbrev cX9_isThere : ByteArray := prog_11_method_9_code
def yX9_isThere : MethodName := ⟨RX9, "isThere", "(I)Z"⟩
abbrev cX9_set : ByteArray := prog_11_method_10_code
def yX9_set : MethodName := ⟨RX9, "set", "(IIIII)I"⟩
abbrev cX9_removeLast : ByteArray := prog_11_method_11_code
def yX9_removeLast : MethodName := ⟨RX9, "removeLast", "()I"⟩
abbrev cX9_size : ByteArray := prog_11_method_12_code
def yX9_size : MethodName := ⟨RX9, "size", "()I"⟩
abbrev cX9_part : ByteArray := prog_11_method_13_code
def yX9_part : MethodName := ⟨RX9, "part", "(II)I"⟩
abbrev cX9_undo : ByteArray := prog_11_method_14_code
def yX9_undo : MethodName := ⟨RX9, "undo", "()I"⟩
abbrev cX9_operation : ByteArray := prog_11_method_15_code
def yX9_operation : MethodName := ⟨RX9, "operation", "(I)I"⟩
abbrev cX9_isExit : ByteArray := prog_11_method_16_code
def yX9_isExit : MethodName := ⟨RX9, "isExit", "(I)Z"⟩
abbrev cX9_hasTarget : ByteArray := prog_11_method_17_code
def yX9_hasTarget : MethodName := ⟨RX9, "hasTarget", "(I)Z"⟩
abbrev cX9_latency : ByteArray := prog_11_method_18_code
def yX9_latency : MethodName := ⟨RX9, "latency", "(I)I"⟩
abbrev cX9_written : ByteArray := prog_11_method_19_code
def yX9_written : MethodName := ⟨RX9, "written", "(I)I"⟩
abbrev cX9_reads : ByteArray := prog_11_method_20_code
def yX9_reads : MethodName := ⟨RX9, "reads", "(II)Z"⟩
abbrev cX9_distanceOf : ByteArray := prog_11_method_21_code
def yX9_distanceOf : MethodName := ⟨RX9, "distanceOf", "(II)I"⟩
abbrev cX9_isComplete : ByteArray := prog_11_method_22_code
def yX9_isComplete : MethodName := ⟨RX9, "isComplete", "()Z"⟩
abbrev cX9_beginsBlock : ByteArray := prog_11_method_23_code
def yX9_beginsBlock : MethodName := ⟨RX9, "beginsBlock", "(I)Z"⟩
abbrev cX9_findBlocks : ByteArray := prog_11_method_24_code
def yX9_findBlocks : MethodName := ⟨RX9, "findBlocks", "()V"⟩
abbrev cX9_blockCount : ByteArray := prog_11_method_25_code
def yX9_blockCount : MethodName := ⟨RX9, "blockCount", "()I"⟩
abbrev cX9_blockOf : ByteArray := prog_11_method_26_code
def yX9_blockOf : MethodName := ⟨RX9, "blockOf", "(I)I"⟩
abbrev cX9_blockBegin : ByteArray := prog_11_method_27_code
def yX9_blockBegin : MethodName := ⟨RX9, "blockBegin", "(I)I"⟩
abbrev cX9_distance : ByteArray := prog_11_method_28_code
def yX9_distance : MethodName := ⟨RX9, "distance", "(II)I"⟩
abbrev cX9_isType : ByteArray := prog_11_method_29_code
def yX9_isType : MethodName := ⟨RX9, "isType", "(I)Z"⟩
abbrev cX9_addTemplate : ByteArray := prog_11_method_30_code
def yX9_addTemplate : MethodName := ⟨RX9, "addTemplate", "(IIII)I"⟩
abbrev cX9_clearTemplates : ByteArray := prog_11_method_31_code
def yX9_clearTemplates : MethodName := ⟨RX9, "clearTemplates", "()I"⟩
abbrev cX9_templateCount : ByteArray := prog_11_method_32_code
def yX9_templateCount : MethodName := ⟨RX9, "templateCount", "()I"⟩
abbrev cX9_template : ByteArray := prog_11_method_33_code
def yX9_template : MethodName := ⟨RX9, "template", "(II)I"⟩
abbrev cX9_countMarks : ByteArray := prog_11_method_34_code
def yX9_countMarks : MethodName := ⟨RX9, "countMarks", "(I)I"⟩
abbrev cX9_fits : ByteArray := prog_11_method_35_code
def yX9_fits : MethodName := ⟨RX9, "fits", "(II)Z"⟩
abbrev cX9_isReady : ByteArray := prog_11_method_36_code
def yX9_isReady : MethodName := ⟨RX9, "isReady", "(II)Z"⟩
abbrev cX9_fill : ByteArray := prog_11_method_37_code
def yX9_fill : MethodName := ⟨RX9, "fill", "(IIII)V"⟩
abbrev cX9_chosen : ByteArray := prog_11_method_38_code
def yX9_chosen : MethodName := ⟨RX9, "chosen", "(III)I"⟩
abbrev cX9_packBlock : ByteArray := prog_11_method_39_code
def yX9_packBlock : MethodName := ⟨RX9, "packBlock", "(I)Z"⟩
abbrev cX9_pack : ByteArray := prog_11_method_40_code
def yX9_pack : MethodName := ⟨RX9, "pack", "()I"⟩
abbrev cX9_unpack : ByteArray := prog_11_method_41_code
def yX9_unpack : MethodName := ⟨RX9, "unpack", "()I"⟩
abbrev cX9_bundleCount : ByteArray := prog_11_method_42_code
def yX9_bundleCount : MethodName := ⟨RX9, "bundleCount", "()I"⟩
abbrev cX9_bundle : ByteArray := prog_11_method_43_code
def yX9_bundle : MethodName := ⟨RX9, "bundle", "(II)I"⟩
abbrev cX9_placeOf : ByteArray := prog_11_method_44_code
def yX9_placeOf : MethodName := ⟨RX9, "placeOf", "(II)I"⟩
abbrev cX9_cyclesOf : ByteArray := prog_11_method_45_code
def yX9_cyclesOf : MethodName := ⟨RX9, "cyclesOf", "(I)I"⟩
abbrev cX9_cycles : ByteArray := prog_11_method_46_code
def yX9_cycles : MethodName := ⟨RX9, "cycles", "(I)I"⟩
abbrev cX9_emptySlots : ByteArray := prog_11_method_47_code
def yX9_emptySlots : MethodName := ⟨RX9, "emptySlots", "()I"⟩
abbrev cX9_search : ByteArray := prog_11_method_48_code
def yX9_search : MethodName := ⟨RX9, "search", "(IIIII)V"⟩
abbrev cX9_least : ByteArray := prog_11_method_49_code
def yX9_least : MethodName := ⟨RX9, "least", "(II)I"⟩
abbrev cX9_isEmpty : ByteArray := prog_11_method_50_code
def yX9_isEmpty : MethodName := ⟨RX9, "isEmpty", "(I)Z"⟩
abbrev cX9_findCode : ByteArray := prog_11_method_51_code
def yX9_findCode : MethodName := ⟨RX9, "findCode", "()V"⟩
abbrev cX9_addCode : ByteArray := prog_11_method_52_code
def yX9_addCode : MethodName := ⟨RX9, "addCode", "(I)V"⟩
abbrev cX9_codeLength : ByteArray := prog_11_method_53_code
def yX9_codeLength : MethodName := ⟨RX9, "codeLength", "()I"⟩
abbrev cX9_code : ByteArray := prog_11_method_54_code
def yX9_code : MethodName := ⟨RX9, "code", "(I)I"⟩
abbrev cX9_codeIndex : ByteArray := prog_11_method_55_code
def yX9_codeIndex : MethodName := ⟨RX9, "codeIndex", "(I)I"⟩
abbrev cX9_setRegister : ByteArray := prog_11_method_56_code
def yX9_setRegister : MethodName := ⟨RX9, "setRegister", "(II)I"⟩
abbrev cX9_register : ByteArray := prog_11_method_57_code
def yX9_register : MethodName := ⟨RX9, "register", "(I)J"⟩
abbrev cX9_setMemory : ByteArray := prog_11_method_58_code
def yX9_setMemory : MethodName := ⟨RX9, "setMemory", "(II)I"⟩
abbrev cX9_memory : ByteArray := prog_11_method_59_code
def yX9_memory : MethodName := ⟨RX9, "memory", "(I)J"⟩
abbrev cX9_placeWritten : ByteArray := prog_11_method_60_code
def yX9_placeWritten : MethodName := ⟨RX9, "placeWritten", "(I)I"⟩
abbrev cX9_valueWritten : ByteArray := prog_11_method_61_code
def yX9_valueWritten : MethodName := ⟨RX9, "valueWritten", "(I)I"⟩
abbrev cX9_behind : ByteArray := prog_11_method_62_code
def yX9_behind : MethodName := ⟨RX9, "behind", "(II)I"⟩
abbrev cX9_execute : ByteArray := prog_11_method_63_code
def yX9_execute : MethodName := ⟨RX9, "execute", "(I)Z"⟩
abbrev cX9_run : ByteArray := prog_11_method_64_code
def yX9_run : MethodName := ⟨RX9, "run", "(I)I"⟩
abbrev cX9_executeBlock : ByteArray := prog_11_method_65_code
def yX9_executeBlock : MethodName := ⟨RX9, "executeBlock", "(I)I"⟩
abbrev cX9_executeBundles : ByteArray := prog_11_method_66_code
def yX9_executeBundles : MethodName := ⟨RX9, "executeBundles", "(I)Z"⟩
abbrev cX9_runBundles : ByteArray := prog_11_method_67_code
def yX9_runBundles : MethodName := ⟨RX9, "runBundles", "(I)I"⟩
abbrev cX9_compare : ByteArray := prog_11_method_68_code
def yX9_compare : MethodName := ⟨RX9, "compare", "(I)I"⟩
def RJ6 : String := "java/lang/Integer"
def TJ6 : u_T := fun k => match k with
  | _ => ("", "", "", false)
def tyJ6 : Nat → FieldType := fun k => match k with
  | _ => .int
abbrev wsJ60 : List Cond := u_ws RJ6 TJ6 0
theorem nmJ6 : ∀ a, a < 0 → ∀ b, b < 0 → a ≠ b → (TJ6 a).2.1 ≠ (TJ6 b).2.1 := by decide +kernel
theorem tyJ6_ok : ∀ k, k < 0 → parseFieldDescriptor (TJ6 k).2.2.1 = some (tyJ6 k) := by decide +kernel
abbrev cJ6_bitCount_0f7a4 : ByteArray := prog_12_method_49_code
def yJ6_bitCount_0f7a4 : MethodName := ⟨RJ6, "bitCount", "(I)I"⟩
def RJ9 : String := "java/lang/Math"
def TJ9 : u_T := fun k => match k with
  | _ => ("", "", "", false)
def tyJ9 : Nat → FieldType := fun k => match k with
  | _ => .int
abbrev wsJ90 : List Cond := u_ws RJ9 TJ9 0
theorem nmJ9 : ∀ a, a < 0 → ∀ b, b < 0 → a ≠ b → (TJ9 a).2.1 ≠ (TJ9 b).2.1 := by decide +kernel
theorem tyJ9_ok : ∀ k, k < 0 → parseFieldDescriptor (TJ9 k).2.2.1 = some (tyJ9 k) := by decide +kernel
abbrev cJ9_max_7cf53 : ByteArray := prog_13_method_65_code
def yJ9_max_7cf53 : MethodName := ⟨RJ9, "max", "(II)I"⟩
abbrev cJ9_min_7cf53 : ByteArray := prog_13_method_69_code
def yJ9_min_7cf53 : MethodName := ⟨RJ9, "min", "(II)I"⟩
def RJ10 : String := "java/lang/System"
def TJ10 : u_T := fun k => match k with
  | _ => ("", "", "", false)
def tyJ10 : Nat → FieldType := fun k => match k with
  | _ => .int
abbrev wsJ100 : List Cond := u_ws RJ10 TJ10 0
theorem nmJ10 : ∀ a, a < 0 → ∀ b, b < 0 → a ≠ b → (TJ10 a).2.1 ≠ (TJ10 b).2.1 := by decide +kernel
theorem tyJ10_ok : ∀ k, k < 0 → parseFieldDescriptor (TJ10 k).2.2.1 = some (tyJ10 k) := by decide +kernel
def RL : String := "SlotBundlerLaw"
abbrev cL_law : ByteArray := code
def yL_law : MethodName := ⟨RL, "law", "([I)Z"⟩
abbrev vwCl : List vw_C := [(RX0, TX0, 5), (RX1, TX1, 5), (RX2, TX2, 8), (RX3, TX3, 5), (RX4, TX4, 2), (RX5, TX5, 13), (RX6, TX6, 2), (RX7, TX7, 3), (RX8, TX8, 10), (RX9, TX9, 34)]
end
section
/-! the words of the tables that every method may use, by their places -/
def g_isNest : Cond → Bool
  | .fieldLinkNest .. => true
  | .methodLinkNest .. => true
  | _ => false
def gB : List Cond := lw_tbl.filter goodWord
def gNw : List Cond := lw_tbl.filter g_isNest
theorem g_mem {w : Cond} (i : Nat) (h : lw_tbl[i]? = some w) (hg : goodWord w = true) : w ∈ gB := List.mem_filter.mpr ⟨List.mem_of_getElem? h, hg⟩
theorem g_memN {w : Cond} (i : Nat) (h : lw_tbl[i]? = some w) (hg : g_isNest w = true) : w ∈ gNw := List.mem_filter.mpr ⟨List.mem_of_getElem? h, hg⟩
theorem g_good {ws : List Cond} (h : ∀ w ∈ ws, w ∈ gB) : GoodIn gB ws := fun w hw => ⟨h w hw, good_of_word (List.mem_filter.mp (h w hw)).2⟩
theorem win_0 : Cond.initialized RL ∈ gB := g_mem 41 (by decide +kernel) rfl
theorem win_1 : Cond.initialized RX8 ∈ gB := g_mem 42 (by decide +kernel) rfl
theorem win_2 : Cond.initialized RX6 ∈ gB := g_mem 43 (by decide +kernel) rfl
theorem win_3 : Cond.initialized RX3 ∈ gB := g_mem 44 (by decide +kernel) rfl
theorem win_4 : Cond.initialized RX1 ∈ gB := g_mem 45 (by decide +kernel) rfl
theorem win_5 : Cond.initialized RX7 ∈ gB := g_mem 46 (by decide +kernel) rfl
theorem win_6 : Cond.initialized RX2 ∈ gB := g_mem 47 (by decide +kernel) rfl
theorem win_7 : Cond.initialized RX5 ∈ gB := g_mem 48 (by decide +kernel) rfl
theorem win_8 : Cond.initialized RX4 ∈ gB := g_mem 49 (by decide +kernel) rfl
theorem win_9 : Cond.initialized RX0 ∈ gB := g_mem 50 (by decide +kernel) rfl
theorem win_10 : Cond.initialized RX9 ∈ gB := g_mem 51 (by decide +kernel) rfl
theorem win_11 : Cond.initialized RJ10 ∈ gB := g_mem 52 (by decide +kernel) rfl
theorem win_12 : Cond.initialized RJ9 ∈ gB := g_mem 53 (by decide +kernel) rfl
theorem win_13 : Cond.initialized RJ6 ∈ gB := g_mem 54 (by decide +kernel) rfl
theorem wcl_14 : Cond.classLink RL 7 RX8 ∈ gB := g_mem 55 (by decide +kernel) rfl
theorem wis_15 : Cond.instantiable RX8 10 ∈ gB := g_mem 56 (by decide +kernel) rfl
theorem wml_16 : Cond.methodLink RL 9 yX8_init ∈ gB := g_mem 57 (by decide +kernel) rfl
theorem wim_17 : Cond.instanceMethod yX8_init ∈ gB := g_mem 58 (by decide +kernel) rfl
set_option maxRecDepth 100000 in
theorem wcd_18 : Cond.code yX8_init cX8_init 1 none ∈ gB := g_mem 59 rfl rfl
theorem wml_19 : Cond.methodLink RX8 1 objectInit ∈ gB := g_mem 60 (by decide +kernel) rfl
theorem wim_20 : Cond.instanceMethod objectInit ∈ gB := g_mem 61 (by decide +kernel) rfl
set_option maxRecDepth 100000 in
theorem wcd_21 : Cond.code objectInit ⟨#[0xb1]⟩ 1 none ∈ gB := g_mem 62 rfl rfl
theorem wcl_22 : Cond.classLink RX8 7 RX6 ∈ gB := g_mem 63 (by decide +kernel) rfl
theorem wis_23 : Cond.instantiable RX6 2 ∈ gB := g_mem 64 (by decide +kernel) rfl
theorem wmn_24 : Cond.methodLinkNest RX8 9 yX6_init "SlotBundler" ∈ gNw := g_memN 65 (by decide +kernel) rfl
theorem wim_25 : Cond.instanceMethod yX6_init ∈ gB := g_mem 66 (by decide +kernel) rfl
set_option maxRecDepth 100000 in
theorem wcd_26 : Cond.code yX6_init cX6_init 1 none ∈ gB := g_mem 67 rfl rfl
theorem wml_27 : Cond.methodLink RX6 3 objectInit ∈ gB := g_mem 68 (by decide +kernel) rfl
theorem wcl_28 : Cond.classLink RX6 9 "[[I" ∈ gB := g_mem 69 (by decide +kernel) rfl
theorem wfl_30 : Cond.fieldLink RX6 11 "SlotBundler$Program" "rows" "[[I" ∈ gB := g_mem 71 (by decide +kernel) rfl
theorem wfn_31 : Cond.fieldLinkNest RX3 32 "SlotBundler$Program" "rows" "[[I" "SlotBundler" ∈ gNw := g_memN 72 (by decide +kernel) rfl
theorem wfn_32 : Cond.fieldLinkNest RX0 47 "SlotBundler$Program" "rows" "[[I" "SlotBundler" ∈ gNw := g_memN 73 (by decide +kernel) rfl
theorem wfn_33 : Cond.fieldLinkNest RX8 108 "SlotBundler$Program" "rows" "[[I" "SlotBundler" ∈ gNw := g_memN 74 (by decide +kernel) rfl
theorem wfn_34 : Cond.fieldLinkNest RX3 27 "SlotBundler$Program" "count" "I" "SlotBundler" ∈ gNw := g_memN 75 (by decide +kernel) rfl
theorem wfn_35 : Cond.fieldLinkNest RX8 85 "SlotBundler$Program" "count" "I" "SlotBundler" ∈ gNw := g_memN 76 (by decide +kernel) rfl
theorem wfn_36 : Cond.fieldLinkNest RX1 38 "SlotBundler$Program" "count" "I" "SlotBundler" ∈ gNw := g_memN 77 (by decide +kernel) rfl
theorem wfl_37 : Cond.fieldLink RX6 26 "SlotBundler$Program" "count" "I" ∈ gB := g_mem 78 (by decide +kernel) rfl
theorem wcl_44 : Cond.classLink RX8 16 RX3 ∈ gB := g_mem 85 (by decide +kernel) rfl
theorem wis_45 : Cond.instantiable RX3 5 ∈ gB := g_mem 86 (by decide +kernel) rfl
theorem wmn_46 : Cond.methodLinkNest RX8 18 yX3_init "SlotBundler" ∈ gNw := g_memN 87 (by decide +kernel) rfl
theorem wim_47 : Cond.instanceMethod yX3_init ∈ gB := g_mem 88 (by decide +kernel) rfl
set_option maxRecDepth 100000 in
theorem wcd_48 : Cond.code yX3_init cX3_init 1 none ∈ gB := g_mem 89 rfl rfl
theorem wml_49 : Cond.methodLink RX3 3 objectInit ∈ gB := g_mem 90 (by decide +kernel) rfl
theorem wcl_50 : Cond.classLink RX3 18 "[[I" ∈ gB := g_mem 91 (by decide +kernel) rfl
theorem wfl_51 : Cond.fieldLink RX3 9 "SlotBundler$History" "sizes" "[I" ∈ gB := g_mem 92 (by decide +kernel) rfl
theorem wfl_52 : Cond.fieldLink RX3 15 "SlotBundler$History" "instructions" "[I" ∈ gB := g_mem 93 (by decide +kernel) rfl
theorem wfl_53 : Cond.fieldLink RX3 20 "SlotBundler$History" "rows" "[[I" ∈ gB := g_mem 94 (by decide +kernel) rfl
theorem wfl_54 : Cond.fieldLink RX3 23 "SlotBundler$History" "next" "I" ∈ gB := g_mem 95 (by decide +kernel) rfl
theorem wfl_55 : Cond.fieldLink RX3 39 "SlotBundler$History" "count" "I" ∈ gB := g_mem 96 (by decide +kernel) rfl
theorem wfn_56 : Cond.fieldLinkNest RX8 112 "SlotBundler$History" "count" "I" "SlotBundler" ∈ gNw := g_memN 97 (by decide +kernel) rfl
theorem wcl_68 : Cond.classLink RX8 23 RX1 ∈ gB := g_mem 109 (by decide +kernel) rfl
theorem wis_69 : Cond.instantiable RX1 5 ∈ gB := g_mem 110 (by decide +kernel) rfl
theorem wmn_70 : Cond.methodLinkNest RX8 25 yX1_init "SlotBundler" ∈ gNw := g_memN 111 (by decide +kernel) rfl
theorem wim_71 : Cond.instanceMethod yX1_init ∈ gB := g_mem 112 (by decide +kernel) rfl
set_option maxRecDepth 100000 in
theorem wcd_72 : Cond.code yX1_init cX1_init 1 none ∈ gB := g_mem 113 rfl rfl
theorem wml_73 : Cond.methodLink RX1 3 objectInit ∈ gB := g_mem 114 (by decide +kernel) rfl
theorem wfl_74 : Cond.fieldLink RX1 9 "SlotBundler$Blocks" "begins" "[I" ∈ gB := g_mem 115 (by decide +kernel) rfl
theorem wfn_75 : Cond.fieldLinkNest RX0 30 "SlotBundler$Blocks" "begins" "[I" "SlotBundler" ∈ gNw := g_memN 116 (by decide +kernel) rfl
theorem wfn_76 : Cond.fieldLinkNest RX8 125 "SlotBundler$Blocks" "begins" "[I" "SlotBundler" ∈ gNw := g_memN 117 (by decide +kernel) rfl
theorem wfl_77 : Cond.fieldLink RX1 15 "SlotBundler$Blocks" "ofInstruction" "[I" ∈ gB := g_mem 118 (by decide +kernel) rfl
theorem wfn_78 : Cond.fieldLinkNest RX0 81 "SlotBundler$Blocks" "ofInstruction" "[I" "SlotBundler" ∈ gNw := g_memN 119 (by decide +kernel) rfl
theorem wfn_79 : Cond.fieldLinkNest RX8 120 "SlotBundler$Blocks" "ofInstruction" "[I" "SlotBundler" ∈ gNw := g_memN 120 (by decide +kernel) rfl
theorem wfl_80 : Cond.fieldLink RX1 18 "SlotBundler$Blocks" "isBegin" "[Z" ∈ gB := g_mem 121 (by decide +kernel) rfl
theorem wfl_81 : Cond.fieldLink RX1 26 "SlotBundler$Blocks" "count" "I" ∈ gB := g_mem 122 (by decide +kernel) rfl
theorem wfn_82 : Cond.fieldLinkNest RX0 84 "SlotBundler$Blocks" "count" "I" "SlotBundler" ∈ gNw := g_memN 123 (by decide +kernel) rfl
theorem wfn_83 : Cond.fieldLinkNest RX8 119 "SlotBundler$Blocks" "count" "I" "SlotBundler" ∈ gNw := g_memN 124 (by decide +kernel) rfl
theorem wfl_84 : Cond.fieldLink RX1 22 "SlotBundler$Blocks" "complete" "Z" ∈ gB := g_mem 125 (by decide +kernel) rfl
theorem wfn_85 : Cond.fieldLinkNest RX8 116 "SlotBundler$Blocks" "complete" "Z" "SlotBundler" ∈ gNw := g_memN 126 (by decide +kernel) rfl
theorem wcl_98 : Cond.classLink RX8 30 RX7 ∈ gB := g_mem 139 (by decide +kernel) rfl
theorem wis_99 : Cond.instantiable RX7 3 ∈ gB := g_mem 140 (by decide +kernel) rfl
theorem wmn_100 : Cond.methodLinkNest RX8 32 yX7_init "SlotBundler" ∈ gNw := g_memN 141 (by decide +kernel) rfl
theorem wim_101 : Cond.instanceMethod yX7_init ∈ gB := g_mem 142 (by decide +kernel) rfl
set_option maxRecDepth 100000 in
theorem wcd_102 : Cond.code yX7_init cX7_init 1 none ∈ gB := g_mem 143 rfl rfl
theorem wml_103 : Cond.methodLink RX7 3 objectInit ∈ gB := g_mem 144 (by decide +kernel) rfl
theorem wcl_104 : Cond.classLink RX7 9 "[[I" ∈ gB := g_mem 145 (by decide +kernel) rfl
theorem wfl_105 : Cond.fieldLink RX7 11 "SlotBundler$Templates" "types" "[[I" ∈ gB := g_mem 146 (by decide +kernel) rfl
theorem wfn_106 : Cond.fieldLinkNest RX2 45 "SlotBundler$Templates" "types" "[[I" "SlotBundler" ∈ gNw := g_memN 147 (by decide +kernel) rfl
theorem wfn_107 : Cond.fieldLinkNest RX8 143 "SlotBundler$Templates" "types" "[[I" "SlotBundler" ∈ gNw := g_memN 148 (by decide +kernel) rfl
theorem wfl_108 : Cond.fieldLink RX7 16 "SlotBundler$Templates" "stops" "[I" ∈ gB := g_mem 149 (by decide +kernel) rfl
theorem wfn_109 : Cond.fieldLinkNest RX8 140 "SlotBundler$Templates" "stops" "[I" "SlotBundler" ∈ gNw := g_memN 150 (by decide +kernel) rfl
theorem wfl_110 : Cond.fieldLink RX7 20 "SlotBundler$Templates" "count" "I" ∈ gB := g_mem 151 (by decide +kernel) rfl
theorem wfn_111 : Cond.fieldLinkNest RX2 66 "SlotBundler$Templates" "count" "I" "SlotBundler" ∈ gNw := g_memN 152 (by decide +kernel) rfl
theorem wfn_112 : Cond.fieldLinkNest RX8 135 "SlotBundler$Templates" "count" "I" "SlotBundler" ∈ gNw := g_memN 153 (by decide +kernel) rfl
theorem wcl_120 : Cond.classLink RX8 37 RX2 ∈ gB := g_mem 161 (by decide +kernel) rfl
theorem wis_121 : Cond.instantiable RX2 8 ∈ gB := g_mem 162 (by decide +kernel) rfl
theorem wml_122 : Cond.methodLink RX8 39 yX2_init ∈ gB := g_mem 163 (by decide +kernel) rfl
theorem wim_123 : Cond.instanceMethod yX2_init ∈ gB := g_mem 164 (by decide +kernel) rfl
set_option maxRecDepth 100000 in
theorem wcd_124 : Cond.code yX2_init cX2_init 3 none ∈ gB := g_mem 165 rfl rfl
theorem wml_125 : Cond.methodLink RX2 3 objectInit ∈ gB := g_mem 166 (by decide +kernel) rfl
theorem wfl_126 : Cond.fieldLink RX2 18 "SlotBundler$Filler" "program" "LSlotBundler$Program;" ∈ gB := g_mem 167 (by decide +kernel) rfl
theorem wfl_127 : Cond.fieldLink RX2 22 "SlotBundler$Filler" "templates" "LSlotBundler$Templates;" ∈ gB := g_mem 168 (by decide +kernel) rfl
theorem wfn_128 : Cond.fieldLinkNest RX8 230 "SlotBundler$Filler" "templates" "LSlotBundler$Templates;" "SlotBundler" ∈ gNw := g_memN 169 (by decide +kernel) rfl
theorem wfl_129 : Cond.fieldLink RX2 9 "SlotBundler$Filler" "groups" "[I" ∈ gB := g_mem 170 (by decide +kernel) rfl
theorem wfn_130 : Cond.fieldLinkNest RX5 81 "SlotBundler$Filler" "groups" "[I" "SlotBundler" ∈ gNw := g_memN 171 (by decide +kernel) rfl
theorem wfl_131 : Cond.fieldLink RX2 15 "SlotBundler$Filler" "slots" "[I" ∈ gB := g_mem 172 (by decide +kernel) rfl
theorem wfn_132 : Cond.fieldLinkNest RX5 79 "SlotBundler$Filler" "slots" "[I" "SlotBundler" ∈ gNw := g_memN 173 (by decide +kernel) rfl
theorem wfl_133 : Cond.fieldLink RX2 26 "SlotBundler$Filler" "begin" "I" ∈ gB := g_mem 174 (by decide +kernel) rfl
theorem wfn_134 : Cond.fieldLinkNest RX5 53 "SlotBundler$Filler" "begin" "I" "SlotBundler" ∈ gNw := g_memN 175 (by decide +kernel) rfl
theorem wfl_135 : Cond.fieldLink RX2 30 "SlotBundler$Filler" "end" "I" ∈ gB := g_mem 176 (by decide +kernel) rfl
theorem wfn_136 : Cond.fieldLinkNest RX5 58 "SlotBundler$Filler" "end" "I" "SlotBundler" ∈ gNw := g_memN 177 (by decide +kernel) rfl
theorem wfn_137 : Cond.fieldLinkNest RX8 227 "SlotBundler$Filler" "end" "I" "SlotBundler" ∈ gNw := g_memN 178 (by decide +kernel) rfl
theorem wfl_138 : Cond.fieldLink RX2 33 "SlotBundler$Filler" "next" "I" ∈ gB := g_mem 179 (by decide +kernel) rfl
theorem wfn_139 : Cond.fieldLinkNest RX5 69 "SlotBundler$Filler" "next" "I" "SlotBundler" ∈ gNw := g_memN 180 (by decide +kernel) rfl
theorem wfn_140 : Cond.fieldLinkNest RX8 235 "SlotBundler$Filler" "next" "I" "SlotBundler" ∈ gNw := g_memN 181 (by decide +kernel) rfl
theorem wfl_141 : Cond.fieldLink RX2 36 "SlotBundler$Filler" "group" "I" ∈ gB := g_mem 182 (by decide +kernel) rfl
theorem wfn_142 : Cond.fieldLinkNest RX5 72 "SlotBundler$Filler" "group" "I" "SlotBundler" ∈ gNw := g_memN 183 (by decide +kernel) rfl
theorem wfn_143 : Cond.fieldLinkNest RX8 238 "SlotBundler$Filler" "group" "I" "SlotBundler" ∈ gNw := g_memN 184 (by decide +kernel) rfl
theorem wcl_161 : Cond.classLink RX8 46 RX5 ∈ gB := g_mem 202 (by decide +kernel) rfl
theorem wis_162 : Cond.instantiable RX5 13 ∈ gB := g_mem 203 (by decide +kernel) rfl
theorem wml_163 : Cond.methodLink RX8 48 yX5_init ∈ gB := g_mem 204 (by decide +kernel) rfl
theorem wim_164 : Cond.instanceMethod yX5_init ∈ gB := g_mem 205 (by decide +kernel) rfl
set_option maxRecDepth 100000 in
theorem wcd_165 : Cond.code yX5_init cX5_init 2 none ∈ gB := g_mem 206 rfl rfl
theorem wml_166 : Cond.methodLink RX5 3 objectInit ∈ gB := g_mem 207 (by decide +kernel) rfl
theorem wcl_167 : Cond.classLink RX5 9 "[[I" ∈ gB := g_mem 208 (by decide +kernel) rfl
theorem wfl_168 : Cond.fieldLink RX5 41 "SlotBundler$Packing" "program" "LSlotBundler$Program;" ∈ gB := g_mem 209 (by decide +kernel) rfl
theorem wfl_169 : Cond.fieldLink RX5 11 "SlotBundler$Packing" "slots" "[[I" ∈ gB := g_mem 210 (by decide +kernel) rfl
theorem wfn_170 : Cond.fieldLinkNest RX8 167 "SlotBundler$Packing" "slots" "[[I" "SlotBundler" ∈ gNw := g_memN 211 (by decide +kernel) rfl
theorem wfl_171 : Cond.fieldLink RX5 16 "SlotBundler$Packing" "templateOf" "[I" ∈ gB := g_mem 212 (by decide +kernel) rfl
theorem wfn_172 : Cond.fieldLinkNest RX8 161 "SlotBundler$Packing" "templateOf" "[I" "SlotBundler" ∈ gNw := g_memN 213 (by decide +kernel) rfl
theorem wfl_173 : Cond.fieldLink RX5 20 "SlotBundler$Packing" "blockOfBundle" "[I" ∈ gB := g_mem 214 (by decide +kernel) rfl
theorem wfn_174 : Cond.fieldLinkNest RX8 164 "SlotBundler$Packing" "blockOfBundle" "[I" "SlotBundler" ∈ gNw := g_memN 215 (by decide +kernel) rfl
theorem wfl_175 : Cond.fieldLink RX5 23 "SlotBundler$Packing" "bundleOf" "[I" ∈ gB := g_mem 216 (by decide +kernel) rfl
theorem wfn_176 : Cond.fieldLinkNest RX8 170 "SlotBundler$Packing" "bundleOf" "[I" "SlotBundler" ∈ gNw := g_memN 217 (by decide +kernel) rfl
theorem wfl_177 : Cond.fieldLink RX5 26 "SlotBundler$Packing" "slotOf" "[I" ∈ gB := g_mem 218 (by decide +kernel) rfl
theorem wfn_178 : Cond.fieldLinkNest RX8 173 "SlotBundler$Packing" "slotOf" "[I" "SlotBundler" ∈ gNw := g_memN 219 (by decide +kernel) rfl
theorem wfl_179 : Cond.fieldLink RX5 29 "SlotBundler$Packing" "groupOf" "[I" ∈ gB := g_mem 220 (by decide +kernel) rfl
theorem wfn_180 : Cond.fieldLinkNest RX0 44 "SlotBundler$Packing" "groupOf" "[I" "SlotBundler" ∈ gNw := g_memN 221 (by decide +kernel) rfl
theorem wfn_181 : Cond.fieldLinkNest RX8 176 "SlotBundler$Packing" "groupOf" "[I" "SlotBundler" ∈ gNw := g_memN 222 (by decide +kernel) rfl
theorem wfl_182 : Cond.fieldLink RX5 32 "SlotBundler$Packing" "cyclesOf" "[I" ∈ gB := g_mem 223 (by decide +kernel) rfl
theorem wfn_183 : Cond.fieldLinkNest RX0 35 "SlotBundler$Packing" "cyclesOf" "[I" "SlotBundler" ∈ gNw := g_memN 224 (by decide +kernel) rfl
theorem wfn_184 : Cond.fieldLinkNest RX8 179 "SlotBundler$Packing" "cyclesOf" "[I" "SlotBundler" ∈ gNw := g_memN 225 (by decide +kernel) rfl
theorem wfl_185 : Cond.fieldLink RX5 35 "SlotBundler$Packing" "codeIndexOf" "[I" ∈ gB := g_mem 226 (by decide +kernel) rfl
theorem wfn_186 : Cond.fieldLinkNest RX8 192 "SlotBundler$Packing" "codeIndexOf" "[I" "SlotBundler" ∈ gNw := g_memN 227 (by decide +kernel) rfl
theorem wfl_187 : Cond.fieldLink RX5 38 "SlotBundler$Packing" "code" "[I" ∈ gB := g_mem 228 (by decide +kernel) rfl
theorem wfn_188 : Cond.fieldLinkNest RX8 189 "SlotBundler$Packing" "code" "[I" "SlotBundler" ∈ gNw := g_memN 229 (by decide +kernel) rfl
theorem wfl_189 : Cond.fieldLink RX5 98 "SlotBundler$Packing" "codeLength" "I" ∈ gB := g_mem 230 (by decide +kernel) rfl
theorem wfn_190 : Cond.fieldLinkNest RX8 186 "SlotBundler$Packing" "codeLength" "I" "SlotBundler" ∈ gNw := g_memN 231 (by decide +kernel) rfl
theorem wfl_191 : Cond.fieldLink RX5 49 "SlotBundler$Packing" "count" "I" ∈ gB := g_mem 232 (by decide +kernel) rfl
theorem wfn_192 : Cond.fieldLinkNest RX8 160 "SlotBundler$Packing" "count" "I" "SlotBundler" ∈ gNw := g_memN 233 (by decide +kernel) rfl
theorem wfl_193 : Cond.fieldLink RX5 45 "SlotBundler$Packing" "made" "Z" ∈ gB := g_mem 234 (by decide +kernel) rfl
theorem wfn_194 : Cond.fieldLinkNest RX8 81 "SlotBundler$Packing" "made" "Z" "SlotBundler" ∈ gNw := g_memN 235 (by decide +kernel) rfl
theorem wcl_222 : Cond.classLink RX8 55 RX4 ∈ gB := g_mem 263 (by decide +kernel) rfl
theorem wis_223 : Cond.instantiable RX4 2 ∈ gB := g_mem 264 (by decide +kernel) rfl
theorem wmn_224 : Cond.methodLinkNest RX8 57 yX4_init "SlotBundler" ∈ gNw := g_memN 265 (by decide +kernel) rfl
theorem wim_225 : Cond.instanceMethod yX4_init ∈ gB := g_mem 266 (by decide +kernel) rfl
set_option maxRecDepth 100000 in
theorem wcd_226 : Cond.code yX4_init cX4_init 1 none ∈ gB := g_mem 267 rfl rfl
theorem wml_227 : Cond.methodLink RX4 3 objectInit ∈ gB := g_mem 268 (by decide +kernel) rfl
theorem wfl_228 : Cond.fieldLink RX4 9 "SlotBundler$Machine" "registers" "[I" ∈ gB := g_mem 269 (by decide +kernel) rfl
theorem wfn_229 : Cond.fieldLinkNest RX8 195 "SlotBundler$Machine" "registers" "[I" "SlotBundler" ∈ gNw := g_memN 270 (by decide +kernel) rfl
theorem wfl_230 : Cond.fieldLink RX4 15 "SlotBundler$Machine" "cells" "[I" ∈ gB := g_mem 271 (by decide +kernel) rfl
theorem wfn_231 : Cond.fieldLinkNest RX8 202 "SlotBundler$Machine" "cells" "[I" "SlotBundler" ∈ gNw := g_memN 272 (by decide +kernel) rfl
theorem wcl_237 : Cond.classLink RX8 68 RX0 ∈ gB := g_mem 278 (by decide +kernel) rfl
theorem wis_238 : Cond.instantiable RX0 5 ∈ gB := g_mem 279 (by decide +kernel) rfl
theorem wml_239 : Cond.methodLink RX8 70 yX0_init ∈ gB := g_mem 280 (by decide +kernel) rfl
theorem wim_240 : Cond.instanceMethod yX0_init ∈ gB := g_mem 281 (by decide +kernel) rfl
set_option maxRecDepth 100000 in
theorem wcd_241 : Cond.code yX0_init cX0_init 4 none ∈ gB := g_mem 282 rfl rfl
theorem wml_242 : Cond.methodLink RX0 3 objectInit ∈ gB := g_mem 283 (by decide +kernel) rfl
theorem wfl_243 : Cond.fieldLink RX0 18 "SlotBundler$BlockRunner" "program" "LSlotBundler$Program;" ∈ gB := g_mem 284 (by decide +kernel) rfl
theorem wfl_244 : Cond.fieldLink RX0 22 "SlotBundler$BlockRunner" "blocks" "LSlotBundler$Blocks;" ∈ gB := g_mem 285 (by decide +kernel) rfl
theorem wfl_245 : Cond.fieldLink RX0 26 "SlotBundler$BlockRunner" "packing" "LSlotBundler$Packing;" ∈ gB := g_mem 286 (by decide +kernel) rfl
theorem wfl_246 : Cond.fieldLink RX0 9 "SlotBundler$BlockRunner" "results" "[I" ∈ gB := g_mem 287 (by decide +kernel) rfl
theorem wfl_247 : Cond.fieldLink RX0 15 "SlotBundler$BlockRunner" "cells" "[I" ∈ gB := g_mem 288 (by decide +kernel) rfl
theorem wfl_259 : Cond.fieldLink RX8 10 "SlotBundler" "program" "LSlotBundler$Program;" ∈ gB := g_mem 300 (by decide +kernel) rfl
theorem wfl_260 : Cond.fieldLink RX8 19 "SlotBundler" "history" "LSlotBundler$History;" ∈ gB := g_mem 301 (by decide +kernel) rfl
theorem wfl_261 : Cond.fieldLink RX8 26 "SlotBundler" "blocks" "LSlotBundler$Blocks;" ∈ gB := g_mem 302 (by decide +kernel) rfl
theorem wfl_262 : Cond.fieldLink RX8 33 "SlotBundler" "templates" "LSlotBundler$Templates;" ∈ gB := g_mem 303 (by decide +kernel) rfl
theorem wfl_263 : Cond.fieldLink RX8 42 "SlotBundler" "filler" "LSlotBundler$Filler;" ∈ gB := g_mem 304 (by decide +kernel) rfl
theorem wfl_264 : Cond.fieldLink RX8 51 "SlotBundler" "packing" "LSlotBundler$Packing;" ∈ gB := g_mem 305 (by decide +kernel) rfl
theorem wfl_265 : Cond.fieldLink RX8 58 "SlotBundler" "machine" "LSlotBundler$Machine;" ∈ gB := g_mem 306 (by decide +kernel) rfl
theorem wfl_266 : Cond.fieldLink RX8 62 "SlotBundler" "programCopy" "LSlotBundler$Machine;" ∈ gB := g_mem 307 (by decide +kernel) rfl
theorem wfl_267 : Cond.fieldLink RX8 65 "SlotBundler" "packingCopy" "LSlotBundler$Machine;" ∈ gB := g_mem 308 (by decide +kernel) rfl
theorem wfl_268 : Cond.fieldLink RX8 73 "SlotBundler" "blockRunner" "LSlotBundler$BlockRunner;" ∈ gB := g_mem 309 (by decide +kernel) rfl
theorem wml_290 : Cond.methodLink RL 13 yX8_add ∈ gB := g_mem 331 (by decide +kernel) rfl
theorem wim_291 : Cond.instanceMethod yX8_add ∈ gB := g_mem 332 (by decide +kernel) rfl
theorem wse_292 : Cond.selects RX8 yX8_add yX8_add ∈ gB := g_mem 333 (by decide +kernel) rfl
set_option maxRecDepth 100000 in
theorem wcd_293 : Cond.code yX8_add cX8_add 6 (some .int) ∈ gB := g_mem 334 rfl rfl
theorem wml_294 : Cond.methodLink RX8 77 yX6_isInstruction ∈ gB := g_mem 335 (by decide +kernel) rfl
theorem wst_295 : Cond.static yX6_isInstruction ∈ gB := g_mem 336 (by decide +kernel) rfl
set_option maxRecDepth 100000 in
theorem wcd_296 : Cond.code yX6_isInstruction cX6_isInstruction 4 (some .boolean) ∈ gB := g_mem 337 rfl rfl
theorem wml_297 : Cond.methodLink RX6 16 yX6_isRegister ∈ gB := g_mem 338 (by decide +kernel) rfl
theorem wst_298 : Cond.static yX6_isRegister ∈ gB := g_mem 339 (by decide +kernel) rfl
set_option maxRecDepth 100000 in
theorem wcd_299 : Cond.code yX6_isRegister cX6_isRegister 1 (some .boolean) ∈ gB := g_mem 340 rfl rfl
theorem wml_300 : Cond.methodLink RX6 20 yX6_isTarget ∈ gB := g_mem 341 (by decide +kernel) rfl
theorem wst_301 : Cond.static yX6_isTarget ∈ gB := g_mem 342 (by decide +kernel) rfl
set_option maxRecDepth 100000 in
theorem wcd_302 : Cond.code yX6_isTarget cX6_isTarget 1 (some .boolean) ∈ gB := g_mem 343 rfl rfl
theorem wml_303 : Cond.methodLink RX6 23 yX6_isCalculation ∈ gB := g_mem 344 (by decide +kernel) rfl
theorem wst_304 : Cond.static yX6_isCalculation ∈ gB := g_mem 345 (by decide +kernel) rfl
set_option maxRecDepth 100000 in
theorem wcd_305 : Cond.code yX6_isCalculation cX6_isCalculation 1 (some .boolean) ∈ gB := g_mem 346 rfl rfl
theorem wml_306 : Cond.methodLink RX8 89 yX3_remember ∈ gB := g_mem 347 (by decide +kernel) rfl
theorem wim_307 : Cond.instanceMethod yX3_remember ∈ gB := g_mem 348 (by decide +kernel) rfl
theorem wse_308 : Cond.selects RX3 yX3_remember yX3_remember ∈ gB := g_mem 349 (by decide +kernel) rfl
set_option maxRecDepth 100000 in
theorem wcd_309 : Cond.code yX3_remember cX3_remember 3 none ∈ gB := g_mem 350 rfl rfl
theorem wml_310 : Cond.methodLink RX3 33 arraycopyName ∈ gB := g_mem 351 (by decide +kernel) rfl
theorem wst_311 : Cond.static arraycopyName ∈ gB := g_mem 352 (by decide +kernel) rfl
theorem wnt_312 : Cond.native arraycopyName ∈ gB := g_mem 353 (by decide +kernel) rfl
theorem wml_313 : Cond.methodLink RX3 40 yJ9_min_7cf53 ∈ gB := g_mem 354 (by decide +kernel) rfl
theorem wst_314 : Cond.static yJ9_min_7cf53 ∈ gB := g_mem 355 (by decide +kernel) rfl
set_option maxRecDepth 100000 in
theorem wcd_315 : Cond.code Lib.Math.min.name Lib.Math.min.code 2 (some .int) ∈ gB := g_mem 356 rfl rfl
theorem wml_316 : Cond.methodLink RX8 93 yX6_write ∈ gB := g_mem 357 (by decide +kernel) rfl
theorem wim_317 : Cond.instanceMethod yX6_write ∈ gB := g_mem 358 (by decide +kernel) rfl
theorem wse_318 : Cond.selects RX6 yX6_write yX6_write ∈ gB := g_mem 359 (by decide +kernel) rfl
set_option maxRecDepth 100000 in
theorem wcd_319 : Cond.code yX6_write cX6_write 7 none ∈ gB := g_mem 360 rfl rfl
theorem wml_320 : Cond.methodLink RX8 97 yX1_cut ∈ gB := g_mem 361 (by decide +kernel) rfl
theorem wim_321 : Cond.instanceMethod yX1_cut ∈ gB := g_mem 362 (by decide +kernel) rfl
theorem wse_322 : Cond.selects RX1 yX1_cut yX1_cut ∈ gB := g_mem 363 (by decide +kernel) rfl
set_option maxRecDepth 100000 in
theorem wcd_323 : Cond.code yX1_cut cX1_cut 2 none ∈ gB := g_mem 364 rfl rfl
theorem wml_324 : Cond.methodLink RX1 30 yX1_hasAllTargets ∈ gB := g_mem 365 (by decide +kernel) rfl
theorem wst_325 : Cond.static yX1_hasAllTargets ∈ gB := g_mem 366 (by decide +kernel) rfl
set_option maxRecDepth 100000 in
theorem wcd_326 : Cond.code yX1_hasAllTargets cX1_hasAllTargets 2 (some .boolean) ∈ gB := g_mem 367 rfl rfl
theorem wml_327 : Cond.methodLink RX1 45 yX6_hasTarget ∈ gB := g_mem 368 (by decide +kernel) rfl
theorem wim_328 : Cond.instanceMethod yX6_hasTarget ∈ gB := g_mem 369 (by decide +kernel) rfl
theorem wse_329 : Cond.selects RX6 yX6_hasTarget yX6_hasTarget ∈ gB := g_mem 370 (by decide +kernel) rfl
set_option maxRecDepth 100000 in
theorem wcd_330 : Cond.code yX6_hasTarget cX6_hasTarget 3 (some .boolean) ∈ gB := g_mem 371 rfl rfl
theorem wml_331 : Cond.methodLink RX6 30 yX6_operationOf ∈ gB := g_mem 372 (by decide +kernel) rfl
theorem wim_332 : Cond.instanceMethod yX6_operationOf ∈ gB := g_mem 373 (by decide +kernel) rfl
theorem wse_333 : Cond.selects RX6 yX6_operationOf yX6_operationOf ∈ gB := g_mem 374 (by decide +kernel) rfl
set_option maxRecDepth 100000 in
theorem wcd_334 : Cond.code yX6_operationOf cX6_operationOf 2 (some .int) ∈ gB := g_mem 375 rfl rfl
theorem wml_335 : Cond.methodLink RX1 49 yX6_targetOf ∈ gB := g_mem 376 (by decide +kernel) rfl
theorem wim_336 : Cond.instanceMethod yX6_targetOf ∈ gB := g_mem 377 (by decide +kernel) rfl
theorem wse_337 : Cond.selects RX6 yX6_targetOf yX6_targetOf ∈ gB := g_mem 378 (by decide +kernel) rfl
set_option maxRecDepth 100000 in
theorem wcd_338 : Cond.code yX6_targetOf cX6_targetOf 2 (some .int) ∈ gB := g_mem 379 rfl rfl
theorem wml_339 : Cond.methodLink RX1 53 yX6_has ∈ gB := g_mem 380 (by decide +kernel) rfl
theorem wim_340 : Cond.instanceMethod yX6_has ∈ gB := g_mem 381 (by decide +kernel) rfl
theorem wse_341 : Cond.selects RX6 yX6_has yX6_has ∈ gB := g_mem 382 (by decide +kernel) rfl
set_option maxRecDepth 100000 in
theorem wcd_342 : Cond.code yX6_has cX6_has 2 (some .boolean) ∈ gB := g_mem 383 rfl rfl
theorem wml_343 : Cond.methodLink RX1 34 yX1_markBegins ∈ gB := g_mem 384 (by decide +kernel) rfl
theorem wim_345 : Cond.instanceMethod yX1_markBegins ∈ gB := g_mem 386 (by decide +kernel) rfl
set_option maxRecDepth 100000 in
theorem wcd_346 : Cond.code yX1_markBegins cX1_markBegins 3 none ∈ gB := g_mem 387 rfl rfl
theorem wml_347 : Cond.methodLink RX1 56 yX6_isExit ∈ gB := g_mem 388 (by decide +kernel) rfl
theorem wim_348 : Cond.instanceMethod yX6_isExit ∈ gB := g_mem 389 (by decide +kernel) rfl
theorem wse_349 : Cond.selects RX6 yX6_isExit yX6_isExit ∈ gB := g_mem 390 (by decide +kernel) rfl
set_option maxRecDepth 100000 in
theorem wcd_350 : Cond.code yX6_isExit cX6_isExit 2 (some .boolean) ∈ gB := g_mem 391 rfl rfl
theorem wml_351 : Cond.methodLink RX1 41 yX1_numberBlocks ∈ gB := g_mem 392 (by decide +kernel) rfl
theorem wim_353 : Cond.instanceMethod yX1_numberBlocks ∈ gB := g_mem 394 (by decide +kernel) rfl
set_option maxRecDepth 100000 in
theorem wcd_354 : Cond.code yX1_numberBlocks cX1_numberBlocks 3 none ∈ gB := g_mem 395 rfl rfl
theorem wml_355 : Cond.methodLink RL 18 yX8_set ∈ gB := g_mem 396 (by decide +kernel) rfl
theorem wim_356 : Cond.instanceMethod yX8_set ∈ gB := g_mem 397 (by decide +kernel) rfl
theorem wse_357 : Cond.selects RX8 yX8_set yX8_set ∈ gB := g_mem 398 (by decide +kernel) rfl
set_option maxRecDepth 100000 in
theorem wcd_358 : Cond.code yX8_set cX8_set 7 (some .int) ∈ gB := g_mem 399 rfl rfl
theorem wml_359 : Cond.methodLink RX8 100 yX6_has ∈ gB := g_mem 400 (by decide +kernel) rfl
theorem wml_360 : Cond.methodLink RX8 104 yX6_operationOf ∈ gB := g_mem 401 (by decide +kernel) rfl
theorem wml_361 : Cond.methodLink RL 23 yX8_removeLast ∈ gB := g_mem 402 (by decide +kernel) rfl
theorem wim_362 : Cond.instanceMethod yX8_removeLast ∈ gB := g_mem 403 (by decide +kernel) rfl
theorem wse_363 : Cond.selects RX8 yX8_removeLast yX8_removeLast ∈ gB := g_mem 404 (by decide +kernel) rfl
set_option maxRecDepth 100000 in
theorem wcd_364 : Cond.code yX8_removeLast cX8_removeLast 2 (some .int) ∈ gB := g_mem 405 rfl rfl
theorem wml_365 : Cond.methodLink RL 28 yX8_size ∈ gB := g_mem 406 (by decide +kernel) rfl
theorem wim_366 : Cond.instanceMethod yX8_size ∈ gB := g_mem 407 (by decide +kernel) rfl
theorem wse_367 : Cond.selects RX8 yX8_size yX8_size ∈ gB := g_mem 408 (by decide +kernel) rfl
set_option maxRecDepth 100000 in
theorem wcd_368 : Cond.code yX8_size cX8_size 1 (some .int) ∈ gB := g_mem 409 rfl rfl
theorem wml_369 : Cond.methodLink RL 32 yX8_part ∈ gB := g_mem 410 (by decide +kernel) rfl
theorem wim_370 : Cond.instanceMethod yX8_part ∈ gB := g_mem 411 (by decide +kernel) rfl
theorem wse_371 : Cond.selects RX8 yX8_part yX8_part ∈ gB := g_mem 412 (by decide +kernel) rfl
set_option maxRecDepth 100000 in
theorem wcd_372 : Cond.code yX8_part cX8_part 3 (some .int) ∈ gB := g_mem 413 rfl rfl
theorem wml_373 : Cond.methodLink RL 37 yX8_undo ∈ gB := g_mem 414 (by decide +kernel) rfl
theorem wim_374 : Cond.instanceMethod yX8_undo ∈ gB := g_mem 415 (by decide +kernel) rfl
theorem wse_375 : Cond.selects RX8 yX8_undo yX8_undo ∈ gB := g_mem 416 (by decide +kernel) rfl
set_option maxRecDepth 100000 in
theorem wcd_376 : Cond.code yX8_undo cX8_undo 1 (some .int) ∈ gB := g_mem 417 rfl rfl
theorem wml_377 : Cond.methodLink RX8 113 yX3_takeBack ∈ gB := g_mem 418 (by decide +kernel) rfl
theorem wim_378 : Cond.instanceMethod yX3_takeBack ∈ gB := g_mem 419 (by decide +kernel) rfl
theorem wse_379 : Cond.selects RX3 yX3_takeBack yX3_takeBack ∈ gB := g_mem 420 (by decide +kernel) rfl
set_option maxRecDepth 100000 in
theorem wcd_380 : Cond.code yX3_takeBack cX3_takeBack 2 none ∈ gB := g_mem 421 rfl rfl
theorem wml_381 : Cond.methodLink RL 41 yX8_blockCount ∈ gB := g_mem 422 (by decide +kernel) rfl
theorem wim_382 : Cond.instanceMethod yX8_blockCount ∈ gB := g_mem 423 (by decide +kernel) rfl
theorem wse_383 : Cond.selects RX8 yX8_blockCount yX8_blockCount ∈ gB := g_mem 424 (by decide +kernel) rfl
set_option maxRecDepth 100000 in
theorem wcd_384 : Cond.code yX8_blockCount cX8_blockCount 1 (some .int) ∈ gB := g_mem 425 rfl rfl
theorem wml_385 : Cond.methodLink RL 45 yX8_blockOf ∈ gB := g_mem 426 (by decide +kernel) rfl
theorem wim_386 : Cond.instanceMethod yX8_blockOf ∈ gB := g_mem 427 (by decide +kernel) rfl
theorem wse_387 : Cond.selects RX8 yX8_blockOf yX8_blockOf ∈ gB := g_mem 428 (by decide +kernel) rfl
set_option maxRecDepth 100000 in
theorem wcd_388 : Cond.code yX8_blockOf cX8_blockOf 2 (some .int) ∈ gB := g_mem 429 rfl rfl
theorem wml_389 : Cond.methodLink RL 50 yX8_blockBegin ∈ gB := g_mem 430 (by decide +kernel) rfl
theorem wim_390 : Cond.instanceMethod yX8_blockBegin ∈ gB := g_mem 431 (by decide +kernel) rfl
theorem wse_391 : Cond.selects RX8 yX8_blockBegin yX8_blockBegin ∈ gB := g_mem 432 (by decide +kernel) rfl
set_option maxRecDepth 100000 in
theorem wcd_392 : Cond.code yX8_blockBegin cX8_blockBegin 2 (some .int) ∈ gB := g_mem 433 rfl rfl
theorem wml_393 : Cond.methodLink RX8 124 yX1_has ∈ gB := g_mem 434 (by decide +kernel) rfl
theorem wim_394 : Cond.instanceMethod yX1_has ∈ gB := g_mem 435 (by decide +kernel) rfl
theorem wse_395 : Cond.selects RX1 yX1_has yX1_has ∈ gB := g_mem 436 (by decide +kernel) rfl
set_option maxRecDepth 100000 in
theorem wcd_396 : Cond.code yX1_has cX1_has 2 (some .boolean) ∈ gB := g_mem 437 rfl rfl
theorem wml_397 : Cond.methodLink RL 54 yX8_distance ∈ gB := g_mem 438 (by decide +kernel) rfl
theorem wim_398 : Cond.instanceMethod yX8_distance ∈ gB := g_mem 439 (by decide +kernel) rfl
theorem wse_399 : Cond.selects RX8 yX8_distance yX8_distance ∈ gB := g_mem 440 (by decide +kernel) rfl
set_option maxRecDepth 100000 in
theorem wcd_400 : Cond.code yX8_distance cX8_distance 3 (some .int) ∈ gB := g_mem 441 rfl rfl
theorem wml_401 : Cond.methodLink RX8 128 yX6_gap ∈ gB := g_mem 442 (by decide +kernel) rfl
theorem wim_402 : Cond.instanceMethod yX6_gap ∈ gB := g_mem 443 (by decide +kernel) rfl
theorem wse_403 : Cond.selects RX6 yX6_gap yX6_gap ∈ gB := g_mem 444 (by decide +kernel) rfl
set_option maxRecDepth 100000 in
theorem wcd_404 : Cond.code yX6_gap cX6_gap 6 (some .int) ∈ gB := g_mem 445 rfl rfl
theorem wml_405 : Cond.methodLink RX6 34 yX6_written ∈ gB := g_mem 446 (by decide +kernel) rfl
theorem wim_406 : Cond.instanceMethod yX6_written ∈ gB := g_mem 447 (by decide +kernel) rfl
theorem wse_407 : Cond.selects RX6 yX6_written yX6_written ∈ gB := g_mem 448 (by decide +kernel) rfl
set_option maxRecDepth 100000 in
theorem wcd_408 : Cond.code yX6_written cX6_written 3 (some .int) ∈ gB := g_mem 449 rfl rfl
theorem wml_409 : Cond.methodLink RX6 37 yX6_read ∈ gB := g_mem 450 (by decide +kernel) rfl
theorem wim_410 : Cond.instanceMethod yX6_read ∈ gB := g_mem 451 (by decide +kernel) rfl
theorem wse_411 : Cond.selects RX6 yX6_read yX6_read ∈ gB := g_mem 452 (by decide +kernel) rfl
set_option maxRecDepth 100000 in
theorem wcd_412 : Cond.code yX6_read cX6_read 3 (some .int) ∈ gB := g_mem 453 rfl rfl
theorem wml_413 : Cond.methodLink RX6 40 yX6_latency ∈ gB := g_mem 454 (by decide +kernel) rfl
theorem wim_414 : Cond.instanceMethod yX6_latency ∈ gB := g_mem 455 (by decide +kernel) rfl
theorem wse_415 : Cond.selects RX6 yX6_latency yX6_latency ∈ gB := g_mem 456 (by decide +kernel) rfl
set_option maxRecDepth 100000 in
theorem wcd_416 : Cond.code yX6_latency cX6_latency 2 (some .int) ∈ gB := g_mem 457 rfl rfl
theorem wml_417 : Cond.methodLink RX6 43 yJ9_max_7cf53 ∈ gB := g_mem 458 (by decide +kernel) rfl
theorem wst_418 : Cond.static yJ9_max_7cf53 ∈ gB := g_mem 459 (by decide +kernel) rfl
set_option maxRecDepth 100000 in
theorem wcd_419 : Cond.code Lib.Math.max.name Lib.Math.max.code 2 (some .int) ∈ gB := g_mem 460 rfl rfl
theorem wml_420 : Cond.methodLink RL 58 yX8_addTemplate ∈ gB := g_mem 461 (by decide +kernel) rfl
theorem wim_421 : Cond.instanceMethod yX8_addTemplate ∈ gB := g_mem 462 (by decide +kernel) rfl
theorem wse_422 : Cond.selects RX8 yX8_addTemplate yX8_addTemplate ∈ gB := g_mem 463 (by decide +kernel) rfl
set_option maxRecDepth 100000 in
theorem wcd_423 : Cond.code yX8_addTemplate cX8_addTemplate 5 (some .int) ∈ gB := g_mem 464 rfl rfl
theorem wml_424 : Cond.methodLink RX8 132 yX7_isType ∈ gB := g_mem 465 (by decide +kernel) rfl
theorem wst_425 : Cond.static yX7_isType ∈ gB := g_mem 466 (by decide +kernel) rfl
set_option maxRecDepth 100000 in
theorem wcd_426 : Cond.code yX7_isType cX7_isType 1 (some .boolean) ∈ gB := g_mem 467 rfl rfl
theorem wml_427 : Cond.methodLink RX8 136 yX7_append ∈ gB := g_mem 468 (by decide +kernel) rfl
theorem wim_428 : Cond.instanceMethod yX7_append ∈ gB := g_mem 469 (by decide +kernel) rfl
theorem wse_429 : Cond.selects RX7 yX7_append yX7_append ∈ gB := g_mem 470 (by decide +kernel) rfl
set_option maxRecDepth 100000 in
theorem wcd_430 : Cond.code yX7_append cX7_append 5 none ∈ gB := g_mem 471 rfl rfl
theorem wml_431 : Cond.methodLink RL 62 yX8_clearTemplates ∈ gB := g_mem 472 (by decide +kernel) rfl
theorem wim_432 : Cond.instanceMethod yX8_clearTemplates ∈ gB := g_mem 473 (by decide +kernel) rfl
theorem wse_433 : Cond.selects RX8 yX8_clearTemplates yX8_clearTemplates ∈ gB := g_mem 474 (by decide +kernel) rfl
set_option maxRecDepth 100000 in
theorem wcd_434 : Cond.code yX8_clearTemplates cX8_clearTemplates 2 (some .int) ∈ gB := g_mem 475 rfl rfl
theorem wml_435 : Cond.methodLink RL 66 yX8_templateCount ∈ gB := g_mem 476 (by decide +kernel) rfl
theorem wim_436 : Cond.instanceMethod yX8_templateCount ∈ gB := g_mem 477 (by decide +kernel) rfl
theorem wse_437 : Cond.selects RX8 yX8_templateCount yX8_templateCount ∈ gB := g_mem 478 (by decide +kernel) rfl
set_option maxRecDepth 100000 in
theorem wcd_438 : Cond.code yX8_templateCount cX8_templateCount 1 (some .int) ∈ gB := g_mem 479 rfl rfl
theorem wml_439 : Cond.methodLink RL 70 yX8_template ∈ gB := g_mem 480 (by decide +kernel) rfl
theorem wim_440 : Cond.instanceMethod yX8_template ∈ gB := g_mem 481 (by decide +kernel) rfl
theorem wse_441 : Cond.selects RX8 yX8_template yX8_template ∈ gB := g_mem 482 (by decide +kernel) rfl
set_option maxRecDepth 100000 in
theorem wcd_442 : Cond.code yX8_template cX8_template 3 (some .int) ∈ gB := g_mem 483 rfl rfl
theorem wml_443 : Cond.methodLink RL 74 yX8_pack ∈ gB := g_mem 484 (by decide +kernel) rfl
theorem wim_444 : Cond.instanceMethod yX8_pack ∈ gB := g_mem 485 (by decide +kernel) rfl
theorem wse_445 : Cond.selects RX8 yX8_pack yX8_pack ∈ gB := g_mem 486 (by decide +kernel) rfl
set_option maxRecDepth 100000 in
theorem wcd_446 : Cond.code yX8_pack cX8_pack 2 (some .int) ∈ gB := g_mem 487 rfl rfl
theorem wml_447 : Cond.methodLink RX8 146 yX5_clear ∈ gB := g_mem 488 (by decide +kernel) rfl
theorem wim_448 : Cond.instanceMethod yX5_clear ∈ gB := g_mem 489 (by decide +kernel) rfl
theorem wse_449 : Cond.selects RX5 yX5_clear yX5_clear ∈ gB := g_mem 490 (by decide +kernel) rfl
set_option maxRecDepth 100000 in
theorem wcd_450 : Cond.code yX5_clear cX5_clear 1 none ∈ gB := g_mem 491 rfl rfl
theorem wml_451 : Cond.methodLink RX8 149 yX2_enter ∈ gB := g_mem 492 (by decide +kernel) rfl
theorem wim_452 : Cond.instanceMethod yX2_enter ∈ gB := g_mem 493 (by decide +kernel) rfl
theorem wse_453 : Cond.selects RX2 yX2_enter yX2_enter ∈ gB := g_mem 494 (by decide +kernel) rfl
set_option maxRecDepth 100000 in
theorem wcd_454 : Cond.code yX2_enter cX2_enter 3 none ∈ gB := g_mem 495 rfl rfl
theorem wml_455 : Cond.methodLink RX8 153 yX5_takeBlock ∈ gB := g_mem 496 (by decide +kernel) rfl
theorem wim_456 : Cond.instanceMethod yX5_takeBlock ∈ gB := g_mem 497 (by decide +kernel) rfl
theorem wse_457 : Cond.selects RX5 yX5_takeBlock yX5_takeBlock ∈ gB := g_mem 498 (by decide +kernel) rfl
set_option maxRecDepth 100000 in
theorem wcd_458 : Cond.code yX5_takeBlock cX5_takeBlock 7 (some .boolean) ∈ gB := g_mem 499 rfl rfl
theorem wml_459 : Cond.methodLink RX5 61 yX2_chosenTemplate ∈ gB := g_mem 500 (by decide +kernel) rfl
theorem wim_460 : Cond.instanceMethod yX2_chosenTemplate ∈ gB := g_mem 501 (by decide +kernel) rfl
theorem wse_461 : Cond.selects RX2 yX2_chosenTemplate yX2_chosenTemplate ∈ gB := g_mem 502 (by decide +kernel) rfl
set_option maxRecDepth 100000 in
theorem wcd_462 : Cond.code yX2_chosenTemplate cX2_chosenTemplate 7 (some .int) ∈ gB := g_mem 503 rfl rfl
theorem wml_463 : Cond.methodLink RX2 69 yX2_fill ∈ gB := g_mem 504 (by decide +kernel) rfl
theorem wim_464 : Cond.instanceMethod yX2_fill ∈ gB := g_mem 505 (by decide +kernel) rfl
theorem wse_465 : Cond.selects RX2 yX2_fill yX2_fill ∈ gB := g_mem 506 (by decide +kernel) rfl
set_option maxRecDepth 100000 in
theorem wcd_466 : Cond.code yX2_fill cX2_fill 5 none ∈ gB := g_mem 507 rfl rfl
theorem wml_467 : Cond.methodLink RX2 39 yX6_operationOf ∈ gB := g_mem 508 (by decide +kernel) rfl
theorem wml_468 : Cond.methodLink RX2 51 yX7_fits ∈ gB := g_mem 509 (by decide +kernel) rfl
theorem wst_469 : Cond.static yX7_fits ∈ gB := g_mem 510 (by decide +kernel) rfl
set_option maxRecDepth 100000 in
theorem wcd_470 : Cond.code yX7_fits cX7_fits 2 (some .boolean) ∈ gB := g_mem 511 rfl rfl
theorem wml_471 : Cond.methodLink RX2 55 yX2_isReady ∈ gB := g_mem 512 (by decide +kernel) rfl
theorem wim_473 : Cond.instanceMethod yX2_isReady ∈ gB := g_mem 514 (by decide +kernel) rfl
set_option maxRecDepth 100000 in
theorem wcd_474 : Cond.code yX2_isReady cX2_isReady 3 (some .boolean) ∈ gB := g_mem 515 rfl rfl
theorem wml_475 : Cond.methodLink RX2 62 yX6_gap ∈ gB := g_mem 516 (by decide +kernel) rfl
theorem wml_476 : Cond.methodLink RX2 59 yX7_stopsBehind ∈ gB := g_mem 517 (by decide +kernel) rfl
theorem wim_477 : Cond.instanceMethod yX7_stopsBehind ∈ gB := g_mem 518 (by decide +kernel) rfl
theorem wse_478 : Cond.selects RX7 yX7_stopsBehind yX7_stopsBehind ∈ gB := g_mem 519 (by decide +kernel) rfl
set_option maxRecDepth 100000 in
theorem wcd_479 : Cond.code yX7_stopsBehind cX7_stopsBehind 3 (some .boolean) ∈ gB := g_mem 520 rfl rfl
theorem wml_480 : Cond.methodLink RX2 73 yX2_isPreferred ∈ gB := g_mem 521 (by decide +kernel) rfl
theorem wim_482 : Cond.instanceMethod yX2_isPreferred ∈ gB := g_mem 523 (by decide +kernel) rfl
set_option maxRecDepth 100000 in
theorem wcd_483 : Cond.code yX2_isPreferred cX2_isPreferred 5 (some .boolean) ∈ gB := g_mem 524 rfl rfl
theorem wml_484 : Cond.methodLink RX2 77 yX7_stopCount ∈ gB := g_mem 525 (by decide +kernel) rfl
theorem wim_485 : Cond.instanceMethod yX7_stopCount ∈ gB := g_mem 526 (by decide +kernel) rfl
theorem wse_486 : Cond.selects RX7 yX7_stopCount yX7_stopCount ∈ gB := g_mem 527 (by decide +kernel) rfl
set_option maxRecDepth 100000 in
theorem wcd_487 : Cond.code yX7_stopCount cX7_stopCount 2 (some .int) ∈ gB := g_mem 528 rfl rfl
theorem wml_488 : Cond.methodLink RX7 24 yJ6_bitCount_0f7a4 ∈ gB := g_mem 529 (by decide +kernel) rfl
theorem wst_489 : Cond.static yJ6_bitCount_0f7a4 ∈ gB := g_mem 530 (by decide +kernel) rfl
set_option maxRecDepth 100000 in
theorem wcd_490 : Cond.code yJ6_bitCount_0f7a4 cJ6_bitCount_0f7a4 1 (some .int) ∈ gB := g_mem 531 rfl rfl
theorem wco_491 : Cond.constant RJ6 265 (1431655765) ∈ gB := g_mem 532 (by decide +kernel) rfl
theorem wco_492 : Cond.constant RJ6 266 (858993459) ∈ gB := g_mem 533 (by decide +kernel) rfl
theorem wco_493 : Cond.constant RJ6 267 (252645135) ∈ gB := g_mem 534 (by decide +kernel) rfl
theorem wml_494 : Cond.methodLink RX5 65 yX2_fill ∈ gB := g_mem 535 (by decide +kernel) rfl
theorem wml_495 : Cond.methodLink RX5 75 yX5_takeBundle ∈ gB := g_mem 536 (by decide +kernel) rfl
theorem wim_497 : Cond.instanceMethod yX5_takeBundle ∈ gB := g_mem 538 (by decide +kernel) rfl
set_option maxRecDepth 100000 in
theorem wcd_498 : Cond.code yX5_takeBundle cX5_takeBundle 6 none ∈ gB := g_mem 539 rfl rfl
theorem wml_499 : Cond.methodLink RX5 84 yX5_due ∈ gB := g_mem 540 (by decide +kernel) rfl
theorem wim_500 : Cond.instanceMethod yX5_due ∈ gB := g_mem 541 (by decide +kernel) rfl
theorem wse_501 : Cond.selects RX5 yX5_due yX5_due ∈ gB := g_mem 542 (by decide +kernel) rfl
set_option maxRecDepth 100000 in
theorem wcd_502 : Cond.code yX5_due cX5_due 2 (some .int) ∈ gB := g_mem 543 rfl rfl
theorem wml_503 : Cond.methodLink RX5 93 yX6_latency ∈ gB := g_mem 544 (by decide +kernel) rfl
theorem wml_504 : Cond.methodLink RX5 88 yJ9_max_7cf53 ∈ gB := g_mem 545 (by decide +kernel) rfl
theorem wml_505 : Cond.methodLink RX8 157 yX5_writeCode ∈ gB := g_mem 546 (by decide +kernel) rfl
theorem wim_506 : Cond.instanceMethod yX5_writeCode ∈ gB := g_mem 547 (by decide +kernel) rfl
theorem wse_507 : Cond.selects RX5 yX5_writeCode yX5_writeCode ∈ gB := g_mem 548 (by decide +kernel) rfl
set_option maxRecDepth 100000 in
theorem wcd_508 : Cond.code yX5_writeCode cX5_writeCode 3 none ∈ gB := g_mem 549 rfl rfl
theorem wml_509 : Cond.methodLink RX5 101 yX5_filledSlots ∈ gB := g_mem 550 (by decide +kernel) rfl
theorem wim_511 : Cond.instanceMethod yX5_filledSlots ∈ gB := g_mem 552 (by decide +kernel) rfl
set_option maxRecDepth 100000 in
theorem wcd_512 : Cond.code yX5_filledSlots cX5_filledSlots 4 (some .int) ∈ gB := g_mem 553 rfl rfl
theorem wml_513 : Cond.methodLink RX5 104 yX5_writeBundle ∈ gB := g_mem 554 (by decide +kernel) rfl
theorem wim_515 : Cond.instanceMethod yX5_writeBundle ∈ gB := g_mem 556 (by decide +kernel) rfl
set_option maxRecDepth 100000 in
theorem wcd_516 : Cond.code yX5_writeBundle cX5_writeBundle 3 none ∈ gB := g_mem 557 rfl rfl
theorem wml_517 : Cond.methodLink RX5 108 yX5_writeNumber ∈ gB := g_mem 558 (by decide +kernel) rfl
theorem wim_519 : Cond.instanceMethod yX5_writeNumber ∈ gB := g_mem 560 (by decide +kernel) rfl
set_option maxRecDepth 100000 in
theorem wcd_520 : Cond.code yX5_writeNumber cX5_writeNumber 2 none ∈ gB := g_mem 561 rfl rfl
theorem wml_521 : Cond.methodLink RL 78 yX8_unpack ∈ gB := g_mem 562 (by decide +kernel) rfl
theorem wim_522 : Cond.instanceMethod yX8_unpack ∈ gB := g_mem 563 (by decide +kernel) rfl
theorem wse_523 : Cond.selects RX8 yX8_unpack yX8_unpack ∈ gB := g_mem 564 (by decide +kernel) rfl
set_option maxRecDepth 100000 in
theorem wcd_524 : Cond.code yX8_unpack cX8_unpack 1 (some .int) ∈ gB := g_mem 565 rfl rfl
theorem wml_525 : Cond.methodLink RL 82 yX8_bundleCount ∈ gB := g_mem 566 (by decide +kernel) rfl
theorem wim_526 : Cond.instanceMethod yX8_bundleCount ∈ gB := g_mem 567 (by decide +kernel) rfl
theorem wse_527 : Cond.selects RX8 yX8_bundleCount yX8_bundleCount ∈ gB := g_mem 568 (by decide +kernel) rfl
set_option maxRecDepth 100000 in
theorem wcd_528 : Cond.code yX8_bundleCount cX8_bundleCount 1 (some .int) ∈ gB := g_mem 569 rfl rfl
theorem wml_529 : Cond.methodLink RL 86 yX8_bundle ∈ gB := g_mem 570 (by decide +kernel) rfl
theorem wim_530 : Cond.instanceMethod yX8_bundle ∈ gB := g_mem 571 (by decide +kernel) rfl
theorem wse_531 : Cond.selects RX8 yX8_bundle yX8_bundle ∈ gB := g_mem 572 (by decide +kernel) rfl
set_option maxRecDepth 100000 in
theorem wcd_532 : Cond.code yX8_bundle cX8_bundle 3 (some .int) ∈ gB := g_mem 573 rfl rfl
theorem wml_533 : Cond.methodLink RL 90 yX8_placeOf ∈ gB := g_mem 574 (by decide +kernel) rfl
theorem wim_534 : Cond.instanceMethod yX8_placeOf ∈ gB := g_mem 575 (by decide +kernel) rfl
theorem wse_535 : Cond.selects RX8 yX8_placeOf yX8_placeOf ∈ gB := g_mem 576 (by decide +kernel) rfl
set_option maxRecDepth 100000 in
theorem wcd_536 : Cond.code yX8_placeOf cX8_placeOf 3 (some .int) ∈ gB := g_mem 577 rfl rfl
theorem wml_537 : Cond.methodLink RL 94 yX8_cycles ∈ gB := g_mem 578 (by decide +kernel) rfl
theorem wim_538 : Cond.instanceMethod yX8_cycles ∈ gB := g_mem 579 (by decide +kernel) rfl
theorem wse_539 : Cond.selects RX8 yX8_cycles yX8_cycles ∈ gB := g_mem 580 (by decide +kernel) rfl
set_option maxRecDepth 100000 in
theorem wcd_540 : Cond.code yX8_cycles cX8_cycles 2 (some .int) ∈ gB := g_mem 581 rfl rfl
theorem wml_541 : Cond.methodLink RL 98 yX8_emptySlots ∈ gB := g_mem 582 (by decide +kernel) rfl
theorem wim_542 : Cond.instanceMethod yX8_emptySlots ∈ gB := g_mem 583 (by decide +kernel) rfl
theorem wse_543 : Cond.selects RX8 yX8_emptySlots yX8_emptySlots ∈ gB := g_mem 584 (by decide +kernel) rfl
set_option maxRecDepth 100000 in
theorem wcd_544 : Cond.code yX8_emptySlots cX8_emptySlots 1 (some .int) ∈ gB := g_mem 585 rfl rfl
theorem wml_545 : Cond.methodLink RL 102 yX8_least ∈ gB := g_mem 586 (by decide +kernel) rfl
theorem wim_546 : Cond.instanceMethod yX8_least ∈ gB := g_mem 587 (by decide +kernel) rfl
theorem wse_547 : Cond.selects RX8 yX8_least yX8_least ∈ gB := g_mem 588 (by decide +kernel) rfl
set_option maxRecDepth 100000 in
theorem wcd_548 : Cond.code yX8_least cX8_least 5 (some .int) ∈ gB := g_mem 589 rfl rfl
theorem wml_549 : Cond.methodLink RX8 182 yX8_packsInto ∈ gB := g_mem 590 (by decide +kernel) rfl
theorem wst_550 : Cond.static yX8_packsInto ∈ gB := g_mem 591 (by decide +kernel) rfl
set_option maxRecDepth 100000 in
theorem wcd_551 : Cond.code yX8_packsInto cX8_packsInto 6 (some .boolean) ∈ gB := g_mem 592 rfl rfl
theorem wml_552 : Cond.methodLink RX8 231 yX2_fill ∈ gB := g_mem 593 (by decide +kernel) rfl
theorem wml_553 : Cond.methodLink RL 106 yX8_codeLength ∈ gB := g_mem 594 (by decide +kernel) rfl
theorem wim_554 : Cond.instanceMethod yX8_codeLength ∈ gB := g_mem 595 (by decide +kernel) rfl
theorem wse_555 : Cond.selects RX8 yX8_codeLength yX8_codeLength ∈ gB := g_mem 596 (by decide +kernel) rfl
set_option maxRecDepth 100000 in
theorem wcd_556 : Cond.code yX8_codeLength cX8_codeLength 1 (some .int) ∈ gB := g_mem 597 rfl rfl
theorem wml_557 : Cond.methodLink RL 110 yX8_code ∈ gB := g_mem 598 (by decide +kernel) rfl
theorem wim_558 : Cond.instanceMethod yX8_code ∈ gB := g_mem 599 (by decide +kernel) rfl
theorem wse_559 : Cond.selects RX8 yX8_code yX8_code ∈ gB := g_mem 600 (by decide +kernel) rfl
set_option maxRecDepth 100000 in
theorem wcd_560 : Cond.code yX8_code cX8_code 2 (some .int) ∈ gB := g_mem 601 rfl rfl
theorem wml_561 : Cond.methodLink RL 114 yX8_codeIndex ∈ gB := g_mem 602 (by decide +kernel) rfl
theorem wim_562 : Cond.instanceMethod yX8_codeIndex ∈ gB := g_mem 603 (by decide +kernel) rfl
theorem wse_563 : Cond.selects RX8 yX8_codeIndex yX8_codeIndex ∈ gB := g_mem 604 (by decide +kernel) rfl
set_option maxRecDepth 100000 in
theorem wcd_564 : Cond.code yX8_codeIndex cX8_codeIndex 2 (some .int) ∈ gB := g_mem 605 rfl rfl
theorem wml_565 : Cond.methodLink RL 118 yX8_setRegister ∈ gB := g_mem 606 (by decide +kernel) rfl
theorem wim_566 : Cond.instanceMethod yX8_setRegister ∈ gB := g_mem 607 (by decide +kernel) rfl
theorem wse_567 : Cond.selects RX8 yX8_setRegister yX8_setRegister ∈ gB := g_mem 608 (by decide +kernel) rfl
set_option maxRecDepth 100000 in
theorem wcd_568 : Cond.code yX8_setRegister cX8_setRegister 3 (some .int) ∈ gB := g_mem 609 rfl rfl
theorem wml_569 : Cond.methodLink RL 122 yX8_register ∈ gB := g_mem 610 (by decide +kernel) rfl
theorem wim_570 : Cond.instanceMethod yX8_register ∈ gB := g_mem 611 (by decide +kernel) rfl
theorem wse_571 : Cond.selects RX8 yX8_register yX8_register ∈ gB := g_mem 612 (by decide +kernel) rfl
set_option maxRecDepth 100000 in
theorem wcd_572 : Cond.code yX8_register cX8_register 2 (some .long) ∈ gB := g_mem 613 rfl rfl
theorem wco_573 : Cond.constantLong RX8 200 (-9223372036854775808) ∈ gB := g_mem 614 (by decide +kernel) rfl
theorem wml_574 : Cond.methodLink RL 127 yX8_setMemory ∈ gB := g_mem 615 (by decide +kernel) rfl
theorem wim_575 : Cond.instanceMethod yX8_setMemory ∈ gB := g_mem 616 (by decide +kernel) rfl
theorem wse_576 : Cond.selects RX8 yX8_setMemory yX8_setMemory ∈ gB := g_mem 617 (by decide +kernel) rfl
set_option maxRecDepth 100000 in
theorem wcd_577 : Cond.code yX8_setMemory cX8_setMemory 3 (some .int) ∈ gB := g_mem 618 rfl rfl
theorem wml_578 : Cond.methodLink RL 131 yX8_memory ∈ gB := g_mem 619 (by decide +kernel) rfl
theorem wim_579 : Cond.instanceMethod yX8_memory ∈ gB := g_mem 620 (by decide +kernel) rfl
theorem wse_580 : Cond.selects RX8 yX8_memory yX8_memory ∈ gB := g_mem 621 (by decide +kernel) rfl
set_option maxRecDepth 100000 in
theorem wcd_581 : Cond.code yX8_memory cX8_memory 2 (some .long) ∈ gB := g_mem 622 rfl rfl
theorem wml_582 : Cond.methodLink RL 135 yX8_run ∈ gB := g_mem 623 (by decide +kernel) rfl
theorem wim_583 : Cond.instanceMethod yX8_run ∈ gB := g_mem 624 (by decide +kernel) rfl
theorem wse_584 : Cond.selects RX8 yX8_run yX8_run ∈ gB := g_mem 625 (by decide +kernel) rfl
set_option maxRecDepth 100000 in
theorem wcd_585 : Cond.code yX8_run cX8_run 2 (some .int) ∈ gB := g_mem 626 rfl rfl
theorem wml_586 : Cond.methodLink RX8 205 yX8_executeProgram ∈ gB := g_mem 627 (by decide +kernel) rfl
theorem wim_588 : Cond.instanceMethod yX8_executeProgram ∈ gB := g_mem 629 (by decide +kernel) rfl
set_option maxRecDepth 100000 in
theorem wcd_589 : Cond.code yX8_executeProgram cX8_executeProgram 5 (some .int) ∈ gB := g_mem 630 rfl rfl
theorem wml_590 : Cond.methodLink RX8 220 yX4_step ∈ gB := g_mem 631 (by decide +kernel) rfl
theorem wim_591 : Cond.instanceMethod yX4_step ∈ gB := g_mem 632 (by decide +kernel) rfl
theorem wse_592 : Cond.selects RX4 yX4_step yX4_step ∈ gB := g_mem 633 (by decide +kernel) rfl
set_option maxRecDepth 100000 in
theorem wcd_593 : Cond.code yX4_step cX4_step 4 (some .int) ∈ gB := g_mem 634 rfl rfl
theorem wml_594 : Cond.methodLink RX4 24 yX4_successor ∈ gB := g_mem 635 (by decide +kernel) rfl
theorem wim_595 : Cond.instanceMethod yX4_successor ∈ gB := g_mem 636 (by decide +kernel) rfl
theorem wse_596 : Cond.selects RX4 yX4_successor yX4_successor ∈ gB := g_mem 637 (by decide +kernel) rfl
set_option maxRecDepth 100000 in
theorem wcd_597 : Cond.code yX4_successor cX4_successor 3 (some .int) ∈ gB := g_mem 638 rfl rfl
theorem wml_598 : Cond.methodLink RX4 28 yX4_cellOf ∈ gB := g_mem 639 (by decide +kernel) rfl
theorem wim_599 : Cond.instanceMethod yX4_cellOf ∈ gB := g_mem 640 (by decide +kernel) rfl
theorem wse_600 : Cond.selects RX4 yX4_cellOf yX4_cellOf ∈ gB := g_mem 641 (by decide +kernel) rfl
set_option maxRecDepth 100000 in
theorem wcd_601 : Cond.code yX4_cellOf cX4_cellOf 3 (some .int) ∈ gB := g_mem 642 rfl rfl
theorem wml_602 : Cond.methodLink RX4 32 yX4_resultOf ∈ gB := g_mem 643 (by decide +kernel) rfl
theorem wim_603 : Cond.instanceMethod yX4_resultOf ∈ gB := g_mem 644 (by decide +kernel) rfl
theorem wse_604 : Cond.selects RX4 yX4_resultOf yX4_resultOf ∈ gB := g_mem 645 (by decide +kernel) rfl
set_option maxRecDepth 100000 in
theorem wcd_605 : Cond.code yX4_resultOf cX4_resultOf 2 (some .int) ∈ gB := g_mem 646 rfl rfl
theorem wml_606 : Cond.methodLink RX4 39 yX4_calculated ∈ gB := g_mem 647 (by decide +kernel) rfl
theorem wst_607 : Cond.static yX4_calculated ∈ gB := g_mem 648 (by decide +kernel) rfl
set_option maxRecDepth 100000 in
theorem wcd_608 : Cond.code yX4_calculated cX4_calculated 3 (some .int) ∈ gB := g_mem 649 rfl rfl
theorem wml_609 : Cond.methodLink RX4 35 yX4_take ∈ gB := g_mem 650 (by decide +kernel) rfl
theorem wim_610 : Cond.instanceMethod yX4_take ∈ gB := g_mem 651 (by decide +kernel) rfl
theorem wse_611 : Cond.selects RX4 yX4_take yX4_take ∈ gB := g_mem 652 (by decide +kernel) rfl
set_option maxRecDepth 100000 in
theorem wcd_612 : Cond.code yX4_take cX4_take 4 none ∈ gB := g_mem 653 rfl rfl
theorem wml_613 : Cond.methodLink RL 139 yX8_runBundles ∈ gB := g_mem 654 (by decide +kernel) rfl
theorem wim_614 : Cond.instanceMethod yX8_runBundles ∈ gB := g_mem 655 (by decide +kernel) rfl
theorem wse_615 : Cond.selects RX8 yX8_runBundles yX8_runBundles ∈ gB := g_mem 656 (by decide +kernel) rfl
set_option maxRecDepth 100000 in
theorem wcd_616 : Cond.code yX8_runBundles cX8_runBundles 2 (some .int) ∈ gB := g_mem 657 rfl rfl
theorem wml_617 : Cond.methodLink RX8 209 yX8_executePacking ∈ gB := g_mem 658 (by decide +kernel) rfl
theorem wim_619 : Cond.instanceMethod yX8_executePacking ∈ gB := g_mem 660 (by decide +kernel) rfl
set_option maxRecDepth 100000 in
theorem wcd_620 : Cond.code yX8_executePacking cX8_executePacking 6 (some .int) ∈ gB := g_mem 661 rfl rfl
theorem wml_621 : Cond.methodLink RX8 224 yX0_execute ∈ gB := g_mem 662 (by decide +kernel) rfl
theorem wim_622 : Cond.instanceMethod yX0_execute ∈ gB := g_mem 663 (by decide +kernel) rfl
theorem wse_623 : Cond.selects RX0 yX0_execute yX0_execute ∈ gB := g_mem 664 (by decide +kernel) rfl
set_option maxRecDepth 100000 in
theorem wcd_624 : Cond.code yX0_execute cX0_execute 8 (some .int) ∈ gB := g_mem 665 rfl rfl
theorem wml_625 : Cond.methodLink RX0 40 yX0_deliver ∈ gB := g_mem 666 (by decide +kernel) rfl
theorem wim_627 : Cond.instanceMethod yX0_deliver ∈ gB := g_mem 668 (by decide +kernel) rfl
set_option maxRecDepth 100000 in
theorem wcd_628 : Cond.code yX0_deliver cX0_deliver 6 none ∈ gB := g_mem 669 rfl rfl
theorem wml_629 : Cond.methodLink RX0 70 yX5_due ∈ gB := g_mem 670 (by decide +kernel) rfl
theorem wml_630 : Cond.methodLink RX0 73 yX4_take ∈ gB := g_mem 671 (by decide +kernel) rfl
theorem wml_631 : Cond.methodLink RX0 53 yX4_resultOf ∈ gB := g_mem 672 (by decide +kernel) rfl
theorem wml_632 : Cond.methodLink RX0 59 yX4_cellOf ∈ gB := g_mem 673 (by decide +kernel) rfl
theorem wml_633 : Cond.methodLink RX0 62 yX4_successor ∈ gB := g_mem 674 (by decide +kernel) rfl
theorem wml_634 : Cond.methodLink RX0 66 yX0_blockAt ∈ gB := g_mem 675 (by decide +kernel) rfl
theorem wim_636 : Cond.instanceMethod yX0_blockAt ∈ gB := g_mem 677 (by decide +kernel) rfl
set_option maxRecDepth 100000 in
theorem wcd_637 : Cond.code yX0_blockAt cX0_blockAt 2 (some .int) ∈ gB := g_mem 678 rfl rfl
theorem wml_638 : Cond.methodLink RX0 77 yX6_has ∈ gB := g_mem 679 (by decide +kernel) rfl
theorem wml_639 : Cond.methodLink RL 143 yX8_compare ∈ gB := g_mem 680 (by decide +kernel) rfl
theorem wim_640 : Cond.instanceMethod yX8_compare ∈ gB := g_mem 681 (by decide +kernel) rfl
theorem wse_641 : Cond.selects RX8 yX8_compare yX8_compare ∈ gB := g_mem 682 (by decide +kernel) rfl
set_option maxRecDepth 100000 in
theorem wcd_642 : Cond.code yX8_compare cX8_compare 3 (some .int) ∈ gB := g_mem 683 rfl rfl
theorem wml_643 : Cond.methodLink RX8 212 yX4_copyFrom ∈ gB := g_mem 684 (by decide +kernel) rfl
theorem wim_644 : Cond.instanceMethod yX4_copyFrom ∈ gB := g_mem 685 (by decide +kernel) rfl
theorem wse_645 : Cond.selects RX4 yX4_copyFrom yX4_copyFrom ∈ gB := g_mem 686 (by decide +kernel) rfl
set_option maxRecDepth 100000 in
theorem wcd_646 : Cond.code yX4_copyFrom cX4_copyFrom 2 none ∈ gB := g_mem 687 rfl rfl
theorem wml_647 : Cond.methodLink RX4 18 arraycopyName ∈ gB := g_mem 688 (by decide +kernel) rfl
theorem wml_648 : Cond.methodLink RX8 216 yX4_holdsTheSameAs ∈ gB := g_mem 689 (by decide +kernel) rfl
theorem wim_649 : Cond.instanceMethod yX4_holdsTheSameAs ∈ gB := g_mem 690 (by decide +kernel) rfl
theorem wse_650 : Cond.selects RX4 yX4_holdsTheSameAs yX4_holdsTheSameAs ∈ gB := g_mem 691 (by decide +kernel) rfl
set_option maxRecDepth 100000 in
theorem wcd_651 : Cond.code yX4_holdsTheSameAs cX4_holdsTheSameAs 3 (some .boolean) ∈ gB := g_mem 692 rfl rfl
theorem wcl_652 : Cond.classLink RL 10 RX9 ∈ gB := g_mem 693 (by decide +kernel) rfl
theorem wis_653 : Cond.instantiable RX9 34 ∈ gB := g_mem 694 (by decide +kernel) rfl
theorem wml_654 : Cond.methodLink RL 12 yX9_init ∈ gB := g_mem 695 (by decide +kernel) rfl
theorem wim_655 : Cond.instanceMethod yX9_init ∈ gB := g_mem 696 (by decide +kernel) rfl
set_option maxRecDepth 100000 in
theorem wcd_656 : Cond.code yX9_init cX9_init 1 none ∈ gB := g_mem 697 rfl rfl
theorem wml_657 : Cond.methodLink RX9 1 objectInit ∈ gB := g_mem 698 (by decide +kernel) rfl
theorem wcl_658 : Cond.classLink RX9 9 "[[I" ∈ gB := g_mem 699 (by decide +kernel) rfl
theorem wcl_659 : Cond.classLink RX9 14 "[[[I" ∈ gB := g_mem 700 (by decide +kernel) rfl
theorem wfl_661 : Cond.fieldLink RX9 89 "SlotBundlerModel" "size" "I" ∈ gB := g_mem 702 (by decide +kernel) rfl
theorem wfl_662 : Cond.fieldLink RX9 11 "SlotBundlerModel" "program" "[[I" ∈ gB := g_mem 703 (by decide +kernel) rfl
theorem wfl_663 : Cond.fieldLink RX9 16 "SlotBundlerModel" "history" "[[[I" ∈ gB := g_mem 704 (by decide +kernel) rfl
theorem wfl_664 : Cond.fieldLink RX9 19 "SlotBundlerModel" "historySizes" "[I" ∈ gB := g_mem 705 (by decide +kernel) rfl
theorem wfl_665 : Cond.fieldLink RX9 81 "SlotBundlerModel" "remembered" "I" ∈ gB := g_mem 706 (by decide +kernel) rfl
theorem wfl_666 : Cond.fieldLink RX9 23 "SlotBundlerModel" "blockOf" "[I" ∈ gB := g_mem 707 (by decide +kernel) rfl
theorem wfl_667 : Cond.fieldLink RX9 26 "SlotBundlerModel" "begins" "[I" ∈ gB := g_mem 708 (by decide +kernel) rfl
theorem wfl_668 : Cond.fieldLink RX9 134 "SlotBundlerModel" "blocks" "I" ∈ gB := g_mem 709 (by decide +kernel) rfl
theorem wfl_669 : Cond.fieldLink RX9 154 "SlotBundlerModel" "templates" "I" ∈ gB := g_mem 710 (by decide +kernel) rfl
theorem wfl_670 : Cond.fieldLink RX9 29 "SlotBundlerModel" "types" "[[I" ∈ gB := g_mem 711 (by decide +kernel) rfl
theorem wfl_671 : Cond.fieldLink RX9 32 "SlotBundlerModel" "stops" "[I" ∈ gB := g_mem 712 (by decide +kernel) rfl
theorem wfl_672 : Cond.fieldLink RX9 35 "SlotBundlerModel" "groups" "[I" ∈ gB := g_mem 713 (by decide +kernel) rfl
theorem wfl_673 : Cond.fieldLink RX9 38 "SlotBundlerModel" "filled" "[I" ∈ gB := g_mem 714 (by decide +kernel) rfl
theorem wfl_674 : Cond.fieldLink RX9 157 "SlotBundlerModel" "next" "I" ∈ gB := g_mem 715 (by decide +kernel) rfl
theorem wfl_675 : Cond.fieldLink RX9 160 "SlotBundlerModel" "present" "I" ∈ gB := g_mem 716 (by decide +kernel) rfl
theorem wfl_676 : Cond.fieldLink RX9 163 "SlotBundlerModel" "put" "I" ∈ gB := g_mem 717 (by decide +kernel) rfl
theorem wfl_677 : Cond.fieldLink RX9 100 "SlotBundlerModel" "isPacked" "Z" ∈ gB := g_mem 718 (by decide +kernel) rfl
theorem wfl_678 : Cond.fieldLink RX9 178 "SlotBundlerModel" "bundles" "I" ∈ gB := g_mem 719 (by decide +kernel) rfl
theorem wfl_679 : Cond.fieldLink RX9 41 "SlotBundlerModel" "bundleSlots" "[[I" ∈ gB := g_mem 720 (by decide +kernel) rfl
theorem wfl_680 : Cond.fieldLink RX9 44 "SlotBundlerModel" "places" "[[I" ∈ gB := g_mem 721 (by decide +kernel) rfl
theorem wfl_681 : Cond.fieldLink RX9 47 "SlotBundlerModel" "bundleTemplates" "[I" ∈ gB := g_mem 722 (by decide +kernel) rfl
theorem wfl_682 : Cond.fieldLink RX9 50 "SlotBundlerModel" "bundleBlocks" "[I" ∈ gB := g_mem 723 (by decide +kernel) rfl
theorem wfl_683 : Cond.fieldLink RX9 191 "SlotBundlerModel" "fewest" "I" ∈ gB := g_mem 724 (by decide +kernel) rfl
theorem wfl_684 : Cond.fieldLink RX9 53 "SlotBundlerModel" "code" "[I" ∈ gB := g_mem 725 (by decide +kernel) rfl
theorem wfl_685 : Cond.fieldLink RX9 56 "SlotBundlerModel" "codeBegins" "[I" ∈ gB := g_mem 726 (by decide +kernel) rfl
theorem wfl_686 : Cond.fieldLink RX9 197 "SlotBundlerModel" "codeLength" "I" ∈ gB := g_mem 727 (by decide +kernel) rfl
theorem wfl_687 : Cond.fieldLink RX9 59 "SlotBundlerModel" "state" "[I" ∈ gB := g_mem 728 (by decide +kernel) rfl
theorem wfl_688 : Cond.fieldLink RX9 62 "SlotBundlerModel" "aside" "[I" ∈ gB := g_mem 729 (by decide +kernel) rfl
theorem wfl_689 : Cond.fieldLink RX9 65 "SlotBundlerModel" "other" "[I" ∈ gB := g_mem 730 (by decide +kernel) rfl
theorem wfl_690 : Cond.fieldLink RX9 214 "SlotBundlerModel" "steps" "I" ∈ gB := g_mem 731 (by decide +kernel) rfl
theorem wfl_691 : Cond.fieldLink RX9 68 "SlotBundlerModel" "awaitedPlaces" "[I" ∈ gB := g_mem 732 (by decide +kernel) rfl
theorem wfl_692 : Cond.fieldLink RX9 71 "SlotBundlerModel" "awaitedValues" "[I" ∈ gB := g_mem 733 (by decide +kernel) rfl
theorem wfl_693 : Cond.fieldLink RX9 74 "SlotBundlerModel" "awaitedGroups" "[I" ∈ gB := g_mem 734 (by decide +kernel) rfl
theorem wfl_694 : Cond.fieldLink RX9 229 "SlotBundlerModel" "cycleSum" "I" ∈ gB := g_mem 735 (by decide +kernel) rfl
theorem wml_764 : Cond.methodLink RL 17 yX9_add ∈ gB := g_mem 805 (by decide +kernel) rfl
theorem wim_765 : Cond.instanceMethod yX9_add ∈ gB := g_mem 806 (by decide +kernel) rfl
theorem wse_766 : Cond.selects RX9 yX9_add yX9_add ∈ gB := g_mem 807 (by decide +kernel) rfl
set_option maxRecDepth 100000 in
theorem wcd_767 : Cond.code yX9_add cX9_add 5 (some .int) ∈ gB := g_mem 808 rfl rfl
theorem wml_768 : Cond.methodLink RX9 96 yX9_isInstruction ∈ gB := g_mem 809 (by decide +kernel) rfl
theorem wst_769 : Cond.static yX9_isInstruction ∈ gB := g_mem 810 (by decide +kernel) rfl
set_option maxRecDepth 100000 in
theorem wcd_770 : Cond.code yX9_isInstruction cX9_isInstruction 4 (some .boolean) ∈ gB := g_mem 811 rfl rfl
theorem wml_771 : Cond.methodLink RX9 77 yX9_isBetween ∈ gB := g_mem 812 (by decide +kernel) rfl
theorem wst_772 : Cond.static yX9_isBetween ∈ gB := g_mem 813 (by decide +kernel) rfl
set_option maxRecDepth 100000 in
theorem wcd_773 : Cond.code yX9_isBetween cX9_isBetween 3 (some .boolean) ∈ gB := g_mem 814 rfl rfl
theorem wml_774 : Cond.methodLink RX9 92 yX9_isRegister ∈ gB := g_mem 815 (by decide +kernel) rfl
theorem wst_775 : Cond.static yX9_isRegister ∈ gB := g_mem 816 (by decide +kernel) rfl
set_option maxRecDepth 100000 in
theorem wcd_776 : Cond.code yX9_isRegister cX9_isRegister 1 (some .boolean) ∈ gB := g_mem 817 rfl rfl
theorem wml_777 : Cond.methodLink RX9 104 yX9_remember ∈ gB := g_mem 818 (by decide +kernel) rfl
theorem wim_779 : Cond.instanceMethod yX9_remember ∈ gB := g_mem 820 (by decide +kernel) rfl
set_option maxRecDepth 100000 in
theorem wcd_780 : Cond.code yX9_remember cX9_remember 2 none ∈ gB := g_mem 821 rfl rfl
theorem wml_781 : Cond.methodLink RX9 85 yX9_copy ∈ gB := g_mem 822 (by decide +kernel) rfl
theorem wst_782 : Cond.static yX9_copy ∈ gB := g_mem 823 (by decide +kernel) rfl
set_option maxRecDepth 100000 in
theorem wcd_783 : Cond.code yX9_copy cX9_copy 3 none ∈ gB := g_mem 824 rfl rfl
theorem wml_784 : Cond.methodLink RX9 107 yX9_put ∈ gB := g_mem 825 (by decide +kernel) rfl
theorem wim_786 : Cond.instanceMethod yX9_put ∈ gB := g_mem 827 (by decide +kernel) rfl
set_option maxRecDepth 100000 in
theorem wcd_787 : Cond.code yX9_put cX9_put 6 none ∈ gB := g_mem 828 rfl rfl
theorem wml_788 : Cond.methodLink RL 22 yX9_set ∈ gB := g_mem 829 (by decide +kernel) rfl
theorem wim_789 : Cond.instanceMethod yX9_set ∈ gB := g_mem 830 (by decide +kernel) rfl
theorem wse_790 : Cond.selects RX9 yX9_set yX9_set ∈ gB := g_mem 831 (by decide +kernel) rfl
set_option maxRecDepth 100000 in
theorem wcd_791 : Cond.code yX9_set cX9_set 7 (some .int) ∈ gB := g_mem 832 rfl rfl
theorem wml_792 : Cond.methodLink RX9 111 yX9_isThere ∈ gB := g_mem 833 (by decide +kernel) rfl
theorem wim_794 : Cond.instanceMethod yX9_isThere ∈ gB := g_mem 835 (by decide +kernel) rfl
set_option maxRecDepth 100000 in
theorem wcd_795 : Cond.code yX9_isThere cX9_isThere 2 (some .boolean) ∈ gB := g_mem 836 rfl rfl
theorem wml_796 : Cond.methodLink RL 27 yX9_removeLast ∈ gB := g_mem 837 (by decide +kernel) rfl
theorem wim_797 : Cond.instanceMethod yX9_removeLast ∈ gB := g_mem 838 (by decide +kernel) rfl
theorem wse_798 : Cond.selects RX9 yX9_removeLast yX9_removeLast ∈ gB := g_mem 839 (by decide +kernel) rfl
set_option maxRecDepth 100000 in
theorem wcd_799 : Cond.code yX9_removeLast cX9_removeLast 1 (some .int) ∈ gB := g_mem 840 rfl rfl
theorem wml_800 : Cond.methodLink RL 31 yX9_size ∈ gB := g_mem 841 (by decide +kernel) rfl
theorem wim_801 : Cond.instanceMethod yX9_size ∈ gB := g_mem 842 (by decide +kernel) rfl
theorem wse_802 : Cond.selects RX9 yX9_size yX9_size ∈ gB := g_mem 843 (by decide +kernel) rfl
set_option maxRecDepth 100000 in
theorem wcd_803 : Cond.code yX9_size cX9_size 1 (some .int) ∈ gB := g_mem 844 rfl rfl
theorem wml_804 : Cond.methodLink RL 36 yX9_part ∈ gB := g_mem 845 (by decide +kernel) rfl
theorem wim_805 : Cond.instanceMethod yX9_part ∈ gB := g_mem 846 (by decide +kernel) rfl
theorem wse_806 : Cond.selects RX9 yX9_part yX9_part ∈ gB := g_mem 847 (by decide +kernel) rfl
set_option maxRecDepth 100000 in
theorem wcd_807 : Cond.code yX9_part cX9_part 3 (some .int) ∈ gB := g_mem 848 rfl rfl
theorem wml_808 : Cond.methodLink RL 40 yX9_undo ∈ gB := g_mem 849 (by decide +kernel) rfl
theorem wim_809 : Cond.instanceMethod yX9_undo ∈ gB := g_mem 850 (by decide +kernel) rfl
theorem wse_810 : Cond.selects RX9 yX9_undo yX9_undo ∈ gB := g_mem 851 (by decide +kernel) rfl
set_option maxRecDepth 100000 in
theorem wcd_811 : Cond.code yX9_undo cX9_undo 1 (some .int) ∈ gB := g_mem 852 rfl rfl
theorem wml_812 : Cond.methodLink RL 44 yX9_blockCount ∈ gB := g_mem 853 (by decide +kernel) rfl
theorem wim_813 : Cond.instanceMethod yX9_blockCount ∈ gB := g_mem 854 (by decide +kernel) rfl
theorem wse_814 : Cond.selects RX9 yX9_blockCount yX9_blockCount ∈ gB := g_mem 855 (by decide +kernel) rfl
set_option maxRecDepth 100000 in
theorem wcd_815 : Cond.code yX9_blockCount cX9_blockCount 1 (some .int) ∈ gB := g_mem 856 rfl rfl
theorem wml_816 : Cond.methodLink RX9 140 yX9_isComplete ∈ gB := g_mem 857 (by decide +kernel) rfl
theorem wim_818 : Cond.instanceMethod yX9_isComplete ∈ gB := g_mem 859 (by decide +kernel) rfl
set_option maxRecDepth 100000 in
theorem wcd_819 : Cond.code yX9_isComplete cX9_isComplete 3 (some .boolean) ∈ gB := g_mem 860 rfl rfl
theorem wml_820 : Cond.methodLink RX9 131 yX9_hasTarget ∈ gB := g_mem 861 (by decide +kernel) rfl
theorem wim_822 : Cond.instanceMethod yX9_hasTarget ∈ gB := g_mem 863 (by decide +kernel) rfl
set_option maxRecDepth 100000 in
theorem wcd_823 : Cond.code yX9_hasTarget cX9_hasTarget 2 (some .boolean) ∈ gB := g_mem 864 rfl rfl
theorem wml_824 : Cond.methodLink RX9 114 yX9_operation ∈ gB := g_mem 865 (by decide +kernel) rfl
theorem wim_826 : Cond.instanceMethod yX9_operation ∈ gB := g_mem 867 (by decide +kernel) rfl
set_option maxRecDepth 100000 in
theorem wcd_827 : Cond.code yX9_operation cX9_operation 2 (some .int) ∈ gB := g_mem 868 rfl rfl
theorem wml_828 : Cond.methodLink RX9 144 yX9_findBlocks ∈ gB := g_mem 869 (by decide +kernel) rfl
theorem wim_830 : Cond.instanceMethod yX9_findBlocks ∈ gB := g_mem 871 (by decide +kernel) rfl
set_option maxRecDepth 100000 in
theorem wcd_831 : Cond.code yX9_findBlocks cX9_findBlocks 2 none ∈ gB := g_mem 872 rfl rfl
theorem wml_832 : Cond.methodLink RX9 137 yX9_beginsBlock ∈ gB := g_mem 873 (by decide +kernel) rfl
theorem wim_834 : Cond.instanceMethod yX9_beginsBlock ∈ gB := g_mem 875 (by decide +kernel) rfl
set_option maxRecDepth 100000 in
theorem wcd_835 : Cond.code yX9_beginsBlock cX9_beginsBlock 4 (some .boolean) ∈ gB := g_mem 876 rfl rfl
theorem wml_836 : Cond.methodLink RX9 128 yX9_isExit ∈ gB := g_mem 877 (by decide +kernel) rfl
theorem wim_838 : Cond.instanceMethod yX9_isExit ∈ gB := g_mem 879 (by decide +kernel) rfl
set_option maxRecDepth 100000 in
theorem wcd_839 : Cond.code yX9_isExit cX9_isExit 2 (some .boolean) ∈ gB := g_mem 880 rfl rfl
theorem wml_840 : Cond.methodLink RL 49 yX9_blockOf ∈ gB := g_mem 881 (by decide +kernel) rfl
theorem wim_841 : Cond.instanceMethod yX9_blockOf ∈ gB := g_mem 882 (by decide +kernel) rfl
theorem wse_842 : Cond.selects RX9 yX9_blockOf yX9_blockOf ∈ gB := g_mem 883 (by decide +kernel) rfl
set_option maxRecDepth 100000 in
theorem wcd_843 : Cond.code yX9_blockOf cX9_blockOf 2 (some .int) ∈ gB := g_mem 884 rfl rfl
theorem wml_844 : Cond.methodLink RL 53 yX9_blockBegin ∈ gB := g_mem 885 (by decide +kernel) rfl
theorem wim_845 : Cond.instanceMethod yX9_blockBegin ∈ gB := g_mem 886 (by decide +kernel) rfl
theorem wse_846 : Cond.selects RX9 yX9_blockBegin yX9_blockBegin ∈ gB := g_mem 887 (by decide +kernel) rfl
set_option maxRecDepth 100000 in
theorem wcd_847 : Cond.code yX9_blockBegin cX9_blockBegin 2 (some .int) ∈ gB := g_mem 888 rfl rfl
theorem wml_848 : Cond.methodLink RL 57 yX9_distance ∈ gB := g_mem 889 (by decide +kernel) rfl
theorem wim_849 : Cond.instanceMethod yX9_distance ∈ gB := g_mem 890 (by decide +kernel) rfl
theorem wse_850 : Cond.selects RX9 yX9_distance yX9_distance ∈ gB := g_mem 891 (by decide +kernel) rfl
set_option maxRecDepth 100000 in
theorem wcd_851 : Cond.code yX9_distance cX9_distance 3 (some .int) ∈ gB := g_mem 892 rfl rfl
theorem wml_852 : Cond.methodLink RX9 147 yX9_distanceOf ∈ gB := g_mem 893 (by decide +kernel) rfl
theorem wim_854 : Cond.instanceMethod yX9_distanceOf ∈ gB := g_mem 895 (by decide +kernel) rfl
set_option maxRecDepth 100000 in
theorem wcd_855 : Cond.code yX9_distanceOf cX9_distanceOf 7 (some .int) ∈ gB := g_mem 896 rfl rfl
theorem wml_856 : Cond.methodLink RX9 118 yX9_written ∈ gB := g_mem 897 (by decide +kernel) rfl
theorem wim_858 : Cond.instanceMethod yX9_written ∈ gB := g_mem 899 (by decide +kernel) rfl
set_option maxRecDepth 100000 in
theorem wcd_859 : Cond.code yX9_written cX9_written 2 (some .int) ∈ gB := g_mem 900 rfl rfl
theorem wml_860 : Cond.methodLink RX9 121 yX9_reads ∈ gB := g_mem 901 (by decide +kernel) rfl
theorem wim_862 : Cond.instanceMethod yX9_reads ∈ gB := g_mem 903 (by decide +kernel) rfl
set_option maxRecDepth 100000 in
theorem wcd_863 : Cond.code yX9_reads cX9_reads 6 (some .boolean) ∈ gB := g_mem 904 rfl rfl
theorem wml_864 : Cond.methodLink RX9 125 yX9_latency ∈ gB := g_mem 905 (by decide +kernel) rfl
theorem wim_866 : Cond.instanceMethod yX9_latency ∈ gB := g_mem 907 (by decide +kernel) rfl
set_option maxRecDepth 100000 in
theorem wcd_867 : Cond.code yX9_latency cX9_latency 2 (some .int) ∈ gB := g_mem 908 rfl rfl
theorem wml_868 : Cond.methodLink RL 61 yX9_addTemplate ∈ gB := g_mem 909 (by decide +kernel) rfl
theorem wim_869 : Cond.instanceMethod yX9_addTemplate ∈ gB := g_mem 910 (by decide +kernel) rfl
theorem wse_870 : Cond.selects RX9 yX9_addTemplate yX9_addTemplate ∈ gB := g_mem 911 (by decide +kernel) rfl
set_option maxRecDepth 100000 in
theorem wcd_871 : Cond.code yX9_addTemplate cX9_addTemplate 5 (some .int) ∈ gB := g_mem 912 rfl rfl
theorem wml_872 : Cond.methodLink RX9 151 yX9_isType ∈ gB := g_mem 913 (by decide +kernel) rfl
theorem wst_873 : Cond.static yX9_isType ∈ gB := g_mem 914 (by decide +kernel) rfl
set_option maxRecDepth 100000 in
theorem wcd_874 : Cond.code yX9_isType cX9_isType 1 (some .boolean) ∈ gB := g_mem 915 rfl rfl
theorem wml_875 : Cond.methodLink RL 65 yX9_clearTemplates ∈ gB := g_mem 916 (by decide +kernel) rfl
theorem wim_876 : Cond.instanceMethod yX9_clearTemplates ∈ gB := g_mem 917 (by decide +kernel) rfl
theorem wse_877 : Cond.selects RX9 yX9_clearTemplates yX9_clearTemplates ∈ gB := g_mem 918 (by decide +kernel) rfl
set_option maxRecDepth 100000 in
theorem wcd_878 : Cond.code yX9_clearTemplates cX9_clearTemplates 2 (some .int) ∈ gB := g_mem 919 rfl rfl
theorem wml_879 : Cond.methodLink RL 69 yX9_templateCount ∈ gB := g_mem 920 (by decide +kernel) rfl
theorem wim_880 : Cond.instanceMethod yX9_templateCount ∈ gB := g_mem 921 (by decide +kernel) rfl
theorem wse_881 : Cond.selects RX9 yX9_templateCount yX9_templateCount ∈ gB := g_mem 922 (by decide +kernel) rfl
set_option maxRecDepth 100000 in
theorem wcd_882 : Cond.code yX9_templateCount cX9_templateCount 1 (some .int) ∈ gB := g_mem 923 rfl rfl
theorem wml_883 : Cond.methodLink RL 73 yX9_template ∈ gB := g_mem 924 (by decide +kernel) rfl
theorem wim_884 : Cond.instanceMethod yX9_template ∈ gB := g_mem 925 (by decide +kernel) rfl
theorem wse_885 : Cond.selects RX9 yX9_template yX9_template ∈ gB := g_mem 926 (by decide +kernel) rfl
set_option maxRecDepth 100000 in
theorem wcd_886 : Cond.code yX9_template cX9_template 3 (some .int) ∈ gB := g_mem 927 rfl rfl
theorem wml_887 : Cond.methodLink RL 77 yX9_pack ∈ gB := g_mem 928 (by decide +kernel) rfl
theorem wim_888 : Cond.instanceMethod yX9_pack ∈ gB := g_mem 929 (by decide +kernel) rfl
theorem wse_889 : Cond.selects RX9 yX9_pack yX9_pack ∈ gB := g_mem 930 (by decide +kernel) rfl
set_option maxRecDepth 100000 in
theorem wcd_890 : Cond.code yX9_pack cX9_pack 2 (some .int) ∈ gB := g_mem 931 rfl rfl
theorem wml_891 : Cond.methodLink RX9 185 yX9_packBlock ∈ gB := g_mem 932 (by decide +kernel) rfl
theorem wim_893 : Cond.instanceMethod yX9_packBlock ∈ gB := g_mem 934 (by decide +kernel) rfl
set_option maxRecDepth 100000 in
theorem wcd_894 : Cond.code yX9_packBlock cX9_packBlock 7 (some .boolean) ∈ gB := g_mem 935 rfl rfl
theorem wml_895 : Cond.methodLink RX9 181 yX9_chosen ∈ gB := g_mem 936 (by decide +kernel) rfl
theorem wim_897 : Cond.instanceMethod yX9_chosen ∈ gB := g_mem 938 (by decide +kernel) rfl
set_option maxRecDepth 100000 in
theorem wcd_898 : Cond.code yX9_chosen cX9_chosen 9 (some .int) ∈ gB := g_mem 939 rfl rfl
theorem wml_899 : Cond.methodLink RX9 171 yX9_fill ∈ gB := g_mem 940 (by decide +kernel) rfl
theorem wim_901 : Cond.instanceMethod yX9_fill ∈ gB := g_mem 942 (by decide +kernel) rfl
set_option maxRecDepth 100000 in
theorem wcd_902 : Cond.code yX9_fill cX9_fill 7 none ∈ gB := g_mem 943 rfl rfl
theorem wml_903 : Cond.methodLink RX9 165 yX9_fits ∈ gB := g_mem 944 (by decide +kernel) rfl
theorem wim_905 : Cond.instanceMethod yX9_fits ∈ gB := g_mem 946 (by decide +kernel) rfl
set_option maxRecDepth 100000 in
theorem wcd_906 : Cond.code yX9_fits cX9_fits 4 (some .boolean) ∈ gB := g_mem 947 rfl rfl
theorem wml_907 : Cond.methodLink RX9 168 yX9_isReady ∈ gB := g_mem 948 (by decide +kernel) rfl
theorem wim_909 : Cond.instanceMethod yX9_isReady ∈ gB := g_mem 950 (by decide +kernel) rfl
set_option maxRecDepth 100000 in
theorem wcd_910 : Cond.code yX9_isReady cX9_isReady 6 (some .boolean) ∈ gB := g_mem 951 rfl rfl
theorem wml_911 : Cond.methodLink RX9 175 yX9_countMarks ∈ gB := g_mem 952 (by decide +kernel) rfl
theorem wst_912 : Cond.static yX9_countMarks ∈ gB := g_mem 953 (by decide +kernel) rfl
set_option maxRecDepth 100000 in
theorem wcd_913 : Cond.code yX9_countMarks cX9_countMarks 1 (some .int) ∈ gB := g_mem 954 rfl rfl
theorem wml_914 : Cond.methodLink RL 81 yX9_unpack ∈ gB := g_mem 955 (by decide +kernel) rfl
theorem wim_915 : Cond.instanceMethod yX9_unpack ∈ gB := g_mem 956 (by decide +kernel) rfl
theorem wse_916 : Cond.selects RX9 yX9_unpack yX9_unpack ∈ gB := g_mem 957 (by decide +kernel) rfl
set_option maxRecDepth 100000 in
theorem wcd_917 : Cond.code yX9_unpack cX9_unpack 1 (some .int) ∈ gB := g_mem 958 rfl rfl
theorem wml_918 : Cond.methodLink RL 85 yX9_bundleCount ∈ gB := g_mem 959 (by decide +kernel) rfl
theorem wim_919 : Cond.instanceMethod yX9_bundleCount ∈ gB := g_mem 960 (by decide +kernel) rfl
theorem wse_920 : Cond.selects RX9 yX9_bundleCount yX9_bundleCount ∈ gB := g_mem 961 (by decide +kernel) rfl
set_option maxRecDepth 100000 in
theorem wcd_921 : Cond.code yX9_bundleCount cX9_bundleCount 1 (some .int) ∈ gB := g_mem 962 rfl rfl
theorem wml_922 : Cond.methodLink RL 89 yX9_bundle ∈ gB := g_mem 963 (by decide +kernel) rfl
theorem wim_923 : Cond.instanceMethod yX9_bundle ∈ gB := g_mem 964 (by decide +kernel) rfl
theorem wse_924 : Cond.selects RX9 yX9_bundle yX9_bundle ∈ gB := g_mem 965 (by decide +kernel) rfl
set_option maxRecDepth 100000 in
theorem wcd_925 : Cond.code yX9_bundle cX9_bundle 3 (some .int) ∈ gB := g_mem 966 rfl rfl
theorem wml_926 : Cond.methodLink RL 93 yX9_placeOf ∈ gB := g_mem 967 (by decide +kernel) rfl
theorem wim_927 : Cond.instanceMethod yX9_placeOf ∈ gB := g_mem 968 (by decide +kernel) rfl
theorem wse_928 : Cond.selects RX9 yX9_placeOf yX9_placeOf ∈ gB := g_mem 969 (by decide +kernel) rfl
set_option maxRecDepth 100000 in
theorem wcd_929 : Cond.code yX9_placeOf cX9_placeOf 3 (some .int) ∈ gB := g_mem 970 rfl rfl
theorem wml_930 : Cond.methodLink RL 97 yX9_cycles ∈ gB := g_mem 971 (by decide +kernel) rfl
theorem wim_931 : Cond.instanceMethod yX9_cycles ∈ gB := g_mem 972 (by decide +kernel) rfl
theorem wse_932 : Cond.selects RX9 yX9_cycles yX9_cycles ∈ gB := g_mem 973 (by decide +kernel) rfl
set_option maxRecDepth 100000 in
theorem wcd_933 : Cond.code yX9_cycles cX9_cycles 2 (some .int) ∈ gB := g_mem 974 rfl rfl
theorem wml_934 : Cond.methodLink RX9 188 yX9_cyclesOf ∈ gB := g_mem 975 (by decide +kernel) rfl
theorem wim_936 : Cond.instanceMethod yX9_cyclesOf ∈ gB := g_mem 977 (by decide +kernel) rfl
set_option maxRecDepth 100000 in
theorem wcd_937 : Cond.code yX9_cyclesOf cX9_cyclesOf 5 (some .int) ∈ gB := g_mem 978 rfl rfl
theorem wml_938 : Cond.methodLink RL 101 yX9_emptySlots ∈ gB := g_mem 979 (by decide +kernel) rfl
theorem wim_939 : Cond.instanceMethod yX9_emptySlots ∈ gB := g_mem 980 (by decide +kernel) rfl
theorem wse_940 : Cond.selects RX9 yX9_emptySlots yX9_emptySlots ∈ gB := g_mem 981 (by decide +kernel) rfl
set_option maxRecDepth 100000 in
theorem wcd_941 : Cond.code yX9_emptySlots cX9_emptySlots 1 (some .int) ∈ gB := g_mem 982 rfl rfl
theorem wml_942 : Cond.methodLink RL 105 yX9_least ∈ gB := g_mem 983 (by decide +kernel) rfl
theorem wim_943 : Cond.instanceMethod yX9_least ∈ gB := g_mem 984 (by decide +kernel) rfl
theorem wse_944 : Cond.selects RX9 yX9_least yX9_least ∈ gB := g_mem 985 (by decide +kernel) rfl
set_option maxRecDepth 100000 in
theorem wcd_945 : Cond.code yX9_least cX9_least 3 (some .int) ∈ gB := g_mem 986 rfl rfl
theorem wml_946 : Cond.methodLink RX9 194 yX9_search ∈ gB := g_mem 987 (by decide +kernel) rfl
theorem wim_948 : Cond.instanceMethod yX9_search ∈ gB := g_mem 989 (by decide +kernel) rfl
set_option maxRecDepth 100000 in
theorem wcd_949 : Cond.code yX9_search cX9_search 7 none ∈ gB := g_mem 990 rfl rfl
theorem wml_950 : Cond.methodLink RL 109 yX9_codeLength ∈ gB := g_mem 991 (by decide +kernel) rfl
theorem wim_951 : Cond.instanceMethod yX9_codeLength ∈ gB := g_mem 992 (by decide +kernel) rfl
theorem wse_952 : Cond.selects RX9 yX9_codeLength yX9_codeLength ∈ gB := g_mem 993 (by decide +kernel) rfl
set_option maxRecDepth 100000 in
theorem wcd_953 : Cond.code yX9_codeLength cX9_codeLength 1 (some .int) ∈ gB := g_mem 994 rfl rfl
theorem wml_954 : Cond.methodLink RX9 207 yX9_findCode ∈ gB := g_mem 995 (by decide +kernel) rfl
theorem wim_956 : Cond.instanceMethod yX9_findCode ∈ gB := g_mem 997 (by decide +kernel) rfl
set_option maxRecDepth 100000 in
theorem wcd_957 : Cond.code yX9_findCode cX9_findCode 4 none ∈ gB := g_mem 998 rfl rfl
theorem wml_958 : Cond.methodLink RX9 200 yX9_isEmpty ∈ gB := g_mem 999 (by decide +kernel) rfl
theorem wim_960 : Cond.instanceMethod yX9_isEmpty ∈ gB := g_mem 1001 (by decide +kernel) rfl
set_option maxRecDepth 100000 in
theorem wcd_961 : Cond.code yX9_isEmpty cX9_isEmpty 2 (some .boolean) ∈ gB := g_mem 1002 rfl rfl
theorem wml_962 : Cond.methodLink RX9 203 yX9_addCode ∈ gB := g_mem 1003 (by decide +kernel) rfl
theorem wim_964 : Cond.instanceMethod yX9_addCode ∈ gB := g_mem 1005 (by decide +kernel) rfl
set_option maxRecDepth 100000 in
theorem wcd_965 : Cond.code yX9_addCode cX9_addCode 4 none ∈ gB := g_mem 1006 rfl rfl
theorem wml_966 : Cond.methodLink RL 113 yX9_code ∈ gB := g_mem 1007 (by decide +kernel) rfl
theorem wim_967 : Cond.instanceMethod yX9_code ∈ gB := g_mem 1008 (by decide +kernel) rfl
theorem wse_968 : Cond.selects RX9 yX9_code yX9_code ∈ gB := g_mem 1009 (by decide +kernel) rfl
set_option maxRecDepth 100000 in
theorem wcd_969 : Cond.code yX9_code cX9_code 2 (some .int) ∈ gB := g_mem 1010 rfl rfl
theorem wml_970 : Cond.methodLink RL 117 yX9_codeIndex ∈ gB := g_mem 1011 (by decide +kernel) rfl
theorem wim_971 : Cond.instanceMethod yX9_codeIndex ∈ gB := g_mem 1012 (by decide +kernel) rfl
theorem wse_972 : Cond.selects RX9 yX9_codeIndex yX9_codeIndex ∈ gB := g_mem 1013 (by decide +kernel) rfl
set_option maxRecDepth 100000 in
theorem wcd_973 : Cond.code yX9_codeIndex cX9_codeIndex 2 (some .int) ∈ gB := g_mem 1014 rfl rfl
theorem wml_974 : Cond.methodLink RL 121 yX9_setRegister ∈ gB := g_mem 1015 (by decide +kernel) rfl
theorem wim_975 : Cond.instanceMethod yX9_setRegister ∈ gB := g_mem 1016 (by decide +kernel) rfl
theorem wse_976 : Cond.selects RX9 yX9_setRegister yX9_setRegister ∈ gB := g_mem 1017 (by decide +kernel) rfl
set_option maxRecDepth 100000 in
theorem wcd_977 : Cond.code yX9_setRegister cX9_setRegister 3 (some .int) ∈ gB := g_mem 1018 rfl rfl
theorem wml_978 : Cond.methodLink RL 126 yX9_register ∈ gB := g_mem 1019 (by decide +kernel) rfl
theorem wim_979 : Cond.instanceMethod yX9_register ∈ gB := g_mem 1020 (by decide +kernel) rfl
theorem wse_980 : Cond.selects RX9 yX9_register yX9_register ∈ gB := g_mem 1021 (by decide +kernel) rfl
set_option maxRecDepth 100000 in
theorem wcd_981 : Cond.code yX9_register cX9_register 2 (some .long) ∈ gB := g_mem 1022 rfl rfl
theorem wco_982 : Cond.constantLong RX9 212 (-9223372036854775808) ∈ gB := g_mem 1023 (by decide +kernel) rfl
theorem wml_983 : Cond.methodLink RL 130 yX9_setMemory ∈ gB := g_mem 1024 (by decide +kernel) rfl
theorem wim_984 : Cond.instanceMethod yX9_setMemory ∈ gB := g_mem 1025 (by decide +kernel) rfl
theorem wse_985 : Cond.selects RX9 yX9_setMemory yX9_setMemory ∈ gB := g_mem 1026 (by decide +kernel) rfl
set_option maxRecDepth 100000 in
theorem wcd_986 : Cond.code yX9_setMemory cX9_setMemory 3 (some .int) ∈ gB := g_mem 1027 rfl rfl
theorem wml_987 : Cond.methodLink RL 134 yX9_memory ∈ gB := g_mem 1028 (by decide +kernel) rfl
theorem wim_988 : Cond.instanceMethod yX9_memory ∈ gB := g_mem 1029 (by decide +kernel) rfl
theorem wse_989 : Cond.selects RX9 yX9_memory yX9_memory ∈ gB := g_mem 1030 (by decide +kernel) rfl
set_option maxRecDepth 100000 in
theorem wcd_990 : Cond.code yX9_memory cX9_memory 2 (some .long) ∈ gB := g_mem 1031 rfl rfl
theorem wml_991 : Cond.methodLink RL 138 yX9_run ∈ gB := g_mem 1032 (by decide +kernel) rfl
theorem wim_992 : Cond.instanceMethod yX9_run ∈ gB := g_mem 1033 (by decide +kernel) rfl
theorem wse_993 : Cond.selects RX9 yX9_run yX9_run ∈ gB := g_mem 1034 (by decide +kernel) rfl
set_option maxRecDepth 100000 in
theorem wcd_994 : Cond.code yX9_run cX9_run 2 (some .int) ∈ gB := g_mem 1035 rfl rfl
theorem wml_995 : Cond.methodLink RX9 226 yX9_execute ∈ gB := g_mem 1036 (by decide +kernel) rfl
theorem wim_997 : Cond.instanceMethod yX9_execute ∈ gB := g_mem 1038 (by decide +kernel) rfl
set_option maxRecDepth 100000 in
theorem wcd_998 : Cond.code yX9_execute cX9_execute 6 (some .boolean) ∈ gB := g_mem 1039 rfl rfl
theorem wml_999 : Cond.methodLink RX9 217 yX9_placeWritten ∈ gB := g_mem 1040 (by decide +kernel) rfl
theorem wim_1001 : Cond.instanceMethod yX9_placeWritten ∈ gB := g_mem 1042 (by decide +kernel) rfl
set_option maxRecDepth 100000 in
theorem wcd_1002 : Cond.code yX9_placeWritten cX9_placeWritten 2 (some .int) ∈ gB := g_mem 1043 rfl rfl
theorem wml_1003 : Cond.methodLink RX9 220 yX9_valueWritten ∈ gB := g_mem 1044 (by decide +kernel) rfl
theorem wim_1005 : Cond.instanceMethod yX9_valueWritten ∈ gB := g_mem 1046 (by decide +kernel) rfl
set_option maxRecDepth 100000 in
theorem wcd_1006 : Cond.code yX9_valueWritten cX9_valueWritten 5 (some .int) ∈ gB := g_mem 1047 rfl rfl
theorem wml_1007 : Cond.methodLink RX9 223 yX9_behind ∈ gB := g_mem 1048 (by decide +kernel) rfl
theorem wim_1009 : Cond.instanceMethod yX9_behind ∈ gB := g_mem 1050 (by decide +kernel) rfl
set_option maxRecDepth 100000 in
theorem wcd_1010 : Cond.code yX9_behind cX9_behind 4 (some .int) ∈ gB := g_mem 1051 rfl rfl
theorem wml_1011 : Cond.methodLink RL 142 yX9_runBundles ∈ gB := g_mem 1052 (by decide +kernel) rfl
theorem wim_1012 : Cond.instanceMethod yX9_runBundles ∈ gB := g_mem 1053 (by decide +kernel) rfl
theorem wse_1013 : Cond.selects RX9 yX9_runBundles yX9_runBundles ∈ gB := g_mem 1054 (by decide +kernel) rfl
set_option maxRecDepth 100000 in
theorem wcd_1014 : Cond.code yX9_runBundles cX9_runBundles 2 (some .int) ∈ gB := g_mem 1055 rfl rfl
theorem wml_1015 : Cond.methodLink RX9 235 yX9_executeBundles ∈ gB := g_mem 1056 (by decide +kernel) rfl
theorem wim_1017 : Cond.instanceMethod yX9_executeBundles ∈ gB := g_mem 1058 (by decide +kernel) rfl
set_option maxRecDepth 100000 in
theorem wcd_1018 : Cond.code yX9_executeBundles cX9_executeBundles 5 (some .boolean) ∈ gB := g_mem 1059 rfl rfl
theorem wml_1019 : Cond.methodLink RX9 232 yX9_executeBlock ∈ gB := g_mem 1060 (by decide +kernel) rfl
theorem wim_1021 : Cond.instanceMethod yX9_executeBlock ∈ gB := g_mem 1062 (by decide +kernel) rfl
set_option maxRecDepth 100000 in
theorem wcd_1022 : Cond.code yX9_executeBlock cX9_executeBlock 8 (some .int) ∈ gB := g_mem 1063 rfl rfl
theorem wml_1023 : Cond.methodLink RL 146 yX9_compare ∈ gB := g_mem 1064 (by decide +kernel) rfl
theorem wim_1024 : Cond.instanceMethod yX9_compare ∈ gB := g_mem 1065 (by decide +kernel) rfl
theorem wse_1025 : Cond.selects RX9 yX9_compare yX9_compare ∈ gB := g_mem 1066 (by decide +kernel) rfl
set_option maxRecDepth 100000 in
theorem wcd_1026 : Cond.code yX9_compare cX9_compare 5 (some .int) ∈ gB := g_mem 1067 rfl rfl
theorem wsp_0 : Cond.selects RX1 yX1_markBegins yX1_markBegins ∈ gB := g_mem 0 (by decide +kernel) rfl
theorem wsp_1 : Cond.selects RX1 yX1_numberBlocks yX1_numberBlocks ∈ gB := g_mem 1 (by decide +kernel) rfl
theorem wsp_2 : Cond.selects RX2 yX2_isReady yX2_isReady ∈ gB := g_mem 2 (by decide +kernel) rfl
theorem wsp_3 : Cond.selects RX2 yX2_isPreferred yX2_isPreferred ∈ gB := g_mem 3 (by decide +kernel) rfl
theorem wsp_4 : Cond.selects RX5 yX5_takeBundle yX5_takeBundle ∈ gB := g_mem 4 (by decide +kernel) rfl
theorem wsp_5 : Cond.selects RX5 yX5_filledSlots yX5_filledSlots ∈ gB := g_mem 5 (by decide +kernel) rfl
theorem wsp_6 : Cond.selects RX5 yX5_writeBundle yX5_writeBundle ∈ gB := g_mem 6 (by decide +kernel) rfl
theorem wsp_7 : Cond.selects RX5 yX5_writeNumber yX5_writeNumber ∈ gB := g_mem 7 (by decide +kernel) rfl
theorem wsp_8 : Cond.selects RX8 yX8_executeProgram yX8_executeProgram ∈ gB := g_mem 8 (by decide +kernel) rfl
theorem wsp_9 : Cond.selects RX8 yX8_executePacking yX8_executePacking ∈ gB := g_mem 9 (by decide +kernel) rfl
theorem wsp_10 : Cond.selects RX0 yX0_deliver yX0_deliver ∈ gB := g_mem 10 (by decide +kernel) rfl
theorem wsp_11 : Cond.selects RX0 yX0_blockAt yX0_blockAt ∈ gB := g_mem 11 (by decide +kernel) rfl
theorem wsp_12 : Cond.selects RX9 yX9_remember yX9_remember ∈ gB := g_mem 12 (by decide +kernel) rfl
theorem wsp_13 : Cond.selects RX9 yX9_put yX9_put ∈ gB := g_mem 13 (by decide +kernel) rfl
theorem wsp_14 : Cond.selects RX9 yX9_isThere yX9_isThere ∈ gB := g_mem 14 (by decide +kernel) rfl
theorem wsp_15 : Cond.selects RX9 yX9_isComplete yX9_isComplete ∈ gB := g_mem 15 (by decide +kernel) rfl
theorem wsp_16 : Cond.selects RX9 yX9_hasTarget yX9_hasTarget ∈ gB := g_mem 16 (by decide +kernel) rfl
theorem wsp_17 : Cond.selects RX9 yX9_operation yX9_operation ∈ gB := g_mem 17 (by decide +kernel) rfl
theorem wsp_18 : Cond.selects RX9 yX9_findBlocks yX9_findBlocks ∈ gB := g_mem 18 (by decide +kernel) rfl
theorem wsp_19 : Cond.selects RX9 yX9_beginsBlock yX9_beginsBlock ∈ gB := g_mem 19 (by decide +kernel) rfl
theorem wsp_20 : Cond.selects RX9 yX9_isExit yX9_isExit ∈ gB := g_mem 20 (by decide +kernel) rfl
theorem wsp_21 : Cond.selects RX9 yX9_distanceOf yX9_distanceOf ∈ gB := g_mem 21 (by decide +kernel) rfl
theorem wsp_22 : Cond.selects RX9 yX9_written yX9_written ∈ gB := g_mem 22 (by decide +kernel) rfl
theorem wsp_23 : Cond.selects RX9 yX9_reads yX9_reads ∈ gB := g_mem 23 (by decide +kernel) rfl
theorem wsp_24 : Cond.selects RX9 yX9_latency yX9_latency ∈ gB := g_mem 24 (by decide +kernel) rfl
theorem wsp_25 : Cond.selects RX9 yX9_packBlock yX9_packBlock ∈ gB := g_mem 25 (by decide +kernel) rfl
theorem wsp_26 : Cond.selects RX9 yX9_chosen yX9_chosen ∈ gB := g_mem 26 (by decide +kernel) rfl
theorem wsp_27 : Cond.selects RX9 yX9_fill yX9_fill ∈ gB := g_mem 27 (by decide +kernel) rfl
theorem wsp_28 : Cond.selects RX9 yX9_fits yX9_fits ∈ gB := g_mem 28 (by decide +kernel) rfl
theorem wsp_29 : Cond.selects RX9 yX9_isReady yX9_isReady ∈ gB := g_mem 29 (by decide +kernel) rfl
theorem wsp_30 : Cond.selects RX9 yX9_cyclesOf yX9_cyclesOf ∈ gB := g_mem 30 (by decide +kernel) rfl
theorem wsp_31 : Cond.selects RX9 yX9_search yX9_search ∈ gB := g_mem 31 (by decide +kernel) rfl
theorem wsp_32 : Cond.selects RX9 yX9_findCode yX9_findCode ∈ gB := g_mem 32 (by decide +kernel) rfl
theorem wsp_33 : Cond.selects RX9 yX9_isEmpty yX9_isEmpty ∈ gB := g_mem 33 (by decide +kernel) rfl
theorem wsp_34 : Cond.selects RX9 yX9_addCode yX9_addCode ∈ gB := g_mem 34 (by decide +kernel) rfl
theorem wsp_35 : Cond.selects RX9 yX9_execute yX9_execute ∈ gB := g_mem 35 (by decide +kernel) rfl
theorem wsp_36 : Cond.selects RX9 yX9_placeWritten yX9_placeWritten ∈ gB := g_mem 36 (by decide +kernel) rfl
theorem wsp_37 : Cond.selects RX9 yX9_valueWritten yX9_valueWritten ∈ gB := g_mem 37 (by decide +kernel) rfl
theorem wsp_38 : Cond.selects RX9 yX9_behind yX9_behind ∈ gB := g_mem 38 (by decide +kernel) rfl
theorem wsp_39 : Cond.selects RX9 yX9_executeBundles yX9_executeBundles ∈ gB := g_mem 39 (by decide +kernel) rfl
theorem wsp_40 : Cond.selects RX9 yX9_executeBlock yX9_executeBlock ∈ gB := g_mem 40 (by decide +kernel) rfl
theorem inXX0 : ∀ w ∈ wsX00, w ∈ gB := fun w h => List.mem_filter.mpr ⟨(by decide +kernel : ∀ w ∈ wsX00, w ∈ lw_tbl) w h, (by decide +kernel : ∀ w ∈ wsX00, goodWord w = true) w h⟩
theorem inXX1 : ∀ w ∈ wsX10, w ∈ gB := fun w h => List.mem_filter.mpr ⟨(by decide +kernel : ∀ w ∈ wsX10, w ∈ lw_tbl) w h, (by decide +kernel : ∀ w ∈ wsX10, goodWord w = true) w h⟩
theorem inXX2 : ∀ w ∈ wsX20, w ∈ gB := fun w h => List.mem_filter.mpr ⟨(by decide +kernel : ∀ w ∈ wsX20, w ∈ lw_tbl) w h, (by decide +kernel : ∀ w ∈ wsX20, goodWord w = true) w h⟩
theorem inXX3 : ∀ w ∈ wsX30, w ∈ gB := fun w h => List.mem_filter.mpr ⟨(by decide +kernel : ∀ w ∈ wsX30, w ∈ lw_tbl) w h, (by decide +kernel : ∀ w ∈ wsX30, goodWord w = true) w h⟩
theorem inXX4 : ∀ w ∈ wsX40, w ∈ gB := fun w h => List.mem_filter.mpr ⟨(by decide +kernel : ∀ w ∈ wsX40, w ∈ lw_tbl) w h, (by decide +kernel : ∀ w ∈ wsX40, goodWord w = true) w h⟩
theorem inXX5 : ∀ w ∈ wsX50, w ∈ gB := fun w h => List.mem_filter.mpr ⟨(by decide +kernel : ∀ w ∈ wsX50, w ∈ lw_tbl) w h, (by decide +kernel : ∀ w ∈ wsX50, goodWord w = true) w h⟩
theorem inXX6 : ∀ w ∈ wsX60, w ∈ gB := fun w h => List.mem_filter.mpr ⟨(by decide +kernel : ∀ w ∈ wsX60, w ∈ lw_tbl) w h, (by decide +kernel : ∀ w ∈ wsX60, goodWord w = true) w h⟩
theorem inXX7 : ∀ w ∈ wsX70, w ∈ gB := fun w h => List.mem_filter.mpr ⟨(by decide +kernel : ∀ w ∈ wsX70, w ∈ lw_tbl) w h, (by decide +kernel : ∀ w ∈ wsX70, goodWord w = true) w h⟩
theorem inXX8 : ∀ w ∈ wsX80, w ∈ gB := fun w h => List.mem_filter.mpr ⟨(by decide +kernel : ∀ w ∈ wsX80, w ∈ lw_tbl) w h, (by decide +kernel : ∀ w ∈ wsX80, goodWord w = true) w h⟩
theorem inXX9 : ∀ w ∈ wsX90, w ∈ gB := fun w h => List.mem_filter.mpr ⟨(by decide +kernel : ∀ w ∈ wsX90, w ∈ lw_tbl) w h, (by decide +kernel : ∀ w ∈ wsX90, goodWord w = true) w h⟩
end
section
/-! THE WORLD: all cells of the class and of the reference by their numbers (regions); which cell holds which reference never changes, so a state is what the int places hold -/
/-- a state: region, place, value -/
abbrev sg : Type := Nat → Nat → Int32
def up (σ : sg) (r k : Nat) (v : Int32) : sg := fun r' k' => if r' = r ∧ k' = k then v else σ r' k'
theorem up_same (σ : sg) (r k : Nat) (v : Int32) : up σ r k v r k = v := by simp [up]
theorem up_ne (σ : sg) {r k r' k' : Nat} (v : Int32) (h : ¬ (r' = r ∧ k' = k)) : up σ r k v r' k' = σ r' k' := by simp [up, h]
/-- the classes' numbers and slots; the numbers of the array classes; the addresses -/
abbrev gW : Type := va_G × (Nat → ClassId) × (Nat → Nat)
/-- the regions: an object (its class, its fields: a region or an int), or an array (its class, its length, for references the first of the regions it holds) -/
def g_tab : List ((Nat × List (Option Nat)) ⊕ (Nat × Nat × Option Nat)) := [
  .inl (8, [some 1, some 3, some 7, some 11, some 14, some 17, some 27, some 30, some 33, some 36]),
  .inl (6, [some 2, none]), .inr (2, 40, some 61),
  .inl (3, [some 4, some 5, some 6, none, none]), .inr (0, 10, none), .inr (0, 10, none), .inr (2, 10, some 101),
  .inl (1, [some 8, some 9, some 10, none, none]), .inr (0, 41, none), .inr (0, 40, none), .inr (1, 40, none),
  .inl (7, [some 12, some 13, none]), .inr (2, 8, some 111), .inr (0, 8, none),
  .inl (2, [some 1, some 11, some 15, some 16, none, none, none, none]), .inr (0, 40, none), .inr (0, 3, none),
  .inl (5, [some 1, some 18, some 19, some 20, some 21, some 22, some 23, some 24, some 25, some 26, none, none, none]), .inr (2, 60, some 119), .inr (0, 60, none), .inr (0, 60, none), .inr (0, 40, none), .inr (0, 40, none), .inr (0, 40, none), .inr (0, 40, none), .inr (0, 40, none), .inr (0, 100, none),
  .inl (4, [some 28, some 29]), .inr (0, 8, none), .inr (0, 16, none),
  .inl (4, [some 31, some 32]), .inr (0, 8, none), .inr (0, 16, none),
  .inl (4, [some 34, some 35]), .inr (0, 8, none), .inr (0, 16, none),
  .inl (0, [some 1, some 7, some 17, some 37, some 38]), .inr (0, 40, none), .inr (0, 40, none),
  .inl (9, [none, some 40, some 41, some 42, none, some 43, some 44, none, none, some 45, some 46, some 47, some 48, none, none, none, none, none, some 49, some 50, some 51, some 52, none, some 53, some 54, none, some 55, some 56, some 57, none, some 58, some 59, some 60, none]),
  .inr (2, 40, some 179), .inr (3, 10, some 327), .inr (0, 10, none), .inr (0, 40, none), .inr (0, 41, none), .inr (2, 8, some 219), .inr (0, 8, none), .inr (0, 40, none), .inr (0, 3, none), .inr (2, 60, some 227), .inr (2, 40, some 287), .inr (0, 60, none), .inr (0, 60, none), .inr (0, 280, none), .inr (0, 40, none), .inr (0, 24, none), .inr (0, 24, none), .inr (0, 24, none), .inr (0, 40, none), .inr (0, 40, none), .inr (0, 40, none)]
def g_sh (r : Nat) : (Nat × List (Option Nat)) ⊕ (Nat × Nat × Option Nat) :=
  if r < 61 then g_tab.getD r (.inr (0, 0, none)) else if r < 111 then .inr (0, 4, none) else if r < 179 then .inr (0, 3, none) else if r < 219 then .inr (0, 4, none) else if r < 327 then .inr (0, 3, none) else if r < 337 then .inr (2, 40, some (337 + 40 * (r - 327))) else if r < 737 then .inr (0, 4, none) else .inr (9, 0, none)
def g_fv (ad : Nat → Nat) (f : Nat → Int32) : Nat → List (Option Nat) → List Value
  | _, [] => []
  | k, none :: t => .int (f k) :: g_fv ad f (k + 1) t
  | k, some q :: t => .ref (ad q) :: g_fv ad f (k + 1) t
def g_el (G : gW) (σ : sg) (r : Nat) : va_E := match g_sh r with
  | .inl (ci, fl) => .inr (ci, g_fv G.2.2 (σ r) 0 fl)
  | .inr (t, n, none) => .inl (G.2.1 t, n, .inl (σ r))
  | .inr (t, n, some b) => .inl (G.2.1 t, n, .inr (.inr (.inr (.inr (fun k => if k < n then some (G.2.2 (b + k)) else none)))))
def g_ws (G : gW) (σ : sg) : va_W := (List.range 737).map (fun r => (G.2.2 r, g_el G σ r))
def g_tys (G : gW) : List (ClassId × FieldType) := [(G.2.1 0, .int), (G.2.1 1, .boolean), (G.2.1 2, .array .int), (G.2.1 3, .array (.array .int))]
def g_I (G : gW) : Prop := ∀ i j : Nat, i < 737 → j < 737 → G.2.2 i = G.2.2 j → i = j
def g_A (G : gW) : Nat → Prop := fun q => ∃ r : Nat, r < 737 ∧ q = G.2.2 r
theorem g_ws_at (G : gW) (σ : sg) {r : Nat} (h : r < 737) : (g_ws G σ)[r]? = some (G.2.2 r, g_el G σ r) := by
  unfold g_ws
  rw [List.getElem?_map, List.getElem?_range h]
  rfl
theorem g_ws_len (G : gW) (σ : sg) : (g_ws G σ).length = 737 := by simp [g_ws]
theorem g_ws_D {G : gW} {A : Nat → Prop} (hI : g_I G) (hA : ∀ r : Nat, r < 737 → A (G.2.2 r)) (σ : sg) : va_D A (g_ws G σ) := by
  have hb : ∀ (i : Nat) (p : Nat × va_E), (g_ws G σ)[i]? = some p → i < 737 ∧ p.1 = G.2.2 i := fun i p h => by
    have h1 : i < 737 := by
      have := (List.getElem?_eq_some_iff.mp h).1
      rwa [g_ws_len] at this
    rw [g_ws_at G σ h1] at h
    cases h
    exact ⟨h1, rfl⟩
  refine ⟨fun i j p q hi hj e => ?_, fun k q hk => ?_⟩
  · obtain ⟨i1, i2⟩ := hb i p hi
    obtain ⟨j1, j2⟩ := hb j q hj
    exact hI i j i1 j1 (by rw [← i2, ← j2]; exact e)
  · obtain ⟨k1, k2⟩ := hb k q hk
    rw [k2]
    exact hA k k1
theorem g_ws_set (G : gW) {σ σ' : sg} {r : Nat} {e : va_E} (h : r < 737) (hr : g_el G σ' r = e) (ho : ∀ q : Nat, q ≠ r → g_el G σ' q = g_el G σ q) : (g_ws G σ).set r (G.2.2 r, e) = g_ws G σ' := by
  refine List.ext_getElem? fun k => ?_
  by_cases hk : k < 737
  · rw [g_ws_at G σ' hk, List.getElem?_set]
    by_cases e1 : r = k
    · subst e1
      rw [if_pos rfl, if_pos (by rw [g_ws_len]; exact h), hr]
    · rw [if_neg e1, g_ws_at G σ hk, ho k (fun q => e1 q.symm)]
  · rw [List.getElem?_eq_none (by rw [List.length_set, g_ws_len]; omega), List.getElem?_eq_none (by rw [g_ws_len]; omega)]
theorem g_el_congr (G : gW) {σ σ' : sg} {r : Nat} (h : σ r = σ' r) : g_el G σ r = g_el G σ' r := by
  unfold g_el
  rw [h]
theorem up_row {σ : sg} {r k : Nat} {v : Int32} {q : Nat} (h : q ≠ r) : up σ r k v q = σ q := by
  funext k'
  simp [up, h]
theorem up_upd (σ : sg) (r k : Nat) (v : Int32) : up σ r k v r = upd (σ r) k v := by
  funext k'
  by_cases h : k' = k <;> simp [up, upd, h]
theorem g_fv_up (ad : Nat → Nat) (f : Nat → Int32) (v : Int32) : ∀ (fl : List (Option Nat)) (k o : Nat), fl[k]? = some none → g_fv ad (upd f (o + k) v) o fl = (g_fv ad f o fl).set k (.int v) := by
  have tl : ∀ (fl : List (Option Nat)) (n o : Nat), n < o → g_fv ad (upd f n v) o fl = g_fv ad f o fl := by
    intro fl
    induction fl with
    | nil => intro n o _; rfl
    | cons a t ih =>
      intro n o h
      cases a with
      | none =>
        show Value.int (upd f n v o) :: _ = _
        rw [ih n (o + 1) (by omega)]
        simp [g_fv, upd, show ¬ o = n by omega]
      | some q =>
        show Value.ref (ad q) :: _ = _
        rw [ih n (o + 1) (by omega)]
        rfl
  intro fl
  induction fl with
  | nil => intro k o h; cases h
  | cons a t ih =>
    intro k o h
    cases k with
    | zero =>
      cases h
      show Value.int (upd f o v o) :: g_fv ad (upd f o v) (o + 1) t = _
      rw [tl t o (o + 1) (by omega)]
      simp [g_fv, upd]
    | succ k =>
      have h1 := ih k (o + 1) h
      rw [show o + 1 + k = o + (k + 1) by omega] at h1
      cases a with
      | none =>
        show Value.int (upd f (o + (k + 1)) v o) :: g_fv ad (upd f (o + (k + 1)) v) (o + 1) t = _
        rw [h1]
        simp [g_fv, upd]
      | some q =>
        show Value.ref (ad q) :: g_fv ad (upd f (o + (k + 1)) v) (o + 1) t = _
        rw [h1]
        simp [g_fv]
theorem g_fv_int (ad : Nat → Nat) (f : Nat → Int32) : ∀ (fl : List (Option Nat)) (k o : Nat), fl[k]? = some none → (g_fv ad f o fl)[k]? = some (.int (f (o + k))) := by
  intro fl
  induction fl with
  | nil => intro k o h; cases h
  | cons a t ih =>
    intro k o h
    cases k with
    | zero => cases h; rfl
    | succ k =>
      have h1 := ih k (o + 1) h
      rw [show o + 1 + k = o + (k + 1) by omega] at h1
      cases a <;> exact h1
theorem g_fv_ref (ad : Nat → Nat) (f : Nat → Int32) : ∀ (fl : List (Option Nat)) (k o q : Nat), fl[k]? = some (some q) → (g_fv ad f o fl)[k]? = some (.ref (ad q)) := by
  intro fl
  induction fl with
  | nil => intro k o q h; cases h
  | cons a t ih =>
    intro k o q h
    cases k with
    | zero => cases h; rfl
    | succ k =>
      have h1 := ih k (o + 1) q h
      cases a <;> exact h1
theorem g_fv_len (ad : Nat → Nat) (f : Nat → Int32) : ∀ (fl : List (Option Nat)) (o : Nat), (g_fv ad f o fl).length = fl.length := by
  intro fl
  induction fl with
  | nil => intro o; rfl
  | cons a t ih =>
    intro o
    cases a <;> (show _ + 1 = _ + 1; rw [ih (o + 1)])
/-! the places of arrays, by the machine's own test -/
def ix (i : Int32) (n : Nat) : Option Nat := if i < 0 ∨ n ≤ i.toNatClampNeg then none else some i.toNatClampNeg
def ld (σ : sg) (r : Nat) (i : Int32) : Option Int32 := match g_sh r with
  | .inr (0, n, none) => (ix i n).map (σ r)
  | _ => none
def ldz (σ : sg) (r : Nat) (i : Int32) : Option Int32 := match g_sh r with
  | .inr (1, n, none) => (ix i n).map (σ r)
  | _ => none
def ldr (r : Nat) (i : Int32) : Option Nat := match g_sh r with
  | .inr (2, n, some b) => (ix i n).map (fun k => b + k)
  | .inr (3, n, some b) => (ix i n).map (fun k => b + k)
  | _ => none
def st (σ : sg) (r : Nat) (i v : Int32) : Option sg := match g_sh r with
  | .inr (0, n, none) => (ix i n).map (fun k => up σ r k v)
  | _ => none
def stz (σ : sg) (r : Nat) (i v : Int32) : Option sg := match g_sh r with
  | .inr (1, n, none) => (ix i n).map (fun k => up σ r k (vp_nar .boolean v))
  | _ => none
def cp (σ : sg) (r : Nat) (i : Int32) (q : Nat) (j n : Int32) : Option sg := match g_sh r, g_sh q with
  | .inr (0, nr, none), .inr (0, nq, none) => if r ≠ q ∧ ¬ i < 0 ∧ ¬ j < 0 ∧ ¬ n < 0 ∧ i.toNatClampNeg + n.toNatClampNeg ≤ nr ∧ j.toNatClampNeg + n.toNatClampNeg ≤ nq then some (fun r' => if r' = q then va_cpy (σ r) (σ q) i.toNatClampNeg j.toNatClampNeg n.toNatClampNeg else σ r') else none
  | _, _ => none
theorem ix_some {i : Int32} {n k : Nat} (h : ix i n = some k) : vp_in i n ∧ k = i.toNatClampNeg := by
  unfold ix at h
  split at h
  · cases h
  · next q => exact ⟨q, (Option.some.inj h).symm⟩
theorem g_sh_lt {r t n : Nat} {o : Option Nat} (h : g_sh r = .inr (t, n, o)) (ht : t < 9) : r < 737 := by
  by_cases q : r < 737
  · exact q
  · unfold g_sh at h
    rw [if_neg (by omega), if_neg (by omega), if_neg (by omega), if_neg (by omega), if_neg (by omega), if_neg (by omega), if_neg q] at h
    cases h
    omega
/-! loops: a step answers the next state or the end -/
def g_loop {α β : Type} (f : α → Option (α ⊕ β)) : Nat → α → Option β
  | 0, _ => none
  | n + 1, a => match f a with
    | none => none
    | some (.inl b) => g_loop f n b
    | some (.inr b) => some b
theorem g_loop_ind {α β : Type} {f : α → Option (α ⊕ β)} {P : α → Prop} {res : β} (step : ∀ (a : α) (r : α ⊕ β), f a = some r → (∀ b, r = .inl b → P b) → (∀ b, r = .inr b → b = res) → P a) : ∀ (n : Nat) (a : α), g_loop f n a = some res → P a := by
  intro n
  induction n with
  | zero => intro a h; cases h
  | succ n ih =>
    intro a h
    unfold g_loop at h
    split at h
    · cases h
    · next b hb => exact step a _ hb (fun b' e => by cases e; exact ih b h) (fun b' e => by cases e)
    · next b hb => exact step a _ hb (fun b' e => by cases e) (fun b' e => by cases e; exact Option.some.inj h)
/-- how many steps a loop is given -/
def gN : Nat := 100000
end
section
/-! THE ROWS over a state: what a frame is (code place, locals, stack) and how each instruction turns it -/
/-- what stays the same while a method runs: program, launch, env, room, start, method, arguments, frames below, its record, its code, cells and slots spent, the goal, the world's numbers, what may be written -/
abbrev gX : Type := Program × Launch × Env × Room × State × MethodId × Array Value × List Frame × Method × Code × (Nat × Nat) × (State → Prop) × gW × (Nat → Prop)
abbrev Xp (X : gX) : Program := X.1
abbrev Xl (X : gX) : Launch := X.2.1
abbrev Xe (X : gX) : Env := X.2.2.1
abbrev XR (X : gX) : Room := X.2.2.2.1
abbrev Xs (X : gX) : State := X.2.2.2.2.1
abbrev Xm (X : gX) : MethodId := X.2.2.2.2.2.1
abbrev Xa (X : gX) : Array Value := X.2.2.2.2.2.2.1
abbrev Xb (X : gX) : List Frame := X.2.2.2.2.2.2.2.1
abbrev Xt (X : gX) : Method := X.2.2.2.2.2.2.2.2.1
abbrev Xc (X : gX) : Code := X.2.2.2.2.2.2.2.2.2.1
abbrev Xk (X : gX) : Nat × Nat := X.2.2.2.2.2.2.2.2.2.2.1
abbrev XQ (X : gX) : State → Prop := X.2.2.2.2.2.2.2.2.2.2.2.1
abbrev XG (X : gX) : gW := X.2.2.2.2.2.2.2.2.2.2.2.2.1
abbrev XA (X : gX) : Nat → Prop := X.2.2.2.2.2.2.2.2.2.2.2.2.2
/-- the heap holds the state -/
def g_at (G : gW) (σ : sg) (H : Heap) : Prop := va_P G.1 vwCl (g_ws G σ) H
/-- at code place pc, with these locals and this stack, in this state, the run comes to the goal -/
def G (X : gX) (nL : Nat) (σ : sg) (pc : Nat) (lv : List (Nat × Value)) (stk : List Value) : Prop :=
  ∀ (H : Heap) (locs : List Loc) (ls : Array Slot), g_at (XG X) σ H → va_S (XA X) (Xs X).heap H locs → lv_has ls nL lv → W (Xp X) (Xl X) (Xe X) (XR X) (Xs X) (Xm X) (Xa X) (Xb X) (Xt X) (Xc X) H locs (Xk X).1 (Xk X).2 (XQ X) (F0 (Xm X) pc ls stk)
/-- the nest words hold -/
def g_N (U : State) : Prop := ∀ w ∈ gNw, va_Nw w U
/-- what holds of a method's frame all along: the machine, its code, its class, the tables' words, no lock, the classes, the addresses apart, what may be written, room left, its return type, the nest words, its room -/
def gC (X : gX) (cc : ByteArray) (nL : Nat) (own : String) (ret : Option FieldType) (R : Room) : Prop :=
  (Xp X).tables.exec = Jvm.exec ∧ (Xc X).code = cc ∧ (Xc X).maxLocals = nL ∧ (Xs X).vm.findClass own = some (Xm X).cls ∧ (∀ w ∈ gB, w.before (Xa X) (Xs X) = true) ∧ (Xt X).locks = false ∧ va_K (XG X).1 vwCl (g_tys (XG X)) (Xs X) ∧ g_I (XG X) ∧ (∀ r : Nat, r < 737 → (XA X) ((XG X).2.2 r)) ∧ ((Xk X).1 ≤ (XR X).cells ∧ (Xk X).2 ≤ (XR X).slots) ∧ (Xt X).sig.returnType = ret ∧ g_N (Xs X) ∧ XR X = R
/-- an address -/
abbrev Xd (X : gX) (r : Nat) : Nat := (XG X).2.2 r
section GR
variable {X : gX} {cc : ByteArray} {nL pc : Nat} {own : String} {ret : Option FieldType} {R : Room} {σ : sg} {lv : List (Nat × Value)} {stk : List Value} {α : Type} {res : α}
theorem g_iconst (C : gC X cc nL own ret R) {n : Int} {v : Int32} (hdg : decode cc pc = .ok (.iconst n, 1)) (hv : Int32.ofInt n = v) (k : G X nL σ (pc + 1) lv (.int v :: stk)) : G X nL σ pc lv stk :=
  fun H locs ls hP hS hl => lv_iconst C.1 C.2.1 hdg hv (k H locs ls hP hS hl)
theorem g_bipush (C : gC X cc nL own ret R) {n : Int} {v : Int32} (hdg : decode cc pc = .ok (.bipush n, 2)) (hv : (Int8.ofInt n).toInt32 = v) (k : G X nL σ (pc + 2) lv (.int v :: stk)) : G X nL σ pc lv stk :=
  fun H locs ls hP hS hl => lv_bipush C.1 C.2.1 hdg hv (k H locs ls hP hS hl)
theorem g_sipush (C : gC X cc nL own ret R) {n : Int} {v : Int32} (hdg : decode cc pc = .ok (.sipush n, 3)) (hv : (Int16.ofInt n).toInt32 = v) (k : G X nL σ (pc + 3) lv (.int v :: stk)) : G X nL σ pc lv stk :=
  fun H locs ls hP hS hl => lv_sipush C.1 C.2.1 hdg hv (k H locs ls hP hS hl)
theorem g_iload_n (C : gC X cc nL own ret R) {j : Fin 4} {x : Int32} (i : Nat) (hdg : decode cc pc = .ok (.iload_n j, 1)) (hl : lv[i]? = some ((j : Nat), .int x)) (k : G X nL σ (pc + 1) lv (.int x :: stk)) : G X nL σ pc lv stk :=
  fun H locs ls hP hS h => lv_iload_n C.1 C.2.1 hdg rfl (lv_at h i hl) (k H locs ls hP hS h)
theorem g_iload (C : gC X cc nL own ret R) {j : Nat} {x : Int32} (i : Nat) (hdg : decode cc pc = .ok (.iload j, 2)) (hl : lv[i]? = some (j, .int x)) (k : G X nL σ (pc + 2) lv (.int x :: stk)) : G X nL σ pc lv stk :=
  fun H locs ls hP hS h => lv_iload C.1 C.2.1 hdg (lv_at h i hl) (k H locs ls hP hS h)
theorem g_aload_n (C : gC X cc nL own ret R) {j : Fin 4} {x : Nat} (i : Nat) (hdg : decode cc pc = .ok (.aload_n j, 1)) (hl : lv[i]? = some ((j : Nat), .ref x)) (k : G X nL σ (pc + 1) lv (.ref x :: stk)) : G X nL σ pc lv stk :=
  fun H locs ls hP hS h => lv_aload_n C.1 C.2.1 hdg rfl (lv_at h i hl) (k H locs ls hP hS h)
theorem g_aload (C : gC X cc nL own ret R) {j : Nat} {x : Nat} (i : Nat) (hdg : decode cc pc = .ok (.aload j, 2)) (hl : lv[i]? = some (j, .ref x)) (k : G X nL σ (pc + 2) lv (.ref x :: stk)) : G X nL σ pc lv stk :=
  fun H locs ls hP hS h => lv_aload C.1 C.2.1 hdg (lv_at h i hl) (k H locs ls hP hS h)
theorem g_istore_n (C : gC X cc nL own ret R) {j : Fin 4} {x : Int32} {lv' : List (Nat × Value)} (hdg : decode cc pc = .ok (.istore_n j, 1)) (hn : (j : Nat) < nL) (hl : ((j : Nat), Value.int x) :: lv.filter (fun q => !(q.1 == (j : Nat)) && !(q.1 + 1 == (j : Nat) && q.2.category == 2)) = lv') (k : G X nL σ (pc + 1) lv' stk) : G X nL σ pc lv (.int x :: stk) :=
  fun H locs _ hP hS h => lv_istore_n C.1 C.2.1 hdg rfl h hn hl (fun ls h => k H locs ls hP hS h)
theorem g_istore (C : gC X cc nL own ret R) {j : Nat} {x : Int32} {lv' : List (Nat × Value)} (hdg : decode cc pc = .ok (.istore j, 2)) (hn : j < nL) (hl : (j, Value.int x) :: lv.filter (fun q => !(q.1 == j) && !(q.1 + 1 == j && q.2.category == 2)) = lv') (k : G X nL σ (pc + 2) lv' stk) : G X nL σ pc lv (.int x :: stk) :=
  fun H locs _ hP hS h => lv_istore C.1 C.2.1 hdg h hn hl (fun ls h => k H locs ls hP hS h)
theorem g_astore_n (C : gC X cc nL own ret R) {j : Fin 4} {x : Nat} {lv' : List (Nat × Value)} (hdg : decode cc pc = .ok (.astore_n j, 1)) (hn : (j : Nat) < nL) (hl : ((j : Nat), Value.ref x) :: lv.filter (fun q => !(q.1 == (j : Nat)) && !(q.1 + 1 == (j : Nat) && q.2.category == 2)) = lv') (k : G X nL σ (pc + 1) lv' stk) : G X nL σ pc lv (.ref x :: stk) :=
  fun H locs _ hP hS h => lv_astore_n C.1 C.2.1 hdg rfl h hn hl (fun ls h => k H locs ls hP hS h)
theorem g_astore (C : gC X cc nL own ret R) {j : Nat} {x : Nat} {lv' : List (Nat × Value)} (hdg : decode cc pc = .ok (.astore j, 2)) (hn : j < nL) (hl : (j, Value.ref x) :: lv.filter (fun q => !(q.1 == j) && !(q.1 + 1 == j && q.2.category == 2)) = lv') (k : G X nL σ (pc + 2) lv' stk) : G X nL σ pc lv (.ref x :: stk) :=
  fun H locs _ hP hS h => lv_astore C.1 C.2.1 hdg h hn hl (fun ls h => k H locs ls hP hS h)
theorem g_iinc (C : gC X cc nL own ret R) {j : Nat} {n : Int} {x v : Int32} {lv' : List (Nat × Value)} (i : Nat) (hdg : decode cc pc = .ok (.iinc j n, 3)) (hk : lv[i]? = some (j, .int x)) (hv : x + Int32.ofInt n = v) (hn : j < nL) (hl : (j, Value.int v) :: lv.filter (fun q => !(q.1 == j) && !(q.1 + 1 == j && q.2.category == 2)) = lv') (k : G X nL σ (pc + 3) lv' stk) : G X nL σ pc lv stk :=
  fun H locs _ hP hS h => lv_iinc C.1 C.2.1 hdg h hk hv hn hl (fun ls h => k H locs ls hP hS h)
theorem g_iadd (C : gC X cc nL own ret R) {x y : Int32} (hdg : decode cc pc = .ok (.iadd, 1)) (k : G X nL σ (pc + 1) lv (.int (x + y) :: stk)) : G X nL σ pc lv (.int y :: .int x :: stk) :=
  fun H locs ls hP hS hl => lv_iadd C.1 C.2.1 hdg (k H locs ls hP hS hl)
theorem g_isub (C : gC X cc nL own ret R) {x y : Int32} (hdg : decode cc pc = .ok (.isub, 1)) (k : G X nL σ (pc + 1) lv (.int (x - y) :: stk)) : G X nL σ pc lv (.int y :: .int x :: stk) :=
  fun H locs ls hP hS hl => lv_isub C.1 C.2.1 hdg (k H locs ls hP hS hl)
theorem g_imul (C : gC X cc nL own ret R) {x y : Int32} (hdg : decode cc pc = .ok (.imul, 1)) (k : G X nL σ (pc + 1) lv (.int (x * y) :: stk)) : G X nL σ pc lv (.int y :: .int x :: stk) :=
  fun H locs ls hP hS hl => lv_imul C.1 C.2.1 hdg (k H locs ls hP hS hl)
theorem g_iand (C : gC X cc nL own ret R) {x y : Int32} (hdg : decode cc pc = .ok (.iand, 1)) (k : G X nL σ (pc + 1) lv (.int (x &&& y) :: stk)) : G X nL σ pc lv (.int y :: .int x :: stk) :=
  fun H locs ls hP hS hl => lv_iand C.1 C.2.1 hdg (k H locs ls hP hS hl)
theorem g_ior (C : gC X cc nL own ret R) {x y : Int32} (hdg : decode cc pc = .ok (.ior, 1)) (k : G X nL σ (pc + 1) lv (.int (x ||| y) :: stk)) : G X nL σ pc lv (.int y :: .int x :: stk) :=
  fun H locs ls hP hS hl => lv_ior C.1 C.2.1 hdg (k H locs ls hP hS hl)
theorem g_ixor (C : gC X cc nL own ret R) {x y : Int32} (hdg : decode cc pc = .ok (.ixor, 1)) (k : G X nL σ (pc + 1) lv (.int (x ^^^ y) :: stk)) : G X nL σ pc lv (.int y :: .int x :: stk) :=
  fun H locs ls hP hS hl => lv_ixor C.1 C.2.1 hdg (k H locs ls hP hS hl)
theorem g_ishl (C : gC X cc nL own ret R) {x y : Int32} (hdg : decode cc pc = .ok (.ishl, 1)) (k : G X nL σ (pc + 1) lv (.int (x <<< (y &&& 31)) :: stk)) : G X nL σ pc lv (.int y :: .int x :: stk) :=
  fun H locs ls hP hS hl => lv_ishl C.1 C.2.1 hdg (k H locs ls hP hS hl)
theorem g_ishr (C : gC X cc nL own ret R) {x y : Int32} (hdg : decode cc pc = .ok (.ishr, 1)) (k : G X nL σ (pc + 1) lv (.int (x >>> (y &&& 31)) :: stk)) : G X nL σ pc lv (.int y :: .int x :: stk) :=
  fun H locs ls hP hS hl => lv_ishr C.1 C.2.1 hdg (k H locs ls hP hS hl)
def ushr (x y : Int32) : Int32 := (x.toUInt32 >>> (y.toUInt32 &&& Int32.toUInt32 31)).toInt32
theorem g_iushr (C : gC X cc nL own ret R) {x y : Int32} (hdg : decode cc pc = .ok (.iushr, 1)) (k : G X nL σ (pc + 1) lv (.int (ushr x y) :: stk)) : G X nL σ pc lv (.int y :: .int x :: stk) :=
  fun H locs ls hP hS hl => lv_iushr C.1 C.2.1 hdg rfl (k H locs ls hP hS hl)
theorem g_idiv (C : gC X cc nL own ret R) {x y : Int32} (hdg : decode cc pc = .ok (.idiv, 1)) (hne : ¬ y = 0) (k : G X nL σ (pc + 1) lv (.int (x / y) :: stk)) : G X nL σ pc lv (.int y :: .int x :: stk) :=
  fun H locs ls hP hS hl => lv_idiv C.1 C.2.1 hdg hne (k H locs ls hP hS hl)
theorem g_irem (C : gC X cc nL own ret R) {x y : Int32} (hdg : decode cc pc = .ok (.irem, 1)) (hne : ¬ y = 0) (k : G X nL σ (pc + 1) lv (.int (x - x / y * y) :: stk)) : G X nL σ pc lv (.int y :: .int x :: stk) :=
  fun H locs ls hP hS hl => lv_irem C.1 C.2.1 hdg hne (k H locs ls hP hS hl)
theorem g_i2l (C : gC X cc nL own ret R) {x : Int32} (hdg : decode cc pc = .ok (.i2l, 1)) (k : G X nL σ (pc + 1) lv (.long x.toInt64 :: stk)) : G X nL σ pc lv (.int x :: stk) :=
  fun H locs ls hP hS hl => lv_i2l C.1 C.2.1 hdg rfl (k H locs ls hP hS hl)
theorem g_lcmp (C : gC X cc nL own ret R) {x y : Int64} (hdg : decode cc pc = .ok (.lcmp, 1)) (k : G X nL σ (pc + 1) lv (.int (lg_cmp x y) :: stk)) : G X nL σ pc lv (.long y :: .long x :: stk) :=
  fun H locs ls hP hS hl => W.lcmp C.1 C.2.1 hdg (k H locs ls hP hS hl)
theorem g_ldc (C : gC X cc nL own ret R) {index : Nat} {v : Int32} (hc : Cond.constant own index v ∈ gB) (hdg : decode cc pc = .ok (.ldc index, 2)) (k : G X nL σ (pc + 2) lv (.int v :: stk)) : G X nL σ pc lv stk :=
  fun H locs ls hP hS hl => lv_ldc C.1 C.2.1 C.2.2.2.1 (C.2.2.2.2.1 _ hc) hdg (k H locs ls hP hS hl)
theorem g_ldcw (C : gC X cc nL own ret R) {index : Nat} {v : Int32} (hc : Cond.constant own index v ∈ gB) (hdg : decode cc pc = .ok (.ldc_w index, 3)) (k : G X nL σ (pc + 3) lv (.int v :: stk)) : G X nL σ pc lv stk :=
  fun H locs ls hP hS hl => lv_ldcw C.1 C.2.1 C.2.2.2.1 (C.2.2.2.2.1 _ hc) hdg (k H locs ls hP hS hl)
theorem g_ldc2 (C : gC X cc nL own ret R) {index : Nat} {v : Int64} (hc : Cond.constantLong own index v ∈ gB) (hdg : decode cc pc = .ok (.ldc2_w index, 3)) (k : G X nL σ (pc + 3) lv (.long v :: stk)) : G X nL σ pc lv stk :=
  fun H locs ls hP hS hl => lv_ldc2 C.1 C.2.1 C.2.2.2.1 (C.2.2.2.2.1 _ hc) hdg (k H locs ls hP hS hl)
theorem g_dup (C : gC X cc nL own ret R) {v : Value} (hdg : decode cc pc = .ok (.dup, 1)) (hv : v.category = 1) (k : G X nL σ (pc + 1) lv (v :: v :: stk)) : G X nL σ pc lv (v :: stk) :=
  fun H locs ls hP hS hl => lv_dup C.1 C.2.1 hdg hv (k H locs ls hP hS hl)
theorem g_dup2 (C : gC X cc nL own ret R) {v w : Value} (hdg : decode cc pc = .ok (.dup2, 1)) (hv : v.category = 1) (hw : w.category = 1) (k : G X nL σ (pc + 1) lv (v :: w :: v :: w :: stk)) : G X nL σ pc lv (v :: w :: stk) :=
  fun H locs ls hP hS hl => lv_dup2_11 C.1 C.2.1 hdg hv hw (k H locs ls hP hS hl)
theorem g_pop (C : gC X cc nL own ret R) {v : Value} (hdg : decode cc pc = .ok (.pop, 1)) (hv : v.category = 1) (k : G X nL σ (pc + 1) lv stk) : G X nL σ pc lv (v :: stk) :=
  fun H locs ls hP hS hl => lv_pop C.1 C.2.1 hdg hv (k H locs ls hP hS hl)
theorem g_goto (C : gC X cc nL own ret R) {off : Int} (tgt : Nat) (hdg : decode cc pc = .ok (.goto off, 3)) (ht : (pc : Int) + off = (tgt : Int)) (k : G X nL σ tgt lv stk) : G X nL σ pc lv stk :=
  fun H locs ls hP hS hl => lv_goto C.1 C.2.1 hdg ht (k H locs ls hP hS hl)
/-- fewer locals, in another order -/
theorem g_sub {lv' : List (Nat × Value)} (ks : List Nat) (h : lv_pick lv ks = lv') (k : G X nL σ pc lv' stk) : G X nL σ pc lv stk :=
  fun H locs ls hP hS hl => k H locs ls hP hS (lv_sub hl ks h)
theorem g_if {c : Prop} {i : Decidable c} {T E : Option α} (hf : (if c then T else E) = some res) {P : Prop} (k1 : T = some res → c → P) (k2 : E = some res → ¬ c → P) : P := by
  by_cases h : c
  · rw [if_pos h] at hf; exact k1 hf h
  · rw [if_neg h] at hf; exact k2 hf h
theorem g_bind {β : Type} {o : Option β} {f : β → Option α} (hf : o.bind f = some res) : ∃ v, o = some v ∧ f v = some res := by
  cases o with
  | none => cases hf
  | some v => exact ⟨v, rfl, hf⟩
theorem g_if_eq (C : gC X cc nL own ret R) {x : Int32} {off : Int} (tgt : Nat) {i : Decidable (x = 0)} {T E : Option α} (hf : (if x = 0 then T else E) = some res) (hdg : decode cc pc = .ok (.ifCond .eq off, 3)) (ht : (pc : Int) + off = (tgt : Int)) (k1 : T = some res → G X nL σ tgt lv stk) (k2 : E = some res → G X nL σ (pc + 3) lv stk) : G X nL σ pc lv (.int x :: stk) :=
  fun H locs ls hP hS hl => lv_if_eq C.1 C.2.1 hdg ht (fun c => k1 (by rw [if_pos c] at hf; exact hf) H locs ls hP hS hl) (fun c => k2 (by rw [if_neg c] at hf; exact hf) H locs ls hP hS hl)
theorem g_if_ne (C : gC X cc nL own ret R) {x : Int32} {off : Int} (tgt : Nat) {i : Decidable (x = 0)} {T E : Option α} (hf : (if x = 0 then T else E) = some res) (hdg : decode cc pc = .ok (.ifCond .ne off, 3)) (ht : (pc : Int) + off = (tgt : Int)) (k2 : T = some res → G X nL σ (pc + 3) lv stk) (k1 : E = some res → G X nL σ tgt lv stk) : G X nL σ pc lv (.int x :: stk) :=
  fun H locs ls hP hS hl => lv_if_ne C.1 C.2.1 hdg ht (fun c => k1 (by rw [if_neg c] at hf; exact hf) H locs ls hP hS hl) (fun c => k2 (by rw [if_pos c] at hf; exact hf) H locs ls hP hS hl)
theorem g_if_lt (C : gC X cc nL own ret R) {x : Int32} {off : Int} (tgt : Nat) {i : Decidable (x < 0)} {T E : Option α} (hf : (if x < 0 then T else E) = some res) (hdg : decode cc pc = .ok (.ifCond .lt off, 3)) (ht : (pc : Int) + off = (tgt : Int)) (k1 : T = some res → G X nL σ tgt lv stk) (k2 : E = some res → G X nL σ (pc + 3) lv stk) : G X nL σ pc lv (.int x :: stk) :=
  fun H locs ls hP hS hl => lv_if_lt C.1 C.2.1 hdg ht (fun c => k1 (by rw [if_pos c] at hf; exact hf) H locs ls hP hS hl) (fun c => k2 (by rw [if_neg c] at hf; exact hf) H locs ls hP hS hl)
theorem g_if_ge (C : gC X cc nL own ret R) {x : Int32} {off : Int} (tgt : Nat) {i : Decidable (0 ≤ x)} {T E : Option α} (hf : (if 0 ≤ x then T else E) = some res) (hdg : decode cc pc = .ok (.ifCond .ge off, 3)) (ht : (pc : Int) + off = (tgt : Int)) (k1 : T = some res → G X nL σ tgt lv stk) (k2 : E = some res → G X nL σ (pc + 3) lv stk) : G X nL σ pc lv (.int x :: stk) :=
  fun H locs ls hP hS hl => lv_if_ge C.1 C.2.1 hdg ht (fun c => k1 (by rw [if_pos c] at hf; exact hf) H locs ls hP hS hl) (fun c => k2 (by rw [if_neg c] at hf; exact hf) H locs ls hP hS hl)
theorem g_if_gt (C : gC X cc nL own ret R) {x : Int32} {off : Int} (tgt : Nat) {i : Decidable (0 < x)} {T E : Option α} (hf : (if 0 < x then T else E) = some res) (hdg : decode cc pc = .ok (.ifCond .gt off, 3)) (ht : (pc : Int) + off = (tgt : Int)) (k1 : T = some res → G X nL σ tgt lv stk) (k2 : E = some res → G X nL σ (pc + 3) lv stk) : G X nL σ pc lv (.int x :: stk) :=
  fun H locs ls hP hS hl => lv_if_gt C.1 C.2.1 hdg ht (fun c => k1 (by rw [if_pos c] at hf; exact hf) H locs ls hP hS hl) (fun c => k2 (by rw [if_neg c] at hf; exact hf) H locs ls hP hS hl)
theorem g_if_le (C : gC X cc nL own ret R) {x : Int32} {off : Int} (tgt : Nat) {i : Decidable (x ≤ 0)} {T E : Option α} (hf : (if x ≤ 0 then T else E) = some res) (hdg : decode cc pc = .ok (.ifCond .le off, 3)) (ht : (pc : Int) + off = (tgt : Int)) (k1 : T = some res → G X nL σ tgt lv stk) (k2 : E = some res → G X nL σ (pc + 3) lv stk) : G X nL σ pc lv (.int x :: stk) :=
  fun H locs ls hP hS hl => lv_if_le C.1 C.2.1 hdg ht (fun c => k1 (by rw [if_pos c] at hf; exact hf) H locs ls hP hS hl) (fun c => k2 (by rw [if_neg c] at hf; exact hf) H locs ls hP hS hl)
theorem g_icmp_eq (C : gC X cc nL own ret R) {x y : Int32} {off : Int} (tgt : Nat) {i : Decidable (x = y)} {T E : Option α} (hf : (if x = y then T else E) = some res) (hdg : decode cc pc = .ok (.if_icmp .eq off, 3)) (ht : (pc : Int) + off = (tgt : Int)) (k1 : T = some res → G X nL σ tgt lv stk) (k2 : E = some res → G X nL σ (pc + 3) lv stk) : G X nL σ pc lv (.int y :: .int x :: stk) :=
  fun H locs ls hP hS hl => lv_icmp_eq C.1 C.2.1 hdg ht (fun c => k1 (by rw [if_pos c] at hf; exact hf) H locs ls hP hS hl) (fun c => k2 (by rw [if_neg c] at hf; exact hf) H locs ls hP hS hl)
theorem g_icmp_ne (C : gC X cc nL own ret R) {x y : Int32} {off : Int} (tgt : Nat) {i : Decidable (x = y)} {T E : Option α} (hf : (if x = y then T else E) = some res) (hdg : decode cc pc = .ok (.if_icmp .ne off, 3)) (ht : (pc : Int) + off = (tgt : Int)) (k2 : T = some res → G X nL σ (pc + 3) lv stk) (k1 : E = some res → G X nL σ tgt lv stk) : G X nL σ pc lv (.int y :: .int x :: stk) :=
  fun H locs ls hP hS hl => lv_icmp_ne C.1 C.2.1 hdg ht (fun c => k1 (by rw [if_neg c] at hf; exact hf) H locs ls hP hS hl) (fun c => k2 (by rw [if_pos c] at hf; exact hf) H locs ls hP hS hl)
theorem g_icmp_lt (C : gC X cc nL own ret R) {x y : Int32} {off : Int} (tgt : Nat) {i : Decidable (x < y)} {T E : Option α} (hf : (if x < y then T else E) = some res) (hdg : decode cc pc = .ok (.if_icmp .lt off, 3)) (ht : (pc : Int) + off = (tgt : Int)) (k1 : T = some res → G X nL σ tgt lv stk) (k2 : E = some res → G X nL σ (pc + 3) lv stk) : G X nL σ pc lv (.int y :: .int x :: stk) :=
  fun H locs ls hP hS hl => lv_icmp_lt C.1 C.2.1 hdg ht (fun c => k1 (by rw [if_pos c] at hf; exact hf) H locs ls hP hS hl) (fun c => k2 (by rw [if_neg c] at hf; exact hf) H locs ls hP hS hl)
theorem g_icmp_ge (C : gC X cc nL own ret R) {x y : Int32} {off : Int} (tgt : Nat) {i : Decidable (y ≤ x)} {T E : Option α} (hf : (if y ≤ x then T else E) = some res) (hdg : decode cc pc = .ok (.if_icmp .ge off, 3)) (ht : (pc : Int) + off = (tgt : Int)) (k1 : T = some res → G X nL σ tgt lv stk) (k2 : E = some res → G X nL σ (pc + 3) lv stk) : G X nL σ pc lv (.int y :: .int x :: stk) :=
  fun H locs ls hP hS hl => lv_icmp_ge C.1 C.2.1 hdg ht (fun c => k1 (by rw [if_pos c] at hf; exact hf) H locs ls hP hS hl) (fun c => k2 (by rw [if_neg c] at hf; exact hf) H locs ls hP hS hl)
theorem g_icmp_gt (C : gC X cc nL own ret R) {x y : Int32} {off : Int} (tgt : Nat) {i : Decidable (y < x)} {T E : Option α} (hf : (if y < x then T else E) = some res) (hdg : decode cc pc = .ok (.if_icmp .gt off, 3)) (ht : (pc : Int) + off = (tgt : Int)) (k1 : T = some res → G X nL σ tgt lv stk) (k2 : E = some res → G X nL σ (pc + 3) lv stk) : G X nL σ pc lv (.int y :: .int x :: stk) :=
  fun H locs ls hP hS hl => lv_icmp_gt C.1 C.2.1 hdg ht (fun c => k1 (by rw [if_pos c] at hf; exact hf) H locs ls hP hS hl) (fun c => k2 (by rw [if_neg c] at hf; exact hf) H locs ls hP hS hl)
theorem g_icmp_le (C : gC X cc nL own ret R) {x y : Int32} {off : Int} (tgt : Nat) {i : Decidable (x ≤ y)} {T E : Option α} (hf : (if x ≤ y then T else E) = some res) (hdg : decode cc pc = .ok (.if_icmp .le off, 3)) (ht : (pc : Int) + off = (tgt : Int)) (k1 : T = some res → G X nL σ tgt lv stk) (k2 : E = some res → G X nL σ (pc + 3) lv stk) : G X nL σ pc lv (.int y :: .int x :: stk) :=
  fun H locs ls hP hS hl => lv_icmp_le C.1 C.2.1 hdg ht (fun c => k1 (by rw [if_pos c] at hf; exact hf) H locs ls hP hS hl) (fun c => k2 (by rw [if_neg c] at hf; exact hf) H locs ls hP hS hl)
/-- a switch: a case by its number, and what is no case -/
theorem g_tcase (C : gC X cc nL own ret R) {dflt lo hi off : Int} {offs : Array Int} {len : Nat} {x : Int32} (n : Int32) (tgt : Nat) (hdg : decode cc pc = .ok (.tableswitch dflt lo hi offs, len)) (he : x = n) (h1 : ¬ n.toInt < lo) (h2 : ¬ hi < n.toInt) (ho : offs[(n.toInt - lo).toNat]? = some off) (ht : (pc : Int) + off = (tgt : Int)) (k : G X nL σ tgt lv stk) : G X nL σ pc lv (.int x :: stk) := by
  subst he
  exact fun H locs ls hP hS hl => lv_tableIn C.1 C.2.1 hdg h1 h2 ho ht (k H locs ls hP hS hl)
theorem g_tout (C : gC X cc nL own ret R) {dflt lo hi : Int} {offs : Array Int} {len : Nat} {x : Int32} (tgt : Nat) (hdg : decode cc pc = .ok (.tableswitch dflt lo hi offs, len)) (h : x.toInt < lo ∨ hi < x.toInt) (ht : (pc : Int) + dflt = (tgt : Int)) (k : G X nL σ tgt lv stk) : G X nL σ pc lv (.int x :: stk) :=
  fun H locs ls hP hS hl => lv_tableOut C.1 C.2.1 hdg h ht (k H locs ls hP hS hl)
theorem g_look (C : gC X cc nL own ret R) {dflt off : Int} {ps : Array (Int × Int)} {len : Nat} {x : Int32} (tgt : Nat) (hdg : decode cc pc = .ok (.lookupswitch dflt ps, len)) (hp : (ps.toList.zip (ps.toList.drop 1)).all (fun (a, next) => a.1 < next.1) = true) (ho : Op.lookupswitch.offset ps.toList dflt x.toInt = off) (ht : (pc : Int) + off = (tgt : Int)) (k : G X nL σ tgt lv stk) : G X nL σ pc lv (.int x :: stk) :=
  fun H locs ls hP hS hl => lv_lookup C.1 C.2.1 hdg hp ho ht (k H locs ls hP hS hl)
/-! the world's rows -/
theorem gC_D (C : gC X cc nL own ret R) (σ : sg) : va_D (XA X) (g_ws (XG X) σ) := g_ws_D C.2.2.2.2.2.2.2.1 C.2.2.2.2.2.2.2.2.1 σ
theorem gC_K (C : gC X cc nL own ret R) : va_K (XG X).1 vwCl (g_tys (XG X)) (Xs X) := C.2.2.2.2.2.2.1
theorem gC_t (C : gC X cc nL own ret R) {w : Cond} (h : w ∈ gB) : w.before (Xa X) (Xs X) = true := C.2.2.2.2.1 w h
theorem gC_N (C : gC X cc nL own ret R) {w : Cond} (hw : w.onTables = true) (h : w ∈ gNw) : w.before (Xa X) (Xs X) = true := (C.2.2.2.2.2.2.2.2.2.2.2.1 w h).use hw
theorem g_fld {a N : Nat} {C0 : String} {T : u_T} {Gw : gW} {σ : sg} {r : Nat} {fl : List (Option Nat)} (hr : r < 737) (hsh : g_sh r = .inl (a, fl)) : (g_ws Gw σ)[r]? = some (Gw.2.2 r, .inr (a, g_fv Gw.2.2 (σ r) 0 fl)) := by
  rw [g_ws_at Gw σ hr]
  unfold g_el
  rw [hsh]
theorem g_arr {Gw : gW} {σ : sg} {r t n : Nat} (hr : r < 737) (hsh : g_sh r = .inr (t, n, none)) : (g_ws Gw σ)[r]? = some (Gw.2.2 r, .inl (Gw.2.1 t, n, .inl (σ r))) := by
  rw [g_ws_at Gw σ hr]
  unfold g_el
  rw [hsh]
theorem g_arrq {Gw : gW} {σ : sg} {r t n b : Nat} (hr : r < 737) (hsh : g_sh r = .inr (t, n, some b)) : (g_ws Gw σ)[r]? = some (Gw.2.2 r, .inl (Gw.2.1 t, n, .inr (.inr (.inr (.inr (fun k => if k < n then some (Gw.2.2 (b + k)) else none)))))) := by
  rw [g_ws_at Gw σ hr]
  unfold g_el
  rw [hsh]
/-- getfield of an int -/
theorem g_geti (C : gC X cc nL own ret R) (ci k : Nat) {C0 ref : String} {T : u_T} {N index r : Nat} {fl : List (Option Nat)} (hr : r < 737) (hsh : g_sh r = .inl (ci, fl)) (hfk : fl[k]? = some none) (hc : vwCl[ci]? = some (C0, T, N)) (hk : k < N) (hin : ∀ w ∈ u_ws C0 T N, w ∈ gB) (hlink : Cond.fieldLink own index (T k).1 (T k).2.1 (T k).2.2.1 ∈ gB) (hdg : decode cc pc = .ok (.getfield index, 3)) (kk : G X nL σ (pc + 3) lv (.int (σ r k) :: stk)) : G X nL σ pc lv (.ref (Xd X r) :: stk) :=
  fun H locs ls hP hS hl => va_get C.1 C.2.1 C.2.2.2.2.1 hin C.2.2.2.1 (gC_K C) hP r (g_fld (C0 := C0) (T := T) (N := N) hr hsh) hc k hk (gC_t C hlink) (fun _ h => h) (v := .int (σ r k)) (by have h := g_fv_int (XG X).2.2 (σ r) fl k 0 hfk; rw [Nat.zero_add] at h; exact h) hdg (kk H locs ls hP hS hl)
theorem g_getiN (C : gC X cc nL own ret R) (ci k : Nat) {C0 ref host : String} {T : u_T} {N index r : Nat} {fl : List (Option Nat)} (hr : r < 737) (hsh : g_sh r = .inl (ci, fl)) (hfk : fl[k]? = some none) (hc : vwCl[ci]? = some (C0, T, N)) (hk : k < N) (hin : ∀ w ∈ u_ws C0 T N, w ∈ gB) (hlink : Cond.fieldLinkNest own index (T k).1 (T k).2.1 (T k).2.2.1 host ∈ gNw) (hdg : decode cc pc = .ok (.getfield index, 3)) (kk : G X nL σ (pc + 3) lv (.int (σ r k) :: stk)) : G X nL σ pc lv (.ref (Xd X r) :: stk) :=
  fun H locs ls hP hS hl => va_getN C.1 C.2.1 C.2.2.2.2.1 hin C.2.2.2.1 (gC_K C) hP r (g_fld (C0 := C0) (T := T) (N := N) hr hsh) hc k hk (gC_N C rfl hlink) (fun _ h => h) (v := .int (σ r k)) (by have h := g_fv_int (XG X).2.2 (σ r) fl k 0 hfk; rw [Nat.zero_add] at h; exact h) hdg (kk H locs ls hP hS hl)
/-- getfield of a reference -/
theorem g_getr (C : gC X cc nL own ret R) (ci k q : Nat) {C0 ref : String} {T : u_T} {N index r : Nat} {fl : List (Option Nat)} (hr : r < 737) (hsh : g_sh r = .inl (ci, fl)) (hfk : fl[k]? = some (some q)) (hc : vwCl[ci]? = some (C0, T, N)) (hk : k < N) (hin : ∀ w ∈ u_ws C0 T N, w ∈ gB) (hlink : Cond.fieldLink own index (T k).1 (T k).2.1 (T k).2.2.1 ∈ gB) (hdg : decode cc pc = .ok (.getfield index, 3)) (kk : G X nL σ (pc + 3) lv (.ref (Xd X q) :: stk)) : G X nL σ pc lv (.ref (Xd X r) :: stk) :=
  fun H locs ls hP hS hl => va_get C.1 C.2.1 C.2.2.2.2.1 hin C.2.2.2.1 (gC_K C) hP r (g_fld (C0 := C0) (T := T) (N := N) hr hsh) hc k hk (gC_t C hlink) (fun _ h => h) (v := .ref (Xd X q)) (g_fv_ref (XG X).2.2 (σ r) fl k 0 q hfk) hdg (kk H locs ls hP hS hl)
theorem g_getrN (C : gC X cc nL own ret R) (ci k q : Nat) {C0 ref host : String} {T : u_T} {N index r : Nat} {fl : List (Option Nat)} (hr : r < 737) (hsh : g_sh r = .inl (ci, fl)) (hfk : fl[k]? = some (some q)) (hc : vwCl[ci]? = some (C0, T, N)) (hk : k < N) (hin : ∀ w ∈ u_ws C0 T N, w ∈ gB) (hlink : Cond.fieldLinkNest own index (T k).1 (T k).2.1 (T k).2.2.1 host ∈ gNw) (hdg : decode cc pc = .ok (.getfield index, 3)) (kk : G X nL σ (pc + 3) lv (.ref (Xd X q) :: stk)) : G X nL σ pc lv (.ref (Xd X r) :: stk) :=
  fun H locs ls hP hS hl => va_getN C.1 C.2.1 C.2.2.2.2.1 hin C.2.2.2.1 (gC_K C) hP r (g_fld (C0 := C0) (T := T) (N := N) hr hsh) hc k hk (gC_N C rfl hlink) (fun _ h => h) (v := .ref (Xd X q)) (g_fv_ref (XG X).2.2 (σ r) fl k 0 q hfk) hdg (kk H locs ls hP hS hl)
theorem g_set1 {Gw : gW} {σ : sg} {r ci k : Nat} {fl : List (Option Nat)} {v : Int32} (hr : r < 737) (hsh : g_sh r = .inl (ci, fl)) (hfk : fl[k]? = some none) : (g_ws Gw σ).set r (Gw.2.2 r, .inr (ci, (g_fv Gw.2.2 (σ r) 0 fl).set k (.int v))) = g_ws Gw (up σ r k v) := by
  refine g_ws_set Gw hr ?_ (fun q hq => (g_el_congr Gw (up_row hq).symm).symm)
  unfold g_el
  rw [hsh]
  show Sum.inr (ci, g_fv Gw.2.2 (up σ r k v r) 0 fl) = _
  rw [up_upd]
  have h := g_fv_up Gw.2.2 (σ r) v fl k 0 hfk
  rw [Nat.zero_add] at h
  rw [h]
theorem g_set2 {Gw : gW} {σ : sg} {r t n k : Nat} {v : Int32} (hr : r < 737) (hsh : g_sh r = .inr (t, n, none)) : (g_ws Gw σ).set r (Gw.2.2 r, .inl (Gw.2.1 t, n, .inl (upd (σ r) k v))) = g_ws Gw (up σ r k v) := by
  refine g_ws_set Gw hr ?_ (fun q hq => (g_el_congr Gw (up_row hq).symm).symm)
  unfold g_el
  rw [hsh]
  show Sum.inl (Gw.2.1 t, n, Sum.inl (up σ r k v r)) = _
  rw [up_upd]
/-- putfield of an int, or of a boolean that is 0 or 1 -/
theorem g_put (C : gC X cc nL own ret R) (ci k : Nat) {C0 : String} {T : u_T} {N index r : Nat} {fl : List (Option Nat)} {v : Int32} {ty : FieldType} (hr : r < 737) (hsh : g_sh r = .inl (ci, fl)) (hfk : fl[k]? = some none) (hkl : k < fl.length) (hc : vwCl[ci]? = some (C0, T, N)) (hk : k < N) (ty0 : Nat → FieldType) (hty : ∀ k, k < N → parseFieldDescriptor (T k).2.2.1 = some (ty0 k)) (hnm : ∀ a, a < N → ∀ b, b < N → a ≠ b → (T a).2.1 ≠ (T b).2.1) (hin : ∀ w ∈ u_ws C0 T N, w ∈ gB) (hlink : Cond.fieldLink own index (T k).1 (T k).2.1 (T k).2.2.1 ∈ gB) (hfin : (T k).2.2.2 = false) (hd : parseFieldDescriptor (T k).2.2.1 = some ty) (hn : narrow ty (.int v) = .int v) (hfit : fits ty (.int v) = true) (hdg : decode cc pc = .ok (.putfield index, 3)) (kk : G X nL (up σ r k v) (pc + 3) lv stk) : G X nL σ pc lv (.int v :: .ref (Xd X r) :: stk) :=
  fun H locs ls hP hS hl => va_put C.1 C.2.1 C.2.2.2.2.1 hin ty0 hty hnm C.2.2.2.1 (gC_K C) hP (gC_D C σ) hS r (g_fld (C0 := C0) (T := T) (N := N) hr hsh) hc k hk (gC_t C hlink) (fun _ h => h) hfin hd hn hfit (by rw [g_fv_len]; exact hkl) hdg (fun H1 l1 hP1 _ hS1 => kk H1 l1 ls (by rw [g_set1 hr hsh hfk] at hP1; exact hP1) hS1 hl)
theorem g_putN (C : gC X cc nL own ret R) (ci k : Nat) {C0 host : String} {T : u_T} {N index r : Nat} {fl : List (Option Nat)} {v : Int32} {ty : FieldType} (hr : r < 737) (hsh : g_sh r = .inl (ci, fl)) (hfk : fl[k]? = some none) (hkl : k < fl.length) (hc : vwCl[ci]? = some (C0, T, N)) (hk : k < N) (ty0 : Nat → FieldType) (hty : ∀ k, k < N → parseFieldDescriptor (T k).2.2.1 = some (ty0 k)) (hnm : ∀ a, a < N → ∀ b, b < N → a ≠ b → (T a).2.1 ≠ (T b).2.1) (hin : ∀ w ∈ u_ws C0 T N, w ∈ gB) (hlink : Cond.fieldLinkNest own index (T k).1 (T k).2.1 (T k).2.2.1 host ∈ gNw) (hfin : (T k).2.2.2 = false) (hd : parseFieldDescriptor (T k).2.2.1 = some ty) (hn : narrow ty (.int v) = .int v) (hfit : fits ty (.int v) = true) (hdg : decode cc pc = .ok (.putfield index, 3)) (kk : G X nL (up σ r k v) (pc + 3) lv stk) : G X nL σ pc lv (.int v :: .ref (Xd X r) :: stk) :=
  fun H locs ls hP hS hl => va_putN C.1 C.2.1 C.2.2.2.2.1 hin ty0 hty hnm C.2.2.2.1 (gC_K C) hP (gC_D C σ) hS r (g_fld (C0 := C0) (T := T) (N := N) hr hsh) hc k hk (gC_N C rfl hlink) (fun _ h => h) hfin hd hn hfit (by rw [g_fv_len]; exact hkl) hdg (fun H1 l1 hP1 _ hS1 => kk H1 l1 ls (by rw [g_set1 hr hsh hfk] at hP1; exact hP1) hS1 hl)
theorem ld_some {r : Nat} {i v : Int32} (h : ld σ r i = some v) : ∃ n : Nat, g_sh r = .inr (0, n, none) ∧ vp_in i n ∧ v = σ r i.toNatClampNeg := by
  unfold ld at h
  split at h
  · next n hs =>
    obtain ⟨k, h1, h2⟩ := Option.map_eq_some_iff.mp h
    obtain ⟨h3, h4⟩ := ix_some h1
    subst h4
    exact ⟨n, hs, h3, h2.symm⟩
  · cases h
theorem ldz_some {r : Nat} {i v : Int32} (h : ldz σ r i = some v) : ∃ n : Nat, g_sh r = .inr (1, n, none) ∧ vp_in i n ∧ v = σ r i.toNatClampNeg := by
  unfold ldz at h
  split at h
  · next n hs =>
    obtain ⟨k, h1, h2⟩ := Option.map_eq_some_iff.mp h
    obtain ⟨h3, h4⟩ := ix_some h1
    subst h4
    exact ⟨n, hs, h3, h2.symm⟩
  · cases h
theorem ldr_some {r q : Nat} {i : Int32} (h : ldr r i = some q) : ∃ t n b : Nat, (t = 2 ∨ t = 3) ∧ g_sh r = .inr (t, n, some b) ∧ vp_in i n ∧ q = b + i.toNatClampNeg := by
  unfold ldr at h
  split at h
  · next n b hs =>
    obtain ⟨k, h1, h2⟩ := Option.map_eq_some_iff.mp h
    obtain ⟨h3, h4⟩ := ix_some h1
    subst h4
    exact ⟨2, n, b, Or.inl rfl, hs, h3, h2.symm⟩
  · next n b hs =>
    obtain ⟨k, h1, h2⟩ := Option.map_eq_some_iff.mp h
    obtain ⟨h3, h4⟩ := ix_some h1
    subst h4
    exact ⟨3, n, b, Or.inr rfl, hs, h3, h2.symm⟩
  · cases h
theorem st_some {σ' : sg} {r : Nat} {i v : Int32} (h : st σ r i v = some σ') : ∃ n : Nat, g_sh r = .inr (0, n, none) ∧ vp_in i n ∧ σ' = up σ r i.toNatClampNeg v := by
  unfold st at h
  split at h
  · next n hs =>
    obtain ⟨k, h1, h2⟩ := Option.map_eq_some_iff.mp h
    obtain ⟨h3, h4⟩ := ix_some h1
    subst h4
    exact ⟨n, hs, h3, h2.symm⟩
  · cases h
theorem stz_some {σ' : sg} {r : Nat} {i v : Int32} (h : stz σ r i v = some σ') : ∃ n : Nat, g_sh r = .inr (1, n, none) ∧ vp_in i n ∧ σ' = up σ r i.toNatClampNeg (vp_nar .boolean v) := by
  unfold stz at h
  split at h
  · next n hs =>
    obtain ⟨k, h1, h2⟩ := Option.map_eq_some_iff.mp h
    obtain ⟨h3, h4⟩ := ix_some h1
    subst h4
    exact ⟨n, hs, h3, h2.symm⟩
  · cases h
theorem g_iald (C : gC X cc nL own ret R) {r : Nat} {i v : Int32} (hv : ld σ r i = some v) (hdg : decode cc pc = .ok (.iaload, 1)) (kk : G X nL σ (pc + 1) lv (.int v :: stk)) : G X nL σ pc lv (.int i :: .ref (Xd X r) :: stk) := by
  obtain ⟨n, hs, hi, rfl⟩ := ld_some hv
  exact fun H locs ls hP hS hl => va_iald C.1 C.2.1 (gC_K C) hP r 0 (g_arr (g_sh_lt hs (by decide)) hs) rfl hi hdg (kk H locs ls hP hS hl)
theorem g_zald (C : gC X cc nL own ret R) {r : Nat} {i v : Int32} (hv : ldz σ r i = some v) (hdg : decode cc pc = .ok (.baload, 1)) (kk : G X nL σ (pc + 1) lv (.int v :: stk)) : G X nL σ pc lv (.int i :: .ref (Xd X r) :: stk) := by
  obtain ⟨n, hs, hi, rfl⟩ := ldz_some hv
  exact fun H locs ls hP hS hl => va_zald C.1 C.2.1 (gC_K C) hP r 1 (g_arr (g_sh_lt hs (by decide)) hs) rfl hi hdg (kk H locs ls hP hS hl)
theorem va_alda {p : Program} {l : Launch} {e : Env} {R : Room} {s : State} {m : MethodId} {args : Array Value} {below : List Frame} {meth : Method} {c : Code} {H : Heap} {locs : List Loc} {cells slots : Nat} {Q : State → Prop} {pc : Nat} {ls : Array Slot} {rest : List Value} {D : va_G} {cl : List vw_C} {a : Nat} {tys : List (ClassId × FieldType)} {ws : va_W} (hexec : p.tables.exec = Jvm.exec) (hb : c.code = cc) (hK : va_K D cl tys s) (hP : va_P D cl ws H) (q0 t0 : Nat) {cA : ClassId} {ty : FieldType} {n : Nat} {f : Nat → Option Nat} (ha : ws[q0]? = some (a, .inl (cA, n, .inr (.inr (.inr (.inr f)))))) (ht : tys[t0]? = some (cA, .array ty)) {i : Int32} (hin : vp_in i n) (hdg : decode cc pc = .ok (.aaload, 1))
    (kk : W p l e R s m args below meth c H locs cells slots Q (F0 m (pc + 1) ls (va_rf (f i.toNatClampNeg) :: rest))) : W p l e R s m args below meth c H locs cells slots Q (F0 m pc ls (.int i :: .ref a :: rest)) := by
  have hlt : i.toNatClampNeg < n := Nat.not_le.mp fun q => hin (Or.inr q)
  exact W.aald (v := va_rf (f i.toNatClampNeg)) (ty := .array ty) hexec hb (hP q0 _ ha) ((hK.2 t0 _ ht).1 n (fun j => va_rf (f j))) rfl (fun q => by cases q) (by show ¬ (i < 0 ∨ (arrV _ _ _).slots.size ≤ _); rw [arrV_size]; exact hin) (by show (arrV _ _ _).slots[_]? = _; rw [arrV_read _ _ hlt]) rfl rfl hdg kk
theorem g_aald (C : gC X cc nL own ret R) {r q : Nat} {i : Int32} (hv : ldr r i = some q) (hdg : decode cc pc = .ok (.aaload, 1)) (kk : G X nL σ (pc + 1) lv (.ref (Xd X q) :: stk)) : G X nL σ pc lv (.int i :: .ref (Xd X r) :: stk) := by
  obtain ⟨t, n, b, ht, hs, hi, rfl⟩ := ldr_some hv
  have hlt : i.toNatClampNeg < n := Nat.not_le.mp fun q => hi (Or.inr q)
  intro H locs ls hP hS hl
  have hk := kk H locs ls hP hS hl
  rcases ht with rfl | rfl
  · refine va_alda C.1 C.2.1 (gC_K C) hP r 2 (ty := .int) (g_arrq (g_sh_lt hs (by decide)) hs) rfl hi hdg ?_
    rw [if_pos hlt]
    exact hk
  · refine va_alda C.1 C.2.1 (gC_K C) hP r 3 (ty := .array .int) (g_arrq (g_sh_lt hs (by decide)) hs) rfl hi hdg ?_
    rw [if_pos hlt]
    exact hk
theorem g_iast (C : gC X cc nL own ret R) {σ' : sg} {r : Nat} {i v : Int32} (hv : st σ r i v = some σ') (hdg : decode cc pc = .ok (.iastore, 1)) (kk : G X nL σ' (pc + 1) lv stk) : G X nL σ pc lv (.int v :: .int i :: .ref (Xd X r) :: stk) := by
  obtain ⟨n, hs, hi, rfl⟩ := st_some hv
  exact fun H locs ls hP hS hl => va_iast C.1 C.2.1 (gC_K C) hP (gC_D C σ) hS r 0 (g_arr (g_sh_lt hs (by decide)) hs) rfl hi hdg (fun H1 l1 hP1 _ hS1 => kk H1 l1 ls (by rw [g_set2 (g_sh_lt hs (by decide)) hs] at hP1; exact hP1) hS1 hl)
theorem g_zast (C : gC X cc nL own ret R) {σ' : sg} {r : Nat} {i v : Int32} (hv : stz σ r i v = some σ') (hdg : decode cc pc = .ok (.bastore, 1)) (kk : G X nL σ' (pc + 1) lv stk) : G X nL σ pc lv (.int v :: .int i :: .ref (Xd X r) :: stk) := by
  obtain ⟨n, hs, hi, rfl⟩ := stz_some hv
  exact fun H locs ls hP hS hl => va_zast C.1 C.2.1 (gC_K C) hP (gC_D C σ) hS r 1 (g_arr (g_sh_lt hs (by decide)) hs) rfl hi hdg (fun H1 l1 hP1 _ hS1 => kk H1 l1 ls (by rw [g_set2 (g_sh_lt hs (by decide)) hs] at hP1; exact hP1) hS1 hl)
def gLen (r : Nat) : Nat := match g_sh r with
  | .inr (_, n, _) => n
  | _ => 0
theorem g_alen (C : gC X cc nL own ret R) {r n : Nat} {v : Int32} (hs : g_sh r = .inr (0, n, none)) (hv : Int32.ofNat n = v) (hdg : decode cc pc = .ok (.arraylength, 1)) (kk : G X nL σ (pc + 1) lv (.int v :: stk)) : G X nL σ pc lv (.ref (Xd X r) :: stk) :=
  fun H locs ls hP hS hl => va_alen C.1 C.2.1 (gC_K C) hP r 0 (g_arr (g_sh_lt hs (by decide)) hs) rfl hv hdg (kk H locs ls hP hS hl)
/-! Math.max, Math.min, System.arraycopy -/
def imax (x y : Int32) : Int32 := if x < y then y else x
def imin (x y : Int32) : Int32 := if y < x then y else x
theorem g_max (C : gC X cc nL own ret R) {index : Nat} {x y : Int32} (hlink : Cond.methodLink own index Lib.Math.max.name ∈ gB) (hst : Cond.static Lib.Math.max.name ∈ gB) (hini : Cond.initialized "java/lang/Math" ∈ gB) (hcode : Cond.code Lib.Math.max.name Lib.Math.max.code 2 (some .int) ∈ gB) (hfr : 1 ≤ R.frames) (hlo : (stk.map fun v => v.category).sum + 13 ≤ R.locals) (hdg : decode cc pc = .ok (.invokestatic index, 3)) (kk : G X nL σ (pc + 3) lv (.int (imax x y) :: stk)) : G X nL σ pc lv (.int y :: .int x :: stk) := by
  have hR : XR X = R := C.2.2.2.2.2.2.2.2.2.2.2.2
  exact fun H locs ls hP hS hl => va_mmax C.1 C.2.1 (C.2.2.1.trans hl.1.symm) C.2.2.2.1 (gC_t C hlink) (gC_t C hst) (gC_t C hini) (gC_t C hcode) (by rw [hR]; exact hfr) (by rw [hR]; exact hlo) C.2.2.2.2.2.2.2.2.2.1.1 C.2.2.2.2.2.2.2.2.2.1.2 hdg (kk H locs ls hP hS hl)
theorem g_min (C : gC X cc nL own ret R) {index : Nat} {x y : Int32} (hlink : Cond.methodLink own index Lib.Math.min.name ∈ gB) (hst : Cond.static Lib.Math.min.name ∈ gB) (hini : Cond.initialized "java/lang/Math" ∈ gB) (hcode : Cond.code Lib.Math.min.name Lib.Math.min.code 2 (some .int) ∈ gB) (hfr : 1 ≤ R.frames) (hlo : (stk.map fun v => v.category).sum + 13 ≤ R.locals) (hdg : decode cc pc = .ok (.invokestatic index, 3)) (kk : G X nL σ (pc + 3) lv (.int (imin x y) :: stk)) : G X nL σ pc lv (.int y :: .int x :: stk) := by
  have hR : XR X = R := C.2.2.2.2.2.2.2.2.2.2.2.2
  exact fun H locs ls hP hS hl => va_mmin C.1 C.2.1 (C.2.2.1.trans hl.1.symm) C.2.2.2.1 (gC_t C hlink) (gC_t C hst) (gC_t C hini) (gC_t C hcode) (by rw [hR]; exact hfr) (by rw [hR]; exact hlo) C.2.2.2.2.2.2.2.2.2.1.1 C.2.2.2.2.2.2.2.2.2.1.2 hdg (kk H locs ls hP hS hl)
theorem cp_some {σ' : sg} {r q : Nat} {i j n : Int32} (h : cp σ r i q j n = some σ') : ∃ nr nq : Nat, g_sh r = .inr (0, nr, none) ∧ g_sh q = .inr (0, nq, none) ∧ r ≠ q ∧ ¬ i < 0 ∧ ¬ j < 0 ∧ ¬ n < 0 ∧ i.toNatClampNeg + n.toNatClampNeg ≤ nr ∧ j.toNatClampNeg + n.toNatClampNeg ≤ nq ∧ σ' = (fun r' => if r' = q then va_cpy (σ r) (σ q) i.toNatClampNeg j.toNatClampNeg n.toNatClampNeg else σ r') := by
  unfold cp at h
  split at h
  · next nr nq h1 h2 =>
    split at h
    · next hh => exact ⟨nr, nq, h1, h2, hh.1, hh.2.1, hh.2.2.1, hh.2.2.2.1, hh.2.2.2.2.1, hh.2.2.2.2.2, (Option.some.inj h).symm⟩
    · cases h
  · cases h
theorem g_copy (C : gC X cc nL own ret R) {σ' : sg} {index r q : Nat} {i j n : Int32} (hv : cp σ r i q j n = some σ') (hlink : Cond.methodLink own index arraycopyName ∈ gB) (hnat : Cond.native arraycopyName ∈ gB) (hst : Cond.static arraycopyName ∈ gB) (hini : Cond.initialized "java/lang/System" ∈ gB) (hfr : 1 ≤ R.frames) (hlo : (stk.map fun v => v.category).sum + (nativeFrameWords "java/lang/System" "arraycopy" 5 + 11) ≤ R.locals) (hdg : decode cc pc = .ok (.invokestatic index, 3)) (kk : G X nL σ' (pc + 3) lv stk) : G X nL σ pc lv (.int n :: .int j :: .ref (Xd X q) :: .int i :: .ref (Xd X r) :: stk) := by
  have hR : XR X = R := C.2.2.2.2.2.2.2.2.2.2.2.2
  obtain ⟨nr, nq, s1, s2, -, h1, h2, h3, h4, h5, rfl⟩ := cp_some hv
  refine fun H locs ls hP hS hl => va_copyi C.1 C.2.1 (C.2.2.1.trans hl.1.symm) C.2.2.2.1 (gC_t C hlink) (gC_t C hnat) (gC_t C hst) (gC_t C hini) (gC_K C) hP (gC_D C σ) hS r q 0 0 (ty := .int) (g_arr (g_sh_lt s1 (by decide)) s1) (g_arr (g_sh_lt s2 (by decide)) s2) rfl rfl rfl h1 h2 h3 h4 h5 (fun _ _ => rfl) (by rw [hR]; exact hfr) (by rw [hR]; exact hlo) hdg (fun H1 l1 hP1 _ hS1 => kk H1 l1 ls ?_ hS1 hl)
  rw [g_ws_set (σ' := fun r' => if r' = q then va_cpy (σ r) (σ q) i.toNatClampNeg j.toNatClampNeg n.toNatClampNeg else σ r') (XG X) (g_sh_lt s2 (by decide)) (by unfold g_el; rw [s2]; show Sum.inl ((XG X).2.1 0, nq, Sum.inl (if q = q then _ else _)) = _; rw [if_pos rfl]) (fun z hz => (g_el_congr (XG X) (by show σ z = if z = q then _ else _; rw [if_neg hz])).symm)] at hP1
  exact hP1
end GR
end
