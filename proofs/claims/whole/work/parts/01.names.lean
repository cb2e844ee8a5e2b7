-- ===== PART A: goes FIRST, ahead of the names: the tables' words, and 'selects' of the private methods out of them =====
/-- a private method of a class that the tables say can be made, by its rows of tables_1 -/
def lw_okq (q : MethodName × Nat) : Prop := (q.1.cls ≠ "java/lang/invoke/MethodHandle" ∧ q.1.cls ≠ "java/lang/invoke/VarHandle") ∧ Cond.instantiable q.1.cls q.2 ∈ tables_1 ∧ Cond.privateMethod q.1 ∈ tables_1 ∧ Cond.instanceMethod q.1 ∈ tables_1
theorem lw_p0 : lw_okq (⟨"MasterHeap$Past", "slot", "(I)LMasterHeap$Heap;"⟩, 4) := ⟨⟨by decide +kernel, by decide +kernel⟩, List.mem_of_getElem? (i := 96) (by decide +kernel), List.mem_of_getElem? (i := 293) (by decide +kernel), List.mem_of_getElem? (i := 294) (by decide +kernel)⟩
theorem lw_p1 : lw_okq (⟨"MasterHeap$Fit", "seekByMoving", "(LMasterHeap$Heap;I)I"⟩, 4) := ⟨⟨by decide +kernel, by decide +kernel⟩, List.mem_of_getElem? (i := 165) (by decide +kernel), List.mem_of_getElem? (i := 314) (by decide +kernel), List.mem_of_getElem? (i := 315) (by decide +kernel)⟩
theorem lw_p2 : lw_okq (⟨"MasterHeap$Heap", "firstFreeAheadOfMovable", "()I"⟩, 14) := ⟨⟨by decide +kernel, by decide +kernel⟩, List.mem_of_getElem? (i := 22) (by decide +kernel), List.mem_of_getElem? (i := 337) (by decide +kernel), List.mem_of_getElem? (i := 338) (by decide +kernel)⟩
theorem lw_p3 : lw_okq (⟨"MasterHeap$Runs", "lengthenLast", "(I)V"⟩, 3) := ⟨⟨by decide +kernel, by decide +kernel⟩, List.mem_of_getElem? (i := 120) (by decide +kernel), List.mem_of_getElem? (i := 368) (by decide +kernel), List.mem_of_getElem? (i := 369) (by decide +kernel)⟩
theorem lw_p4 : lw_okq (⟨"MasterHeap$Runs", "addRun", "(II)V"⟩, 3) := ⟨⟨by decide +kernel, by decide +kernel⟩, List.mem_of_getElem? (i := 120) (by decide +kernel), List.mem_of_getElem? (i := 372) (by decide +kernel), List.mem_of_getElem? (i := 373) (by decide +kernel)⟩
theorem lw_p5 : lw_okq (⟨"MasterHeap$Arrangement", "list", "(LMasterHeap$Heap;)V"⟩, 8) := ⟨⟨by decide +kernel, by decide +kernel⟩, List.mem_of_getElem? (i := 171) (by decide +kernel), List.mem_of_getElem? (i := 405) (by decide +kernel), List.mem_of_getElem? (i := 406) (by decide +kernel)⟩
theorem lw_p6 : lw_okq (⟨"MasterHeap$Arrangement", "hasGapWith", "(I)Z"⟩, 8) := ⟨⟨by decide +kernel, by decide +kernel⟩, List.mem_of_getElem? (i := 171) (by decide +kernel), List.mem_of_getElem? (i := 421) (by decide +kernel), List.mem_of_getElem? (i := 422) (by decide +kernel)⟩
theorem lw_p7 : lw_okq (⟨"MasterHeap$Arrangement", "lay", "(LMasterHeap$Heap;I)I"⟩, 8) := ⟨⟨by decide +kernel, by decide +kernel⟩, List.mem_of_getElem? (i := 171) (by decide +kernel), List.mem_of_getElem? (i := 425) (by decide +kernel), List.mem_of_getElem? (i := 426) (by decide +kernel)⟩
theorem lw_p8 : lw_okq (⟨"MasterHeap$Fit", "squeezeOne", "(LMasterHeap$Heap;I)Z"⟩, 4) := ⟨⟨by decide +kernel, by decide +kernel⟩, List.mem_of_getElem? (i := 165) (by decide +kernel), List.mem_of_getElem? (i := 429) (by decide +kernel), List.mem_of_getElem? (i := 430) (by decide +kernel)⟩
theorem lw_p9 : lw_okq (⟨"MasterHeap$Fit", "purgeOne", "(LMasterHeap$Heap;I)Z"⟩, 4) := ⟨⟨by decide +kernel, by decide +kernel⟩, List.mem_of_getElem? (i := 165) (by decide +kernel), List.mem_of_getElem? (i := 446) (by decide +kernel), List.mem_of_getElem? (i := 447) (by decide +kernel)⟩
theorem lw_p10 : lw_okq (⟨"MasterHeap", "finish", "(I)V"⟩, 7) := ⟨⟨by decide +kernel, by decide +kernel⟩, List.mem_of_getElem? (i := 14) (by decide +kernel), List.mem_of_getElem? (i := 471) (by decide +kernel), List.mem_of_getElem? (i := 472) (by decide +kernel)⟩
theorem lw_p11 : lw_okq (⟨"MasterHeap", "tell", "(III)I"⟩, 7) := ⟨⟨by decide +kernel, by decide +kernel⟩, List.mem_of_getElem? (i := 14) (by decide +kernel), List.mem_of_getElem? (i := 492) (by decide +kernel), List.mem_of_getElem? (i := 493) (by decide +kernel)⟩
theorem lw_p12 : lw_okq (⟨"MasterHeap", "placeToResize", "(II)I"⟩, 7) := ⟨⟨by decide +kernel, by decide +kernel⟩, List.mem_of_getElem? (i := 14) (by decide +kernel), List.mem_of_getElem? (i := 572) (by decide +kernel), List.mem_of_getElem? (i := 573) (by decide +kernel)⟩
theorem lw_p13 : lw_okq (⟨"MasterHeap$Clearing", "isOpen", "(LMasterHeap$Heap;II)Z"⟩, 2) := ⟨⟨by decide +kernel, by decide +kernel⟩, List.mem_of_getElem? (i := 222) (by decide +kernel), List.mem_of_getElem? (i := 596) (by decide +kernel), List.mem_of_getElem? (i := 597) (by decide +kernel)⟩
theorem lw_p14 : lw_okq (⟨"MasterHeap$Clearing", "clear", "(LMasterHeap$Heap;II)Z"⟩, 2) := ⟨⟨by decide +kernel, by decide +kernel⟩, List.mem_of_getElem? (i := 222) (by decide +kernel), List.mem_of_getElem? (i := 603) (by decide +kernel), List.mem_of_getElem? (i := 604) (by decide +kernel)⟩
theorem lw_p15 : lw_okq (⟨"MasterHeap$Clearing", "firstWithin", "(LMasterHeap$Heap;II)I"⟩, 2) := ⟨⟨by decide +kernel, by decide +kernel⟩, List.mem_of_getElem? (i := 222) (by decide +kernel), List.mem_of_getElem? (i := 607) (by decide +kernel), List.mem_of_getElem? (i := 608) (by decide +kernel)⟩
def lw_privs_1 : List (MethodName × Nat) := [(⟨"MasterHeap$Past", "slot", "(I)LMasterHeap$Heap;"⟩, 4), (⟨"MasterHeap$Fit", "seekByMoving", "(LMasterHeap$Heap;I)I"⟩, 4), (⟨"MasterHeap$Heap", "firstFreeAheadOfMovable", "()I"⟩, 14), (⟨"MasterHeap$Runs", "lengthenLast", "(I)V"⟩, 3), (⟨"MasterHeap$Runs", "addRun", "(II)V"⟩, 3), (⟨"MasterHeap$Arrangement", "list", "(LMasterHeap$Heap;)V"⟩, 8), (⟨"MasterHeap$Arrangement", "hasGapWith", "(I)Z"⟩, 8), (⟨"MasterHeap$Arrangement", "lay", "(LMasterHeap$Heap;I)I"⟩, 8), (⟨"MasterHeap$Fit", "squeezeOne", "(LMasterHeap$Heap;I)Z"⟩, 4), (⟨"MasterHeap$Fit", "purgeOne", "(LMasterHeap$Heap;I)Z"⟩, 4), (⟨"MasterHeap", "finish", "(I)V"⟩, 7), (⟨"MasterHeap", "tell", "(III)I"⟩, 7), (⟨"MasterHeap", "placeToResize", "(II)I"⟩, 7), (⟨"MasterHeap$Clearing", "isOpen", "(LMasterHeap$Heap;II)Z"⟩, 2), (⟨"MasterHeap$Clearing", "clear", "(LMasterHeap$Heap;II)Z"⟩, 2), (⟨"MasterHeap$Clearing", "firstWithin", "(LMasterHeap$Heap;II)I"⟩, 2)]
theorem lw_r1 : ∀ q ∈ lw_privs_1, lw_okq q := List.forall_mem_cons.mpr ⟨lw_p0, List.forall_mem_cons.mpr ⟨lw_p1, List.forall_mem_cons.mpr ⟨lw_p2, List.forall_mem_cons.mpr ⟨lw_p3, List.forall_mem_cons.mpr ⟨lw_p4, List.forall_mem_cons.mpr ⟨lw_p5, List.forall_mem_cons.mpr ⟨lw_p6, List.forall_mem_cons.mpr ⟨lw_p7, List.forall_mem_cons.mpr ⟨lw_p8, List.forall_mem_cons.mpr ⟨lw_p9, List.forall_mem_cons.mpr ⟨lw_p10, List.forall_mem_cons.mpr ⟨lw_p11, List.forall_mem_cons.mpr ⟨lw_p12, List.forall_mem_cons.mpr ⟨lw_p13, List.forall_mem_cons.mpr ⟨lw_p14, List.forall_mem_cons.mpr ⟨lw_p15, fun _ h => absurd h List.not_mem_nil⟩⟩⟩⟩⟩⟩⟩⟩⟩⟩⟩⟩⟩⟩⟩⟩
theorem lw_p16 : lw_okq (⟨"MasterHeap", "addBlockOf", "(I)V"⟩, 7) := ⟨⟨by decide +kernel, by decide +kernel⟩, List.mem_of_getElem? (i := 14) (by decide +kernel), List.mem_of_getElem? (i := 772) (by decide +kernel), List.mem_of_getElem? (i := 773) (by decide +kernel)⟩
theorem lw_p17 : lw_okq (⟨"MasterHeap", "findPlaces", "(II)Z"⟩, 7) := ⟨⟨by decide +kernel, by decide +kernel⟩, List.mem_of_getElem? (i := 14) (by decide +kernel), List.mem_of_getElem? (i := 782) (by decide +kernel), List.mem_of_getElem? (i := 783) (by decide +kernel)⟩
theorem lw_p18 : lw_okq (⟨"MasterHeapModel", "begins", "(II)V"⟩, 25) := ⟨⟨by decide +kernel, by decide +kernel⟩, List.mem_of_getElem? (i := 790) (by decide +kernel), List.mem_of_getElem? (i := 796) (by decide +kernel), List.mem_of_getElem? (i := 797) (by decide +kernel)⟩
theorem lw_p19 : lw_okq (⟨"MasterHeapModel", "keepsAside", "()V"⟩, 25) := ⟨⟨by decide +kernel, by decide +kernel⟩, List.mem_of_getElem? (i := 790) (by decide +kernel), List.mem_of_getElem? (i := 896) (by decide +kernel), List.mem_of_getElem? (i := 897) (by decide +kernel)⟩
theorem lw_p20 : lw_okq (⟨"MasterHeapModel", "fits", "(II)I"⟩, 25) := ⟨⟨by decide +kernel, by decide +kernel⟩, List.mem_of_getElem? (i := 790) (by decide +kernel), List.mem_of_getElem? (i := 900) (by decide +kernel), List.mem_of_getElem? (i := 901) (by decide +kernel)⟩
theorem lw_p21 : lw_okq (⟨"MasterHeapModel", "fitsOnce", "(I)I"⟩, 25) := ⟨⟨by decide +kernel, by decide +kernel⟩, List.mem_of_getElem? (i := 790) (by decide +kernel), List.mem_of_getElem? (i := 904) (by decide +kernel), List.mem_of_getElem? (i := 905) (by decide +kernel)⟩
theorem lw_p22 : lw_okq (⟨"MasterHeapModel", "fillsOwners", "()V"⟩, 25) := ⟨⟨by decide +kernel, by decide +kernel⟩, List.mem_of_getElem? (i := 790) (by decide +kernel), List.mem_of_getElem? (i := 908) (by decide +kernel), List.mem_of_getElem? (i := 909) (by decide +kernel)⟩
theorem lw_p23 : lw_okq (⟨"MasterHeapModel", "lays", "(III)V"⟩, 25) := ⟨⟨by decide +kernel, by decide +kernel⟩, List.mem_of_getElem? (i := 790) (by decide +kernel), List.mem_of_getElem? (i := 912) (by decide +kernel), List.mem_of_getElem? (i := 913) (by decide +kernel)⟩
theorem lw_p24 : lw_okq (⟨"MasterHeapModel", "isFull", "(I)Z"⟩, 25) := ⟨⟨by decide +kernel, by decide +kernel⟩, List.mem_of_getElem? (i := 790) (by decide +kernel), List.mem_of_getElem? (i := 916) (by decide +kernel), List.mem_of_getElem? (i := 917) (by decide +kernel)⟩
theorem lw_p25 : lw_okq (⟨"MasterHeapModel", "lengthOf", "(I)I"⟩, 25) := ⟨⟨by decide +kernel, by decide +kernel⟩, List.mem_of_getElem? (i := 790) (by decide +kernel), List.mem_of_getElem? (i := 923) (by decide +kernel), List.mem_of_getElem? (i := 924) (by decide +kernel)⟩
theorem lw_p26 : lw_okq (⟨"MasterHeapModel", "isIsland", "(I)Z"⟩, 25) := ⟨⟨by decide +kernel, by decide +kernel⟩, List.mem_of_getElem? (i := 790) (by decide +kernel), List.mem_of_getElem? (i := 927) (by decide +kernel), List.mem_of_getElem? (i := 928) (by decide +kernel)⟩
theorem lw_p27 : lw_okq (⟨"MasterHeapModel", "firstFree", "(I)I"⟩, 25) := ⟨⟨by decide +kernel, by decide +kernel⟩, List.mem_of_getElem? (i := 790) (by decide +kernel), List.mem_of_getElem? (i := 931) (by decide +kernel), List.mem_of_getElem? (i := 932) (by decide +kernel)⟩
theorem lw_p28 : lw_okq (⟨"MasterHeapModel", "behind", "(I)I"⟩, 25) := ⟨⟨by decide +kernel, by decide +kernel⟩, List.mem_of_getElem? (i := 790) (by decide +kernel), List.mem_of_getElem? (i := 935) (by decide +kernel), List.mem_of_getElem? (i := 936) (by decide +kernel)⟩
theorem lw_p29 : lw_okq (⟨"MasterHeapModel", "slides", "(I)I"⟩, 25) := ⟨⟨by decide +kernel, by decide +kernel⟩, List.mem_of_getElem? (i := 790) (by decide +kernel), List.mem_of_getElem? (i := 939) (by decide +kernel), List.mem_of_getElem? (i := 940) (by decide +kernel)⟩
theorem lw_p30 : lw_okq (⟨"MasterHeapModel", "slidesOne", "()I"⟩, 25) := ⟨⟨by decide +kernel, by decide +kernel⟩, List.mem_of_getElem? (i := 790) (by decide +kernel), List.mem_of_getElem? (i := 943) (by decide +kernel), List.mem_of_getElem? (i := 944) (by decide +kernel)⟩
theorem lw_p31 : lw_okq (⟨"MasterHeapModel", "isLooseAt", "(I)Z"⟩, 25) := ⟨⟨by decide +kernel, by decide +kernel⟩, List.mem_of_getElem? (i := 790) (by decide +kernel), List.mem_of_getElem? (i := 947) (by decide +kernel), List.mem_of_getElem? (i := 948) (by decide +kernel)⟩
def lw_privs_2 : List (MethodName × Nat) := [(⟨"MasterHeap", "addBlockOf", "(I)V"⟩, 7), (⟨"MasterHeap", "findPlaces", "(II)Z"⟩, 7), (⟨"MasterHeapModel", "begins", "(II)V"⟩, 25), (⟨"MasterHeapModel", "keepsAside", "()V"⟩, 25), (⟨"MasterHeapModel", "fits", "(II)I"⟩, 25), (⟨"MasterHeapModel", "fitsOnce", "(I)I"⟩, 25), (⟨"MasterHeapModel", "fillsOwners", "()V"⟩, 25), (⟨"MasterHeapModel", "lays", "(III)V"⟩, 25), (⟨"MasterHeapModel", "isFull", "(I)Z"⟩, 25), (⟨"MasterHeapModel", "lengthOf", "(I)I"⟩, 25), (⟨"MasterHeapModel", "isIsland", "(I)Z"⟩, 25), (⟨"MasterHeapModel", "firstFree", "(I)I"⟩, 25), (⟨"MasterHeapModel", "behind", "(I)I"⟩, 25), (⟨"MasterHeapModel", "slides", "(I)I"⟩, 25), (⟨"MasterHeapModel", "slidesOne", "()I"⟩, 25), (⟨"MasterHeapModel", "isLooseAt", "(I)Z"⟩, 25)]
theorem lw_r2 : ∀ q ∈ lw_privs_2, lw_okq q := List.forall_mem_cons.mpr ⟨lw_p16, List.forall_mem_cons.mpr ⟨lw_p17, List.forall_mem_cons.mpr ⟨lw_p18, List.forall_mem_cons.mpr ⟨lw_p19, List.forall_mem_cons.mpr ⟨lw_p20, List.forall_mem_cons.mpr ⟨lw_p21, List.forall_mem_cons.mpr ⟨lw_p22, List.forall_mem_cons.mpr ⟨lw_p23, List.forall_mem_cons.mpr ⟨lw_p24, List.forall_mem_cons.mpr ⟨lw_p25, List.forall_mem_cons.mpr ⟨lw_p26, List.forall_mem_cons.mpr ⟨lw_p27, List.forall_mem_cons.mpr ⟨lw_p28, List.forall_mem_cons.mpr ⟨lw_p29, List.forall_mem_cons.mpr ⟨lw_p30, List.forall_mem_cons.mpr ⟨lw_p31, fun _ h => absurd h List.not_mem_nil⟩⟩⟩⟩⟩⟩⟩⟩⟩⟩⟩⟩⟩⟩⟩⟩
theorem lw_p32 : lw_okq (⟨"MasterHeapModel", "isFixedAt", "(I)Z"⟩, 25) := ⟨⟨by decide +kernel, by decide +kernel⟩, List.mem_of_getElem? (i := 790) (by decide +kernel), List.mem_of_getElem? (i := 951) (by decide +kernel), List.mem_of_getElem? (i := 952) (by decide +kernel)⟩
theorem lw_p33 : lw_okq (⟨"MasterHeapModel", "grows", "(I)I"⟩, 25) := ⟨⟨by decide +kernel, by decide +kernel⟩, List.mem_of_getElem? (i := 790) (by decide +kernel), List.mem_of_getElem? (i := 955) (by decide +kernel), List.mem_of_getElem? (i := 956) (by decide +kernel)⟩
theorem lw_p34 : lw_okq (⟨"MasterHeapModel", "freeEnd", "()I"⟩, 25) := ⟨⟨by decide +kernel, by decide +kernel⟩, List.mem_of_getElem? (i := 790) (by decide +kernel), List.mem_of_getElem? (i := 959) (by decide +kernel), List.mem_of_getElem? (i := 960) (by decide +kernel)⟩
theorem lw_p35 : lw_okq (⟨"MasterHeapModel", "arranges", "(I)I"⟩, 25) := ⟨⟨by decide +kernel, by decide +kernel⟩, List.mem_of_getElem? (i := 790) (by decide +kernel), List.mem_of_getElem? (i := 963) (by decide +kernel), List.mem_of_getElem? (i := 964) (by decide +kernel)⟩
theorem lw_p36 : lw_okq (⟨"MasterHeapModel", "fillsGaps", "(I)V"⟩, 25) := ⟨⟨by decide +kernel, by decide +kernel⟩, List.mem_of_getElem? (i := 790) (by decide +kernel), List.mem_of_getElem? (i := 967) (by decide +kernel), List.mem_of_getElem? (i := 968) (by decide +kernel)⟩
theorem lw_p37 : lw_okq (⟨"MasterHeapModel", "mostLeft", "(I)I"⟩, 25) := ⟨⟨by decide +kernel, by decide +kernel⟩, List.mem_of_getElem? (i := 790) (by decide +kernel), List.mem_of_getElem? (i := 971) (by decide +kernel), List.mem_of_getElem? (i := 972) (by decide +kernel)⟩
theorem lw_p38 : lw_okq (⟨"MasterHeapModel", "fillsLong", "(I)V"⟩, 25) := ⟨⟨by decide +kernel, by decide +kernel⟩, List.mem_of_getElem? (i := 790) (by decide +kernel), List.mem_of_getElem? (i := 978) (by decide +kernel), List.mem_of_getElem? (i := 979) (by decide +kernel)⟩
theorem lw_p39 : lw_okq (⟨"MasterHeapModel", "packsNothing", "(I)V"⟩, 25) := ⟨⟨by decide +kernel, by decide +kernel⟩, List.mem_of_getElem? (i := 790) (by decide +kernel), List.mem_of_getElem? (i := 982) (by decide +kernel), List.mem_of_getElem? (i := 983) (by decide +kernel)⟩
theorem lw_p40 : lw_okq (⟨"MasterHeapModel", "packsInto", "(II)V"⟩, 25) := ⟨⟨by decide +kernel, by decide +kernel⟩, List.mem_of_getElem? (i := 790) (by decide +kernel), List.mem_of_getElem? (i := 986) (by decide +kernel), List.mem_of_getElem? (i := 987) (by decide +kernel)⟩
theorem lw_p41 : lw_okq (⟨"MasterHeapModel", "othersBy", "(I)I"⟩, 25) := ⟨⟨by decide +kernel, by decide +kernel⟩, List.mem_of_getElem? (i := 790) (by decide +kernel), List.mem_of_getElem? (i := 990) (by decide +kernel), List.mem_of_getElem? (i := 991) (by decide +kernel)⟩
theorem lw_p42 : lw_okq (⟨"MasterHeapModel", "turnsOn", "()Z"⟩, 25) := ⟨⟨by decide +kernel, by decide +kernel⟩, List.mem_of_getElem? (i := 790) (by decide +kernel), List.mem_of_getElem? (i := 994) (by decide +kernel), List.mem_of_getElem? (i := 995) (by decide +kernel)⟩
theorem lw_p43 : lw_okq (⟨"MasterHeapModel", "arrangesBest", "()V"⟩, 25) := ⟨⟨by decide +kernel, by decide +kernel⟩, List.mem_of_getElem? (i := 790) (by decide +kernel), List.mem_of_getElem? (i := 998) (by decide +kernel), List.mem_of_getElem? (i := 999) (by decide +kernel)⟩
theorem lw_p44 : lw_okq (⟨"MasterHeapModel", "leastOne", "(ZI)I"⟩, 25) := ⟨⟨by decide +kernel, by decide +kernel⟩, List.mem_of_getElem? (i := 790) (by decide +kernel), List.mem_of_getElem? (i := 1002) (by decide +kernel), List.mem_of_getElem? (i := 1003) (by decide +kernel)⟩
theorem lw_p45 : lw_okq (⟨"MasterHeapModel", "canBeLess", "(I)Z"⟩, 25) := ⟨⟨by decide +kernel, by decide +kernel⟩, List.mem_of_getElem? (i := 790) (by decide +kernel), List.mem_of_getElem? (i := 1006) (by decide +kernel), List.mem_of_getElem? (i := 1007) (by decide +kernel)⟩
theorem lw_p46 : lw_okq (⟨"MasterHeapModel", "isLoose", "(I)Z"⟩, 25) := ⟨⟨by decide +kernel, by decide +kernel⟩, List.mem_of_getElem? (i := 790) (by decide +kernel), List.mem_of_getElem? (i := 1010) (by decide +kernel), List.mem_of_getElem? (i := 1011) (by decide +kernel)⟩
theorem lw_p47 : lw_okq (⟨"MasterHeapModel", "canGo", "(I)Z"⟩, 25) := ⟨⟨by decide +kernel, by decide +kernel⟩, List.mem_of_getElem? (i := 790) (by decide +kernel), List.mem_of_getElem? (i := 1014) (by decide +kernel), List.mem_of_getElem? (i := 1015) (by decide +kernel)⟩
def lw_privs_3 : List (MethodName × Nat) := [(⟨"MasterHeapModel", "isFixedAt", "(I)Z"⟩, 25), (⟨"MasterHeapModel", "grows", "(I)I"⟩, 25), (⟨"MasterHeapModel", "freeEnd", "()I"⟩, 25), (⟨"MasterHeapModel", "arranges", "(I)I"⟩, 25), (⟨"MasterHeapModel", "fillsGaps", "(I)V"⟩, 25), (⟨"MasterHeapModel", "mostLeft", "(I)I"⟩, 25), (⟨"MasterHeapModel", "fillsLong", "(I)V"⟩, 25), (⟨"MasterHeapModel", "packsNothing", "(I)V"⟩, 25), (⟨"MasterHeapModel", "packsInto", "(II)V"⟩, 25), (⟨"MasterHeapModel", "othersBy", "(I)I"⟩, 25), (⟨"MasterHeapModel", "turnsOn", "()Z"⟩, 25), (⟨"MasterHeapModel", "arrangesBest", "()V"⟩, 25), (⟨"MasterHeapModel", "leastOne", "(ZI)I"⟩, 25), (⟨"MasterHeapModel", "canBeLess", "(I)Z"⟩, 25), (⟨"MasterHeapModel", "isLoose", "(I)Z"⟩, 25), (⟨"MasterHeapModel", "canGo", "(I)Z"⟩, 25)]
theorem lw_r3 : ∀ q ∈ lw_privs_3, lw_okq q := List.forall_mem_cons.mpr ⟨lw_p32, List.forall_mem_cons.mpr ⟨lw_p33, List.forall_mem_cons.mpr ⟨lw_p34, List.forall_mem_cons.mpr ⟨lw_p35, List.forall_mem_cons.mpr ⟨lw_p36, List.forall_mem_cons.mpr ⟨lw_p37, List.forall_mem_cons.mpr ⟨lw_p38, List.forall_mem_cons.mpr ⟨lw_p39, List.forall_mem_cons.mpr ⟨lw_p40, List.forall_mem_cons.mpr ⟨lw_p41, List.forall_mem_cons.mpr ⟨lw_p42, List.forall_mem_cons.mpr ⟨lw_p43, List.forall_mem_cons.mpr ⟨lw_p44, List.forall_mem_cons.mpr ⟨lw_p45, List.forall_mem_cons.mpr ⟨lw_p46, List.forall_mem_cons.mpr ⟨lw_p47, fun _ h => absurd h List.not_mem_nil⟩⟩⟩⟩⟩⟩⟩⟩⟩⟩⟩⟩⟩⟩⟩⟩
theorem lw_p48 : lw_okq (⟨"MasterHeapModel", "worthOf", "(I)I"⟩, 25) := ⟨⟨by decide +kernel, by decide +kernel⟩, List.mem_of_getElem? (i := 790) (by decide +kernel), List.mem_of_getElem? (i := 1018) (by decide +kernel), List.mem_of_getElem? (i := 1019) (by decide +kernel)⟩
theorem lw_p49 : lw_okq (⟨"MasterHeapModel", "squeezes", "(I)V"⟩, 25) := ⟨⟨by decide +kernel, by decide +kernel⟩, List.mem_of_getElem? (i := 790) (by decide +kernel), List.mem_of_getElem? (i := 1022) (by decide +kernel), List.mem_of_getElem? (i := 1023) (by decide +kernel)⟩
theorem lw_p50 : lw_okq (⟨"MasterHeapModel", "empties", "(I)V"⟩, 25) := ⟨⟨by decide +kernel, by decide +kernel⟩, List.mem_of_getElem? (i := 790) (by decide +kernel), List.mem_of_getElem? (i := 1026) (by decide +kernel), List.mem_of_getElem? (i := 1027) (by decide +kernel)⟩
theorem lw_p51 : lw_okq (⟨"MasterHeapModel", "laysBack", "()V"⟩, 25) := ⟨⟨by decide +kernel, by decide +kernel⟩, List.mem_of_getElem? (i := 790) (by decide +kernel), List.mem_of_getElem? (i := 1030) (by decide +kernel), List.mem_of_getElem? (i := 1031) (by decide +kernel)⟩
theorem lw_p52 : lw_okq (⟨"MasterHeapModel", "fills", "(II)V"⟩, 25) := ⟨⟨by decide +kernel, by decide +kernel⟩, List.mem_of_getElem? (i := 790) (by decide +kernel), List.mem_of_getElem? (i := 1034) (by decide +kernel), List.mem_of_getElem? (i := 1035) (by decide +kernel)⟩
theorem lw_p53 : lw_okq (⟨"MasterHeapModel", "clearsContents", "(III)V"⟩, 25) := ⟨⟨by decide +kernel, by decide +kernel⟩, List.mem_of_getElem? (i := 790) (by decide +kernel), List.mem_of_getElem? (i := 1038) (by decide +kernel), List.mem_of_getElem? (i := 1039) (by decide +kernel)⟩
theorem lw_p54 : lw_okq (⟨"MasterHeapModel", "keepsAct", "()V"⟩, 25) := ⟨⟨by decide +kernel, by decide +kernel⟩, List.mem_of_getElem? (i := 790) (by decide +kernel), List.mem_of_getElem? (i := 1042) (by decide +kernel), List.mem_of_getElem? (i := 1043) (by decide +kernel)⟩
theorem lw_p55 : lw_okq (⟨"MasterHeapModel", "touches", "(I)V"⟩, 25) := ⟨⟨by decide +kernel, by decide +kernel⟩, List.mem_of_getElem? (i := 790) (by decide +kernel), List.mem_of_getElem? (i := 1046) (by decide +kernel), List.mem_of_getElem? (i := 1047) (by decide +kernel)⟩
theorem lw_p56 : lw_okq (⟨"MasterHeapModel", "isThere", "(I)Z"⟩, 25) := ⟨⟨by decide +kernel, by decide +kernel⟩, List.mem_of_getElem? (i := 790) (by decide +kernel), List.mem_of_getElem? (i := 1062) (by decide +kernel), List.mem_of_getElem? (i := 1063) (by decide +kernel)⟩
theorem lw_p57 : lw_okq (⟨"MasterHeapModel", "highest", "(III)I"⟩, 25) := ⟨⟨by decide +kernel, by decide +kernel⟩, List.mem_of_getElem? (i := 790) (by decide +kernel), List.mem_of_getElem? (i := 1078) (by decide +kernel), List.mem_of_getElem? (i := 1079) (by decide +kernel)⟩
theorem lw_p58 : lw_okq (⟨"MasterHeapModel", "canStretch", "(II)Z"⟩, 25) := ⟨⟨by decide +kernel, by decide +kernel⟩, List.mem_of_getElem? (i := 790) (by decide +kernel), List.mem_of_getElem? (i := 1106) (by decide +kernel), List.mem_of_getElem? (i := 1107) (by decide +kernel)⟩
theorem lw_p59 : lw_okq (⟨"MasterHeapModel", "clearsFirst", "(I)I"⟩, 25) := ⟨⟨by decide +kernel, by decide +kernel⟩, List.mem_of_getElem? (i := 790) (by decide +kernel), List.mem_of_getElem? (i := 1114) (by decide +kernel), List.mem_of_getElem? (i := 1115) (by decide +kernel)⟩
theorem lw_p60 : lw_okq (⟨"MasterHeapModel", "isOpen", "(II)Z"⟩, 25) := ⟨⟨by decide +kernel, by decide +kernel⟩, List.mem_of_getElem? (i := 790) (by decide +kernel), List.mem_of_getElem? (i := 1118) (by decide +kernel), List.mem_of_getElem? (i := 1119) (by decide +kernel)⟩
theorem lw_p61 : lw_okq (⟨"MasterHeapModel", "clears", "(II)Z"⟩, 25) := ⟨⟨by decide +kernel, by decide +kernel⟩, List.mem_of_getElem? (i := 790) (by decide +kernel), List.mem_of_getElem? (i := 1122) (by decide +kernel), List.mem_of_getElem? (i := 1123) (by decide +kernel)⟩
theorem lw_p62 : lw_okq (⟨"MasterHeapModel", "fillsWay", "(II)V"⟩, 25) := ⟨⟨by decide +kernel, by decide +kernel⟩, List.mem_of_getElem? (i := 790) (by decide +kernel), List.mem_of_getElem? (i := 1126) (by decide +kernel), List.mem_of_getElem? (i := 1127) (by decide +kernel)⟩
theorem lw_p63 : lw_okq (⟨"MasterHeapModel", "moved", "()I"⟩, 25) := ⟨⟨by decide +kernel, by decide +kernel⟩, List.mem_of_getElem? (i := 790) (by decide +kernel), List.mem_of_getElem? (i := 1142) (by decide +kernel), List.mem_of_getElem? (i := 1143) (by decide +kernel)⟩
def lw_privs_4 : List (MethodName × Nat) := [(⟨"MasterHeapModel", "worthOf", "(I)I"⟩, 25), (⟨"MasterHeapModel", "squeezes", "(I)V"⟩, 25), (⟨"MasterHeapModel", "empties", "(I)V"⟩, 25), (⟨"MasterHeapModel", "laysBack", "()V"⟩, 25), (⟨"MasterHeapModel", "fills", "(II)V"⟩, 25), (⟨"MasterHeapModel", "clearsContents", "(III)V"⟩, 25), (⟨"MasterHeapModel", "keepsAct", "()V"⟩, 25), (⟨"MasterHeapModel", "touches", "(I)V"⟩, 25), (⟨"MasterHeapModel", "isThere", "(I)Z"⟩, 25), (⟨"MasterHeapModel", "highest", "(III)I"⟩, 25), (⟨"MasterHeapModel", "canStretch", "(II)Z"⟩, 25), (⟨"MasterHeapModel", "clearsFirst", "(I)I"⟩, 25), (⟨"MasterHeapModel", "isOpen", "(II)Z"⟩, 25), (⟨"MasterHeapModel", "clears", "(II)Z"⟩, 25), (⟨"MasterHeapModel", "fillsWay", "(II)V"⟩, 25), (⟨"MasterHeapModel", "moved", "()I"⟩, 25)]
theorem lw_r4 : ∀ q ∈ lw_privs_4, lw_okq q := List.forall_mem_cons.mpr ⟨lw_p48, List.forall_mem_cons.mpr ⟨lw_p49, List.forall_mem_cons.mpr ⟨lw_p50, List.forall_mem_cons.mpr ⟨lw_p51, List.forall_mem_cons.mpr ⟨lw_p52, List.forall_mem_cons.mpr ⟨lw_p53, List.forall_mem_cons.mpr ⟨lw_p54, List.forall_mem_cons.mpr ⟨lw_p55, List.forall_mem_cons.mpr ⟨lw_p56, List.forall_mem_cons.mpr ⟨lw_p57, List.forall_mem_cons.mpr ⟨lw_p58, List.forall_mem_cons.mpr ⟨lw_p59, List.forall_mem_cons.mpr ⟨lw_p60, List.forall_mem_cons.mpr ⟨lw_p61, List.forall_mem_cons.mpr ⟨lw_p62, List.forall_mem_cons.mpr ⟨lw_p63, fun _ h => absurd h List.not_mem_nil⟩⟩⟩⟩⟩⟩⟩⟩⟩⟩⟩⟩⟩⟩⟩⟩
theorem lw_p64 : lw_okq (⟨"MasterHeapModel", "ahead", "(I)I"⟩, 25) := ⟨⟨by decide +kernel, by decide +kernel⟩, List.mem_of_getElem? (i := 790) (by decide +kernel), List.mem_of_getElem? (i := 1146) (by decide +kernel), List.mem_of_getElem? (i := 1147) (by decide +kernel)⟩
theorem lw_p65 : lw_okq (⟨"MasterHeapModel", "cellAt", "(I)I"⟩, 25) := ⟨⟨by decide +kernel, by decide +kernel⟩, List.mem_of_getElem? (i := 790) (by decide +kernel), List.mem_of_getElem? (i := 1171) (by decide +kernel), List.mem_of_getElem? (i := 1172) (by decide +kernel)⟩
theorem lw_p66 : lw_okq (⟨"MasterHeapModel", "mostThen", "(I)I"⟩, 25) := ⟨⟨by decide +kernel, by decide +kernel⟩, List.mem_of_getElem? (i := 790) (by decide +kernel), List.mem_of_getElem? (i := 1194) (by decide +kernel), List.mem_of_getElem? (i := 1195) (by decide +kernel)⟩
theorem lw_p67 : lw_okq (⟨"MasterHeapModel", "takes", "(I)V"⟩, 25) := ⟨⟨by decide +kernel, by decide +kernel⟩, List.mem_of_getElem? (i := 790) (by decide +kernel), List.mem_of_getElem? (i := 1209) (by decide +kernel), List.mem_of_getElem? (i := 1210) (by decide +kernel)⟩
theorem lw_p68 : lw_okq (⟨"MasterHeapModel", "lengthsOf", "(I)I"⟩, 25) := ⟨⟨by decide +kernel, by decide +kernel⟩, List.mem_of_getElem? (i := 790) (by decide +kernel), List.mem_of_getElem? (i := 1217) (by decide +kernel), List.mem_of_getElem? (i := 1218) (by decide +kernel)⟩
theorem lw_p69 : lw_okq (⟨"MasterHeapModel", "findPlaces", "(II)Z"⟩, 25) := ⟨⟨by decide +kernel, by decide +kernel⟩, List.mem_of_getElem? (i := 790) (by decide +kernel), List.mem_of_getElem? (i := 1221) (by decide +kernel), List.mem_of_getElem? (i := 1222) (by decide +kernel)⟩
theorem lw_p70 : lw_okq (⟨"MasterHeapModel", "isTorn", "(IIZ)Z"⟩, 25) := ⟨⟨by decide +kernel, by decide +kernel⟩, List.mem_of_getElem? (i := 790) (by decide +kernel), List.mem_of_getElem? (i := 1237) (by decide +kernel), List.mem_of_getElem? (i := 1238) (by decide +kernel)⟩
theorem lw_p71 : lw_okq (⟨"MasterHeapModel", "blocks", "()I"⟩, 25) := ⟨⟨by decide +kernel, by decide +kernel⟩, List.mem_of_getElem? (i := 790) (by decide +kernel), List.mem_of_getElem? (i := 1245) (by decide +kernel), List.mem_of_getElem? (i := 1246) (by decide +kernel)⟩
def lw_privs_5 : List (MethodName × Nat) := [(⟨"MasterHeapModel", "ahead", "(I)I"⟩, 25), (⟨"MasterHeapModel", "cellAt", "(I)I"⟩, 25), (⟨"MasterHeapModel", "mostThen", "(I)I"⟩, 25), (⟨"MasterHeapModel", "takes", "(I)V"⟩, 25), (⟨"MasterHeapModel", "lengthsOf", "(I)I"⟩, 25), (⟨"MasterHeapModel", "findPlaces", "(II)Z"⟩, 25), (⟨"MasterHeapModel", "isTorn", "(IIZ)Z"⟩, 25), (⟨"MasterHeapModel", "blocks", "()I"⟩, 25)]
theorem lw_r5 : ∀ q ∈ lw_privs_5, lw_okq q := List.forall_mem_cons.mpr ⟨lw_p64, List.forall_mem_cons.mpr ⟨lw_p65, List.forall_mem_cons.mpr ⟨lw_p66, List.forall_mem_cons.mpr ⟨lw_p67, List.forall_mem_cons.mpr ⟨lw_p68, List.forall_mem_cons.mpr ⟨lw_p69, List.forall_mem_cons.mpr ⟨lw_p70, List.forall_mem_cons.mpr ⟨lw_p71, fun _ h => absurd h List.not_mem_nil⟩⟩⟩⟩⟩⟩⟩⟩
def lw_privs : List (MethodName × Nat) := lw_privs_1 ++ (lw_privs_2 ++ (lw_privs_3 ++ (lw_privs_4 ++ (lw_privs_5))))
def lw_tbl : List Cond := k2_sels lw_privs ++ tables_1
theorem lw_privs_ok : ∀ q ∈ lw_privs, lw_okq q := by
  show ∀ q ∈ lw_privs_1 ++ (lw_privs_2 ++ (lw_privs_3 ++ (lw_privs_4 ++ (lw_privs_5)))), lw_okq q
  exact List.forall_mem_append.mpr ⟨lw_r1, List.forall_mem_append.mpr ⟨lw_r2, List.forall_mem_append.mpr ⟨lw_r3, List.forall_mem_append.mpr ⟨lw_r4, lw_r5⟩⟩⟩⟩
-- ===== end of PART A; then your names; then what follows =====
def RX0 : String := "MasterHeap$Arrangement"
def TX0 : u_T := fun k => match k with
  | 0 => ("MasterHeap$Arrangement", "gaps", "LMasterHeap$Runs;", true)
  | 1 => ("MasterHeap$Arrangement", "packing", "LMasterHeap$Packing;", true)
  | 2 => ("MasterHeap$Arrangement", "handles", "[I", true)
  | 3 => ("MasterHeap$Arrangement", "lengths", "[I", true)
  | 4 => ("MasterHeap$Arrangement", "homes", "[I", true)
  | 5 => ("MasterHeap$Arrangement", "given", "[I", true)
  | 6 => ("MasterHeap$Arrangement", "left", "[I", true)
  | _ => ("MasterHeap$Arrangement", "count", "I", false)
def tyX0 : Nat → FieldType := fun k => match k with
  | 0 => .object "MasterHeap$Runs"
  | 1 => .object "MasterHeap$Packing"
  | 2 => .array .int
  | 3 => .array .int
  | 4 => .array .int
  | 5 => .array .int
  | 6 => .array .int
  | _ => .int
abbrev wsX00 : List Cond := u_ws RX0 TX0 8
theorem nmX0 : ∀ a, a < 8 → ∀ b, b < 8 → a ≠ b → (TX0 a).2.1 ≠ (TX0 b).2.1 := by decide +kernel
theorem tyX0_ok : ∀ k, k < 8 → parseFieldDescriptor (TX0 k).2.2.1 = some (tyX0 k) := by decide +kernel
abbrev cX0_init : ByteArray := prog_2_method_1_code
def yX0_init : MethodName := ⟨RX0, "<init>", "()V"⟩
abbrev cX0_seek : ByteArray := prog_2_method_2_code
def yX0_seek : MethodName := ⟨RX0, "seek", "(LMasterHeap$Heap;I)I"⟩
abbrev cX0_list : ByteArray := prog_2_method_3_code
def yX0_list : MethodName := ⟨RX0, "list", "(LMasterHeap$Heap;)V"⟩
abbrev cX0_give : ByteArray := prog_2_method_4_code
def yX0_give : MethodName := ⟨RX0, "give", "(LMasterHeap$Arrangement;III)Z"⟩
abbrev cX0_hasGapWith : ByteArray := prog_2_method_5_code
def yX0_hasGapWith : MethodName := ⟨RX0, "hasGapWith", "(I)Z"⟩
abbrev cX0_lay : ByteArray := prog_2_method_6_code
def yX0_lay : MethodName := ⟨RX0, "lay", "(LMasterHeap$Heap;I)I"⟩
def RX1 : String := "MasterHeap$Clearing"
def TX1 : u_T := fun k => match k with
  | 0 => ("MasterHeap$Clearing", "runs", "LMasterHeap$Runs;", true)
  | _ => ("MasterHeap$Clearing", "oldPlaces", "[I", true)
def tyX1 : Nat → FieldType := fun k => match k with
  | 0 => .object "MasterHeap$Runs"
  | _ => .array .int
abbrev wsX10 : List Cond := u_ws RX1 TX1 2
theorem nmX1 : ∀ a, a < 2 → ∀ b, b < 2 → a ≠ b → (TX1 a).2.1 ≠ (TX1 b).2.1 := by decide +kernel
theorem tyX1_ok : ∀ k, k < 2 → parseFieldDescriptor (TX1 k).2.2.1 = some (tyX1 k) := by decide +kernel
abbrev cX1_init : ByteArray := prog_3_method_1_code
def yX1_init : MethodName := ⟨RX1, "<init>", "()V"⟩
abbrev cX1_clearFirst : ByteArray := prog_3_method_2_code
def yX1_clearFirst : MethodName := ⟨RX1, "clearFirst", "(LMasterHeap$Heap;I)I"⟩
abbrev cX1_isOpen : ByteArray := prog_3_method_3_code
def yX1_isOpen : MethodName := ⟨RX1, "isOpen", "(LMasterHeap$Heap;II)Z"⟩
abbrev cX1_clear : ByteArray := prog_3_method_4_code
def yX1_clear : MethodName := ⟨RX1, "clear", "(LMasterHeap$Heap;II)Z"⟩
abbrev cX1_firstWithin : ByteArray := prog_3_method_5_code
def yX1_firstWithin : MethodName := ⟨RX1, "firstWithin", "(LMasterHeap$Heap;II)I"⟩
abbrev cX1_highest : ByteArray := prog_3_method_6_code
def yX1_highest : MethodName := ⟨RX1, "highest", "(LMasterHeap$Heap;III)I"⟩
def RX2 : String := "MasterHeap$Fit"
def TX2 : u_T := fun k => match k with
  | 0 => ("MasterHeap$Fit", "arrangement", "LMasterHeap$Arrangement;", true)
  | 1 => ("MasterHeap$Fit", "step", "I", false)
  | 2 => ("MasterHeap$Fit", "squeezed", "I", false)
  | _ => ("MasterHeap$Fit", "purged", "I", false)
def tyX2 : Nat → FieldType := fun k => match k with
  | 0 => .object "MasterHeap$Arrangement"
  | 1 => .int
  | 2 => .int
  | _ => .int
abbrev wsX20 : List Cond := u_ws RX2 TX2 4
theorem nmX2 : ∀ a, a < 4 → ∀ b, b < 4 → a ≠ b → (TX2 a).2.1 ≠ (TX2 b).2.1 := by decide +kernel
theorem tyX2_ok : ∀ k, k < 4 → parseFieldDescriptor (TX2 k).2.2.1 = some (tyX2 k) := by decide +kernel
abbrev cX2_init : ByteArray := prog_4_method_1_code
def yX2_init : MethodName := ⟨RX2, "<init>", "()V"⟩
abbrev cX2_seek : ByteArray := prog_4_method_2_code
def yX2_seek : MethodName := ⟨RX2, "seek", "(LMasterHeap$Heap;II)I"⟩
abbrev cX2_seekByMoving : ByteArray := prog_4_method_3_code
def yX2_seekByMoving : MethodName := ⟨RX2, "seekByMoving", "(LMasterHeap$Heap;I)I"⟩
abbrev cX2_squeezeOne : ByteArray := prog_4_method_4_code
def yX2_squeezeOne : MethodName := ⟨RX2, "squeezeOne", "(LMasterHeap$Heap;I)Z"⟩
abbrev cX2_purgeOne : ByteArray := prog_4_method_5_code
def yX2_purgeOne : MethodName := ⟨RX2, "purgeOne", "(LMasterHeap$Heap;I)Z"⟩
def RX3 : String := "MasterHeap$Heap"
def TX3 : u_T := fun k => match k with
  | 0 => ("MasterHeap$Heap", "places", "[I", true)
  | 1 => ("MasterHeap$Heap", "sizes", "[I", true)
  | 2 => ("MasterHeap$Heap", "contents", "[I", true)
  | 3 => ("MasterHeap$Heap", "locks", "[I", true)
  | 4 => ("MasterHeap$Heap", "leasts", "[I", true)
  | 5 => ("MasterHeap$Heap", "costs", "[I", true)
  | 6 => ("MasterHeap$Heap", "touches", "[I", true)
  | 7 => ("MasterHeap$Heap", "used", "I", false)
  | 8 => ("MasterHeap$Heap", "purgeable", "I", false)
  | 9 => ("MasterHeap$Heap", "size", "I", false)
  | 10 => ("MasterHeap$Heap", "most", "I", false)
  | 11 => ("MasterHeap$Heap", "clock", "I", false)
  | 12 => ("MasterHeap$Heap", "policy", "I", false)
  | _ => ("MasterHeap$Heap", "bill", "I", false)
def tyX3 : Nat → FieldType := fun k => match k with
  | 0 => .array .int
  | 1 => .array .int
  | 2 => .array .int
  | 3 => .array .int
  | 4 => .array .int
  | 5 => .array .int
  | 6 => .array .int
  | 7 => .int
  | 8 => .int
  | 9 => .int
  | 10 => .int
  | 11 => .int
  | 12 => .int
  | _ => .int
abbrev wsX30 : List Cond := u_ws RX3 TX3 14
theorem nmX3 : ∀ a, a < 14 → ∀ b, b < 14 → a ≠ b → (TX3 a).2.1 ≠ (TX3 b).2.1 := by decide +kernel
theorem tyX3_ok : ∀ k, k < 14 → parseFieldDescriptor (TX3 k).2.2.1 = some (tyX3 k) := by decide +kernel
abbrev cX3_init : ByteArray := prog_5_method_1_code
def yX3_init : MethodName := ⟨RX3, "<init>", "()V"⟩
abbrev cX3_begin : ByteArray := prog_5_method_2_code
def yX3_begin : MethodName := ⟨RX3, "begin", "(II)V"⟩
abbrev cX3_copyFrom : ByteArray := prog_5_method_3_code
def yX3_copyFrom : MethodName := ⟨RX3, "copyFrom", "(LMasterHeap$Heap;)V"⟩
abbrev cX3_isUsed : ByteArray := prog_5_method_4_code
def yX3_isUsed : MethodName := ⟨RX3, "isUsed", "(I)Z"⟩
abbrev cX3_isFull : ByteArray := prog_5_method_5_code
def yX3_isFull : MethodName := ⟨RX3, "isFull", "(I)Z"⟩
abbrev cX3_isMovable : ByteArray := prog_5_method_6_code
def yX3_isMovable : MethodName := ⟨RX3, "isMovable", "(I)Z"⟩
abbrev cX3_isPurgeable : ByteArray := prog_5_method_7_code
def yX3_isPurgeable : MethodName := ⟨RX3, "isPurgeable", "(I)Z"⟩
abbrev cX3_isIsland : ByteArray := prog_5_method_8_code
def yX3_isIsland : MethodName := ⟨RX3, "isIsland", "(I)Z"⟩
abbrev cX3_kindOf : ByteArray := prog_5_method_9_code
def yX3_kindOf : MethodName := ⟨RX3, "kindOf", "(I)I"⟩
abbrev cX3_firstUnusedHandle : ByteArray := prog_5_method_10_code
def yX3_firstUnusedHandle : MethodName := ⟨RX3, "firstUnusedHandle", "()I"⟩
abbrev cX3_firstUnusedPointer : ByteArray := prog_5_method_11_code
def yX3_firstUnusedPointer : MethodName := ⟨RX3, "firstUnusedPointer", "()I"⟩
abbrev cX3_movable : ByteArray := prog_5_method_12_code
def yX3_movable : MethodName := ⟨RX3, "movable", "()I"⟩
abbrev cX3_goers : ByteArray := prog_5_method_13_code
def yX3_goers : MethodName := ⟨RX3, "goers", "()I"⟩
abbrev cX3_squeezable : ByteArray := prog_5_method_14_code
def yX3_squeezable : MethodName := ⟨RX3, "squeezable", "()I"⟩
abbrev cX3_worthOf : ByteArray := prog_5_method_15_code
def yX3_worthOf : MethodName := ⟨RX3, "worthOf", "(I)I"⟩
abbrev cX3_leastWorthy : ByteArray := prog_5_method_16_code
def yX3_leastWorthy : MethodName := ⟨RX3, "leastWorthy", "(I)I"⟩
abbrev cX3_cellsOf : ByteArray := prog_5_method_17_code
def yX3_cellsOf : MethodName := ⟨RX3, "cellsOf", "(I)I"⟩
abbrev cX3_describe : ByteArray := prog_5_method_18_code
def yX3_describe : MethodName := ⟨RX3, "describe", "(II)V"⟩
abbrev cX3_squeezeAll : ByteArray := prog_5_method_19_code
def yX3_squeezeAll : MethodName := ⟨RX3, "squeezeAll", "()V"⟩
abbrev cX3_isContent : ByteArray := prog_5_method_20_code
def yX3_isContent : MethodName := ⟨RX3, "isContent", "(II)Z"⟩
abbrev cX3_contentOf : ByteArray := prog_5_method_21_code
def yX3_contentOf : MethodName := ⟨RX3, "contentOf", "(II)I"⟩
abbrev cX3_setContent : ByteArray := prog_5_method_22_code
def yX3_setContent : MethodName := ⟨RX3, "setContent", "(III)V"⟩
abbrev cX3_clearContents : ByteArray := prog_5_method_23_code
def yX3_clearContents : MethodName := ⟨RX3, "clearContents", "(III)V"⟩
abbrev cX3_layNew : ByteArray := prog_5_method_24_code
def yX3_layNew : MethodName := ⟨RX3, "layNew", "(III)V"⟩
abbrev cX3_isCell : ByteArray := prog_5_method_25_code
def yX3_isCell : MethodName := ⟨RX3, "isCell", "(I)Z"⟩
abbrev cX3_holderAt : ByteArray := prog_5_method_26_code
def yX3_holderAt : MethodName := ⟨RX3, "holderAt", "(I)I"⟩
abbrev cX3_endAt : ByteArray := prog_5_method_27_code
def yX3_endAt : MethodName := ⟨RX3, "endAt", "(II)I"⟩
abbrev cX3_cellAt : ByteArray := prog_5_method_28_code
def yX3_cellAt : MethodName := ⟨RX3, "cellAt", "(I)I"⟩
abbrev cX3_blocks : ByteArray := prog_5_method_29_code
def yX3_blocks : MethodName := ⟨RX3, "blocks", "()I"⟩
abbrev cX3_beginOfBlock : ByteArray := prog_5_method_30_code
def yX3_beginOfBlock : MethodName := ⟨RX3, "beginOfBlock", "(I)I"⟩
abbrev cX3_handleWithContent : ByteArray := prog_5_method_31_code
def yX3_handleWithContent : MethodName := ⟨RX3, "handleWithContent", "(I)I"⟩
abbrev cX3_freeBehind : ByteArray := prog_5_method_32_code
def yX3_freeBehind : MethodName := ⟨RX3, "freeBehind", "(I)I"⟩
abbrev cX3_isTorn : ByteArray := prog_5_method_33_code
def yX3_isTorn : MethodName := ⟨RX3, "isTorn", "(IIZ)Z"⟩
abbrev cX3_firstFree : ByteArray := prog_5_method_34_code
def yX3_firstFree : MethodName := ⟨RX3, "firstFree", "(I)I"⟩
abbrev cX3_slide : ByteArray := prog_5_method_35_code
def yX3_slide : MethodName := ⟨RX3, "slide", "(I)I"⟩
abbrev cX3_firstFreeAheadOfMovable : ByteArray := prog_5_method_36_code
def yX3_firstFreeAheadOfMovable : MethodName := ⟨RX3, "firstFreeAheadOfMovable", "()I"⟩
abbrev cX3_grow : ByteArray := prog_5_method_37_code
def yX3_grow : MethodName := ⟨RX3, "grow", "(I)I"⟩
def RX4 : String := "MasterHeap$Packing"
def TX4 : u_T := fun k => match k with
  | 0 => ("MasterHeap$Packing", "items", "[I", true)
  | 1 => ("MasterHeap$Packing", "used", "[I", true)
  | 2 => ("MasterHeap$Packing", "count", "I", false)
  | 3 => ("MasterHeap$Packing", "cells", "I", false)
  | _ => ("MasterHeap$Packing", "longest", "I", false)
def tyX4 : Nat → FieldType := fun k => match k with
  | 0 => .array .int
  | 1 => .array .int
  | 2 => .int
  | 3 => .int
  | _ => .int
abbrev wsX40 : List Cond := u_ws RX4 TX4 5
theorem nmX4 : ∀ a, a < 5 → ∀ b, b < 5 → a ≠ b → (TX4 a).2.1 ≠ (TX4 b).2.1 := by decide +kernel
theorem tyX4_ok : ∀ k, k < 5 → parseFieldDescriptor (TX4 k).2.2.1 = some (tyX4 k) := by decide +kernel
abbrev cX4_init : ByteArray := prog_6_method_1_code
def yX4_init : MethodName := ⟨RX4, "<init>", "()V"⟩
abbrev cX4_fillWith : ByteArray := prog_6_method_2_code
def yX4_fillWith : MethodName := ⟨RX4, "fillWith", "(LMasterHeap$Heap;I)V"⟩
abbrev cX4_add : ByteArray := prog_6_method_3_code
def yX4_add : MethodName := ⟨RX4, "add", "(I)V"⟩
abbrev cX4_holds : ByteArray := prog_6_method_4_code
def yX4_holds : MethodName := ⟨RX4, "holds", "(LMasterHeap$Runs;LMasterHeap$Heap;II)Z"⟩
abbrev cX4_goesInto : ByteArray := prog_6_method_5_code
def yX4_goesInto : MethodName := ⟨RX4, "goesInto", "(LMasterHeap$Runs;)Z"⟩
def RX5 : String := "MasterHeap$Past"
def TX5 : u_T := fun k => match k with
  | 0 => ("MasterHeap$Past", "kept", "[LMasterHeap$Heap;", true)
  | 1 => ("MasterHeap$Past", "first", "I", false)
  | 2 => ("MasterHeap$Past", "count", "I", false)
  | _ => ("MasterHeap$Past", "acted", "Z", false)
def tyX5 : Nat → FieldType := fun k => match k with
  | 0 => .array (.object "MasterHeap$Heap")
  | 1 => .int
  | 2 => .int
  | _ => .boolean
abbrev wsX50 : List Cond := u_ws RX5 TX5 4
theorem nmX5 : ∀ a, a < 4 → ∀ b, b < 4 → a ≠ b → (TX5 a).2.1 ≠ (TX5 b).2.1 := by decide +kernel
theorem tyX5_ok : ∀ k, k < 4 → parseFieldDescriptor (TX5 k).2.2.1 = some (tyX5 k) := by decide +kernel
abbrev cX5_init : ByteArray := prog_7_method_1_code
def yX5_init : MethodName := ⟨RX5, "<init>", "()V"⟩
abbrev cX5_forget : ByteArray := prog_7_method_2_code
def yX5_forget : MethodName := ⟨RX5, "forget", "()V"⟩
abbrev cX5_slot : ByteArray := prog_7_method_3_code
def yX5_slot : MethodName := ⟨RX5, "slot", "(I)LMasterHeap$Heap;"⟩
abbrev cX5_save : ByteArray := prog_7_method_4_code
def yX5_save : MethodName := ⟨RX5, "save", "(LMasterHeap$Heap;)V"⟩
abbrev cX5_putBack : ByteArray := prog_7_method_5_code
def yX5_putBack : MethodName := ⟨RX5, "putBack", "(LMasterHeap$Heap;)V"⟩
abbrev cX5_keep : ByteArray := prog_7_method_6_code
def yX5_keep : MethodName := ⟨RX5, "keep", "()V"⟩
abbrev cX5_takeBack : ByteArray := prog_7_method_7_code
def yX5_takeBack : MethodName := ⟨RX5, "takeBack", "(LMasterHeap$Heap;)I"⟩
abbrev cX5_aheadOfLast : ByteArray := prog_7_method_8_code
def yX5_aheadOfLast : MethodName := ⟨RX5, "aheadOfLast", "()LMasterHeap$Heap;"⟩
abbrev cX5_movedSince : ByteArray := prog_7_method_9_code
def yX5_movedSince : MethodName := ⟨RX5, "movedSince", "(LMasterHeap$Heap;)I"⟩
def RX6 : String := "MasterHeap$Runs"
def TX6 : u_T := fun k => match k with
  | 0 => ("MasterHeap$Runs", "begins", "[I", true)
  | 1 => ("MasterHeap$Runs", "lengths", "[I", true)
  | _ => ("MasterHeap$Runs", "count", "I", false)
def tyX6 : Nat → FieldType := fun k => match k with
  | 0 => .array .int
  | 1 => .array .int
  | _ => .int
abbrev wsX60 : List Cond := u_ws RX6 TX6 3
theorem nmX6 : ∀ a, a < 3 → ∀ b, b < 3 → a ≠ b → (TX6 a).2.1 ≠ (TX6 b).2.1 := by decide +kernel
theorem tyX6_ok : ∀ k, k < 3 → parseFieldDescriptor (TX6 k).2.2.1 = some (tyX6 k) := by decide +kernel
abbrev cX6_init : ByteArray := prog_8_method_1_code
def yX6_init : MethodName := ⟨RX6, "<init>", "()V"⟩
abbrev cX6_read : ByteArray := prog_8_method_2_code
def yX6_read : MethodName := ⟨RX6, "read", "(LMasterHeap$Heap;II)V"⟩
abbrev cX6_addRun : ByteArray := prog_8_method_3_code
def yX6_addRun : MethodName := ⟨RX6, "addRun", "(II)V"⟩
abbrev cX6_lengthenLast : ByteArray := prog_8_method_4_code
def yX6_lengthenLast : MethodName := ⟨RX6, "lengthenLast", "(I)V"⟩
abbrev cX6_cells : ByteArray := prog_8_method_5_code
def yX6_cells : MethodName := ⟨RX6, "cells", "()I"⟩
abbrev cX6_longest : ByteArray := prog_8_method_6_code
def yX6_longest : MethodName := ⟨RX6, "longest", "()I"⟩
abbrev cX6_runWith : ByteArray := prog_8_method_7_code
def yX6_runWith : MethodName := ⟨RX6, "runWith", "(I)I"⟩
abbrev cX6_usedWith : ByteArray := prog_8_method_8_code
def yX6_usedWith : MethodName := ⟨RX6, "usedWith", "(II)I"⟩
def RX7 : String := "MasterHeap"
def TX7 : u_T := fun k => match k with
  | 0 => ("MasterHeap", "now", "LMasterHeap$Heap;", true)
  | 1 => ("MasterHeap", "trial", "LMasterHeap$Heap;", true)
  | 2 => ("MasterHeap", "past", "LMasterHeap$Past;", true)
  | 3 => ("MasterHeap", "runs", "LMasterHeap$Runs;", true)
  | 4 => ("MasterHeap", "packing", "LMasterHeap$Packing;", true)
  | 5 => ("MasterHeap", "fit", "LMasterHeap$Fit;", true)
  | _ => ("MasterHeap", "clearing", "LMasterHeap$Clearing;", true)
def tyX7 : Nat → FieldType := fun k => match k with
  | 0 => .object "MasterHeap$Heap"
  | 1 => .object "MasterHeap$Heap"
  | 2 => .object "MasterHeap$Past"
  | 3 => .object "MasterHeap$Runs"
  | 4 => .object "MasterHeap$Packing"
  | 5 => .object "MasterHeap$Fit"
  | _ => .object "MasterHeap$Clearing"
abbrev wsX70 : List Cond := u_ws RX7 TX7 7
theorem nmX7 : ∀ a, a < 7 → ∀ b, b < 7 → a ≠ b → (TX7 a).2.1 ≠ (TX7 b).2.1 := by decide +kernel
theorem tyX7_ok : ∀ k, k < 7 → parseFieldDescriptor (TX7 k).2.2.1 = some (tyX7 k) := by decide +kernel
abbrev cX7_init : ByteArray := prog_1_method_1_code
def yX7_init : MethodName := ⟨RX7, "<init>", "()V"⟩
abbrev cX7_start : ByteArray := prog_1_method_2_code
def yX7_start : MethodName := ⟨RX7, "start", "(II)Z"⟩
abbrev cX7_make : ByteArray := prog_1_method_3_code
def yX7_make : MethodName := ⟨RX7, "make", "(II)I"⟩
abbrev cX7_put : ByteArray := prog_1_method_4_code
def yX7_put : MethodName := ⟨RX7, "put", "(III)I"⟩
abbrev cX7_set : ByteArray := prog_1_method_5_code
def yX7_set : MethodName := ⟨RX7, "set", "(III)I"⟩
abbrev cX7_touch : ByteArray := prog_1_method_6_code
def yX7_touch : MethodName := ⟨RX7, "touch", "(I)Z"⟩
abbrev cX7_lock : ByteArray := prog_1_method_7_code
def yX7_lock : MethodName := ⟨RX7, "lock", "(I)I"⟩
abbrev cX7_unlock : ByteArray := prog_1_method_8_code
def yX7_unlock : MethodName := ⟨RX7, "unlock", "(I)I"⟩
abbrev cX7_high : ByteArray := prog_1_method_9_code
def yX7_high : MethodName := ⟨RX7, "high", "(I)I"⟩
abbrev cX7_mark : ByteArray := prog_1_method_10_code
def yX7_mark : MethodName := ⟨RX7, "mark", "(IZ)Z"⟩
abbrev cX7_drop : ByteArray := prog_1_method_11_code
def yX7_drop : MethodName := ⟨RX7, "drop", "(I)Z"⟩
abbrev cX7_least : ByteArray := prog_1_method_12_code
def yX7_least : MethodName := ⟨RX7, "least", "(II)I"⟩
abbrev cX7_purge : ByteArray := prog_1_method_13_code
def yX7_purge : MethodName := ⟨RX7, "purge", "(I)Z"⟩
abbrev cX7_remake : ByteArray := prog_1_method_14_code
def yX7_remake : MethodName := ⟨RX7, "remake", "(I)I"⟩
abbrev cX7_resize : ByteArray := prog_1_method_15_code
def yX7_resize : MethodName := ⟨RX7, "resize", "(II)I"⟩
abbrev cX7_fix : ByteArray := prog_1_method_16_code
def yX7_fix : MethodName := ⟨RX7, "fix", "(I)I"⟩
abbrev cX7_unfix : ByteArray := prog_1_method_17_code
def yX7_unfix : MethodName := ⟨RX7, "unfix", "(I)Z"⟩
abbrev cX7_reserve : ByteArray := prog_1_method_18_code
def yX7_reserve : MethodName := ⟨RX7, "reserve", "(I)I"⟩
abbrev cX7_compact : ByteArray := prog_1_method_19_code
def yX7_compact : MethodName := ⟨RX7, "compact", "()I"⟩
abbrev cX7_policy : ByteArray := prog_1_method_20_code
def yX7_policy : MethodName := ⟨RX7, "policy", "(I)I"⟩
abbrev cX7_undo : ByteArray := prog_1_method_21_code
def yX7_undo : MethodName := ⟨RX7, "undo", "()I"⟩
abbrev cX7_handle : ByteArray := prog_1_method_22_code
def yX7_handle : MethodName := ⟨RX7, "handle", "(II)I"⟩
abbrev cX7_get : ByteArray := prog_1_method_23_code
def yX7_get : MethodName := ⟨RX7, "get", "(II)I"⟩
abbrev cX7_pointer : ByteArray := prog_1_method_24_code
def yX7_pointer : MethodName := ⟨RX7, "pointer", "(II)I"⟩
abbrev cX7_cell : ByteArray := prog_1_method_25_code
def yX7_cell : MethodName := ⟨RX7, "cell", "(I)I"⟩
abbrev cX7_block : ByteArray := prog_1_method_26_code
def yX7_block : MethodName := ⟨RX7, "block", "(II)I"⟩
abbrev cX7_free : ByteArray := prog_1_method_27_code
def yX7_free : MethodName := ⟨RX7, "free", "(I)I"⟩
abbrev cX7_after : ByteArray := prog_1_method_28_code
def yX7_after : MethodName := ⟨RX7, "after", "(I)I"⟩
abbrev cX7_order : ByteArray := prog_1_method_29_code
def yX7_order : MethodName := ⟨RX7, "order", "(I)I"⟩
abbrev cX7_torn : ByteArray := prog_1_method_30_code
def yX7_torn : MethodName := ⟨RX7, "torn", "(II)I"⟩
abbrev cX7_count : ByteArray := prog_1_method_31_code
def yX7_count : MethodName := ⟨RX7, "count", "(I)I"⟩
abbrev cX7_would : ByteArray := prog_1_method_32_code
def yX7_would : MethodName := ⟨RX7, "would", "(II)I"⟩
abbrev cX7_greatest : ByteArray := prog_1_method_33_code
def yX7_greatest : MethodName := ⟨RX7, "greatest", "(I)I"⟩
abbrev cX7_fewest : ByteArray := prog_1_method_34_code
def yX7_fewest : MethodName := ⟨RX7, "fewest", "(II)I"⟩
abbrev cX7_three : ByteArray := prog_1_method_35_code
def yX7_three : MethodName := ⟨RX7, "three", "(III)Z"⟩
abbrev cX7_cheapest : ByteArray := prog_1_method_36_code
def yX7_cheapest : MethodName := ⟨RX7, "cheapest", "(II)I"⟩
abbrev cX7_finish : ByteArray := prog_1_method_37_code
def yX7_finish : MethodName := ⟨RX7, "finish", "(I)V"⟩
abbrev cX7_tell : ByteArray := prog_1_method_38_code
def yX7_tell : MethodName := ⟨RX7, "tell", "(III)I"⟩
abbrev cX7_placeToResize : ByteArray := prog_1_method_39_code
def yX7_placeToResize : MethodName := ⟨RX7, "placeToResize", "(II)I"⟩
abbrev cX7_findPlaces : ByteArray := prog_1_method_40_code
def yX7_findPlaces : MethodName := ⟨RX7, "findPlaces", "(II)Z"⟩
abbrev cX7_addBlockOf : ByteArray := prog_1_method_41_code
def yX7_addBlockOf : MethodName := ⟨RX7, "addBlockOf", "(I)V"⟩
abbrev cX7_isHandle : ByteArray := prog_1_method_42_code
def yX7_isHandle : MethodName := ⟨RX7, "isHandle", "(I)Z"⟩
abbrev cX7_isSize : ByteArray := prog_1_method_43_code
def yX7_isSize : MethodName := ⟨RX7, "isSize", "(I)Z"⟩
abbrev cX7_isAsked : ByteArray := prog_1_method_44_code
def yX7_isAsked : MethodName := ⟨RX7, "isAsked", "(I)Z"⟩
abbrev cX7_isAskedOrNone : ByteArray := prog_1_method_45_code
def yX7_isAskedOrNone : MethodName := ⟨RX7, "isAskedOrNone", "(I)Z"⟩
abbrev cX7_isIn : ByteArray := prog_1_method_46_code
def yX7_isIn : MethodName := ⟨RX7, "isIn", "(II)Z"⟩
abbrev cX7_ownerOf : ByteArray := prog_1_method_47_code
def yX7_ownerOf : MethodName := ⟨RX7, "ownerOf", "(I)I"⟩
abbrev cX7_holderOf : ByteArray := prog_1_method_48_code
def yX7_holderOf : MethodName := ⟨RX7, "holderOf", "(I)I"⟩
def RX8 : String := "MasterHeapModel"
def TX8 : u_T := fun k => match k with
  | 0 => ("MasterHeapModel", "now", "[I", true)
  | 1 => ("MasterHeapModel", "aside", "[I", true)
  | 2 => ("MasterHeapModel", "was", "[I", true)
  | 3 => ("MasterHeapModel", "undone", "I", false)
  | 4 => ("MasterHeapModel", "isDone", "Z", false)
  | 5 => ("MasterHeapModel", "owner", "[I", true)
  | 6 => ("MasterHeapModel", "gapBegin", "[I", true)
  | 7 => ("MasterHeapModel", "gapSize", "[I", true)
  | 8 => ("MasterHeapModel", "gaps", "I", false)
  | 9 => ("MasterHeapModel", "looseOne", "[I", true)
  | 10 => ("MasterHeapModel", "looseGap", "[I", true)
  | 11 => ("MasterHeapModel", "looses", "I", false)
  | 12 => ("MasterHeapModel", "thing", "[I", true)
  | 13 => ("MasterHeapModel", "setLong", "[I", true)
  | 14 => ("MasterHeapModel", "goesAhead", "[Z", true)
  | 15 => ("MasterHeapModel", "goesNext", "[Z", true)
  | 16 => ("MasterHeapModel", "givenTo", "[I", true)
  | 17 => ("MasterHeapModel", "bestTo", "[I", true)
  | 18 => ("MasterHeapModel", "given", "[I", true)
  | 19 => ("MasterHeapModel", "fitBy", "I", false)
  | 20 => ("MasterHeapModel", "purged", "I", false)
  | 21 => ("MasterHeapModel", "squeezed", "I", false)
  | 22 => ("MasterHeapModel", "inWay", "[I", true)
  | 23 => ("MasterHeapModel", "ways", "I", false)
  | _ => ("MasterHeapModel", "things", "I", false)
def tyX8 : Nat → FieldType := fun k => match k with
  | 0 => .array .int
  | 1 => .array .int
  | 2 => .array .int
  | 3 => .int
  | 4 => .boolean
  | 5 => .array .int
  | 6 => .array .int
  | 7 => .array .int
  | 8 => .int
  | 9 => .array .int
  | 10 => .array .int
  | 11 => .int
  | 12 => .array .int
  | 13 => .array .int
  | 14 => .array .boolean
  | 15 => .array .boolean
  | 16 => .array .int
  | 17 => .array .int
  | 18 => .array .int
  | 19 => .int
  | 20 => .int
  | 21 => .int
  | 22 => .array .int
  | 23 => .int
  | _ => .int
abbrev wsX80 : List Cond := u_ws RX8 TX8 25
theorem nmX8 : ∀ a, a < 25 → ∀ b, b < 25 → a ≠ b → (TX8 a).2.1 ≠ (TX8 b).2.1 := by decide +kernel
theorem tyX8_ok : ∀ k, k < 25 → parseFieldDescriptor (TX8 k).2.2.1 = some (tyX8 k) := by decide +kernel
abbrev cX8_init : ByteArray := prog_10_method_1_code
def yX8_init : MethodName := ⟨RX8, "<init>", "()V"⟩
abbrev cX8_in : ByteArray := prog_10_method_2_code
def yX8_in : MethodName := ⟨RX8, "in", "(JJJ)Z"⟩
abbrev cX8_isOf : ByteArray := prog_10_method_3_code
def yX8_isOf : MethodName := ⟨RX8, "isOf", "(II)Z"⟩
abbrev cX8_bits : ByteArray := prog_10_method_4_code
def yX8_bits : MethodName := ⟨RX8, "bits", "(I)I"⟩
abbrev cX8_begins : ByteArray := prog_10_method_5_code
def yX8_begins : MethodName := ⟨RX8, "begins", "(II)V"⟩
abbrev cX8_start : ByteArray := prog_10_method_6_code
def yX8_start : MethodName := ⟨RX8, "start", "(II)Z"⟩
abbrev cX8_isHandle : ByteArray := prog_10_method_7_code
def yX8_isHandle : MethodName := ⟨RX8, "isHandle", "(I)Z"⟩
abbrev cX8_isFull : ByteArray := prog_10_method_8_code
def yX8_isFull : MethodName := ⟨RX8, "isFull", "(I)Z"⟩
abbrev cX8_isThere : ByteArray := prog_10_method_9_code
def yX8_isThere : MethodName := ⟨RX8, "isThere", "(I)Z"⟩
abbrev cX8_isIsland : ByteArray := prog_10_method_10_code
def yX8_isIsland : MethodName := ⟨RX8, "isIsland", "(I)Z"⟩
abbrev cX8_isLoose : ByteArray := prog_10_method_11_code
def yX8_isLoose : MethodName := ⟨RX8, "isLoose", "(I)Z"⟩
abbrev cX8_canGo : ByteArray := prog_10_method_12_code
def yX8_canGo : MethodName := ⟨RX8, "canGo", "(I)Z"⟩
abbrev cX8_canBeLess : ByteArray := prog_10_method_13_code
def yX8_canBeLess : MethodName := ⟨RX8, "canBeLess", "(I)Z"⟩
abbrev cX8_lengthOf : ByteArray := prog_10_method_14_code
def yX8_lengthOf : MethodName := ⟨RX8, "lengthOf", "(I)I"⟩
abbrev cX8_worthOf : ByteArray := prog_10_method_15_code
def yX8_worthOf : MethodName := ⟨RX8, "worthOf", "(I)I"⟩
abbrev cX8_lays : ByteArray := prog_10_method_16_code
def yX8_lays : MethodName := ⟨RX8, "lays", "(III)V"⟩
abbrev cX8_fillsOwners : ByteArray := prog_10_method_17_code
def yX8_fillsOwners : MethodName := ⟨RX8, "fillsOwners", "()V"⟩
abbrev cX8_behind : ByteArray := prog_10_method_18_code
def yX8_behind : MethodName := ⟨RX8, "behind", "(I)I"⟩
abbrev cX8_isFixedAt : ByteArray := prog_10_method_19_code
def yX8_isFixedAt : MethodName := ⟨RX8, "isFixedAt", "(I)Z"⟩
abbrev cX8_isLooseAt : ByteArray := prog_10_method_20_code
def yX8_isLooseAt : MethodName := ⟨RX8, "isLooseAt", "(I)Z"⟩
abbrev cX8_cellAt : ByteArray := prog_10_method_21_code
def yX8_cellAt : MethodName := ⟨RX8, "cellAt", "(I)I"⟩
abbrev cX8_clearsContents : ByteArray := prog_10_method_22_code
def yX8_clearsContents : MethodName := ⟨RX8, "clearsContents", "(III)V"⟩
abbrev cX8_firstFree : ByteArray := prog_10_method_23_code
def yX8_firstFree : MethodName := ⟨RX8, "firstFree", "(I)I"⟩
abbrev cX8_slidesOne : ByteArray := prog_10_method_24_code
def yX8_slidesOne : MethodName := ⟨RX8, "slidesOne", "()I"⟩
abbrev cX8_slides : ByteArray := prog_10_method_25_code
def yX8_slides : MethodName := ⟨RX8, "slides", "(I)I"⟩
abbrev cX8_freeEnd : ByteArray := prog_10_method_26_code
def yX8_freeEnd : MethodName := ⟨RX8, "freeEnd", "()I"⟩
abbrev cX8_grows : ByteArray := prog_10_method_27_code
def yX8_grows : MethodName := ⟨RX8, "grows", "(I)I"⟩
abbrev cX8_fillsGaps : ByteArray := prog_10_method_28_code
def yX8_fillsGaps : MethodName := ⟨RX8, "fillsGaps", "(I)V"⟩
abbrev cX8_fillsLong : ByteArray := prog_10_method_29_code
def yX8_fillsLong : MethodName := ⟨RX8, "fillsLong", "(I)V"⟩
abbrev cX8_packsNothing : ByteArray := prog_10_method_30_code
def yX8_packsNothing : MethodName := ⟨RX8, "packsNothing", "(I)V"⟩
abbrev cX8_packsInto : ByteArray := prog_10_method_31_code
def yX8_packsInto : MethodName := ⟨RX8, "packsInto", "(II)V"⟩
abbrev cX8_mostLeft : ByteArray := prog_10_method_32_code
def yX8_mostLeft : MethodName := ⟨RX8, "mostLeft", "(I)I"⟩
abbrev cX8_othersBy : ByteArray := prog_10_method_33_code
def yX8_othersBy : MethodName := ⟨RX8, "othersBy", "(I)I"⟩
abbrev cX8_turnsOn : ByteArray := prog_10_method_34_code
def yX8_turnsOn : MethodName := ⟨RX8, "turnsOn", "()Z"⟩
abbrev cX8_arrangesBest : ByteArray := prog_10_method_35_code
def yX8_arrangesBest : MethodName := ⟨RX8, "arrangesBest", "()V"⟩
abbrev cX8_arranges : ByteArray := prog_10_method_36_code
def yX8_arranges : MethodName := ⟨RX8, "arranges", "(I)I"⟩
abbrev cX8_leastOne : ByteArray := prog_10_method_37_code
def yX8_leastOne : MethodName := ⟨RX8, "leastOne", "(ZI)I"⟩
abbrev cX8_squeezes : ByteArray := prog_10_method_38_code
def yX8_squeezes : MethodName := ⟨RX8, "squeezes", "(I)V"⟩
abbrev cX8_empties : ByteArray := prog_10_method_39_code
def yX8_empties : MethodName := ⟨RX8, "empties", "(I)V"⟩
abbrev cX8_fitsOnce : ByteArray := prog_10_method_40_code
def yX8_fitsOnce : MethodName := ⟨RX8, "fitsOnce", "(I)I"⟩
abbrev cX8_fits : ByteArray := prog_10_method_41_code
def yX8_fits : MethodName := ⟨RX8, "fits", "(II)I"⟩
abbrev cX8_keepsAside : ByteArray := prog_10_method_42_code
def yX8_keepsAside : MethodName := ⟨RX8, "keepsAside", "()V"⟩
abbrev cX8_laysBack : ByteArray := prog_10_method_43_code
def yX8_laysBack : MethodName := ⟨RX8, "laysBack", "()V"⟩
abbrev cX8_keepsAct : ByteArray := prog_10_method_44_code
def yX8_keepsAct : MethodName := ⟨RX8, "keepsAct", "()V"⟩
abbrev cX8_touches : ByteArray := prog_10_method_45_code
def yX8_touches : MethodName := ⟨RX8, "touches", "(I)V"⟩
abbrev cX8_undo : ByteArray := prog_10_method_46_code
def yX8_undo : MethodName := ⟨RX8, "undo", "()I"⟩
abbrev cX8_ahead : ByteArray := prog_10_method_47_code
def yX8_ahead : MethodName := ⟨RX8, "ahead", "(I)I"⟩
abbrev cX8_moved : ByteArray := prog_10_method_48_code
def yX8_moved : MethodName := ⟨RX8, "moved", "()I"⟩
abbrev cX8_fills : ByteArray := prog_10_method_49_code
def yX8_fills : MethodName := ⟨RX8, "fills", "(II)V"⟩
abbrev cX8_make : ByteArray := prog_10_method_50_code
def yX8_make : MethodName := ⟨RX8, "make", "(II)I"⟩
abbrev cX8_put : ByteArray := prog_10_method_51_code
def yX8_put : MethodName := ⟨RX8, "put", "(III)I"⟩
abbrev cX8_set : ByteArray := prog_10_method_52_code
def yX8_set : MethodName := ⟨RX8, "set", "(III)I"⟩
abbrev cX8_touch : ByteArray := prog_10_method_53_code
def yX8_touch : MethodName := ⟨RX8, "touch", "(I)Z"⟩
abbrev cX8_lock : ByteArray := prog_10_method_54_code
def yX8_lock : MethodName := ⟨RX8, "lock", "(I)I"⟩
abbrev cX8_unlock : ByteArray := prog_10_method_55_code
def yX8_unlock : MethodName := ⟨RX8, "unlock", "(I)I"⟩
abbrev cX8_highest : ByteArray := prog_10_method_56_code
def yX8_highest : MethodName := ⟨RX8, "highest", "(III)I"⟩
abbrev cX8_high : ByteArray := prog_10_method_57_code
def yX8_high : MethodName := ⟨RX8, "high", "(I)I"⟩
abbrev cX8_mark : ByteArray := prog_10_method_58_code
def yX8_mark : MethodName := ⟨RX8, "mark", "(IZ)Z"⟩
abbrev cX8_drop : ByteArray := prog_10_method_59_code
def yX8_drop : MethodName := ⟨RX8, "drop", "(I)Z"⟩
abbrev cX8_least : ByteArray := prog_10_method_60_code
def yX8_least : MethodName := ⟨RX8, "least", "(II)I"⟩
abbrev cX8_purge : ByteArray := prog_10_method_61_code
def yX8_purge : MethodName := ⟨RX8, "purge", "(I)Z"⟩
abbrev cX8_remake : ByteArray := prog_10_method_62_code
def yX8_remake : MethodName := ⟨RX8, "remake", "(I)I"⟩
abbrev cX8_canStretch : ByteArray := prog_10_method_63_code
def yX8_canStretch : MethodName := ⟨RX8, "canStretch", "(II)Z"⟩
abbrev cX8_resize : ByteArray := prog_10_method_64_code
def yX8_resize : MethodName := ⟨RX8, "resize", "(II)I"⟩
abbrev cX8_isOpen : ByteArray := prog_10_method_65_code
def yX8_isOpen : MethodName := ⟨RX8, "isOpen", "(II)Z"⟩
abbrev cX8_fillsWay : ByteArray := prog_10_method_66_code
def yX8_fillsWay : MethodName := ⟨RX8, "fillsWay", "(II)V"⟩
abbrev cX8_clears : ByteArray := prog_10_method_67_code
def yX8_clears : MethodName := ⟨RX8, "clears", "(II)Z"⟩
abbrev cX8_clearsFirst : ByteArray := prog_10_method_68_code
def yX8_clearsFirst : MethodName := ⟨RX8, "clearsFirst", "(I)I"⟩
abbrev cX8_fix : ByteArray := prog_10_method_69_code
def yX8_fix : MethodName := ⟨RX8, "fix", "(I)I"⟩
abbrev cX8_unfix : ByteArray := prog_10_method_70_code
def yX8_unfix : MethodName := ⟨RX8, "unfix", "(I)Z"⟩
abbrev cX8_reserve : ByteArray := prog_10_method_71_code
def yX8_reserve : MethodName := ⟨RX8, "reserve", "(I)I"⟩
abbrev cX8_compact : ByteArray := prog_10_method_72_code
def yX8_compact : MethodName := ⟨RX8, "compact", "()I"⟩
abbrev cX8_policy : ByteArray := prog_10_method_73_code
def yX8_policy : MethodName := ⟨RX8, "policy", "(I)I"⟩
abbrev cX8_handle : ByteArray := prog_10_method_74_code
def yX8_handle : MethodName := ⟨RX8, "handle", "(II)I"⟩
abbrev cX8_get : ByteArray := prog_10_method_75_code
def yX8_get : MethodName := ⟨RX8, "get", "(II)I"⟩
abbrev cX8_pointer : ByteArray := prog_10_method_76_code
def yX8_pointer : MethodName := ⟨RX8, "pointer", "(II)I"⟩
abbrev cX8_cell : ByteArray := prog_10_method_77_code
def yX8_cell : MethodName := ⟨RX8, "cell", "(I)I"⟩
abbrev cX8_block : ByteArray := prog_10_method_78_code
def yX8_block : MethodName := ⟨RX8, "block", "(II)I"⟩
abbrev cX8_blocks : ByteArray := prog_10_method_79_code
def yX8_blocks : MethodName := ⟨RX8, "blocks", "()I"⟩
abbrev cX8_free : ByteArray := prog_10_method_80_code
def yX8_free : MethodName := ⟨RX8, "free", "(I)I"⟩
abbrev cX8_would : ByteArray := prog_10_method_81_code
def yX8_would : MethodName := ⟨RX8, "would", "(II)I"⟩
abbrev cX8_mostThen : ByteArray := prog_10_method_82_code
def yX8_mostThen : MethodName := ⟨RX8, "mostThen", "(I)I"⟩
abbrev cX8_greatest : ByteArray := prog_10_method_83_code
def yX8_greatest : MethodName := ⟨RX8, "greatest", "(I)I"⟩
abbrev cX8_fewest : ByteArray := prog_10_method_84_code
def yX8_fewest : MethodName := ⟨RX8, "fewest", "(II)I"⟩
abbrev cX8_takes : ByteArray := prog_10_method_85_code
def yX8_takes : MethodName := ⟨RX8, "takes", "(I)V"⟩
abbrev cX8_three : ByteArray := prog_10_method_86_code
def yX8_three : MethodName := ⟨RX8, "three", "(III)Z"⟩
abbrev cX8_findPlaces : ByteArray := prog_10_method_87_code
def yX8_findPlaces : MethodName := ⟨RX8, "findPlaces", "(II)Z"⟩
abbrev cX8_lengthsOf : ByteArray := prog_10_method_88_code
def yX8_lengthsOf : MethodName := ⟨RX8, "lengthsOf", "(I)I"⟩
abbrev cX8_cheapest : ByteArray := prog_10_method_89_code
def yX8_cheapest : MethodName := ⟨RX8, "cheapest", "(II)I"⟩
abbrev cX8_after : ByteArray := prog_10_method_90_code
def yX8_after : MethodName := ⟨RX8, "after", "(I)I"⟩
abbrev cX8_order : ByteArray := prog_10_method_91_code
def yX8_order : MethodName := ⟨RX8, "order", "(I)I"⟩
abbrev cX8_isTorn : ByteArray := prog_10_method_92_code
def yX8_isTorn : MethodName := ⟨RX8, "isTorn", "(IIZ)Z"⟩
abbrev cX8_torn : ByteArray := prog_10_method_93_code
def yX8_torn : MethodName := ⟨RX8, "torn", "(II)I"⟩
abbrev cX8_count : ByteArray := prog_10_method_94_code
def yX8_count : MethodName := ⟨RX8, "count", "(I)I"⟩
abbrev classes : List vw_C := [(RX0, TX0, 8), (RX1, TX1, 2), (RX2, TX2, 4), (RX3, TX3, 14), (RX4, TX4, 5), (RX5, TX5, 4), (RX6, TX6, 3), (RX7, TX7, 7), (RX8, TX8, 25)]
