section
-- ===== PART A: goes FIRST, ahead of the names: the tables' words, and 'selects' of the private methods out of them =====
/-- a private method of a class that the tables say can be made, by its rows of tables_1 -/
def lw_okq (q : MethodName × Nat) : Prop := (q.1.cls ≠ "java/lang/invoke/MethodHandle" ∧ q.1.cls ≠ "java/lang/invoke/VarHandle") ∧ Cond.instantiable q.1.cls q.2 ∈ tables_1 ∧ Cond.privateMethod q.1 ∈ tables_1 ∧ Cond.instanceMethod q.1 ∈ tables_1
theorem lw_p0 : lw_okq (⟨"HeatBranches", "settle", "()V"⟩, 9) := ⟨⟨by decide +kernel, by decide +kernel⟩, List.mem_of_getElem? (i := 20) (by decide +kernel), List.mem_of_getElem? (i := 260) (by decide +kernel), List.mem_of_getElem? (i := 261) (by decide +kernel)⟩
theorem lw_p1 : lw_okq (⟨"HeatBranches", "lowestSupplyForWishes", "()I"⟩, 9) := ⟨⟨by decide +kernel, by decide +kernel⟩, List.mem_of_getElem? (i := 20) (by decide +kernel), List.mem_of_getElem? (i := 411) (by decide +kernel), List.mem_of_getElem? (i := 412) (by decide +kernel)⟩
theorem lw_p2 : lw_okq (⟨"HeatBranches", "grantsWishes", "(I)Z"⟩, 9) := ⟨⟨by decide +kernel, by decide +kernel⟩, List.mem_of_getElem? (i := 20) (by decide +kernel), List.mem_of_getElem? (i := 416) (by decide +kernel), List.mem_of_getElem? (i := 417) (by decide +kernel)⟩
theorem lw_p3 : lw_okq (⟨"HeatBranches", "sumOfHeats", "(I)I"⟩, 9) := ⟨⟨by decide +kernel, by decide +kernel⟩, List.mem_of_getElem? (i := 20) (by decide +kernel), List.mem_of_getElem? (i := 425) (by decide +kernel), List.mem_of_getElem? (i := 426) (by decide +kernel)⟩
theorem lw_p4 : lw_okq (⟨"HeatBranches", "heatOf", "(II)I"⟩, 9) := ⟨⟨by decide +kernel, by decide +kernel⟩, List.mem_of_getElem? (i := 20) (by decide +kernel), List.mem_of_getElem? (i := 429) (by decide +kernel), List.mem_of_getElem? (i := 430) (by decide +kernel)⟩
theorem lw_p5 : lw_okq (⟨"HeatBranches", "billOf", "(I)I"⟩, 9) := ⟨⟨by decide +kernel, by decide +kernel⟩, List.mem_of_getElem? (i := 20) (by decide +kernel), List.mem_of_getElem? (i := 435) (by decide +kernel), List.mem_of_getElem? (i := 436) (by decide +kernel)⟩
theorem lw_p6 : lw_okq (⟨"HeatBranches", "number", "(I)I"⟩, 9) := ⟨⟨by decide +kernel, by decide +kernel⟩, List.mem_of_getElem? (i := 20) (by decide +kernel), List.mem_of_getElem? (i := 498) (by decide +kernel), List.mem_of_getElem? (i := 499) (by decide +kernel)⟩
theorem lw_p7 : lw_okq (⟨"HeatBranches", "foldNodes", "(J)J"⟩, 9) := ⟨⟨by decide +kernel, by decide +kernel⟩, List.mem_of_getElem? (i := 20) (by decide +kernel), List.mem_of_getElem? (i := 510) (by decide +kernel), List.mem_of_getElem? (i := 511) (by decide +kernel)⟩
theorem lw_p8 : lw_okq (⟨"HeatBranches", "nodeFact", "(II)I"⟩, 9) := ⟨⟨by decide +kernel, by decide +kernel⟩, List.mem_of_getElem? (i := 20) (by decide +kernel), List.mem_of_getElem? (i := 514) (by decide +kernel), List.mem_of_getElem? (i := 515) (by decide +kernel)⟩
theorem lw_p9 : lw_okq (⟨"HeatBranches", "foldHeats", "(J)J"⟩, 9) := ⟨⟨by decide +kernel, by decide +kernel⟩, List.mem_of_getElem? (i := 20) (by decide +kernel), List.mem_of_getElem? (i := 539) (by decide +kernel), List.mem_of_getElem? (i := 540) (by decide +kernel)⟩
theorem lw_p10 : lw_okq (⟨"HeatBranches", "foldBoilers", "(J)J"⟩, 9) := ⟨⟨by decide +kernel, by decide +kernel⟩, List.mem_of_getElem? (i := 20) (by decide +kernel), List.mem_of_getElem? (i := 543) (by decide +kernel), List.mem_of_getElem? (i := 544) (by decide +kernel)⟩
theorem lw_p11 : lw_okq (⟨"HeatBranches", "boilerFact", "(II)I"⟩, 9) := ⟨⟨by decide +kernel, by decide +kernel⟩, List.mem_of_getElem? (i := 20) (by decide +kernel), List.mem_of_getElem? (i := 547) (by decide +kernel), List.mem_of_getElem? (i := 548) (by decide +kernel)⟩
theorem lw_p12 : lw_okq (⟨"HeatBranches", "requireNode", "(I)V"⟩, 9) := ⟨⟨by decide +kernel, by decide +kernel⟩, List.mem_of_getElem? (i := 20) (by decide +kernel), List.mem_of_getElem? (i := 562) (by decide +kernel), List.mem_of_getElem? (i := 563) (by decide +kernel)⟩
theorem lw_p13 : lw_okq (⟨"java/lang/Throwable", "fillInStackTrace", "(I)Ljava/lang/Throwable;"⟩, 6) := ⟨⟨by decide +kernel, by decide +kernel⟩, List.mem_of_getElem? (i := 604) (by decide +kernel), List.mem_of_getElem? (i := 602) (by decide +kernel), List.mem_of_getElem? (i := 603) (by decide +kernel)⟩
theorem lw_p14 : lw_okq (⟨"HeatBranches", "requirePipe", "(I)V"⟩, 9) := ⟨⟨by decide +kernel, by decide +kernel⟩, List.mem_of_getElem? (i := 20) (by decide +kernel), List.mem_of_getElem? (i := 677) (by decide +kernel), List.mem_of_getElem? (i := 678) (by decide +kernel)⟩
theorem lw_p15 : lw_okq (⟨"HeatBranches", "requireBoiler", "(I)V"⟩, 9) := ⟨⟨by decide +kernel, by decide +kernel⟩, List.mem_of_getElem? (i := 20) (by decide +kernel), List.mem_of_getElem? (i := 744) (by decide +kernel), List.mem_of_getElem? (i := 745) (by decide +kernel)⟩
def lw_privs_1 : List (MethodName × Nat) := [(⟨"HeatBranches", "settle", "()V"⟩, 9), (⟨"HeatBranches", "lowestSupplyForWishes", "()I"⟩, 9), (⟨"HeatBranches", "grantsWishes", "(I)Z"⟩, 9), (⟨"HeatBranches", "sumOfHeats", "(I)I"⟩, 9), (⟨"HeatBranches", "heatOf", "(II)I"⟩, 9), (⟨"HeatBranches", "billOf", "(I)I"⟩, 9), (⟨"HeatBranches", "number", "(I)I"⟩, 9), (⟨"HeatBranches", "foldNodes", "(J)J"⟩, 9), (⟨"HeatBranches", "nodeFact", "(II)I"⟩, 9), (⟨"HeatBranches", "foldHeats", "(J)J"⟩, 9), (⟨"HeatBranches", "foldBoilers", "(J)J"⟩, 9), (⟨"HeatBranches", "boilerFact", "(II)I"⟩, 9), (⟨"HeatBranches", "requireNode", "(I)V"⟩, 9), (⟨"java/lang/Throwable", "fillInStackTrace", "(I)Ljava/lang/Throwable;"⟩, 6), (⟨"HeatBranches", "requirePipe", "(I)V"⟩, 9), (⟨"HeatBranches", "requireBoiler", "(I)V"⟩, 9)]
theorem lw_r1 : ∀ q ∈ lw_privs_1, lw_okq q := List.forall_mem_cons.mpr ⟨lw_p0, List.forall_mem_cons.mpr ⟨lw_p1, List.forall_mem_cons.mpr ⟨lw_p2, List.forall_mem_cons.mpr ⟨lw_p3, List.forall_mem_cons.mpr ⟨lw_p4, List.forall_mem_cons.mpr ⟨lw_p5, List.forall_mem_cons.mpr ⟨lw_p6, List.forall_mem_cons.mpr ⟨lw_p7, List.forall_mem_cons.mpr ⟨lw_p8, List.forall_mem_cons.mpr ⟨lw_p9, List.forall_mem_cons.mpr ⟨lw_p10, List.forall_mem_cons.mpr ⟨lw_p11, List.forall_mem_cons.mpr ⟨lw_p12, List.forall_mem_cons.mpr ⟨lw_p13, List.forall_mem_cons.mpr ⟨lw_p14, List.forall_mem_cons.mpr ⟨lw_p15, fun _ h => absurd h List.not_mem_nil⟩⟩⟩⟩⟩⟩⟩⟩⟩⟩⟩⟩⟩⟩⟩⟩
theorem lw_p16 : lw_okq (⟨"HeatBranchesModel", "isNode", "(I)Z"⟩, 16) := ⟨⟨by decide +kernel, by decide +kernel⟩, List.mem_of_getElem? (i := 844) (by decide +kernel), List.mem_of_getElem? (i := 907) (by decide +kernel), List.mem_of_getElem? (i := 908) (by decide +kernel)⟩
theorem lw_p17 : lw_okq (⟨"HeatBranchesModel", "fails", "(I)I"⟩, 16) := ⟨⟨by decide +kernel, by decide +kernel⟩, List.mem_of_getElem? (i := 844) (by decide +kernel), List.mem_of_getElem? (i := 911) (by decide +kernel), List.mem_of_getElem? (i := 912) (by decide +kernel)⟩
theorem lw_p18 : lw_okq (⟨"HeatBranchesModel", "hold", "()V"⟩, 16) := ⟨⟨by decide +kernel, by decide +kernel⟩, List.mem_of_getElem? (i := 844) (by decide +kernel), List.mem_of_getElem? (i := 924) (by decide +kernel), List.mem_of_getElem? (i := 925) (by decide +kernel)⟩
theorem lw_p19 : lw_okq (⟨"HeatBranchesModel", "adds", "(IIIII)V"⟩, 16) := ⟨⟨by decide +kernel, by decide +kernel⟩, List.mem_of_getElem? (i := 844) (by decide +kernel), List.mem_of_getElem? (i := 928) (by decide +kernel), List.mem_of_getElem? (i := 929) (by decide +kernel)⟩
theorem lw_p20 : lw_okq (⟨"HeatBranchesModel", "puts", "(III)V"⟩, 16) := ⟨⟨by decide +kernel, by decide +kernel⟩, List.mem_of_getElem? (i := 844) (by decide +kernel), List.mem_of_getElem? (i := 932) (by decide +kernel), List.mem_of_getElem? (i := 933) (by decide +kernel)⟩
theorem lw_p21 : lw_okq (⟨"HeatBranchesModel", "ends", "(I)I"⟩, 16) := ⟨⟨by decide +kernel, by decide +kernel⟩, List.mem_of_getElem? (i := 844) (by decide +kernel), List.mem_of_getElem? (i := 936) (by decide +kernel), List.mem_of_getElem? (i := 937) (by decide +kernel)⟩
theorem lw_p22 : lw_okq (⟨"HeatBranchesModel", "tells", "(I)I"⟩, 16) := ⟨⟨by decide +kernel, by decide +kernel⟩, List.mem_of_getElem? (i := 844) (by decide +kernel), List.mem_of_getElem? (i := 940) (by decide +kernel), List.mem_of_getElem? (i := 941) (by decide +kernel)⟩
theorem lw_p23 : lw_okq (⟨"HeatBranchesModel", "isPipe", "(I)Z"⟩, 16) := ⟨⟨by decide +kernel, by decide +kernel⟩, List.mem_of_getElem? (i := 844) (by decide +kernel), List.mem_of_getElem? (i := 948) (by decide +kernel), List.mem_of_getElem? (i := 949) (by decide +kernel)⟩
theorem lw_p24 : lw_okq (⟨"HeatBranchesModel", "of", "(II)I"⟩, 16) := ⟨⟨by decide +kernel, by decide +kernel⟩, List.mem_of_getElem? (i := 844) (by decide +kernel), List.mem_of_getElem? (i := 952) (by decide +kernel), List.mem_of_getElem? (i := 953) (by decide +kernel)⟩
theorem lw_p25 : lw_okq (⟨"HeatBranchesModel", "works", "()V"⟩, 16) := ⟨⟨by decide +kernel, by decide +kernel⟩, List.mem_of_getElem? (i := 844) (by decide +kernel), List.mem_of_getElem? (i := 968) (by decide +kernel), List.mem_of_getElem? (i := 969) (by decide +kernel)⟩
theorem lw_p26 : lw_okq (⟨"HeatBranchesModel", "warmth", "(I)I"⟩, 16) := ⟨⟨by decide +kernel, by decide +kernel⟩, List.mem_of_getElem? (i := 844) (by decide +kernel), List.mem_of_getElem? (i := 972) (by decide +kernel), List.mem_of_getElem? (i := 973) (by decide +kernel)⟩
theorem lw_p27 : lw_okq (⟨"HeatBranchesModel", "nodeOf", "(II)I"⟩, 16) := ⟨⟨by decide +kernel, by decide +kernel⟩, List.mem_of_getElem? (i := 844) (by decide +kernel), List.mem_of_getElem? (i := 979) (by decide +kernel), List.mem_of_getElem? (i := 980) (by decide +kernel)⟩
theorem lw_p28 : lw_okq (⟨"HeatBranchesModel", "childMany", "(I)I"⟩, 16) := ⟨⟨by decide +kernel, by decide +kernel⟩, List.mem_of_getElem? (i := 844) (by decide +kernel), List.mem_of_getElem? (i := 983) (by decide +kernel), List.mem_of_getElem? (i := 984) (by decide +kernel)⟩
theorem lw_p29 : lw_okq (⟨"HeatBranchesModel", "branchMany", "(I)I"⟩, 16) := ⟨⟨by decide +kernel, by decide +kernel⟩, List.mem_of_getElem? (i := 844) (by decide +kernel), List.mem_of_getElem? (i := 987) (by decide +kernel), List.mem_of_getElem? (i := 988) (by decide +kernel)⟩
theorem lw_p30 : lw_okq (⟨"HeatBranchesModel", "isBelow", "(II)Z"⟩, 16) := ⟨⟨by decide +kernel, by decide +kernel⟩, List.mem_of_getElem? (i := 844) (by decide +kernel), List.mem_of_getElem? (i := 991) (by decide +kernel), List.mem_of_getElem? (i := 992) (by decide +kernel)⟩
theorem lw_p31 : lw_okq (⟨"HeatBranchesModel", "heatOf", "(II)I"⟩, 16) := ⟨⟨by decide +kernel, by decide +kernel⟩, List.mem_of_getElem? (i := 844) (by decide +kernel), List.mem_of_getElem? (i := 999) (by decide +kernel), List.mem_of_getElem? (i := 1000) (by decide +kernel)⟩
def lw_privs_2 : List (MethodName × Nat) := [(⟨"HeatBranchesModel", "isNode", "(I)Z"⟩, 16), (⟨"HeatBranchesModel", "fails", "(I)I"⟩, 16), (⟨"HeatBranchesModel", "hold", "()V"⟩, 16), (⟨"HeatBranchesModel", "adds", "(IIIII)V"⟩, 16), (⟨"HeatBranchesModel", "puts", "(III)V"⟩, 16), (⟨"HeatBranchesModel", "ends", "(I)I"⟩, 16), (⟨"HeatBranchesModel", "tells", "(I)I"⟩, 16), (⟨"HeatBranchesModel", "isPipe", "(I)Z"⟩, 16), (⟨"HeatBranchesModel", "of", "(II)I"⟩, 16), (⟨"HeatBranchesModel", "works", "()V"⟩, 16), (⟨"HeatBranchesModel", "warmth", "(I)I"⟩, 16), (⟨"HeatBranchesModel", "nodeOf", "(II)I"⟩, 16), (⟨"HeatBranchesModel", "childMany", "(I)I"⟩, 16), (⟨"HeatBranchesModel", "branchMany", "(I)I"⟩, 16), (⟨"HeatBranchesModel", "isBelow", "(II)Z"⟩, 16), (⟨"HeatBranchesModel", "heatOf", "(II)I"⟩, 16)]
theorem lw_r2 : ∀ q ∈ lw_privs_2, lw_okq q := List.forall_mem_cons.mpr ⟨lw_p16, List.forall_mem_cons.mpr ⟨lw_p17, List.forall_mem_cons.mpr ⟨lw_p18, List.forall_mem_cons.mpr ⟨lw_p19, List.forall_mem_cons.mpr ⟨lw_p20, List.forall_mem_cons.mpr ⟨lw_p21, List.forall_mem_cons.mpr ⟨lw_p22, List.forall_mem_cons.mpr ⟨lw_p23, List.forall_mem_cons.mpr ⟨lw_p24, List.forall_mem_cons.mpr ⟨lw_p25, List.forall_mem_cons.mpr ⟨lw_p26, List.forall_mem_cons.mpr ⟨lw_p27, List.forall_mem_cons.mpr ⟨lw_p28, List.forall_mem_cons.mpr ⟨lw_p29, List.forall_mem_cons.mpr ⟨lw_p30, List.forall_mem_cons.mpr ⟨lw_p31, fun _ h => absurd h List.not_mem_nil⟩⟩⟩⟩⟩⟩⟩⟩⟩⟩⟩⟩⟩⟩⟩⟩
theorem lw_p32 : lw_okq (⟨"HeatBranchesModel", "delivered", "(I)I"⟩, 16) := ⟨⟨by decide +kernel, by decide +kernel⟩, List.mem_of_getElem? (i := 844) (by decide +kernel), List.mem_of_getElem? (i := 1003) (by decide +kernel), List.mem_of_getElem? (i := 1004) (by decide +kernel)⟩
theorem lw_p33 : lw_okq (⟨"HeatBranchesModel", "billOf", "(I)I"⟩, 16) := ⟨⟨by decide +kernel, by decide +kernel⟩, List.mem_of_getElem? (i := 844) (by decide +kernel), List.mem_of_getElem? (i := 1007) (by decide +kernel), List.mem_of_getElem? (i := 1008) (by decide +kernel)⟩
theorem lw_p34 : lw_okq (⟨"HeatBranchesModel", "valueOf", "(I)I"⟩, 16) := ⟨⟨by decide +kernel, by decide +kernel⟩, List.mem_of_getElem? (i := 844) (by decide +kernel), List.mem_of_getElem? (i := 1015) (by decide +kernel), List.mem_of_getElem? (i := 1016) (by decide +kernel)⟩
theorem lw_p35 : lw_okq (⟨"HeatBranchesModel", "costs", "()I"⟩, 16) := ⟨⟨by decide +kernel, by decide +kernel⟩, List.mem_of_getElem? (i := 844) (by decide +kernel), List.mem_of_getElem? (i := 1019) (by decide +kernel), List.mem_of_getElem? (i := 1020) (by decide +kernel)⟩
theorem lw_p36 : lw_okq (⟨"HeatBranchesModel", "need", "()I"⟩, 16) := ⟨⟨by decide +kernel, by decide +kernel⟩, List.mem_of_getElem? (i := 844) (by decide +kernel), List.mem_of_getElem? (i := 1023) (by decide +kernel), List.mem_of_getElem? (i := 1024) (by decide +kernel)⟩
theorem lw_p37 : lw_okq (⟨"HeatBranchesModel", "boilerAt", "(I)I"⟩, 16) := ⟨⟨by decide +kernel, by decide +kernel⟩, List.mem_of_getElem? (i := 844) (by decide +kernel), List.mem_of_getElem? (i := 1027) (by decide +kernel), List.mem_of_getElem? (i := 1028) (by decide +kernel)⟩
theorem lw_p38 : lw_okq (⟨"HeatBranchesModel", "placeOf", "(I)I"⟩, 16) := ⟨⟨by decide +kernel, by decide +kernel⟩, List.mem_of_getElem? (i := 844) (by decide +kernel), List.mem_of_getElem? (i := 1031) (by decide +kernel), List.mem_of_getElem? (i := 1032) (by decide +kernel)⟩
theorem lw_p39 : lw_okq (⟨"HeatBranchesModel", "ofBoiler", "(II)I"⟩, 16) := ⟨⟨by decide +kernel, by decide +kernel⟩, List.mem_of_getElem? (i := 844) (by decide +kernel), List.mem_of_getElem? (i := 1035) (by decide +kernel), List.mem_of_getElem? (i := 1036) (by decide +kernel)⟩
theorem lw_p40 : lw_okq (⟨"HeatBranchesModel", "accounts", "()I"⟩, 16) := ⟨⟨by decide +kernel, by decide +kernel⟩, List.mem_of_getElem? (i := 844) (by decide +kernel), List.mem_of_getElem? (i := 1039) (by decide +kernel), List.mem_of_getElem? (i := 1040) (by decide +kernel)⟩
theorem lw_p41 : lw_okq (⟨"HeatBranchesModel", "meters", "()I"⟩, 16) := ⟨⟨by decide +kernel, by decide +kernel⟩, List.mem_of_getElem? (i := 844) (by decide +kernel), List.mem_of_getElem? (i := 1043) (by decide +kernel), List.mem_of_getElem? (i := 1044) (by decide +kernel)⟩
theorem lw_p42 : lw_okq (⟨"HeatBranchesModel", "sumOf", "(I)I"⟩, 16) := ⟨⟨by decide +kernel, by decide +kernel⟩, List.mem_of_getElem? (i := 844) (by decide +kernel), List.mem_of_getElem? (i := 1051) (by decide +kernel), List.mem_of_getElem? (i := 1052) (by decide +kernel)⟩
theorem lw_p43 : lw_okq (⟨"HeatBranchesModel", "isBoiler", "(I)Z"⟩, 16) := ⟨⟨by decide +kernel, by decide +kernel⟩, List.mem_of_getElem? (i := 844) (by decide +kernel), List.mem_of_getElem? (i := 1064) (by decide +kernel), List.mem_of_getElem? (i := 1065) (by decide +kernel)⟩
theorem lw_p44 : lw_okq (⟨"HeatBranchesModel", "boilerOf", "(II)I"⟩, 16) := ⟨⟨by decide +kernel, by decide +kernel⟩, List.mem_of_getElem? (i := 844) (by decide +kernel), List.mem_of_getElem? (i := 1072) (by decide +kernel), List.mem_of_getElem? (i := 1073) (by decide +kernel)⟩
theorem lw_p45 : lw_okq (⟨"HeatBranchesModel", "balanceOf", "(I)I"⟩, 16) := ⟨⟨by decide +kernel, by decide +kernel⟩, List.mem_of_getElem? (i := 844) (by decide +kernel), List.mem_of_getElem? (i := 1092) (by decide +kernel), List.mem_of_getElem? (i := 1093) (by decide +kernel)⟩
theorem lw_p46 : lw_okq (⟨"HeatBranchesModel", "hasMeter", "(I)Z"⟩, 16) := ⟨⟨by decide +kernel, by decide +kernel⟩, List.mem_of_getElem? (i := 844) (by decide +kernel), List.mem_of_getElem? (i := 1096) (by decide +kernel), List.mem_of_getElem? (i := 1097) (by decide +kernel)⟩
theorem lw_p47 : lw_okq (⟨"HeatBranchesModel", "meterAt", "(I)I"⟩, 16) := ⟨⟨by decide +kernel, by decide +kernel⟩, List.mem_of_getElem? (i := 844) (by decide +kernel), List.mem_of_getElem? (i := 1100) (by decide +kernel), List.mem_of_getElem? (i := 1101) (by decide +kernel)⟩
def lw_privs_3 : List (MethodName × Nat) := [(⟨"HeatBranchesModel", "delivered", "(I)I"⟩, 16), (⟨"HeatBranchesModel", "billOf", "(I)I"⟩, 16), (⟨"HeatBranchesModel", "valueOf", "(I)I"⟩, 16), (⟨"HeatBranchesModel", "costs", "()I"⟩, 16), (⟨"HeatBranchesModel", "need", "()I"⟩, 16), (⟨"HeatBranchesModel", "boilerAt", "(I)I"⟩, 16), (⟨"HeatBranchesModel", "placeOf", "(I)I"⟩, 16), (⟨"HeatBranchesModel", "ofBoiler", "(II)I"⟩, 16), (⟨"HeatBranchesModel", "accounts", "()I"⟩, 16), (⟨"HeatBranchesModel", "meters", "()I"⟩, 16), (⟨"HeatBranchesModel", "sumOf", "(I)I"⟩, 16), (⟨"HeatBranchesModel", "isBoiler", "(I)Z"⟩, 16), (⟨"HeatBranchesModel", "boilerOf", "(II)I"⟩, 16), (⟨"HeatBranchesModel", "balanceOf", "(I)I"⟩, 16), (⟨"HeatBranchesModel", "hasMeter", "(I)Z"⟩, 16), (⟨"HeatBranchesModel", "meterAt", "(I)I"⟩, 16)]
theorem lw_r3 : ∀ q ∈ lw_privs_3, lw_okq q := List.forall_mem_cons.mpr ⟨lw_p32, List.forall_mem_cons.mpr ⟨lw_p33, List.forall_mem_cons.mpr ⟨lw_p34, List.forall_mem_cons.mpr ⟨lw_p35, List.forall_mem_cons.mpr ⟨lw_p36, List.forall_mem_cons.mpr ⟨lw_p37, List.forall_mem_cons.mpr ⟨lw_p38, List.forall_mem_cons.mpr ⟨lw_p39, List.forall_mem_cons.mpr ⟨lw_p40, List.forall_mem_cons.mpr ⟨lw_p41, List.forall_mem_cons.mpr ⟨lw_p42, List.forall_mem_cons.mpr ⟨lw_p43, List.forall_mem_cons.mpr ⟨lw_p44, List.forall_mem_cons.mpr ⟨lw_p45, List.forall_mem_cons.mpr ⟨lw_p46, List.forall_mem_cons.mpr ⟨lw_p47, fun _ h => absurd h List.not_mem_nil⟩⟩⟩⟩⟩⟩⟩⟩⟩⟩⟩⟩⟩⟩⟩⟩
theorem lw_p48 : lw_okq (⟨"HeatBranchesModel", "regionOf", "(I)I"⟩, 16) := ⟨⟨by decide +kernel, by decide +kernel⟩, List.mem_of_getElem? (i := 844) (by decide +kernel), List.mem_of_getElem? (i := 1108) (by decide +kernel), List.mem_of_getElem? (i := 1109) (by decide +kernel)⟩
theorem lw_p49 : lw_okq (⟨"HeatBranchesModel", "nextOf", "(I)I"⟩, 16) := ⟨⟨by decide +kernel, by decide +kernel⟩, List.mem_of_getElem? (i := 844) (by decide +kernel), List.mem_of_getElem? (i := 1120) (by decide +kernel), List.mem_of_getElem? (i := 1121) (by decide +kernel)⟩
theorem lw_p50 : lw_okq (⟨"HeatBranchesModel", "inBranch", "(II)I"⟩, 16) := ⟨⟨by decide +kernel, by decide +kernel⟩, List.mem_of_getElem? (i := 844) (by decide +kernel), List.mem_of_getElem? (i := 1124) (by decide +kernel), List.mem_of_getElem? (i := 1125) (by decide +kernel)⟩
theorem lw_p51 : lw_okq (⟨"HeatBranchesModel", "suspectMany", "()I"⟩, 16) := ⟨⟨by decide +kernel, by decide +kernel⟩, List.mem_of_getElem? (i := 844) (by decide +kernel), List.mem_of_getElem? (i := 1132) (by decide +kernel), List.mem_of_getElem? (i := 1133) (by decide +kernel)⟩
theorem lw_p52 : lw_okq (⟨"HeatBranchesModel", "firstNext", "()I"⟩, 16) := ⟨⟨by decide +kernel, by decide +kernel⟩, List.mem_of_getElem? (i := 844) (by decide +kernel), List.mem_of_getElem? (i := 1140) (by decide +kernel), List.mem_of_getElem? (i := 1141) (by decide +kernel)⟩
theorem lw_p53 : lw_okq (⟨"HeatBranchesModel", "isWarm", "()Z"⟩, 16) := ⟨⟨by decide +kernel, by decide +kernel⟩, List.mem_of_getElem? (i := 844) (by decide +kernel), List.mem_of_getElem? (i := 1152) (by decide +kernel), List.mem_of_getElem? (i := 1153) (by decide +kernel)⟩
theorem lw_p54 : lw_okq (⟨"HeatBranchesModel", "isNodeText", "()Z"⟩, 16) := ⟨⟨by decide +kernel, by decide +kernel⟩, List.mem_of_getElem? (i := 844) (by decide +kernel), List.mem_of_getElem? (i := 1176) (by decide +kernel), List.mem_of_getElem? (i := 1177) (by decide +kernel)⟩
theorem lw_p55 : lw_okq (⟨"HeatBranchesModel", "isNumber", "(IIII)Z"⟩, 16) := ⟨⟨by decide +kernel, by decide +kernel⟩, List.mem_of_getElem? (i := 844) (by decide +kernel), List.mem_of_getElem? (i := 1180) (by decide +kernel), List.mem_of_getElem? (i := 1181) (by decide +kernel)⟩
theorem lw_p56 : lw_okq (⟨"HeatBranchesModel", "isDigit", "()Z"⟩, 16) := ⟨⟨by decide +kernel, by decide +kernel⟩, List.mem_of_getElem? (i := 844) (by decide +kernel), List.mem_of_getElem? (i := 1184) (by decide +kernel), List.mem_of_getElem? (i := 1185) (by decide +kernel)⟩
theorem lw_p57 : lw_okq (⟨"HeatBranchesModel", "mix", "(I)V"⟩, 16) := ⟨⟨by decide +kernel, by decide +kernel⟩, List.mem_of_getElem? (i := 844) (by decide +kernel), List.mem_of_getElem? (i := 1197) (by decide +kernel), List.mem_of_getElem? (i := 1198) (by decide +kernel)⟩
def lw_privs_4 : List (MethodName × Nat) := [(⟨"HeatBranchesModel", "regionOf", "(I)I"⟩, 16), (⟨"HeatBranchesModel", "nextOf", "(I)I"⟩, 16), (⟨"HeatBranchesModel", "inBranch", "(II)I"⟩, 16), (⟨"HeatBranchesModel", "suspectMany", "()I"⟩, 16), (⟨"HeatBranchesModel", "firstNext", "()I"⟩, 16), (⟨"HeatBranchesModel", "isWarm", "()Z"⟩, 16), (⟨"HeatBranchesModel", "isNodeText", "()Z"⟩, 16), (⟨"HeatBranchesModel", "isNumber", "(IIII)Z"⟩, 16), (⟨"HeatBranchesModel", "isDigit", "()Z"⟩, 16), (⟨"HeatBranchesModel", "mix", "(I)V"⟩, 16)]
theorem lw_r4 : ∀ q ∈ lw_privs_4, lw_okq q := List.forall_mem_cons.mpr ⟨lw_p48, List.forall_mem_cons.mpr ⟨lw_p49, List.forall_mem_cons.mpr ⟨lw_p50, List.forall_mem_cons.mpr ⟨lw_p51, List.forall_mem_cons.mpr ⟨lw_p52, List.forall_mem_cons.mpr ⟨lw_p53, List.forall_mem_cons.mpr ⟨lw_p54, List.forall_mem_cons.mpr ⟨lw_p55, List.forall_mem_cons.mpr ⟨lw_p56, List.forall_mem_cons.mpr ⟨lw_p57, fun _ h => absurd h List.not_mem_nil⟩⟩⟩⟩⟩⟩⟩⟩⟩⟩
def lw_privs : List (MethodName × Nat) := lw_privs_1 ++ (lw_privs_2 ++ (lw_privs_3 ++ (lw_privs_4)))
def lw_tbl : List Cond := k2_sels lw_privs ++ tables_1
theorem lw_privs_ok : ∀ q ∈ lw_privs, lw_okq q := by
  show ∀ q ∈ lw_privs_1 ++ (lw_privs_2 ++ (lw_privs_3 ++ (lw_privs_4))), lw_okq q
  exact List.forall_mem_append.mpr ⟨lw_r1, List.forall_mem_append.mpr ⟨lw_r2, List.forall_mem_append.mpr ⟨lw_r3, lw_r4⟩⟩⟩
/-- the streams that the claim lets the run draw from -/
abbrev lw_cs : List Choice := [Jvm.Choice.named "NaN.bits"]
theorem lw_bits : nanBits ∈ lw_cs := by first | decide | exact List.mem_cons_self | simp [lw_cs, nanBits]
-- ===== end of PART A; then your names; then what follows =====
end
section
/-! ===== BEGIN words of one list among another's, by their places ===== -/
theorem goodIn_r {big : List Cond} (ws : List Cond) (ps : List Nat) (hp : ws = ps.filterMap (fun i => big[i]?)) (h : ws.all goodWord = true) : GoodIn big ws := by
  intro w hw
  have h1 := List.all_eq_true.mp h w hw
  rw [hp] at hw
  obtain ⟨i, -, hi⟩ := List.mem_filterMap.mp hw
  have hm : w ∈ big := by first | exact List.mem_of_getElem? hi | exact List.getElem?_mem hi
  exact ⟨hm, good_of_word h1⟩
theorem goodIn_app {big a b : List Cond} (ha : GoodIn big a) (hb : GoodIn big b) : GoodIn big (a ++ b) := fun w h => (List.mem_append.mp h).elim (ha w) (hb w)
theorem goodIn_ca {big a b : List Cond} {c : Cond} (ha : GoodIn big (c :: a)) (hb : GoodIn big b) : GoodIn big (c :: (a ++ b)) := fun w h => (List.mem_cons.mp h).elim (fun e => ha w (List.mem_cons.mpr (Or.inl e))) (fun h => (List.mem_append.mp h).elim (fun h => ha w (List.mem_cons.mpr (Or.inr h))) (hb w))
theorem goodIn_sub {big ws : List Cond} (hm : ∀ w ∈ ws, w ∈ big) (h : ws.all goodWord = true) : GoodIn big ws := fun w hw => ⟨hm w hw, good_of_word (List.all_eq_true.mp h w hw)⟩
/-! ===== END ===== -/

/-! ===== BEGIN exceptions that leave a method, and their catching by the caller (launches without stack traces) ===== -/
section VXA
/-! The laws vx_back, vx_callV, vx_callS, vx_callSW, vx_throw0, vx_throwS follow proofs of the library, with one case more: JvmDerived/Free/Laws.lean (Back.of_free), Shelf42/LK1.lean (callV, callS), Shelf/KitTraced.lean (throwNew0V, throwNewS). -/
/-- where a method has thrown q: the class by its name, the cell, what was written, the world -/
def vx_T (XC : String → State → State → Prop) (st : State) (q : Addr) (t : State) (mc ms : Nat) (free : Addr → Prop) : Prop :=
  ∃ (E : String) (ce : Cell) (L : List Loc), XC E st t ∧ t.heap[q]? = some ce ∧ ce.vm = .none ∧ st.vm.findClass E = some ce.cls ∧ st.WarmedH t.vm ∧ st.sameButNew ({ t with vm := st.vm } : State) L mc ms ∧ ∀ z ∈ L, free z.base
def vx_Q (Qc : Array Value → State → Outcome → State → Prop) (XC : String → State → State → Prop) (mc ms : Nat) (free : Addr → Prop) : Array Value → State → Outcome → State → Prop := fun a st o t =>
  (Qc a st o t ∧ ∃ L, FrameEnd st o t L mc ms ∧ ∀ q ∈ L, free q.base) ∨ ∃ q, o = .threw q ∧ vx_T XC st q t mc ms free
/-- a callee that returns or throws -/
def vx_Met (l : Launch) (y : MethodName) (ws : List Cond) (rm : Room) (Pc : Array Value → State → Prop) (Qc : Array Value → State → Outcome → State → Prop) (XC : String → State → State → Prop) (mc ms : Nat) (free : Addr → Prop) : Prop :=
  MetFree l y (headSpec ws rm) Pc (fun _ _ _ _ _ => True) (vx_Q Qc XC mc ms free)
def vx_Post (XC : String → State → State → Prop) (mc ms : Nat) (free : Addr → Prop) : Pt → Array Value → Addr → Pt → Prop := fun A a q B =>
  ∃ (g : JFrame) (mk : MethodId) (t : State) (L : List Loc) (E : String) (ce : Cell), B.U.heap = t.heap ∧ B.U.vm = t.vm ∧ XC E (A.U.calling g mk a) t ∧ t.heap[q]? = some ce ∧ ce.vm = .none ∧ A.U.vm.findClass E = some ce.cls ∧ B.locs = A.locs ++ L ∧ (∀ z ∈ L, free z.base) ∧ B.cells = A.cells + mc ∧ B.slots = A.slots + ms
def vx_Back (l : Launch) (R : Room) (p : Program) (e : Env) (below : List Frame) (s : State) (sargs : Array Value) (y : MethodName) (len W9 : Nat)
    (Pre : Pt → Array Value → Prop) (Post : Pt → Array Value → Option Value → Pt → Prop) (PostX : Pt → Array Value → Addr → Pt → Prop) : Prop :=
  ∀ (m : MethodId) (meth : Method) (c : Code) (A : Pt) (g : JFrame) (ig : Instr) (mk : MethodId) (a : Array Value),
    Stand p l e R s m sargs below meth c A.U A.locs A.cells A.slots → g.method = m → g.locals.size = c.maxLocals → decode c.code g.pc = .ok (ig, len) →
    2 * g.monitorRoom + (g.stack.map fun v => v.category).sum ≤ W9 → A.U.methodNamed? y = some mk → Pre A a →
    (∃ (v : Option Value) (B : Pt), Stand p l e R s m sargs below meth c B.U B.locs B.cells B.slots ∧ Post A a v B ∧
      Steps p.tables e below (doInvoke e (A.U.setTop g) [] mk a).1 (B.U.setTop { g with pc := g.pc + len, stack := v.toList ++ g.stack })) ∨
    (∃ (q : Addr) (B : Pt), Stand p l e R s m sargs below meth c B.U B.locs B.cells B.slots ∧ PostX A a q B ∧
      Steps p.tables e below (doInvoke e (A.U.setTop g) [] mk a).1 ((B.U.setTop g).pushFrame (.throwing q)))
section Payer
variable {l : Launch} {R : Room} {p : Program} {e : Env} {below : List Frame} {s : State} {sargs : Array Value} {y : MethodName} {len W9 : Nat}
theorem vx_back {ws : List Cond} {rm : Room} {Pc : Array Value → State → Prop} {Qc : Array Value → State → Outcome → State → Prop} {XC : String → State → State → Prop} {mc ms : Nat} {free : Addr → Prop} {bytes : ByteArray} {maxL : Nat} {ret : Option FieldType}
    (hM : vx_Met l y ws rm Pc Qc XC mc ms free) (hblind : FrameBlind Pc) (hrc : rm.cells = mc) (hrs : rm.slots = ms)
    (hframes : rm.frames + 1 ≤ R.frames) (hlocals : W9 + (maxL + 11) + rm.locals ≤ R.locals)
    (hws : ∀ w ∈ ws, ∀ a' U, s.WarmedH U.vm → w.before a' U = true) (hcode : Cond.code y bytes maxL ret ∈ ws) (hinit : ∀ a' U, s.WarmedH U.vm → (Cond.initialized y.cls).before a' U = true) :
    vx_Back l R p e below s sargs y len W9 (PreOf R mc ms Pc) (PostOf Qc mc ms free) (vx_Post XC mc ms free) := by
  intro m meth c A g ig mk a X hg hsize hdg hW hn hp
  have h1 : (headSpec ws rm).pre.before a A.U = true := atoms_intro fun w hw => hws w hw _ _ X.warmed
  have h2 : (Cond.code y bytes maxL ret).before a A.U = true := hws _ hcode _ _ X.warmed
  have h3 : (Cond.initialized y.cls).before a A.U = true := hinit _ _ X.warmed
  have h4 : A.cells + (headSpec ws rm).room.cells ≤ R.cells := by rw [show (headSpec ws rm).room.cells = mc from hrc]; exact hp.1
  have h5 : A.slots + (headSpec ws rm).room.slots ≤ R.slots := by rw [show (headSpec ws rm).room.slots = ms from hrs]; exact hp.2.1
  have hPc : Pc a (A.U.calling g mk a) := hblind _ _ _ _ hp.2.2
  obtain ⟨U, Ls, c0, s0⟩ := A
  dsimp only [Pt.U, Pt.locs, Pt.cells, Pt.slots] at h1 h2 h3 h4 h5 X hn hPc ⊢
  obtain ⟨methY, cY, hmY, hcY, -, hlY, -, -, -, -⟩ := Cond.code_spec hn h2
  obtain ⟨kY, hkY, -⟩ := className_of_methodNamed hn
  have hinitY : kY.init = .initialized := Cond.initialized_spec (findClass_of_methodNamed hn) hkY h3
  have h : At U g.method c below := by rw [hg]; exact X.here
  have hlocals9 : W9 + (maxL + 11) + (headSpec ws rm).room.locals ≤ R.locals := hlocals
  have happ : (headSpec ws rm).appliesLoose y e.platform (U.calling g mk a) = true :=
    Spec.appliesLoose_calling (g := g) h hdg hn hkY hinitY
      (X.room_calling (g := g) (R' := (headSpec ws rm).room) hsize hmY hcY hframes (by rw [hlY]; omega) h4 h5) h1
  obtain ⟨mid, hmid⟩ := h.above
  have hfr : (U.setTop g).frames = (.java g :: mid) ++ below := by rw [State.frames_setTop' g h.top, hmid]; rfl
  obtain ⟨o, s₂, hsteps, -, hend, hq⟩ := Steps.callFree hM p X.admits X.cas X.clock (acts := []) hfr happ hPc trivial
  have hq' : vx_Q Qc XC mc ms free a (U.calling g mk a) o s₂ := hq
  rw [State.frames_setTop' g h.top] at hend
  obtain ⟨g₀, hg0⟩ := Option.isSome_iff_exists.mp h.top
  obtain ⟨r, hr⟩ := State.topJava?_eq_some.mp hg0
  have hr' : (({ U with heap := s₂.heap, slotsUsed := s₂.slotsUsed } : State).setVm s₂.vm).frames = .java g₀ :: r := hr
  rcases hq' with ⟨hqc, L, hfe, hL⟩ | ⟨q, rfl, E, ce, L, hx, hce, hcv, hcl, hW₂, hsm, hL⟩
  · obtain ⟨⟨v, rfl⟩, hW₂, e2, q2, q3, q4, q5, q6⟩ := id hfe
    have e3 : s₂ = ({ (U.calling g mk a).setFrames s₂.frames with heap := s₂.heap, slotsUsed := s₂.slotsUsed } : State).setVm s₂.vm := by
      have : s₂ = ({ s₂ with vm := (U.calling g mk a).vm } : State).setVm s₂.vm := rfl
      rw [e2] at this
      exact this
    obtain ⟨c₂, i₂, len₂, hc₂, hd₂, hf₂⟩ := hend
    have hW' : U.WarmedH s₂.vm := hW₂
    have hcc : c₂ = c := by
      have h1 : s₂.code? g.method = U.code? g.method := by
        rw [State.code?_eq, State.code?_eq, hW'.alike.method?]
      exact Option.some.inj (hc₂.symm.trans (h1.trans h.code))
    subst hcc
    have hlen : len₂ = len := by rw [hdg] at hd₂; cases hd₂; rfl
    subst hlen
    have hs₂ : s₂ = (({ U with heap := s₂.heap, slotsUsed := s₂.slotsUsed } : State).setVm s₂.vm).setTop { g with pc := g.pc + len₂, stack := v.toList ++ g.stack } := by
      refine e3.trans ?_
      rw [hf₂, State.calling_eq h.top, State.setFrames_setFrames, State.setTop_of_frames _ hr', hr]
      rfl
    have hsame : U.sameButNew ({ U with heap := s₂.heap, slotsUsed := s₂.slotsUsed } : State) L mc ms := by
      refine ⟨?_, q2, q3, q4, q5, q6⟩
      obtain ⟨t, ht, -⟩ := State.frames_cons hr
      show ({ U with heap := s₂.heap, slotsUsed := s₂.slotsUsed } : State) = { U.setFrames U.frames with heap := s₂.heap, slotsUsed := s₂.slotsUsed }
      rw [State.setFrames_self ht]
    subst hg
    refine Or.inl ⟨v, ⟨(({ U with heap := s₂.heap, slotsUsed := s₂.slotsUsed } : State).setVm s₂.vm), Ls ++ L, c0 + mc, s0 + ms⟩,
      ⟨X.admits, X.cas, X.clock, X.frames, X.room, X.hears, X.method, X.code, (X.here.setHeapUsed s₂.heap s₂.slotsUsed).setVm hW'.alike, X.tail, State.WarmedH.trans X.warmed hW', X.limits, X.bytes, X.same.trans (hsame.setVm s.vm)⟩,
      ⟨g, mk, s₂, L, rfl, rfl, hqc, rfl, hL, rfl, rfl⟩, ?_⟩
    show Steps p.tables e below _ ((({ U with heap := s₂.heap, slotsUsed := s₂.slotsUsed } : State).setVm s₂.vm).setTop { g with pc := g.pc + len₂, stack := v.toList ++ g.stack })
    rw [← hs₂]
    exact hsteps
  · obtain ⟨e2, q2, q3, q4, q5, q6⟩ := id hsm
    have e3 : s₂ = ({ (U.calling g mk a).setFrames s₂.frames with heap := s₂.heap, slotsUsed := s₂.slotsUsed } : State).setVm s₂.vm := by
      have : s₂ = ({ s₂ with vm := (U.calling g mk a).vm } : State).setVm s₂.vm := rfl
      rw [e2] at this
      exact this
    have hf₂ : s₂.frames = .throwing q :: .java g :: U.frames.tail := hend
    have hW' : U.WarmedH s₂.vm := hW₂
    have hs₂ : s₂ = ((({ U with heap := s₂.heap, slotsUsed := s₂.slotsUsed } : State).setVm s₂.vm).setTop g).pushFrame (.throwing q) := by
      refine e3.trans ?_
      rw [hf₂, State.calling_eq h.top, State.setFrames_setFrames, State.pushFrame, State.frames_setTop _ hr', State.setTop_of_frames _ hr', State.setFrames_setFrames, hr]
      rfl
    have hsame : U.sameButNew ({ U with heap := s₂.heap, slotsUsed := s₂.slotsUsed } : State) L mc ms := by
      refine ⟨?_, q2, q3, q4, q5, q6⟩
      obtain ⟨t, ht, -⟩ := State.frames_cons hr
      show ({ U with heap := s₂.heap, slotsUsed := s₂.slotsUsed } : State) = { U.setFrames U.frames with heap := s₂.heap, slotsUsed := s₂.slotsUsed }
      rw [State.setFrames_self ht]
    subst hg
    refine Or.inr ⟨q, ⟨(({ U with heap := s₂.heap, slotsUsed := s₂.slotsUsed } : State).setVm s₂.vm), Ls ++ L, c0 + mc, s0 + ms⟩,
      ⟨X.admits, X.cas, X.clock, X.frames, X.room, X.hears, X.method, X.code, (X.here.setHeapUsed s₂.heap s₂.slotsUsed).setVm hW'.alike, X.tail, State.WarmedH.trans X.warmed hW', X.limits, X.bytes, X.same.trans (hsame.setVm s.vm)⟩,
      ⟨g, mk, s₂, L, E, ce, rfl, rfl, hx, hce, hcv, hcl, rfl, hL, rfl, rfl⟩, ?_⟩
    show Steps p.tables e below _ (((({ U with heap := s₂.heap, slotsUsed := s₂.slotsUsed } : State).setVm s₂.vm).setTop g).pushFrame (.throwing q))
    rw [← hs₂]
    exact hsteps
end Payer
section Calls
variable {p : Program} {l : Launch} {e : Env} {R : Room} {s : State} {m : MethodId} {args : Array Value} {below : List Frame} {meth : Method} {c : Code} {T : State} {locs : List Loc} {cells slots : Nat}
theorem vx_callV (X : Stand p l e R s m args below meth c T locs cells slots) (hexec : p.tables.exec = Jvm.exec) {own C : String} {index : Nat} {y : MethodName} {bytes : ByteArray} {maxL : Nat} {ret : Option FieldType}
    (hown : s.vm.findClass own = some m.cls) (hlink : (Cond.methodLink own index y).before args s = true) (hinst : (Cond.instanceMethod y).before args s = true) (hsel : (Cond.selects C y y).before args s = true)
    (hcode : (Cond.code y bytes maxL ret).before args s = true) (hy : y.cls ≠ "java/lang/invoke/MethodHandle" ∧ y.cls ≠ "java/lang/invoke/VarHandle")
    {W9 : Nat} {Pre : Pt → Array Value → Prop} {Post : Pt → Array Value → Option Value → Pt → Prop} {PostX : Pt → Array Value → Addr → Pt → Prop} (hK : vx_Back l R p e below s args y 3 W9 Pre Post PostX)
    {b : Addr} {cellB : Cell} (hcell : T.heap[b]? = some cellB) (hobj : cellB.vm.isStatics = false) (hcls : s.vm.findClass C = some cellB.cls)
    {g : JFrame} (hg : g.method = m) (hsize : g.locals.size = c.maxLocals) {argsL rest : List Value} (hlen : ∀ sig, parseMethodDescriptor y.desc = some sig → argsL.length = sig.parameters.length)
    (hstack : g.stack = argsL.reverse ++ .ref b :: rest) (hW : 2 * g.monitorRoom + (rest.map fun v => v.category).sum ≤ W9) (hdg : decode c.code g.pc = .ok (.invokevirtual index, 3))
    (hpre : ∀ vm₁, s.WarmedH vm₁ → Pre ⟨T.setVm vm₁, locs, cells, slots⟩ (Value.ref b :: argsL).toArray) :
    (∃ (v : Option Value) (vm₁ : Vm) (B : Pt), s.WarmedH vm₁ ∧ Stand p l e R s m args below meth c B.U B.locs B.cells B.slots ∧ Post ⟨T.setVm vm₁, locs, cells, slots⟩ (Value.ref b :: argsL).toArray v B ∧
      ∀ target, Steps p.tables e below (B.U.setTop { g with pc := g.pc + 3, stack := v.toList ++ rest }) target → Steps p.tables e below (T.setTop g) target) ∨
    (∃ (q : Addr) (vm₁ : Vm) (B : Pt), s.WarmedH vm₁ ∧ Stand p l e R s m args below meth c B.U B.locs B.cells B.slots ∧ PostX ⟨T.setVm vm₁, locs, cells, slots⟩ (Value.ref b :: argsL).toArray q B ∧
      Steps p.tables e below (T.setTop g) ((B.U.setTop { g with stack := rest }).pushFrame (.throwing q))) := by
  obtain ⟨mk, methM, hnamed, hmethM, hstM, habM⟩ := Cond.instanceMethod_spec hinst
  obtain ⟨methM', cM, hmethM', -, -, -, -, -, -, hsigM⟩ := Cond.code_spec hnamed hcode
  cases hmethM.symm.trans hmethM'
  obtain ⟨c2, r2, m2, q1, q2, q3, q4, kP, hkP, hkPi⟩ := Cond.selects_spec hsel
  cases hcls.symm.trans q1
  cases (State.methodFound?_of_named hnamed hy).symm.trans q2
  cases hnamed.symm.trans q3
  have hselP : selectMethod e.platform s.vm cellB.cls mk = .method mk := by rw [Launch.admits_selectMethod X.admits]; exact q4
  obtain ⟨vm₁, X₁, hstep₁⟩ := X.invokevirtual hexec hown hlink hnamed hmethM hstM hkP hkPi hy (a := b) (cell := cellB) hcell
    (fun z h => by rw [h] at hobj; cases hobj) hselP hmethM habM hkP hkPi (g := g) hg (argsL := argsL) (rest := rest) (hlen _ hsigM) hstack hdg
  rcases hK m meth c ⟨T.setVm vm₁, locs, cells, slots⟩ { g with stack := rest } (.invokevirtual index) mk (Value.ref b :: argsL).toArray X₁ hg hsize hdg hW (X₁.named hnamed) (hpre vm₁ X₁.warmed) with ⟨v, B, X', hpost, hsteps⟩ | ⟨q, B, X', hpost, hsteps⟩
  · exact Or.inl ⟨v, vm₁, B, X₁.warmed, X', hpost, fun target h => hstep₁ _ fun acts => by rw [doInvoke_state]; exact hsteps.trans h⟩
  · exact Or.inr ⟨q, vm₁, B, X₁.warmed, X', hpost, hstep₁ _ fun acts => by rw [doInvoke_state]; exact hsteps⟩
theorem vx_callS (X : Stand p l e R s m args below meth c T locs cells slots) (hexec : p.tables.exec = Jvm.exec) {own : String} {index : Nat} {y : MethodName} {bytes : ByteArray} {maxL : Nat} {ret : Option FieldType}
    (hown : s.vm.findClass own = some m.cls) (hlink : (Cond.methodLink own index y).before args s = true) (hstat : (Cond.static y).before args s = true) (hinit : (Cond.initialized y.cls).before args s = true)
    (hcode : (Cond.code y bytes maxL ret).before args s = true) (hy : y.cls ≠ "java/lang/invoke/MethodHandle" ∧ y.cls ≠ "java/lang/invoke/VarHandle")
    {W9 : Nat} {Pre : Pt → Array Value → Prop} {Post : Pt → Array Value → Option Value → Pt → Prop} {PostX : Pt → Array Value → Addr → Pt → Prop} (hK : vx_Back l R p e below s args y 3 W9 Pre Post PostX)
    {g : JFrame} (hg : g.method = m) (hsize : g.locals.size = c.maxLocals) {argsL rest : List Value} (hlen : ∀ sig, parseMethodDescriptor y.desc = some sig → argsL.length = sig.parameters.length)
    (hstack : g.stack = argsL.reverse ++ rest) (hW : 2 * g.monitorRoom + (rest.map fun v => v.category).sum ≤ W9) (hdg : decode c.code g.pc = .ok (.invokestatic index, 3))
    (hpre : ∀ vm₁, s.WarmedH vm₁ → Pre ⟨T.setVm vm₁, locs, cells, slots⟩ argsL.toArray) :
    (∃ (v : Option Value) (vm₁ : Vm) (B : Pt), s.WarmedH vm₁ ∧ Stand p l e R s m args below meth c B.U B.locs B.cells B.slots ∧ Post ⟨T.setVm vm₁, locs, cells, slots⟩ argsL.toArray v B ∧
      ∀ target, Steps p.tables e below (B.U.setTop { g with pc := g.pc + 3, stack := v.toList ++ rest }) target → Steps p.tables e below (T.setTop g) target) ∨
    (∃ (q : Addr) (vm₁ : Vm) (B : Pt), s.WarmedH vm₁ ∧ Stand p l e R s m args below meth c B.U B.locs B.cells B.slots ∧ PostX ⟨T.setVm vm₁, locs, cells, slots⟩ argsL.toArray q B ∧
      Steps p.tables e below (T.setTop g) ((B.U.setTop { g with stack := rest }).pushFrame (.throwing q))) := by
  obtain ⟨mk, hnamed⟩ := Cond.code_named hcode
  obtain ⟨methM, cM, hmethM, -, -, -, -, -, -, hsigM⟩ := Cond.code_spec hnamed hcode
  have hstatic : methM.isStatic = true := Cond.static_spec hnamed hmethM hstat
  obtain ⟨kP, hkP, -⟩ := className_of_methodNamed hnamed
  have hinitP : kP.init = .initialized := Cond.initialized_spec (findClass_of_methodNamed hnamed) hkP hinit
  obtain ⟨vm₁, X₁, hstep₁⟩ := X.invokestatic hexec hown hlink hnamed hmethM hstatic hkP hinitP hy (g := g) hg (argsL := argsL) (rest := rest) (hlen _ hsigM) hstack hdg
  rcases hK m meth c ⟨T.setVm vm₁, locs, cells, slots⟩ { g with stack := rest } (.invokestatic index) mk argsL.toArray X₁ hg hsize hdg hW (X₁.named hnamed) (hpre vm₁ X₁.warmed) with ⟨v, B, X', hpost, hsteps⟩ | ⟨q, B, X', hpost, hsteps⟩
  · exact Or.inl ⟨v, vm₁, B, X₁.warmed, X', hpost, fun target h => hstep₁ _ fun acts => by rw [doInvoke_state]; exact hsteps.trans h⟩
  · exact Or.inr ⟨q, vm₁, B, X₁.warmed, X', hpost, hstep₁ _ fun acts => by rw [doInvoke_state]; exact hsteps⟩
end Calls
theorem vx_cls {s : State} {T : State} {vm₁ : Vm} {E : String} {k : ClassId} (hW : s.WarmedH vm₁) (h : (T.setVm vm₁).vm.findClass E = some k) : s.vm.findClass E = some k := by
  have h1 : vm₁.findClass E = some k := h
  rw [hW.alike.findClass] at h1
  exact h1
/-- the method's frame g, with q thrown over it -/
def vx_W (p : Program) (l : Launch) (e : Env) (R : Room) (s : State) (m : MethodId) (args : Array Value) (below : List Frame) (meth : Method) (c : Code) (H : Heap) (locs : List Loc) (cells slots : Nat) (Q : State → Prop) (g : JFrame) (q : Addr) : Prop :=
  ∀ T : State, T.heap = H → Stand p l e R s m args below meth c T locs cells slots → ∃ t, Steps p.tables e below ((T.setTop g).pushFrame (.throwing q)) t ∧ Q t
def vx_Run (p : Program) (l : Launch) (e : Env) (R : Room) (s : State) (m : MethodId) (args : Array Value) (below : List Frame) (meth : Method) (c : Code) (H : Heap) (locs : List Loc) (cells slots mc ms : Nat) (g : JFrame) (rest : List Value) (Qa : State → Outcome → State → Prop) (XC : String → State → State → Prop) (free : Addr → Prop) : Prop :=
  ∀ T : State, T.heap = H → Stand p l e R s m args below meth c T locs cells slots →
    (∃ (v : Option Value) (st₀ t T' : State) (L : List Loc), st₀.heap = H ∧ Stand p l e R s m args below meth c T' (locs ++ L) (cells + mc) (slots + ms) ∧ (∀ q ∈ L, free q.base) ∧ T'.heap = t.heap ∧ T'.vm = t.vm ∧ Qa st₀ (.returned v) t ∧
      Goes p e below T g T' { g with pc := g.pc + 3, stack := v.toList ++ rest }) ∨
    (∃ (q : Addr) (st₀ t T' : State) (L : List Loc) (E : String) (ce : Cell), st₀.heap = H ∧ Stand p l e R s m args below meth c T' (locs ++ L) (cells + mc) (slots + ms) ∧ (∀ z ∈ L, free z.base) ∧ T'.heap = t.heap ∧ T'.vm = t.vm ∧ XC E st₀ t ∧ t.heap[q]? = some ce ∧ ce.vm = .none ∧ s.vm.findClass E = some ce.cls ∧
      Steps p.tables e below (T.setTop g) ((T'.setTop { g with stack := rest }).pushFrame (.throwing q)))
def vx_X {S : Type} (px : S → Prop) (B : String → S → State → Prop) (A : Nat → Prop) : String → State → State → Prop := fun E st t => ∃ u : S, px u ∧ B E u t ∧ va_F A st t
section Runs
variable {p : Program} {l : Launch} {e : Env} {R : Room} {s : State} {m : MethodId} {args : Array Value} {below : List Frame} {meth : Method} {c : Code} {H : Heap} {locs : List Loc} {cells slots : Nat}
variable {y : MethodName} {bytes cc : ByteArray} {maxL nL mc ms n index : Nat} {ret : Option FieldType} {ws : List Cond} {rm : Room} {Pc : Array Value → State → Prop} {Qc : Array Value → State → Outcome → State → Prop} {XC : String → State → State → Prop} {free : Addr → Prop} {Ts : List Cond} {own C : String} {b : Addr} {As rest : List Value} {g : JFrame}
theorem vx_callBack (cb : CallB R s args own index y bytes maxL ret ws rm mc ms n) (hM : vx_Met l y ws rm Pc Qc XC mc ms free) (hbl : FrameBlind Pc) : vx_Back l R p e below s args y 3 8 (PreOf R mc ms Pc) (PostOf Qc mc ms free) (vx_Post XC mc ms free) := by
  obtain ⟨hrc, hrs, hfr, hlo, hws, hcw, -, hini, -⟩ := cb
  exact vx_back (bytes := bytes) (maxL := maxL) (ret := ret) hM hbl hrc hrs hfr hlo hws hcw (fun a' U hW => word_at hW (Or.inl (by first | rfl | simp [Cond.onTables, Cond.keeps, Cond.steady])) hini)
theorem vx_runV (S : CallFix p m c cc nL s args Ts own) (hM : vx_Met l y ws rm Pc Qc XC mc ms free) (cw : CallW R s args own C index y bytes maxL ret ws rm mc ms n) (hp : PreV s H C b Pc As)
    (hg : g.method = m) (hn : As.length = n) (hsize : g.locals.size = nL) (hstack : g.stack = As.reverse ++ .ref b :: rest) (hW : 2 * g.monitorRoom + (rest.map fun v => v.category).sum ≤ 8) (hdg : decode cc g.pc = .ok (.invokevirtual index, 3)) (hf : cells + mc ≤ R.cells ∧ slots + ms ≤ R.slots) :
    vx_Run p l e R s m args below meth c H locs cells slots mc ms g rest (Qc (Value.ref b :: As).toArray) XC free := by
  have hK : vx_Back l R p e below s args y 3 8 (PreOf R mc ms Pc) (PostOf Qc mc ms free) (vx_Post XC mc ms free) := vx_callBack cw.1 hM hp.1
  obtain ⟨⟨-, -, -, -, -, -, hcode, -, hy, hlen, hl⟩, hin, hse⟩ := cw
  obtain ⟨hx, hb, hml, ho, -⟩ := S
  obtain ⟨-, ⟨cellB, hcB, hoB, hclB⟩, hPc⟩ := hp
  intro T hT X
  rcases vx_callV X hx (C := C) (bytes := bytes) (maxL := maxL) (ret := ret) ho hl hin hse hcode hy hK (by rw [hT]; exact hcB) hoB hclB hg (hsize.trans hml.symm) (argsL := As) (rest := rest) (fun sig h => hn.trans (hlen sig h)) hstack hW (by rw [hb]; exact hdg)
    (fun vm₁ hW₁ => ⟨hf.1, hf.2, hPc (T.setVm vm₁) hT hW₁⟩) with ⟨v, vm₁, ⟨U', l2, c2, s2⟩, hW₁, X', ⟨g', mk, t, L, e1, e2, hq, h1, hL, h2, h3⟩, st⟩ | ⟨q, vm₁, ⟨U', l2, c2, s2⟩, hW₁, X', ⟨g', mk, t, L, E, ce, e1, e2, hq, hce, hcv, hcl, h1, hL, h2, h3⟩, st⟩
  · dsimp only [Pt.U, Pt.locs, Pt.cells, Pt.slots] at X' e1 e2 h1 h2 h3 st
    subst h1; subst h2; subst h3
    exact Or.inl ⟨v, (T.setVm vm₁).calling g' mk (Value.ref b :: As).toArray, t, U', L, hT, X', hL, e1, e2, hq, st⟩
  · dsimp only [Pt.U, Pt.locs, Pt.cells, Pt.slots] at X' e1 e2 h1 h2 h3 st hcl
    subst h1; subst h2; subst h3
    exact Or.inr ⟨q, (T.setVm vm₁).calling g' mk (Value.ref b :: As).toArray, t, U', L, E, ce, hT, X', hL, e1, e2, hq, hce, hcv, vx_cls hW₁ hcl, st⟩
theorem vx_runS (S : CallFix p m c cc nL s args Ts own) (hM : vx_Met l y ws rm Pc Qc XC mc ms free) (cw : CallB R s args own index y bytes maxL ret ws rm mc ms n ∧ (Cond.static y).before args s = true) (hp : PreS s H Pc As)
    (hg : g.method = m) (hn : As.length = n) (hsize : g.locals.size = nL) (hstack : g.stack = As.reverse ++ rest) (hW : 2 * g.monitorRoom + (rest.map fun v => v.category).sum ≤ 8) (hdg : decode cc g.pc = .ok (.invokestatic index, 3)) (hf : cells + mc ≤ R.cells ∧ slots + ms ≤ R.slots) :
    vx_Run p l e R s m args below meth c H locs cells slots mc ms g rest (Qc As.toArray) XC free := by
  have hK : vx_Back l R p e below s args y 3 8 (PreOf R mc ms Pc) (PostOf Qc mc ms free) (vx_Post XC mc ms free) := vx_callBack cw.1 hM hp.1
  obtain ⟨⟨-, -, -, -, -, -, hcode, hini, hy, hlen, hl⟩, hstt⟩ := cw
  obtain ⟨hx, hb, hml, ho, -⟩ := S
  intro T hT X
  rcases vx_callS X hx (bytes := bytes) (maxL := maxL) (ret := ret) ho hl hstt hini hcode hy hK hg (hsize.trans hml.symm) (argsL := As) (rest := rest) (fun sig h => hn.trans (hlen sig h)) hstack hW (by rw [hb]; exact hdg)
    (fun vm₁ hW₁ => ⟨hf.1, hf.2, hp.2 (T.setVm vm₁) hT hW₁⟩) with ⟨v, vm₁, ⟨U', l2, c2, s2⟩, hW₁, X', ⟨g', mk, t, L, e1, e2, hq, h1, hL, h2, h3⟩, st⟩ | ⟨q, vm₁, ⟨U', l2, c2, s2⟩, hW₁, X', ⟨g', mk, t, L, E, ce, e1, e2, hq, hce, hcv, hcl, h1, hL, h2, h3⟩, st⟩
  · dsimp only [Pt.U, Pt.locs, Pt.cells, Pt.slots] at X' e1 e2 h1 h2 h3 st
    subst h1; subst h2; subst h3
    exact Or.inl ⟨v, (T.setVm vm₁).calling g' mk As.toArray, t, U', L, hT, X', hL, e1, e2, hq, st⟩
  · dsimp only [Pt.U, Pt.locs, Pt.cells, Pt.slots] at X' e1 e2 h1 h2 h3 st hcl
    subst h1; subst h2; subst h3
    exact Or.inr ⟨q, (T.setVm vm₁).calling g' mk As.toArray, t, U', L, E, ce, hT, X', hL, e1, e2, hq, hce, hcv, vx_cls hW₁ hcl, st⟩
end Runs
section Rows
variable {p : Program} {l : Launch} {e : Env} {R : Room} {s : State} {m : MethodId} {args : Array Value} {below : List Frame} {meth : Method} {c : Code} {H : Heap} {locs : List Loc} {cells slots : Nat} {Q : State → Prop}
variable {mc ms : Nat} {free : Addr → Prop} {A0 A1 : Nat → Prop} {H0 : Heap} {a : Array Value} {pc : Nat} {ls : Array Slot} {st0 rest : List Value}
theorem vx_keep {st₀ t T' : State} {L : List Loc} (h0 : st₀.heap = H) (e1 : T'.heap = t.heap) (hS : va_S A0 H0 H locs) (hA : ∀ q, q < H.size → A1 q → A0 q) (hf : ∀ q, free q → A0 q) (hL : ∀ q ∈ L, free q.base) (hF : va_F A1 st₀ t) :
    H.size ≤ T'.heap.size ∧ (∀ q : Nat, q < H.size → ¬ A1 q → T'.heap[q]? = H[q]?) ∧ va_S A0 H0 T'.heap (locs ++ L) := by
  obtain ⟨hz, hk⟩ := hF
  rw [h0] at hz hk
  exact ⟨by rw [e1]; exact hz, fun q h1 h2 => by rw [e1]; exact hk q h1 h2,
    ⟨Nat.le_trans hS.1 (by rw [e1]; exact hz), fun q h1 h2 => by rw [e1, hk q (Nat.lt_of_lt_of_le h1 hS.1) (fun z => h2 (hA q (Nat.lt_of_lt_of_le h1 hS.1) z))]; exact hS.2.1 q h1 h2, fun q hq => by
      rcases List.mem_append.mp hq with h | h
      · exact hS.2.2 q h
      · exact hf _ (hL q h)⟩⟩
theorem vx_calli {S SX : Type} {post : Int32 → S → Prop} {px : SX → Prop} {B : S → State → Prop} {BX : String → SX → State → Prop} {AX : Nat → Prop} (hr : vx_Run p l e R s m args below meth c H locs cells slots mc ms (F0 m pc ls st0) rest (va_Qi post B A1 a) (vx_X px BX AX) free) (hS : va_S A0 H0 H locs) (hA : ∀ q, q < H.size → A1 q → A0 q) (hf : ∀ q, free q → A0 q) (hAX : ∀ q, q < H.size → AX q → A0 q)
    (kx : ∀ (E : String) (ce : Cell) (q9 : Addr) (u : SX) (t : State) (H1 : Heap) (locs1 : List Loc), t.heap = H1 → s.vm.Alike t.vm → px u → BX E u t → H.size ≤ H1.size → (∀ q : Nat, q < H.size → ¬ AX q → H1[q]? = H[q]?) → va_S A0 H0 H1 locs1 → H1[q9]? = some ce → ce.vm = .none → s.vm.findClass E = some ce.cls → vx_W p l e R s m args below meth c H1 locs1 (cells + mc) (slots + ms) Q (F0 m pc ls rest) q9)
    (kk : ∀ (r : Int32) (u : S) (t : State) (H1 : Heap) (locs1 : List Loc), t.heap = H1 → s.vm.Alike t.vm → post r u → B u t → H.size ≤ H1.size → (∀ q : Nat, q < H.size → ¬ A1 q → H1[q]? = H[q]?) → va_S A0 H0 H1 locs1 → W p l e R s m args below meth c H1 locs1 (cells + mc) (slots + ms) Q (F0 m (pc + 3) ls (.int r :: rest))) : W p l e R s m args below meth c H locs cells slots Q (F0 m pc ls st0) := by
  intro T hT X
  rcases hr T hT X with ⟨v, st₀, t, T', L, h0, X', hL, e1, e2, ⟨⟨r, u, hv, hp, hb⟩, hF⟩, st⟩ | ⟨q, st₀, t, T', L, E, ce, h0, X', hL, e1, e2, ⟨u, hp, hb, hF⟩, hce, hcv, hcl, st⟩
  · cases hv
    obtain ⟨k1, k2, k3⟩ := vx_keep h0 e1 hS hA hf hL hF
    obtain ⟨t2, a1, b1⟩ := kk r u t T'.heap (locs ++ L) e1.symm (by rw [← e2]; exact X'.warmed.alike) hp hb k1 k2 k3 T' rfl X'
    exact ⟨t2, st t2 a1, b1⟩
  · obtain ⟨k1, k2, k3⟩ := vx_keep h0 e1 hS hAX hf hL hF
    obtain ⟨t2, a1, b1⟩ := kx E ce q u t T'.heap (locs ++ L) e1.symm (by rw [← e2]; exact X'.warmed.alike) hp hb k1 k2 k3 (by rw [e1]; exact hce) hcv hcl T' rfl X'
    exact ⟨t2, st.trans a1, b1⟩
theorem vx_calll {S SX : Type} {post : Int64 → S → Prop} {px : SX → Prop} {B : S → State → Prop} {BX : String → SX → State → Prop} {AX : Nat → Prop} (hr : vx_Run p l e R s m args below meth c H locs cells slots mc ms (F0 m pc ls st0) rest (va_Ql post B A1 a) (vx_X px BX AX) free) (hS : va_S A0 H0 H locs) (hA : ∀ q, q < H.size → A1 q → A0 q) (hf : ∀ q, free q → A0 q) (hAX : ∀ q, q < H.size → AX q → A0 q)
    (kx : ∀ (E : String) (ce : Cell) (q9 : Addr) (u : SX) (t : State) (H1 : Heap) (locs1 : List Loc), t.heap = H1 → s.vm.Alike t.vm → px u → BX E u t → H.size ≤ H1.size → (∀ q : Nat, q < H.size → ¬ AX q → H1[q]? = H[q]?) → va_S A0 H0 H1 locs1 → H1[q9]? = some ce → ce.vm = .none → s.vm.findClass E = some ce.cls → vx_W p l e R s m args below meth c H1 locs1 (cells + mc) (slots + ms) Q (F0 m pc ls rest) q9)
    (kk : ∀ (r : Int64) (u : S) (t : State) (H1 : Heap) (locs1 : List Loc), t.heap = H1 → s.vm.Alike t.vm → post r u → B u t → H.size ≤ H1.size → (∀ q : Nat, q < H.size → ¬ A1 q → H1[q]? = H[q]?) → va_S A0 H0 H1 locs1 → W p l e R s m args below meth c H1 locs1 (cells + mc) (slots + ms) Q (F0 m (pc + 3) ls (.long r :: rest))) : W p l e R s m args below meth c H locs cells slots Q (F0 m pc ls st0) := by
  intro T hT X
  rcases hr T hT X with ⟨v, st₀, t, T', L, h0, X', hL, e1, e2, ⟨⟨r, u, hv, hp, hb⟩, hF⟩, st⟩ | ⟨q, st₀, t, T', L, E, ce, h0, X', hL, e1, e2, ⟨u, hp, hb, hF⟩, hce, hcv, hcl, st⟩
  · cases hv
    obtain ⟨k1, k2, k3⟩ := vx_keep h0 e1 hS hA hf hL hF
    obtain ⟨t2, a1, b1⟩ := kk r u t T'.heap (locs ++ L) e1.symm (by rw [← e2]; exact X'.warmed.alike) hp hb k1 k2 k3 T' rfl X'
    exact ⟨t2, st t2 a1, b1⟩
  · obtain ⟨k1, k2, k3⟩ := vx_keep h0 e1 hS hAX hf hL hF
    obtain ⟨t2, a1, b1⟩ := kx E ce q u t T'.heap (locs ++ L) e1.symm (by rw [← e2]; exact X'.warmed.alike) hp hb k1 k2 k3 (by rw [e1]; exact hce) hcv hcl T' rfl X'
    exact ⟨t2, st.trans a1, b1⟩
theorem vx_callf {S SX : Type} {post : UInt32 → S → Prop} {px : SX → Prop} {B : S → State → Prop} {BX : String → SX → State → Prop} {AX : Nat → Prop} (hr : vx_Run p l e R s m args below meth c H locs cells slots mc ms (F0 m pc ls st0) rest (va_Qf post B A1 a) (vx_X px BX AX) free) (hS : va_S A0 H0 H locs) (hA : ∀ q, q < H.size → A1 q → A0 q) (hf : ∀ q, free q → A0 q) (hAX : ∀ q, q < H.size → AX q → A0 q)
    (kx : ∀ (E : String) (ce : Cell) (q9 : Addr) (u : SX) (t : State) (H1 : Heap) (locs1 : List Loc), t.heap = H1 → s.vm.Alike t.vm → px u → BX E u t → H.size ≤ H1.size → (∀ q : Nat, q < H.size → ¬ AX q → H1[q]? = H[q]?) → va_S A0 H0 H1 locs1 → H1[q9]? = some ce → ce.vm = .none → s.vm.findClass E = some ce.cls → vx_W p l e R s m args below meth c H1 locs1 (cells + mc) (slots + ms) Q (F0 m pc ls rest) q9)
    (kk : ∀ (r : UInt32) (u : S) (t : State) (H1 : Heap) (locs1 : List Loc), t.heap = H1 → s.vm.Alike t.vm → post r u → B u t → H.size ≤ H1.size → (∀ q : Nat, q < H.size → ¬ A1 q → H1[q]? = H[q]?) → va_S A0 H0 H1 locs1 → W p l e R s m args below meth c H1 locs1 (cells + mc) (slots + ms) Q (F0 m (pc + 3) ls (.float r :: rest))) : W p l e R s m args below meth c H locs cells slots Q (F0 m pc ls st0) := by
  intro T hT X
  rcases hr T hT X with ⟨v, st₀, t, T', L, h0, X', hL, e1, e2, ⟨⟨r, u, hv, hp, hb⟩, hF⟩, st⟩ | ⟨q, st₀, t, T', L, E, ce, h0, X', hL, e1, e2, ⟨u, hp, hb, hF⟩, hce, hcv, hcl, st⟩
  · cases hv
    obtain ⟨k1, k2, k3⟩ := vx_keep h0 e1 hS hA hf hL hF
    obtain ⟨t2, a1, b1⟩ := kk r u t T'.heap (locs ++ L) e1.symm (by rw [← e2]; exact X'.warmed.alike) hp hb k1 k2 k3 T' rfl X'
    exact ⟨t2, st t2 a1, b1⟩
  · obtain ⟨k1, k2, k3⟩ := vx_keep h0 e1 hS hAX hf hL hF
    obtain ⟨t2, a1, b1⟩ := kx E ce q u t T'.heap (locs ++ L) e1.symm (by rw [← e2]; exact X'.warmed.alike) hp hb k1 k2 k3 (by rw [e1]; exact hce) hcv hcl T' rfl X'
    exact ⟨t2, st.trans a1, b1⟩
theorem vx_calld {S SX : Type} {post : UInt64 → S → Prop} {px : SX → Prop} {B : S → State → Prop} {BX : String → SX → State → Prop} {AX : Nat → Prop} (hr : vx_Run p l e R s m args below meth c H locs cells slots mc ms (F0 m pc ls st0) rest (va_Qd post B A1 a) (vx_X px BX AX) free) (hS : va_S A0 H0 H locs) (hA : ∀ q, q < H.size → A1 q → A0 q) (hf : ∀ q, free q → A0 q) (hAX : ∀ q, q < H.size → AX q → A0 q)
    (kx : ∀ (E : String) (ce : Cell) (q9 : Addr) (u : SX) (t : State) (H1 : Heap) (locs1 : List Loc), t.heap = H1 → s.vm.Alike t.vm → px u → BX E u t → H.size ≤ H1.size → (∀ q : Nat, q < H.size → ¬ AX q → H1[q]? = H[q]?) → va_S A0 H0 H1 locs1 → H1[q9]? = some ce → ce.vm = .none → s.vm.findClass E = some ce.cls → vx_W p l e R s m args below meth c H1 locs1 (cells + mc) (slots + ms) Q (F0 m pc ls rest) q9)
    (kk : ∀ (r : UInt64) (u : S) (t : State) (H1 : Heap) (locs1 : List Loc), t.heap = H1 → s.vm.Alike t.vm → post r u → B u t → H.size ≤ H1.size → (∀ q : Nat, q < H.size → ¬ A1 q → H1[q]? = H[q]?) → va_S A0 H0 H1 locs1 → W p l e R s m args below meth c H1 locs1 (cells + mc) (slots + ms) Q (F0 m (pc + 3) ls (.double r :: rest))) : W p l e R s m args below meth c H locs cells slots Q (F0 m pc ls st0) := by
  intro T hT X
  rcases hr T hT X with ⟨v, st₀, t, T', L, h0, X', hL, e1, e2, ⟨⟨r, u, hv, hp, hb⟩, hF⟩, st⟩ | ⟨q, st₀, t, T', L, E, ce, h0, X', hL, e1, e2, ⟨u, hp, hb, hF⟩, hce, hcv, hcl, st⟩
  · cases hv
    obtain ⟨k1, k2, k3⟩ := vx_keep h0 e1 hS hA hf hL hF
    obtain ⟨t2, a1, b1⟩ := kk r u t T'.heap (locs ++ L) e1.symm (by rw [← e2]; exact X'.warmed.alike) hp hb k1 k2 k3 T' rfl X'
    exact ⟨t2, st t2 a1, b1⟩
  · obtain ⟨k1, k2, k3⟩ := vx_keep h0 e1 hS hAX hf hL hF
    obtain ⟨t2, a1, b1⟩ := kx E ce q u t T'.heap (locs ++ L) e1.symm (by rw [← e2]; exact X'.warmed.alike) hp hb k1 k2 k3 (by rw [e1]; exact hce) hcv hcl T' rfl X'
    exact ⟨t2, st.trans a1, b1⟩
theorem vx_callv {S SX : Type} {post : S → Prop} {px : SX → Prop} {B : S → State → Prop} {BX : String → SX → State → Prop} {AX : Nat → Prop} (hr : vx_Run p l e R s m args below meth c H locs cells slots mc ms (F0 m pc ls st0) rest (va_Qv post B A1 a) (vx_X px BX AX) free) (hS : va_S A0 H0 H locs) (hA : ∀ q, q < H.size → A1 q → A0 q) (hf : ∀ q, free q → A0 q) (hAX : ∀ q, q < H.size → AX q → A0 q)
    (kx : ∀ (E : String) (ce : Cell) (q9 : Addr) (u : SX) (t : State) (H1 : Heap) (locs1 : List Loc), t.heap = H1 → s.vm.Alike t.vm → px u → BX E u t → H.size ≤ H1.size → (∀ q : Nat, q < H.size → ¬ AX q → H1[q]? = H[q]?) → va_S A0 H0 H1 locs1 → H1[q9]? = some ce → ce.vm = .none → s.vm.findClass E = some ce.cls → vx_W p l e R s m args below meth c H1 locs1 (cells + mc) (slots + ms) Q (F0 m pc ls rest) q9)
    (kk : ∀ (u : S) (t : State) (H1 : Heap) (locs1 : List Loc), t.heap = H1 → s.vm.Alike t.vm → post u → B u t → H.size ≤ H1.size → (∀ q : Nat, q < H.size → ¬ A1 q → H1[q]? = H[q]?) → va_S A0 H0 H1 locs1 → W p l e R s m args below meth c H1 locs1 (cells + mc) (slots + ms) Q (F0 m (pc + 3) ls (rest))) : W p l e R s m args below meth c H locs cells slots Q (F0 m pc ls st0) := by
  intro T hT X
  rcases hr T hT X with ⟨v, st₀, t, T', L, h0, X', hL, e1, e2, ⟨⟨u, hv, hp, hb⟩, hF⟩, st⟩ | ⟨q, st₀, t, T', L, E, ce, h0, X', hL, e1, e2, ⟨u, hp, hb, hF⟩, hce, hcv, hcl, st⟩
  · cases hv
    obtain ⟨k1, k2, k3⟩ := vx_keep h0 e1 hS hA hf hL hF
    obtain ⟨t2, a1, b1⟩ := kk u t T'.heap (locs ++ L) e1.symm (by rw [← e2]; exact X'.warmed.alike) hp hb k1 k2 k3 T' rfl X'
    exact ⟨t2, st t2 a1, b1⟩
  · obtain ⟨k1, k2, k3⟩ := vx_keep h0 e1 hS hAX hf hL hF
    obtain ⟨t2, a1, b1⟩ := kx E ce q u t T'.heap (locs ++ L) e1.symm (by rw [← e2]; exact X'.warmed.alike) hp hb k1 k2 k3 (by rw [e1]; exact hce) hcv hcl T' rfl X'
    exact ⟨t2, st.trans a1, b1⟩
/-- caught by the row x of this method's table; the rows ahead don't take it -/
theorem vx_catch {own name : String} {E : String} {ce : Cell} {q : Addr} (hown : s.vm.findClass own = some m.cls) (pre : List ExceptionTableEntry) (x : ExceptionTableEntry) (suf : List ExceptionTableEntry) (hsplit : c.exceptionTable.toList = pre ++ x :: suf)
    (hpass : ∀ z ∈ pre, covers z pc = false ∨ (z.catchType ≠ 0 ∧ ∃ nm : String, (Cond.classLink own z.catchType nm).before args s = true ∧ va_Nc E nm s)) (hx : covers x pc = true) (h0 : x.catchType ≠ 0)
    (hlink : (Cond.classLink own x.catchType name).before args s = true) (hcast : (Cond.castable E name).before args s = true) (hcell : H[q]? = some ce) (hv : ce.vm = .none) (hcl : s.vm.findClass E = some ce.cls)
    (kk : W p l e R s m args below meth c H locs cells slots Q (F0 m x.handlerPc ls [.ref q])) : vx_W p l e R s m args below meth c H locs cells slots Q (F0 m pc ls rest) q := by
  intro T hT X
  have hpl : e.platform.magicAccessors = ({} : Platform).magicAccessors := by rw [X.admits.platform]
  obtain ⟨c3, c4, hc3, hc4, hasg⟩ := Cond.castable_spec hcast
  cases Option.some.inj (hc3.symm.trans hcl)
  obtain ⟨c5, hc5, hcl5⟩ := Cond.classLink_spec hown hlink e.platform hpl
  cases Option.some.inj (hc4.symm.trans hc5)
  obtain ⟨vm', X', st⟩ := X.thenCaughtThrough q (g := F0 m pc ls rest) rfl (Steps.refl _) (by rw [hT]; exact hcell) (by rw [hv]; rfl) (by obtain ⟨k9, h9, -⟩ := Vm.findClass_spec hcl; exact ⟨k9, h9⟩) pre x suf hsplit
    (fun z hz => by
      rcases hpass z hz with h | ⟨hz0, nm, hl1, hn1⟩
      · exact Or.inl h
      · obtain ⟨c6, hc6, hcl6⟩ := Cond.classLink_spec hown hl1 e.platform hpl
        obtain ⟨a8, b8, h1, h2, h3⟩ := hn1
        cases Option.some.inj (h1.symm.trans hcl)
        cases Option.some.inj (h2.symm.trans hc6)
        exact Or.inr ⟨hz0, _, hcl6, h3⟩) hx (Or.inr ⟨h0, c4, hcl5, hasg⟩)
  obtain ⟨t, a1, b1⟩ := kk (T.setVm vm') hT X'
  exact ⟨t, st.trans a1, b1⟩
end Rows
section Ends
variable {p : Program} {l : Launch} {e : Env} {R : Room} {s : State} {m : MethodId} {args : Array Value} {below : List Frame} {meth : Method} {c : Code} {H : Heap} {locs : List Loc} {cells slots : Nat} {Q : State → Prop}
variable {mc ms : Nat} {free : Addr → Prop} {A0 A1 : Nat → Prop} {H0 : Heap} {a : Array Value} {ls : Array Slot} {st0 rest : List Value}
variable {Qc : Array Value → State → Outcome → State → Prop} {XC : String → State → State → Prop}
/-- what a body that may throw owes at its end -/
def vx_MQ (below : List Frame) (Qc : Array Value → State → Outcome → State → Prop) (XC : String → State → State → Prop) (a : Array Value) (s : State) (mc ms : Nat) (free : Addr → Prop) : State → Prop := fun t =>
  ∃ o, t.status = .running ∧ Ended t below o ∧ vx_Q Qc XC mc ms free a s o t
theorem vx_ret {g : JFrame} {mc ms : Nat} (k : W p l e R s m args below meth c H locs cells slots (MQ below Qc args s mc ms free) g) : W p l e R s m args below meth c H locs cells slots (vx_MQ below Qc XC args s mc ms free) g := by
  intro T hT X
  obtain ⟨t, a1, o, b1, b2, b3, b4⟩ := k T hT X
  exact ⟨t, a1, o, b1, b2, Or.inl ⟨b3, b4⟩⟩
/-- not caught here: it goes on to the caller -/
theorem vx_widen {g : JFrame} {q : Addr} {k n : Nat} (h1 : cells ≤ k) (h2 : slots ≤ n) (kk : vx_W p l e R s m args below meth c H locs k n Q g q) : vx_W p l e R s m args below meth c H locs cells slots Q g q := fun T hT X => kk T hT (stand_widen X h1 h2)
theorem vx_out {pc : Nat} {E : String} {ce : Cell} {q : Addr} {mc ms : Nat} (hout : ∀ x ∈ c.exceptionTable.toList, covers x pc = false) (hlocks : meth.locks = false) (hcell : H[q]? = some ce) (hv : ce.vm = .none) (hcl : s.vm.findClass E = some ce.cls)
    (hx : ∀ t : State, t.heap = H → s.vm.Alike t.vm → XC E s t) (hf : ∀ z ∈ locs, free z.base) (hc : cells ≤ mc) (hs : slots ≤ ms) :
    vx_W p l e R s m args below meth c H locs cells slots (vx_MQ below Qc XC args s mc ms free) (F0 m pc ls rest) q := by
  intro T hT X
  obtain ⟨st1, hrun, hend, hW, hsm⟩ := X.leaveThrown q (g := F0 m pc ls rest) rfl rfl rfl hout hlocks
  have hcell9 : (T.setFrames (.throwing q :: below)).heap[q]? = some ce := by
    show T.heap[q]? = some ce
    rw [hT]; exact hcell
  exact ⟨_, st1, .threw q, hrun, hend, Or.inr ⟨q, rfl, E, ce, locs, hx _ hT hW.alike, hcell9, hv, hcl, hW, hsm.mono hc hs, hf⟩⟩
theorem vx_frame {U : State} {k n : Nat} (h : s.sameButNew ({ U with vm := s.vm } : State) locs k n) : s.heap.size ≤ U.heap.size ∧ ∀ q : Nat, q < s.heap.size → (∀ z ∈ locs, z.base ≠ q) → U.heap[q]? = s.heap[q]? := by
  obtain ⟨-, h2, -, -, -, h6⟩ := h
  refine ⟨h2, fun q hq hz => ?_⟩
  obtain ⟨c9, e1, e2, e3, e4⟩ := h6 q _ (Array.getElem?_eq_getElem hq)
  have hs : c9.slots = (s.heap[q]).slots := Array.ext_getElem? fun i => e4 i fun hm => hz _ hm rfl
  have h9 : c9 = s.heap[q] := by
    rw [hs] at e2
    exact e2
  have e5 : U.heap[q]? = some c9 := e1
  rw [e5, h9, Array.getElem?_eq_getElem hq]
/-- the words of a throw but the four that speak of the heap -/
def vx_no (w : Cond) : Bool := decide (w ≠ .isRef (.static Bundle.tN "UNASSIGNED_STACK" Bundle.steD)) && decide (w ≠ .isRef (.static Bundle.tN "SUPPRESSED_SENTINEL" Bundle.listD)) && decide (w ≠ .laysStatic Bundle.tN "UNASSIGNED_STACK" Bundle.steD) && decide (w ≠ .laysStatic Bundle.tN "SUPPRESSED_SENTINEL" Bundle.listD)
def vx_at0 (own : String) (ic : Nat) (X : String) (names : List String) : List Cond := (Bundle.ownAtoms0 own ic X names).filter vx_no
def vx_atS (own : String) (ic : Nat) (X : String) (names : List String) : List Cond := (Bundle.ownAtoms own ic X names).filter vx_no
/-- a word that the tables alone decide, or a good one -/
def vx_ot (w : Cond) : Bool := w.onTables || goodWord w
theorem vx_ot_at {args a' : Array Value} {s U : State} {w : Cond} (hW : s.WarmedH U.vm) (hvm : s.vm = U.vm) (hg : vx_ot w = true) (h : w.before args s = true) : w.before a' U = true := by
  simp only [vx_ot, Bool.or_eq_true] at hg
  rcases hg with hg | hg
  · exact va_tabs hg hvm h
  · exact word_at hW (good_of_word hg) h
/-- a list's words: the good ones out of the method's own list, the others by premises of their own -/
theorem vx_hat {args : Array Value} {s : State} {L B : List Cond} (h1 : ∀ w ∈ L.filter goodWord, w.before args s = true) (h2 : ∀ w ∈ L.filter (fun w => !goodWord w), w ∈ B) (h3 : ∀ w ∈ B, w.before args s = true) : ∀ w ∈ L, w.before args s = true := by
  intro w hw
  by_cases g : goodWord w = true
  · exact h1 w (List.mem_filter.mpr ⟨hw, g⟩)
  · refine h3 w (h2 w (List.mem_filter.mpr ⟨hw, ?_⟩))
    show (!goodWord w) = true
    cases hgw : goodWord w
    · rfl
    · exact absurd hgw g
theorem vx_c {args : Array Value} {s : State} {w : Cond} {B : List Cond} (h : w.before args s = true) (t : ∀ w ∈ B, w.before args s = true) : ∀ w' ∈ w :: B, w'.before args s = true := fun w' h' => (List.mem_cons.mp h').elim (fun e => by rw [e]; exact h) (t w')
theorem vx_n {args : Array Value} {s : State} : ∀ w ∈ ([] : List Cond), w.before args s = true := fun _ h => nomatch h
theorem vx_own {args : Array Value} {s : State} {L : List Cond} (h1 : ∀ w ∈ L.filter vx_no, w.before args s = true)
    (hU : (Cond.isRef (.static Bundle.tN "UNASSIGNED_STACK" Bundle.steD)).before args s = true) (hN : (Cond.isRef (.static Bundle.tN "SUPPRESSED_SENTINEL" Bundle.listD)).before args s = true)
    (lU : (Cond.laysStatic Bundle.tN "UNASSIGNED_STACK" Bundle.steD).before args s = true) (lN : (Cond.laysStatic Bundle.tN "SUPPRESSED_SENTINEL" Bundle.listD).before args s = true) : ∀ w ∈ L, w.before args s = true := by
  intro w hw
  by_cases e1 : w = .isRef (.static Bundle.tN "UNASSIGNED_STACK" Bundle.steD)
  · rw [e1]; exact hU
  · by_cases e2 : w = .isRef (.static Bundle.tN "SUPPRESSED_SENTINEL" Bundle.listD)
    · rw [e2]; exact hN
    · by_cases e3 : w = .laysStatic Bundle.tN "UNASSIGNED_STACK" Bundle.steD
      · rw [e3]; exact lU
      · by_cases e4 : w = .laysStatic Bundle.tN "SUPPRESSED_SENTINEL" Bundle.listD
        · rw [e4]; exact lN
        · exact h1 w (List.mem_filter.mpr ⟨hw, by unfold vx_no; rw [decide_eq_true e1, decide_eq_true e2, decide_eq_true e3, decide_eq_true e4]; rfl⟩)
/-- where a static field lies, its class's statics cell in H -/
def vx_L (C n d : String) (A : Nat → Prop) (U : State) (H : Heap) : Prop := ∃ (c : ClassId) (k : Class) (i : Nat) (f : Field) (a : Nat) (cell : Cell), U.vm.findClass C = some c ∧ U.fieldFound? C n d = some (c, k, i, f) ∧ f.isStatic = true ∧ k.statics = some a ∧ H[a]? = some cell ∧ cell.vm.isStatics = true ∧ cell.cls = c ∧ f.slot < cell.slots.size ∧ k.staticTypes[f.slot]? = some f.type ∧ ¬ A a
theorem vx_L.moved {C n d : String} {A : Nat → Prop} {u U : State} {H : Heap} (hvm : u.vm.Alike U.vm) (h : vx_L C n d A u H) : vx_L C n d A U H := by
  obtain ⟨c, k, i, f, a, cell, h1, h2, h3, h4, h5, h6, h7, h8, h9, h10⟩ := h
  obtain ⟨k', hi', he⟩ := State.fieldFound?_setVm hvm h2
  exact ⟨c, k', i, f, a, cell, by rw [hvm.findClass]; exact h1, hi', h3, by rw [he]; exact h4, h5, h6, h7, h8, by rw [he]; exact h9, h10⟩
theorem vx_L.kept {C n d : String} {A : Nat → Prop} {U : State} {H H1 : Heap} (h : vx_L C n d A U H) (hq : ∀ a : Nat, a < H.size → ¬ A a → H1[a]? = H[a]?) : vx_L C n d A U H1 := by
  obtain ⟨c, k, i, f, a, cell, h1, h2, h3, h4, h5, h6, h7, h8, h9, h10⟩ := h
  exact ⟨c, k, i, f, a, cell, h1, h2, h3, h4, by rw [hq a (Array.getElem?_eq_some_iff.mp h5).1 h10]; exact h5, h6, h7, h8, h9, h10⟩
theorem vx_L.narrow {C n d : String} {A B : Nat → Prop} {U : State} {H : Heap} (h : vx_L C n d A U H) (hAB : ∀ q, B q → A q) : vx_L C n d B U H := by
  obtain ⟨c, k, i, f, a, cell, h1, h2, h3, h4, h5, h6, h7, h8, h9, h10⟩ := h
  exact ⟨c, k, i, f, a, cell, h1, h2, h3, h4, h5, h6, h7, h8, h9, fun z => h10 (hAB _ z)⟩
theorem vx_L.word {C n d : String} {A : Nat → Prop} {s : State} {args : Array Value} (h : vx_L C n d A s s.heap) : (Cond.laysStatic C n d).before args s = true := by
  obtain ⟨c, k, i, f, a, cell, h1, h2, h3, h4, h5, h6, h7, h8, h9, -⟩ := h
  show (Cond.laysStatic C n d).holds args s none s [] = true
  exact Cond.laysStatic_of h1 h2 h3 h4 h5 h6 h7 h8 h9
/-- .. and what it holds: null or some reference -/
def vx_Zq (C n d : String) (A : Nat → Prop) (U : State) (H : Heap) : Prop := va_Zq C n d A U H ∧ vx_L C n d A U H
theorem vx_Zq.moved {C n d : String} {A : Nat → Prop} {u U : State} {H : Heap} (hvm : u.vm.Alike U.vm) (h : vx_Zq C n d A u H) : vx_Zq C n d A U H := ⟨va_Zq.moved hvm h.1, vx_L.moved hvm h.2⟩
theorem vx_Zq.kept {C n d : String} {A : Nat → Prop} {U : State} {H H1 : Heap} (h : vx_Zq C n d A U H) (hq : ∀ a : Nat, a < H.size → ¬ A a → H1[a]? = H[a]?) : vx_Zq C n d A U H1 := ⟨va_Zq.kept h.1 hq, vx_L.kept h.2 hq⟩
theorem vx_Zq.narrow {C n d : String} {A B : Nat → Prop} {U : State} {H : Heap} (h : vx_Zq C n d A U H) (hAB : ∀ q, B q → A q) : vx_Zq C n d B U H := ⟨va_Zq.narrow h.1 hAB, vx_L.narrow h.2 hAB⟩
theorem vx_Zqof {args : Array Value} {s : State} {C n d : String} {A : Nat → Prop} (hl : (Cond.laysStatic C n d).before args s = true) (hini : (Cond.initialized C).before args s = true) (h : (Cond.isRef (.static C n d)).before args s = true) (hA : ∀ a : Nat, a < s.heap.size → ¬ A a) : vx_Zq C n d A s s.heap := by
  refine ⟨va_Zqof hl hini h hA, ?_⟩
  obtain ⟨c, k, i, f, a, cell, h1, h2, h3, h4, h5, h6, h7, h8, h9⟩ := Cond.laysStatic_spec hl
  exact ⟨c, k, i, f, a, cell, h1, h2, h3, h4, h5, h6, h7, h8, h9, hA a (Array.getElem?_eq_some_iff.mp h5).1⟩
theorem vx_isRef {C n d : String} {v : Value} {A : Nat → Prop} {s : State} {args : Array Value} (h : va_Z C n d v A s s.heap) (hv : v.isRef = true) : (Cond.isRef (.static C n d)).before args s = true := by
  obtain ⟨cf, kf, fi, f, a, cell, h1, h2, h3, h4, h5, h6, h7, -⟩ := h
  have he : (Term.static C n d).eval args s none [] s = some v := by
    simp [Term.eval, State.fieldNamed?, h1, h2, h4, h5, h6, h7]
  simp only [Cond.before, Cond.holds, Cond.value, he]
  cases v <;> simp_all [Value.isRef]
theorem vx_isRefq {C n d : String} {A : Nat → Prop} {s : State} {args : Array Value} (h : va_Zq C n d A s s.heap) : (Cond.isRef (.static C n d)).before args s = true := by
  rcases h with h | ⟨t, h⟩
  · exact vx_isRef h rfl
  · exact vx_isRef h rfl
/-- the same frame, seen from here: as if the method were called anew in this heap -/
theorem vx_rebase {T : State} (X : Stand p l e R s m args below meth c T locs cells slots) {R' : Room} (hf : R'.frames ≤ R.frames) (hl : R'.locals ≤ R.locals) (hc : cells + R'.cells ≤ R.cells) (hs : slots + R'.slots ≤ R.slots) :
    Stand p l e R' ((T.setVm s.vm).setFrames (.invoking m args :: below)) m args below meth c T [] 0 0 := by
  have htop : (T.setVm s.vm).topJava?.isSome := X.here.top
  have hF : ((T.setVm s.vm).setFrames (.invoking m args :: below)).frames = .invoking m args :: below := State.frames_setFrames _ (State.cur_lt_of_top htop)
  obtain ⟨g₀, hg0⟩ := Option.isSome_iff_exists.mp htop
  obtain ⟨r, hr⟩ := State.topJava?_eq_some.mp hg0
  have hl9 : e.platform.stackLimits (T.setVm s.vm).me = e.platform.stackLimits s.me := X.limits
  have hb9 : (T.setVm s.vm).me.stackBytes = s.me.stackBytes := X.bytes
  refine ⟨X.admits, X.cas, X.clock, hF, ?_, X.hears, X.method, X.code, X.here, X.tail, X.warmed, ?_, ?_, ?_⟩
  · have h := X.room
    have hU : ((T.setVm s.vm).setFrames (.invoking m args :: below)).localsInUse = s.localsInUse := by
      rw [State.localsInUse_invoking hF (meth := meth) (c := c) X.method X.code, State.localsInUse_invoking X.frames X.method X.code]
    simp only [State.hasRoom, Bool.and_eq_true, decide_eq_true_eq] at h ⊢
    obtain ⟨⟨⟨⟨h1, h2, h3, h4, h5, h6⟩, h7⟩, h8⟩, h9⟩ := h
    rw [X.frames, List.length_cons] at h2 h3
    have q1 := X.heapSize
    have q2 := X.used
    simp only [hF, hU, List.length_cons, State.stackLimits_setFrames, State.stackBytes_setFrames, hl9, hb9]
    refine ⟨⟨⟨⟨by omega, by omega, by omega, by omega, by omega, h6⟩, ?_⟩, ?_⟩, X.book⟩
    · show T.heap.size + R'.cells ≤ e.platform.maxCells
      omega
    · show T.slotsUsed + R'.slots ≤ e.platform.maxSlots
      omega
  · rw [State.stackLimits_setFrames]; rfl
  · rw [State.stackBytes_setFrames]; rfl
  · refine ⟨?_, Nat.le_refl _, Nat.le_refl _, ?_, ?_, fun a c9 h9 => ⟨c9, h9, rfl, rfl, fun _ _ => rfl⟩⟩
    · obtain ⟨t, ht, -⟩ := State.frames_cons hr
      show T.setVm s.vm = { ((T.setVm s.vm).setFrames (.invoking m args :: below)).setFrames (T.setVm s.vm).frames with heap := T.heap, slotsUsed := T.slotsUsed }
      rw [State.setFrames_setFrames, State.setFrames_self ht]
      rfl
    · show T.slotsUsed = T.slotsUsed + ((T.heap.toList.drop T.heap.size).map (·.slots.size)).sum
      rw [List.drop_eq_nil_of_le (Nat.le_of_eq Array.length_toList)]
      rfl
    · show ((T.heap.toList.drop T.heap.size).map (·.slots.size)).sum ≤ 0
      rw [List.drop_eq_nil_of_le (Nat.le_of_eq Array.length_toList)]
      exact Nat.le_refl _
/-- 'throw new E()': new; dup; invokespecial; athrow -/
theorem vx_throw0 {cc : ByteArray} {pc : Nat} (hexec : p.tables.exec = Jvm.exec) (hb : c.code = cc) (hl : l.stackTraces = false) {own cls : String} {names : List String} {ik ic mc ms : Nat} {A : Nat → Prop}
    (hown : s.vm.findClass own = some m.cls) (hcls : Bundle.fit cls = true) (hnames : ∀ n ∈ names, Bundle.fit n = true)
    (hk : (Cond.classLink own ik cls).before args s = true) (hini : (Cond.initialized cls).before args s = true) (hat : ∀ w ∈ vx_at0 own ic cls names, w.before args s = true)
    (hgood : ∀ w ∈ Cond.classLink own ik cls :: Cond.initialized cls :: vx_at0 own ic cls names, vx_ot w = true)
    (hU : vx_Zq Bundle.tN "UNASSIGNED_STACK" Bundle.steD A s s.heap) (hN : vx_Zq Bundle.tN "SUPPRESSED_SENTINEL" Bundle.listD A s s.heap) (hS : va_S A s.heap H locs) (hsize : ls.size = c.maxLocals)
    (d0 : decode cc pc = .ok (.new ik, 3)) (d3 : decode cc (pc + 3) = .ok (.dup, 1)) (d4 : decode cc (pc + 4) = .ok (.invokespecial ic, 3)) (d7 : decode cc (pc + 7) = .ok (.athrow, 1))
    (hout : ∀ x ∈ c.exceptionTable.toList, covers x (pc + 7) = false)
    (hRframes : names.length + 3 < R.frames) (hRlocals : (rest.map fun v => v.category).sum + (13 * (names.length + 1) + 42) ≤ R.locals) (hRcells : cells + 1 ≤ R.cells) (hRslots : slots + 6 ≤ R.slots) (hlocks : meth.locks = false)
    (hx : ∀ t : State, s.vm.Alike t.vm → H.size ≤ t.heap.size → (∀ q : Nat, q < H.size → t.heap[q]? = H[q]?) → XC cls s t)
    (hf : ∀ z ∈ locs, free z.base) (hc : cells + 1 ≤ mc) (hs : slots + 6 ≤ ms) :
    W p l e R s m args below meth c H locs cells slots (vx_MQ below Qc XC args s mc ms free) (F0 m pc ls rest) := by
  intro T hT X
  have htr : e.platform.stackTraces = false := (show e.platform.stackTraces = l.stackTraces by rw [X.admits.platform]).trans hl
  have Y := vx_rebase X (R' := { frames := R.frames, locals := R.locals, cells := 1, slots := 6 }) (Nat.le_refl _) (Nat.le_refl _) hRcells hRslots
  obtain ⟨s', hA⟩ : ∃ z, z = (T.setVm s.vm).setFrames (.invoking m args :: below) := ⟨_, rfl⟩
  rw [← hA] at Y
  have hvm : s'.vm = s.vm := by rw [hA]; rfl
  have hhp : s'.heap = H := by rw [hA]; exact hT
  have hW0 : s.WarmedH s'.vm := by rw [hvm]; exact State.WarmedH.refl s
  have hat' : ∀ w ∈ vx_at0 own ic cls names, w.before args s' = true := fun w hw => vx_ot_at hW0 hvm.symm (hgood w (List.mem_cons_of_mem _ (List.mem_cons_of_mem _ hw))) (hat w hw)
  have hk' : (Cond.classLink own ik cls).before args s' = true := vx_ot_at hW0 hvm.symm (hgood _ List.mem_cons_self) hk
  have hini' : (Cond.initialized cls).before args s' = true := vx_ot_at hW0 hvm.symm (hgood _ (List.mem_cons_of_mem _ List.mem_cons_self)) hini
  have hU' : vx_Zq Bundle.tN "UNASSIGNED_STACK" Bundle.steD A s' s'.heap := by rw [hhp]; exact vx_Zq.moved hW0.alike (hU.kept hS.2.1)
  have hN' : vx_Zq Bundle.tN "SUPPRESSED_SENTINEL" Bundle.listD A s' s'.heap := by rw [hhp]; exact vx_Zq.moved hW0.alike (hN.kept hS.2.1)
  have h : ∀ w ∈ Bundle.ownAtoms0 own ic cls names, w.before args s' = true := vx_own hat' (vx_isRefq hU'.1) (vx_isRefq hN'.1) hU'.2.word hN'.2.word
  have hown' : s'.vm.findClass own = some m.cls := by rw [hvm]; exact hown
  have hins : (Cond.instantiable cls 6).before args s' = true := h _ (by simp [Bundle.ownAtoms0])
  obtain ⟨vm₁, cX, kX, hfX, hkX, -, -, X₁, st1⟩ := Y.newCold hexec (own := own) (C := cls) (index := ik) (n := 6) hown' hk' hins hini'
    (g := F0 m pc ls rest) rfl (by rw [hb]; exact d0) (Nat.le_refl _) (Nat.le_refl _)
  generalize hT1 : (T.setVm vm₁).pushCell { cls := cX, slots := kX.instanceTypes.map defaultValue, vm := .none } = T1 at X₁ st1
  have hcat : (Value.ref T.heap.size).category = 1 := rfl
  have hcellA : T1.heap[T.heap.size]? = some (freshCell cX kX) := by rw [← hT1]; exact State.heap_pushCell_size _ _
  have d3' : decode c.code (pc + 3) = .ok (.dup, 1) := by rw [hb]; exact d3
  obtain ⟨U, hsteps, hrun, hend, hW, hsame, ce, hce, hO⟩ := X₁.ctorThrow0 hexec htr (own := own) (cls := cls) (names := names) (ic := ic) hown' hcls hnames h (fun x hx => nomatch hx) hfX hkX hcellA (by rw [hhp, hT]; exact Nat.le_refl _)
    (g := { method := m, pc := pc + 4, locals := ls, stack := .ref T.heap.size :: .ref T.heap.size :: rest, locked := none }) rfl hsize rfl rfl (rest := rest) rfl
    (by rw [hb]; exact d4) (by rw [hb]; exact d7) hout hRframes (by simp only [List.map_cons, List.sum_cons, hcat]; omega) hlocks
  obtain ⟨f1, f2⟩ := vx_frame hsame
  rw [hhp] at f1 f2
  have hWs : s.WarmedH U.vm := State.WarmedH.trans hW0 hW
  have hcl : s.vm.findClass cls = some ce.cls := by
    have h9 := hO.cls
    rw [hvm] at h9
    exact h9
  have hall : s.sameButNew ({ U with vm := s.vm } : State) locs mc ms := by
    subst hA
    obtain ⟨e1, e2⟩ := hsame
    rw [State.setFrames_setFrames] at e1
    have h2 : (T.setVm s.vm).sameButNew ({ U with vm := s.vm } : State) [] (0 + 1) (0 + 6) := ⟨e1, e2⟩
    have h3 := X.same.trans h2
    rw [List.append_nil] at h3
    exact h3.mono hc hs
  refine ⟨U, ?_, .threw T.heap.size, hrun, hend, Or.inr ⟨T.heap.size, rfl, cls, ce, locs, hx U hWs.alike f1 (fun q hq => f2 q hq (fun z hz => nomatch hz)), hce, hO.vm, hcl, hWs, hall, hf⟩⟩
  refine st1 _ ?_
  show Steps p.tables e below (T1.setTop { method := m, pc := pc + 3, locals := ls, stack := .ref T.heap.size :: rest, locked := none }) _
  jvm_step X₁.here [X₁.here.top, hexec, d3', Value.category]
  exact hsteps
/-- 'throw new E("text")': new; dup; ldc; invokespecial; athrow -/
theorem vx_throwS {cc : ByteArray} {pc : Nat} (hexec : p.tables.exec = Jvm.exec) (hb : c.code = cc) (hl : l.stackTraces = false) {own cls text : String} {names : List String} {ik is ic mc ms sa : Nat} {A : Nat → Prop}
    (hown : s.vm.findClass own = some m.cls) (hcls : Bundle.fit cls = true) (hnames : ∀ n ∈ names, Bundle.fit n = true)
    (hk : (Cond.classLink own ik cls).before args s = true) (hini : (Cond.initialized cls).before args s = true) (hstr : vk_R own is text sa s) (hat : ∀ w ∈ vx_atS own ic cls names, w.before args s = true)
    (hgood : ∀ w ∈ Cond.classLink own ik cls :: Cond.initialized cls :: vx_atS own ic cls names, vx_ot w = true)
    (hU : vx_Zq Bundle.tN "UNASSIGNED_STACK" Bundle.steD A s s.heap) (hN : vx_Zq Bundle.tN "SUPPRESSED_SENTINEL" Bundle.listD A s s.heap) (hS : va_S A s.heap H locs) (hsize : ls.size = c.maxLocals)
    (d0 : decode cc pc = .ok (.new ik, 3)) (d3 : decode cc (pc + 3) = .ok (.dup, 1)) (d4 : decode cc (pc + 4) = .ok (.ldc is, 2)) (d6 : decode cc (pc + 6) = .ok (.invokespecial ic, 3)) (d9 : decode cc (pc + 9) = .ok (.athrow, 1))
    (hout : ∀ x ∈ c.exceptionTable.toList, covers x (pc + 9) = false)
    (hRframes : names.length + 3 < R.frames) (hRlocals : (rest.map fun v => v.category).sum + (13 * (names.length + 1) + 43) ≤ R.locals) (hRcells : cells + 1 ≤ R.cells) (hRslots : slots + 6 ≤ R.slots) (hlocks : meth.locks = false)
    (hx : ∀ t : State, s.vm.Alike t.vm → H.size ≤ t.heap.size → (∀ q : Nat, q < H.size → t.heap[q]? = H[q]?) → XC cls s t)
    (hf : ∀ z ∈ locs, free z.base) (hc : cells + 1 ≤ mc) (hs : slots + 6 ≤ ms) :
    W p l e R s m args below meth c H locs cells slots (vx_MQ below Qc XC args s mc ms free) (F0 m pc ls rest) := by
  intro T hT X
  have htr : e.platform.stackTraces = false := (show e.platform.stackTraces = l.stackTraces by rw [X.admits.platform]).trans hl
  have Y := vx_rebase X (R' := { frames := R.frames, locals := R.locals, cells := 1, slots := 6 }) (Nat.le_refl _) (Nat.le_refl _) hRcells hRslots
  obtain ⟨s', hA⟩ : ∃ z, z = (T.setVm s.vm).setFrames (.invoking m args :: below) := ⟨_, rfl⟩
  rw [← hA] at Y
  have hvm : s'.vm = s.vm := by rw [hA]; rfl
  have hhp : s'.heap = H := by rw [hA]; exact hT
  have hW0 : s.WarmedH s'.vm := by rw [hvm]; exact State.WarmedH.refl s
  have hat' : ∀ w ∈ vx_atS own ic cls names, w.before args s' = true := fun w hw => vx_ot_at hW0 hvm.symm (hgood w (List.mem_cons_of_mem _ (List.mem_cons_of_mem _ hw))) (hat w hw)
  have hk' : (Cond.classLink own ik cls).before args s' = true := vx_ot_at hW0 hvm.symm (hgood _ List.mem_cons_self) hk
  have hini' : (Cond.initialized cls).before args s' = true := vx_ot_at hW0 hvm.symm (hgood _ (List.mem_cons_of_mem _ List.mem_cons_self)) hini
  have hU' : vx_Zq Bundle.tN "UNASSIGNED_STACK" Bundle.steD A s' s'.heap := by rw [hhp]; exact vx_Zq.moved hW0.alike (hU.kept hS.2.1)
  have hN' : vx_Zq Bundle.tN "SUPPRESSED_SENTINEL" Bundle.listD A s' s'.heap := by rw [hhp]; exact vx_Zq.moved hW0.alike (hN.kept hS.2.1)
  have h : ∀ w ∈ Bundle.ownAtoms own ic cls names, w.before args s' = true := vx_own hat' (vx_isRefq hU'.1) (vx_isRefq hN'.1) hU'.2.word hN'.2.word
  have hown' : s'.vm.findClass own = some m.cls := by rw [hvm]; exact hown
  have hins : (Cond.instantiable cls 6).before args s' = true := h _ (by simp [Bundle.ownAtoms])
  obtain ⟨vm₁, cX, kX, hfX, hkX, -, -, X₁, st1⟩ := Y.newCold hexec (own := own) (C := cls) (index := ik) (n := 6) hown' hk' hins hini'
    (g := F0 m pc ls rest) rfl (by rw [hb]; exact d0) (Nat.le_refl _) (Nat.le_refl _)
  generalize hT1 : (T.setVm vm₁).pushCell { cls := cX, slots := kX.instanceTypes.map defaultValue, vm := .none } = T1 at X₁ st1
  have hcat : (Value.ref T.heap.size).category = 1 := rfl
  have hcellA : T1.heap[T.heap.size]? = some (freshCell cX kX) := by rw [← hT1]; exact State.heap_pushCell_size _ _
  have d3' : decode c.code (pc + 3) = .ok (.dup, 1) := by rw [hb]; exact d3
  have d4' : decode c.code (pc + 4) = .ok (.ldc is, 2) := by rw [hb]; exact d4
  have hstr' : vk_R own is text sa s' := vk_R.warm hW0 hstr
  obtain ⟨U, hsteps, hrun, hend, hW, hsame, ce, hce, hO⟩ := X₁.ctorThrowS hexec htr (own := own) (cls := cls) (names := names) (ic := ic) hown' hcls hnames h (fun x hx => nomatch hx) hfX hkX hcellA (by rw [hhp, hT]; exact Nat.le_refl _) (msg := .ref sa) rfl
    (g := { method := m, pc := pc + 6, locals := ls, stack := .ref sa :: .ref T.heap.size :: .ref T.heap.size :: rest, locked := none }) rfl hsize rfl rfl (rest := rest) rfl
    (by rw [hb]; exact d6) (by rw [hb]; exact d9) hout hRframes (by simp only [List.map_cons, List.sum_cons, hcat]; omega) hlocks
  obtain ⟨f1, f2⟩ := vx_frame hsame
  rw [hhp] at f1 f2
  have hWs : s.WarmedH U.vm := State.WarmedH.trans hW0 hW
  have hcl : s.vm.findClass cls = some ce.cls := by
    have h9 := hO.cls
    rw [hvm] at h9
    exact h9
  have hall : s.sameButNew ({ U with vm := s.vm } : State) locs mc ms := by
    subst hA
    obtain ⟨e1, e2⟩ := hsame
    rw [State.setFrames_setFrames] at e1
    have h2 : (T.setVm s.vm).sameButNew ({ U with vm := s.vm } : State) [] (0 + 1) (0 + 6) := ⟨e1, e2⟩
    have h3 := X.same.trans h2
    rw [List.append_nil] at h3
    exact h3.mono hc hs
  refine ⟨U, ?_, .threw T.heap.size, hrun, hend, Or.inr ⟨T.heap.size, rfl, cls, ce, locs, hx U hWs.alike f1 (fun q hq => f2 q hq (fun z hz => nomatch hz)), hce, hO.vm, hcl, hWs, hall, hf⟩⟩
  refine st1 _ ?_
  show Steps p.tables e below (T1.setTop { method := m, pc := pc + 3, locals := ls, stack := .ref T.heap.size :: rest, locked := none }) _
  jvm_step X₁.here [X₁.here.top, hexec, d3', Value.category]
  exact X₁.ldcString hexec (own := own) (text := text) (index := is) (a := sa) hown' hstr'.1 hstr'.2
    (g := { method := m, pc := pc + 4, locals := ls, stack := .ref T.heap.size :: .ref T.heap.size :: rest, locked := none }) rfl d4' _ hsteps
/-- 'throw new E("text")', the text by a wide index -/
theorem vx_throwSW {cc : ByteArray} {pc : Nat} (hexec : p.tables.exec = Jvm.exec) (hb : c.code = cc) (hl : l.stackTraces = false) {own cls text : String} {names : List String} {ik is ic mc ms sa : Nat} {A : Nat → Prop}
    (hown : s.vm.findClass own = some m.cls) (hcls : Bundle.fit cls = true) (hnames : ∀ n ∈ names, Bundle.fit n = true)
    (hk : (Cond.classLink own ik cls).before args s = true) (hini : (Cond.initialized cls).before args s = true) (hstr : vk_R own is text sa s) (hat : ∀ w ∈ vx_atS own ic cls names, w.before args s = true)
    (hgood : ∀ w ∈ Cond.classLink own ik cls :: Cond.initialized cls :: vx_atS own ic cls names, vx_ot w = true)
    (hU : vx_Zq Bundle.tN "UNASSIGNED_STACK" Bundle.steD A s s.heap) (hN : vx_Zq Bundle.tN "SUPPRESSED_SENTINEL" Bundle.listD A s s.heap) (hS : va_S A s.heap H locs) (hsize : ls.size = c.maxLocals)
    (d0 : decode cc pc = .ok (.new ik, 3)) (d3 : decode cc (pc + 3) = .ok (.dup, 1)) (d4 : decode cc (pc + 4) = .ok (.ldc_w is, 3)) (d7 : decode cc (pc + 7) = .ok (.invokespecial ic, 3)) (d10 : decode cc (pc + 10) = .ok (.athrow, 1))
    (hout : ∀ x ∈ c.exceptionTable.toList, covers x (pc + 10) = false)
    (hRframes : names.length + 3 < R.frames) (hRlocals : (rest.map fun v => v.category).sum + (13 * (names.length + 1) + 43) ≤ R.locals) (hRcells : cells + 1 ≤ R.cells) (hRslots : slots + 6 ≤ R.slots) (hlocks : meth.locks = false)
    (hx : ∀ t : State, s.vm.Alike t.vm → H.size ≤ t.heap.size → (∀ q : Nat, q < H.size → t.heap[q]? = H[q]?) → XC cls s t)
    (hf : ∀ z ∈ locs, free z.base) (hc : cells + 1 ≤ mc) (hs : slots + 6 ≤ ms) :
    W p l e R s m args below meth c H locs cells slots (vx_MQ below Qc XC args s mc ms free) (F0 m pc ls rest) := by
  intro T hT X
  have htr : e.platform.stackTraces = false := (show e.platform.stackTraces = l.stackTraces by rw [X.admits.platform]).trans hl
  have Y := vx_rebase X (R' := { frames := R.frames, locals := R.locals, cells := 1, slots := 6 }) (Nat.le_refl _) (Nat.le_refl _) hRcells hRslots
  obtain ⟨s', hA⟩ : ∃ z, z = (T.setVm s.vm).setFrames (.invoking m args :: below) := ⟨_, rfl⟩
  rw [← hA] at Y
  have hvm : s'.vm = s.vm := by rw [hA]; rfl
  have hhp : s'.heap = H := by rw [hA]; exact hT
  have hW0 : s.WarmedH s'.vm := by rw [hvm]; exact State.WarmedH.refl s
  have hat' : ∀ w ∈ vx_atS own ic cls names, w.before args s' = true := fun w hw => vx_ot_at hW0 hvm.symm (hgood w (List.mem_cons_of_mem _ (List.mem_cons_of_mem _ hw))) (hat w hw)
  have hk' : (Cond.classLink own ik cls).before args s' = true := vx_ot_at hW0 hvm.symm (hgood _ List.mem_cons_self) hk
  have hini' : (Cond.initialized cls).before args s' = true := vx_ot_at hW0 hvm.symm (hgood _ (List.mem_cons_of_mem _ List.mem_cons_self)) hini
  have hU' : vx_Zq Bundle.tN "UNASSIGNED_STACK" Bundle.steD A s' s'.heap := by rw [hhp]; exact vx_Zq.moved hW0.alike (hU.kept hS.2.1)
  have hN' : vx_Zq Bundle.tN "SUPPRESSED_SENTINEL" Bundle.listD A s' s'.heap := by rw [hhp]; exact vx_Zq.moved hW0.alike (hN.kept hS.2.1)
  have h : ∀ w ∈ Bundle.ownAtoms own ic cls names, w.before args s' = true := vx_own hat' (vx_isRefq hU'.1) (vx_isRefq hN'.1) hU'.2.word hN'.2.word
  have hown' : s'.vm.findClass own = some m.cls := by rw [hvm]; exact hown
  have hins : (Cond.instantiable cls 6).before args s' = true := h _ (by simp [Bundle.ownAtoms])
  obtain ⟨vm₁, cX, kX, hfX, hkX, -, -, X₁, st1⟩ := Y.newCold hexec (own := own) (C := cls) (index := ik) (n := 6) hown' hk' hins hini'
    (g := F0 m pc ls rest) rfl (by rw [hb]; exact d0) (Nat.le_refl _) (Nat.le_refl _)
  generalize hT1 : (T.setVm vm₁).pushCell { cls := cX, slots := kX.instanceTypes.map defaultValue, vm := .none } = T1 at X₁ st1
  have hcat : (Value.ref T.heap.size).category = 1 := rfl
  have hcellA : T1.heap[T.heap.size]? = some (freshCell cX kX) := by rw [← hT1]; exact State.heap_pushCell_size _ _
  have d3' : decode c.code (pc + 3) = .ok (.dup, 1) := by rw [hb]; exact d3
  have d4' : decode c.code (pc + 4) = .ok (.ldc_w is, 3) := by rw [hb]; exact d4
  have hstr' : vk_R own is text sa s' := vk_R.warm hW0 hstr
  obtain ⟨U, hsteps, hrun, hend, hW, hsame, ce, hce, hO⟩ := X₁.ctorThrowS hexec htr (own := own) (cls := cls) (names := names) (ic := ic) hown' hcls hnames h (fun x hx => nomatch hx) hfX hkX hcellA (by rw [hhp, hT]; exact Nat.le_refl _) (msg := .ref sa) rfl
    (g := { method := m, pc := pc + 7, locals := ls, stack := .ref sa :: .ref T.heap.size :: .ref T.heap.size :: rest, locked := none }) rfl hsize rfl rfl (rest := rest) rfl
    (by rw [hb]; exact d7) (by rw [hb]; exact d10) hout hRframes (by simp only [List.map_cons, List.sum_cons, hcat]; omega) hlocks
  obtain ⟨f1, f2⟩ := vx_frame hsame
  rw [hhp] at f1 f2
  have hWs : s.WarmedH U.vm := State.WarmedH.trans hW0 hW
  have hcl : s.vm.findClass cls = some ce.cls := by
    have h9 := hO.cls
    rw [hvm] at h9
    exact h9
  have hall : s.sameButNew ({ U with vm := s.vm } : State) locs mc ms := by
    subst hA
    obtain ⟨e1, e2⟩ := hsame
    rw [State.setFrames_setFrames] at e1
    have h2 : (T.setVm s.vm).sameButNew ({ U with vm := s.vm } : State) [] (0 + 1) (0 + 6) := ⟨e1, e2⟩
    have h3 := X.same.trans h2
    rw [List.append_nil] at h3
    exact h3.mono hc hs
  refine ⟨U, ?_, .threw T.heap.size, hrun, hend, Or.inr ⟨T.heap.size, rfl, cls, ce, locs, hx U hWs.alike f1 (fun q hq => f2 q hq (fun z hz => nomatch hz)), hce, hO.vm, hcl, hWs, hall, hf⟩⟩
  refine st1 _ ?_
  show Steps p.tables e below (T1.setTop { method := m, pc := pc + 3, locals := ls, stack := .ref T.heap.size :: rest, locked := none }) _
  jvm_step X₁.here [X₁.here.top, hexec, d3', Value.category]
  exact X₁.ldcStringW hexec (own := own) (text := text) (index := is) (a := sa) hown' hstr'.1 hstr'.2
    (g := { method := m, pc := pc + 4, locals := ls, stack := .ref T.heap.size :: .ref T.heap.size :: rest, locked := none }) rfl d4' _ hsteps
end Ends
section Bodies
variable {l : Launch}
theorem vx_ofW {y : MethodName} {ws ws' : List Cond} {rm : Room} {Pc : Array Value → State → Prop} {Qc : Array Value → State → Outcome → State → Prop} {XC : String → State → State → Prop} {mc ms : Nat} {free : Addr → Prop} {cc : ByteArray} {maxL : Nat} {ret : Option FieldType}
    (hy : plainName y.cls = true) (hw : ws = Cond.code y cc maxL ret :: ws')
    (body : ∀ p e s m args below meth c s₁, BodyLoose p l y (headSpec ws rm) cc maxL ret e s m args below meth c s₁ → c.maxLocals = maxL → (∀ x ∈ c.exceptionTable.toList, False) → Pc args s →
      W p l e (headSpec ws rm).room s m args below meth c s.heap [] 0 0 (vx_MQ below Qc XC args s mc ms free) (entryFrame m args maxL)) : vx_Met l y ws rm Pc Qc XC mc ms free := by
  refine MetFree.of_bodyS (code := cc) (maxLocals := maxL) (ret := ret) hy ?_ ?_
  · intro args s m h hn
    obtain ⟨meth, c, h1, h2, h3, h4, h5, h6, -, -⟩ := Cond.code_spec hn (atoms_spec (ws := ws) h _ (by rw [hw]; exact List.mem_cons_self))
    exact ⟨meth, c, h1, h2, h3, h4, h5, h6⟩
  · intro p e s m args below meth c s₁ B hml hP _
    have hh0 : s₁.heap = s.heap := by rw [B.state]; rfl
    have ht : ∀ x ∈ c.exceptionTable.toList, False := by
      obtain ⟨meth9, c9, h1, h2, -, -, -, -, h7, -⟩ := Cond.code_spec B.named (atoms_spec (ws := ws) B.pre _ (by rw [hw]; exact List.mem_cons_self))
      cases Option.some.inj (h1.symm.trans B.method)
      cases Option.some.inj (h2.symm.trans (Stand.of_body B).code)
      intro x hx
      rw [Array.isEmpty_iff.mp h7] at hx
      cases hx
    obtain ⟨t, a1, o, b1, b2, b3⟩ := body p e s m args below meth c s₁ B hml ht hP s₁ hh0 (Stand.of_body B)
    exact ⟨t, o, a1, b1, b2, b3⟩
/-- the table of a body with handlers -/
theorem vx_table {p : Program} {x y : MethodName} {S : Spec} {cc bytes : ByteArray} {maxL maxL' : Nat} {ret ret' : Option FieldType} {e : Env} {s s₁ : State} {m : MethodId} {args : Array Value} {below : List Frame} {meth : Method} {c : Code} {hh : List (Nat × Nat × Nat × Nat)}
    (B : BodyLoose p l y S cc maxL ret e s m args below meth c s₁) (h : (Cond.codeWith y bytes maxL' ret' hh).before args s = true) : c.exceptionTable.toList = tableOf hh := by
  obtain ⟨m9, meth9, c9, hn9, h1, h2, -, -, h6, -⟩ := Cond.codeWith_spec h
  cases Option.some.inj (hn9.symm.trans B.named)
  cases Option.some.inj (h1.symm.trans B.method)
  cases Option.some.inj (h2.symm.trans (Stand.of_body B).code)
  rw [← h6, table_eq]
end Bodies
end VXA
/-! ===== END ===== -/
/-! ===== BEGIN a static call of a method with an exception table ===== -/
section VXS
variable {p : Program} {l : Launch} {e : Env} {R : Room} {s : State} {m : MethodId} {args : Array Value} {below : List Frame} {meth : Method} {c : Code} {T : State} {H : Heap} {locs : List Loc} {cells slots : Nat}
abbrev vx_CSW (R : Room) (s : State) (args : Array Value) (own : String) (index : Nat) (y : MethodName) (bytes : ByteArray) (maxL : Nat) (ret : Option FieldType) (hh : List (Nat × Nat × Nat × Nat)) (ws : List Cond) (rm : Room) (mc ms n : Nat) : Prop :=
  (rm.cells = mc ∧ rm.slots = ms ∧ rm.frames + 1 ≤ R.frames ∧ 8 + (maxL + 11) + rm.locals ≤ R.locals ∧ (∀ w ∈ ws, ∀ (a' : Array Value) (U : State), s.WarmedH U.vm → w.before a' U = true) ∧ Cond.codeWith y bytes maxL ret hh ∈ ws) ∧
  (Cond.codeWith y bytes maxL ret hh).before args s = true ∧ (Cond.initialized y.cls).before args s = true ∧ (y.cls ≠ "java/lang/invoke/MethodHandle" ∧ y.cls ≠ "java/lang/invoke/VarHandle") ∧
  (∀ sig, parseMethodDescriptor y.desc = some sig → n = sig.parameters.length) ∧ (Cond.methodLink own index y).before args s = true ∧ (Cond.static y).before args s = true
theorem vx_cwSW {own : String} {index maxL mc ms : Nat} {y : MethodName} {bytes : ByteArray} {ret : Option FieldType} {hh : List (Nat × Nat × Nat × Nat)} {Ts ws ws' : List Cond} {rm : Room} (n : Nat) (ht : ∀ w ∈ Ts, w.before args s = true) (hT : GoodIn Ts (va_wsS own index y ws)) (hw : ws = Cond.codeWith y bytes maxL ret hh :: ws') (hrc : rm.cells = mc) (hrs : rm.slots = ms)
    (hd : y.cls ≠ "java/lang/invoke/MethodHandle" ∧ y.cls ≠ "java/lang/invoke/VarHandle" ∧ (parseMethodDescriptor y.desc).map (fun d => d.parameters.length) = some n) (hR : rm.frames + 1 ≤ R.frames ∧ 8 + (maxL + 11) + rm.locals ≤ R.locals) :
    vx_CSW R s args own index y bytes maxL ret hh ws rm mc ms n := by
  have ok : ∀ w ∈ va_wsS own index y ws, w.before args s = true := fun w h => ht w (hT w h).1
  have hG : GoodIn Ts ws := fun w h => hT w (by unfold va_wsS; exact List.mem_append_right _ h)
  have hc : Cond.codeWith y bytes maxL ret hh ∈ ws := by rw [hw]; exact List.mem_cons_self
  refine ⟨⟨hrc, hrs, hR.1, hR.2, pay_in ht hG, hc⟩, ht _ (hG _ hc).1, ok _ (by simp [va_wsS]), ⟨hd.1, hd.2.1⟩, fun sig h => ?_, ok _ (by simp [va_wsS]), ok _ (by simp [va_wsS])⟩
  have h2 := hd.2.2
  rw [h] at h2
  exact (Option.some.inj h2).symm
theorem vx_callSW (X : Stand p l e R s m args below meth c T locs cells slots) (hexec : p.tables.exec = Jvm.exec) {own : String} {index : Nat} {y : MethodName} {bytes : ByteArray} {maxL : Nat} {ret : Option FieldType} {hh : List (Nat × Nat × Nat × Nat)}
    (hown : s.vm.findClass own = some m.cls) (hlink : (Cond.methodLink own index y).before args s = true) (hstat : (Cond.static y).before args s = true) (hinit : (Cond.initialized y.cls).before args s = true)
    (hcode : (Cond.codeWith y bytes maxL ret hh).before args s = true) (hy : y.cls ≠ "java/lang/invoke/MethodHandle" ∧ y.cls ≠ "java/lang/invoke/VarHandle")
    {W9 : Nat} {Pre : Pt → Array Value → Prop} {Post : Pt → Array Value → Option Value → Pt → Prop} (hK : Back l R p e below s args y 3 W9 Pre Post)
    {g : JFrame} (hg : g.method = m) (hsize : g.locals.size = c.maxLocals) {argsL rest : List Value} (hlen : ∀ sig, parseMethodDescriptor y.desc = some sig → argsL.length = sig.parameters.length)
    (hstack : g.stack = argsL.reverse ++ rest) (hW : 2 * g.monitorRoom + (rest.map fun v => v.category).sum ≤ W9) (hdg : decode c.code g.pc = .ok (.invokestatic index, 3))
    (hpre : ∀ vm₁, s.WarmedH vm₁ → Pre ⟨T.setVm vm₁, locs, cells, slots⟩ argsL.toArray) :
    ∃ (v : Option Value) (vm₁ : Vm) (B : Pt), s.WarmedH vm₁ ∧ Stand p l e R s m args below meth c B.U B.locs B.cells B.slots ∧ Post ⟨T.setVm vm₁, locs, cells, slots⟩ argsL.toArray v B ∧
      ∀ target, Steps p.tables e below (B.U.setTop { g with pc := g.pc + 3, stack := v.toList ++ rest }) target → Steps p.tables e below (T.setTop g) target := by
  obtain ⟨mk, methM, cM, hnamed, hmethM, -, -, -, -, -, -, hsigM⟩ := Cond.codeWith_spec hcode
  have hstatic : methM.isStatic = true := Cond.static_spec hnamed hmethM hstat
  obtain ⟨kP, hkP, -⟩ := className_of_methodNamed hnamed
  have hinitP : kP.init = .initialized := Cond.initialized_spec (findClass_of_methodNamed hnamed) hkP hinit
  obtain ⟨vm₁, X₁, hstep₁⟩ := X.invokestatic hexec hown hlink hnamed hmethM hstatic hkP hinitP hy (g := g) hg (argsL := argsL) (rest := rest) (hlen _ hsigM) hstack hdg
  obtain ⟨v, B, X', hpost, hsteps⟩ := hK m meth c ⟨T.setVm vm₁, locs, cells, slots⟩ { g with stack := rest } (.invokestatic index) mk argsL.toArray X₁ hg hsize hdg hW (X₁.named hnamed) (hpre vm₁ X₁.warmed)
  exact ⟨v, vm₁, B, X₁.warmed, X', hpost, fun target h => hstep₁ _ fun acts => by rw [doInvoke_state]; exact hsteps.trans h⟩
theorem vx_runSW {y : MethodName} {bytes cc : ByteArray} {maxL nL mc ms n index : Nat} {ret : Option FieldType} {hh : List (Nat × Nat × Nat × Nat)} {ws : List Cond} {rm : Room} {Pc : Array Value → State → Prop} {Qc : Array Value → State → Outcome → State → Prop} {free : Addr → Prop} {Ts : List Cond} {own : String} {As rest : List Value} {g : JFrame}
    (S : CallFix p m c cc nL s args Ts own) (hM : Met l y ws rm Pc Qc mc ms free) (cw : vx_CSW R s args own index y bytes maxL ret hh ws rm mc ms n) (hp : PreS s H Pc As)
    (hg : g.method = m) (hn : As.length = n) (hsize : g.locals.size = nL) (hstack : g.stack = As.reverse ++ rest) (hW : 2 * g.monitorRoom + (rest.map fun v => v.category).sum ≤ 8) (hdg : decode cc g.pc = .ok (.invokestatic index, 3)) (hf : cells + mc ≤ R.cells ∧ slots + ms ≤ R.slots) :
    va_Run p l e R s m args below meth c H locs cells slots mc ms g rest (Qc As.toArray) (free) := by
  obtain ⟨⟨hrc, hrs, hfr, hlo, hws, hcw⟩, hcode, hini, hy, hlen, hl, hstt⟩ := cw
  have hK : Back l R p e below s args y 3 8 (PreOf R mc ms Pc) (PostOf Qc mc ms free) := va_backW (hh := hh) (bytes := bytes) (maxL := maxL) (ret := ret) hM hp.1 hrc hrs hfr hlo hws hcw (fun a' U hW => word_at hW (Or.inl (by first | rfl | simp [Cond.onTables, Cond.keeps, Cond.steady])) hini)
  obtain ⟨hx, hb, hml, ho, -⟩ := S
  intro T hT X
  obtain ⟨v, vm₁, ⟨U', l2, c2, s2⟩, hW₁, X', ⟨g', mk, t, L, e1, e2, hq, h1, hL, h2, h3⟩, st⟩ := vx_callSW X hx (hh := hh) (bytes := bytes) (maxL := maxL) (ret := ret) ho hl hstt hini hcode hy hK hg (hsize.trans hml.symm) (argsL := As) (rest := rest) (fun sig h => hn.trans (hlen sig h)) hstack hW (by rw [hb]; exact hdg)
    (fun vm₁ hW₁ => ⟨hf.1, hf.2, hp.2 (T.setVm vm₁) hT hW₁⟩)
  dsimp only [Pt.U, Pt.locs, Pt.cells, Pt.slots] at X' e1 e2 h1 h2 h3 st
  subst h1; subst h2; subst h3
  exact ⟨v, (T.setVm vm₁).calling g' mk As.toArray, t, U', L, hT, X', hL, e1, e2, hq, st⟩
/-- not caught here, past rows that name other classes: it goes on to the caller -/
theorem vx_outP {p : Program} {l : Launch} {e : Env} {R : Room} {s : State} {m : MethodId} {args : Array Value} {below : List Frame} {meth : Method} {c : Code} {H : Heap} {locs : List Loc} {cells slots : Nat} {free : Addr → Prop} {ls : Array Slot} {rest : List Value} {Qc : Array Value → State → Outcome → State → Prop} {XC : String → State → State → Prop}
    {pc : Nat} {own E : String} {ce : Cell} {q : Addr} {mc ms : Nat} (hown : s.vm.findClass own = some m.cls) (hlocks : meth.locks = false)
    (hpass : ∀ z ∈ c.exceptionTable.toList, covers z pc = false ∨ (z.catchType ≠ 0 ∧ ∃ nm : String, (Cond.classLink own z.catchType nm).before args s = true ∧ va_Nc E nm s)) (hcell : H[q]? = some ce) (hv : ce.vm = .none) (hcl : s.vm.findClass E = some ce.cls)
    (hx : ∀ t : State, t.heap = H → s.vm.Alike t.vm → XC E s t) (hf : ∀ z ∈ locs, free z.base) (hc : cells ≤ mc) (hs : slots ≤ ms) :
    vx_W p l e R s m args below meth c H locs cells slots (vx_MQ below Qc XC args s mc ms free) (F0 m pc ls rest) q := by
  intro T hT X
  have hpl : e.platform.magicAccessors = ({} : Platform).magicAccessors := by rw [X.admits.platform]
  obtain ⟨vm', hW', X', st⟩ := X.outThrough hlocks q (g := F0 m pc ls rest) rfl rfl rfl (cell := ce) (by rw [hT]; exact hcell) (by rw [hv]; rfl)
    (by obtain ⟨k9, h9, -⟩ := Vm.findClass_spec hcl; exact ⟨k9, h9⟩) (fun z hz => by
      rcases hpass z hz with h | ⟨hz0, nm, hl1, hn1⟩
      · exact Or.inl h
      · obtain ⟨c6, hc6, hcl6⟩ := Cond.classLink_spec hown hl1 e.platform hpl
        obtain ⟨a8, b8, h1, h2, h3⟩ := hn1
        cases Option.some.inj (h1.symm.trans hcl)
        cases Option.some.inj (h2.symm.trans hc6)
        exact Or.inr ⟨hz0, _, hcl6, h3⟩)
  obtain ⟨g₀, hfr⟩ := X'.frames_eq
  have hcell9 : ((T.setVm vm').setFrames (.throwing q :: below)).heap[q]? = some ce := by
    show T.heap[q]? = some ce
    rw [hT]; exact hcell
  have hend : Ended ((T.setVm vm').setFrames (.throwing q :: below)) below (.threw q) := State.frames_setFrames _ (State.cur_lt_of_frames hfr)
  refine ⟨(T.setVm vm').setFrames (.throwing q :: below), ?_, .threw q, X'.here.running, hend, Or.inr ⟨q, rfl, E, ce, locs, hx _ hT (X'.ends _).1.alike, hcell9, hv, hcl, (X'.ends _).1, (X'.ends _).2.mono hc hs, hf⟩⟩
  rw [X.pushThrowing_eq]
  exact st
/-- a thing of a world lies in the heap -/
theorem vx_lt {D : va_G} {cl : List vw_C} {ws : va_W} {H1 : Heap} (h : va_P D cl ws H1) {k : Nat} {q : Nat × va_E} (hk : ws[k]? = some q) : q.1 < H1.size := (h k q hk).lt
end VXS
/-! ===== END ===== -/
/-! ===== BEGIN methods with a table of their own: called by a name, returning or throwing ===== -/
section VXH
/-! vx_backW, vx_callVX, vx_callSX, vx_callVW, vx_runVW, vx_runVX, vx_runSX, vx_ofWH follow the same proofs as their sisters above (Free/Laws.lean, Shelf42/LK1.lean); vx_outP calls Shelf42/NT130.lean (outThrough). -/
section
variable {l : Launch} {R : Room} {p : Program} {e : Env} {below : List Frame} {s : State} {sargs : Array Value} {y : MethodName} {len W9 : Nat}
theorem vx_backW {ws : List Cond} {rm : Room} {Pc : Array Value → State → Prop} {Qc : Array Value → State → Outcome → State → Prop} {XC : String → State → State → Prop} {mc ms : Nat} {free : Addr → Prop} {bytes : ByteArray} {maxL : Nat} {ret : Option FieldType} {hh : List (Nat × Nat × Nat × Nat)}
    (hM : vx_Met l y ws rm Pc Qc XC mc ms free) (hblind : FrameBlind Pc) (hrc : rm.cells = mc) (hrs : rm.slots = ms)
    (hframes : rm.frames + 1 ≤ R.frames) (hlocals : W9 + (maxL + 11) + rm.locals ≤ R.locals)
    (hws : ∀ w ∈ ws, ∀ a' U, s.WarmedH U.vm → w.before a' U = true) (hcode : Cond.codeWith y bytes maxL ret hh ∈ ws) (hinit : ∀ a' U, s.WarmedH U.vm → (Cond.initialized y.cls).before a' U = true) :
    vx_Back l R p e below s sargs y len W9 (PreOf R mc ms Pc) (PostOf Qc mc ms free) (vx_Post XC mc ms free) := by
  intro m meth c A g ig mk a X hg hsize hdg hW hn hp
  have h1 : (headSpec ws rm).pre.before a A.U = true := atoms_intro fun w hw => hws w hw _ _ X.warmed
  have h2 : (Cond.codeWith y bytes maxL ret hh).before a A.U = true := hws _ hcode _ _ X.warmed
  have h3 : (Cond.initialized y.cls).before a A.U = true := hinit _ _ X.warmed
  have h4 : A.cells + (headSpec ws rm).room.cells ≤ R.cells := by rw [show (headSpec ws rm).room.cells = mc from hrc]; exact hp.1
  have h5 : A.slots + (headSpec ws rm).room.slots ≤ R.slots := by rw [show (headSpec ws rm).room.slots = ms from hrs]; exact hp.2.1
  have hPc : Pc a (A.U.calling g mk a) := hblind _ _ _ _ hp.2.2
  obtain ⟨U, Ls, c0, s0⟩ := A
  dsimp only [Pt.U, Pt.locs, Pt.cells, Pt.slots] at h1 h2 h3 h4 h5 X hn hPc ⊢
  obtain ⟨m9, methY, cY, hn9, hmY, hcY, -, hlY, -⟩ := Cond.codeWith_spec h2
  cases Option.some.inj (hn9.symm.trans hn)
  obtain ⟨kY, hkY, -⟩ := className_of_methodNamed hn
  have hinitY : kY.init = .initialized := Cond.initialized_spec (findClass_of_methodNamed hn) hkY h3
  have h : At U g.method c below := by rw [hg]; exact X.here
  have hlocals9 : W9 + (maxL + 11) + (headSpec ws rm).room.locals ≤ R.locals := hlocals
  have happ : (headSpec ws rm).appliesLoose y e.platform (U.calling g mk a) = true :=
    Spec.appliesLoose_calling (g := g) h hdg hn hkY hinitY
      (X.room_calling (g := g) (R' := (headSpec ws rm).room) hsize hmY hcY hframes (by rw [hlY]; omega) h4 h5) h1
  obtain ⟨mid, hmid⟩ := h.above
  have hfr : (U.setTop g).frames = (.java g :: mid) ++ below := by rw [State.frames_setTop' g h.top, hmid]; rfl
  obtain ⟨o, s₂, hsteps, -, hend, hq⟩ := Steps.callFree hM p X.admits X.cas X.clock (acts := []) hfr happ hPc trivial
  have hq' : vx_Q Qc XC mc ms free a (U.calling g mk a) o s₂ := hq
  rw [State.frames_setTop' g h.top] at hend
  obtain ⟨g₀, hg0⟩ := Option.isSome_iff_exists.mp h.top
  obtain ⟨r, hr⟩ := State.topJava?_eq_some.mp hg0
  have hr' : (({ U with heap := s₂.heap, slotsUsed := s₂.slotsUsed } : State).setVm s₂.vm).frames = .java g₀ :: r := hr
  rcases hq' with ⟨hqc, L, hfe, hL⟩ | ⟨q, rfl, E, ce, L, hx, hce, hcv, hcl, hW₂, hsm, hL⟩
  · obtain ⟨⟨v, rfl⟩, hW₂, e2, q2, q3, q4, q5, q6⟩ := id hfe
    have e3 : s₂ = ({ (U.calling g mk a).setFrames s₂.frames with heap := s₂.heap, slotsUsed := s₂.slotsUsed } : State).setVm s₂.vm := by
      have : s₂ = ({ s₂ with vm := (U.calling g mk a).vm } : State).setVm s₂.vm := rfl
      rw [e2] at this
      exact this
    obtain ⟨c₂, i₂, len₂, hc₂, hd₂, hf₂⟩ := hend
    have hW' : U.WarmedH s₂.vm := hW₂
    have hcc : c₂ = c := by
      have h1 : s₂.code? g.method = U.code? g.method := by
        rw [State.code?_eq, State.code?_eq, hW'.alike.method?]
      exact Option.some.inj (hc₂.symm.trans (h1.trans h.code))
    subst hcc
    have hlen : len₂ = len := by rw [hdg] at hd₂; cases hd₂; rfl
    subst hlen
    have hs₂ : s₂ = (({ U with heap := s₂.heap, slotsUsed := s₂.slotsUsed } : State).setVm s₂.vm).setTop { g with pc := g.pc + len₂, stack := v.toList ++ g.stack } := by
      refine e3.trans ?_
      rw [hf₂, State.calling_eq h.top, State.setFrames_setFrames, State.setTop_of_frames _ hr', hr]
      rfl
    have hsame : U.sameButNew ({ U with heap := s₂.heap, slotsUsed := s₂.slotsUsed } : State) L mc ms := by
      refine ⟨?_, q2, q3, q4, q5, q6⟩
      obtain ⟨t, ht, -⟩ := State.frames_cons hr
      show ({ U with heap := s₂.heap, slotsUsed := s₂.slotsUsed } : State) = { U.setFrames U.frames with heap := s₂.heap, slotsUsed := s₂.slotsUsed }
      rw [State.setFrames_self ht]
    subst hg
    refine Or.inl ⟨v, ⟨(({ U with heap := s₂.heap, slotsUsed := s₂.slotsUsed } : State).setVm s₂.vm), Ls ++ L, c0 + mc, s0 + ms⟩,
      ⟨X.admits, X.cas, X.clock, X.frames, X.room, X.hears, X.method, X.code, (X.here.setHeapUsed s₂.heap s₂.slotsUsed).setVm hW'.alike, X.tail, State.WarmedH.trans X.warmed hW', X.limits, X.bytes, X.same.trans (hsame.setVm s.vm)⟩,
      ⟨g, mk, s₂, L, rfl, rfl, hqc, rfl, hL, rfl, rfl⟩, ?_⟩
    show Steps p.tables e below _ ((({ U with heap := s₂.heap, slotsUsed := s₂.slotsUsed } : State).setVm s₂.vm).setTop { g with pc := g.pc + len₂, stack := v.toList ++ g.stack })
    rw [← hs₂]
    exact hsteps
  · obtain ⟨e2, q2, q3, q4, q5, q6⟩ := id hsm
    have e3 : s₂ = ({ (U.calling g mk a).setFrames s₂.frames with heap := s₂.heap, slotsUsed := s₂.slotsUsed } : State).setVm s₂.vm := by
      have : s₂ = ({ s₂ with vm := (U.calling g mk a).vm } : State).setVm s₂.vm := rfl
      rw [e2] at this
      exact this
    have hf₂ : s₂.frames = .throwing q :: .java g :: U.frames.tail := hend
    have hW' : U.WarmedH s₂.vm := hW₂
    have hs₂ : s₂ = ((({ U with heap := s₂.heap, slotsUsed := s₂.slotsUsed } : State).setVm s₂.vm).setTop g).pushFrame (.throwing q) := by
      refine e3.trans ?_
      rw [hf₂, State.calling_eq h.top, State.setFrames_setFrames, State.pushFrame, State.frames_setTop _ hr', State.setTop_of_frames _ hr', State.setFrames_setFrames, hr]
      rfl
    have hsame : U.sameButNew ({ U with heap := s₂.heap, slotsUsed := s₂.slotsUsed } : State) L mc ms := by
      refine ⟨?_, q2, q3, q4, q5, q6⟩
      obtain ⟨t, ht, -⟩ := State.frames_cons hr
      show ({ U with heap := s₂.heap, slotsUsed := s₂.slotsUsed } : State) = { U.setFrames U.frames with heap := s₂.heap, slotsUsed := s₂.slotsUsed }
      rw [State.setFrames_self ht]
    subst hg
    refine Or.inr ⟨q, ⟨(({ U with heap := s₂.heap, slotsUsed := s₂.slotsUsed } : State).setVm s₂.vm), Ls ++ L, c0 + mc, s0 + ms⟩,
      ⟨X.admits, X.cas, X.clock, X.frames, X.room, X.hears, X.method, X.code, (X.here.setHeapUsed s₂.heap s₂.slotsUsed).setVm hW'.alike, X.tail, State.WarmedH.trans X.warmed hW', X.limits, X.bytes, X.same.trans (hsame.setVm s.vm)⟩,
      ⟨g, mk, s₂, L, E, ce, rfl, rfl, hx, hce, hcv, hcl, rfl, hL, rfl, rfl⟩, ?_⟩
    show Steps p.tables e below _ (((({ U with heap := s₂.heap, slotsUsed := s₂.slotsUsed } : State).setVm s₂.vm).setTop g).pushFrame (.throwing q))
    rw [← hs₂]
    exact hsteps
end
variable {p : Program} {l : Launch} {e : Env} {R : Room} {s : State} {m : MethodId} {args : Array Value} {below : List Frame} {meth : Method} {c : Code} {T : State} {H : Heap} {locs : List Loc} {cells slots : Nat}
theorem vx_callVX (X : Stand p l e R s m args below meth c T locs cells slots) (hexec : p.tables.exec = Jvm.exec) {own C : String} {index : Nat} {y : MethodName} {bytes : ByteArray} {maxL : Nat} {ret : Option FieldType} {hh : List (Nat × Nat × Nat × Nat)}
    (hown : s.vm.findClass own = some m.cls) (hlink : (Cond.methodLink own index y).before args s = true) (hinst : (Cond.instanceMethod y).before args s = true) (hsel : (Cond.selects C y y).before args s = true)
    (hcode : (Cond.codeWith y bytes maxL ret hh).before args s = true) (hy : y.cls ≠ "java/lang/invoke/MethodHandle" ∧ y.cls ≠ "java/lang/invoke/VarHandle")
    {W9 : Nat} {Pre : Pt → Array Value → Prop} {Post : Pt → Array Value → Option Value → Pt → Prop} {PostX : Pt → Array Value → Addr → Pt → Prop} (hK : vx_Back l R p e below s args y 3 W9 Pre Post PostX)
    {b : Addr} {cellB : Cell} (hcell : T.heap[b]? = some cellB) (hobj : cellB.vm.isStatics = false) (hcls : s.vm.findClass C = some cellB.cls)
    {g : JFrame} (hg : g.method = m) (hsize : g.locals.size = c.maxLocals) {argsL rest : List Value} (hlen : ∀ sig, parseMethodDescriptor y.desc = some sig → argsL.length = sig.parameters.length)
    (hstack : g.stack = argsL.reverse ++ .ref b :: rest) (hW : 2 * g.monitorRoom + (rest.map fun v => v.category).sum ≤ W9) (hdg : decode c.code g.pc = .ok (.invokevirtual index, 3))
    (hpre : ∀ vm₁, s.WarmedH vm₁ → Pre ⟨T.setVm vm₁, locs, cells, slots⟩ (Value.ref b :: argsL).toArray) :
    (∃ (v : Option Value) (vm₁ : Vm) (B : Pt), s.WarmedH vm₁ ∧ Stand p l e R s m args below meth c B.U B.locs B.cells B.slots ∧ Post ⟨T.setVm vm₁, locs, cells, slots⟩ (Value.ref b :: argsL).toArray v B ∧
      ∀ target, Steps p.tables e below (B.U.setTop { g with pc := g.pc + 3, stack := v.toList ++ rest }) target → Steps p.tables e below (T.setTop g) target) ∨
    (∃ (q : Addr) (vm₁ : Vm) (B : Pt), s.WarmedH vm₁ ∧ Stand p l e R s m args below meth c B.U B.locs B.cells B.slots ∧ PostX ⟨T.setVm vm₁, locs, cells, slots⟩ (Value.ref b :: argsL).toArray q B ∧
      Steps p.tables e below (T.setTop g) ((B.U.setTop { g with stack := rest }).pushFrame (.throwing q))) := by
  obtain ⟨mk, methM, hnamed, hmethM, hstM, habM⟩ := Cond.instanceMethod_spec hinst
  obtain ⟨m8, methM', cM, hn8, hmethM', -, -, -, -, -, -, hsigM⟩ := Cond.codeWith_spec hcode
  cases Option.some.inj (hn8.symm.trans hnamed)
  cases hmethM.symm.trans hmethM'
  obtain ⟨c2, r2, m2, q1, q2, q3, q4, kP, hkP, hkPi⟩ := Cond.selects_spec hsel
  cases hcls.symm.trans q1
  cases (State.methodFound?_of_named hnamed hy).symm.trans q2
  cases hnamed.symm.trans q3
  have hselP : selectMethod e.platform s.vm cellB.cls mk = .method mk := by rw [Launch.admits_selectMethod X.admits]; exact q4
  obtain ⟨vm₁, X₁, hstep₁⟩ := X.invokevirtual hexec hown hlink hnamed hmethM hstM hkP hkPi hy (a := b) (cell := cellB) hcell
    (fun z h => by rw [h] at hobj; cases hobj) hselP hmethM habM hkP hkPi (g := g) hg (argsL := argsL) (rest := rest) (hlen _ hsigM) hstack hdg
  rcases hK m meth c ⟨T.setVm vm₁, locs, cells, slots⟩ { g with stack := rest } (.invokevirtual index) mk (Value.ref b :: argsL).toArray X₁ hg hsize hdg hW (X₁.named hnamed) (hpre vm₁ X₁.warmed) with ⟨v, B, X', hpost, hsteps⟩ | ⟨q, B, X', hpost, hsteps⟩
  · exact Or.inl ⟨v, vm₁, B, X₁.warmed, X', hpost, fun target h => hstep₁ _ fun acts => by rw [doInvoke_state]; exact hsteps.trans h⟩
  · exact Or.inr ⟨q, vm₁, B, X₁.warmed, X', hpost, hstep₁ _ fun acts => by rw [doInvoke_state]; exact hsteps⟩
theorem vx_callSX (X : Stand p l e R s m args below meth c T locs cells slots) (hexec : p.tables.exec = Jvm.exec) {own : String} {index : Nat} {y : MethodName} {bytes : ByteArray} {maxL : Nat} {ret : Option FieldType} {hh : List (Nat × Nat × Nat × Nat)}
    (hown : s.vm.findClass own = some m.cls) (hlink : (Cond.methodLink own index y).before args s = true) (hstat : (Cond.static y).before args s = true) (hinit : (Cond.initialized y.cls).before args s = true)
    (hcode : (Cond.codeWith y bytes maxL ret hh).before args s = true) (hy : y.cls ≠ "java/lang/invoke/MethodHandle" ∧ y.cls ≠ "java/lang/invoke/VarHandle")
    {W9 : Nat} {Pre : Pt → Array Value → Prop} {Post : Pt → Array Value → Option Value → Pt → Prop} {PostX : Pt → Array Value → Addr → Pt → Prop} (hK : vx_Back l R p e below s args y 3 W9 Pre Post PostX)
    {g : JFrame} (hg : g.method = m) (hsize : g.locals.size = c.maxLocals) {argsL rest : List Value} (hlen : ∀ sig, parseMethodDescriptor y.desc = some sig → argsL.length = sig.parameters.length)
    (hstack : g.stack = argsL.reverse ++ rest) (hW : 2 * g.monitorRoom + (rest.map fun v => v.category).sum ≤ W9) (hdg : decode c.code g.pc = .ok (.invokestatic index, 3))
    (hpre : ∀ vm₁, s.WarmedH vm₁ → Pre ⟨T.setVm vm₁, locs, cells, slots⟩ argsL.toArray) :
    (∃ (v : Option Value) (vm₁ : Vm) (B : Pt), s.WarmedH vm₁ ∧ Stand p l e R s m args below meth c B.U B.locs B.cells B.slots ∧ Post ⟨T.setVm vm₁, locs, cells, slots⟩ argsL.toArray v B ∧
      ∀ target, Steps p.tables e below (B.U.setTop { g with pc := g.pc + 3, stack := v.toList ++ rest }) target → Steps p.tables e below (T.setTop g) target) ∨
    (∃ (q : Addr) (vm₁ : Vm) (B : Pt), s.WarmedH vm₁ ∧ Stand p l e R s m args below meth c B.U B.locs B.cells B.slots ∧ PostX ⟨T.setVm vm₁, locs, cells, slots⟩ argsL.toArray q B ∧
      Steps p.tables e below (T.setTop g) ((B.U.setTop { g with stack := rest }).pushFrame (.throwing q))) := by
  obtain ⟨mk, methM, cM, hnamed, hmethM, -, -, -, -, -, -, hsigM⟩ := Cond.codeWith_spec hcode
  have hstatic : methM.isStatic = true := Cond.static_spec hnamed hmethM hstat
  obtain ⟨kP, hkP, -⟩ := className_of_methodNamed hnamed
  have hinitP : kP.init = .initialized := Cond.initialized_spec (findClass_of_methodNamed hnamed) hkP hinit
  obtain ⟨vm₁, X₁, hstep₁⟩ := X.invokestatic hexec hown hlink hnamed hmethM hstatic hkP hinitP hy (g := g) hg (argsL := argsL) (rest := rest) (hlen _ hsigM) hstack hdg
  rcases hK m meth c ⟨T.setVm vm₁, locs, cells, slots⟩ { g with stack := rest } (.invokestatic index) mk argsL.toArray X₁ hg hsize hdg hW (X₁.named hnamed) (hpre vm₁ X₁.warmed) with ⟨v, B, X', hpost, hsteps⟩ | ⟨q, B, X', hpost, hsteps⟩
  · exact Or.inl ⟨v, vm₁, B, X₁.warmed, X', hpost, fun target h => hstep₁ _ fun acts => by rw [doInvoke_state]; exact hsteps.trans h⟩
  · exact Or.inr ⟨q, vm₁, B, X₁.warmed, X', hpost, hstep₁ _ fun acts => by rw [doInvoke_state]; exact hsteps⟩
theorem vx_callVW (X : Stand p l e R s m args below meth c T locs cells slots) (hexec : p.tables.exec = Jvm.exec) {own C : String} {index : Nat} {y : MethodName} {bytes : ByteArray} {maxL : Nat} {ret : Option FieldType} {hh : List (Nat × Nat × Nat × Nat)}
    (hown : s.vm.findClass own = some m.cls) (hlink : (Cond.methodLink own index y).before args s = true) (hinst : (Cond.instanceMethod y).before args s = true) (hsel : (Cond.selects C y y).before args s = true)
    (hcode : (Cond.codeWith y bytes maxL ret hh).before args s = true) (hy : y.cls ≠ "java/lang/invoke/MethodHandle" ∧ y.cls ≠ "java/lang/invoke/VarHandle")
    {W9 : Nat} {Pre : Pt → Array Value → Prop} {Post : Pt → Array Value → Option Value → Pt → Prop} (hK : Back l R p e below s args y 3 W9 Pre Post)
    {b : Addr} {cellB : Cell} (hcell : T.heap[b]? = some cellB) (hobj : cellB.vm.isStatics = false) (hcls : s.vm.findClass C = some cellB.cls)
    {g : JFrame} (hg : g.method = m) (hsize : g.locals.size = c.maxLocals) {argsL rest : List Value} (hlen : ∀ sig, parseMethodDescriptor y.desc = some sig → argsL.length = sig.parameters.length)
    (hstack : g.stack = argsL.reverse ++ .ref b :: rest) (hW : 2 * g.monitorRoom + (rest.map fun v => v.category).sum ≤ W9) (hdg : decode c.code g.pc = .ok (.invokevirtual index, 3))
    (hpre : ∀ vm₁, s.WarmedH vm₁ → Pre ⟨T.setVm vm₁, locs, cells, slots⟩ (Value.ref b :: argsL).toArray) :
    ∃ (v : Option Value) (vm₁ : Vm) (B : Pt), s.WarmedH vm₁ ∧ Stand p l e R s m args below meth c B.U B.locs B.cells B.slots ∧ Post ⟨T.setVm vm₁, locs, cells, slots⟩ (Value.ref b :: argsL).toArray v B ∧
      ∀ target, Steps p.tables e below (B.U.setTop { g with pc := g.pc + 3, stack := v.toList ++ rest }) target → Steps p.tables e below (T.setTop g) target := by
  obtain ⟨mk, methM, hnamed, hmethM, hstM, habM⟩ := Cond.instanceMethod_spec hinst
  obtain ⟨m8, methM', cM, hn8, hmethM', -, -, -, -, -, -, hsigM⟩ := Cond.codeWith_spec hcode
  cases Option.some.inj (hn8.symm.trans hnamed)
  cases hmethM.symm.trans hmethM'
  obtain ⟨c2, r2, m2, q1, q2, q3, q4, kP, hkP, hkPi⟩ := Cond.selects_spec hsel
  cases hcls.symm.trans q1
  cases (State.methodFound?_of_named hnamed hy).symm.trans q2
  cases hnamed.symm.trans q3
  have hselP : selectMethod e.platform s.vm cellB.cls mk = .method mk := by rw [Launch.admits_selectMethod X.admits]; exact q4
  obtain ⟨vm₁, X₁, hstep₁⟩ := X.invokevirtual hexec hown hlink hnamed hmethM hstM hkP hkPi hy (a := b) (cell := cellB) hcell
    (fun z h => by rw [h] at hobj; cases hobj) hselP hmethM habM hkP hkPi (g := g) hg (argsL := argsL) (rest := rest) (hlen _ hsigM) hstack hdg
  obtain ⟨v, B, X', hpost, hsteps⟩ := hK m meth c ⟨T.setVm vm₁, locs, cells, slots⟩ { g with stack := rest } (.invokevirtual index) mk (Value.ref b :: argsL).toArray X₁ hg hsize hdg hW (X₁.named hnamed) (hpre vm₁ X₁.warmed)
  exact ⟨v, vm₁, B, X₁.warmed, X', hpost, fun target h => hstep₁ _ fun acts => by rw [doInvoke_state]; exact hsteps.trans h⟩
abbrev vx_CVW (R : Room) (s : State) (args : Array Value) (own C : String) (index : Nat) (y : MethodName) (bytes : ByteArray) (maxL : Nat) (ret : Option FieldType) (hh : List (Nat × Nat × Nat × Nat)) (ws : List Cond) (rm : Room) (mc ms n : Nat) : Prop :=
  (rm.cells = mc ∧ rm.slots = ms ∧ rm.frames + 1 ≤ R.frames ∧ 8 + (maxL + 11) + rm.locals ≤ R.locals ∧ (∀ w ∈ ws, ∀ (a' : Array Value) (U : State), s.WarmedH U.vm → w.before a' U = true) ∧ Cond.codeWith y bytes maxL ret hh ∈ ws) ∧
  (Cond.codeWith y bytes maxL ret hh).before args s = true ∧ (Cond.initialized y.cls).before args s = true ∧ (y.cls ≠ "java/lang/invoke/MethodHandle" ∧ y.cls ≠ "java/lang/invoke/VarHandle") ∧
  (∀ sig, parseMethodDescriptor y.desc = some sig → n = sig.parameters.length) ∧ (Cond.methodLink own index y).before args s = true ∧ (Cond.instanceMethod y).before args s = true ∧ (Cond.selects C y y).before args s = true
theorem vx_cwVW {own C : String} {index maxL mc ms : Nat} {y : MethodName} {bytes : ByteArray} {ret : Option FieldType} {hh : List (Nat × Nat × Nat × Nat)} {Ts ws ws' : List Cond} {rm : Room} (n : Nat) (ht : ∀ w ∈ Ts, w.before args s = true) (hT : GoodIn Ts (wsV own index C y ws)) (hw : ws = Cond.codeWith y bytes maxL ret hh :: ws') (hrc : rm.cells = mc) (hrs : rm.slots = ms)
    (hd : y.cls = C ∧ y.cls ≠ "java/lang/invoke/MethodHandle" ∧ y.cls ≠ "java/lang/invoke/VarHandle" ∧ (parseMethodDescriptor y.desc).map (fun d => d.parameters.length) = some n) (hR : rm.frames + 1 ≤ R.frames ∧ 8 + (maxL + 11) + rm.locals ≤ R.locals) :
    vx_CVW R s args own C index y bytes maxL ret hh ws rm mc ms n := by
  obtain ⟨hC, hd⟩ := hd
  subst hC
  have ok : ∀ w ∈ wsV own index y.cls y ws, w.before args s = true := fun w h => ht w (hT w h).1
  have hG : GoodIn Ts ws := fun w h => hT w (by unfold wsV; exact List.mem_append_right _ h)
  have hc : Cond.codeWith y bytes maxL ret hh ∈ ws := by rw [hw]; exact List.mem_cons_self
  refine ⟨⟨hrc, hrs, hR.1, hR.2, pay_in ht hG, hc⟩, ht _ (hG _ hc).1, ok _ (by simp [wsV]), ⟨hd.1, hd.2.1⟩, fun sig h => ?_, ok _ (by simp [wsV]), ok _ (by simp [wsV]), ok _ (by simp [wsV])⟩
  have h2 := hd.2.2
  rw [h] at h2
  exact (Option.some.inj h2).symm
theorem vx_runVW {y : MethodName} {bytes cc : ByteArray} {maxL nL mc ms n index : Nat} {ret : Option FieldType} {hh : List (Nat × Nat × Nat × Nat)} {ws : List Cond} {rm : Room} {Pc : Array Value → State → Prop} {Qc : Array Value → State → Outcome → State → Prop} {free : Addr → Prop} {Ts : List Cond} {own C : String} {b : Addr} {As rest : List Value} {g : JFrame}
    (S : CallFix p m c cc nL s args Ts own) (hM : Met l y ws rm Pc Qc mc ms free) (cw : vx_CVW R s args own C index y bytes maxL ret hh ws rm mc ms n) (hp : PreV s H C b Pc As)
    (hg : g.method = m) (hn : As.length = n) (hsize : g.locals.size = nL) (hstack : g.stack = As.reverse ++ .ref b :: rest) (hW : 2 * g.monitorRoom + (rest.map fun v => v.category).sum ≤ 8) (hdg : decode cc g.pc = .ok (.invokevirtual index, 3)) (hf : cells + mc ≤ R.cells ∧ slots + ms ≤ R.slots) :
    va_Run p l e R s m args below meth c H locs cells slots mc ms g rest (Qc (Value.ref b :: As).toArray) free := by
  obtain ⟨⟨hrc, hrs, hfr, hlo, hws, hcw⟩, hcode, hini, hy, hlen, hl, hin, hse⟩ := cw
  have hK : Back l R p e below s args y 3 8 (PreOf R mc ms Pc) (PostOf Qc mc ms free) := va_backW (hh := hh) (bytes := bytes) (maxL := maxL) (ret := ret) hM hp.1 hrc hrs hfr hlo hws hcw (fun a' U hW => word_at hW (Or.inl (by first | rfl | simp [Cond.onTables, Cond.keeps, Cond.steady])) hini)
  obtain ⟨hx, hb, hml, ho, -⟩ := S
  obtain ⟨-, ⟨cellB, hcB, hoB, hclB⟩, hPc⟩ := hp
  intro T hT X
  obtain ⟨v, vm₁, ⟨U', l2, c2, s2⟩, hW₁, X', ⟨g', mk, t, L, e1, e2, hq, h1, hL, h2, h3⟩, st⟩ := vx_callVW X hx (C := C) (hh := hh) (bytes := bytes) (maxL := maxL) (ret := ret) ho hl hin hse hcode hy hK (by rw [hT]; exact hcB) hoB hclB hg (hsize.trans hml.symm) (argsL := As) (rest := rest) (fun sig h => hn.trans (hlen sig h)) hstack hW (by rw [hb]; exact hdg)
    (fun vm₁ hW₁ => ⟨hf.1, hf.2, hPc (T.setVm vm₁) hT hW₁⟩)
  dsimp only [Pt.U, Pt.locs, Pt.cells, Pt.slots] at X' e1 e2 h1 h2 h3 st
  subst h1; subst h2; subst h3
  exact ⟨v, (T.setVm vm₁).calling g' mk (Value.ref b :: As).toArray, t, U', L, hT, X', hL, e1, e2, hq, st⟩
section
variable {y : MethodName} {bytes cc : ByteArray} {maxL nL mc ms n index : Nat} {ret : Option FieldType} {ws : List Cond} {rm : Room} {Pc : Array Value → State → Prop} {Qc : Array Value → State → Outcome → State → Prop} {XC : String → State → State → Prop} {free : Addr → Prop} {Ts : List Cond} {own C : String} {b : Addr} {As rest : List Value} {g : JFrame}
theorem vx_runVX {hh : List (Nat × Nat × Nat × Nat)} (S : CallFix p m c cc nL s args Ts own) (hM : vx_Met l y ws rm Pc Qc XC mc ms free) (cw : vx_CVW R s args own C index y bytes maxL ret hh ws rm mc ms n) (hp : PreV s H C b Pc As)
    (hg : g.method = m) (hn : As.length = n) (hsize : g.locals.size = nL) (hstack : g.stack = As.reverse ++ .ref b :: rest) (hW : 2 * g.monitorRoom + (rest.map fun v => v.category).sum ≤ 8) (hdg : decode cc g.pc = .ok (.invokevirtual index, 3)) (hf : cells + mc ≤ R.cells ∧ slots + ms ≤ R.slots) :
    vx_Run p l e R s m args below meth c H locs cells slots mc ms g rest (Qc (Value.ref b :: As).toArray) XC free := by
  obtain ⟨⟨hrc, hrs, hfr, hlo, hws, hcw⟩, hcode, hini, hy, hlen, hl, hin, hse⟩ := cw
  have hK : vx_Back l R p e below s args y 3 8 (PreOf R mc ms Pc) (PostOf Qc mc ms free) (vx_Post XC mc ms free) := vx_backW (hh := hh) (bytes := bytes) (maxL := maxL) (ret := ret) hM hp.1 hrc hrs hfr hlo hws hcw (fun a' U hW => word_at hW (Or.inl (by first | rfl | simp [Cond.onTables, Cond.keeps, Cond.steady])) hini)
  obtain ⟨hx, hb, hml, ho, -⟩ := S
  obtain ⟨-, ⟨cellB, hcB, hoB, hclB⟩, hPc⟩ := hp
  intro T hT X
  rcases vx_callVX X hx (C := C) (hh := hh) (bytes := bytes) (maxL := maxL) (ret := ret) ho hl hin hse hcode hy hK (by rw [hT]; exact hcB) hoB hclB hg (hsize.trans hml.symm) (argsL := As) (rest := rest) (fun sig h => hn.trans (hlen sig h)) hstack hW (by rw [hb]; exact hdg)
    (fun vm₁ hW₁ => ⟨hf.1, hf.2, hPc (T.setVm vm₁) hT hW₁⟩) with ⟨v, vm₁, ⟨U', l2, c2, s2⟩, hW₁, X', ⟨g', mk, t, L, e1, e2, hq, h1, hL, h2, h3⟩, st⟩ | ⟨q, vm₁, ⟨U', l2, c2, s2⟩, hW₁, X', ⟨g', mk, t, L, E, ce, e1, e2, hq, hce, hcv, hcl, h1, hL, h2, h3⟩, st⟩
  · dsimp only [Pt.U, Pt.locs, Pt.cells, Pt.slots] at X' e1 e2 h1 h2 h3 st
    subst h1; subst h2; subst h3
    exact Or.inl ⟨v, (T.setVm vm₁).calling g' mk (Value.ref b :: As).toArray, t, U', L, hT, X', hL, e1, e2, hq, st⟩
  · dsimp only [Pt.U, Pt.locs, Pt.cells, Pt.slots] at X' e1 e2 h1 h2 h3 st hcl
    subst h1; subst h2; subst h3
    exact Or.inr ⟨q, (T.setVm vm₁).calling g' mk (Value.ref b :: As).toArray, t, U', L, E, ce, hT, X', hL, e1, e2, hq, hce, hcv, vx_cls hW₁ hcl, st⟩
theorem vx_runSX {hh : List (Nat × Nat × Nat × Nat)} (S : CallFix p m c cc nL s args Ts own) (hM : vx_Met l y ws rm Pc Qc XC mc ms free) (cw : vx_CSW R s args own index y bytes maxL ret hh ws rm mc ms n) (hp : PreS s H Pc As)
    (hg : g.method = m) (hn : As.length = n) (hsize : g.locals.size = nL) (hstack : g.stack = As.reverse ++ rest) (hW : 2 * g.monitorRoom + (rest.map fun v => v.category).sum ≤ 8) (hdg : decode cc g.pc = .ok (.invokestatic index, 3)) (hf : cells + mc ≤ R.cells ∧ slots + ms ≤ R.slots) :
    vx_Run p l e R s m args below meth c H locs cells slots mc ms g rest (Qc As.toArray) XC free := by
  obtain ⟨⟨hrc, hrs, hfr, hlo, hws, hcw⟩, hcode, hini, hy, hlen, hl, hstt⟩ := cw
  have hK : vx_Back l R p e below s args y 3 8 (PreOf R mc ms Pc) (PostOf Qc mc ms free) (vx_Post XC mc ms free) := vx_backW (hh := hh) (bytes := bytes) (maxL := maxL) (ret := ret) hM hp.1 hrc hrs hfr hlo hws hcw (fun a' U hW => word_at hW (Or.inl (by first | rfl | simp [Cond.onTables, Cond.keeps, Cond.steady])) hini)
  obtain ⟨hx, hb, hml, ho, -⟩ := S
  intro T hT X
  rcases vx_callSX X hx (hh := hh) (bytes := bytes) (maxL := maxL) (ret := ret) ho hl hstt hini hcode hy hK hg (hsize.trans hml.symm) (argsL := As) (rest := rest) (fun sig h => hn.trans (hlen sig h)) hstack hW (by rw [hb]; exact hdg)
    (fun vm₁ hW₁ => ⟨hf.1, hf.2, hp.2 (T.setVm vm₁) hT hW₁⟩) with ⟨v, vm₁, ⟨U', l2, c2, s2⟩, hW₁, X', ⟨g', mk, t, L, e1, e2, hq, h1, hL, h2, h3⟩, st⟩ | ⟨q, vm₁, ⟨U', l2, c2, s2⟩, hW₁, X', ⟨g', mk, t, L, E, ce, e1, e2, hq, hce, hcv, hcl, h1, hL, h2, h3⟩, st⟩
  · dsimp only [Pt.U, Pt.locs, Pt.cells, Pt.slots] at X' e1 e2 h1 h2 h3 st
    subst h1; subst h2; subst h3
    exact Or.inl ⟨v, (T.setVm vm₁).calling g' mk As.toArray, t, U', L, hT, X', hL, e1, e2, hq, st⟩
  · dsimp only [Pt.U, Pt.locs, Pt.cells, Pt.slots] at X' e1 e2 h1 h2 h3 st hcl
    subst h1; subst h2; subst h3
    exact Or.inr ⟨q, (T.setVm vm₁).calling g' mk As.toArray, t, U', L, E, ce, hT, X', hL, e1, e2, hq, hce, hcv, vx_cls hW₁ hcl, st⟩
end
end VXH
theorem vx_ofWH {l : Launch} {y : MethodName} {ws ws' : List Cond} {rm : Room} {Pc : Array Value → State → Prop} {Qc : Array Value → State → Outcome → State → Prop} {XC : String → State → State → Prop} {mc ms : Nat} {free : Addr → Prop} {cc : ByteArray} {maxL : Nat} {ret : Option FieldType} {hh : List (Nat × Nat × Nat × Nat)}
    (hy : plainName y.cls = true) (hw : ws = Cond.codeWith y cc maxL ret hh :: ws')
    (body : ∀ p e s m args below meth c s₁, BodyLoose p l y (headSpec ws rm) cc maxL ret e s m args below meth c s₁ → c.maxLocals = maxL → Pc args s →
      W p l e (headSpec ws rm).room s m args below meth c s.heap [] 0 0 (vx_MQ below Qc XC args s mc ms free) (entryFrame m args maxL)) : vx_Met l y ws rm Pc Qc XC mc ms free := by
  refine MetFree.of_bodyS (code := cc) (maxLocals := maxL) (ret := ret) hy ?_ ?_
  · intro args s m h hn
    obtain ⟨m9, meth, c, hn9, h1, h2, h3, h4, -, h5, h6, -⟩ := Cond.codeWith_spec (atoms_spec (ws := ws) h _ (by rw [hw]; exact List.mem_cons_self))
    cases hn.symm.trans hn9
    exact ⟨meth, c, h1, h2, h3, h4, h5, h6⟩
  · intro p e s m args below meth c s₁ B hml hP _
    have hh0 : s₁.heap = s.heap := by rw [B.state]; rfl
    obtain ⟨t, a1, o, b1, b2, b3⟩ := body p e s m args below meth c s₁ B hml hP s₁ hh0 (Stand.of_body B)
    exact ⟨t, o, a1, b1, b2, b3⟩
/-! ===== END ===== -/
end
section
def RX0 : String := "HeatBranches$Boilers"
def TX0 : u_T := fun k => match k with
  | 0 => ("HeatBranches$Boilers", "capacity", "[I", true)
  | 1 => ("HeatBranches$Boilers", "least", "[I", true)
  | 2 => ("HeatBranches$Boilers", "cost", "[I", true)
  | _ => ("HeatBranches$Boilers", "count", "I", false)
def tyX0 : Nat → FieldType := fun k => match k with
  | 0 => .array .int
  | 1 => .array .int
  | 2 => .array .int
  | _ => .int
theorem nmX0 : ∀ a, a < 4 → ∀ b, b < 4 → a ≠ b → (TX0 a).2.1 ≠ (TX0 b).2.1 := by decide +kernel
theorem tyX0_ok : ∀ k, k < 4 → parseFieldDescriptor (TX0 k).2.2.1 = some (tyX0 k) := by decide +kernel
abbrev cX0_init : ByteArray := prog_2_method_1_code
def yX0_init : MethodName := ⟨RX0, "<init>", "()V"⟩
abbrev cX0_install : ByteArray := prog_2_method_2_code
def yX0_install : MethodName := ⟨RX0, "install", "(III)I"⟩
abbrev cX0_copyFrom : ByteArray := prog_2_method_3_code
def yX0_copyFrom : MethodName := ⟨RX0, "copyFrom", "(LHeatBranches$Boilers;)V"⟩
abbrev cX0_placeOf : ByteArray := prog_2_method_4_code
def yX0_placeOf : MethodName := ⟨RX0, "placeOf", "(I)I"⟩
abbrev cX0_atPlace : ByteArray := prog_2_method_5_code
def yX0_atPlace : MethodName := ⟨RX0, "atPlace", "(I)I"⟩
def RX1 : String := "HeatBranches$History"
def TX1 : u_T := fun k => match k with
  | 0 => ("HeatBranches$History", "saved", "[LHeatBranches$State;", true)
  | 1 => ("HeatBranches$History", "oldest", "I", false)
  | _ => ("HeatBranches$History", "count", "I", false)
def tyX1 : Nat → FieldType := fun k => match k with
  | 0 => .array (.object "HeatBranches$State")
  | 1 => .int
  | _ => .int
theorem nmX1 : ∀ a, a < 3 → ∀ b, b < 3 → a ≠ b → (TX1 a).2.1 ≠ (TX1 b).2.1 := by decide +kernel
theorem tyX1_ok : ∀ k, k < 3 → parseFieldDescriptor (TX1 k).2.2.1 = some (tyX1 k) := by decide +kernel
abbrev cX1_init : ByteArray := prog_3_method_1_code
def yX1_init : MethodName := ⟨RX1, "<init>", "()V"⟩
abbrev cX1_slot : ByteArray := prog_3_method_2_code
def yX1_slot : MethodName := ⟨RX1, "slot", "(I)LHeatBranches$State;"⟩
abbrev cX1_keep : ByteArray := prog_3_method_3_code
def yX1_keep : MethodName := ⟨RX1, "keep", "(LHeatBranches$State;)V"⟩
abbrev cX1_bringBack : ByteArray := prog_3_method_4_code
def yX1_bringBack : MethodName := ⟨RX1, "bringBack", "(LHeatBranches$State;)V"⟩
def RX2 : String := "HeatBranches$Hour"
def TX2 : u_T := fun k => match k with
  | 0 => ("HeatBranches$Hour", "flow", "[I", true)
  | 1 => ("HeatBranches$Hour", "warmth", "[I", true)
  | 2 => ("HeatBranches$Hour", "back", "[I", true)
  | 3 => ("HeatBranches$Hour", "load", "[I", true)
  | 4 => ("HeatBranches$Hour", "need", "I", false)
  | 5 => ("HeatBranches$Hour", "unmet", "I", false)
  | _ => ("HeatBranches$Hour", "costs", "I", false)
def tyX2 : Nat → FieldType := fun k => match k with
  | 0 => .array .int
  | 1 => .array .int
  | 2 => .array .int
  | 3 => .array .int
  | 4 => .int
  | 5 => .int
  | _ => .int
theorem nmX2 : ∀ a, a < 7 → ∀ b, b < 7 → a ≠ b → (TX2 a).2.1 ≠ (TX2 b).2.1 := by decide +kernel
theorem tyX2_ok : ∀ k, k < 7 → parseFieldDescriptor (TX2 k).2.2.1 = some (tyX2 k) := by decide +kernel
abbrev cX2_init : ByteArray := prog_4_method_1_code
def yX2_init : MethodName := ⟨RX2, "<init>", "()V"⟩
abbrev cX2_settle : ByteArray := prog_4_method_2_code
def yX2_settle : MethodName := ⟨RX2, "settle", "(LHeatBranches$State;I)V"⟩
abbrev cX2_settleFlows : ByteArray := prog_4_method_3_code
def yX2_settleFlows : MethodName := ⟨RX2, "settleFlows", "(LHeatBranches$Network;)V"⟩
abbrev cX2_settleWarmth : ByteArray := prog_4_method_4_code
def yX2_settleWarmth : MethodName := ⟨RX2, "settleWarmth", "(LHeatBranches$State;I)V"⟩
abbrev cX2_settleReturns : ByteArray := prog_4_method_5_code
def yX2_settleReturns : MethodName := ⟨RX2, "settleReturns", "(LHeatBranches$Network;)V"⟩
abbrev cX2_settleLoads : ByteArray := prog_4_method_6_code
def yX2_settleLoads : MethodName := ⟨RX2, "settleLoads", "(LHeatBranches$Boilers;)V"⟩
abbrev cX2_returnOf : ByteArray := prog_4_method_7_code
def yX2_returnOf : MethodName := ⟨RX2, "returnOf", "(LHeatBranches$Network;I)I"⟩
abbrev cX2_warmthAbove : ByteArray := prog_4_method_8_code
def yX2_warmthAbove : MethodName := ⟨RX2, "warmthAbove", "(LHeatBranches$Network;I)I"⟩
abbrev cX2_warmthBehind : ByteArray := prog_4_method_9_code
def yX2_warmthBehind : MethodName := ⟨RX2, "warmthBehind", "(IIII)I"⟩
abbrev cX2_addUpTheTree : ByteArray := prog_4_method_10_code
def yX2_addUpTheTree : MethodName := ⟨RX2, "addUpTheTree", "(LHeatBranches$Network;[I)V"⟩
def RX3 : String := "HeatBranches$Network"
def TX3 : u_T := fun k => match k with
  | 0 => ("HeatBranches$Network", "parent", "[I", true)
  | 1 => ("HeatBranches$Network", "length", "[I", true)
  | 2 => ("HeatBranches$Network", "looseness", "[I", true)
  | 3 => ("HeatBranches$Network", "draw", "[I", true)
  | 4 => ("HeatBranches$Network", "setting", "[I", true)
  | 5 => ("HeatBranches$Network", "leak", "[I", true)
  | 6 => ("HeatBranches$Network", "meter", "[I", true)
  | 7 => ("HeatBranches$Network", "account", "[I", true)
  | _ => ("HeatBranches$Network", "count", "I", false)
def tyX3 : Nat → FieldType := fun k => match k with
  | 0 => .array .int
  | 1 => .array .int
  | 2 => .array .int
  | 3 => .array .int
  | 4 => .array .int
  | 5 => .array .int
  | 6 => .array .int
  | 7 => .array .int
  | _ => .int
theorem nmX3 : ∀ a, a < 9 → ∀ b, b < 9 → a ≠ b → (TX3 a).2.1 ≠ (TX3 b).2.1 := by decide +kernel
theorem tyX3_ok : ∀ k, k < 9 → parseFieldDescriptor (TX3 k).2.2.1 = some (tyX3 k) := by decide +kernel
abbrev cX3_init : ByteArray := prog_5_method_1_code
def yX3_init : MethodName := ⟨RX3, "<init>", "()V"⟩
abbrev cX3_attach : ByteArray := prog_5_method_2_code
def yX3_attach : MethodName := ⟨RX3, "attach", "(IIIII)I"⟩
abbrev cX3_copyFrom : ByteArray := prog_5_method_3_code
def yX3_copyFrom : MethodName := ⟨RX3, "copyFrom", "(LHeatBranches$Network;)V"⟩
abbrev cX3_hasParent : ByteArray := prog_5_method_4_code
def yX3_hasParent : MethodName := ⟨RX3, "hasParent", "(I)Z"⟩
abbrev cX3_childrenOf : ByteArray := prog_5_method_5_code
def yX3_childrenOf : MethodName := ⟨RX3, "childrenOf", "(I)I"⟩
abbrev cX3_branchOf : ByteArray := prog_5_method_6_code
def yX3_branchOf : MethodName := ⟨RX3, "branchOf", "(I)I"⟩
abbrev cX3_meters : ByteArray := prog_5_method_7_code
def yX3_meters : MethodName := ⟨RX3, "meters", "()I"⟩
abbrev cX3_accounts : ByteArray := prog_5_method_8_code
def yX3_accounts : MethodName := ⟨RX3, "accounts", "()I"⟩
def RX4 : String := "HeatBranches$NetworkText"
def TX4 : u_T := fun k => match k with
  | 0 => ("HeatBranches$NetworkText", "bytes", "[I", true)
  | 1 => ("HeatBranches$NetworkText", "length", "I", false)
  | 2 => ("HeatBranches$NetworkText", "at", "I", false)
  | _ => ("HeatBranches$NetworkText", "fault", "I", false)
def tyX4 : Nat → FieldType := fun k => match k with
  | 0 => .array .int
  | 1 => .int
  | 2 => .int
  | _ => .int
theorem nmX4 : ∀ a, a < 4 → ∀ b, b < 4 → a ≠ b → (TX4 a).2.1 ≠ (TX4 b).2.1 := by decide +kernel
theorem tyX4_ok : ∀ k, k < 4 → parseFieldDescriptor (TX4 k).2.2.1 = some (tyX4 k) := by decide +kernel
abbrev cX4_init : ByteArray := prog_6_method_1_code
def yX4_init : MethodName := ⟨RX4, "<init>", "()V"⟩
abbrev cX4_put : ByteArray := prog_6_method_2_code
def yX4_put : MethodName := ⟨RX4, "put", "(I)V"⟩
abbrev cX4_readInto : ByteArray := prog_6_method_3_code
def yX4_readInto : MethodName := ⟨RX4, "readInto", "(LHeatBranches$Network;)I"⟩
abbrev cX4_readNode : ByteArray := prog_6_method_4_code
def yX4_readNode : MethodName := ⟨RX4, "readNode", "(LHeatBranches$Network;I)V"⟩
abbrev cX4_readNumber : ByteArray := prog_6_method_5_code
def yX4_readNumber : MethodName := ⟨RX4, "readNumber", "(IIII)I"⟩
abbrev cX4_isDigit : ByteArray := prog_6_method_6_code
def yX4_isDigit : MethodName := ⟨RX4, "isDigit", "(I)Z"⟩
def RX5 : String := "HeatBranches$Regions"
def TX5 : u_T := fun k => match k with
  | 0 => ("HeatBranches$Regions", "meter", "[I", true)
  | 1 => ("HeatBranches$Regions", "head", "[I", true)
  | 2 => ("HeatBranches$Regions", "inBranch", "[I", true)
  | 3 => ("HeatBranches$Regions", "size", "[I", true)
  | 4 => ("HeatBranches$Regions", "leaks", "[I", true)
  | _ => ("HeatBranches$Regions", "count", "I", false)
def tyX5 : Nat → FieldType := fun k => match k with
  | 0 => .array .int
  | 1 => .array .int
  | 2 => .array .int
  | 3 => .array .int
  | 4 => .array .int
  | _ => .int
theorem nmX5 : ∀ a, a < 6 → ∀ b, b < 6 → a ≠ b → (TX5 a).2.1 ≠ (TX5 b).2.1 := by decide +kernel
theorem tyX5_ok : ∀ k, k < 6 → parseFieldDescriptor (TX5 k).2.2.1 = some (tyX5 k) := by decide +kernel
abbrev cX5_init : ByteArray := prog_7_method_1_code
def yX5_init : MethodName := ⟨RX5, "<init>", "()V"⟩
abbrev cX5_takeMeters : ByteArray := prog_7_method_2_code
def yX5_takeMeters : MethodName := ⟨RX5, "takeMeters", "(LHeatBranches$Network;)V"⟩
abbrev cX5_giveMeter : ByteArray := prog_7_method_3_code
def yX5_giveMeter : MethodName := ⟨RX5, "giveMeter", "(I)V"⟩
abbrev cX5_settle : ByteArray := prog_7_method_4_code
def yX5_settle : MethodName := ⟨RX5, "settle", "(LHeatBranches$Network;)V"⟩
abbrev cX5_clearCounts : ByteArray := prog_7_method_5_code
def yX5_clearCounts : MethodName := ⟨RX5, "clearCounts", "()V"⟩
abbrev cX5_headAbove : ByteArray := prog_7_method_6_code
def yX5_headAbove : MethodName := ⟨RX5, "headAbove", "(LHeatBranches$Network;I)I"⟩
abbrev cX5_countBranches : ByteArray := prog_7_method_7_code
def yX5_countBranches : MethodName := ⟨RX5, "countBranches", "(LHeatBranches$Network;)V"⟩
abbrev cX5_hasMeter : ByteArray := prog_7_method_8_code
def yX5_hasMeter : MethodName := ⟨RX5, "hasMeter", "(I)Z"⟩
abbrev cX5_balanceAt : ByteArray := prog_7_method_9_code
def yX5_balanceAt : MethodName := ⟨RX5, "balanceAt", "(I)I"⟩
abbrev cX5_sizeAt : ByteArray := prog_7_method_10_code
def yX5_sizeAt : MethodName := ⟨RX5, "sizeAt", "(I)I"⟩
abbrev cX5_suspectCount : ByteArray := prog_7_method_11_code
def yX5_suspectCount : MethodName := ⟨RX5, "suspectCount", "()I"⟩
abbrev cX5_nextPlace : ByteArray := prog_7_method_12_code
def yX5_nextPlace : MethodName := ⟨RX5, "nextPlace", "(I)I"⟩
abbrev cX5_firstNextPlace : ByteArray := prog_7_method_13_code
def yX5_firstNextPlace : MethodName := ⟨RX5, "firstNextPlace", "()I"⟩
def RX6 : String := "HeatBranches$State"
def TX6 : u_T := fun k => match k with
  | 0 => ("HeatBranches$State", "network", "LHeatBranches$Network;", true)
  | 1 => ("HeatBranches$State", "boilers", "LHeatBranches$Boilers;", true)
  | 2 => ("HeatBranches$State", "supply", "I", false)
  | 3 => ("HeatBranches$State", "ground", "I", false)
  | 4 => ("HeatBranches$State", "price", "I", false)
  | 5 => ("HeatBranches$State", "mark", "I", false)
  | 6 => ("HeatBranches$State", "bonus", "I", false)
  | 7 => ("HeatBranches$State", "hours", "I", false)
  | _ => ("HeatBranches$State", "costs", "I", false)
def tyX6 : Nat → FieldType := fun k => match k with
  | 0 => .object "HeatBranches$Network"
  | 1 => .object "HeatBranches$Boilers"
  | 2 => .int
  | 3 => .int
  | 4 => .int
  | 5 => .int
  | 6 => .int
  | 7 => .int
  | _ => .int
theorem nmX6 : ∀ a, a < 9 → ∀ b, b < 9 → a ≠ b → (TX6 a).2.1 ≠ (TX6 b).2.1 := by decide +kernel
theorem tyX6_ok : ∀ k, k < 9 → parseFieldDescriptor (TX6 k).2.2.1 = some (tyX6 k) := by decide +kernel
abbrev cX6_init : ByteArray := prog_8_method_1_code
def yX6_init : MethodName := ⟨RX6, "<init>", "()V"⟩
abbrev cX6_copyFrom : ByteArray := prog_8_method_2_code
def yX6_copyFrom : MethodName := ⟨RX6, "copyFrom", "(LHeatBranches$State;)V"⟩
def RX7 : String := "HeatBranches"
def TX7 : u_T := fun k => match k with
  | 0 => ("HeatBranches", "now", "LHeatBranches$State;", true)
  | 1 => ("HeatBranches", "history", "LHeatBranches$History;", true)
  | 2 => ("HeatBranches", "text", "LHeatBranches$NetworkText;", true)
  | 3 => ("HeatBranches", "actual", "LHeatBranches$Hour;", true)
  | 4 => ("HeatBranches", "regions", "LHeatBranches$Regions;", true)
  | 5 => ("HeatBranches", "trial", "LHeatBranches$Hour;", true)
  | 6 => ("HeatBranches", "trialRegions", "LHeatBranches$Regions;", true)
  | 7 => ("HeatBranches", "parsed", "LHeatBranches$Network;", true)
  | _ => ("HeatBranches", "wishes", "[I", true)
def tyX7 : Nat → FieldType := fun k => match k with
  | 0 => .object "HeatBranches$State"
  | 1 => .object "HeatBranches$History"
  | 2 => .object "HeatBranches$NetworkText"
  | 3 => .object "HeatBranches$Hour"
  | 4 => .object "HeatBranches$Regions"
  | 5 => .object "HeatBranches$Hour"
  | 6 => .object "HeatBranches$Regions"
  | 7 => .object "HeatBranches$Network"
  | _ => .array .int
theorem nmX7 : ∀ a, a < 9 → ∀ b, b < 9 → a ≠ b → (TX7 a).2.1 ≠ (TX7 b).2.1 := by decide +kernel
theorem tyX7_ok : ∀ k, k < 9 → parseFieldDescriptor (TX7 k).2.2.1 = some (tyX7 k) := by decide +kernel
abbrev cX7_init : ByteArray := prog_1_method_1_code
def yX7_init : MethodName := ⟨RX7, "<init>", "()V"⟩
abbrev cX7_addNode : ByteArray := prog_1_method_2_code
def yX7_addNode : MethodName := ⟨RX7, "addNode", "(IIIII)I"⟩
abbrev cX7_setDraw : ByteArray := prog_1_method_3_code
def yX7_setDraw : MethodName := ⟨RX7, "setDraw", "(III)I"⟩
abbrev cX7_setLeak : ByteArray := prog_1_method_4_code
def yX7_setLeak : MethodName := ⟨RX7, "setLeak", "(II)I"⟩
abbrev cX7_setTemperatures : ByteArray := prog_1_method_5_code
def yX7_setTemperatures : MethodName := ⟨RX7, "setTemperatures", "(II)I"⟩
abbrev cX7_node : ByteArray := prog_1_method_6_code
def yX7_node : MethodName := ⟨RX7, "node", "(II)I"⟩
abbrev cX7_heat : ByteArray := prog_1_method_7_code
def yX7_heat : MethodName := ⟨RX7, "heat", "(II)I"⟩
abbrev cX7_value : ByteArray := prog_1_method_8_code
def yX7_value : MethodName := ⟨RX7, "value", "(I)I"⟩
abbrev cX7_sum : ByteArray := prog_1_method_9_code
def yX7_sum : MethodName := ⟨RX7, "sum", "(I)I"⟩
abbrev cX7_addBoiler : ByteArray := prog_1_method_10_code
def yX7_addBoiler : MethodName := ⟨RX7, "addBoiler", "(III)I"⟩
abbrev cX7_setCost : ByteArray := prog_1_method_11_code
def yX7_setCost : MethodName := ⟨RX7, "setCost", "(II)I"⟩
abbrev cX7_boiler : ByteArray := prog_1_method_12_code
def yX7_boiler : MethodName := ⟨RX7, "boiler", "(II)I"⟩
abbrev cX7_setTariff : ByteArray := prog_1_method_13_code
def yX7_setTariff : MethodName := ⟨RX7, "setTariff", "(III)I"⟩
abbrev cX7_pass : ByteArray := prog_1_method_14_code
def yX7_pass : MethodName := ⟨RX7, "pass", "(I)I"⟩
abbrev cX7_setMeter : ByteArray := prog_1_method_15_code
def yX7_setMeter : MethodName := ⟨RX7, "setMeter", "(IZ)I"⟩
abbrev cX7_balance : ByteArray := prog_1_method_16_code
def yX7_balance : MethodName := ⟨RX7, "balance", "(I)I"⟩
abbrev cX7_region : ByteArray := prog_1_method_17_code
def yX7_region : MethodName := ⟨RX7, "region", "(I)I"⟩
abbrev cX7_meterOf : ByteArray := prog_1_method_18_code
def yX7_meterOf : MethodName := ⟨RX7, "meterOf", "(I)I"⟩
abbrev cX7_nextMeter : ByteArray := prog_1_method_19_code
def yX7_nextMeter : MethodName := ⟨RX7, "nextMeter", "(I)I"⟩
abbrev cX7_suspects : ByteArray := prog_1_method_20_code
def yX7_suspects : MethodName := ⟨RX7, "suspects", "()I"⟩
abbrev cX7_metersToFind : ByteArray := prog_1_method_21_code
def yX7_metersToFind : MethodName := ⟨RX7, "metersToFind", "()I"⟩
abbrev cX7_supplyFor : ByteArray := prog_1_method_22_code
def yX7_supplyFor : MethodName := ⟨RX7, "supplyFor", "(II)I"⟩
abbrev cX7_cheapestSupply : ByteArray := prog_1_method_23_code
def yX7_cheapestSupply : MethodName := ⟨RX7, "cheapestSupply", "()I"⟩
abbrev cX7_saves : ByteArray := prog_1_method_24_code
def yX7_saves : MethodName := ⟨RX7, "saves", "(I)I"⟩
abbrev cX7_efficiency : ByteArray := prog_1_method_25_code
def yX7_efficiency : MethodName := ⟨RX7, "efficiency", "()D"⟩
abbrev cX7_append : ByteArray := prog_1_method_26_code
def yX7_append : MethodName := ⟨RX7, "append", "(I)I"⟩
abbrev cX7_clearText : ByteArray := prog_1_method_27_code
def yX7_clearText : MethodName := ⟨RX7, "clearText", "()I"⟩
abbrev cX7_parse : ByteArray := prog_1_method_28_code
def yX7_parse : MethodName := ⟨RX7, "parse", "()I"⟩
abbrev cX7_undo : ByteArray := prog_1_method_29_code
def yX7_undo : MethodName := ⟨RX7, "undo", "()I"⟩
abbrev cX7_digest : ByteArray := prog_1_method_30_code
def yX7_digest : MethodName := ⟨RX7, "digest", "()J"⟩
abbrev cX7_settle : ByteArray := prog_1_method_31_code
def yX7_settle : MethodName := ⟨RX7, "settle", "()V"⟩
abbrev cX7_requireNode : ByteArray := prog_1_method_32_code
def yX7_requireNode : MethodName := ⟨RX7, "requireNode", "(I)V"⟩
abbrev cX7_requirePipe : ByteArray := prog_1_method_33_code
def yX7_requirePipe : MethodName := ⟨RX7, "requirePipe", "(I)V"⟩
abbrev cX7_requireBoiler : ByteArray := prog_1_method_34_code
def yX7_requireBoiler : MethodName := ⟨RX7, "requireBoiler", "(I)V"⟩
abbrev cX7_requireWithin : ByteArray := prog_1_method_35_code
def yX7_requireWithin : MethodName := ⟨RX7, "requireWithin", "(III)V"⟩
abbrev cX7_nodeFact : ByteArray := prog_1_method_36_code
def yX7_nodeFact : MethodName := ⟨RX7, "nodeFact", "(II)I"⟩
abbrev cX7_heatOf : ByteArray := prog_1_method_37_code
def yX7_heatOf : MethodName := ⟨RX7, "heatOf", "(II)I"⟩
abbrev cX7_billOf : ByteArray := prog_1_method_38_code
def yX7_billOf : MethodName := ⟨RX7, "billOf", "(I)I"⟩
abbrev cX7_number : ByteArray := prog_1_method_39_code
def yX7_number : MethodName := ⟨RX7, "number", "(I)I"⟩
abbrev cX7_sumOfHeats : ByteArray := prog_1_method_40_code
def yX7_sumOfHeats : MethodName := ⟨RX7, "sumOfHeats", "(I)I"⟩
abbrev cX7_boilerFact : ByteArray := prog_1_method_41_code
def yX7_boilerFact : MethodName := ⟨RX7, "boilerFact", "(II)I"⟩
abbrev cX7_lowestSupplyForWishes : ByteArray := prog_1_method_42_code
def yX7_lowestSupplyForWishes : MethodName := ⟨RX7, "lowestSupplyForWishes", "()I"⟩
abbrev cX7_grantsWishes : ByteArray := prog_1_method_43_code
def yX7_grantsWishes : MethodName := ⟨RX7, "grantsWishes", "(I)Z"⟩
abbrev cX7_fold : ByteArray := prog_1_method_44_code
def yX7_fold : MethodName := ⟨RX7, "fold", "(JJ)J"⟩
abbrev cX7_foldNodes : ByteArray := prog_1_method_45_code
def yX7_foldNodes : MethodName := ⟨RX7, "foldNodes", "(J)J"⟩
abbrev cX7_foldHeats : ByteArray := prog_1_method_46_code
def yX7_foldHeats : MethodName := ⟨RX7, "foldHeats", "(J)J"⟩
abbrev cX7_foldBoilers : ByteArray := prog_1_method_47_code
def yX7_foldBoilers : MethodName := ⟨RX7, "foldBoilers", "(J)J"⟩
abbrev cX7_copyRow : ByteArray := prog_1_method_48_code
def yX7_copyRow : MethodName := ⟨RX7, "copyRow", "([I[I)V"⟩
def RX8 : String := "HeatBranchesModel"
def TX8 : u_T := fun k => match k with
  | 0 => ("HeatBranchesModel", "s", "[I", true)
  | 1 => ("HeatBranchesModel", "past", "[I", true)
  | 2 => ("HeatBranchesModel", "aside", "[I", true)
  | 3 => ("HeatBranchesModel", "pasts", "I", false)
  | 4 => ("HeatBranchesModel", "text", "[I", true)
  | 5 => ("HeatBranchesModel", "typed", "I", false)
  | 6 => ("HeatBranchesModel", "thrown", "I", false)
  | 7 => ("HeatBranchesModel", "flow", "[I", true)
  | 8 => ("HeatBranchesModel", "warm", "[I", true)
  | 9 => ("HeatBranchesModel", "back", "[I", true)
  | 10 => ("HeatBranchesModel", "returned", "[I", true)
  | 11 => ("HeatBranchesModel", "loads", "[I", true)
  | 12 => ("HeatBranchesModel", "unmet", "I", false)
  | 13 => ("HeatBranchesModel", "spot", "I", false)
  | 14 => ("HeatBranchesModel", "number", "I", false)
  | _ => ("HeatBranchesModel", "h", "J", false)
def tyX8 : Nat → FieldType := fun k => match k with
  | 0 => .array .int
  | 1 => .array .int
  | 2 => .array .int
  | 3 => .int
  | 4 => .array .int
  | 5 => .int
  | 6 => .int
  | 7 => .array .int
  | 8 => .array .int
  | 9 => .array .int
  | 10 => .array .int
  | 11 => .array .int
  | 12 => .int
  | 13 => .int
  | 14 => .int
  | _ => .long
theorem nmX8 : ∀ a, a < 16 → ∀ b, b < 16 → a ≠ b → (TX8 a).2.1 ≠ (TX8 b).2.1 := by decide +kernel
theorem tyX8_ok : ∀ k, k < 16 → parseFieldDescriptor (TX8 k).2.2.1 = some (tyX8 k) := by decide +kernel
abbrev cX8_init : ByteArray := prog_10_method_1_code
def yX8_init : MethodName := ⟨RX8, "<init>", "()V"⟩
abbrev cX8_thrown : ByteArray := prog_10_method_2_code
def yX8_thrown : MethodName := ⟨RX8, "thrown", "()I"⟩
abbrev cX8_in : ByteArray := prog_10_method_3_code
def yX8_in : MethodName := ⟨RX8, "in", "(III)Z"⟩
abbrev cX8_fails : ByteArray := prog_10_method_4_code
def yX8_fails : MethodName := ⟨RX8, "fails", "(I)I"⟩
abbrev cX8_tells : ByteArray := prog_10_method_5_code
def yX8_tells : MethodName := ⟨RX8, "tells", "(I)I"⟩
abbrev cX8_hold : ByteArray := prog_10_method_6_code
def yX8_hold : MethodName := ⟨RX8, "hold", "()V"⟩
abbrev cX8_ends : ByteArray := prog_10_method_7_code
def yX8_ends : MethodName := ⟨RX8, "ends", "(I)I"⟩
abbrev cX8_of : ByteArray := prog_10_method_8_code
def yX8_of : MethodName := ⟨RX8, "of", "(II)I"⟩
abbrev cX8_puts : ByteArray := prog_10_method_9_code
def yX8_puts : MethodName := ⟨RX8, "puts", "(III)V"⟩
abbrev cX8_isNode : ByteArray := prog_10_method_10_code
def yX8_isNode : MethodName := ⟨RX8, "isNode", "(I)Z"⟩
abbrev cX8_isPipe : ByteArray := prog_10_method_11_code
def yX8_isPipe : MethodName := ⟨RX8, "isPipe", "(I)Z"⟩
abbrev cX8_less : ByteArray := prog_10_method_12_code
def yX8_less : MethodName := ⟨RX8, "less", "(II)I"⟩
abbrev cX8_warmth : ByteArray := prog_10_method_13_code
def yX8_warmth : MethodName := ⟨RX8, "warmth", "(I)I"⟩
abbrev cX8_works : ByteArray := prog_10_method_14_code
def yX8_works : MethodName := ⟨RX8, "works", "()V"⟩
abbrev cX8_need : ByteArray := prog_10_method_15_code
def yX8_need : MethodName := ⟨RX8, "need", "()I"⟩
abbrev cX8_delivered : ByteArray := prog_10_method_16_code
def yX8_delivered : MethodName := ⟨RX8, "delivered", "(I)I"⟩
abbrev cX8_billOf : ByteArray := prog_10_method_17_code
def yX8_billOf : MethodName := ⟨RX8, "billOf", "(I)I"⟩
abbrev cX8_heatOf : ByteArray := prog_10_method_18_code
def yX8_heatOf : MethodName := ⟨RX8, "heatOf", "(II)I"⟩
abbrev cX8_sumOf : ByteArray := prog_10_method_19_code
def yX8_sumOf : MethodName := ⟨RX8, "sumOf", "(I)I"⟩
abbrev cX8_ofBoiler : ByteArray := prog_10_method_20_code
def yX8_ofBoiler : MethodName := ⟨RX8, "ofBoiler", "(II)I"⟩
abbrev cX8_placeOf : ByteArray := prog_10_method_21_code
def yX8_placeOf : MethodName := ⟨RX8, "placeOf", "(I)I"⟩
abbrev cX8_boilerAt : ByteArray := prog_10_method_22_code
def yX8_boilerAt : MethodName := ⟨RX8, "boilerAt", "(I)I"⟩
abbrev cX8_costs : ByteArray := prog_10_method_23_code
def yX8_costs : MethodName := ⟨RX8, "costs", "()I"⟩
abbrev cX8_isPipe_ : ByteArray := prog_10_method_24_code
def yX8_isPipe_ : MethodName := ⟨RX8, "isPipe", "(II)Z"⟩
abbrev cX8_isCustomer : ByteArray := prog_10_method_25_code
def yX8_isCustomer : MethodName := ⟨RX8, "isCustomer", "(II)Z"⟩
abbrev cX8_adds : ByteArray := prog_10_method_26_code
def yX8_adds : MethodName := ⟨RX8, "adds", "(IIIII)V"⟩
abbrev cX8_addNode : ByteArray := prog_10_method_27_code
def yX8_addNode : MethodName := ⟨RX8, "addNode", "(IIIII)I"⟩
abbrev cX8_setDraw : ByteArray := prog_10_method_28_code
def yX8_setDraw : MethodName := ⟨RX8, "setDraw", "(III)I"⟩
abbrev cX8_setLeak : ByteArray := prog_10_method_29_code
def yX8_setLeak : MethodName := ⟨RX8, "setLeak", "(II)I"⟩
abbrev cX8_setTemperatures : ByteArray := prog_10_method_30_code
def yX8_setTemperatures : MethodName := ⟨RX8, "setTemperatures", "(II)I"⟩
abbrev cX8_isBelow : ByteArray := prog_10_method_31_code
def yX8_isBelow : MethodName := ⟨RX8, "isBelow", "(II)Z"⟩
abbrev cX8_childMany : ByteArray := prog_10_method_32_code
def yX8_childMany : MethodName := ⟨RX8, "childMany", "(I)I"⟩
abbrev cX8_branchMany : ByteArray := prog_10_method_33_code
def yX8_branchMany : MethodName := ⟨RX8, "branchMany", "(I)I"⟩
abbrev cX8_nodeOf : ByteArray := prog_10_method_34_code
def yX8_nodeOf : MethodName := ⟨RX8, "nodeOf", "(II)I"⟩
abbrev cX8_node : ByteArray := prog_10_method_35_code
def yX8_node : MethodName := ⟨RX8, "node", "(II)I"⟩
abbrev cX8_heat : ByteArray := prog_10_method_36_code
def yX8_heat : MethodName := ⟨RX8, "heat", "(II)I"⟩
abbrev cX8_accounts : ByteArray := prog_10_method_37_code
def yX8_accounts : MethodName := ⟨RX8, "accounts", "()I"⟩
abbrev cX8_meters : ByteArray := prog_10_method_38_code
def yX8_meters : MethodName := ⟨RX8, "meters", "()I"⟩
abbrev cX8_valueOf : ByteArray := prog_10_method_39_code
def yX8_valueOf : MethodName := ⟨RX8, "valueOf", "(I)I"⟩
abbrev cX8_value : ByteArray := prog_10_method_40_code
def yX8_value : MethodName := ⟨RX8, "value", "(I)I"⟩
abbrev cX8_sum : ByteArray := prog_10_method_41_code
def yX8_sum : MethodName := ⟨RX8, "sum", "(I)I"⟩
abbrev cX8_addBoiler : ByteArray := prog_10_method_42_code
def yX8_addBoiler : MethodName := ⟨RX8, "addBoiler", "(III)I"⟩
abbrev cX8_isBoiler : ByteArray := prog_10_method_43_code
def yX8_isBoiler : MethodName := ⟨RX8, "isBoiler", "(I)Z"⟩
abbrev cX8_setCost : ByteArray := prog_10_method_44_code
def yX8_setCost : MethodName := ⟨RX8, "setCost", "(II)I"⟩
abbrev cX8_boilerOf : ByteArray := prog_10_method_45_code
def yX8_boilerOf : MethodName := ⟨RX8, "boilerOf", "(II)I"⟩
abbrev cX8_boiler : ByteArray := prog_10_method_46_code
def yX8_boiler : MethodName := ⟨RX8, "boiler", "(II)I"⟩
abbrev cX8_setTariff : ByteArray := prog_10_method_47_code
def yX8_setTariff : MethodName := ⟨RX8, "setTariff", "(III)I"⟩
abbrev cX8_pass : ByteArray := prog_10_method_48_code
def yX8_pass : MethodName := ⟨RX8, "pass", "(I)I"⟩
abbrev cX8_setMeter : ByteArray := prog_10_method_49_code
def yX8_setMeter : MethodName := ⟨RX8, "setMeter", "(IZ)I"⟩
abbrev cX8_meterAt : ByteArray := prog_10_method_50_code
def yX8_meterAt : MethodName := ⟨RX8, "meterAt", "(I)I"⟩
abbrev cX8_hasMeter : ByteArray := prog_10_method_51_code
def yX8_hasMeter : MethodName := ⟨RX8, "hasMeter", "(I)Z"⟩
abbrev cX8_regionOf : ByteArray := prog_10_method_52_code
def yX8_regionOf : MethodName := ⟨RX8, "regionOf", "(I)I"⟩
abbrev cX8_balanceOf : ByteArray := prog_10_method_53_code
def yX8_balanceOf : MethodName := ⟨RX8, "balanceOf", "(I)I"⟩
abbrev cX8_inBranch : ByteArray := prog_10_method_54_code
def yX8_inBranch : MethodName := ⟨RX8, "inBranch", "(II)I"⟩
abbrev cX8_nextOf : ByteArray := prog_10_method_55_code
def yX8_nextOf : MethodName := ⟨RX8, "nextOf", "(I)I"⟩
abbrev cX8_balance : ByteArray := prog_10_method_56_code
def yX8_balance : MethodName := ⟨RX8, "balance", "(I)I"⟩
abbrev cX8_region : ByteArray := prog_10_method_57_code
def yX8_region : MethodName := ⟨RX8, "region", "(I)I"⟩
abbrev cX8_meterOf : ByteArray := prog_10_method_58_code
def yX8_meterOf : MethodName := ⟨RX8, "meterOf", "(I)I"⟩
abbrev cX8_nextMeter : ByteArray := prog_10_method_59_code
def yX8_nextMeter : MethodName := ⟨RX8, "nextMeter", "(I)I"⟩
abbrev cX8_suspectMany : ByteArray := prog_10_method_60_code
def yX8_suspectMany : MethodName := ⟨RX8, "suspectMany", "()I"⟩
abbrev cX8_suspects : ByteArray := prog_10_method_61_code
def yX8_suspects : MethodName := ⟨RX8, "suspects", "()I"⟩
abbrev cX8_firstNext : ByteArray := prog_10_method_62_code
def yX8_firstNext : MethodName := ⟨RX8, "firstNext", "()I"⟩
abbrev cX8_metersToFind : ByteArray := prog_10_method_63_code
def yX8_metersToFind : MethodName := ⟨RX8, "metersToFind", "()I"⟩
abbrev cX8_supplyFor : ByteArray := prog_10_method_64_code
def yX8_supplyFor : MethodName := ⟨RX8, "supplyFor", "(II)I"⟩
abbrev cX8_isWarm : ByteArray := prog_10_method_65_code
def yX8_isWarm : MethodName := ⟨RX8, "isWarm", "()Z"⟩
abbrev cX8_cheapestSupply : ByteArray := prog_10_method_66_code
def yX8_cheapestSupply : MethodName := ⟨RX8, "cheapestSupply", "()I"⟩
abbrev cX8_saves : ByteArray := prog_10_method_67_code
def yX8_saves : MethodName := ⟨RX8, "saves", "(I)I"⟩
abbrev cX8_efficiency : ByteArray := prog_10_method_68_code
def yX8_efficiency : MethodName := ⟨RX8, "efficiency", "()D"⟩
abbrev cX8_append : ByteArray := prog_10_method_69_code
def yX8_append : MethodName := ⟨RX8, "append", "(I)I"⟩
abbrev cX8_clearText : ByteArray := prog_10_method_70_code
def yX8_clearText : MethodName := ⟨RX8, "clearText", "()I"⟩
abbrev cX8_isDigit : ByteArray := prog_10_method_71_code
def yX8_isDigit : MethodName := ⟨RX8, "isDigit", "()Z"⟩
abbrev cX8_isNumber : ByteArray := prog_10_method_72_code
def yX8_isNumber : MethodName := ⟨RX8, "isNumber", "(IIII)Z"⟩
abbrev cX8_isNodeText : ByteArray := prog_10_method_73_code
def yX8_isNodeText : MethodName := ⟨RX8, "isNodeText", "()Z"⟩
abbrev cX8_parse : ByteArray := prog_10_method_74_code
def yX8_parse : MethodName := ⟨RX8, "parse", "()I"⟩
abbrev cX8_undo : ByteArray := prog_10_method_75_code
def yX8_undo : MethodName := ⟨RX8, "undo", "()I"⟩
abbrev cX8_mix : ByteArray := prog_10_method_76_code
def yX8_mix : MethodName := ⟨RX8, "mix", "(I)V"⟩
abbrev cX8_digest : ByteArray := prog_10_method_77_code
def yX8_digest : MethodName := ⟨RX8, "digest", "()J"⟩
def RJ6 : String := "java/lang/Integer"
def TJ6 : u_T := fun k => match k with
  | _ => ("", "", "", false)
def tyJ6 : Nat → FieldType := fun k => match k with
  | _ => .int
theorem nmJ6 : ∀ a, a < 0 → ∀ b, b < 0 → a ≠ b → (TJ6 a).2.1 ≠ (TJ6 b).2.1 := by decide +kernel
theorem tyJ6_ok : ∀ k, k < 0 → parseFieldDescriptor (TJ6 k).2.2.1 = some (tyJ6 k) := by decide +kernel
abbrev cJ6_bitCount_0f7a4 : ByteArray := prog_15_method_49_code
def yJ6_bitCount_0f7a4 : MethodName := ⟨RJ6, "bitCount", "(I)I"⟩
def RJ9 : String := "java/lang/Math"
def TJ9 : u_T := fun k => match k with
  | _ => ("", "", "", false)
def tyJ9 : Nat → FieldType := fun k => match k with
  | _ => .int
theorem nmJ9 : ∀ a, a < 0 → ∀ b, b < 0 → a ≠ b → (TJ9 a).2.1 ≠ (TJ9 b).2.1 := by decide +kernel
theorem tyJ9_ok : ∀ k, k < 0 → parseFieldDescriptor (TJ9 k).2.2.1 = some (tyJ9 k) := by decide +kernel
abbrev cJ9_abs_0f7a4 : ByteArray := prog_16_method_59_code
def yJ9_abs_0f7a4 : MethodName := ⟨RJ9, "abs", "(I)I"⟩
abbrev cJ9_max_7cf53 : ByteArray := prog_16_method_65_code
def yJ9_max_7cf53 : MethodName := ⟨RJ9, "max", "(II)I"⟩
abbrev cJ9_min_7cf53 : ByteArray := prog_16_method_69_code
def yJ9_min_7cf53 : MethodName := ⟨RJ9, "min", "(II)I"⟩
def RJ0 : String := "java/lang/String"
def TJ0 : u_T := fun k => match k with
  | _ => ("", "", "", false)
def tyJ0 : Nat → FieldType := fun k => match k with
  | _ => .int
theorem nmJ0 : ∀ a, a < 0 → ∀ b, b < 0 → a ≠ b → (TJ0 a).2.1 ≠ (TJ0 b).2.1 := by decide +kernel
theorem tyJ0_ok : ∀ k, k < 0 → parseFieldDescriptor (TJ0 k).2.2.1 = some (tyJ0 k) := by decide +kernel
def RJ10 : String := "java/lang/System"
def TJ10 : u_T := fun k => match k with
  | _ => ("", "", "", false)
def tyJ10 : Nat → FieldType := fun k => match k with
  | _ => .int
theorem nmJ10 : ∀ a, a < 0 → ∀ b, b < 0 → a ≠ b → (TJ10 a).2.1 ≠ (TJ10 b).2.1 := by decide +kernel
theorem tyJ10_ok : ∀ k, k < 0 → parseFieldDescriptor (TJ10 k).2.2.1 = some (tyJ10 k) := by decide +kernel
def RL : String := "HeatBranchesLaw"
abbrev cL_addNode : ByteArray := method_3_code
def yL_addNode : MethodName := ⟨RL, "addNode", "(LHeatBranches;IIIII[J)I"⟩
abbrev cL_setDraw : ByteArray := method_4_code
def yL_setDraw : MethodName := ⟨RL, "setDraw", "(LHeatBranches;III[J)I"⟩
abbrev cL_setLeak : ByteArray := method_5_code
def yL_setLeak : MethodName := ⟨RL, "setLeak", "(LHeatBranches;II[J)I"⟩
abbrev cL_setTemperatures : ByteArray := method_6_code
def yL_setTemperatures : MethodName := ⟨RL, "setTemperatures", "(LHeatBranches;II[J)I"⟩
abbrev cL_node : ByteArray := method_7_code
def yL_node : MethodName := ⟨RL, "node", "(LHeatBranches;II[J)I"⟩
abbrev cL_heat : ByteArray := method_8_code
def yL_heat : MethodName := ⟨RL, "heat", "(LHeatBranches;II[J)I"⟩
abbrev cL_value : ByteArray := method_9_code
def yL_value : MethodName := ⟨RL, "value", "(LHeatBranches;I[J)I"⟩
abbrev cL_sum : ByteArray := method_10_code
def yL_sum : MethodName := ⟨RL, "sum", "(LHeatBranches;I[J)I"⟩
abbrev cL_addBoiler : ByteArray := method_11_code
def yL_addBoiler : MethodName := ⟨RL, "addBoiler", "(LHeatBranches;III[J)I"⟩
abbrev cL_setCost : ByteArray := method_12_code
def yL_setCost : MethodName := ⟨RL, "setCost", "(LHeatBranches;II[J)I"⟩
abbrev cL_boiler : ByteArray := method_13_code
def yL_boiler : MethodName := ⟨RL, "boiler", "(LHeatBranches;II[J)I"⟩
abbrev cL_setTariff : ByteArray := method_14_code
def yL_setTariff : MethodName := ⟨RL, "setTariff", "(LHeatBranches;III[J)I"⟩
abbrev cL_pass : ByteArray := method_15_code
def yL_pass : MethodName := ⟨RL, "pass", "(LHeatBranches;I[J)I"⟩
abbrev cL_setMeter : ByteArray := method_16_code
def yL_setMeter : MethodName := ⟨RL, "setMeter", "(LHeatBranches;IZ[J)I"⟩
abbrev cL_balance : ByteArray := method_17_code
def yL_balance : MethodName := ⟨RL, "balance", "(LHeatBranches;I[J)I"⟩
abbrev cL_region : ByteArray := method_18_code
def yL_region : MethodName := ⟨RL, "region", "(LHeatBranches;I[J)I"⟩
abbrev cL_meterOf : ByteArray := method_19_code
def yL_meterOf : MethodName := ⟨RL, "meterOf", "(LHeatBranches;I[J)I"⟩
abbrev cL_nextMeter : ByteArray := method_20_code
def yL_nextMeter : MethodName := ⟨RL, "nextMeter", "(LHeatBranches;I[J)I"⟩
abbrev cL_supplyFor : ByteArray := method_21_code
def yL_supplyFor : MethodName := ⟨RL, "supplyFor", "(LHeatBranches;II[J)I"⟩
abbrev cL_saves : ByteArray := method_22_code
def yL_saves : MethodName := ⟨RL, "saves", "(LHeatBranches;I[J)I"⟩
abbrev cL_append : ByteArray := method_23_code
def yL_append : MethodName := ⟨RL, "append", "(LHeatBranches;I[J)I"⟩
abbrev cL_undo : ByteArray := method_24_code
def yL_undo : MethodName := ⟨RL, "undo", "(LHeatBranches;[J)I"⟩
abbrev cL_law : ByteArray := code
def yL_law : MethodName := ⟨RL, "law", "([I)Z"⟩
end
section
theorem dX0_init_0 : decode cX0_init 0 = .ok (.aload_n 0, 1) := by decide +kernel
theorem dX0_init_1 : decode cX0_init 1 = .ok (.invokespecial 3, 3) := by decide +kernel
theorem dX0_init_4 : decode cX0_init 4 = .ok (.aload_n 0, 1) := by decide +kernel
theorem dX0_init_5 : decode cX0_init 5 = .ok (.iconst 4, 1) := by decide +kernel
theorem dX0_init_6 : decode cX0_init 6 = .ok (.newarray .int, 2) := by decide +kernel
theorem dX0_init_8 : decode cX0_init 8 = .ok (.putfield 9, 3) := by decide +kernel
theorem dX0_init_11 : decode cX0_init 11 = .ok (.aload_n 0, 1) := by decide +kernel
theorem dX0_init_12 : decode cX0_init 12 = .ok (.iconst 4, 1) := by decide +kernel
theorem dX0_init_13 : decode cX0_init 13 = .ok (.newarray .int, 2) := by decide +kernel
theorem dX0_init_15 : decode cX0_init 15 = .ok (.putfield 15, 3) := by decide +kernel
theorem dX0_init_18 : decode cX0_init 18 = .ok (.aload_n 0, 1) := by decide +kernel
theorem dX0_init_19 : decode cX0_init 19 = .ok (.iconst 4, 1) := by decide +kernel
theorem dX0_init_20 : decode cX0_init 20 = .ok (.newarray .int, 2) := by decide +kernel
theorem dX0_init_22 : decode cX0_init 22 = .ok (.putfield 18, 3) := by decide +kernel
theorem dX0_init_25 : decode cX0_init 25 = .ok (.aload_n 0, 1) := by decide +kernel
theorem dX0_init_26 : decode cX0_init 26 = .ok (.iconst 0, 1) := by decide +kernel
theorem dX0_init_27 : decode cX0_init 27 = .ok (.putfield 21, 3) := by decide +kernel
theorem dX0_init_30 : decode cX0_init 30 = .ok (.return_, 1) := by decide +kernel
theorem dX0_install_0 : decode cX0_install 0 = .ok (.aload_n 0, 1) := by decide +kernel
theorem dX0_install_1 : decode cX0_install 1 = .ok (.getfield 21, 3) := by decide +kernel
theorem dX0_install_4 : decode cX0_install 4 = .ok (.istore 4, 2) := by decide +kernel
theorem dX0_install_6 : decode cX0_install 6 = .ok (.iload 4, 2) := by decide +kernel
theorem dX0_install_8 : decode cX0_install 8 = .ok (.iconst 4, 1) := by decide +kernel
theorem dX0_install_9 : decode cX0_install 9 = .ok (.if_icmp .lt 5, 3) := by decide +kernel
theorem dX0_install_12 : decode cX0_install 12 = .ok (.iconst (-1), 1) := by decide +kernel
theorem dX0_install_13 : decode cX0_install 13 = .ok (.ireturn, 1) := by decide +kernel
theorem dX0_install_14 : decode cX0_install 14 = .ok (.aload_n 0, 1) := by decide +kernel
theorem dX0_install_15 : decode cX0_install 15 = .ok (.getfield 9, 3) := by decide +kernel
theorem dX0_install_18 : decode cX0_install 18 = .ok (.iload 4, 2) := by decide +kernel
theorem dX0_install_20 : decode cX0_install 20 = .ok (.iload_n 1, 1) := by decide +kernel
theorem dX0_install_21 : decode cX0_install 21 = .ok (.iastore, 1) := by decide +kernel
theorem dX0_install_22 : decode cX0_install 22 = .ok (.aload_n 0, 1) := by decide +kernel
theorem dX0_install_23 : decode cX0_install 23 = .ok (.getfield 15, 3) := by decide +kernel
theorem dX0_install_26 : decode cX0_install 26 = .ok (.iload 4, 2) := by decide +kernel
theorem dX0_install_28 : decode cX0_install 28 = .ok (.iload_n 2, 1) := by decide +kernel
theorem dX0_install_29 : decode cX0_install 29 = .ok (.iastore, 1) := by decide +kernel
theorem dX0_install_30 : decode cX0_install 30 = .ok (.aload_n 0, 1) := by decide +kernel
theorem dX0_install_31 : decode cX0_install 31 = .ok (.getfield 18, 3) := by decide +kernel
theorem dX0_install_34 : decode cX0_install 34 = .ok (.iload 4, 2) := by decide +kernel
theorem dX0_install_36 : decode cX0_install 36 = .ok (.iload_n 3, 1) := by decide +kernel
theorem dX0_install_37 : decode cX0_install 37 = .ok (.iastore, 1) := by decide +kernel
theorem dX0_install_38 : decode cX0_install 38 = .ok (.aload_n 0, 1) := by decide +kernel
theorem dX0_install_39 : decode cX0_install 39 = .ok (.iload 4, 2) := by decide +kernel
theorem dX0_install_41 : decode cX0_install 41 = .ok (.iconst 1, 1) := by decide +kernel
theorem dX0_install_42 : decode cX0_install 42 = .ok (.iadd, 1) := by decide +kernel
theorem dX0_install_43 : decode cX0_install 43 = .ok (.putfield 21, 3) := by decide +kernel
theorem dX0_install_46 : decode cX0_install 46 = .ok (.iload 4, 2) := by decide +kernel
theorem dX0_install_48 : decode cX0_install 48 = .ok (.ireturn, 1) := by decide +kernel
theorem dX0_copyFrom_0 : decode cX0_copyFrom 0 = .ok (.aload_n 1, 1) := by decide +kernel
theorem dX0_copyFrom_1 : decode cX0_copyFrom 1 = .ok (.getfield 9, 3) := by decide +kernel
theorem dX0_copyFrom_4 : decode cX0_copyFrom 4 = .ok (.aload_n 0, 1) := by decide +kernel
theorem dX0_copyFrom_5 : decode cX0_copyFrom 5 = .ok (.getfield 9, 3) := by decide +kernel
theorem dX0_copyFrom_8 : decode cX0_copyFrom 8 = .ok (.invokestatic 25, 3) := by decide +kernel
theorem dX0_copyFrom_11 : decode cX0_copyFrom 11 = .ok (.aload_n 1, 1) := by decide +kernel
theorem dX0_copyFrom_12 : decode cX0_copyFrom 12 = .ok (.getfield 15, 3) := by decide +kernel
theorem dX0_copyFrom_15 : decode cX0_copyFrom 15 = .ok (.aload_n 0, 1) := by decide +kernel
theorem dX0_copyFrom_16 : decode cX0_copyFrom 16 = .ok (.getfield 15, 3) := by decide +kernel
theorem dX0_copyFrom_19 : decode cX0_copyFrom 19 = .ok (.invokestatic 25, 3) := by decide +kernel
theorem dX0_copyFrom_22 : decode cX0_copyFrom 22 = .ok (.aload_n 1, 1) := by decide +kernel
theorem dX0_copyFrom_23 : decode cX0_copyFrom 23 = .ok (.getfield 18, 3) := by decide +kernel
theorem dX0_copyFrom_26 : decode cX0_copyFrom 26 = .ok (.aload_n 0, 1) := by decide +kernel
theorem dX0_copyFrom_27 : decode cX0_copyFrom 27 = .ok (.getfield 18, 3) := by decide +kernel
theorem dX0_copyFrom_30 : decode cX0_copyFrom 30 = .ok (.invokestatic 25, 3) := by decide +kernel
theorem dX0_copyFrom_33 : decode cX0_copyFrom 33 = .ok (.aload_n 0, 1) := by decide +kernel
theorem dX0_copyFrom_34 : decode cX0_copyFrom 34 = .ok (.aload_n 1, 1) := by decide +kernel
theorem dX0_copyFrom_35 : decode cX0_copyFrom 35 = .ok (.getfield 21, 3) := by decide +kernel
theorem dX0_copyFrom_38 : decode cX0_copyFrom 38 = .ok (.putfield 21, 3) := by decide +kernel
theorem dX0_copyFrom_41 : decode cX0_copyFrom 41 = .ok (.return_, 1) := by decide +kernel
theorem dX0_placeOf_0 : decode cX0_placeOf 0 = .ok (.iconst 0, 1) := by decide +kernel
theorem dX0_placeOf_1 : decode cX0_placeOf 1 = .ok (.istore_n 2, 1) := by decide +kernel
theorem dX0_placeOf_2 : decode cX0_placeOf 2 = .ok (.iconst 0, 1) := by decide +kernel
theorem dX0_placeOf_3 : decode cX0_placeOf 3 = .ok (.istore_n 3, 1) := by decide +kernel
theorem dX0_placeOf_4 : decode cX0_placeOf 4 = .ok (.iload_n 3, 1) := by decide +kernel
theorem dX0_placeOf_5 : decode cX0_placeOf 5 = .ok (.aload_n 0, 1) := by decide +kernel
theorem dX0_placeOf_6 : decode cX0_placeOf 6 = .ok (.getfield 21, 3) := by decide +kernel
theorem dX0_placeOf_9 : decode cX0_placeOf 9 = .ok (.if_icmp .ge 47, 3) := by decide +kernel
theorem dX0_placeOf_12 : decode cX0_placeOf 12 = .ok (.aload_n 0, 1) := by decide +kernel
theorem dX0_placeOf_13 : decode cX0_placeOf 13 = .ok (.getfield 18, 3) := by decide +kernel
theorem dX0_placeOf_16 : decode cX0_placeOf 16 = .ok (.iload_n 3, 1) := by decide +kernel
theorem dX0_placeOf_17 : decode cX0_placeOf 17 = .ok (.iaload, 1) := by decide +kernel
theorem dX0_placeOf_18 : decode cX0_placeOf 18 = .ok (.aload_n 0, 1) := by decide +kernel
theorem dX0_placeOf_19 : decode cX0_placeOf 19 = .ok (.getfield 18, 3) := by decide +kernel
theorem dX0_placeOf_22 : decode cX0_placeOf 22 = .ok (.iload_n 1, 1) := by decide +kernel
theorem dX0_placeOf_23 : decode cX0_placeOf 23 = .ok (.iaload, 1) := by decide +kernel
theorem dX0_placeOf_24 : decode cX0_placeOf 24 = .ok (.if_icmp .lt 23, 3) := by decide +kernel
theorem dX0_placeOf_27 : decode cX0_placeOf 27 = .ok (.aload_n 0, 1) := by decide +kernel
theorem dX0_placeOf_28 : decode cX0_placeOf 28 = .ok (.getfield 18, 3) := by decide +kernel
theorem dX0_placeOf_31 : decode cX0_placeOf 31 = .ok (.iload_n 3, 1) := by decide +kernel
theorem dX0_placeOf_32 : decode cX0_placeOf 32 = .ok (.iaload, 1) := by decide +kernel
theorem dX0_placeOf_33 : decode cX0_placeOf 33 = .ok (.aload_n 0, 1) := by decide +kernel
theorem dX0_placeOf_34 : decode cX0_placeOf 34 = .ok (.getfield 18, 3) := by decide +kernel
theorem dX0_placeOf_37 : decode cX0_placeOf 37 = .ok (.iload_n 1, 1) := by decide +kernel
theorem dX0_placeOf_38 : decode cX0_placeOf 38 = .ok (.iaload, 1) := by decide +kernel
theorem dX0_placeOf_39 : decode cX0_placeOf 39 = .ok (.if_icmp .ne 11, 3) := by decide +kernel
theorem dX0_placeOf_42 : decode cX0_placeOf 42 = .ok (.iload_n 3, 1) := by decide +kernel
theorem dX0_placeOf_43 : decode cX0_placeOf 43 = .ok (.iload_n 1, 1) := by decide +kernel
theorem dX0_placeOf_44 : decode cX0_placeOf 44 = .ok (.if_icmp .ge 6, 3) := by decide +kernel
theorem dX0_placeOf_47 : decode cX0_placeOf 47 = .ok (.iinc 2 1, 3) := by decide +kernel
theorem dX0_placeOf_50 : decode cX0_placeOf 50 = .ok (.iinc 3 1, 3) := by decide +kernel
theorem dX0_placeOf_53 : decode cX0_placeOf 53 = .ok (.goto (-49), 3) := by decide +kernel
theorem dX0_placeOf_56 : decode cX0_placeOf 56 = .ok (.iload_n 2, 1) := by decide +kernel
theorem dX0_placeOf_57 : decode cX0_placeOf 57 = .ok (.ireturn, 1) := by decide +kernel
theorem dX0_atPlace_0 : decode cX0_atPlace 0 = .ok (.iconst 0, 1) := by decide +kernel
theorem dX0_atPlace_1 : decode cX0_atPlace 1 = .ok (.istore_n 2, 1) := by decide +kernel
theorem dX0_atPlace_2 : decode cX0_atPlace 2 = .ok (.iload_n 2, 1) := by decide +kernel
theorem dX0_atPlace_3 : decode cX0_atPlace 3 = .ok (.aload_n 0, 1) := by decide +kernel
theorem dX0_atPlace_4 : decode cX0_atPlace 4 = .ok (.getfield 21, 3) := by decide +kernel
theorem dX0_atPlace_7 : decode cX0_atPlace 7 = .ok (.if_icmp .ge 20, 3) := by decide +kernel
theorem dX0_atPlace_10 : decode cX0_atPlace 10 = .ok (.aload_n 0, 1) := by decide +kernel
theorem dX0_atPlace_11 : decode cX0_atPlace 11 = .ok (.iload_n 2, 1) := by decide +kernel
theorem dX0_atPlace_12 : decode cX0_atPlace 12 = .ok (.invokevirtual 29, 3) := by decide +kernel
theorem dX0_atPlace_15 : decode cX0_atPlace 15 = .ok (.iload_n 1, 1) := by decide +kernel
theorem dX0_atPlace_16 : decode cX0_atPlace 16 = .ok (.if_icmp .ne 5, 3) := by decide +kernel
theorem dX0_atPlace_19 : decode cX0_atPlace 19 = .ok (.iload_n 2, 1) := by decide +kernel
theorem dX0_atPlace_20 : decode cX0_atPlace 20 = .ok (.ireturn, 1) := by decide +kernel
theorem dX0_atPlace_21 : decode cX0_atPlace 21 = .ok (.iinc 2 1, 3) := by decide +kernel
theorem dX0_atPlace_24 : decode cX0_atPlace 24 = .ok (.goto (-22), 3) := by decide +kernel
theorem dX0_atPlace_27 : decode cX0_atPlace 27 = .ok (.iconst (-1), 1) := by decide +kernel
theorem dX0_atPlace_28 : decode cX0_atPlace 28 = .ok (.ireturn, 1) := by decide +kernel
theorem dX1_init_0 : decode cX1_init 0 = .ok (.aload_n 0, 1) := by decide +kernel
theorem dX1_init_1 : decode cX1_init 1 = .ok (.invokespecial 3, 3) := by decide +kernel
theorem dX1_init_4 : decode cX1_init 4 = .ok (.aload_n 0, 1) := by decide +kernel
theorem dX1_init_5 : decode cX1_init 5 = .ok (.iconst 4, 1) := by decide +kernel
theorem dX1_init_6 : decode cX1_init 6 = .ok (.anewarray 9, 3) := by decide +kernel
theorem dX1_init_9 : decode cX1_init 9 = .ok (.putfield 11, 3) := by decide +kernel
theorem dX1_init_12 : decode cX1_init 12 = .ok (.aload_n 0, 1) := by decide +kernel
theorem dX1_init_13 : decode cX1_init 13 = .ok (.iconst 0, 1) := by decide +kernel
theorem dX1_init_14 : decode cX1_init 14 = .ok (.putfield 17, 3) := by decide +kernel
theorem dX1_init_17 : decode cX1_init 17 = .ok (.aload_n 0, 1) := by decide +kernel
theorem dX1_init_18 : decode cX1_init 18 = .ok (.iconst 0, 1) := by decide +kernel
theorem dX1_init_19 : decode cX1_init 19 = .ok (.putfield 21, 3) := by decide +kernel
theorem dX1_init_22 : decode cX1_init 22 = .ok (.iconst 0, 1) := by decide +kernel
theorem dX1_init_23 : decode cX1_init 23 = .ok (.istore_n 1, 1) := by decide +kernel
theorem dX1_init_24 : decode cX1_init 24 = .ok (.iload_n 1, 1) := by decide +kernel
theorem dX1_init_25 : decode cX1_init 25 = .ok (.iconst 4, 1) := by decide +kernel
theorem dX1_init_26 : decode cX1_init 26 = .ok (.if_icmp .ge 22, 3) := by decide +kernel
theorem dX1_init_29 : decode cX1_init 29 = .ok (.aload_n 0, 1) := by decide +kernel
theorem dX1_init_30 : decode cX1_init 30 = .ok (.getfield 11, 3) := by decide +kernel
theorem dX1_init_33 : decode cX1_init 33 = .ok (.iload_n 1, 1) := by decide +kernel
theorem dX1_init_34 : decode cX1_init 34 = .ok (.new 9, 3) := by decide +kernel
theorem dX1_init_37 : decode cX1_init 37 = .ok (.dup, 1) := by decide +kernel
theorem dX1_init_38 : decode cX1_init 38 = .ok (.invokespecial 24, 3) := by decide +kernel
theorem dX1_init_41 : decode cX1_init 41 = .ok (.aastore, 1) := by decide +kernel
theorem dX1_init_42 : decode cX1_init 42 = .ok (.iinc 1 1, 3) := by decide +kernel
theorem dX1_init_45 : decode cX1_init 45 = .ok (.goto (-21), 3) := by decide +kernel
theorem dX1_init_48 : decode cX1_init 48 = .ok (.return_, 1) := by decide +kernel
theorem dX1_slot_0 : decode cX1_slot 0 = .ok (.aload_n 0, 1) := by decide +kernel
theorem dX1_slot_1 : decode cX1_slot 1 = .ok (.getfield 17, 3) := by decide +kernel
theorem dX1_slot_4 : decode cX1_slot 4 = .ok (.iload_n 1, 1) := by decide +kernel
theorem dX1_slot_5 : decode cX1_slot 5 = .ok (.iadd, 1) := by decide +kernel
theorem dX1_slot_6 : decode cX1_slot 6 = .ok (.iconst 4, 1) := by decide +kernel
theorem dX1_slot_7 : decode cX1_slot 7 = .ok (.irem, 1) := by decide +kernel
theorem dX1_slot_8 : decode cX1_slot 8 = .ok (.istore_n 2, 1) := by decide +kernel
theorem dX1_slot_9 : decode cX1_slot 9 = .ok (.iload_n 2, 1) := by decide +kernel
theorem dX1_slot_10 : decode cX1_slot 10 = .ok (.ifCond .lt 12, 3) := by decide +kernel
theorem dX1_slot_13 : decode cX1_slot 13 = .ok (.aload_n 0, 1) := by decide +kernel
theorem dX1_slot_14 : decode cX1_slot 14 = .ok (.getfield 11, 3) := by decide +kernel
theorem dX1_slot_17 : decode cX1_slot 17 = .ok (.iload_n 2, 1) := by decide +kernel
theorem dX1_slot_18 : decode cX1_slot 18 = .ok (.aaload, 1) := by decide +kernel
theorem dX1_slot_19 : decode cX1_slot 19 = .ok (.goto 4, 3) := by decide +kernel
theorem dX1_slot_22 : decode cX1_slot 22 = .ok (.aconst_null, 1) := by decide +kernel
theorem dX1_slot_23 : decode cX1_slot 23 = .ok (.areturn, 1) := by decide +kernel
theorem dX1_keep_0 : decode cX1_keep 0 = .ok (.aload_n 0, 1) := by decide +kernel
theorem dX1_keep_1 : decode cX1_keep 1 = .ok (.aload_n 0, 1) := by decide +kernel
theorem dX1_keep_2 : decode cX1_keep 2 = .ok (.getfield 21, 3) := by decide +kernel
theorem dX1_keep_5 : decode cX1_keep 5 = .ok (.invokevirtual 25, 3) := by decide +kernel
theorem dX1_keep_8 : decode cX1_keep 8 = .ok (.astore_n 2, 1) := by decide +kernel
theorem dX1_keep_9 : decode cX1_keep 9 = .ok (.aload_n 2, 1) := by decide +kernel
theorem dX1_keep_10 : decode cX1_keep 10 = .ok (.ifnonnull 4, 3) := by decide +kernel
theorem dX1_keep_13 : decode cX1_keep 13 = .ok (.return_, 1) := by decide +kernel
theorem dX1_keep_14 : decode cX1_keep 14 = .ok (.aload_n 2, 1) := by decide +kernel
theorem dX1_keep_15 : decode cX1_keep 15 = .ok (.aload_n 1, 1) := by decide +kernel
theorem dX1_keep_16 : decode cX1_keep 16 = .ok (.invokevirtual 29, 3) := by decide +kernel
theorem dX1_keep_19 : decode cX1_keep 19 = .ok (.aload_n 0, 1) := by decide +kernel
theorem dX1_keep_20 : decode cX1_keep 20 = .ok (.getfield 21, 3) := by decide +kernel
theorem dX1_keep_23 : decode cX1_keep 23 = .ok (.iconst 4, 1) := by decide +kernel
theorem dX1_keep_24 : decode cX1_keep 24 = .ok (.if_icmp .ge 16, 3) := by decide +kernel
theorem dX1_keep_27 : decode cX1_keep 27 = .ok (.aload_n 0, 1) := by decide +kernel
theorem dX1_keep_28 : decode cX1_keep 28 = .ok (.dup, 1) := by decide +kernel
theorem dX1_keep_29 : decode cX1_keep 29 = .ok (.getfield 21, 3) := by decide +kernel
theorem dX1_keep_32 : decode cX1_keep 32 = .ok (.iconst 1, 1) := by decide +kernel
theorem dX1_keep_33 : decode cX1_keep 33 = .ok (.iadd, 1) := by decide +kernel
theorem dX1_keep_34 : decode cX1_keep 34 = .ok (.putfield 21, 3) := by decide +kernel
theorem dX1_keep_37 : decode cX1_keep 37 = .ok (.goto 15, 3) := by decide +kernel
theorem dX1_keep_40 : decode cX1_keep 40 = .ok (.aload_n 0, 1) := by decide +kernel
theorem dX1_keep_41 : decode cX1_keep 41 = .ok (.aload_n 0, 1) := by decide +kernel
theorem dX1_keep_42 : decode cX1_keep 42 = .ok (.getfield 17, 3) := by decide +kernel
theorem dX1_keep_45 : decode cX1_keep 45 = .ok (.iconst 1, 1) := by decide +kernel
theorem dX1_keep_46 : decode cX1_keep 46 = .ok (.iadd, 1) := by decide +kernel
theorem dX1_keep_47 : decode cX1_keep 47 = .ok (.iconst 4, 1) := by decide +kernel
theorem dX1_keep_48 : decode cX1_keep 48 = .ok (.irem, 1) := by decide +kernel
theorem dX1_keep_49 : decode cX1_keep 49 = .ok (.putfield 17, 3) := by decide +kernel
theorem dX1_keep_52 : decode cX1_keep 52 = .ok (.return_, 1) := by decide +kernel
theorem dX1_bringBack_0 : decode cX1_bringBack 0 = .ok (.aload_n 0, 1) := by decide +kernel
theorem dX1_bringBack_1 : decode cX1_bringBack 1 = .ok (.aload_n 0, 1) := by decide +kernel
theorem dX1_bringBack_2 : decode cX1_bringBack 2 = .ok (.getfield 21, 3) := by decide +kernel
theorem dX1_bringBack_5 : decode cX1_bringBack 5 = .ok (.iconst 1, 1) := by decide +kernel
theorem dX1_bringBack_6 : decode cX1_bringBack 6 = .ok (.isub, 1) := by decide +kernel
theorem dX1_bringBack_7 : decode cX1_bringBack 7 = .ok (.invokevirtual 25, 3) := by decide +kernel
theorem dX1_bringBack_10 : decode cX1_bringBack 10 = .ok (.astore_n 2, 1) := by decide +kernel
theorem dX1_bringBack_11 : decode cX1_bringBack 11 = .ok (.aload_n 2, 1) := by decide +kernel
theorem dX1_bringBack_12 : decode cX1_bringBack 12 = .ok (.ifnonnull 4, 3) := by decide +kernel
theorem dX1_bringBack_15 : decode cX1_bringBack 15 = .ok (.return_, 1) := by decide +kernel
theorem dX1_bringBack_16 : decode cX1_bringBack 16 = .ok (.aload_n 1, 1) := by decide +kernel
theorem dX1_bringBack_17 : decode cX1_bringBack 17 = .ok (.aload_n 2, 1) := by decide +kernel
theorem dX1_bringBack_18 : decode cX1_bringBack 18 = .ok (.invokevirtual 29, 3) := by decide +kernel
theorem dX1_bringBack_21 : decode cX1_bringBack 21 = .ok (.aload_n 0, 1) := by decide +kernel
theorem dX1_bringBack_22 : decode cX1_bringBack 22 = .ok (.dup, 1) := by decide +kernel
theorem dX1_bringBack_23 : decode cX1_bringBack 23 = .ok (.getfield 21, 3) := by decide +kernel
theorem dX1_bringBack_26 : decode cX1_bringBack 26 = .ok (.iconst 1, 1) := by decide +kernel
theorem dX1_bringBack_27 : decode cX1_bringBack 27 = .ok (.isub, 1) := by decide +kernel
theorem dX1_bringBack_28 : decode cX1_bringBack 28 = .ok (.putfield 21, 3) := by decide +kernel
theorem dX1_bringBack_31 : decode cX1_bringBack 31 = .ok (.return_, 1) := by decide +kernel
theorem dX2_init_0 : decode cX2_init 0 = .ok (.aload_n 0, 1) := by decide +kernel
theorem dX2_init_1 : decode cX2_init 1 = .ok (.invokespecial 3, 3) := by decide +kernel
theorem dX2_init_4 : decode cX2_init 4 = .ok (.aload_n 0, 1) := by decide +kernel
theorem dX2_init_5 : decode cX2_init 5 = .ok (.bipush 16, 2) := by decide +kernel
theorem dX2_init_7 : decode cX2_init 7 = .ok (.newarray .int, 2) := by decide +kernel
theorem dX2_init_9 : decode cX2_init 9 = .ok (.putfield 9, 3) := by decide +kernel
theorem dX2_init_12 : decode cX2_init 12 = .ok (.aload_n 0, 1) := by decide +kernel
theorem dX2_init_13 : decode cX2_init 13 = .ok (.bipush 16, 2) := by decide +kernel
theorem dX2_init_15 : decode cX2_init 15 = .ok (.newarray .int, 2) := by decide +kernel
theorem dX2_init_17 : decode cX2_init 17 = .ok (.putfield 15, 3) := by decide +kernel
theorem dX2_init_20 : decode cX2_init 20 = .ok (.aload_n 0, 1) := by decide +kernel
theorem dX2_init_21 : decode cX2_init 21 = .ok (.bipush 16, 2) := by decide +kernel
theorem dX2_init_23 : decode cX2_init 23 = .ok (.newarray .int, 2) := by decide +kernel
theorem dX2_init_25 : decode cX2_init 25 = .ok (.putfield 18, 3) := by decide +kernel
theorem dX2_init_28 : decode cX2_init 28 = .ok (.aload_n 0, 1) := by decide +kernel
theorem dX2_init_29 : decode cX2_init 29 = .ok (.iconst 4, 1) := by decide +kernel
theorem dX2_init_30 : decode cX2_init 30 = .ok (.newarray .int, 2) := by decide +kernel
theorem dX2_init_32 : decode cX2_init 32 = .ok (.putfield 21, 3) := by decide +kernel
theorem dX2_init_35 : decode cX2_init 35 = .ok (.aload_n 0, 1) := by decide +kernel
theorem dX2_init_36 : decode cX2_init 36 = .ok (.iconst 0, 1) := by decide +kernel
theorem dX2_init_37 : decode cX2_init 37 = .ok (.putfield 24, 3) := by decide +kernel
theorem dX2_init_40 : decode cX2_init 40 = .ok (.aload_n 0, 1) := by decide +kernel
theorem dX2_init_41 : decode cX2_init 41 = .ok (.iconst 0, 1) := by decide +kernel
theorem dX2_init_42 : decode cX2_init 42 = .ok (.putfield 28, 3) := by decide +kernel
theorem dX2_init_45 : decode cX2_init 45 = .ok (.aload_n 0, 1) := by decide +kernel
theorem dX2_init_46 : decode cX2_init 46 = .ok (.iconst 0, 1) := by decide +kernel
theorem dX2_init_47 : decode cX2_init 47 = .ok (.putfield 31, 3) := by decide +kernel
theorem dX2_init_50 : decode cX2_init 50 = .ok (.return_, 1) := by decide +kernel
theorem dX2_settle_0 : decode cX2_settle 0 = .ok (.aload_n 0, 1) := by decide +kernel
theorem dX2_settle_1 : decode cX2_settle 1 = .ok (.aload_n 1, 1) := by decide +kernel
theorem dX2_settle_2 : decode cX2_settle 2 = .ok (.getfield 34, 3) := by decide +kernel
theorem dX2_settle_5 : decode cX2_settle 5 = .ok (.invokevirtual 40, 3) := by decide +kernel
theorem dX2_settle_8 : decode cX2_settle 8 = .ok (.aload_n 0, 1) := by decide +kernel
theorem dX2_settle_9 : decode cX2_settle 9 = .ok (.aload_n 1, 1) := by decide +kernel
theorem dX2_settle_10 : decode cX2_settle 10 = .ok (.iload_n 2, 1) := by decide +kernel
theorem dX2_settle_11 : decode cX2_settle 11 = .ok (.invokevirtual 44, 3) := by decide +kernel
theorem dX2_settle_14 : decode cX2_settle 14 = .ok (.aload_n 0, 1) := by decide +kernel
theorem dX2_settle_15 : decode cX2_settle 15 = .ok (.aload_n 1, 1) := by decide +kernel
theorem dX2_settle_16 : decode cX2_settle 16 = .ok (.getfield 34, 3) := by decide +kernel
theorem dX2_settle_19 : decode cX2_settle 19 = .ok (.invokevirtual 48, 3) := by decide +kernel
theorem dX2_settle_22 : decode cX2_settle 22 = .ok (.aload_n 0, 1) := by decide +kernel
theorem dX2_settle_23 : decode cX2_settle 23 = .ok (.iconst 0, 1) := by decide +kernel
theorem dX2_settle_24 : decode cX2_settle 24 = .ok (.aload_n 0, 1) := by decide +kernel
theorem dX2_settle_25 : decode cX2_settle 25 = .ok (.getfield 9, 3) := by decide +kernel
theorem dX2_settle_28 : decode cX2_settle 28 = .ok (.iconst 0, 1) := by decide +kernel
theorem dX2_settle_29 : decode cX2_settle 29 = .ok (.iaload, 1) := by decide +kernel
theorem dX2_settle_30 : decode cX2_settle 30 = .ok (.iload_n 2, 1) := by decide +kernel
theorem dX2_settle_31 : decode cX2_settle 31 = .ok (.imul, 1) := by decide +kernel
theorem dX2_settle_32 : decode cX2_settle 32 = .ok (.aload_n 0, 1) := by decide +kernel
theorem dX2_settle_33 : decode cX2_settle 33 = .ok (.getfield 18, 3) := by decide +kernel
theorem dX2_settle_36 : decode cX2_settle 36 = .ok (.iconst 0, 1) := by decide +kernel
theorem dX2_settle_37 : decode cX2_settle 37 = .ok (.iaload, 1) := by decide +kernel
theorem dX2_settle_38 : decode cX2_settle 38 = .ok (.isub, 1) := by decide +kernel
theorem dX2_settle_39 : decode cX2_settle 39 = .ok (.invokestatic 51, 3) := by decide +kernel
theorem dX2_settle_42 : decode cX2_settle 42 = .ok (.putfield 24, 3) := by decide +kernel
theorem dX2_settle_45 : decode cX2_settle 45 = .ok (.aload_n 0, 1) := by decide +kernel
theorem dX2_settle_46 : decode cX2_settle 46 = .ok (.aload_n 1, 1) := by decide +kernel
theorem dX2_settle_47 : decode cX2_settle 47 = .ok (.getfield 57, 3) := by decide +kernel
theorem dX2_settle_50 : decode cX2_settle 50 = .ok (.invokevirtual 61, 3) := by decide +kernel
theorem dX2_settle_53 : decode cX2_settle 53 = .ok (.return_, 1) := by decide +kernel
theorem dX2_settleFlows_0 : decode cX2_settleFlows 0 = .ok (.iconst 0, 1) := by decide +kernel
theorem dX2_settleFlows_1 : decode cX2_settleFlows 1 = .ok (.istore_n 2, 1) := by decide +kernel
theorem dX2_settleFlows_2 : decode cX2_settleFlows 2 = .ok (.iload_n 2, 1) := by decide +kernel
theorem dX2_settleFlows_3 : decode cX2_settleFlows 3 = .ok (.aload_n 1, 1) := by decide +kernel
theorem dX2_settleFlows_4 : decode cX2_settleFlows 4 = .ok (.getfield 65, 3) := by decide +kernel
theorem dX2_settleFlows_7 : decode cX2_settleFlows 7 = .ok (.if_icmp .ge 28, 3) := by decide +kernel
theorem dX2_settleFlows_10 : decode cX2_settleFlows 10 = .ok (.aload_n 0, 1) := by decide +kernel
theorem dX2_settleFlows_11 : decode cX2_settleFlows 11 = .ok (.getfield 9, 3) := by decide +kernel
theorem dX2_settleFlows_14 : decode cX2_settleFlows 14 = .ok (.iload_n 2, 1) := by decide +kernel
theorem dX2_settleFlows_15 : decode cX2_settleFlows 15 = .ok (.aload_n 1, 1) := by decide +kernel
theorem dX2_settleFlows_16 : decode cX2_settleFlows 16 = .ok (.getfield 70, 3) := by decide +kernel
theorem dX2_settleFlows_19 : decode cX2_settleFlows 19 = .ok (.iload_n 2, 1) := by decide +kernel
theorem dX2_settleFlows_20 : decode cX2_settleFlows 20 = .ok (.iaload, 1) := by decide +kernel
theorem dX2_settleFlows_21 : decode cX2_settleFlows 21 = .ok (.aload_n 1, 1) := by decide +kernel
theorem dX2_settleFlows_22 : decode cX2_settleFlows 22 = .ok (.getfield 73, 3) := by decide +kernel
theorem dX2_settleFlows_25 : decode cX2_settleFlows 25 = .ok (.iload_n 2, 1) := by decide +kernel
theorem dX2_settleFlows_26 : decode cX2_settleFlows 26 = .ok (.iaload, 1) := by decide +kernel
theorem dX2_settleFlows_27 : decode cX2_settleFlows 27 = .ok (.iadd, 1) := by decide +kernel
theorem dX2_settleFlows_28 : decode cX2_settleFlows 28 = .ok (.iastore, 1) := by decide +kernel
theorem dX2_settleFlows_29 : decode cX2_settleFlows 29 = .ok (.iinc 2 1, 3) := by decide +kernel
theorem dX2_settleFlows_32 : decode cX2_settleFlows 32 = .ok (.goto (-30), 3) := by decide +kernel
theorem dX2_settleFlows_35 : decode cX2_settleFlows 35 = .ok (.aload_n 1, 1) := by decide +kernel
theorem dX2_settleFlows_36 : decode cX2_settleFlows 36 = .ok (.aload_n 0, 1) := by decide +kernel
theorem dX2_settleFlows_37 : decode cX2_settleFlows 37 = .ok (.getfield 9, 3) := by decide +kernel
theorem dX2_settleFlows_40 : decode cX2_settleFlows 40 = .ok (.invokestatic 76, 3) := by decide +kernel
theorem dX2_settleFlows_43 : decode cX2_settleFlows 43 = .ok (.return_, 1) := by decide +kernel
theorem dX2_settleWarmth_0 : decode cX2_settleWarmth 0 = .ok (.aload_n 1, 1) := by decide +kernel
theorem dX2_settleWarmth_1 : decode cX2_settleWarmth 1 = .ok (.getfield 34, 3) := by decide +kernel
theorem dX2_settleWarmth_4 : decode cX2_settleWarmth 4 = .ok (.astore_n 3, 1) := by decide +kernel
theorem dX2_settleWarmth_5 : decode cX2_settleWarmth 5 = .ok (.aload_n 0, 1) := by decide +kernel
theorem dX2_settleWarmth_6 : decode cX2_settleWarmth 6 = .ok (.getfield 15, 3) := by decide +kernel
theorem dX2_settleWarmth_9 : decode cX2_settleWarmth 9 = .ok (.iconst 0, 1) := by decide +kernel
theorem dX2_settleWarmth_10 : decode cX2_settleWarmth 10 = .ok (.iload_n 2, 1) := by decide +kernel
theorem dX2_settleWarmth_11 : decode cX2_settleWarmth 11 = .ok (.iastore, 1) := by decide +kernel
theorem dX2_settleWarmth_12 : decode cX2_settleWarmth 12 = .ok (.iconst 1, 1) := by decide +kernel
theorem dX2_settleWarmth_13 : decode cX2_settleWarmth 13 = .ok (.istore 4, 2) := by decide +kernel
theorem dX2_settleWarmth_15 : decode cX2_settleWarmth 15 = .ok (.iload 4, 2) := by decide +kernel
theorem dX2_settleWarmth_17 : decode cX2_settleWarmth 17 = .ok (.aload_n 3, 1) := by decide +kernel
theorem dX2_settleWarmth_18 : decode cX2_settleWarmth 18 = .ok (.getfield 65, 3) := by decide +kernel
theorem dX2_settleWarmth_21 : decode cX2_settleWarmth 21 = .ok (.if_icmp .ge 56, 3) := by decide +kernel
theorem dX2_settleWarmth_24 : decode cX2_settleWarmth 24 = .ok (.aload_n 3, 1) := by decide +kernel
theorem dX2_settleWarmth_25 : decode cX2_settleWarmth 25 = .ok (.getfield 80, 3) := by decide +kernel
theorem dX2_settleWarmth_28 : decode cX2_settleWarmth 28 = .ok (.iload 4, 2) := by decide +kernel
theorem dX2_settleWarmth_30 : decode cX2_settleWarmth 30 = .ok (.iaload, 1) := by decide +kernel
theorem dX2_settleWarmth_31 : decode cX2_settleWarmth 31 = .ok (.aload_n 3, 1) := by decide +kernel
theorem dX2_settleWarmth_32 : decode cX2_settleWarmth 32 = .ok (.getfield 83, 3) := by decide +kernel
theorem dX2_settleWarmth_35 : decode cX2_settleWarmth 35 = .ok (.iload 4, 2) := by decide +kernel
theorem dX2_settleWarmth_37 : decode cX2_settleWarmth 37 = .ok (.iaload, 1) := by decide +kernel
theorem dX2_settleWarmth_38 : decode cX2_settleWarmth 38 = .ok (.imul, 1) := by decide +kernel
theorem dX2_settleWarmth_39 : decode cX2_settleWarmth 39 = .ok (.istore 5, 2) := by decide +kernel
theorem dX2_settleWarmth_41 : decode cX2_settleWarmth 41 = .ok (.aload_n 0, 1) := by decide +kernel
theorem dX2_settleWarmth_42 : decode cX2_settleWarmth 42 = .ok (.getfield 15, 3) := by decide +kernel
theorem dX2_settleWarmth_45 : decode cX2_settleWarmth 45 = .ok (.iload 4, 2) := by decide +kernel
theorem dX2_settleWarmth_47 : decode cX2_settleWarmth 47 = .ok (.aload_n 0, 1) := by decide +kernel
theorem dX2_settleWarmth_48 : decode cX2_settleWarmth 48 = .ok (.aload_n 3, 1) := by decide +kernel
theorem dX2_settleWarmth_49 : decode cX2_settleWarmth 49 = .ok (.iload 4, 2) := by decide +kernel
theorem dX2_settleWarmth_51 : decode cX2_settleWarmth 51 = .ok (.invokevirtual 86, 3) := by decide +kernel
theorem dX2_settleWarmth_54 : decode cX2_settleWarmth 54 = .ok (.aload_n 1, 1) := by decide +kernel
theorem dX2_settleWarmth_55 : decode cX2_settleWarmth 55 = .ok (.getfield 90, 3) := by decide +kernel
theorem dX2_settleWarmth_58 : decode cX2_settleWarmth 58 = .ok (.iload 5, 2) := by decide +kernel
theorem dX2_settleWarmth_60 : decode cX2_settleWarmth 60 = .ok (.aload_n 0, 1) := by decide +kernel
theorem dX2_settleWarmth_61 : decode cX2_settleWarmth 61 = .ok (.getfield 9, 3) := by decide +kernel
theorem dX2_settleWarmth_64 : decode cX2_settleWarmth 64 = .ok (.iload 4, 2) := by decide +kernel
theorem dX2_settleWarmth_66 : decode cX2_settleWarmth 66 = .ok (.iaload, 1) := by decide +kernel
theorem dX2_settleWarmth_67 : decode cX2_settleWarmth 67 = .ok (.invokestatic 93, 3) := by decide +kernel
theorem dX2_settleWarmth_70 : decode cX2_settleWarmth 70 = .ok (.iastore, 1) := by decide +kernel
theorem dX2_settleWarmth_71 : decode cX2_settleWarmth 71 = .ok (.iinc 4 1, 3) := by decide +kernel
theorem dX2_settleWarmth_74 : decode cX2_settleWarmth 74 = .ok (.goto (-59), 3) := by decide +kernel
theorem dX2_settleWarmth_77 : decode cX2_settleWarmth 77 = .ok (.return_, 1) := by decide +kernel
theorem dX2_settleReturns_0 : decode cX2_settleReturns 0 = .ok (.iconst 0, 1) := by decide +kernel
theorem dX2_settleReturns_1 : decode cX2_settleReturns 1 = .ok (.istore_n 2, 1) := by decide +kernel
theorem dX2_settleReturns_2 : decode cX2_settleReturns 2 = .ok (.iload_n 2, 1) := by decide +kernel
theorem dX2_settleReturns_3 : decode cX2_settleReturns 3 = .ok (.aload_n 1, 1) := by decide +kernel
theorem dX2_settleReturns_4 : decode cX2_settleReturns 4 = .ok (.getfield 65, 3) := by decide +kernel
theorem dX2_settleReturns_7 : decode cX2_settleReturns 7 = .ok (.if_icmp .ge 28, 3) := by decide +kernel
theorem dX2_settleReturns_10 : decode cX2_settleReturns 10 = .ok (.aload_n 0, 1) := by decide +kernel
theorem dX2_settleReturns_11 : decode cX2_settleReturns 11 = .ok (.getfield 18, 3) := by decide +kernel
theorem dX2_settleReturns_14 : decode cX2_settleReturns 14 = .ok (.iload_n 2, 1) := by decide +kernel
theorem dX2_settleReturns_15 : decode cX2_settleReturns 15 = .ok (.aload_n 1, 1) := by decide +kernel
theorem dX2_settleReturns_16 : decode cX2_settleReturns 16 = .ok (.getfield 70, 3) := by decide +kernel
theorem dX2_settleReturns_19 : decode cX2_settleReturns 19 = .ok (.iload_n 2, 1) := by decide +kernel
theorem dX2_settleReturns_20 : decode cX2_settleReturns 20 = .ok (.iaload, 1) := by decide +kernel
theorem dX2_settleReturns_21 : decode cX2_settleReturns 21 = .ok (.aload_n 0, 1) := by decide +kernel
theorem dX2_settleReturns_22 : decode cX2_settleReturns 22 = .ok (.aload_n 1, 1) := by decide +kernel
theorem dX2_settleReturns_23 : decode cX2_settleReturns 23 = .ok (.iload_n 2, 1) := by decide +kernel
theorem dX2_settleReturns_24 : decode cX2_settleReturns 24 = .ok (.invokevirtual 97, 3) := by decide +kernel
theorem dX2_settleReturns_27 : decode cX2_settleReturns 27 = .ok (.imul, 1) := by decide +kernel
theorem dX2_settleReturns_28 : decode cX2_settleReturns 28 = .ok (.iastore, 1) := by decide +kernel
theorem dX2_settleReturns_29 : decode cX2_settleReturns 29 = .ok (.iinc 2 1, 3) := by decide +kernel
theorem dX2_settleReturns_32 : decode cX2_settleReturns 32 = .ok (.goto (-30), 3) := by decide +kernel
theorem dX2_settleReturns_35 : decode cX2_settleReturns 35 = .ok (.aload_n 1, 1) := by decide +kernel
theorem dX2_settleReturns_36 : decode cX2_settleReturns 36 = .ok (.aload_n 0, 1) := by decide +kernel
theorem dX2_settleReturns_37 : decode cX2_settleReturns 37 = .ok (.getfield 18, 3) := by decide +kernel
theorem dX2_settleReturns_40 : decode cX2_settleReturns 40 = .ok (.invokestatic 76, 3) := by decide +kernel
theorem dX2_settleReturns_43 : decode cX2_settleReturns 43 = .ok (.return_, 1) := by decide +kernel
theorem dX2_settleLoads_0 : decode cX2_settleLoads 0 = .ok (.aload_n 0, 1) := by decide +kernel
theorem dX2_settleLoads_1 : decode cX2_settleLoads 1 = .ok (.getfield 24, 3) := by decide +kernel
theorem dX2_settleLoads_4 : decode cX2_settleLoads 4 = .ok (.istore_n 2, 1) := by decide +kernel
theorem dX2_settleLoads_5 : decode cX2_settleLoads 5 = .ok (.aload_n 0, 1) := by decide +kernel
theorem dX2_settleLoads_6 : decode cX2_settleLoads 6 = .ok (.iconst 0, 1) := by decide +kernel
theorem dX2_settleLoads_7 : decode cX2_settleLoads 7 = .ok (.putfield 31, 3) := by decide +kernel
theorem dX2_settleLoads_10 : decode cX2_settleLoads 10 = .ok (.iconst 0, 1) := by decide +kernel
theorem dX2_settleLoads_11 : decode cX2_settleLoads 11 = .ok (.istore_n 3, 1) := by decide +kernel
theorem dX2_settleLoads_12 : decode cX2_settleLoads 12 = .ok (.iload_n 3, 1) := by decide +kernel
theorem dX2_settleLoads_13 : decode cX2_settleLoads 13 = .ok (.aload_n 1, 1) := by decide +kernel
theorem dX2_settleLoads_14 : decode cX2_settleLoads 14 = .ok (.getfield 100, 3) := by decide +kernel
theorem dX2_settleLoads_17 : decode cX2_settleLoads 17 = .ok (.if_icmp .ge 127, 3) := by decide +kernel
theorem dX2_settleLoads_20 : decode cX2_settleLoads 20 = .ok (.aload_n 1, 1) := by decide +kernel
theorem dX2_settleLoads_21 : decode cX2_settleLoads 21 = .ok (.iload_n 3, 1) := by decide +kernel
theorem dX2_settleLoads_22 : decode cX2_settleLoads 22 = .ok (.invokevirtual 103, 3) := by decide +kernel
theorem dX2_settleLoads_25 : decode cX2_settleLoads 25 = .ok (.istore 4, 2) := by decide +kernel
theorem dX2_settleLoads_27 : decode cX2_settleLoads 27 = .ok (.iload 4, 2) := by decide +kernel
theorem dX2_settleLoads_29 : decode cX2_settleLoads 29 = .ok (.iconst (-1), 1) := by decide +kernel
theorem dX2_settleLoads_30 : decode cX2_settleLoads 30 = .ok (.if_icmp .ne 6, 3) := by decide +kernel
theorem dX2_settleLoads_33 : decode cX2_settleLoads 33 = .ok (.goto 105, 3) := by decide +kernel
theorem dX2_settleLoads_36 : decode cX2_settleLoads 36 = .ok (.aload_n 0, 1) := by decide +kernel
theorem dX2_settleLoads_37 : decode cX2_settleLoads 37 = .ok (.getfield 21, 3) := by decide +kernel
theorem dX2_settleLoads_40 : decode cX2_settleLoads 40 = .ok (.iload 4, 2) := by decide +kernel
theorem dX2_settleLoads_42 : decode cX2_settleLoads 42 = .ok (.aload_n 1, 1) := by decide +kernel
theorem dX2_settleLoads_43 : decode cX2_settleLoads 43 = .ok (.getfield 107, 3) := by decide +kernel
theorem dX2_settleLoads_46 : decode cX2_settleLoads 46 = .ok (.iload 4, 2) := by decide +kernel
theorem dX2_settleLoads_48 : decode cX2_settleLoads 48 = .ok (.iaload, 1) := by decide +kernel
theorem dX2_settleLoads_49 : decode cX2_settleLoads 49 = .ok (.iload_n 2, 1) := by decide +kernel
theorem dX2_settleLoads_50 : decode cX2_settleLoads 50 = .ok (.invokestatic 110, 3) := by decide +kernel
theorem dX2_settleLoads_53 : decode cX2_settleLoads 53 = .ok (.iastore, 1) := by decide +kernel
theorem dX2_settleLoads_54 : decode cX2_settleLoads 54 = .ok (.aload_n 0, 1) := by decide +kernel
theorem dX2_settleLoads_55 : decode cX2_settleLoads 55 = .ok (.getfield 21, 3) := by decide +kernel
theorem dX2_settleLoads_58 : decode cX2_settleLoads 58 = .ok (.iload 4, 2) := by decide +kernel
theorem dX2_settleLoads_60 : decode cX2_settleLoads 60 = .ok (.iaload, 1) := by decide +kernel
theorem dX2_settleLoads_61 : decode cX2_settleLoads 61 = .ok (.ifCond .le 39, 3) := by decide +kernel
theorem dX2_settleLoads_64 : decode cX2_settleLoads 64 = .ok (.aload_n 0, 1) := by decide +kernel
theorem dX2_settleLoads_65 : decode cX2_settleLoads 65 = .ok (.getfield 21, 3) := by decide +kernel
theorem dX2_settleLoads_68 : decode cX2_settleLoads 68 = .ok (.iload 4, 2) := by decide +kernel
theorem dX2_settleLoads_70 : decode cX2_settleLoads 70 = .ok (.iaload, 1) := by decide +kernel
theorem dX2_settleLoads_71 : decode cX2_settleLoads 71 = .ok (.aload_n 1, 1) := by decide +kernel
theorem dX2_settleLoads_72 : decode cX2_settleLoads 72 = .ok (.getfield 113, 3) := by decide +kernel
theorem dX2_settleLoads_75 : decode cX2_settleLoads 75 = .ok (.iload 4, 2) := by decide +kernel
theorem dX2_settleLoads_77 : decode cX2_settleLoads 77 = .ok (.iaload, 1) := by decide +kernel
theorem dX2_settleLoads_78 : decode cX2_settleLoads 78 = .ok (.if_icmp .ge 22, 3) := by decide +kernel
theorem dX2_settleLoads_81 : decode cX2_settleLoads 81 = .ok (.aload_n 0, 1) := by decide +kernel
theorem dX2_settleLoads_82 : decode cX2_settleLoads 82 = .ok (.getfield 21, 3) := by decide +kernel
theorem dX2_settleLoads_85 : decode cX2_settleLoads 85 = .ok (.iload 4, 2) := by decide +kernel
theorem dX2_settleLoads_87 : decode cX2_settleLoads 87 = .ok (.aload_n 1, 1) := by decide +kernel
theorem dX2_settleLoads_88 : decode cX2_settleLoads 88 = .ok (.getfield 113, 3) := by decide +kernel
theorem dX2_settleLoads_91 : decode cX2_settleLoads 91 = .ok (.iload 4, 2) := by decide +kernel
theorem dX2_settleLoads_93 : decode cX2_settleLoads 93 = .ok (.iaload, 1) := by decide +kernel
theorem dX2_settleLoads_94 : decode cX2_settleLoads 94 = .ok (.iastore, 1) := by decide +kernel
theorem dX2_settleLoads_95 : decode cX2_settleLoads 95 = .ok (.iconst 0, 1) := by decide +kernel
theorem dX2_settleLoads_96 : decode cX2_settleLoads 96 = .ok (.istore_n 2, 1) := by decide +kernel
theorem dX2_settleLoads_97 : decode cX2_settleLoads 97 = .ok (.goto 13, 3) := by decide +kernel
theorem dX2_settleLoads_100 : decode cX2_settleLoads 100 = .ok (.iload_n 2, 1) := by decide +kernel
theorem dX2_settleLoads_101 : decode cX2_settleLoads 101 = .ok (.aload_n 0, 1) := by decide +kernel
theorem dX2_settleLoads_102 : decode cX2_settleLoads 102 = .ok (.getfield 21, 3) := by decide +kernel
theorem dX2_settleLoads_105 : decode cX2_settleLoads 105 = .ok (.iload 4, 2) := by decide +kernel
theorem dX2_settleLoads_107 : decode cX2_settleLoads 107 = .ok (.iaload, 1) := by decide +kernel
theorem dX2_settleLoads_108 : decode cX2_settleLoads 108 = .ok (.isub, 1) := by decide +kernel
theorem dX2_settleLoads_109 : decode cX2_settleLoads 109 = .ok (.istore_n 2, 1) := by decide +kernel
theorem dX2_settleLoads_110 : decode cX2_settleLoads 110 = .ok (.aload_n 0, 1) := by decide +kernel
theorem dX2_settleLoads_111 : decode cX2_settleLoads 111 = .ok (.dup, 1) := by decide +kernel
theorem dX2_settleLoads_112 : decode cX2_settleLoads 112 = .ok (.getfield 31, 3) := by decide +kernel
theorem dX2_settleLoads_115 : decode cX2_settleLoads 115 = .ok (.aload_n 0, 1) := by decide +kernel
theorem dX2_settleLoads_116 : decode cX2_settleLoads 116 = .ok (.getfield 21, 3) := by decide +kernel
theorem dX2_settleLoads_119 : decode cX2_settleLoads 119 = .ok (.iload 4, 2) := by decide +kernel
theorem dX2_settleLoads_121 : decode cX2_settleLoads 121 = .ok (.iaload, 1) := by decide +kernel
theorem dX2_settleLoads_122 : decode cX2_settleLoads 122 = .ok (.aload_n 1, 1) := by decide +kernel
theorem dX2_settleLoads_123 : decode cX2_settleLoads 123 = .ok (.getfield 116, 3) := by decide +kernel
theorem dX2_settleLoads_126 : decode cX2_settleLoads 126 = .ok (.iload 4, 2) := by decide +kernel
theorem dX2_settleLoads_128 : decode cX2_settleLoads 128 = .ok (.iaload, 1) := by decide +kernel
theorem dX2_settleLoads_129 : decode cX2_settleLoads 129 = .ok (.imul, 1) := by decide +kernel
theorem dX2_settleLoads_130 : decode cX2_settleLoads 130 = .ok (.sipush 1000, 3) := by decide +kernel
theorem dX2_settleLoads_133 : decode cX2_settleLoads 133 = .ok (.idiv, 1) := by decide +kernel
theorem dX2_settleLoads_134 : decode cX2_settleLoads 134 = .ok (.iadd, 1) := by decide +kernel
theorem dX2_settleLoads_135 : decode cX2_settleLoads 135 = .ok (.putfield 31, 3) := by decide +kernel
theorem dX2_settleLoads_138 : decode cX2_settleLoads 138 = .ok (.iinc 3 1, 3) := by decide +kernel
theorem dX2_settleLoads_141 : decode cX2_settleLoads 141 = .ok (.goto (-129), 3) := by decide +kernel
theorem dX2_settleLoads_144 : decode cX2_settleLoads 144 = .ok (.aload_n 0, 1) := by decide +kernel
theorem dX2_settleLoads_145 : decode cX2_settleLoads 145 = .ok (.iload_n 2, 1) := by decide +kernel
theorem dX2_settleLoads_146 : decode cX2_settleLoads 146 = .ok (.putfield 28, 3) := by decide +kernel
theorem dX2_settleLoads_149 : decode cX2_settleLoads 149 = .ok (.return_, 1) := by decide +kernel
theorem dX2_returnOf_0 : decode cX2_returnOf 0 = .ok (.aload_n 1, 1) := by decide +kernel
theorem dX2_returnOf_1 : decode cX2_returnOf 1 = .ok (.getfield 119, 3) := by decide +kernel
theorem dX2_returnOf_4 : decode cX2_returnOf 4 = .ok (.iload_n 2, 1) := by decide +kernel
theorem dX2_returnOf_5 : decode cX2_returnOf 5 = .ok (.iaload, 1) := by decide +kernel
theorem dX2_returnOf_6 : decode cX2_returnOf 6 = .ok (.aload_n 0, 1) := by decide +kernel
theorem dX2_returnOf_7 : decode cX2_returnOf 7 = .ok (.getfield 15, 3) := by decide +kernel
theorem dX2_returnOf_10 : decode cX2_returnOf 10 = .ok (.iload_n 2, 1) := by decide +kernel
theorem dX2_returnOf_11 : decode cX2_returnOf 11 = .ok (.iaload, 1) := by decide +kernel
theorem dX2_returnOf_12 : decode cX2_returnOf 12 = .ok (.invokestatic 110, 3) := by decide +kernel
theorem dX2_returnOf_15 : decode cX2_returnOf 15 = .ok (.ireturn, 1) := by decide +kernel
theorem dX2_warmthAbove_0 : decode cX2_warmthAbove 0 = .ok (.aload_n 1, 1) := by decide +kernel
theorem dX2_warmthAbove_1 : decode cX2_warmthAbove 1 = .ok (.iload_n 2, 1) := by decide +kernel
theorem dX2_warmthAbove_2 : decode cX2_warmthAbove 2 = .ok (.invokevirtual 122, 3) := by decide +kernel
theorem dX2_warmthAbove_5 : decode cX2_warmthAbove 5 = .ok (.ifCond .eq 17, 3) := by decide +kernel
theorem dX2_warmthAbove_8 : decode cX2_warmthAbove 8 = .ok (.aload_n 0, 1) := by decide +kernel
theorem dX2_warmthAbove_9 : decode cX2_warmthAbove 9 = .ok (.getfield 15, 3) := by decide +kernel
theorem dX2_warmthAbove_12 : decode cX2_warmthAbove 12 = .ok (.aload_n 1, 1) := by decide +kernel
theorem dX2_warmthAbove_13 : decode cX2_warmthAbove 13 = .ok (.getfield 126, 3) := by decide +kernel
theorem dX2_warmthAbove_16 : decode cX2_warmthAbove 16 = .ok (.iload_n 2, 1) := by decide +kernel
theorem dX2_warmthAbove_17 : decode cX2_warmthAbove 17 = .ok (.iaload, 1) := by decide +kernel
theorem dX2_warmthAbove_18 : decode cX2_warmthAbove 18 = .ok (.iaload, 1) := by decide +kernel
theorem dX2_warmthAbove_19 : decode cX2_warmthAbove 19 = .ok (.goto 4, 3) := by decide +kernel
theorem dX2_warmthAbove_22 : decode cX2_warmthAbove 22 = .ok (.iconst 0, 1) := by decide +kernel
theorem dX2_warmthAbove_23 : decode cX2_warmthAbove 23 = .ok (.ireturn, 1) := by decide +kernel
theorem dX2_warmthBehind_0 : decode cX2_warmthBehind 0 = .ok (.iload_n 3, 1) := by decide +kernel
theorem dX2_warmthBehind_1 : decode cX2_warmthBehind 1 = .ok (.ifCond .gt 9, 3) := by decide +kernel
theorem dX2_warmthBehind_4 : decode cX2_warmthBehind 4 = .ok (.iload_n 0, 1) := by decide +kernel
theorem dX2_warmthBehind_5 : decode cX2_warmthBehind 5 = .ok (.iload_n 1, 1) := by decide +kernel
theorem dX2_warmthBehind_6 : decode cX2_warmthBehind 6 = .ok (.invokestatic 110, 3) := by decide +kernel
theorem dX2_warmthBehind_9 : decode cX2_warmthBehind 9 = .ok (.ireturn, 1) := by decide +kernel
theorem dX2_warmthBehind_10 : decode cX2_warmthBehind 10 = .ok (.iload_n 0, 1) := by decide +kernel
theorem dX2_warmthBehind_11 : decode cX2_warmthBehind 11 = .ok (.iload_n 1, 1) := by decide +kernel
theorem dX2_warmthBehind_12 : decode cX2_warmthBehind 12 = .ok (.if_icmp .gt 5, 3) := by decide +kernel
theorem dX2_warmthBehind_15 : decode cX2_warmthBehind 15 = .ok (.iload_n 0, 1) := by decide +kernel
theorem dX2_warmthBehind_16 : decode cX2_warmthBehind 16 = .ok (.ireturn, 1) := by decide +kernel
theorem dX2_warmthBehind_17 : decode cX2_warmthBehind 17 = .ok (.iload_n 0, 1) := by decide +kernel
theorem dX2_warmthBehind_18 : decode cX2_warmthBehind 18 = .ok (.iload_n 1, 1) := by decide +kernel
theorem dX2_warmthBehind_19 : decode cX2_warmthBehind 19 = .ok (.isub, 1) := by decide +kernel
theorem dX2_warmthBehind_20 : decode cX2_warmthBehind 20 = .ok (.istore 4, 2) := by decide +kernel
theorem dX2_warmthBehind_22 : decode cX2_warmthBehind 22 = .ok (.iload_n 0, 1) := by decide +kernel
theorem dX2_warmthBehind_23 : decode cX2_warmthBehind 23 = .ok (.iload 4, 2) := by decide +kernel
theorem dX2_warmthBehind_25 : decode cX2_warmthBehind 25 = .ok (.iload 4, 2) := by decide +kernel
theorem dX2_warmthBehind_27 : decode cX2_warmthBehind 27 = .ok (.iload_n 2, 1) := by decide +kernel
theorem dX2_warmthBehind_28 : decode cX2_warmthBehind 28 = .ok (.imul, 1) := by decide +kernel
theorem dX2_warmthBehind_29 : decode cX2_warmthBehind 29 = .ok (.sipush 1000, 3) := by decide +kernel
theorem dX2_warmthBehind_32 : decode cX2_warmthBehind 32 = .ok (.iload_n 3, 1) := by decide +kernel
theorem dX2_warmthBehind_33 : decode cX2_warmthBehind 33 = .ok (.imul, 1) := by decide +kernel
theorem dX2_warmthBehind_34 : decode cX2_warmthBehind 34 = .ok (.idiv, 1) := by decide +kernel
theorem dX2_warmthBehind_35 : decode cX2_warmthBehind 35 = .ok (.invokestatic 110, 3) := by decide +kernel
theorem dX2_warmthBehind_38 : decode cX2_warmthBehind 38 = .ok (.isub, 1) := by decide +kernel
theorem dX2_warmthBehind_39 : decode cX2_warmthBehind 39 = .ok (.ireturn, 1) := by decide +kernel
theorem dX2_addUpTheTree_0 : decode cX2_addUpTheTree 0 = .ok (.aload_n 0, 1) := by decide +kernel
theorem dX2_addUpTheTree_1 : decode cX2_addUpTheTree 1 = .ok (.getfield 65, 3) := by decide +kernel
theorem dX2_addUpTheTree_4 : decode cX2_addUpTheTree 4 = .ok (.iconst 1, 1) := by decide +kernel
theorem dX2_addUpTheTree_5 : decode cX2_addUpTheTree 5 = .ok (.isub, 1) := by decide +kernel
theorem dX2_addUpTheTree_6 : decode cX2_addUpTheTree 6 = .ok (.istore_n 2, 1) := by decide +kernel
theorem dX2_addUpTheTree_7 : decode cX2_addUpTheTree 7 = .ok (.iload_n 2, 1) := by decide +kernel
theorem dX2_addUpTheTree_8 : decode cX2_addUpTheTree 8 = .ok (.ifCond .le 31, 3) := by decide +kernel
theorem dX2_addUpTheTree_11 : decode cX2_addUpTheTree 11 = .ok (.aload_n 0, 1) := by decide +kernel
theorem dX2_addUpTheTree_12 : decode cX2_addUpTheTree 12 = .ok (.iload_n 2, 1) := by decide +kernel
theorem dX2_addUpTheTree_13 : decode cX2_addUpTheTree 13 = .ok (.invokevirtual 122, 3) := by decide +kernel
theorem dX2_addUpTheTree_16 : decode cX2_addUpTheTree 16 = .ok (.ifCond .eq 17, 3) := by decide +kernel
theorem dX2_addUpTheTree_19 : decode cX2_addUpTheTree 19 = .ok (.aload_n 1, 1) := by decide +kernel
theorem dX2_addUpTheTree_20 : decode cX2_addUpTheTree 20 = .ok (.aload_n 0, 1) := by decide +kernel
theorem dX2_addUpTheTree_21 : decode cX2_addUpTheTree 21 = .ok (.getfield 126, 3) := by decide +kernel
theorem dX2_addUpTheTree_24 : decode cX2_addUpTheTree 24 = .ok (.iload_n 2, 1) := by decide +kernel
theorem dX2_addUpTheTree_25 : decode cX2_addUpTheTree 25 = .ok (.iaload, 1) := by decide +kernel
theorem dX2_addUpTheTree_26 : decode cX2_addUpTheTree 26 = .ok (.dup2, 1) := by decide +kernel
theorem dX2_addUpTheTree_27 : decode cX2_addUpTheTree 27 = .ok (.iaload, 1) := by decide +kernel
theorem dX2_addUpTheTree_28 : decode cX2_addUpTheTree 28 = .ok (.aload_n 1, 1) := by decide +kernel
theorem dX2_addUpTheTree_29 : decode cX2_addUpTheTree 29 = .ok (.iload_n 2, 1) := by decide +kernel
theorem dX2_addUpTheTree_30 : decode cX2_addUpTheTree 30 = .ok (.iaload, 1) := by decide +kernel
theorem dX2_addUpTheTree_31 : decode cX2_addUpTheTree 31 = .ok (.iadd, 1) := by decide +kernel
theorem dX2_addUpTheTree_32 : decode cX2_addUpTheTree 32 = .ok (.iastore, 1) := by decide +kernel
theorem dX2_addUpTheTree_33 : decode cX2_addUpTheTree 33 = .ok (.iinc 2 (-1), 3) := by decide +kernel
theorem dX2_addUpTheTree_36 : decode cX2_addUpTheTree 36 = .ok (.goto (-29), 3) := by decide +kernel
theorem dX2_addUpTheTree_39 : decode cX2_addUpTheTree 39 = .ok (.return_, 1) := by decide +kernel
theorem dX3_init_0 : decode cX3_init 0 = .ok (.aload_n 0, 1) := by decide +kernel
theorem dX3_init_1 : decode cX3_init 1 = .ok (.invokespecial 3, 3) := by decide +kernel
theorem dX3_init_4 : decode cX3_init 4 = .ok (.aload_n 0, 1) := by decide +kernel
theorem dX3_init_5 : decode cX3_init 5 = .ok (.bipush 16, 2) := by decide +kernel
theorem dX3_init_7 : decode cX3_init 7 = .ok (.newarray .int, 2) := by decide +kernel
theorem dX3_init_9 : decode cX3_init 9 = .ok (.putfield 9, 3) := by decide +kernel
theorem dX3_init_12 : decode cX3_init 12 = .ok (.aload_n 0, 1) := by decide +kernel
theorem dX3_init_13 : decode cX3_init 13 = .ok (.bipush 16, 2) := by decide +kernel
theorem dX3_init_15 : decode cX3_init 15 = .ok (.newarray .int, 2) := by decide +kernel
theorem dX3_init_17 : decode cX3_init 17 = .ok (.putfield 15, 3) := by decide +kernel
theorem dX3_init_20 : decode cX3_init 20 = .ok (.aload_n 0, 1) := by decide +kernel
theorem dX3_init_21 : decode cX3_init 21 = .ok (.bipush 16, 2) := by decide +kernel
theorem dX3_init_23 : decode cX3_init 23 = .ok (.newarray .int, 2) := by decide +kernel
theorem dX3_init_25 : decode cX3_init 25 = .ok (.putfield 18, 3) := by decide +kernel
theorem dX3_init_28 : decode cX3_init 28 = .ok (.aload_n 0, 1) := by decide +kernel
theorem dX3_init_29 : decode cX3_init 29 = .ok (.bipush 16, 2) := by decide +kernel
theorem dX3_init_31 : decode cX3_init 31 = .ok (.newarray .int, 2) := by decide +kernel
theorem dX3_init_33 : decode cX3_init 33 = .ok (.putfield 21, 3) := by decide +kernel
theorem dX3_init_36 : decode cX3_init 36 = .ok (.aload_n 0, 1) := by decide +kernel
theorem dX3_init_37 : decode cX3_init 37 = .ok (.bipush 16, 2) := by decide +kernel
theorem dX3_init_39 : decode cX3_init 39 = .ok (.newarray .int, 2) := by decide +kernel
theorem dX3_init_41 : decode cX3_init 41 = .ok (.putfield 24, 3) := by decide +kernel
theorem dX3_init_44 : decode cX3_init 44 = .ok (.aload_n 0, 1) := by decide +kernel
theorem dX3_init_45 : decode cX3_init 45 = .ok (.bipush 16, 2) := by decide +kernel
theorem dX3_init_47 : decode cX3_init 47 = .ok (.newarray .int, 2) := by decide +kernel
theorem dX3_init_49 : decode cX3_init 49 = .ok (.putfield 27, 3) := by decide +kernel
theorem dX3_init_52 : decode cX3_init 52 = .ok (.aload_n 0, 1) := by decide +kernel
theorem dX3_init_53 : decode cX3_init 53 = .ok (.bipush 16, 2) := by decide +kernel
theorem dX3_init_55 : decode cX3_init 55 = .ok (.newarray .int, 2) := by decide +kernel
theorem dX3_init_57 : decode cX3_init 57 = .ok (.putfield 30, 3) := by decide +kernel
theorem dX3_init_60 : decode cX3_init 60 = .ok (.aload_n 0, 1) := by decide +kernel
theorem dX3_init_61 : decode cX3_init 61 = .ok (.bipush 16, 2) := by decide +kernel
theorem dX3_init_63 : decode cX3_init 63 = .ok (.newarray .int, 2) := by decide +kernel
theorem dX3_init_65 : decode cX3_init 65 = .ok (.putfield 33, 3) := by decide +kernel
theorem dX3_init_68 : decode cX3_init 68 = .ok (.aload_n 0, 1) := by decide +kernel
theorem dX3_init_69 : decode cX3_init 69 = .ok (.iconst 1, 1) := by decide +kernel
theorem dX3_init_70 : decode cX3_init 70 = .ok (.putfield 36, 3) := by decide +kernel
theorem dX3_init_73 : decode cX3_init 73 = .ok (.aload_n 0, 1) := by decide +kernel
theorem dX3_init_74 : decode cX3_init 74 = .ok (.getfield 9, 3) := by decide +kernel
theorem dX3_init_77 : decode cX3_init 77 = .ok (.iconst 0, 1) := by decide +kernel
theorem dX3_init_78 : decode cX3_init 78 = .ok (.iconst (-1), 1) := by decide +kernel
theorem dX3_init_79 : decode cX3_init 79 = .ok (.iastore, 1) := by decide +kernel
theorem dX3_init_80 : decode cX3_init 80 = .ok (.return_, 1) := by decide +kernel
theorem dX3_attach_0 : decode cX3_attach 0 = .ok (.aload_n 0, 1) := by decide +kernel
theorem dX3_attach_1 : decode cX3_attach 1 = .ok (.getfield 36, 3) := by decide +kernel
theorem dX3_attach_4 : decode cX3_attach 4 = .ok (.istore 6, 2) := by decide +kernel
theorem dX3_attach_6 : decode cX3_attach 6 = .ok (.iload 6, 2) := by decide +kernel
theorem dX3_attach_8 : decode cX3_attach 8 = .ok (.bipush 16, 2) := by decide +kernel
theorem dX3_attach_10 : decode cX3_attach 10 = .ok (.if_icmp .lt 5, 3) := by decide +kernel
theorem dX3_attach_13 : decode cX3_attach 13 = .ok (.iconst (-1), 1) := by decide +kernel
theorem dX3_attach_14 : decode cX3_attach 14 = .ok (.ireturn, 1) := by decide +kernel
theorem dX3_attach_15 : decode cX3_attach 15 = .ok (.aload_n 0, 1) := by decide +kernel
theorem dX3_attach_16 : decode cX3_attach 16 = .ok (.getfield 9, 3) := by decide +kernel
theorem dX3_attach_19 : decode cX3_attach 19 = .ok (.iload 6, 2) := by decide +kernel
theorem dX3_attach_21 : decode cX3_attach 21 = .ok (.iload_n 1, 1) := by decide +kernel
theorem dX3_attach_22 : decode cX3_attach 22 = .ok (.iastore, 1) := by decide +kernel
theorem dX3_attach_23 : decode cX3_attach 23 = .ok (.aload_n 0, 1) := by decide +kernel
theorem dX3_attach_24 : decode cX3_attach 24 = .ok (.getfield 15, 3) := by decide +kernel
theorem dX3_attach_27 : decode cX3_attach 27 = .ok (.iload 6, 2) := by decide +kernel
theorem dX3_attach_29 : decode cX3_attach 29 = .ok (.iload_n 2, 1) := by decide +kernel
theorem dX3_attach_30 : decode cX3_attach 30 = .ok (.iastore, 1) := by decide +kernel
theorem dX3_attach_31 : decode cX3_attach 31 = .ok (.aload_n 0, 1) := by decide +kernel
theorem dX3_attach_32 : decode cX3_attach 32 = .ok (.getfield 18, 3) := by decide +kernel
theorem dX3_attach_35 : decode cX3_attach 35 = .ok (.iload 6, 2) := by decide +kernel
theorem dX3_attach_37 : decode cX3_attach 37 = .ok (.iload_n 3, 1) := by decide +kernel
theorem dX3_attach_38 : decode cX3_attach 38 = .ok (.iastore, 1) := by decide +kernel
theorem dX3_attach_39 : decode cX3_attach 39 = .ok (.aload_n 0, 1) := by decide +kernel
theorem dX3_attach_40 : decode cX3_attach 40 = .ok (.getfield 21, 3) := by decide +kernel
theorem dX3_attach_43 : decode cX3_attach 43 = .ok (.iload 6, 2) := by decide +kernel
theorem dX3_attach_45 : decode cX3_attach 45 = .ok (.iload 4, 2) := by decide +kernel
theorem dX3_attach_47 : decode cX3_attach 47 = .ok (.iastore, 1) := by decide +kernel
theorem dX3_attach_48 : decode cX3_attach 48 = .ok (.aload_n 0, 1) := by decide +kernel
theorem dX3_attach_49 : decode cX3_attach 49 = .ok (.getfield 24, 3) := by decide +kernel
theorem dX3_attach_52 : decode cX3_attach 52 = .ok (.iload 6, 2) := by decide +kernel
theorem dX3_attach_54 : decode cX3_attach 54 = .ok (.iload 5, 2) := by decide +kernel
theorem dX3_attach_56 : decode cX3_attach 56 = .ok (.iastore, 1) := by decide +kernel
theorem dX3_attach_57 : decode cX3_attach 57 = .ok (.aload_n 0, 1) := by decide +kernel
theorem dX3_attach_58 : decode cX3_attach 58 = .ok (.getfield 27, 3) := by decide +kernel
theorem dX3_attach_61 : decode cX3_attach 61 = .ok (.iload 6, 2) := by decide +kernel
theorem dX3_attach_63 : decode cX3_attach 63 = .ok (.iconst 0, 1) := by decide +kernel
theorem dX3_attach_64 : decode cX3_attach 64 = .ok (.iastore, 1) := by decide +kernel
theorem dX3_attach_65 : decode cX3_attach 65 = .ok (.aload_n 0, 1) := by decide +kernel
theorem dX3_attach_66 : decode cX3_attach 66 = .ok (.getfield 30, 3) := by decide +kernel
theorem dX3_attach_69 : decode cX3_attach 69 = .ok (.iload 6, 2) := by decide +kernel
theorem dX3_attach_71 : decode cX3_attach 71 = .ok (.iconst 0, 1) := by decide +kernel
theorem dX3_attach_72 : decode cX3_attach 72 = .ok (.iastore, 1) := by decide +kernel
theorem dX3_attach_73 : decode cX3_attach 73 = .ok (.aload_n 0, 1) := by decide +kernel
theorem dX3_attach_74 : decode cX3_attach 74 = .ok (.getfield 33, 3) := by decide +kernel
theorem dX3_attach_77 : decode cX3_attach 77 = .ok (.iload 6, 2) := by decide +kernel
theorem dX3_attach_79 : decode cX3_attach 79 = .ok (.iconst 0, 1) := by decide +kernel
theorem dX3_attach_80 : decode cX3_attach 80 = .ok (.iastore, 1) := by decide +kernel
theorem dX3_attach_81 : decode cX3_attach 81 = .ok (.aload_n 0, 1) := by decide +kernel
theorem dX3_attach_82 : decode cX3_attach 82 = .ok (.iload 6, 2) := by decide +kernel
theorem dX3_attach_84 : decode cX3_attach 84 = .ok (.iconst 1, 1) := by decide +kernel
theorem dX3_attach_85 : decode cX3_attach 85 = .ok (.iadd, 1) := by decide +kernel
theorem dX3_attach_86 : decode cX3_attach 86 = .ok (.putfield 36, 3) := by decide +kernel
theorem dX3_attach_89 : decode cX3_attach 89 = .ok (.iload 6, 2) := by decide +kernel
theorem dX3_attach_91 : decode cX3_attach 91 = .ok (.ireturn, 1) := by decide +kernel
theorem dX3_copyFrom_0 : decode cX3_copyFrom 0 = .ok (.aload_n 1, 1) := by decide +kernel
theorem dX3_copyFrom_1 : decode cX3_copyFrom 1 = .ok (.getfield 9, 3) := by decide +kernel
theorem dX3_copyFrom_4 : decode cX3_copyFrom 4 = .ok (.aload_n 0, 1) := by decide +kernel
theorem dX3_copyFrom_5 : decode cX3_copyFrom 5 = .ok (.getfield 9, 3) := by decide +kernel
theorem dX3_copyFrom_8 : decode cX3_copyFrom 8 = .ok (.invokestatic 40, 3) := by decide +kernel
theorem dX3_copyFrom_11 : decode cX3_copyFrom 11 = .ok (.aload_n 1, 1) := by decide +kernel
theorem dX3_copyFrom_12 : decode cX3_copyFrom 12 = .ok (.getfield 15, 3) := by decide +kernel
theorem dX3_copyFrom_15 : decode cX3_copyFrom 15 = .ok (.aload_n 0, 1) := by decide +kernel
theorem dX3_copyFrom_16 : decode cX3_copyFrom 16 = .ok (.getfield 15, 3) := by decide +kernel
theorem dX3_copyFrom_19 : decode cX3_copyFrom 19 = .ok (.invokestatic 40, 3) := by decide +kernel
theorem dX3_copyFrom_22 : decode cX3_copyFrom 22 = .ok (.aload_n 1, 1) := by decide +kernel
theorem dX3_copyFrom_23 : decode cX3_copyFrom 23 = .ok (.getfield 18, 3) := by decide +kernel
theorem dX3_copyFrom_26 : decode cX3_copyFrom 26 = .ok (.aload_n 0, 1) := by decide +kernel
theorem dX3_copyFrom_27 : decode cX3_copyFrom 27 = .ok (.getfield 18, 3) := by decide +kernel
theorem dX3_copyFrom_30 : decode cX3_copyFrom 30 = .ok (.invokestatic 40, 3) := by decide +kernel
theorem dX3_copyFrom_33 : decode cX3_copyFrom 33 = .ok (.aload_n 1, 1) := by decide +kernel
theorem dX3_copyFrom_34 : decode cX3_copyFrom 34 = .ok (.getfield 21, 3) := by decide +kernel
theorem dX3_copyFrom_37 : decode cX3_copyFrom 37 = .ok (.aload_n 0, 1) := by decide +kernel
theorem dX3_copyFrom_38 : decode cX3_copyFrom 38 = .ok (.getfield 21, 3) := by decide +kernel
theorem dX3_copyFrom_41 : decode cX3_copyFrom 41 = .ok (.invokestatic 40, 3) := by decide +kernel
theorem dX3_copyFrom_44 : decode cX3_copyFrom 44 = .ok (.aload_n 1, 1) := by decide +kernel
theorem dX3_copyFrom_45 : decode cX3_copyFrom 45 = .ok (.getfield 24, 3) := by decide +kernel
theorem dX3_copyFrom_48 : decode cX3_copyFrom 48 = .ok (.aload_n 0, 1) := by decide +kernel
theorem dX3_copyFrom_49 : decode cX3_copyFrom 49 = .ok (.getfield 24, 3) := by decide +kernel
theorem dX3_copyFrom_52 : decode cX3_copyFrom 52 = .ok (.invokestatic 40, 3) := by decide +kernel
theorem dX3_copyFrom_55 : decode cX3_copyFrom 55 = .ok (.aload_n 1, 1) := by decide +kernel
theorem dX3_copyFrom_56 : decode cX3_copyFrom 56 = .ok (.getfield 27, 3) := by decide +kernel
theorem dX3_copyFrom_59 : decode cX3_copyFrom 59 = .ok (.aload_n 0, 1) := by decide +kernel
theorem dX3_copyFrom_60 : decode cX3_copyFrom 60 = .ok (.getfield 27, 3) := by decide +kernel
theorem dX3_copyFrom_63 : decode cX3_copyFrom 63 = .ok (.invokestatic 40, 3) := by decide +kernel
theorem dX3_copyFrom_66 : decode cX3_copyFrom 66 = .ok (.aload_n 1, 1) := by decide +kernel
theorem dX3_copyFrom_67 : decode cX3_copyFrom 67 = .ok (.getfield 30, 3) := by decide +kernel
theorem dX3_copyFrom_70 : decode cX3_copyFrom 70 = .ok (.aload_n 0, 1) := by decide +kernel
theorem dX3_copyFrom_71 : decode cX3_copyFrom 71 = .ok (.getfield 30, 3) := by decide +kernel
theorem dX3_copyFrom_74 : decode cX3_copyFrom 74 = .ok (.invokestatic 40, 3) := by decide +kernel
theorem dX3_copyFrom_77 : decode cX3_copyFrom 77 = .ok (.aload_n 1, 1) := by decide +kernel
theorem dX3_copyFrom_78 : decode cX3_copyFrom 78 = .ok (.getfield 33, 3) := by decide +kernel
theorem dX3_copyFrom_81 : decode cX3_copyFrom 81 = .ok (.aload_n 0, 1) := by decide +kernel
theorem dX3_copyFrom_82 : decode cX3_copyFrom 82 = .ok (.getfield 33, 3) := by decide +kernel
theorem dX3_copyFrom_85 : decode cX3_copyFrom 85 = .ok (.invokestatic 40, 3) := by decide +kernel
theorem dX3_copyFrom_88 : decode cX3_copyFrom 88 = .ok (.aload_n 0, 1) := by decide +kernel
theorem dX3_copyFrom_89 : decode cX3_copyFrom 89 = .ok (.aload_n 1, 1) := by decide +kernel
theorem dX3_copyFrom_90 : decode cX3_copyFrom 90 = .ok (.getfield 36, 3) := by decide +kernel
theorem dX3_copyFrom_93 : decode cX3_copyFrom 93 = .ok (.putfield 36, 3) := by decide +kernel
theorem dX3_copyFrom_96 : decode cX3_copyFrom 96 = .ok (.return_, 1) := by decide +kernel
theorem dX3_hasParent_0 : decode cX3_hasParent 0 = .ok (.aload_n 0, 1) := by decide +kernel
theorem dX3_hasParent_1 : decode cX3_hasParent 1 = .ok (.getfield 9, 3) := by decide +kernel
theorem dX3_hasParent_4 : decode cX3_hasParent 4 = .ok (.iload_n 1, 1) := by decide +kernel
theorem dX3_hasParent_5 : decode cX3_hasParent 5 = .ok (.iaload, 1) := by decide +kernel
theorem dX3_hasParent_6 : decode cX3_hasParent 6 = .ok (.ifCond .lt 17, 3) := by decide +kernel
theorem dX3_hasParent_9 : decode cX3_hasParent 9 = .ok (.aload_n 0, 1) := by decide +kernel
theorem dX3_hasParent_10 : decode cX3_hasParent 10 = .ok (.getfield 9, 3) := by decide +kernel
theorem dX3_hasParent_13 : decode cX3_hasParent 13 = .ok (.iload_n 1, 1) := by decide +kernel
theorem dX3_hasParent_14 : decode cX3_hasParent 14 = .ok (.iaload, 1) := by decide +kernel
theorem dX3_hasParent_15 : decode cX3_hasParent 15 = .ok (.iload_n 1, 1) := by decide +kernel
theorem dX3_hasParent_16 : decode cX3_hasParent 16 = .ok (.if_icmp .ge 7, 3) := by decide +kernel
theorem dX3_hasParent_19 : decode cX3_hasParent 19 = .ok (.iconst 1, 1) := by decide +kernel
theorem dX3_hasParent_20 : decode cX3_hasParent 20 = .ok (.goto 4, 3) := by decide +kernel
theorem dX3_hasParent_23 : decode cX3_hasParent 23 = .ok (.iconst 0, 1) := by decide +kernel
theorem dX3_hasParent_24 : decode cX3_hasParent 24 = .ok (.ireturn, 1) := by decide +kernel
theorem dX3_childrenOf_0 : decode cX3_childrenOf 0 = .ok (.iconst 0, 1) := by decide +kernel
theorem dX3_childrenOf_1 : decode cX3_childrenOf 1 = .ok (.istore_n 2, 1) := by decide +kernel
theorem dX3_childrenOf_2 : decode cX3_childrenOf 2 = .ok (.iload_n 1, 1) := by decide +kernel
theorem dX3_childrenOf_3 : decode cX3_childrenOf 3 = .ok (.iconst 1, 1) := by decide +kernel
theorem dX3_childrenOf_4 : decode cX3_childrenOf 4 = .ok (.iadd, 1) := by decide +kernel
theorem dX3_childrenOf_5 : decode cX3_childrenOf 5 = .ok (.istore_n 3, 1) := by decide +kernel
theorem dX3_childrenOf_6 : decode cX3_childrenOf 6 = .ok (.iload_n 3, 1) := by decide +kernel
theorem dX3_childrenOf_7 : decode cX3_childrenOf 7 = .ok (.aload_n 0, 1) := by decide +kernel
theorem dX3_childrenOf_8 : decode cX3_childrenOf 8 = .ok (.getfield 36, 3) := by decide +kernel
theorem dX3_childrenOf_11 : decode cX3_childrenOf 11 = .ok (.if_icmp .ge 22, 3) := by decide +kernel
theorem dX3_childrenOf_14 : decode cX3_childrenOf 14 = .ok (.aload_n 0, 1) := by decide +kernel
theorem dX3_childrenOf_15 : decode cX3_childrenOf 15 = .ok (.getfield 9, 3) := by decide +kernel
theorem dX3_childrenOf_18 : decode cX3_childrenOf 18 = .ok (.iload_n 3, 1) := by decide +kernel
theorem dX3_childrenOf_19 : decode cX3_childrenOf 19 = .ok (.iaload, 1) := by decide +kernel
theorem dX3_childrenOf_20 : decode cX3_childrenOf 20 = .ok (.iload_n 1, 1) := by decide +kernel
theorem dX3_childrenOf_21 : decode cX3_childrenOf 21 = .ok (.if_icmp .ne 6, 3) := by decide +kernel
theorem dX3_childrenOf_24 : decode cX3_childrenOf 24 = .ok (.iinc 2 1, 3) := by decide +kernel
theorem dX3_childrenOf_27 : decode cX3_childrenOf 27 = .ok (.iinc 3 1, 3) := by decide +kernel
theorem dX3_childrenOf_30 : decode cX3_childrenOf 30 = .ok (.goto (-24), 3) := by decide +kernel
theorem dX3_childrenOf_33 : decode cX3_childrenOf 33 = .ok (.iload_n 2, 1) := by decide +kernel
theorem dX3_childrenOf_34 : decode cX3_childrenOf 34 = .ok (.ireturn, 1) := by decide +kernel
theorem dX3_branchOf_0 : decode cX3_branchOf 0 = .ok (.iconst 1, 1) := by decide +kernel
theorem dX3_branchOf_1 : decode cX3_branchOf 1 = .ok (.iload_n 1, 1) := by decide +kernel
theorem dX3_branchOf_2 : decode cX3_branchOf 2 = .ok (.ishl, 1) := by decide +kernel
theorem dX3_branchOf_3 : decode cX3_branchOf 3 = .ok (.istore_n 2, 1) := by decide +kernel
theorem dX3_branchOf_4 : decode cX3_branchOf 4 = .ok (.iload_n 1, 1) := by decide +kernel
theorem dX3_branchOf_5 : decode cX3_branchOf 5 = .ok (.iconst 1, 1) := by decide +kernel
theorem dX3_branchOf_6 : decode cX3_branchOf 6 = .ok (.iadd, 1) := by decide +kernel
theorem dX3_branchOf_7 : decode cX3_branchOf 7 = .ok (.istore_n 3, 1) := by decide +kernel
theorem dX3_branchOf_8 : decode cX3_branchOf 8 = .ok (.iload_n 3, 1) := by decide +kernel
theorem dX3_branchOf_9 : decode cX3_branchOf 9 = .ok (.aload_n 0, 1) := by decide +kernel
theorem dX3_branchOf_10 : decode cX3_branchOf 10 = .ok (.getfield 36, 3) := by decide +kernel
theorem dX3_branchOf_13 : decode cX3_branchOf 13 = .ok (.if_icmp .ge 36, 3) := by decide +kernel
theorem dX3_branchOf_16 : decode cX3_branchOf 16 = .ok (.aload_n 0, 1) := by decide +kernel
theorem dX3_branchOf_17 : decode cX3_branchOf 17 = .ok (.iload_n 3, 1) := by decide +kernel
theorem dX3_branchOf_18 : decode cX3_branchOf 18 = .ok (.invokevirtual 44, 3) := by decide +kernel
theorem dX3_branchOf_21 : decode cX3_branchOf 21 = .ok (.ifCond .eq 22, 3) := by decide +kernel
theorem dX3_branchOf_24 : decode cX3_branchOf 24 = .ok (.iload_n 2, 1) := by decide +kernel
theorem dX3_branchOf_25 : decode cX3_branchOf 25 = .ok (.aload_n 0, 1) := by decide +kernel
theorem dX3_branchOf_26 : decode cX3_branchOf 26 = .ok (.getfield 9, 3) := by decide +kernel
theorem dX3_branchOf_29 : decode cX3_branchOf 29 = .ok (.iload_n 3, 1) := by decide +kernel
theorem dX3_branchOf_30 : decode cX3_branchOf 30 = .ok (.iaload, 1) := by decide +kernel
theorem dX3_branchOf_31 : decode cX3_branchOf 31 = .ok (.ishr, 1) := by decide +kernel
theorem dX3_branchOf_32 : decode cX3_branchOf 32 = .ok (.iconst 1, 1) := by decide +kernel
theorem dX3_branchOf_33 : decode cX3_branchOf 33 = .ok (.iand, 1) := by decide +kernel
theorem dX3_branchOf_34 : decode cX3_branchOf 34 = .ok (.ifCond .eq 9, 3) := by decide +kernel
theorem dX3_branchOf_37 : decode cX3_branchOf 37 = .ok (.iload_n 2, 1) := by decide +kernel
theorem dX3_branchOf_38 : decode cX3_branchOf 38 = .ok (.iconst 1, 1) := by decide +kernel
theorem dX3_branchOf_39 : decode cX3_branchOf 39 = .ok (.iload_n 3, 1) := by decide +kernel
theorem dX3_branchOf_40 : decode cX3_branchOf 40 = .ok (.ishl, 1) := by decide +kernel
theorem dX3_branchOf_41 : decode cX3_branchOf 41 = .ok (.ior, 1) := by decide +kernel
theorem dX3_branchOf_42 : decode cX3_branchOf 42 = .ok (.istore_n 2, 1) := by decide +kernel
theorem dX3_branchOf_43 : decode cX3_branchOf 43 = .ok (.iinc 3 1, 3) := by decide +kernel
theorem dX3_branchOf_46 : decode cX3_branchOf 46 = .ok (.goto (-38), 3) := by decide +kernel
theorem dX3_branchOf_49 : decode cX3_branchOf 49 = .ok (.iload_n 2, 1) := by decide +kernel
theorem dX3_branchOf_50 : decode cX3_branchOf 50 = .ok (.invokestatic 48, 3) := by decide +kernel
theorem dX3_branchOf_53 : decode cX3_branchOf 53 = .ok (.ireturn, 1) := by decide +kernel
theorem dX3_meters_0 : decode cX3_meters 0 = .ok (.iconst 0, 1) := by decide +kernel
theorem dX3_meters_1 : decode cX3_meters 1 = .ok (.istore_n 1, 1) := by decide +kernel
theorem dX3_meters_2 : decode cX3_meters 2 = .ok (.iconst 1, 1) := by decide +kernel
theorem dX3_meters_3 : decode cX3_meters 3 = .ok (.istore_n 2, 1) := by decide +kernel
theorem dX3_meters_4 : decode cX3_meters 4 = .ok (.iload_n 2, 1) := by decide +kernel
theorem dX3_meters_5 : decode cX3_meters 5 = .ok (.aload_n 0, 1) := by decide +kernel
theorem dX3_meters_6 : decode cX3_meters 6 = .ok (.getfield 36, 3) := by decide +kernel
theorem dX3_meters_9 : decode cX3_meters 9 = .ok (.if_icmp .ge 18, 3) := by decide +kernel
theorem dX3_meters_12 : decode cX3_meters 12 = .ok (.iload_n 1, 1) := by decide +kernel
theorem dX3_meters_13 : decode cX3_meters 13 = .ok (.aload_n 0, 1) := by decide +kernel
theorem dX3_meters_14 : decode cX3_meters 14 = .ok (.getfield 30, 3) := by decide +kernel
theorem dX3_meters_17 : decode cX3_meters 17 = .ok (.iload_n 2, 1) := by decide +kernel
theorem dX3_meters_18 : decode cX3_meters 18 = .ok (.iaload, 1) := by decide +kernel
theorem dX3_meters_19 : decode cX3_meters 19 = .ok (.iadd, 1) := by decide +kernel
theorem dX3_meters_20 : decode cX3_meters 20 = .ok (.istore_n 1, 1) := by decide +kernel
theorem dX3_meters_21 : decode cX3_meters 21 = .ok (.iinc 2 1, 3) := by decide +kernel
theorem dX3_meters_24 : decode cX3_meters 24 = .ok (.goto (-20), 3) := by decide +kernel
theorem dX3_meters_27 : decode cX3_meters 27 = .ok (.iload_n 1, 1) := by decide +kernel
theorem dX3_meters_28 : decode cX3_meters 28 = .ok (.ireturn, 1) := by decide +kernel
theorem dX3_accounts_0 : decode cX3_accounts 0 = .ok (.iconst 0, 1) := by decide +kernel
theorem dX3_accounts_1 : decode cX3_accounts 1 = .ok (.istore_n 1, 1) := by decide +kernel
theorem dX3_accounts_2 : decode cX3_accounts 2 = .ok (.iconst 1, 1) := by decide +kernel
theorem dX3_accounts_3 : decode cX3_accounts 3 = .ok (.istore_n 2, 1) := by decide +kernel
theorem dX3_accounts_4 : decode cX3_accounts 4 = .ok (.iload_n 2, 1) := by decide +kernel
theorem dX3_accounts_5 : decode cX3_accounts 5 = .ok (.aload_n 0, 1) := by decide +kernel
theorem dX3_accounts_6 : decode cX3_accounts 6 = .ok (.getfield 36, 3) := by decide +kernel
theorem dX3_accounts_9 : decode cX3_accounts 9 = .ok (.if_icmp .ge 18, 3) := by decide +kernel
theorem dX3_accounts_12 : decode cX3_accounts 12 = .ok (.iload_n 1, 1) := by decide +kernel
theorem dX3_accounts_13 : decode cX3_accounts 13 = .ok (.aload_n 0, 1) := by decide +kernel
theorem dX3_accounts_14 : decode cX3_accounts 14 = .ok (.getfield 33, 3) := by decide +kernel
theorem dX3_accounts_17 : decode cX3_accounts 17 = .ok (.iload_n 2, 1) := by decide +kernel
theorem dX3_accounts_18 : decode cX3_accounts 18 = .ok (.iaload, 1) := by decide +kernel
theorem dX3_accounts_19 : decode cX3_accounts 19 = .ok (.iadd, 1) := by decide +kernel
theorem dX3_accounts_20 : decode cX3_accounts 20 = .ok (.istore_n 1, 1) := by decide +kernel
theorem dX3_accounts_21 : decode cX3_accounts 21 = .ok (.iinc 2 1, 3) := by decide +kernel
theorem dX3_accounts_24 : decode cX3_accounts 24 = .ok (.goto (-20), 3) := by decide +kernel
theorem dX3_accounts_27 : decode cX3_accounts 27 = .ok (.iload_n 1, 1) := by decide +kernel
theorem dX3_accounts_28 : decode cX3_accounts 28 = .ok (.ireturn, 1) := by decide +kernel
theorem dX4_init_0 : decode cX4_init 0 = .ok (.aload_n 0, 1) := by decide +kernel
theorem dX4_init_1 : decode cX4_init 1 = .ok (.invokespecial 3, 3) := by decide +kernel
theorem dX4_init_4 : decode cX4_init 4 = .ok (.aload_n 0, 1) := by decide +kernel
theorem dX4_init_5 : decode cX4_init 5 = .ok (.sipush 180, 3) := by decide +kernel
theorem dX4_init_8 : decode cX4_init 8 = .ok (.newarray .int, 2) := by decide +kernel
theorem dX4_init_10 : decode cX4_init 10 = .ok (.putfield 9, 3) := by decide +kernel
theorem dX4_init_13 : decode cX4_init 13 = .ok (.aload_n 0, 1) := by decide +kernel
theorem dX4_init_14 : decode cX4_init 14 = .ok (.iconst 0, 1) := by decide +kernel
theorem dX4_init_15 : decode cX4_init 15 = .ok (.putfield 15, 3) := by decide +kernel
theorem dX4_init_18 : decode cX4_init 18 = .ok (.aload_n 0, 1) := by decide +kernel
theorem dX4_init_19 : decode cX4_init 19 = .ok (.iconst 0, 1) := by decide +kernel
theorem dX4_init_20 : decode cX4_init 20 = .ok (.putfield 19, 3) := by decide +kernel
theorem dX4_init_23 : decode cX4_init 23 = .ok (.aload_n 0, 1) := by decide +kernel
theorem dX4_init_24 : decode cX4_init 24 = .ok (.iconst (-1), 1) := by decide +kernel
theorem dX4_init_25 : decode cX4_init 25 = .ok (.putfield 22, 3) := by decide +kernel
theorem dX4_init_28 : decode cX4_init 28 = .ok (.return_, 1) := by decide +kernel
theorem dX4_put_0 : decode cX4_put 0 = .ok (.aload_n 0, 1) := by decide +kernel
theorem dX4_put_1 : decode cX4_put 1 = .ok (.getfield 15, 3) := by decide +kernel
theorem dX4_put_4 : decode cX4_put 4 = .ok (.sipush 180, 3) := by decide +kernel
theorem dX4_put_7 : decode cX4_put 7 = .ok (.if_icmp .ge 23, 3) := by decide +kernel
theorem dX4_put_10 : decode cX4_put 10 = .ok (.aload_n 0, 1) := by decide +kernel
theorem dX4_put_11 : decode cX4_put 11 = .ok (.getfield 9, 3) := by decide +kernel
theorem dX4_put_14 : decode cX4_put 14 = .ok (.aload_n 0, 1) := by decide +kernel
theorem dX4_put_15 : decode cX4_put 15 = .ok (.getfield 15, 3) := by decide +kernel
theorem dX4_put_18 : decode cX4_put 18 = .ok (.iload_n 1, 1) := by decide +kernel
theorem dX4_put_19 : decode cX4_put 19 = .ok (.iastore, 1) := by decide +kernel
theorem dX4_put_20 : decode cX4_put 20 = .ok (.aload_n 0, 1) := by decide +kernel
theorem dX4_put_21 : decode cX4_put 21 = .ok (.dup, 1) := by decide +kernel
theorem dX4_put_22 : decode cX4_put 22 = .ok (.getfield 15, 3) := by decide +kernel
theorem dX4_put_25 : decode cX4_put 25 = .ok (.iconst 1, 1) := by decide +kernel
theorem dX4_put_26 : decode cX4_put 26 = .ok (.iadd, 1) := by decide +kernel
theorem dX4_put_27 : decode cX4_put 27 = .ok (.putfield 15, 3) := by decide +kernel
theorem dX4_put_30 : decode cX4_put 30 = .ok (.return_, 1) := by decide +kernel
theorem dX4_readInto_0 : decode cX4_readInto 0 = .ok (.aload_n 1, 1) := by decide +kernel
theorem dX4_readInto_1 : decode cX4_readInto 1 = .ok (.iconst 1, 1) := by decide +kernel
theorem dX4_readInto_2 : decode cX4_readInto 2 = .ok (.putfield 25, 3) := by decide +kernel
theorem dX4_readInto_5 : decode cX4_readInto 5 = .ok (.aload_n 0, 1) := by decide +kernel
theorem dX4_readInto_6 : decode cX4_readInto 6 = .ok (.iconst 0, 1) := by decide +kernel
theorem dX4_readInto_7 : decode cX4_readInto 7 = .ok (.putfield 19, 3) := by decide +kernel
theorem dX4_readInto_10 : decode cX4_readInto 10 = .ok (.aload_n 0, 1) := by decide +kernel
theorem dX4_readInto_11 : decode cX4_readInto 11 = .ok (.iconst (-1), 1) := by decide +kernel
theorem dX4_readInto_12 : decode cX4_readInto 12 = .ok (.putfield 22, 3) := by decide +kernel
theorem dX4_readInto_15 : decode cX4_readInto 15 = .ok (.iconst 1, 1) := by decide +kernel
theorem dX4_readInto_16 : decode cX4_readInto 16 = .ok (.istore_n 2, 1) := by decide +kernel
theorem dX4_readInto_17 : decode cX4_readInto 17 = .ok (.iload_n 2, 1) := by decide +kernel
theorem dX4_readInto_18 : decode cX4_readInto 18 = .ok (.bipush 16, 2) := by decide +kernel
theorem dX4_readInto_20 : decode cX4_readInto 20 = .ok (.if_icmp .ge 34, 3) := by decide +kernel
theorem dX4_readInto_23 : decode cX4_readInto 23 = .ok (.aload_n 0, 1) := by decide +kernel
theorem dX4_readInto_24 : decode cX4_readInto 24 = .ok (.getfield 19, 3) := by decide +kernel
theorem dX4_readInto_27 : decode cX4_readInto 27 = .ok (.aload_n 0, 1) := by decide +kernel
theorem dX4_readInto_28 : decode cX4_readInto 28 = .ok (.getfield 15, 3) := by decide +kernel
theorem dX4_readInto_31 : decode cX4_readInto 31 = .ok (.if_icmp .ge 23, 3) := by decide +kernel
theorem dX4_readInto_34 : decode cX4_readInto 34 = .ok (.aload_n 0, 1) := by decide +kernel
theorem dX4_readInto_35 : decode cX4_readInto 35 = .ok (.getfield 22, 3) := by decide +kernel
theorem dX4_readInto_38 : decode cX4_readInto 38 = .ok (.iconst (-1), 1) := by decide +kernel
theorem dX4_readInto_39 : decode cX4_readInto 39 = .ok (.if_icmp .ne 15, 3) := by decide +kernel
theorem dX4_readInto_42 : decode cX4_readInto 42 = .ok (.aload_n 0, 1) := by decide +kernel
theorem dX4_readInto_43 : decode cX4_readInto 43 = .ok (.aload_n 1, 1) := by decide +kernel
theorem dX4_readInto_44 : decode cX4_readInto 44 = .ok (.iload_n 2, 1) := by decide +kernel
theorem dX4_readInto_45 : decode cX4_readInto 45 = .ok (.invokevirtual 30, 3) := by decide +kernel
theorem dX4_readInto_48 : decode cX4_readInto 48 = .ok (.iinc 2 1, 3) := by decide +kernel
theorem dX4_readInto_51 : decode cX4_readInto 51 = .ok (.goto (-34), 3) := by decide +kernel
theorem dX4_readInto_54 : decode cX4_readInto 54 = .ok (.aload_n 0, 1) := by decide +kernel
theorem dX4_readInto_55 : decode cX4_readInto 55 = .ok (.getfield 22, 3) := by decide +kernel
theorem dX4_readInto_58 : decode cX4_readInto 58 = .ok (.iconst (-1), 1) := by decide +kernel
theorem dX4_readInto_59 : decode cX4_readInto 59 = .ok (.if_icmp .ne 22, 3) := by decide +kernel
theorem dX4_readInto_62 : decode cX4_readInto 62 = .ok (.aload_n 0, 1) := by decide +kernel
theorem dX4_readInto_63 : decode cX4_readInto 63 = .ok (.getfield 19, 3) := by decide +kernel
theorem dX4_readInto_66 : decode cX4_readInto 66 = .ok (.aload_n 0, 1) := by decide +kernel
theorem dX4_readInto_67 : decode cX4_readInto 67 = .ok (.getfield 15, 3) := by decide +kernel
theorem dX4_readInto_70 : decode cX4_readInto 70 = .ok (.if_icmp .ge 11, 3) := by decide +kernel
theorem dX4_readInto_73 : decode cX4_readInto 73 = .ok (.aload_n 0, 1) := by decide +kernel
theorem dX4_readInto_74 : decode cX4_readInto 74 = .ok (.aload_n 0, 1) := by decide +kernel
theorem dX4_readInto_75 : decode cX4_readInto 75 = .ok (.getfield 19, 3) := by decide +kernel
theorem dX4_readInto_78 : decode cX4_readInto 78 = .ok (.putfield 22, 3) := by decide +kernel
theorem dX4_readInto_81 : decode cX4_readInto 81 = .ok (.aload_n 0, 1) := by decide +kernel
theorem dX4_readInto_82 : decode cX4_readInto 82 = .ok (.getfield 22, 3) := by decide +kernel
theorem dX4_readInto_85 : decode cX4_readInto 85 = .ok (.ireturn, 1) := by decide +kernel
theorem dX4_readNode_0 : decode cX4_readNode 0 = .ok (.aload_n 0, 1) := by decide +kernel
theorem dX4_readNode_1 : decode cX4_readNode 1 = .ok (.iconst 2, 1) := by decide +kernel
theorem dX4_readNode_2 : decode cX4_readNode 2 = .ok (.iconst 0, 1) := by decide +kernel
theorem dX4_readNode_3 : decode cX4_readNode 3 = .ok (.iload_n 2, 1) := by decide +kernel
theorem dX4_readNode_4 : decode cX4_readNode 4 = .ok (.iconst 1, 1) := by decide +kernel
theorem dX4_readNode_5 : decode cX4_readNode 5 = .ok (.isub, 1) := by decide +kernel
theorem dX4_readNode_6 : decode cX4_readNode 6 = .ok (.bipush 44, 2) := by decide +kernel
theorem dX4_readNode_8 : decode cX4_readNode 8 = .ok (.invokevirtual 34, 3) := by decide +kernel
theorem dX4_readNode_11 : decode cX4_readNode 11 = .ok (.istore_n 3, 1) := by decide +kernel
theorem dX4_readNode_12 : decode cX4_readNode 12 = .ok (.aload_n 0, 1) := by decide +kernel
theorem dX4_readNode_13 : decode cX4_readNode 13 = .ok (.iconst 3, 1) := by decide +kernel
theorem dX4_readNode_14 : decode cX4_readNode 14 = .ok (.iconst 1, 1) := by decide +kernel
theorem dX4_readNode_15 : decode cX4_readNode 15 = .ok (.sipush 500, 3) := by decide +kernel
theorem dX4_readNode_18 : decode cX4_readNode 18 = .ok (.bipush 44, 2) := by decide +kernel
theorem dX4_readNode_20 : decode cX4_readNode 20 = .ok (.invokevirtual 34, 3) := by decide +kernel
theorem dX4_readNode_23 : decode cX4_readNode 23 = .ok (.istore 4, 2) := by decide +kernel
theorem dX4_readNode_25 : decode cX4_readNode 25 = .ok (.aload_n 0, 1) := by decide +kernel
theorem dX4_readNode_26 : decode cX4_readNode 26 = .ok (.iconst 2, 1) := by decide +kernel
theorem dX4_readNode_27 : decode cX4_readNode 27 = .ok (.iconst 0, 1) := by decide +kernel
theorem dX4_readNode_28 : decode cX4_readNode 28 = .ok (.bipush 50, 2) := by decide +kernel
theorem dX4_readNode_30 : decode cX4_readNode 30 = .ok (.bipush 44, 2) := by decide +kernel
theorem dX4_readNode_32 : decode cX4_readNode 32 = .ok (.invokevirtual 34, 3) := by decide +kernel
theorem dX4_readNode_35 : decode cX4_readNode 35 = .ok (.istore 5, 2) := by decide +kernel
theorem dX4_readNode_37 : decode cX4_readNode 37 = .ok (.aload_n 0, 1) := by decide +kernel
theorem dX4_readNode_38 : decode cX4_readNode 38 = .ok (.iconst 3, 1) := by decide +kernel
theorem dX4_readNode_39 : decode cX4_readNode 39 = .ok (.iconst 0, 1) := by decide +kernel
theorem dX4_readNode_40 : decode cX4_readNode 40 = .ok (.sipush 500, 3) := by decide +kernel
theorem dX4_readNode_43 : decode cX4_readNode 43 = .ok (.bipush 44, 2) := by decide +kernel
theorem dX4_readNode_45 : decode cX4_readNode 45 = .ok (.invokevirtual 34, 3) := by decide +kernel
theorem dX4_readNode_48 : decode cX4_readNode 48 = .ok (.istore 6, 2) := by decide +kernel
theorem dX4_readNode_50 : decode cX4_readNode 50 = .ok (.aload_n 0, 1) := by decide +kernel
theorem dX4_readNode_51 : decode cX4_readNode 51 = .ok (.iconst 4, 1) := by decide +kernel
theorem dX4_readNode_52 : decode cX4_readNode 52 = .ok (.iconst 0, 1) := by decide +kernel
theorem dX4_readNode_53 : decode cX4_readNode 53 = .ok (.sipush 1200, 3) := by decide +kernel
theorem dX4_readNode_56 : decode cX4_readNode 56 = .ok (.bipush 59, 2) := by decide +kernel
theorem dX4_readNode_58 : decode cX4_readNode 58 = .ok (.invokevirtual 34, 3) := by decide +kernel
theorem dX4_readNode_61 : decode cX4_readNode 61 = .ok (.istore 7, 2) := by decide +kernel
theorem dX4_readNode_63 : decode cX4_readNode 63 = .ok (.aload_n 0, 1) := by decide +kernel
theorem dX4_readNode_64 : decode cX4_readNode 64 = .ok (.getfield 22, 3) := by decide +kernel
theorem dX4_readNode_67 : decode cX4_readNode 67 = .ok (.iconst (-1), 1) := by decide +kernel
theorem dX4_readNode_68 : decode cX4_readNode 68 = .ok (.if_icmp .ne 17, 3) := by decide +kernel
theorem dX4_readNode_71 : decode cX4_readNode 71 = .ok (.aload_n 1, 1) := by decide +kernel
theorem dX4_readNode_72 : decode cX4_readNode 72 = .ok (.iload_n 3, 1) := by decide +kernel
theorem dX4_readNode_73 : decode cX4_readNode 73 = .ok (.iload 4, 2) := by decide +kernel
theorem dX4_readNode_75 : decode cX4_readNode 75 = .ok (.iload 5, 2) := by decide +kernel
theorem dX4_readNode_77 : decode cX4_readNode 77 = .ok (.iload 6, 2) := by decide +kernel
theorem dX4_readNode_79 : decode cX4_readNode 79 = .ok (.iload 7, 2) := by decide +kernel
theorem dX4_readNode_81 : decode cX4_readNode 81 = .ok (.invokevirtual 38, 3) := by decide +kernel
theorem dX4_readNode_84 : decode cX4_readNode 84 = .ok (.pop, 1) := by decide +kernel
theorem dX4_readNode_85 : decode cX4_readNode 85 = .ok (.return_, 1) := by decide +kernel
theorem dX4_readNumber_0 : decode cX4_readNumber 0 = .ok (.aload_n 0, 1) := by decide +kernel
theorem dX4_readNumber_1 : decode cX4_readNumber 1 = .ok (.getfield 22, 3) := by decide +kernel
theorem dX4_readNumber_4 : decode cX4_readNumber 4 = .ok (.iconst (-1), 1) := by decide +kernel
theorem dX4_readNumber_5 : decode cX4_readNumber 5 = .ok (.if_icmp .eq 5, 3) := by decide +kernel
theorem dX4_readNumber_8 : decode cX4_readNumber 8 = .ok (.iconst 0, 1) := by decide +kernel
theorem dX4_readNumber_9 : decode cX4_readNumber 9 = .ok (.ireturn, 1) := by decide +kernel
theorem dX4_readNumber_10 : decode cX4_readNumber 10 = .ok (.aload_n 0, 1) := by decide +kernel
theorem dX4_readNumber_11 : decode cX4_readNumber 11 = .ok (.getfield 19, 3) := by decide +kernel
theorem dX4_readNumber_14 : decode cX4_readNumber 14 = .ok (.istore 5, 2) := by decide +kernel
theorem dX4_readNumber_16 : decode cX4_readNumber 16 = .ok (.iconst 0, 1) := by decide +kernel
theorem dX4_readNumber_17 : decode cX4_readNumber 17 = .ok (.istore 6, 2) := by decide +kernel
theorem dX4_readNumber_19 : decode cX4_readNumber 19 = .ok (.aload_n 0, 1) := by decide +kernel
theorem dX4_readNumber_20 : decode cX4_readNumber 20 = .ok (.getfield 19, 3) := by decide +kernel
theorem dX4_readNumber_23 : decode cX4_readNumber 23 = .ok (.aload_n 0, 1) := by decide +kernel
theorem dX4_readNumber_24 : decode cX4_readNumber 24 = .ok (.getfield 15, 3) := by decide +kernel
theorem dX4_readNumber_27 : decode cX4_readNumber 27 = .ok (.if_icmp .ge 62, 3) := by decide +kernel
theorem dX4_readNumber_30 : decode cX4_readNumber 30 = .ok (.aload_n 0, 1) := by decide +kernel
theorem dX4_readNumber_31 : decode cX4_readNumber 31 = .ok (.getfield 9, 3) := by decide +kernel
theorem dX4_readNumber_34 : decode cX4_readNumber 34 = .ok (.aload_n 0, 1) := by decide +kernel
theorem dX4_readNumber_35 : decode cX4_readNumber 35 = .ok (.getfield 19, 3) := by decide +kernel
theorem dX4_readNumber_38 : decode cX4_readNumber 38 = .ok (.iaload, 1) := by decide +kernel
theorem dX4_readNumber_39 : decode cX4_readNumber 39 = .ok (.invokestatic 42, 3) := by decide +kernel
theorem dX4_readNumber_42 : decode cX4_readNumber 42 = .ok (.ifCond .eq 47, 3) := by decide +kernel
theorem dX4_readNumber_45 : decode cX4_readNumber 45 = .ok (.aload_n 0, 1) := by decide +kernel
theorem dX4_readNumber_46 : decode cX4_readNumber 46 = .ok (.getfield 19, 3) := by decide +kernel
theorem dX4_readNumber_49 : decode cX4_readNumber 49 = .ok (.iload 5, 2) := by decide +kernel
theorem dX4_readNumber_51 : decode cX4_readNumber 51 = .ok (.isub, 1) := by decide +kernel
theorem dX4_readNumber_52 : decode cX4_readNumber 52 = .ok (.iload_n 1, 1) := by decide +kernel
theorem dX4_readNumber_53 : decode cX4_readNumber 53 = .ok (.if_icmp .ge 36, 3) := by decide +kernel
theorem dX4_readNumber_56 : decode cX4_readNumber 56 = .ok (.bipush 10, 2) := by decide +kernel
theorem dX4_readNumber_58 : decode cX4_readNumber 58 = .ok (.iload 6, 2) := by decide +kernel
theorem dX4_readNumber_60 : decode cX4_readNumber 60 = .ok (.imul, 1) := by decide +kernel
theorem dX4_readNumber_61 : decode cX4_readNumber 61 = .ok (.aload_n 0, 1) := by decide +kernel
theorem dX4_readNumber_62 : decode cX4_readNumber 62 = .ok (.getfield 9, 3) := by decide +kernel
theorem dX4_readNumber_65 : decode cX4_readNumber 65 = .ok (.aload_n 0, 1) := by decide +kernel
theorem dX4_readNumber_66 : decode cX4_readNumber 66 = .ok (.getfield 19, 3) := by decide +kernel
theorem dX4_readNumber_69 : decode cX4_readNumber 69 = .ok (.iaload, 1) := by decide +kernel
theorem dX4_readNumber_70 : decode cX4_readNumber 70 = .ok (.iadd, 1) := by decide +kernel
theorem dX4_readNumber_71 : decode cX4_readNumber 71 = .ok (.bipush 48, 2) := by decide +kernel
theorem dX4_readNumber_73 : decode cX4_readNumber 73 = .ok (.isub, 1) := by decide +kernel
theorem dX4_readNumber_74 : decode cX4_readNumber 74 = .ok (.istore 6, 2) := by decide +kernel
theorem dX4_readNumber_76 : decode cX4_readNumber 76 = .ok (.aload_n 0, 1) := by decide +kernel
theorem dX4_readNumber_77 : decode cX4_readNumber 77 = .ok (.dup, 1) := by decide +kernel
theorem dX4_readNumber_78 : decode cX4_readNumber 78 = .ok (.getfield 19, 3) := by decide +kernel
theorem dX4_readNumber_81 : decode cX4_readNumber 81 = .ok (.iconst 1, 1) := by decide +kernel
theorem dX4_readNumber_82 : decode cX4_readNumber 82 = .ok (.iadd, 1) := by decide +kernel
theorem dX4_readNumber_83 : decode cX4_readNumber 83 = .ok (.putfield 19, 3) := by decide +kernel
theorem dX4_readNumber_86 : decode cX4_readNumber 86 = .ok (.goto (-67), 3) := by decide +kernel
theorem dX4_readNumber_89 : decode cX4_readNumber 89 = .ok (.aload_n 0, 1) := by decide +kernel
theorem dX4_readNumber_90 : decode cX4_readNumber 90 = .ok (.getfield 19, 3) := by decide +kernel
theorem dX4_readNumber_93 : decode cX4_readNumber 93 = .ok (.aload_n 0, 1) := by decide +kernel
theorem dX4_readNumber_94 : decode cX4_readNumber 94 = .ok (.getfield 15, 3) := by decide +kernel
theorem dX4_readNumber_97 : decode cX4_readNumber 97 = .ok (.if_icmp .ge 22, 3) := by decide +kernel
theorem dX4_readNumber_100 : decode cX4_readNumber 100 = .ok (.aload_n 0, 1) := by decide +kernel
theorem dX4_readNumber_101 : decode cX4_readNumber 101 = .ok (.getfield 9, 3) := by decide +kernel
theorem dX4_readNumber_104 : decode cX4_readNumber 104 = .ok (.aload_n 0, 1) := by decide +kernel
theorem dX4_readNumber_105 : decode cX4_readNumber 105 = .ok (.getfield 19, 3) := by decide +kernel
theorem dX4_readNumber_108 : decode cX4_readNumber 108 = .ok (.iaload, 1) := by decide +kernel
theorem dX4_readNumber_109 : decode cX4_readNumber 109 = .ok (.invokestatic 42, 3) := by decide +kernel
theorem dX4_readNumber_112 : decode cX4_readNumber 112 = .ok (.ifCond .eq 7, 3) := by decide +kernel
theorem dX4_readNumber_115 : decode cX4_readNumber 115 = .ok (.iconst 1, 1) := by decide +kernel
theorem dX4_readNumber_116 : decode cX4_readNumber 116 = .ok (.goto 4, 3) := by decide +kernel
theorem dX4_readNumber_119 : decode cX4_readNumber 119 = .ok (.iconst 0, 1) := by decide +kernel
theorem dX4_readNumber_120 : decode cX4_readNumber 120 = .ok (.istore 7, 2) := by decide +kernel
theorem dX4_readNumber_122 : decode cX4_readNumber 122 = .ok (.aload_n 0, 1) := by decide +kernel
theorem dX4_readNumber_123 : decode cX4_readNumber 123 = .ok (.getfield 19, 3) := by decide +kernel
theorem dX4_readNumber_126 : decode cX4_readNumber 126 = .ok (.iload 5, 2) := by decide +kernel
theorem dX4_readNumber_128 : decode cX4_readNumber 128 = .ok (.if_icmp .eq 8, 3) := by decide +kernel
theorem dX4_readNumber_131 : decode cX4_readNumber 131 = .ok (.iload 7, 2) := by decide +kernel
theorem dX4_readNumber_133 : decode cX4_readNumber 133 = .ok (.ifCond .eq 14, 3) := by decide +kernel
theorem dX4_readNumber_136 : decode cX4_readNumber 136 = .ok (.aload_n 0, 1) := by decide +kernel
theorem dX4_readNumber_137 : decode cX4_readNumber 137 = .ok (.aload_n 0, 1) := by decide +kernel
theorem dX4_readNumber_138 : decode cX4_readNumber 138 = .ok (.getfield 19, 3) := by decide +kernel
theorem dX4_readNumber_141 : decode cX4_readNumber 141 = .ok (.putfield 22, 3) := by decide +kernel
theorem dX4_readNumber_144 : decode cX4_readNumber 144 = .ok (.goto 70, 3) := by decide +kernel
theorem dX4_readNumber_147 : decode cX4_readNumber 147 = .ok (.iload 6, 2) := by decide +kernel
theorem dX4_readNumber_149 : decode cX4_readNumber 149 = .ok (.iload_n 2, 1) := by decide +kernel
theorem dX4_readNumber_150 : decode cX4_readNumber 150 = .ok (.if_icmp .lt 9, 3) := by decide +kernel
theorem dX4_readNumber_153 : decode cX4_readNumber 153 = .ok (.iload 6, 2) := by decide +kernel
theorem dX4_readNumber_155 : decode cX4_readNumber 155 = .ok (.iload_n 3, 1) := by decide +kernel
theorem dX4_readNumber_156 : decode cX4_readNumber 156 = .ok (.if_icmp .le 12, 3) := by decide +kernel
theorem dX4_readNumber_159 : decode cX4_readNumber 159 = .ok (.aload_n 0, 1) := by decide +kernel
theorem dX4_readNumber_160 : decode cX4_readNumber 160 = .ok (.iload 5, 2) := by decide +kernel
theorem dX4_readNumber_162 : decode cX4_readNumber 162 = .ok (.putfield 22, 3) := by decide +kernel
theorem dX4_readNumber_165 : decode cX4_readNumber 165 = .ok (.goto 49, 3) := by decide +kernel
theorem dX4_readNumber_168 : decode cX4_readNumber 168 = .ok (.aload_n 0, 1) := by decide +kernel
theorem dX4_readNumber_169 : decode cX4_readNumber 169 = .ok (.getfield 19, 3) := by decide +kernel
theorem dX4_readNumber_172 : decode cX4_readNumber 172 = .ok (.aload_n 0, 1) := by decide +kernel
theorem dX4_readNumber_173 : decode cX4_readNumber 173 = .ok (.getfield 15, 3) := by decide +kernel
theorem dX4_readNumber_176 : decode cX4_readNumber 176 = .ok (.if_icmp .ge 17, 3) := by decide +kernel
theorem dX4_readNumber_179 : decode cX4_readNumber 179 = .ok (.aload_n 0, 1) := by decide +kernel
theorem dX4_readNumber_180 : decode cX4_readNumber 180 = .ok (.getfield 9, 3) := by decide +kernel
theorem dX4_readNumber_183 : decode cX4_readNumber 183 = .ok (.aload_n 0, 1) := by decide +kernel
theorem dX4_readNumber_184 : decode cX4_readNumber 184 = .ok (.getfield 19, 3) := by decide +kernel
theorem dX4_readNumber_187 : decode cX4_readNumber 187 = .ok (.iaload, 1) := by decide +kernel
theorem dX4_readNumber_188 : decode cX4_readNumber 188 = .ok (.iload 4, 2) := by decide +kernel
theorem dX4_readNumber_190 : decode cX4_readNumber 190 = .ok (.if_icmp .eq 14, 3) := by decide +kernel
theorem dX4_readNumber_193 : decode cX4_readNumber 193 = .ok (.aload_n 0, 1) := by decide +kernel
theorem dX4_readNumber_194 : decode cX4_readNumber 194 = .ok (.aload_n 0, 1) := by decide +kernel
theorem dX4_readNumber_195 : decode cX4_readNumber 195 = .ok (.getfield 19, 3) := by decide +kernel
theorem dX4_readNumber_198 : decode cX4_readNumber 198 = .ok (.putfield 22, 3) := by decide +kernel
theorem dX4_readNumber_201 : decode cX4_readNumber 201 = .ok (.goto 13, 3) := by decide +kernel
theorem dX4_readNumber_204 : decode cX4_readNumber 204 = .ok (.aload_n 0, 1) := by decide +kernel
theorem dX4_readNumber_205 : decode cX4_readNumber 205 = .ok (.dup, 1) := by decide +kernel
theorem dX4_readNumber_206 : decode cX4_readNumber 206 = .ok (.getfield 19, 3) := by decide +kernel
theorem dX4_readNumber_209 : decode cX4_readNumber 209 = .ok (.iconst 1, 1) := by decide +kernel
theorem dX4_readNumber_210 : decode cX4_readNumber 210 = .ok (.iadd, 1) := by decide +kernel
theorem dX4_readNumber_211 : decode cX4_readNumber 211 = .ok (.putfield 19, 3) := by decide +kernel
theorem dX4_readNumber_214 : decode cX4_readNumber 214 = .ok (.iload 6, 2) := by decide +kernel
theorem dX4_readNumber_216 : decode cX4_readNumber 216 = .ok (.ireturn, 1) := by decide +kernel
theorem dX4_isDigit_0 : decode cX4_isDigit 0 = .ok (.iload_n 0, 1) := by decide +kernel
theorem dX4_isDigit_1 : decode cX4_isDigit 1 = .ok (.bipush 48, 2) := by decide +kernel
theorem dX4_isDigit_3 : decode cX4_isDigit 3 = .ok (.if_icmp .lt 13, 3) := by decide +kernel
theorem dX4_isDigit_6 : decode cX4_isDigit 6 = .ok (.iload_n 0, 1) := by decide +kernel
theorem dX4_isDigit_7 : decode cX4_isDigit 7 = .ok (.bipush 57, 2) := by decide +kernel
theorem dX4_isDigit_9 : decode cX4_isDigit 9 = .ok (.if_icmp .gt 7, 3) := by decide +kernel
theorem dX4_isDigit_12 : decode cX4_isDigit 12 = .ok (.iconst 1, 1) := by decide +kernel
theorem dX4_isDigit_13 : decode cX4_isDigit 13 = .ok (.goto 4, 3) := by decide +kernel
theorem dX4_isDigit_16 : decode cX4_isDigit 16 = .ok (.iconst 0, 1) := by decide +kernel
theorem dX4_isDigit_17 : decode cX4_isDigit 17 = .ok (.ireturn, 1) := by decide +kernel
theorem dX5_init_0 : decode cX5_init 0 = .ok (.aload_n 0, 1) := by decide +kernel
theorem dX5_init_1 : decode cX5_init 1 = .ok (.invokespecial 3, 3) := by decide +kernel
theorem dX5_init_4 : decode cX5_init 4 = .ok (.aload_n 0, 1) := by decide +kernel
theorem dX5_init_5 : decode cX5_init 5 = .ok (.bipush 16, 2) := by decide +kernel
theorem dX5_init_7 : decode cX5_init 7 = .ok (.newarray .int, 2) := by decide +kernel
theorem dX5_init_9 : decode cX5_init 9 = .ok (.putfield 9, 3) := by decide +kernel
theorem dX5_init_12 : decode cX5_init 12 = .ok (.aload_n 0, 1) := by decide +kernel
theorem dX5_init_13 : decode cX5_init 13 = .ok (.bipush 16, 2) := by decide +kernel
theorem dX5_init_15 : decode cX5_init 15 = .ok (.newarray .int, 2) := by decide +kernel
theorem dX5_init_17 : decode cX5_init 17 = .ok (.putfield 15, 3) := by decide +kernel
theorem dX5_init_20 : decode cX5_init 20 = .ok (.aload_n 0, 1) := by decide +kernel
theorem dX5_init_21 : decode cX5_init 21 = .ok (.bipush 16, 2) := by decide +kernel
theorem dX5_init_23 : decode cX5_init 23 = .ok (.newarray .int, 2) := by decide +kernel
theorem dX5_init_25 : decode cX5_init 25 = .ok (.putfield 18, 3) := by decide +kernel
theorem dX5_init_28 : decode cX5_init 28 = .ok (.aload_n 0, 1) := by decide +kernel
theorem dX5_init_29 : decode cX5_init 29 = .ok (.bipush 16, 2) := by decide +kernel
theorem dX5_init_31 : decode cX5_init 31 = .ok (.newarray .int, 2) := by decide +kernel
theorem dX5_init_33 : decode cX5_init 33 = .ok (.putfield 21, 3) := by decide +kernel
theorem dX5_init_36 : decode cX5_init 36 = .ok (.aload_n 0, 1) := by decide +kernel
theorem dX5_init_37 : decode cX5_init 37 = .ok (.bipush 16, 2) := by decide +kernel
theorem dX5_init_39 : decode cX5_init 39 = .ok (.newarray .int, 2) := by decide +kernel
theorem dX5_init_41 : decode cX5_init 41 = .ok (.putfield 24, 3) := by decide +kernel
theorem dX5_init_44 : decode cX5_init 44 = .ok (.aload_n 0, 1) := by decide +kernel
theorem dX5_init_45 : decode cX5_init 45 = .ok (.iconst 1, 1) := by decide +kernel
theorem dX5_init_46 : decode cX5_init 46 = .ok (.putfield 27, 3) := by decide +kernel
theorem dX5_init_49 : decode cX5_init 49 = .ok (.return_, 1) := by decide +kernel
theorem dX5_takeMeters_0 : decode cX5_takeMeters 0 = .ok (.aload_n 1, 1) := by decide +kernel
theorem dX5_takeMeters_1 : decode cX5_takeMeters 1 = .ok (.getfield 31, 3) := by decide +kernel
theorem dX5_takeMeters_4 : decode cX5_takeMeters 4 = .ok (.aload_n 0, 1) := by decide +kernel
theorem dX5_takeMeters_5 : decode cX5_takeMeters 5 = .ok (.getfield 9, 3) := by decide +kernel
theorem dX5_takeMeters_8 : decode cX5_takeMeters 8 = .ok (.invokestatic 34, 3) := by decide +kernel
theorem dX5_takeMeters_11 : decode cX5_takeMeters 11 = .ok (.return_, 1) := by decide +kernel
theorem dX5_giveMeter_0 : decode cX5_giveMeter 0 = .ok (.iload_n 1, 1) := by decide +kernel
theorem dX5_giveMeter_1 : decode cX5_giveMeter 1 = .ok (.ifCond .lt 16, 3) := by decide +kernel
theorem dX5_giveMeter_4 : decode cX5_giveMeter 4 = .ok (.iload_n 1, 1) := by decide +kernel
theorem dX5_giveMeter_5 : decode cX5_giveMeter 5 = .ok (.bipush 16, 2) := by decide +kernel
theorem dX5_giveMeter_7 : decode cX5_giveMeter 7 = .ok (.if_icmp .ge 10, 3) := by decide +kernel
theorem dX5_giveMeter_10 : decode cX5_giveMeter 10 = .ok (.aload_n 0, 1) := by decide +kernel
theorem dX5_giveMeter_11 : decode cX5_giveMeter 11 = .ok (.getfield 9, 3) := by decide +kernel
theorem dX5_giveMeter_14 : decode cX5_giveMeter 14 = .ok (.iload_n 1, 1) := by decide +kernel
theorem dX5_giveMeter_15 : decode cX5_giveMeter 15 = .ok (.iconst 1, 1) := by decide +kernel
theorem dX5_giveMeter_16 : decode cX5_giveMeter 16 = .ok (.iastore, 1) := by decide +kernel
theorem dX5_giveMeter_17 : decode cX5_giveMeter 17 = .ok (.return_, 1) := by decide +kernel
theorem dX5_settle_0 : decode cX5_settle 0 = .ok (.aload_n 0, 1) := by decide +kernel
theorem dX5_settle_1 : decode cX5_settle 1 = .ok (.aload_n 1, 1) := by decide +kernel
theorem dX5_settle_2 : decode cX5_settle 2 = .ok (.getfield 38, 3) := by decide +kernel
theorem dX5_settle_5 : decode cX5_settle 5 = .ok (.putfield 27, 3) := by decide +kernel
theorem dX5_settle_8 : decode cX5_settle 8 = .ok (.aload_n 0, 1) := by decide +kernel
theorem dX5_settle_9 : decode cX5_settle 9 = .ok (.invokevirtual 39, 3) := by decide +kernel
theorem dX5_settle_12 : decode cX5_settle 12 = .ok (.iconst 1, 1) := by decide +kernel
theorem dX5_settle_13 : decode cX5_settle 13 = .ok (.istore_n 2, 1) := by decide +kernel
theorem dX5_settle_14 : decode cX5_settle 14 = .ok (.iload_n 2, 1) := by decide +kernel
theorem dX5_settle_15 : decode cX5_settle 15 = .ok (.aload_n 0, 1) := by decide +kernel
theorem dX5_settle_16 : decode cX5_settle 16 = .ok (.getfield 27, 3) := by decide +kernel
theorem dX5_settle_19 : decode cX5_settle 19 = .ok (.if_icmp .ge 60, 3) := by decide +kernel
theorem dX5_settle_22 : decode cX5_settle 22 = .ok (.aload_n 0, 1) := by decide +kernel
theorem dX5_settle_23 : decode cX5_settle 23 = .ok (.iload_n 2, 1) := by decide +kernel
theorem dX5_settle_24 : decode cX5_settle 24 = .ok (.invokevirtual 42, 3) := by decide +kernel
theorem dX5_settle_27 : decode cX5_settle 27 = .ok (.ifCond .eq 7, 3) := by decide +kernel
theorem dX5_settle_30 : decode cX5_settle 30 = .ok (.iload_n 2, 1) := by decide +kernel
theorem dX5_settle_31 : decode cX5_settle 31 = .ok (.goto 9, 3) := by decide +kernel
theorem dX5_settle_34 : decode cX5_settle 34 = .ok (.aload_n 0, 1) := by decide +kernel
theorem dX5_settle_35 : decode cX5_settle 35 = .ok (.aload_n 1, 1) := by decide +kernel
theorem dX5_settle_36 : decode cX5_settle 36 = .ok (.iload_n 2, 1) := by decide +kernel
theorem dX5_settle_37 : decode cX5_settle 37 = .ok (.invokevirtual 46, 3) := by decide +kernel
theorem dX5_settle_40 : decode cX5_settle 40 = .ok (.istore_n 3, 1) := by decide +kernel
theorem dX5_settle_41 : decode cX5_settle 41 = .ok (.aload_n 0, 1) := by decide +kernel
theorem dX5_settle_42 : decode cX5_settle 42 = .ok (.getfield 15, 3) := by decide +kernel
theorem dX5_settle_45 : decode cX5_settle 45 = .ok (.iload_n 2, 1) := by decide +kernel
theorem dX5_settle_46 : decode cX5_settle 46 = .ok (.iload_n 3, 1) := by decide +kernel
theorem dX5_settle_47 : decode cX5_settle 47 = .ok (.iastore, 1) := by decide +kernel
theorem dX5_settle_48 : decode cX5_settle 48 = .ok (.aload_n 0, 1) := by decide +kernel
theorem dX5_settle_49 : decode cX5_settle 49 = .ok (.getfield 21, 3) := by decide +kernel
theorem dX5_settle_52 : decode cX5_settle 52 = .ok (.iload_n 3, 1) := by decide +kernel
theorem dX5_settle_53 : decode cX5_settle 53 = .ok (.dup2, 1) := by decide +kernel
theorem dX5_settle_54 : decode cX5_settle 54 = .ok (.iaload, 1) := by decide +kernel
theorem dX5_settle_55 : decode cX5_settle 55 = .ok (.iconst 1, 1) := by decide +kernel
theorem dX5_settle_56 : decode cX5_settle 56 = .ok (.iadd, 1) := by decide +kernel
theorem dX5_settle_57 : decode cX5_settle 57 = .ok (.iastore, 1) := by decide +kernel
theorem dX5_settle_58 : decode cX5_settle 58 = .ok (.aload_n 0, 1) := by decide +kernel
theorem dX5_settle_59 : decode cX5_settle 59 = .ok (.getfield 24, 3) := by decide +kernel
theorem dX5_settle_62 : decode cX5_settle 62 = .ok (.iload_n 3, 1) := by decide +kernel
theorem dX5_settle_63 : decode cX5_settle 63 = .ok (.dup2, 1) := by decide +kernel
theorem dX5_settle_64 : decode cX5_settle 64 = .ok (.iaload, 1) := by decide +kernel
theorem dX5_settle_65 : decode cX5_settle 65 = .ok (.aload_n 1, 1) := by decide +kernel
theorem dX5_settle_66 : decode cX5_settle 66 = .ok (.getfield 50, 3) := by decide +kernel
theorem dX5_settle_69 : decode cX5_settle 69 = .ok (.iload_n 2, 1) := by decide +kernel
theorem dX5_settle_70 : decode cX5_settle 70 = .ok (.iaload, 1) := by decide +kernel
theorem dX5_settle_71 : decode cX5_settle 71 = .ok (.iadd, 1) := by decide +kernel
theorem dX5_settle_72 : decode cX5_settle 72 = .ok (.iastore, 1) := by decide +kernel
theorem dX5_settle_73 : decode cX5_settle 73 = .ok (.iinc 2 1, 3) := by decide +kernel
theorem dX5_settle_76 : decode cX5_settle 76 = .ok (.goto (-62), 3) := by decide +kernel
theorem dX5_settle_79 : decode cX5_settle 79 = .ok (.aload_n 0, 1) := by decide +kernel
theorem dX5_settle_80 : decode cX5_settle 80 = .ok (.aload_n 1, 1) := by decide +kernel
theorem dX5_settle_81 : decode cX5_settle 81 = .ok (.invokevirtual 53, 3) := by decide +kernel
theorem dX5_settle_84 : decode cX5_settle 84 = .ok (.return_, 1) := by decide +kernel
theorem dX5_clearCounts_0 : decode cX5_clearCounts 0 = .ok (.aload_n 0, 1) := by decide +kernel
theorem dX5_clearCounts_1 : decode cX5_clearCounts 1 = .ok (.getfield 15, 3) := by decide +kernel
theorem dX5_clearCounts_4 : decode cX5_clearCounts 4 = .ok (.iconst 0, 1) := by decide +kernel
theorem dX5_clearCounts_5 : decode cX5_clearCounts 5 = .ok (.iconst 0, 1) := by decide +kernel
theorem dX5_clearCounts_6 : decode cX5_clearCounts 6 = .ok (.iastore, 1) := by decide +kernel
theorem dX5_clearCounts_7 : decode cX5_clearCounts 7 = .ok (.iconst 0, 1) := by decide +kernel
theorem dX5_clearCounts_8 : decode cX5_clearCounts 8 = .ok (.istore_n 1, 1) := by decide +kernel
theorem dX5_clearCounts_9 : decode cX5_clearCounts 9 = .ok (.iload_n 1, 1) := by decide +kernel
theorem dX5_clearCounts_10 : decode cX5_clearCounts 10 = .ok (.aload_n 0, 1) := by decide +kernel
theorem dX5_clearCounts_11 : decode cX5_clearCounts 11 = .ok (.getfield 27, 3) := by decide +kernel
theorem dX5_clearCounts_14 : decode cX5_clearCounts 14 = .ok (.if_icmp .ge 38, 3) := by decide +kernel
theorem dX5_clearCounts_17 : decode cX5_clearCounts 17 = .ok (.aload_n 0, 1) := by decide +kernel
theorem dX5_clearCounts_18 : decode cX5_clearCounts 18 = .ok (.getfield 21, 3) := by decide +kernel
theorem dX5_clearCounts_21 : decode cX5_clearCounts 21 = .ok (.iload_n 1, 1) := by decide +kernel
theorem dX5_clearCounts_22 : decode cX5_clearCounts 22 = .ok (.iconst 0, 1) := by decide +kernel
theorem dX5_clearCounts_23 : decode cX5_clearCounts 23 = .ok (.iastore, 1) := by decide +kernel
theorem dX5_clearCounts_24 : decode cX5_clearCounts 24 = .ok (.aload_n 0, 1) := by decide +kernel
theorem dX5_clearCounts_25 : decode cX5_clearCounts 25 = .ok (.getfield 24, 3) := by decide +kernel
theorem dX5_clearCounts_28 : decode cX5_clearCounts 28 = .ok (.iload_n 1, 1) := by decide +kernel
theorem dX5_clearCounts_29 : decode cX5_clearCounts 29 = .ok (.iconst 0, 1) := by decide +kernel
theorem dX5_clearCounts_30 : decode cX5_clearCounts 30 = .ok (.iastore, 1) := by decide +kernel
theorem dX5_clearCounts_31 : decode cX5_clearCounts 31 = .ok (.aload_n 0, 1) := by decide +kernel
theorem dX5_clearCounts_32 : decode cX5_clearCounts 32 = .ok (.getfield 18, 3) := by decide +kernel
theorem dX5_clearCounts_35 : decode cX5_clearCounts 35 = .ok (.iload_n 1, 1) := by decide +kernel
theorem dX5_clearCounts_36 : decode cX5_clearCounts 36 = .ok (.iload_n 1, 1) := by decide +kernel
theorem dX5_clearCounts_37 : decode cX5_clearCounts 37 = .ok (.ifCond .ne 7, 3) := by decide +kernel
theorem dX5_clearCounts_40 : decode cX5_clearCounts 40 = .ok (.iconst 0, 1) := by decide +kernel
theorem dX5_clearCounts_41 : decode cX5_clearCounts 41 = .ok (.goto 4, 3) := by decide +kernel
theorem dX5_clearCounts_44 : decode cX5_clearCounts 44 = .ok (.iconst 1, 1) := by decide +kernel
theorem dX5_clearCounts_45 : decode cX5_clearCounts 45 = .ok (.iastore, 1) := by decide +kernel
theorem dX5_clearCounts_46 : decode cX5_clearCounts 46 = .ok (.iinc 1 1, 3) := by decide +kernel
theorem dX5_clearCounts_49 : decode cX5_clearCounts 49 = .ok (.goto (-40), 3) := by decide +kernel
theorem dX5_clearCounts_52 : decode cX5_clearCounts 52 = .ok (.return_, 1) := by decide +kernel
theorem dX5_headAbove_0 : decode cX5_headAbove 0 = .ok (.aload_n 1, 1) := by decide +kernel
theorem dX5_headAbove_1 : decode cX5_headAbove 1 = .ok (.iload_n 2, 1) := by decide +kernel
theorem dX5_headAbove_2 : decode cX5_headAbove 2 = .ok (.invokevirtual 57, 3) := by decide +kernel
theorem dX5_headAbove_5 : decode cX5_headAbove 5 = .ok (.ifCond .eq 17, 3) := by decide +kernel
theorem dX5_headAbove_8 : decode cX5_headAbove 8 = .ok (.aload_n 0, 1) := by decide +kernel
theorem dX5_headAbove_9 : decode cX5_headAbove 9 = .ok (.getfield 15, 3) := by decide +kernel
theorem dX5_headAbove_12 : decode cX5_headAbove 12 = .ok (.aload_n 1, 1) := by decide +kernel
theorem dX5_headAbove_13 : decode cX5_headAbove 13 = .ok (.getfield 60, 3) := by decide +kernel
theorem dX5_headAbove_16 : decode cX5_headAbove 16 = .ok (.iload_n 2, 1) := by decide +kernel
theorem dX5_headAbove_17 : decode cX5_headAbove 17 = .ok (.iaload, 1) := by decide +kernel
theorem dX5_headAbove_18 : decode cX5_headAbove 18 = .ok (.iaload, 1) := by decide +kernel
theorem dX5_headAbove_19 : decode cX5_headAbove 19 = .ok (.goto 4, 3) := by decide +kernel
theorem dX5_headAbove_22 : decode cX5_headAbove 22 = .ok (.iconst 0, 1) := by decide +kernel
theorem dX5_headAbove_23 : decode cX5_headAbove 23 = .ok (.istore_n 3, 1) := by decide +kernel
theorem dX5_headAbove_24 : decode cX5_headAbove 24 = .ok (.iload_n 3, 1) := by decide +kernel
theorem dX5_headAbove_25 : decode cX5_headAbove 25 = .ok (.ifCond .lt 12, 3) := by decide +kernel
theorem dX5_headAbove_28 : decode cX5_headAbove 28 = .ok (.iload_n 3, 1) := by decide +kernel
theorem dX5_headAbove_29 : decode cX5_headAbove 29 = .ok (.iload_n 2, 1) := by decide +kernel
theorem dX5_headAbove_30 : decode cX5_headAbove 30 = .ok (.if_icmp .ge 7, 3) := by decide +kernel
theorem dX5_headAbove_33 : decode cX5_headAbove 33 = .ok (.iload_n 3, 1) := by decide +kernel
theorem dX5_headAbove_34 : decode cX5_headAbove 34 = .ok (.goto 4, 3) := by decide +kernel
theorem dX5_headAbove_37 : decode cX5_headAbove 37 = .ok (.iconst 0, 1) := by decide +kernel
theorem dX5_headAbove_38 : decode cX5_headAbove 38 = .ok (.ireturn, 1) := by decide +kernel
theorem dX5_countBranches_0 : decode cX5_countBranches 0 = .ok (.aload_n 0, 1) := by decide +kernel
theorem dX5_countBranches_1 : decode cX5_countBranches 1 = .ok (.getfield 27, 3) := by decide +kernel
theorem dX5_countBranches_4 : decode cX5_countBranches 4 = .ok (.iconst 1, 1) := by decide +kernel
theorem dX5_countBranches_5 : decode cX5_countBranches 5 = .ok (.isub, 1) := by decide +kernel
theorem dX5_countBranches_6 : decode cX5_countBranches 6 = .ok (.istore_n 2, 1) := by decide +kernel
theorem dX5_countBranches_7 : decode cX5_countBranches 7 = .ok (.iload_n 2, 1) := by decide +kernel
theorem dX5_countBranches_8 : decode cX5_countBranches 8 = .ok (.ifCond .le 45, 3) := by decide +kernel
theorem dX5_countBranches_11 : decode cX5_countBranches 11 = .ok (.aload_n 0, 1) := by decide +kernel
theorem dX5_countBranches_12 : decode cX5_countBranches 12 = .ok (.iload_n 2, 1) := by decide +kernel
theorem dX5_countBranches_13 : decode cX5_countBranches 13 = .ok (.invokevirtual 42, 3) := by decide +kernel
theorem dX5_countBranches_16 : decode cX5_countBranches 16 = .ok (.ifCond .ne 31, 3) := by decide +kernel
theorem dX5_countBranches_19 : decode cX5_countBranches 19 = .ok (.aload_n 1, 1) := by decide +kernel
theorem dX5_countBranches_20 : decode cX5_countBranches 20 = .ok (.iload_n 2, 1) := by decide +kernel
theorem dX5_countBranches_21 : decode cX5_countBranches 21 = .ok (.invokevirtual 57, 3) := by decide +kernel
theorem dX5_countBranches_24 : decode cX5_countBranches 24 = .ok (.ifCond .eq 23, 3) := by decide +kernel
theorem dX5_countBranches_27 : decode cX5_countBranches 27 = .ok (.aload_n 0, 1) := by decide +kernel
theorem dX5_countBranches_28 : decode cX5_countBranches 28 = .ok (.getfield 18, 3) := by decide +kernel
theorem dX5_countBranches_31 : decode cX5_countBranches 31 = .ok (.aload_n 1, 1) := by decide +kernel
theorem dX5_countBranches_32 : decode cX5_countBranches 32 = .ok (.getfield 60, 3) := by decide +kernel
theorem dX5_countBranches_35 : decode cX5_countBranches 35 = .ok (.iload_n 2, 1) := by decide +kernel
theorem dX5_countBranches_36 : decode cX5_countBranches 36 = .ok (.iaload, 1) := by decide +kernel
theorem dX5_countBranches_37 : decode cX5_countBranches 37 = .ok (.dup2, 1) := by decide +kernel
theorem dX5_countBranches_38 : decode cX5_countBranches 38 = .ok (.iaload, 1) := by decide +kernel
theorem dX5_countBranches_39 : decode cX5_countBranches 39 = .ok (.aload_n 0, 1) := by decide +kernel
theorem dX5_countBranches_40 : decode cX5_countBranches 40 = .ok (.getfield 18, 3) := by decide +kernel
theorem dX5_countBranches_43 : decode cX5_countBranches 43 = .ok (.iload_n 2, 1) := by decide +kernel
theorem dX5_countBranches_44 : decode cX5_countBranches 44 = .ok (.iaload, 1) := by decide +kernel
theorem dX5_countBranches_45 : decode cX5_countBranches 45 = .ok (.iadd, 1) := by decide +kernel
theorem dX5_countBranches_46 : decode cX5_countBranches 46 = .ok (.iastore, 1) := by decide +kernel
theorem dX5_countBranches_47 : decode cX5_countBranches 47 = .ok (.iinc 2 (-1), 3) := by decide +kernel
theorem dX5_countBranches_50 : decode cX5_countBranches 50 = .ok (.goto (-43), 3) := by decide +kernel
theorem dX5_countBranches_53 : decode cX5_countBranches 53 = .ok (.return_, 1) := by decide +kernel
theorem dX5_hasMeter_0 : decode cX5_hasMeter 0 = .ok (.iload_n 1, 1) := by decide +kernel
theorem dX5_hasMeter_1 : decode cX5_hasMeter 1 = .ok (.ifCond .eq 12, 3) := by decide +kernel
theorem dX5_hasMeter_4 : decode cX5_hasMeter 4 = .ok (.aload_n 0, 1) := by decide +kernel
theorem dX5_hasMeter_5 : decode cX5_hasMeter 5 = .ok (.getfield 9, 3) := by decide +kernel
theorem dX5_hasMeter_8 : decode cX5_hasMeter 8 = .ok (.iload_n 1, 1) := by decide +kernel
theorem dX5_hasMeter_9 : decode cX5_hasMeter 9 = .ok (.iaload, 1) := by decide +kernel
theorem dX5_hasMeter_10 : decode cX5_hasMeter 10 = .ok (.ifCond .eq 7, 3) := by decide +kernel
theorem dX5_hasMeter_13 : decode cX5_hasMeter 13 = .ok (.iconst 1, 1) := by decide +kernel
theorem dX5_hasMeter_14 : decode cX5_hasMeter 14 = .ok (.goto 4, 3) := by decide +kernel
theorem dX5_hasMeter_17 : decode cX5_hasMeter 17 = .ok (.iconst 0, 1) := by decide +kernel
theorem dX5_hasMeter_18 : decode cX5_hasMeter 18 = .ok (.ireturn, 1) := by decide +kernel
theorem dX5_balanceAt_0 : decode cX5_balanceAt 0 = .ok (.aload_n 0, 1) := by decide +kernel
theorem dX5_balanceAt_1 : decode cX5_balanceAt 1 = .ok (.iload_n 1, 1) := by decide +kernel
theorem dX5_balanceAt_2 : decode cX5_balanceAt 2 = .ok (.invokevirtual 42, 3) := by decide +kernel
theorem dX5_balanceAt_5 : decode cX5_balanceAt 5 = .ok (.ifCond .eq 12, 3) := by decide +kernel
theorem dX5_balanceAt_8 : decode cX5_balanceAt 8 = .ok (.aload_n 0, 1) := by decide +kernel
theorem dX5_balanceAt_9 : decode cX5_balanceAt 9 = .ok (.getfield 24, 3) := by decide +kernel
theorem dX5_balanceAt_12 : decode cX5_balanceAt 12 = .ok (.iload_n 1, 1) := by decide +kernel
theorem dX5_balanceAt_13 : decode cX5_balanceAt 13 = .ok (.iaload, 1) := by decide +kernel
theorem dX5_balanceAt_14 : decode cX5_balanceAt 14 = .ok (.goto 4, 3) := by decide +kernel
theorem dX5_balanceAt_17 : decode cX5_balanceAt 17 = .ok (.iconst (-1), 1) := by decide +kernel
theorem dX5_balanceAt_18 : decode cX5_balanceAt 18 = .ok (.ireturn, 1) := by decide +kernel
theorem dX5_sizeAt_0 : decode cX5_sizeAt 0 = .ok (.aload_n 0, 1) := by decide +kernel
theorem dX5_sizeAt_1 : decode cX5_sizeAt 1 = .ok (.iload_n 1, 1) := by decide +kernel
theorem dX5_sizeAt_2 : decode cX5_sizeAt 2 = .ok (.invokevirtual 42, 3) := by decide +kernel
theorem dX5_sizeAt_5 : decode cX5_sizeAt 5 = .ok (.ifCond .eq 12, 3) := by decide +kernel
theorem dX5_sizeAt_8 : decode cX5_sizeAt 8 = .ok (.aload_n 0, 1) := by decide +kernel
theorem dX5_sizeAt_9 : decode cX5_sizeAt 9 = .ok (.getfield 21, 3) := by decide +kernel
theorem dX5_sizeAt_12 : decode cX5_sizeAt 12 = .ok (.iload_n 1, 1) := by decide +kernel
theorem dX5_sizeAt_13 : decode cX5_sizeAt 13 = .ok (.iaload, 1) := by decide +kernel
theorem dX5_sizeAt_14 : decode cX5_sizeAt 14 = .ok (.goto 4, 3) := by decide +kernel
theorem dX5_sizeAt_17 : decode cX5_sizeAt 17 = .ok (.iconst (-1), 1) := by decide +kernel
theorem dX5_sizeAt_18 : decode cX5_sizeAt 18 = .ok (.ireturn, 1) := by decide +kernel
theorem dX5_suspectCount_0 : decode cX5_suspectCount 0 = .ok (.iconst 0, 1) := by decide +kernel
theorem dX5_suspectCount_1 : decode cX5_suspectCount 1 = .ok (.istore_n 1, 1) := by decide +kernel
theorem dX5_suspectCount_2 : decode cX5_suspectCount 2 = .ok (.iconst 0, 1) := by decide +kernel
theorem dX5_suspectCount_3 : decode cX5_suspectCount 3 = .ok (.istore_n 2, 1) := by decide +kernel
theorem dX5_suspectCount_4 : decode cX5_suspectCount 4 = .ok (.iload_n 2, 1) := by decide +kernel
theorem dX5_suspectCount_5 : decode cX5_suspectCount 5 = .ok (.aload_n 0, 1) := by decide +kernel
theorem dX5_suspectCount_6 : decode cX5_suspectCount 6 = .ok (.getfield 27, 3) := by decide +kernel
theorem dX5_suspectCount_9 : decode cX5_suspectCount 9 = .ok (.if_icmp .ge 20, 3) := by decide +kernel
theorem dX5_suspectCount_12 : decode cX5_suspectCount 12 = .ok (.aload_n 0, 1) := by decide +kernel
theorem dX5_suspectCount_13 : decode cX5_suspectCount 13 = .ok (.iload_n 2, 1) := by decide +kernel
theorem dX5_suspectCount_14 : decode cX5_suspectCount 14 = .ok (.invokevirtual 63, 3) := by decide +kernel
theorem dX5_suspectCount_17 : decode cX5_suspectCount 17 = .ok (.ifCond .le 6, 3) := by decide +kernel
theorem dX5_suspectCount_20 : decode cX5_suspectCount 20 = .ok (.iinc 1 1, 3) := by decide +kernel
theorem dX5_suspectCount_23 : decode cX5_suspectCount 23 = .ok (.iinc 2 1, 3) := by decide +kernel
theorem dX5_suspectCount_26 : decode cX5_suspectCount 26 = .ok (.goto (-22), 3) := by decide +kernel
theorem dX5_suspectCount_29 : decode cX5_suspectCount 29 = .ok (.iload_n 1, 1) := by decide +kernel
theorem dX5_suspectCount_30 : decode cX5_suspectCount 30 = .ok (.ireturn, 1) := by decide +kernel
theorem dX5_nextPlace_0 : decode cX5_nextPlace 0 = .ok (.aload_n 0, 1) := by decide +kernel
theorem dX5_nextPlace_1 : decode cX5_nextPlace 1 = .ok (.iload_n 1, 1) := by decide +kernel
theorem dX5_nextPlace_2 : decode cX5_nextPlace 2 = .ok (.invokevirtual 63, 3) := by decide +kernel
theorem dX5_nextPlace_5 : decode cX5_nextPlace 5 = .ok (.ifCond .le 13, 3) := by decide +kernel
theorem dX5_nextPlace_8 : decode cX5_nextPlace 8 = .ok (.aload_n 0, 1) := by decide +kernel
theorem dX5_nextPlace_9 : decode cX5_nextPlace 9 = .ok (.getfield 21, 3) := by decide +kernel
theorem dX5_nextPlace_12 : decode cX5_nextPlace 12 = .ok (.iload_n 1, 1) := by decide +kernel
theorem dX5_nextPlace_13 : decode cX5_nextPlace 13 = .ok (.iaload, 1) := by decide +kernel
theorem dX5_nextPlace_14 : decode cX5_nextPlace 14 = .ok (.iconst 1, 1) := by decide +kernel
theorem dX5_nextPlace_15 : decode cX5_nextPlace 15 = .ok (.if_icmp .gt 5, 3) := by decide +kernel
theorem dX5_nextPlace_18 : decode cX5_nextPlace 18 = .ok (.iconst (-1), 1) := by decide +kernel
theorem dX5_nextPlace_19 : decode cX5_nextPlace 19 = .ok (.ireturn, 1) := by decide +kernel
theorem dX5_nextPlace_20 : decode cX5_nextPlace 20 = .ok (.iconst (-1), 1) := by decide +kernel
theorem dX5_nextPlace_21 : decode cX5_nextPlace 21 = .ok (.istore_n 2, 1) := by decide +kernel
theorem dX5_nextPlace_22 : decode cX5_nextPlace 22 = .ok (.iconst 0, 1) := by decide +kernel
theorem dX5_nextPlace_23 : decode cX5_nextPlace 23 = .ok (.istore_n 3, 1) := by decide +kernel
theorem dX5_nextPlace_24 : decode cX5_nextPlace 24 = .ok (.iconst 1, 1) := by decide +kernel
theorem dX5_nextPlace_25 : decode cX5_nextPlace 25 = .ok (.istore 4, 2) := by decide +kernel
theorem dX5_nextPlace_27 : decode cX5_nextPlace 27 = .ok (.iload 4, 2) := by decide +kernel
theorem dX5_nextPlace_29 : decode cX5_nextPlace 29 = .ok (.aload_n 0, 1) := by decide +kernel
theorem dX5_nextPlace_30 : decode cX5_nextPlace 30 = .ok (.getfield 27, 3) := by decide +kernel
theorem dX5_nextPlace_33 : decode cX5_nextPlace 33 = .ok (.if_icmp .ge 67, 3) := by decide +kernel
theorem dX5_nextPlace_36 : decode cX5_nextPlace 36 = .ok (.aload_n 0, 1) := by decide +kernel
theorem dX5_nextPlace_37 : decode cX5_nextPlace 37 = .ok (.getfield 15, 3) := by decide +kernel
theorem dX5_nextPlace_40 : decode cX5_nextPlace 40 = .ok (.iload 4, 2) := by decide +kernel
theorem dX5_nextPlace_42 : decode cX5_nextPlace 42 = .ok (.iaload, 1) := by decide +kernel
theorem dX5_nextPlace_43 : decode cX5_nextPlace 43 = .ok (.iload_n 1, 1) := by decide +kernel
theorem dX5_nextPlace_44 : decode cX5_nextPlace 44 = .ok (.if_icmp .ne 50, 3) := by decide +kernel
theorem dX5_nextPlace_47 : decode cX5_nextPlace 47 = .ok (.aload_n 0, 1) := by decide +kernel
theorem dX5_nextPlace_48 : decode cX5_nextPlace 48 = .ok (.iload 4, 2) := by decide +kernel
theorem dX5_nextPlace_50 : decode cX5_nextPlace 50 = .ok (.invokevirtual 42, 3) := by decide +kernel
theorem dX5_nextPlace_53 : decode cX5_nextPlace 53 = .ok (.ifCond .ne 41, 3) := by decide +kernel
theorem dX5_nextPlace_56 : decode cX5_nextPlace 56 = .ok (.iconst 2, 1) := by decide +kernel
theorem dX5_nextPlace_57 : decode cX5_nextPlace 57 = .ok (.aload_n 0, 1) := by decide +kernel
theorem dX5_nextPlace_58 : decode cX5_nextPlace 58 = .ok (.getfield 18, 3) := by decide +kernel
theorem dX5_nextPlace_61 : decode cX5_nextPlace 61 = .ok (.iload 4, 2) := by decide +kernel
theorem dX5_nextPlace_63 : decode cX5_nextPlace 63 = .ok (.iaload, 1) := by decide +kernel
theorem dX5_nextPlace_64 : decode cX5_nextPlace 64 = .ok (.imul, 1) := by decide +kernel
theorem dX5_nextPlace_65 : decode cX5_nextPlace 65 = .ok (.aload_n 0, 1) := by decide +kernel
theorem dX5_nextPlace_66 : decode cX5_nextPlace 66 = .ok (.getfield 21, 3) := by decide +kernel
theorem dX5_nextPlace_69 : decode cX5_nextPlace 69 = .ok (.iload_n 1, 1) := by decide +kernel
theorem dX5_nextPlace_70 : decode cX5_nextPlace 70 = .ok (.iaload, 1) := by decide +kernel
theorem dX5_nextPlace_71 : decode cX5_nextPlace 71 = .ok (.isub, 1) := by decide +kernel
theorem dX5_nextPlace_72 : decode cX5_nextPlace 72 = .ok (.invokestatic 67, 3) := by decide +kernel
theorem dX5_nextPlace_75 : decode cX5_nextPlace 75 = .ok (.istore 5, 2) := by decide +kernel
theorem dX5_nextPlace_77 : decode cX5_nextPlace 77 = .ok (.iload_n 2, 1) := by decide +kernel
theorem dX5_nextPlace_78 : decode cX5_nextPlace 78 = .ok (.iconst (-1), 1) := by decide +kernel
theorem dX5_nextPlace_79 : decode cX5_nextPlace 79 = .ok (.if_icmp .eq 9, 3) := by decide +kernel
theorem dX5_nextPlace_82 : decode cX5_nextPlace 82 = .ok (.iload 5, 2) := by decide +kernel
theorem dX5_nextPlace_84 : decode cX5_nextPlace 84 = .ok (.iload_n 3, 1) := by decide +kernel
theorem dX5_nextPlace_85 : decode cX5_nextPlace 85 = .ok (.if_icmp .ge 9, 3) := by decide +kernel
theorem dX5_nextPlace_88 : decode cX5_nextPlace 88 = .ok (.iload 4, 2) := by decide +kernel
theorem dX5_nextPlace_90 : decode cX5_nextPlace 90 = .ok (.istore_n 2, 1) := by decide +kernel
theorem dX5_nextPlace_91 : decode cX5_nextPlace 91 = .ok (.iload 5, 2) := by decide +kernel
theorem dX5_nextPlace_93 : decode cX5_nextPlace 93 = .ok (.istore_n 3, 1) := by decide +kernel
theorem dX5_nextPlace_94 : decode cX5_nextPlace 94 = .ok (.iinc 4 1, 3) := by decide +kernel
theorem dX5_nextPlace_97 : decode cX5_nextPlace 97 = .ok (.goto (-70), 3) := by decide +kernel
theorem dX5_nextPlace_100 : decode cX5_nextPlace 100 = .ok (.iload_n 2, 1) := by decide +kernel
theorem dX5_nextPlace_101 : decode cX5_nextPlace 101 = .ok (.ireturn, 1) := by decide +kernel
theorem dX5_firstNextPlace_0 : decode cX5_firstNextPlace 0 = .ok (.iconst 0, 1) := by decide +kernel
theorem dX5_firstNextPlace_1 : decode cX5_firstNextPlace 1 = .ok (.istore_n 1, 1) := by decide +kernel
theorem dX5_firstNextPlace_2 : decode cX5_firstNextPlace 2 = .ok (.iload_n 1, 1) := by decide +kernel
theorem dX5_firstNextPlace_3 : decode cX5_firstNextPlace 3 = .ok (.aload_n 0, 1) := by decide +kernel
theorem dX5_firstNextPlace_4 : decode cX5_firstNextPlace 4 = .ok (.getfield 27, 3) := by decide +kernel
theorem dX5_firstNextPlace_7 : decode cX5_firstNextPlace 7 = .ok (.if_icmp .ge 22, 3) := by decide +kernel
theorem dX5_firstNextPlace_10 : decode cX5_firstNextPlace 10 = .ok (.aload_n 0, 1) := by decide +kernel
theorem dX5_firstNextPlace_11 : decode cX5_firstNextPlace 11 = .ok (.iload_n 1, 1) := by decide +kernel
theorem dX5_firstNextPlace_12 : decode cX5_firstNextPlace 12 = .ok (.invokevirtual 72, 3) := by decide +kernel
theorem dX5_firstNextPlace_15 : decode cX5_firstNextPlace 15 = .ok (.istore_n 2, 1) := by decide +kernel
theorem dX5_firstNextPlace_16 : decode cX5_firstNextPlace 16 = .ok (.iload_n 2, 1) := by decide +kernel
theorem dX5_firstNextPlace_17 : decode cX5_firstNextPlace 17 = .ok (.iconst (-1), 1) := by decide +kernel
theorem dX5_firstNextPlace_18 : decode cX5_firstNextPlace 18 = .ok (.if_icmp .eq 5, 3) := by decide +kernel
theorem dX5_firstNextPlace_21 : decode cX5_firstNextPlace 21 = .ok (.iload_n 2, 1) := by decide +kernel
theorem dX5_firstNextPlace_22 : decode cX5_firstNextPlace 22 = .ok (.ireturn, 1) := by decide +kernel
theorem dX5_firstNextPlace_23 : decode cX5_firstNextPlace 23 = .ok (.iinc 1 1, 3) := by decide +kernel
theorem dX5_firstNextPlace_26 : decode cX5_firstNextPlace 26 = .ok (.goto (-24), 3) := by decide +kernel
theorem dX5_firstNextPlace_29 : decode cX5_firstNextPlace 29 = .ok (.iconst (-1), 1) := by decide +kernel
theorem dX5_firstNextPlace_30 : decode cX5_firstNextPlace 30 = .ok (.ireturn, 1) := by decide +kernel
theorem dX6_init_0 : decode cX6_init 0 = .ok (.aload_n 0, 1) := by decide +kernel
theorem dX6_init_1 : decode cX6_init 1 = .ok (.invokespecial 1, 3) := by decide +kernel
theorem dX6_init_4 : decode cX6_init 4 = .ok (.aload_n 0, 1) := by decide +kernel
theorem dX6_init_5 : decode cX6_init 5 = .ok (.new 7, 3) := by decide +kernel
theorem dX6_init_8 : decode cX6_init 8 = .ok (.dup, 1) := by decide +kernel
theorem dX6_init_9 : decode cX6_init 9 = .ok (.invokespecial 9, 3) := by decide +kernel
theorem dX6_init_12 : decode cX6_init 12 = .ok (.putfield 10, 3) := by decide +kernel
theorem dX6_init_15 : decode cX6_init 15 = .ok (.aload_n 0, 1) := by decide +kernel
theorem dX6_init_16 : decode cX6_init 16 = .ok (.new 16, 3) := by decide +kernel
theorem dX6_init_19 : decode cX6_init 19 = .ok (.dup, 1) := by decide +kernel
theorem dX6_init_20 : decode cX6_init 20 = .ok (.invokespecial 18, 3) := by decide +kernel
theorem dX6_init_23 : decode cX6_init 23 = .ok (.putfield 19, 3) := by decide +kernel
theorem dX6_init_26 : decode cX6_init 26 = .ok (.aload_n 0, 1) := by decide +kernel
theorem dX6_init_27 : decode cX6_init 27 = .ok (.sipush 800, 3) := by decide +kernel
theorem dX6_init_30 : decode cX6_init 30 = .ok (.putfield 23, 3) := by decide +kernel
theorem dX6_init_33 : decode cX6_init 33 = .ok (.aload_n 0, 1) := by decide +kernel
theorem dX6_init_34 : decode cX6_init 34 = .ok (.bipush 80, 2) := by decide +kernel
theorem dX6_init_36 : decode cX6_init 36 = .ok (.putfield 27, 3) := by decide +kernel
theorem dX6_init_39 : decode cX6_init 39 = .ok (.aload_n 0, 1) := by decide +kernel
theorem dX6_init_40 : decode cX6_init 40 = .ok (.bipush 50, 2) := by decide +kernel
theorem dX6_init_42 : decode cX6_init 42 = .ok (.putfield 30, 3) := by decide +kernel
theorem dX6_init_45 : decode cX6_init 45 = .ok (.aload_n 0, 1) := by decide +kernel
theorem dX6_init_46 : decode cX6_init 46 = .ok (.sipush 400, 3) := by decide +kernel
theorem dX6_init_49 : decode cX6_init 49 = .ok (.putfield 33, 3) := by decide +kernel
theorem dX6_init_52 : decode cX6_init 52 = .ok (.aload_n 0, 1) := by decide +kernel
theorem dX6_init_53 : decode cX6_init 53 = .ok (.bipush 10, 2) := by decide +kernel
theorem dX6_init_55 : decode cX6_init 55 = .ok (.putfield 36, 3) := by decide +kernel
theorem dX6_init_58 : decode cX6_init 58 = .ok (.aload_n 0, 1) := by decide +kernel
theorem dX6_init_59 : decode cX6_init 59 = .ok (.iconst 0, 1) := by decide +kernel
theorem dX6_init_60 : decode cX6_init 60 = .ok (.putfield 39, 3) := by decide +kernel
theorem dX6_init_63 : decode cX6_init 63 = .ok (.aload_n 0, 1) := by decide +kernel
theorem dX6_init_64 : decode cX6_init 64 = .ok (.iconst 0, 1) := by decide +kernel
theorem dX6_init_65 : decode cX6_init 65 = .ok (.putfield 42, 3) := by decide +kernel
theorem dX6_init_68 : decode cX6_init 68 = .ok (.return_, 1) := by decide +kernel
theorem dX6_copyFrom_0 : decode cX6_copyFrom 0 = .ok (.aload_n 0, 1) := by decide +kernel
theorem dX6_copyFrom_1 : decode cX6_copyFrom 1 = .ok (.getfield 10, 3) := by decide +kernel
theorem dX6_copyFrom_4 : decode cX6_copyFrom 4 = .ok (.aload_n 1, 1) := by decide +kernel
theorem dX6_copyFrom_5 : decode cX6_copyFrom 5 = .ok (.getfield 10, 3) := by decide +kernel
theorem dX6_copyFrom_8 : decode cX6_copyFrom 8 = .ok (.invokevirtual 45, 3) := by decide +kernel
theorem dX6_copyFrom_11 : decode cX6_copyFrom 11 = .ok (.aload_n 0, 1) := by decide +kernel
theorem dX6_copyFrom_12 : decode cX6_copyFrom 12 = .ok (.getfield 19, 3) := by decide +kernel
theorem dX6_copyFrom_15 : decode cX6_copyFrom 15 = .ok (.aload_n 1, 1) := by decide +kernel
theorem dX6_copyFrom_16 : decode cX6_copyFrom 16 = .ok (.getfield 19, 3) := by decide +kernel
theorem dX6_copyFrom_19 : decode cX6_copyFrom 19 = .ok (.invokevirtual 49, 3) := by decide +kernel
theorem dX6_copyFrom_22 : decode cX6_copyFrom 22 = .ok (.aload_n 0, 1) := by decide +kernel
theorem dX6_copyFrom_23 : decode cX6_copyFrom 23 = .ok (.aload_n 1, 1) := by decide +kernel
theorem dX6_copyFrom_24 : decode cX6_copyFrom 24 = .ok (.getfield 23, 3) := by decide +kernel
theorem dX6_copyFrom_27 : decode cX6_copyFrom 27 = .ok (.putfield 23, 3) := by decide +kernel
theorem dX6_copyFrom_30 : decode cX6_copyFrom 30 = .ok (.aload_n 0, 1) := by decide +kernel
theorem dX6_copyFrom_31 : decode cX6_copyFrom 31 = .ok (.aload_n 1, 1) := by decide +kernel
theorem dX6_copyFrom_32 : decode cX6_copyFrom 32 = .ok (.getfield 27, 3) := by decide +kernel
theorem dX6_copyFrom_35 : decode cX6_copyFrom 35 = .ok (.putfield 27, 3) := by decide +kernel
theorem dX6_copyFrom_38 : decode cX6_copyFrom 38 = .ok (.aload_n 0, 1) := by decide +kernel
theorem dX6_copyFrom_39 : decode cX6_copyFrom 39 = .ok (.aload_n 1, 1) := by decide +kernel
theorem dX6_copyFrom_40 : decode cX6_copyFrom 40 = .ok (.getfield 30, 3) := by decide +kernel
theorem dX6_copyFrom_43 : decode cX6_copyFrom 43 = .ok (.putfield 30, 3) := by decide +kernel
theorem dX6_copyFrom_46 : decode cX6_copyFrom 46 = .ok (.aload_n 0, 1) := by decide +kernel
theorem dX6_copyFrom_47 : decode cX6_copyFrom 47 = .ok (.aload_n 1, 1) := by decide +kernel
theorem dX6_copyFrom_48 : decode cX6_copyFrom 48 = .ok (.getfield 33, 3) := by decide +kernel
theorem dX6_copyFrom_51 : decode cX6_copyFrom 51 = .ok (.putfield 33, 3) := by decide +kernel
theorem dX6_copyFrom_54 : decode cX6_copyFrom 54 = .ok (.aload_n 0, 1) := by decide +kernel
theorem dX6_copyFrom_55 : decode cX6_copyFrom 55 = .ok (.aload_n 1, 1) := by decide +kernel
theorem dX6_copyFrom_56 : decode cX6_copyFrom 56 = .ok (.getfield 36, 3) := by decide +kernel
theorem dX6_copyFrom_59 : decode cX6_copyFrom 59 = .ok (.putfield 36, 3) := by decide +kernel
theorem dX6_copyFrom_62 : decode cX6_copyFrom 62 = .ok (.aload_n 0, 1) := by decide +kernel
theorem dX6_copyFrom_63 : decode cX6_copyFrom 63 = .ok (.aload_n 1, 1) := by decide +kernel
theorem dX6_copyFrom_64 : decode cX6_copyFrom 64 = .ok (.getfield 39, 3) := by decide +kernel
theorem dX6_copyFrom_67 : decode cX6_copyFrom 67 = .ok (.putfield 39, 3) := by decide +kernel
theorem dX6_copyFrom_70 : decode cX6_copyFrom 70 = .ok (.aload_n 0, 1) := by decide +kernel
theorem dX6_copyFrom_71 : decode cX6_copyFrom 71 = .ok (.aload_n 1, 1) := by decide +kernel
theorem dX6_copyFrom_72 : decode cX6_copyFrom 72 = .ok (.getfield 42, 3) := by decide +kernel
theorem dX6_copyFrom_75 : decode cX6_copyFrom 75 = .ok (.putfield 42, 3) := by decide +kernel
theorem dX6_copyFrom_78 : decode cX6_copyFrom 78 = .ok (.return_, 1) := by decide +kernel
theorem dX7_init_0 : decode cX7_init 0 = .ok (.aload_n 0, 1) := by decide +kernel
theorem dX7_init_1 : decode cX7_init 1 = .ok (.invokespecial 1, 3) := by decide +kernel
theorem dX7_init_4 : decode cX7_init 4 = .ok (.aload_n 0, 1) := by decide +kernel
theorem dX7_init_5 : decode cX7_init 5 = .ok (.new 7, 3) := by decide +kernel
theorem dX7_init_8 : decode cX7_init 8 = .ok (.dup, 1) := by decide +kernel
theorem dX7_init_9 : decode cX7_init 9 = .ok (.invokespecial 9, 3) := by decide +kernel
theorem dX7_init_12 : decode cX7_init 12 = .ok (.putfield 10, 3) := by decide +kernel
theorem dX7_init_15 : decode cX7_init 15 = .ok (.aload_n 0, 1) := by decide +kernel
theorem dX7_init_16 : decode cX7_init 16 = .ok (.new 16, 3) := by decide +kernel
theorem dX7_init_19 : decode cX7_init 19 = .ok (.dup, 1) := by decide +kernel
theorem dX7_init_20 : decode cX7_init 20 = .ok (.invokespecial 18, 3) := by decide +kernel
theorem dX7_init_23 : decode cX7_init 23 = .ok (.putfield 19, 3) := by decide +kernel
theorem dX7_init_26 : decode cX7_init 26 = .ok (.aload_n 0, 1) := by decide +kernel
theorem dX7_init_27 : decode cX7_init 27 = .ok (.new 23, 3) := by decide +kernel
theorem dX7_init_30 : decode cX7_init 30 = .ok (.dup, 1) := by decide +kernel
theorem dX7_init_31 : decode cX7_init 31 = .ok (.invokespecial 25, 3) := by decide +kernel
theorem dX7_init_34 : decode cX7_init 34 = .ok (.putfield 26, 3) := by decide +kernel
theorem dX7_init_37 : decode cX7_init 37 = .ok (.aload_n 0, 1) := by decide +kernel
theorem dX7_init_38 : decode cX7_init 38 = .ok (.new 30, 3) := by decide +kernel
theorem dX7_init_41 : decode cX7_init 41 = .ok (.dup, 1) := by decide +kernel
theorem dX7_init_42 : decode cX7_init 42 = .ok (.invokespecial 32, 3) := by decide +kernel
theorem dX7_init_45 : decode cX7_init 45 = .ok (.putfield 33, 3) := by decide +kernel
theorem dX7_init_48 : decode cX7_init 48 = .ok (.aload_n 0, 1) := by decide +kernel
theorem dX7_init_49 : decode cX7_init 49 = .ok (.new 37, 3) := by decide +kernel
theorem dX7_init_52 : decode cX7_init 52 = .ok (.dup, 1) := by decide +kernel
theorem dX7_init_53 : decode cX7_init 53 = .ok (.invokespecial 39, 3) := by decide +kernel
theorem dX7_init_56 : decode cX7_init 56 = .ok (.putfield 40, 3) := by decide +kernel
theorem dX7_init_59 : decode cX7_init 59 = .ok (.aload_n 0, 1) := by decide +kernel
theorem dX7_init_60 : decode cX7_init 60 = .ok (.new 30, 3) := by decide +kernel
theorem dX7_init_63 : decode cX7_init 63 = .ok (.dup, 1) := by decide +kernel
theorem dX7_init_64 : decode cX7_init 64 = .ok (.invokespecial 32, 3) := by decide +kernel
theorem dX7_init_67 : decode cX7_init 67 = .ok (.putfield 44, 3) := by decide +kernel
theorem dX7_init_70 : decode cX7_init 70 = .ok (.aload_n 0, 1) := by decide +kernel
theorem dX7_init_71 : decode cX7_init 71 = .ok (.new 37, 3) := by decide +kernel
theorem dX7_init_74 : decode cX7_init 74 = .ok (.dup, 1) := by decide +kernel
theorem dX7_init_75 : decode cX7_init 75 = .ok (.invokespecial 39, 3) := by decide +kernel
theorem dX7_init_78 : decode cX7_init 78 = .ok (.putfield 47, 3) := by decide +kernel
theorem dX7_init_81 : decode cX7_init 81 = .ok (.aload_n 0, 1) := by decide +kernel
theorem dX7_init_82 : decode cX7_init 82 = .ok (.new 50, 3) := by decide +kernel
theorem dX7_init_85 : decode cX7_init 85 = .ok (.dup, 1) := by decide +kernel
theorem dX7_init_86 : decode cX7_init 86 = .ok (.invokespecial 52, 3) := by decide +kernel
theorem dX7_init_89 : decode cX7_init 89 = .ok (.putfield 53, 3) := by decide +kernel
theorem dX7_init_92 : decode cX7_init 92 = .ok (.aload_n 0, 1) := by decide +kernel
theorem dX7_init_93 : decode cX7_init 93 = .ok (.bipush 16, 2) := by decide +kernel
theorem dX7_init_95 : decode cX7_init 95 = .ok (.newarray .int, 2) := by decide +kernel
theorem dX7_init_97 : decode cX7_init 97 = .ok (.putfield 57, 3) := by decide +kernel
theorem dX7_init_100 : decode cX7_init 100 = .ok (.aload_n 0, 1) := by decide +kernel
theorem dX7_init_101 : decode cX7_init 101 = .ok (.invokevirtual 61, 3) := by decide +kernel
theorem dX7_init_104 : decode cX7_init 104 = .ok (.return_, 1) := by decide +kernel
theorem dX7_addNode_0 : decode cX7_addNode 0 = .ok (.aload_n 0, 1) := by decide +kernel
theorem dX7_addNode_1 : decode cX7_addNode 1 = .ok (.iload_n 1, 1) := by decide +kernel
theorem dX7_addNode_2 : decode cX7_addNode 2 = .ok (.invokevirtual 64, 3) := by decide +kernel
theorem dX7_addNode_5 : decode cX7_addNode 5 = .ok (.iload_n 2, 1) := by decide +kernel
theorem dX7_addNode_6 : decode cX7_addNode 6 = .ok (.iconst 1, 1) := by decide +kernel
theorem dX7_addNode_7 : decode cX7_addNode 7 = .ok (.sipush 500, 3) := by decide +kernel
theorem dX7_addNode_10 : decode cX7_addNode 10 = .ok (.invokestatic 68, 3) := by decide +kernel
theorem dX7_addNode_13 : decode cX7_addNode 13 = .ok (.iload_n 3, 1) := by decide +kernel
theorem dX7_addNode_14 : decode cX7_addNode 14 = .ok (.iconst 0, 1) := by decide +kernel
theorem dX7_addNode_15 : decode cX7_addNode 15 = .ok (.bipush 50, 2) := by decide +kernel
theorem dX7_addNode_17 : decode cX7_addNode 17 = .ok (.invokestatic 68, 3) := by decide +kernel
theorem dX7_addNode_20 : decode cX7_addNode 20 = .ok (.iload 4, 2) := by decide +kernel
theorem dX7_addNode_22 : decode cX7_addNode 22 = .ok (.iconst 0, 1) := by decide +kernel
theorem dX7_addNode_23 : decode cX7_addNode 23 = .ok (.sipush 500, 3) := by decide +kernel
theorem dX7_addNode_26 : decode cX7_addNode 26 = .ok (.invokestatic 68, 3) := by decide +kernel
theorem dX7_addNode_29 : decode cX7_addNode 29 = .ok (.iload 5, 2) := by decide +kernel
theorem dX7_addNode_31 : decode cX7_addNode 31 = .ok (.iconst 0, 1) := by decide +kernel
theorem dX7_addNode_32 : decode cX7_addNode 32 = .ok (.sipush 1200, 3) := by decide +kernel
theorem dX7_addNode_35 : decode cX7_addNode 35 = .ok (.invokestatic 68, 3) := by decide +kernel
theorem dX7_addNode_38 : decode cX7_addNode 38 = .ok (.aload_n 0, 1) := by decide +kernel
theorem dX7_addNode_39 : decode cX7_addNode 39 = .ok (.getfield 10, 3) := by decide +kernel
theorem dX7_addNode_42 : decode cX7_addNode 42 = .ok (.getfield 72, 3) := by decide +kernel
theorem dX7_addNode_45 : decode cX7_addNode 45 = .ok (.getfield 75, 3) := by decide +kernel
theorem dX7_addNode_48 : decode cX7_addNode 48 = .ok (.bipush 16, 2) := by decide +kernel
theorem dX7_addNode_50 : decode cX7_addNode 50 = .ok (.if_icmp .lt 13, 3) := by decide +kernel
theorem dX7_addNode_53 : decode cX7_addNode 53 = .ok (.new 79, 3) := by decide +kernel
theorem dX7_addNode_56 : decode cX7_addNode 56 = .ok (.dup, 1) := by decide +kernel
theorem dX7_addNode_57 : decode cX7_addNode 57 = .ok (.ldc 81, 2) := by decide +kernel
theorem dX7_addNode_59 : decode cX7_addNode 59 = .ok (.invokespecial 83, 3) := by decide +kernel
theorem dX7_addNode_62 : decode cX7_addNode 62 = .ok (.athrow, 1) := by decide +kernel
theorem dX7_addNode_63 : decode cX7_addNode 63 = .ok (.aload_n 0, 1) := by decide +kernel
theorem dX7_addNode_64 : decode cX7_addNode 64 = .ok (.getfield 19, 3) := by decide +kernel
theorem dX7_addNode_67 : decode cX7_addNode 67 = .ok (.aload_n 0, 1) := by decide +kernel
theorem dX7_addNode_68 : decode cX7_addNode 68 = .ok (.getfield 10, 3) := by decide +kernel
theorem dX7_addNode_71 : decode cX7_addNode 71 = .ok (.invokevirtual 86, 3) := by decide +kernel
theorem dX7_addNode_74 : decode cX7_addNode 74 = .ok (.aload_n 0, 1) := by decide +kernel
theorem dX7_addNode_75 : decode cX7_addNode 75 = .ok (.getfield 10, 3) := by decide +kernel
theorem dX7_addNode_78 : decode cX7_addNode 78 = .ok (.getfield 72, 3) := by decide +kernel
theorem dX7_addNode_81 : decode cX7_addNode 81 = .ok (.iload_n 1, 1) := by decide +kernel
theorem dX7_addNode_82 : decode cX7_addNode 82 = .ok (.iload_n 2, 1) := by decide +kernel
theorem dX7_addNode_83 : decode cX7_addNode 83 = .ok (.iload_n 3, 1) := by decide +kernel
theorem dX7_addNode_84 : decode cX7_addNode 84 = .ok (.iload 4, 2) := by decide +kernel
theorem dX7_addNode_86 : decode cX7_addNode 86 = .ok (.iload 5, 2) := by decide +kernel
theorem dX7_addNode_88 : decode cX7_addNode 88 = .ok (.invokevirtual 90, 3) := by decide +kernel
theorem dX7_addNode_91 : decode cX7_addNode 91 = .ok (.istore 6, 2) := by decide +kernel
theorem dX7_addNode_93 : decode cX7_addNode 93 = .ok (.aload_n 0, 1) := by decide +kernel
theorem dX7_addNode_94 : decode cX7_addNode 94 = .ok (.invokevirtual 61, 3) := by decide +kernel
theorem dX7_addNode_97 : decode cX7_addNode 97 = .ok (.iload 6, 2) := by decide +kernel
theorem dX7_addNode_99 : decode cX7_addNode 99 = .ok (.ireturn, 1) := by decide +kernel
theorem dX7_setDraw_0 : decode cX7_setDraw 0 = .ok (.aload_n 0, 1) := by decide +kernel
theorem dX7_setDraw_1 : decode cX7_setDraw 1 = .ok (.iload_n 1, 1) := by decide +kernel
theorem dX7_setDraw_2 : decode cX7_setDraw 2 = .ok (.invokevirtual 94, 3) := by decide +kernel
theorem dX7_setDraw_5 : decode cX7_setDraw 5 = .ok (.iload_n 2, 1) := by decide +kernel
theorem dX7_setDraw_6 : decode cX7_setDraw 6 = .ok (.iconst 0, 1) := by decide +kernel
theorem dX7_setDraw_7 : decode cX7_setDraw 7 = .ok (.sipush 500, 3) := by decide +kernel
theorem dX7_setDraw_10 : decode cX7_setDraw 10 = .ok (.invokestatic 68, 3) := by decide +kernel
theorem dX7_setDraw_13 : decode cX7_setDraw 13 = .ok (.iload_n 3, 1) := by decide +kernel
theorem dX7_setDraw_14 : decode cX7_setDraw 14 = .ok (.iconst 0, 1) := by decide +kernel
theorem dX7_setDraw_15 : decode cX7_setDraw 15 = .ok (.sipush 1200, 3) := by decide +kernel
theorem dX7_setDraw_18 : decode cX7_setDraw 18 = .ok (.invokestatic 68, 3) := by decide +kernel
theorem dX7_setDraw_21 : decode cX7_setDraw 21 = .ok (.aload_n 0, 1) := by decide +kernel
theorem dX7_setDraw_22 : decode cX7_setDraw 22 = .ok (.getfield 19, 3) := by decide +kernel
theorem dX7_setDraw_25 : decode cX7_setDraw 25 = .ok (.aload_n 0, 1) := by decide +kernel
theorem dX7_setDraw_26 : decode cX7_setDraw 26 = .ok (.getfield 10, 3) := by decide +kernel
theorem dX7_setDraw_29 : decode cX7_setDraw 29 = .ok (.invokevirtual 86, 3) := by decide +kernel
theorem dX7_setDraw_32 : decode cX7_setDraw 32 = .ok (.aload_n 0, 1) := by decide +kernel
theorem dX7_setDraw_33 : decode cX7_setDraw 33 = .ok (.getfield 10, 3) := by decide +kernel
theorem dX7_setDraw_36 : decode cX7_setDraw 36 = .ok (.getfield 72, 3) := by decide +kernel
theorem dX7_setDraw_39 : decode cX7_setDraw 39 = .ok (.getfield 97, 3) := by decide +kernel
theorem dX7_setDraw_42 : decode cX7_setDraw 42 = .ok (.iload_n 1, 1) := by decide +kernel
theorem dX7_setDraw_43 : decode cX7_setDraw 43 = .ok (.iaload, 1) := by decide +kernel
theorem dX7_setDraw_44 : decode cX7_setDraw 44 = .ok (.istore 4, 2) := by decide +kernel
theorem dX7_setDraw_46 : decode cX7_setDraw 46 = .ok (.aload_n 0, 1) := by decide +kernel
theorem dX7_setDraw_47 : decode cX7_setDraw 47 = .ok (.getfield 10, 3) := by decide +kernel
theorem dX7_setDraw_50 : decode cX7_setDraw 50 = .ok (.getfield 72, 3) := by decide +kernel
theorem dX7_setDraw_53 : decode cX7_setDraw 53 = .ok (.getfield 97, 3) := by decide +kernel
theorem dX7_setDraw_56 : decode cX7_setDraw 56 = .ok (.iload_n 1, 1) := by decide +kernel
theorem dX7_setDraw_57 : decode cX7_setDraw 57 = .ok (.iload_n 2, 1) := by decide +kernel
theorem dX7_setDraw_58 : decode cX7_setDraw 58 = .ok (.iastore, 1) := by decide +kernel
theorem dX7_setDraw_59 : decode cX7_setDraw 59 = .ok (.aload_n 0, 1) := by decide +kernel
theorem dX7_setDraw_60 : decode cX7_setDraw 60 = .ok (.getfield 10, 3) := by decide +kernel
theorem dX7_setDraw_63 : decode cX7_setDraw 63 = .ok (.getfield 72, 3) := by decide +kernel
theorem dX7_setDraw_66 : decode cX7_setDraw 66 = .ok (.getfield 100, 3) := by decide +kernel
theorem dX7_setDraw_69 : decode cX7_setDraw 69 = .ok (.iload_n 1, 1) := by decide +kernel
theorem dX7_setDraw_70 : decode cX7_setDraw 70 = .ok (.iload_n 3, 1) := by decide +kernel
theorem dX7_setDraw_71 : decode cX7_setDraw 71 = .ok (.iastore, 1) := by decide +kernel
theorem dX7_setDraw_72 : decode cX7_setDraw 72 = .ok (.aload_n 0, 1) := by decide +kernel
theorem dX7_setDraw_73 : decode cX7_setDraw 73 = .ok (.invokevirtual 61, 3) := by decide +kernel
theorem dX7_setDraw_76 : decode cX7_setDraw 76 = .ok (.iload 4, 2) := by decide +kernel
theorem dX7_setDraw_78 : decode cX7_setDraw 78 = .ok (.ireturn, 1) := by decide +kernel
theorem dX7_setLeak_0 : decode cX7_setLeak 0 = .ok (.aload_n 0, 1) := by decide +kernel
theorem dX7_setLeak_1 : decode cX7_setLeak 1 = .ok (.iload_n 1, 1) := by decide +kernel
theorem dX7_setLeak_2 : decode cX7_setLeak 2 = .ok (.invokevirtual 94, 3) := by decide +kernel
theorem dX7_setLeak_5 : decode cX7_setLeak 5 = .ok (.iload_n 2, 1) := by decide +kernel
theorem dX7_setLeak_6 : decode cX7_setLeak 6 = .ok (.iconst 0, 1) := by decide +kernel
theorem dX7_setLeak_7 : decode cX7_setLeak 7 = .ok (.bipush 100, 2) := by decide +kernel
theorem dX7_setLeak_9 : decode cX7_setLeak 9 = .ok (.invokestatic 68, 3) := by decide +kernel
theorem dX7_setLeak_12 : decode cX7_setLeak 12 = .ok (.aload_n 0, 1) := by decide +kernel
theorem dX7_setLeak_13 : decode cX7_setLeak 13 = .ok (.getfield 19, 3) := by decide +kernel
theorem dX7_setLeak_16 : decode cX7_setLeak 16 = .ok (.aload_n 0, 1) := by decide +kernel
theorem dX7_setLeak_17 : decode cX7_setLeak 17 = .ok (.getfield 10, 3) := by decide +kernel
theorem dX7_setLeak_20 : decode cX7_setLeak 20 = .ok (.invokevirtual 86, 3) := by decide +kernel
theorem dX7_setLeak_23 : decode cX7_setLeak 23 = .ok (.aload_n 0, 1) := by decide +kernel
theorem dX7_setLeak_24 : decode cX7_setLeak 24 = .ok (.getfield 10, 3) := by decide +kernel
theorem dX7_setLeak_27 : decode cX7_setLeak 27 = .ok (.getfield 72, 3) := by decide +kernel
theorem dX7_setLeak_30 : decode cX7_setLeak 30 = .ok (.getfield 103, 3) := by decide +kernel
theorem dX7_setLeak_33 : decode cX7_setLeak 33 = .ok (.iload_n 1, 1) := by decide +kernel
theorem dX7_setLeak_34 : decode cX7_setLeak 34 = .ok (.iaload, 1) := by decide +kernel
theorem dX7_setLeak_35 : decode cX7_setLeak 35 = .ok (.istore_n 3, 1) := by decide +kernel
theorem dX7_setLeak_36 : decode cX7_setLeak 36 = .ok (.aload_n 0, 1) := by decide +kernel
theorem dX7_setLeak_37 : decode cX7_setLeak 37 = .ok (.getfield 10, 3) := by decide +kernel
theorem dX7_setLeak_40 : decode cX7_setLeak 40 = .ok (.getfield 72, 3) := by decide +kernel
theorem dX7_setLeak_43 : decode cX7_setLeak 43 = .ok (.getfield 103, 3) := by decide +kernel
theorem dX7_setLeak_46 : decode cX7_setLeak 46 = .ok (.iload_n 1, 1) := by decide +kernel
theorem dX7_setLeak_47 : decode cX7_setLeak 47 = .ok (.iload_n 2, 1) := by decide +kernel
theorem dX7_setLeak_48 : decode cX7_setLeak 48 = .ok (.iastore, 1) := by decide +kernel
theorem dX7_setLeak_49 : decode cX7_setLeak 49 = .ok (.aload_n 0, 1) := by decide +kernel
theorem dX7_setLeak_50 : decode cX7_setLeak 50 = .ok (.invokevirtual 61, 3) := by decide +kernel
theorem dX7_setLeak_53 : decode cX7_setLeak 53 = .ok (.iload_n 3, 1) := by decide +kernel
theorem dX7_setLeak_54 : decode cX7_setLeak 54 = .ok (.ireturn, 1) := by decide +kernel
theorem dX7_setTemperatures_0 : decode cX7_setTemperatures 0 = .ok (.iload_n 1, 1) := by decide +kernel
theorem dX7_setTemperatures_1 : decode cX7_setTemperatures 1 = .ok (.sipush 400, 3) := by decide +kernel
theorem dX7_setTemperatures_4 : decode cX7_setTemperatures 4 = .ok (.sipush 1200, 3) := by decide +kernel
theorem dX7_setTemperatures_7 : decode cX7_setTemperatures 7 = .ok (.invokestatic 68, 3) := by decide +kernel
theorem dX7_setTemperatures_10 : decode cX7_setTemperatures 10 = .ok (.iload_n 2, 1) := by decide +kernel
theorem dX7_setTemperatures_11 : decode cX7_setTemperatures 11 = .ok (.sipush (-200), 3) := by decide +kernel
theorem dX7_setTemperatures_14 : decode cX7_setTemperatures 14 = .ok (.sipush 300, 3) := by decide +kernel
theorem dX7_setTemperatures_17 : decode cX7_setTemperatures 17 = .ok (.invokestatic 68, 3) := by decide +kernel
theorem dX7_setTemperatures_20 : decode cX7_setTemperatures 20 = .ok (.aload_n 0, 1) := by decide +kernel
theorem dX7_setTemperatures_21 : decode cX7_setTemperatures 21 = .ok (.getfield 19, 3) := by decide +kernel
theorem dX7_setTemperatures_24 : decode cX7_setTemperatures 24 = .ok (.aload_n 0, 1) := by decide +kernel
theorem dX7_setTemperatures_25 : decode cX7_setTemperatures 25 = .ok (.getfield 10, 3) := by decide +kernel
theorem dX7_setTemperatures_28 : decode cX7_setTemperatures 28 = .ok (.invokevirtual 86, 3) := by decide +kernel
theorem dX7_setTemperatures_31 : decode cX7_setTemperatures 31 = .ok (.aload_n 0, 1) := by decide +kernel
theorem dX7_setTemperatures_32 : decode cX7_setTemperatures 32 = .ok (.getfield 10, 3) := by decide +kernel
theorem dX7_setTemperatures_35 : decode cX7_setTemperatures 35 = .ok (.getfield 106, 3) := by decide +kernel
theorem dX7_setTemperatures_38 : decode cX7_setTemperatures 38 = .ok (.istore_n 3, 1) := by decide +kernel
theorem dX7_setTemperatures_39 : decode cX7_setTemperatures 39 = .ok (.aload_n 0, 1) := by decide +kernel
theorem dX7_setTemperatures_40 : decode cX7_setTemperatures 40 = .ok (.getfield 10, 3) := by decide +kernel
theorem dX7_setTemperatures_43 : decode cX7_setTemperatures 43 = .ok (.iload_n 1, 1) := by decide +kernel
theorem dX7_setTemperatures_44 : decode cX7_setTemperatures 44 = .ok (.putfield 106, 3) := by decide +kernel
theorem dX7_setTemperatures_47 : decode cX7_setTemperatures 47 = .ok (.aload_n 0, 1) := by decide +kernel
theorem dX7_setTemperatures_48 : decode cX7_setTemperatures 48 = .ok (.getfield 10, 3) := by decide +kernel
theorem dX7_setTemperatures_51 : decode cX7_setTemperatures 51 = .ok (.iload_n 2, 1) := by decide +kernel
theorem dX7_setTemperatures_52 : decode cX7_setTemperatures 52 = .ok (.putfield 109, 3) := by decide +kernel
theorem dX7_setTemperatures_55 : decode cX7_setTemperatures 55 = .ok (.aload_n 0, 1) := by decide +kernel
theorem dX7_setTemperatures_56 : decode cX7_setTemperatures 56 = .ok (.invokevirtual 61, 3) := by decide +kernel
theorem dX7_setTemperatures_59 : decode cX7_setTemperatures 59 = .ok (.iload_n 3, 1) := by decide +kernel
theorem dX7_setTemperatures_60 : decode cX7_setTemperatures 60 = .ok (.ireturn, 1) := by decide +kernel
theorem dX7_node_0 : decode cX7_node 0 = .ok (.aload_n 0, 1) := by decide +kernel
theorem dX7_node_1 : decode cX7_node 1 = .ok (.iload_n 1, 1) := by decide +kernel
theorem dX7_node_2 : decode cX7_node 2 = .ok (.invokevirtual 64, 3) := by decide +kernel
theorem dX7_node_5 : decode cX7_node 5 = .ok (.iload_n 2, 1) := by decide +kernel
theorem dX7_node_6 : decode cX7_node 6 = .ok (.iconst 0, 1) := by decide +kernel
theorem dX7_node_7 : decode cX7_node 7 = .ok (.bipush 11, 2) := by decide +kernel
theorem dX7_node_9 : decode cX7_node 9 = .ok (.invokestatic 68, 3) := by decide +kernel
theorem dX7_node_12 : decode cX7_node 12 = .ok (.aload_n 0, 1) := by decide +kernel
theorem dX7_node_13 : decode cX7_node 13 = .ok (.iload_n 1, 1) := by decide +kernel
theorem dX7_node_14 : decode cX7_node 14 = .ok (.iload_n 2, 1) := by decide +kernel
theorem dX7_node_15 : decode cX7_node 15 = .ok (.invokevirtual 112, 3) := by decide +kernel
theorem dX7_node_18 : decode cX7_node 18 = .ok (.ireturn, 1) := by decide +kernel
theorem dX7_heat_0 : decode cX7_heat 0 = .ok (.aload_n 0, 1) := by decide +kernel
theorem dX7_heat_1 : decode cX7_heat 1 = .ok (.iload_n 1, 1) := by decide +kernel
theorem dX7_heat_2 : decode cX7_heat 2 = .ok (.invokevirtual 94, 3) := by decide +kernel
theorem dX7_heat_5 : decode cX7_heat 5 = .ok (.iload_n 2, 1) := by decide +kernel
theorem dX7_heat_6 : decode cX7_heat 6 = .ok (.iconst 0, 1) := by decide +kernel
theorem dX7_heat_7 : decode cX7_heat 7 = .ok (.iconst 5, 1) := by decide +kernel
theorem dX7_heat_8 : decode cX7_heat 8 = .ok (.invokestatic 68, 3) := by decide +kernel
theorem dX7_heat_11 : decode cX7_heat 11 = .ok (.aload_n 0, 1) := by decide +kernel
theorem dX7_heat_12 : decode cX7_heat 12 = .ok (.iload_n 1, 1) := by decide +kernel
theorem dX7_heat_13 : decode cX7_heat 13 = .ok (.iload_n 2, 1) := by decide +kernel
theorem dX7_heat_14 : decode cX7_heat 14 = .ok (.invokevirtual 116, 3) := by decide +kernel
theorem dX7_heat_17 : decode cX7_heat 17 = .ok (.ireturn, 1) := by decide +kernel
theorem dX7_value_0 : decode cX7_value 0 = .ok (.iload_n 1, 1) := by decide +kernel
theorem dX7_value_1 : decode cX7_value 1 = .ok (.iconst 0, 1) := by decide +kernel
theorem dX7_value_2 : decode cX7_value 2 = .ok (.bipush 14, 2) := by decide +kernel
theorem dX7_value_4 : decode cX7_value 4 = .ok (.invokestatic 68, 3) := by decide +kernel
theorem dX7_value_7 : decode cX7_value 7 = .ok (.aload_n 0, 1) := by decide +kernel
theorem dX7_value_8 : decode cX7_value 8 = .ok (.iload_n 1, 1) := by decide +kernel
theorem dX7_value_9 : decode cX7_value 9 = .ok (.invokevirtual 119, 3) := by decide +kernel
theorem dX7_value_12 : decode cX7_value 12 = .ok (.ireturn, 1) := by decide +kernel
theorem dX7_sum_0 : decode cX7_sum 0 = .ok (.iload_n 1, 1) := by decide +kernel
theorem dX7_sum_1 : decode cX7_sum 1 = .ok (.iconst 0, 1) := by decide +kernel
theorem dX7_sum_2 : decode cX7_sum 2 = .ok (.iconst 2, 1) := by decide +kernel
theorem dX7_sum_3 : decode cX7_sum 3 = .ok (.invokestatic 68, 3) := by decide +kernel
theorem dX7_sum_6 : decode cX7_sum 6 = .ok (.aload_n 0, 1) := by decide +kernel
theorem dX7_sum_7 : decode cX7_sum 7 = .ok (.iload_n 1, 1) := by decide +kernel
theorem dX7_sum_8 : decode cX7_sum 8 = .ok (.invokevirtual 123, 3) := by decide +kernel
theorem dX7_sum_11 : decode cX7_sum 11 = .ok (.ireturn, 1) := by decide +kernel
theorem dX7_addBoiler_0 : decode cX7_addBoiler 0 = .ok (.iload_n 1, 1) := by decide +kernel
theorem dX7_addBoiler_1 : decode cX7_addBoiler 1 = .ok (.iconst 1, 1) := by decide +kernel
theorem dX7_addBoiler_2 : decode cX7_addBoiler 2 = .ok (.ldc 126, 2) := by decide +kernel
theorem dX7_addBoiler_4 : decode cX7_addBoiler 4 = .ok (.invokestatic 68, 3) := by decide +kernel
theorem dX7_addBoiler_7 : decode cX7_addBoiler 7 = .ok (.iload_n 2, 1) := by decide +kernel
theorem dX7_addBoiler_8 : decode cX7_addBoiler 8 = .ok (.iconst 0, 1) := by decide +kernel
theorem dX7_addBoiler_9 : decode cX7_addBoiler 9 = .ok (.iload_n 1, 1) := by decide +kernel
theorem dX7_addBoiler_10 : decode cX7_addBoiler 10 = .ok (.invokestatic 68, 3) := by decide +kernel
theorem dX7_addBoiler_13 : decode cX7_addBoiler 13 = .ok (.iload_n 3, 1) := by decide +kernel
theorem dX7_addBoiler_14 : decode cX7_addBoiler 14 = .ok (.iconst 0, 1) := by decide +kernel
theorem dX7_addBoiler_15 : decode cX7_addBoiler 15 = .ok (.bipush 99, 2) := by decide +kernel
theorem dX7_addBoiler_17 : decode cX7_addBoiler 17 = .ok (.invokestatic 68, 3) := by decide +kernel
theorem dX7_addBoiler_20 : decode cX7_addBoiler 20 = .ok (.aload_n 0, 1) := by decide +kernel
theorem dX7_addBoiler_21 : decode cX7_addBoiler 21 = .ok (.getfield 10, 3) := by decide +kernel
theorem dX7_addBoiler_24 : decode cX7_addBoiler 24 = .ok (.getfield 127, 3) := by decide +kernel
theorem dX7_addBoiler_27 : decode cX7_addBoiler 27 = .ok (.getfield 131, 3) := by decide +kernel
theorem dX7_addBoiler_30 : decode cX7_addBoiler 30 = .ok (.iconst 4, 1) := by decide +kernel
theorem dX7_addBoiler_31 : decode cX7_addBoiler 31 = .ok (.if_icmp .lt 13, 3) := by decide +kernel
theorem dX7_addBoiler_34 : decode cX7_addBoiler 34 = .ok (.new 79, 3) := by decide +kernel
theorem dX7_addBoiler_37 : decode cX7_addBoiler 37 = .ok (.dup, 1) := by decide +kernel
theorem dX7_addBoiler_38 : decode cX7_addBoiler 38 = .ok (.ldc 134, 2) := by decide +kernel
theorem dX7_addBoiler_40 : decode cX7_addBoiler 40 = .ok (.invokespecial 83, 3) := by decide +kernel
theorem dX7_addBoiler_43 : decode cX7_addBoiler 43 = .ok (.athrow, 1) := by decide +kernel
theorem dX7_addBoiler_44 : decode cX7_addBoiler 44 = .ok (.aload_n 0, 1) := by decide +kernel
theorem dX7_addBoiler_45 : decode cX7_addBoiler 45 = .ok (.getfield 19, 3) := by decide +kernel
theorem dX7_addBoiler_48 : decode cX7_addBoiler 48 = .ok (.aload_n 0, 1) := by decide +kernel
theorem dX7_addBoiler_49 : decode cX7_addBoiler 49 = .ok (.getfield 10, 3) := by decide +kernel
theorem dX7_addBoiler_52 : decode cX7_addBoiler 52 = .ok (.invokevirtual 86, 3) := by decide +kernel
theorem dX7_addBoiler_55 : decode cX7_addBoiler 55 = .ok (.aload_n 0, 1) := by decide +kernel
theorem dX7_addBoiler_56 : decode cX7_addBoiler 56 = .ok (.getfield 10, 3) := by decide +kernel
theorem dX7_addBoiler_59 : decode cX7_addBoiler 59 = .ok (.getfield 127, 3) := by decide +kernel
theorem dX7_addBoiler_62 : decode cX7_addBoiler 62 = .ok (.iload_n 1, 1) := by decide +kernel
theorem dX7_addBoiler_63 : decode cX7_addBoiler 63 = .ok (.iload_n 2, 1) := by decide +kernel
theorem dX7_addBoiler_64 : decode cX7_addBoiler 64 = .ok (.iload_n 3, 1) := by decide +kernel
theorem dX7_addBoiler_65 : decode cX7_addBoiler 65 = .ok (.invokevirtual 136, 3) := by decide +kernel
theorem dX7_addBoiler_68 : decode cX7_addBoiler 68 = .ok (.istore 4, 2) := by decide +kernel
theorem dX7_addBoiler_70 : decode cX7_addBoiler 70 = .ok (.aload_n 0, 1) := by decide +kernel
theorem dX7_addBoiler_71 : decode cX7_addBoiler 71 = .ok (.invokevirtual 61, 3) := by decide +kernel
theorem dX7_addBoiler_74 : decode cX7_addBoiler 74 = .ok (.iload 4, 2) := by decide +kernel
theorem dX7_addBoiler_76 : decode cX7_addBoiler 76 = .ok (.ireturn, 1) := by decide +kernel
end
section
theorem dX7_setCost_0 : decode cX7_setCost 0 = .ok (.aload_n 0, 1) := by decide +kernel
theorem dX7_setCost_1 : decode cX7_setCost 1 = .ok (.iload_n 1, 1) := by decide +kernel
theorem dX7_setCost_2 : decode cX7_setCost 2 = .ok (.invokevirtual 140, 3) := by decide +kernel
theorem dX7_setCost_5 : decode cX7_setCost 5 = .ok (.iload_n 2, 1) := by decide +kernel
theorem dX7_setCost_6 : decode cX7_setCost 6 = .ok (.iconst 0, 1) := by decide +kernel
theorem dX7_setCost_7 : decode cX7_setCost 7 = .ok (.bipush 99, 2) := by decide +kernel
theorem dX7_setCost_9 : decode cX7_setCost 9 = .ok (.invokestatic 68, 3) := by decide +kernel
theorem dX7_setCost_12 : decode cX7_setCost 12 = .ok (.aload_n 0, 1) := by decide +kernel
theorem dX7_setCost_13 : decode cX7_setCost 13 = .ok (.getfield 19, 3) := by decide +kernel
theorem dX7_setCost_16 : decode cX7_setCost 16 = .ok (.aload_n 0, 1) := by decide +kernel
theorem dX7_setCost_17 : decode cX7_setCost 17 = .ok (.getfield 10, 3) := by decide +kernel
theorem dX7_setCost_20 : decode cX7_setCost 20 = .ok (.invokevirtual 86, 3) := by decide +kernel
theorem dX7_setCost_23 : decode cX7_setCost 23 = .ok (.aload_n 0, 1) := by decide +kernel
theorem dX7_setCost_24 : decode cX7_setCost 24 = .ok (.getfield 10, 3) := by decide +kernel
theorem dX7_setCost_27 : decode cX7_setCost 27 = .ok (.getfield 127, 3) := by decide +kernel
theorem dX7_setCost_30 : decode cX7_setCost 30 = .ok (.getfield 143, 3) := by decide +kernel
theorem dX7_setCost_33 : decode cX7_setCost 33 = .ok (.iload_n 1, 1) := by decide +kernel
theorem dX7_setCost_34 : decode cX7_setCost 34 = .ok (.iaload, 1) := by decide +kernel
theorem dX7_setCost_35 : decode cX7_setCost 35 = .ok (.istore_n 3, 1) := by decide +kernel
theorem dX7_setCost_36 : decode cX7_setCost 36 = .ok (.aload_n 0, 1) := by decide +kernel
theorem dX7_setCost_37 : decode cX7_setCost 37 = .ok (.getfield 10, 3) := by decide +kernel
theorem dX7_setCost_40 : decode cX7_setCost 40 = .ok (.getfield 127, 3) := by decide +kernel
theorem dX7_setCost_43 : decode cX7_setCost 43 = .ok (.getfield 143, 3) := by decide +kernel
theorem dX7_setCost_46 : decode cX7_setCost 46 = .ok (.iload_n 1, 1) := by decide +kernel
theorem dX7_setCost_47 : decode cX7_setCost 47 = .ok (.iload_n 2, 1) := by decide +kernel
theorem dX7_setCost_48 : decode cX7_setCost 48 = .ok (.iastore, 1) := by decide +kernel
theorem dX7_setCost_49 : decode cX7_setCost 49 = .ok (.aload_n 0, 1) := by decide +kernel
theorem dX7_setCost_50 : decode cX7_setCost 50 = .ok (.invokevirtual 61, 3) := by decide +kernel
theorem dX7_setCost_53 : decode cX7_setCost 53 = .ok (.iload_n 3, 1) := by decide +kernel
theorem dX7_setCost_54 : decode cX7_setCost 54 = .ok (.ireturn, 1) := by decide +kernel
theorem dX7_boiler_0 : decode cX7_boiler 0 = .ok (.aload_n 0, 1) := by decide +kernel
theorem dX7_boiler_1 : decode cX7_boiler 1 = .ok (.iload_n 1, 1) := by decide +kernel
theorem dX7_boiler_2 : decode cX7_boiler 2 = .ok (.invokevirtual 140, 3) := by decide +kernel
theorem dX7_boiler_5 : decode cX7_boiler 5 = .ok (.iload_n 2, 1) := by decide +kernel
theorem dX7_boiler_6 : decode cX7_boiler 6 = .ok (.iconst 0, 1) := by decide +kernel
theorem dX7_boiler_7 : decode cX7_boiler 7 = .ok (.iconst 4, 1) := by decide +kernel
theorem dX7_boiler_8 : decode cX7_boiler 8 = .ok (.invokestatic 68, 3) := by decide +kernel
theorem dX7_boiler_11 : decode cX7_boiler 11 = .ok (.aload_n 0, 1) := by decide +kernel
theorem dX7_boiler_12 : decode cX7_boiler 12 = .ok (.iload_n 1, 1) := by decide +kernel
theorem dX7_boiler_13 : decode cX7_boiler 13 = .ok (.iload_n 2, 1) := by decide +kernel
theorem dX7_boiler_14 : decode cX7_boiler 14 = .ok (.invokevirtual 146, 3) := by decide +kernel
theorem dX7_boiler_17 : decode cX7_boiler 17 = .ok (.ireturn, 1) := by decide +kernel
theorem dX7_setTariff_0 : decode cX7_setTariff 0 = .ok (.iload_n 1, 1) := by decide +kernel
theorem dX7_setTariff_1 : decode cX7_setTariff 1 = .ok (.iconst 0, 1) := by decide +kernel
theorem dX7_setTariff_2 : decode cX7_setTariff 2 = .ok (.sipush 999, 3) := by decide +kernel
theorem dX7_setTariff_5 : decode cX7_setTariff 5 = .ok (.invokestatic 68, 3) := by decide +kernel
theorem dX7_setTariff_8 : decode cX7_setTariff 8 = .ok (.iload_n 2, 1) := by decide +kernel
theorem dX7_setTariff_9 : decode cX7_setTariff 9 = .ok (.iconst 0, 1) := by decide +kernel
theorem dX7_setTariff_10 : decode cX7_setTariff 10 = .ok (.sipush 1200, 3) := by decide +kernel
theorem dX7_setTariff_13 : decode cX7_setTariff 13 = .ok (.invokestatic 68, 3) := by decide +kernel
theorem dX7_setTariff_16 : decode cX7_setTariff 16 = .ok (.iload_n 3, 1) := by decide +kernel
theorem dX7_setTariff_17 : decode cX7_setTariff 17 = .ok (.iconst 0, 1) := by decide +kernel
theorem dX7_setTariff_18 : decode cX7_setTariff 18 = .ok (.bipush 99, 2) := by decide +kernel
theorem dX7_setTariff_20 : decode cX7_setTariff 20 = .ok (.invokestatic 68, 3) := by decide +kernel
theorem dX7_setTariff_23 : decode cX7_setTariff 23 = .ok (.aload_n 0, 1) := by decide +kernel
theorem dX7_setTariff_24 : decode cX7_setTariff 24 = .ok (.getfield 19, 3) := by decide +kernel
theorem dX7_setTariff_27 : decode cX7_setTariff 27 = .ok (.aload_n 0, 1) := by decide +kernel
theorem dX7_setTariff_28 : decode cX7_setTariff 28 = .ok (.getfield 10, 3) := by decide +kernel
theorem dX7_setTariff_31 : decode cX7_setTariff 31 = .ok (.invokevirtual 86, 3) := by decide +kernel
theorem dX7_setTariff_34 : decode cX7_setTariff 34 = .ok (.aload_n 0, 1) := by decide +kernel
theorem dX7_setTariff_35 : decode cX7_setTariff 35 = .ok (.getfield 10, 3) := by decide +kernel
theorem dX7_setTariff_38 : decode cX7_setTariff 38 = .ok (.getfield 149, 3) := by decide +kernel
theorem dX7_setTariff_41 : decode cX7_setTariff 41 = .ok (.istore 4, 2) := by decide +kernel
theorem dX7_setTariff_43 : decode cX7_setTariff 43 = .ok (.aload_n 0, 1) := by decide +kernel
theorem dX7_setTariff_44 : decode cX7_setTariff 44 = .ok (.getfield 10, 3) := by decide +kernel
theorem dX7_setTariff_47 : decode cX7_setTariff 47 = .ok (.iload_n 1, 1) := by decide +kernel
theorem dX7_setTariff_48 : decode cX7_setTariff 48 = .ok (.putfield 149, 3) := by decide +kernel
theorem dX7_setTariff_51 : decode cX7_setTariff 51 = .ok (.aload_n 0, 1) := by decide +kernel
theorem dX7_setTariff_52 : decode cX7_setTariff 52 = .ok (.getfield 10, 3) := by decide +kernel
theorem dX7_setTariff_55 : decode cX7_setTariff 55 = .ok (.iload_n 2, 1) := by decide +kernel
theorem dX7_setTariff_56 : decode cX7_setTariff 56 = .ok (.putfield 152, 3) := by decide +kernel
theorem dX7_setTariff_59 : decode cX7_setTariff 59 = .ok (.aload_n 0, 1) := by decide +kernel
theorem dX7_setTariff_60 : decode cX7_setTariff 60 = .ok (.getfield 10, 3) := by decide +kernel
theorem dX7_setTariff_63 : decode cX7_setTariff 63 = .ok (.iload_n 3, 1) := by decide +kernel
theorem dX7_setTariff_64 : decode cX7_setTariff 64 = .ok (.putfield 155, 3) := by decide +kernel
theorem dX7_setTariff_67 : decode cX7_setTariff 67 = .ok (.iload 4, 2) := by decide +kernel
theorem dX7_setTariff_69 : decode cX7_setTariff 69 = .ok (.ireturn, 1) := by decide +kernel
theorem dX7_pass_0 : decode cX7_pass 0 = .ok (.iload_n 1, 1) := by decide +kernel
theorem dX7_pass_1 : decode cX7_pass 1 = .ok (.iconst 1, 1) := by decide +kernel
theorem dX7_pass_2 : decode cX7_pass 2 = .ok (.bipush 100, 2) := by decide +kernel
theorem dX7_pass_4 : decode cX7_pass 4 = .ok (.invokestatic 68, 3) := by decide +kernel
theorem dX7_pass_7 : decode cX7_pass 7 = .ok (.aload_n 0, 1) := by decide +kernel
theorem dX7_pass_8 : decode cX7_pass 8 = .ok (.getfield 10, 3) := by decide +kernel
theorem dX7_pass_11 : decode cX7_pass 11 = .ok (.getfield 158, 3) := by decide +kernel
theorem dX7_pass_14 : decode cX7_pass 14 = .ok (.iload_n 1, 1) := by decide +kernel
theorem dX7_pass_15 : decode cX7_pass 15 = .ok (.iadd, 1) := by decide +kernel
theorem dX7_pass_16 : decode cX7_pass 16 = .ok (.sipush 200, 3) := by decide +kernel
theorem dX7_pass_19 : decode cX7_pass 19 = .ok (.if_icmp .le 13, 3) := by decide +kernel
theorem dX7_pass_22 : decode cX7_pass 22 = .ok (.new 79, 3) := by decide +kernel
theorem dX7_pass_25 : decode cX7_pass 25 = .ok (.dup, 1) := by decide +kernel
theorem dX7_pass_26 : decode cX7_pass 26 = .ok (.ldc 161, 2) := by decide +kernel
theorem dX7_pass_28 : decode cX7_pass 28 = .ok (.invokespecial 83, 3) := by decide +kernel
theorem dX7_pass_31 : decode cX7_pass 31 = .ok (.athrow, 1) := by decide +kernel
theorem dX7_pass_32 : decode cX7_pass 32 = .ok (.aload_n 0, 1) := by decide +kernel
theorem dX7_pass_33 : decode cX7_pass 33 = .ok (.getfield 19, 3) := by decide +kernel
theorem dX7_pass_36 : decode cX7_pass 36 = .ok (.aload_n 0, 1) := by decide +kernel
theorem dX7_pass_37 : decode cX7_pass 37 = .ok (.getfield 10, 3) := by decide +kernel
theorem dX7_pass_40 : decode cX7_pass 40 = .ok (.invokevirtual 86, 3) := by decide +kernel
theorem dX7_pass_43 : decode cX7_pass 43 = .ok (.iconst 1, 1) := by decide +kernel
theorem dX7_pass_44 : decode cX7_pass 44 = .ok (.istore_n 2, 1) := by decide +kernel
theorem dX7_pass_45 : decode cX7_pass 45 = .ok (.iload_n 2, 1) := by decide +kernel
theorem dX7_pass_46 : decode cX7_pass 46 = .ok (.aload_n 0, 1) := by decide +kernel
theorem dX7_pass_47 : decode cX7_pass 47 = .ok (.getfield 10, 3) := by decide +kernel
theorem dX7_pass_50 : decode cX7_pass 50 = .ok (.getfield 72, 3) := by decide +kernel
theorem dX7_pass_53 : decode cX7_pass 53 = .ok (.getfield 75, 3) := by decide +kernel
theorem dX7_pass_56 : decode cX7_pass 56 = .ok (.if_icmp .ge 31, 3) := by decide +kernel
theorem dX7_pass_59 : decode cX7_pass 59 = .ok (.aload_n 0, 1) := by decide +kernel
theorem dX7_pass_60 : decode cX7_pass 60 = .ok (.getfield 10, 3) := by decide +kernel
theorem dX7_pass_63 : decode cX7_pass 63 = .ok (.getfield 72, 3) := by decide +kernel
theorem dX7_pass_66 : decode cX7_pass 66 = .ok (.getfield 163, 3) := by decide +kernel
theorem dX7_pass_69 : decode cX7_pass 69 = .ok (.iload_n 2, 1) := by decide +kernel
theorem dX7_pass_70 : decode cX7_pass 70 = .ok (.dup2, 1) := by decide +kernel
theorem dX7_pass_71 : decode cX7_pass 71 = .ok (.iaload, 1) := by decide +kernel
theorem dX7_pass_72 : decode cX7_pass 72 = .ok (.iload_n 1, 1) := by decide +kernel
theorem dX7_pass_73 : decode cX7_pass 73 = .ok (.aload_n 0, 1) := by decide +kernel
theorem dX7_pass_74 : decode cX7_pass 74 = .ok (.iload_n 2, 1) := by decide +kernel
theorem dX7_pass_75 : decode cX7_pass 75 = .ok (.invokevirtual 166, 3) := by decide +kernel
theorem dX7_pass_78 : decode cX7_pass 78 = .ok (.imul, 1) := by decide +kernel
theorem dX7_pass_79 : decode cX7_pass 79 = .ok (.iadd, 1) := by decide +kernel
theorem dX7_pass_80 : decode cX7_pass 80 = .ok (.iastore, 1) := by decide +kernel
theorem dX7_pass_81 : decode cX7_pass 81 = .ok (.iinc 2 1, 3) := by decide +kernel
theorem dX7_pass_84 : decode cX7_pass 84 = .ok (.goto (-39), 3) := by decide +kernel
theorem dX7_pass_87 : decode cX7_pass 87 = .ok (.aload_n 0, 1) := by decide +kernel
theorem dX7_pass_88 : decode cX7_pass 88 = .ok (.getfield 10, 3) := by decide +kernel
theorem dX7_pass_91 : decode cX7_pass 91 = .ok (.dup, 1) := by decide +kernel
theorem dX7_pass_92 : decode cX7_pass 92 = .ok (.getfield 169, 3) := by decide +kernel
theorem dX7_pass_95 : decode cX7_pass 95 = .ok (.iload_n 1, 1) := by decide +kernel
theorem dX7_pass_96 : decode cX7_pass 96 = .ok (.aload_n 0, 1) := by decide +kernel
theorem dX7_pass_97 : decode cX7_pass 97 = .ok (.getfield 33, 3) := by decide +kernel
theorem dX7_pass_100 : decode cX7_pass 100 = .ok (.getfield 172, 3) := by decide +kernel
theorem dX7_pass_103 : decode cX7_pass 103 = .ok (.imul, 1) := by decide +kernel
theorem dX7_pass_104 : decode cX7_pass 104 = .ok (.iadd, 1) := by decide +kernel
theorem dX7_pass_105 : decode cX7_pass 105 = .ok (.putfield 169, 3) := by decide +kernel
theorem dX7_pass_108 : decode cX7_pass 108 = .ok (.aload_n 0, 1) := by decide +kernel
theorem dX7_pass_109 : decode cX7_pass 109 = .ok (.getfield 10, 3) := by decide +kernel
theorem dX7_pass_112 : decode cX7_pass 112 = .ok (.dup, 1) := by decide +kernel
theorem dX7_pass_113 : decode cX7_pass 113 = .ok (.getfield 158, 3) := by decide +kernel
theorem dX7_pass_116 : decode cX7_pass 116 = .ok (.iload_n 1, 1) := by decide +kernel
theorem dX7_pass_117 : decode cX7_pass 117 = .ok (.iadd, 1) := by decide +kernel
theorem dX7_pass_118 : decode cX7_pass 118 = .ok (.putfield 158, 3) := by decide +kernel
theorem dX7_pass_121 : decode cX7_pass 121 = .ok (.aload_n 0, 1) := by decide +kernel
theorem dX7_pass_122 : decode cX7_pass 122 = .ok (.getfield 10, 3) := by decide +kernel
theorem dX7_pass_125 : decode cX7_pass 125 = .ok (.getfield 158, 3) := by decide +kernel
theorem dX7_pass_128 : decode cX7_pass 128 = .ok (.ireturn, 1) := by decide +kernel
theorem dX7_setMeter_0 : decode cX7_setMeter 0 = .ok (.aload_n 0, 1) := by decide +kernel
theorem dX7_setMeter_1 : decode cX7_setMeter 1 = .ok (.iload_n 1, 1) := by decide +kernel
theorem dX7_setMeter_2 : decode cX7_setMeter 2 = .ok (.invokevirtual 94, 3) := by decide +kernel
theorem dX7_setMeter_5 : decode cX7_setMeter 5 = .ok (.aload_n 0, 1) := by decide +kernel
theorem dX7_setMeter_6 : decode cX7_setMeter 6 = .ok (.getfield 19, 3) := by decide +kernel
theorem dX7_setMeter_9 : decode cX7_setMeter 9 = .ok (.aload_n 0, 1) := by decide +kernel
theorem dX7_setMeter_10 : decode cX7_setMeter 10 = .ok (.getfield 10, 3) := by decide +kernel
theorem dX7_setMeter_13 : decode cX7_setMeter 13 = .ok (.invokevirtual 86, 3) := by decide +kernel
theorem dX7_setMeter_16 : decode cX7_setMeter 16 = .ok (.aload_n 0, 1) := by decide +kernel
theorem dX7_setMeter_17 : decode cX7_setMeter 17 = .ok (.getfield 10, 3) := by decide +kernel
theorem dX7_setMeter_20 : decode cX7_setMeter 20 = .ok (.getfield 72, 3) := by decide +kernel
theorem dX7_setMeter_23 : decode cX7_setMeter 23 = .ok (.getfield 173, 3) := by decide +kernel
theorem dX7_setMeter_26 : decode cX7_setMeter 26 = .ok (.iload_n 1, 1) := by decide +kernel
theorem dX7_setMeter_27 : decode cX7_setMeter 27 = .ok (.iload_n 2, 1) := by decide +kernel
theorem dX7_setMeter_28 : decode cX7_setMeter 28 = .ok (.ifCond .eq 7, 3) := by decide +kernel
theorem dX7_setMeter_31 : decode cX7_setMeter 31 = .ok (.iconst 1, 1) := by decide +kernel
theorem dX7_setMeter_32 : decode cX7_setMeter 32 = .ok (.goto 4, 3) := by decide +kernel
theorem dX7_setMeter_35 : decode cX7_setMeter 35 = .ok (.iconst 0, 1) := by decide +kernel
theorem dX7_setMeter_36 : decode cX7_setMeter 36 = .ok (.iastore, 1) := by decide +kernel
theorem dX7_setMeter_37 : decode cX7_setMeter 37 = .ok (.aload_n 0, 1) := by decide +kernel
theorem dX7_setMeter_38 : decode cX7_setMeter 38 = .ok (.invokevirtual 61, 3) := by decide +kernel
theorem dX7_setMeter_41 : decode cX7_setMeter 41 = .ok (.aload_n 0, 1) := by decide +kernel
theorem dX7_setMeter_42 : decode cX7_setMeter 42 = .ok (.getfield 10, 3) := by decide +kernel
theorem dX7_setMeter_45 : decode cX7_setMeter 45 = .ok (.getfield 72, 3) := by decide +kernel
theorem dX7_setMeter_48 : decode cX7_setMeter 48 = .ok (.invokevirtual 176, 3) := by decide +kernel
theorem dX7_setMeter_51 : decode cX7_setMeter 51 = .ok (.ireturn, 1) := by decide +kernel
theorem dX7_balance_0 : decode cX7_balance 0 = .ok (.aload_n 0, 1) := by decide +kernel
theorem dX7_balance_1 : decode cX7_balance 1 = .ok (.iload_n 1, 1) := by decide +kernel
theorem dX7_balance_2 : decode cX7_balance 2 = .ok (.invokevirtual 64, 3) := by decide +kernel
theorem dX7_balance_5 : decode cX7_balance 5 = .ok (.aload_n 0, 1) := by decide +kernel
theorem dX7_balance_6 : decode cX7_balance 6 = .ok (.getfield 40, 3) := by decide +kernel
theorem dX7_balance_9 : decode cX7_balance 9 = .ok (.iload_n 1, 1) := by decide +kernel
theorem dX7_balance_10 : decode cX7_balance 10 = .ok (.invokevirtual 180, 3) := by decide +kernel
theorem dX7_balance_13 : decode cX7_balance 13 = .ok (.ireturn, 1) := by decide +kernel
theorem dX7_region_0 : decode cX7_region 0 = .ok (.aload_n 0, 1) := by decide +kernel
theorem dX7_region_1 : decode cX7_region 1 = .ok (.iload_n 1, 1) := by decide +kernel
theorem dX7_region_2 : decode cX7_region 2 = .ok (.invokevirtual 64, 3) := by decide +kernel
theorem dX7_region_5 : decode cX7_region 5 = .ok (.aload_n 0, 1) := by decide +kernel
theorem dX7_region_6 : decode cX7_region 6 = .ok (.getfield 40, 3) := by decide +kernel
theorem dX7_region_9 : decode cX7_region 9 = .ok (.iload_n 1, 1) := by decide +kernel
theorem dX7_region_10 : decode cX7_region 10 = .ok (.invokevirtual 183, 3) := by decide +kernel
theorem dX7_region_13 : decode cX7_region 13 = .ok (.ireturn, 1) := by decide +kernel
theorem dX7_meterOf_0 : decode cX7_meterOf 0 = .ok (.aload_n 0, 1) := by decide +kernel
theorem dX7_meterOf_1 : decode cX7_meterOf 1 = .ok (.iload_n 1, 1) := by decide +kernel
theorem dX7_meterOf_2 : decode cX7_meterOf 2 = .ok (.invokevirtual 94, 3) := by decide +kernel
theorem dX7_meterOf_5 : decode cX7_meterOf 5 = .ok (.aload_n 0, 1) := by decide +kernel
theorem dX7_meterOf_6 : decode cX7_meterOf 6 = .ok (.getfield 40, 3) := by decide +kernel
theorem dX7_meterOf_9 : decode cX7_meterOf 9 = .ok (.getfield 186, 3) := by decide +kernel
theorem dX7_meterOf_12 : decode cX7_meterOf 12 = .ok (.iload_n 1, 1) := by decide +kernel
theorem dX7_meterOf_13 : decode cX7_meterOf 13 = .ok (.iaload, 1) := by decide +kernel
theorem dX7_meterOf_14 : decode cX7_meterOf 14 = .ok (.ireturn, 1) := by decide +kernel
theorem dX7_nextMeter_0 : decode cX7_nextMeter 0 = .ok (.aload_n 0, 1) := by decide +kernel
theorem dX7_nextMeter_1 : decode cX7_nextMeter 1 = .ok (.iload_n 1, 1) := by decide +kernel
theorem dX7_nextMeter_2 : decode cX7_nextMeter 2 = .ok (.invokevirtual 64, 3) := by decide +kernel
theorem dX7_nextMeter_5 : decode cX7_nextMeter 5 = .ok (.aload_n 0, 1) := by decide +kernel
theorem dX7_nextMeter_6 : decode cX7_nextMeter 6 = .ok (.getfield 40, 3) := by decide +kernel
theorem dX7_nextMeter_9 : decode cX7_nextMeter 9 = .ok (.iload_n 1, 1) := by decide +kernel
theorem dX7_nextMeter_10 : decode cX7_nextMeter 10 = .ok (.invokevirtual 189, 3) := by decide +kernel
theorem dX7_nextMeter_13 : decode cX7_nextMeter 13 = .ok (.ireturn, 1) := by decide +kernel
theorem dX7_suspects_0 : decode cX7_suspects 0 = .ok (.aload_n 0, 1) := by decide +kernel
theorem dX7_suspects_1 : decode cX7_suspects 1 = .ok (.getfield 40, 3) := by decide +kernel
theorem dX7_suspects_4 : decode cX7_suspects 4 = .ok (.invokevirtual 192, 3) := by decide +kernel
theorem dX7_suspects_7 : decode cX7_suspects 7 = .ok (.ireturn, 1) := by decide +kernel
theorem dX7_metersToFind_0 : decode cX7_metersToFind 0 = .ok (.aload_n 0, 1) := by decide +kernel
theorem dX7_metersToFind_1 : decode cX7_metersToFind 1 = .ok (.getfield 47, 3) := by decide +kernel
theorem dX7_metersToFind_4 : decode cX7_metersToFind 4 = .ok (.aload_n 0, 1) := by decide +kernel
theorem dX7_metersToFind_5 : decode cX7_metersToFind 5 = .ok (.getfield 10, 3) := by decide +kernel
theorem dX7_metersToFind_8 : decode cX7_metersToFind 8 = .ok (.getfield 72, 3) := by decide +kernel
theorem dX7_metersToFind_11 : decode cX7_metersToFind 11 = .ok (.invokevirtual 195, 3) := by decide +kernel
theorem dX7_metersToFind_14 : decode cX7_metersToFind 14 = .ok (.aload_n 0, 1) := by decide +kernel
theorem dX7_metersToFind_15 : decode cX7_metersToFind 15 = .ok (.getfield 47, 3) := by decide +kernel
theorem dX7_metersToFind_18 : decode cX7_metersToFind 18 = .ok (.aload_n 0, 1) := by decide +kernel
theorem dX7_metersToFind_19 : decode cX7_metersToFind 19 = .ok (.getfield 10, 3) := by decide +kernel
theorem dX7_metersToFind_22 : decode cX7_metersToFind 22 = .ok (.getfield 72, 3) := by decide +kernel
theorem dX7_metersToFind_25 : decode cX7_metersToFind 25 = .ok (.invokevirtual 199, 3) := by decide +kernel
theorem dX7_metersToFind_28 : decode cX7_metersToFind 28 = .ok (.iconst 0, 1) := by decide +kernel
theorem dX7_metersToFind_29 : decode cX7_metersToFind 29 = .ok (.istore_n 1, 1) := by decide +kernel
theorem dX7_metersToFind_30 : decode cX7_metersToFind 30 = .ok (.iconst 0, 1) := by decide +kernel
theorem dX7_metersToFind_31 : decode cX7_metersToFind 31 = .ok (.istore_n 2, 1) := by decide +kernel
theorem dX7_metersToFind_32 : decode cX7_metersToFind 32 = .ok (.iload_n 2, 1) := by decide +kernel
theorem dX7_metersToFind_33 : decode cX7_metersToFind 33 = .ok (.bipush 16, 2) := by decide +kernel
theorem dX7_metersToFind_35 : decode cX7_metersToFind 35 = .ok (.if_icmp .ge 50, 3) := by decide +kernel
theorem dX7_metersToFind_38 : decode cX7_metersToFind 38 = .ok (.aload_n 0, 1) := by decide +kernel
theorem dX7_metersToFind_39 : decode cX7_metersToFind 39 = .ok (.getfield 47, 3) := by decide +kernel
theorem dX7_metersToFind_42 : decode cX7_metersToFind 42 = .ok (.invokevirtual 201, 3) := by decide +kernel
theorem dX7_metersToFind_45 : decode cX7_metersToFind 45 = .ok (.istore_n 3, 1) := by decide +kernel
theorem dX7_metersToFind_46 : decode cX7_metersToFind 46 = .ok (.iload_n 3, 1) := by decide +kernel
theorem dX7_metersToFind_47 : decode cX7_metersToFind 47 = .ok (.iconst (-1), 1) := by decide +kernel
theorem dX7_metersToFind_48 : decode cX7_metersToFind 48 = .ok (.if_icmp .ne 6, 3) := by decide +kernel
theorem dX7_metersToFind_51 : decode cX7_metersToFind 51 = .ok (.goto 34, 3) := by decide +kernel
theorem dX7_metersToFind_54 : decode cX7_metersToFind 54 = .ok (.aload_n 0, 1) := by decide +kernel
theorem dX7_metersToFind_55 : decode cX7_metersToFind 55 = .ok (.getfield 47, 3) := by decide +kernel
theorem dX7_metersToFind_58 : decode cX7_metersToFind 58 = .ok (.iload_n 3, 1) := by decide +kernel
theorem dX7_metersToFind_59 : decode cX7_metersToFind 59 = .ok (.invokevirtual 204, 3) := by decide +kernel
theorem dX7_metersToFind_62 : decode cX7_metersToFind 62 = .ok (.aload_n 0, 1) := by decide +kernel
theorem dX7_metersToFind_63 : decode cX7_metersToFind 63 = .ok (.getfield 47, 3) := by decide +kernel
theorem dX7_metersToFind_66 : decode cX7_metersToFind 66 = .ok (.aload_n 0, 1) := by decide +kernel
theorem dX7_metersToFind_67 : decode cX7_metersToFind 67 = .ok (.getfield 10, 3) := by decide +kernel
theorem dX7_metersToFind_70 : decode cX7_metersToFind 70 = .ok (.getfield 72, 3) := by decide +kernel
theorem dX7_metersToFind_73 : decode cX7_metersToFind 73 = .ok (.invokevirtual 199, 3) := by decide +kernel
theorem dX7_metersToFind_76 : decode cX7_metersToFind 76 = .ok (.iinc 1 1, 3) := by decide +kernel
theorem dX7_metersToFind_79 : decode cX7_metersToFind 79 = .ok (.iinc 2 1, 3) := by decide +kernel
theorem dX7_metersToFind_82 : decode cX7_metersToFind 82 = .ok (.goto (-50), 3) := by decide +kernel
theorem dX7_metersToFind_85 : decode cX7_metersToFind 85 = .ok (.iload_n 1, 1) := by decide +kernel
theorem dX7_metersToFind_86 : decode cX7_metersToFind 86 = .ok (.ireturn, 1) := by decide +kernel
theorem dX7_supplyFor_0 : decode cX7_supplyFor 0 = .ok (.aload_n 0, 1) := by decide +kernel
theorem dX7_supplyFor_1 : decode cX7_supplyFor 1 = .ok (.iload_n 1, 1) := by decide +kernel
theorem dX7_supplyFor_2 : decode cX7_supplyFor 2 = .ok (.invokevirtual 94, 3) := by decide +kernel
theorem dX7_supplyFor_5 : decode cX7_supplyFor 5 = .ok (.iload_n 2, 1) := by decide +kernel
theorem dX7_supplyFor_6 : decode cX7_supplyFor 6 = .ok (.sipush (-200), 3) := by decide +kernel
theorem dX7_supplyFor_9 : decode cX7_supplyFor 9 = .ok (.sipush 1200, 3) := by decide +kernel
theorem dX7_supplyFor_12 : decode cX7_supplyFor 12 = .ok (.invokestatic 68, 3) := by decide +kernel
theorem dX7_supplyFor_15 : decode cX7_supplyFor 15 = .ok (.iconst 0, 1) := by decide +kernel
theorem dX7_supplyFor_16 : decode cX7_supplyFor 16 = .ok (.istore_n 3, 1) := by decide +kernel
theorem dX7_supplyFor_17 : decode cX7_supplyFor 17 = .ok (.iload_n 3, 1) := by decide +kernel
theorem dX7_supplyFor_18 : decode cX7_supplyFor 18 = .ok (.aload_n 0, 1) := by decide +kernel
theorem dX7_supplyFor_19 : decode cX7_supplyFor 19 = .ok (.getfield 10, 3) := by decide +kernel
theorem dX7_supplyFor_22 : decode cX7_supplyFor 22 = .ok (.getfield 72, 3) := by decide +kernel
theorem dX7_supplyFor_25 : decode cX7_supplyFor 25 = .ok (.getfield 75, 3) := by decide +kernel
theorem dX7_supplyFor_28 : decode cX7_supplyFor 28 = .ok (.if_icmp .ge 18, 3) := by decide +kernel
theorem dX7_supplyFor_31 : decode cX7_supplyFor 31 = .ok (.aload_n 0, 1) := by decide +kernel
theorem dX7_supplyFor_32 : decode cX7_supplyFor 32 = .ok (.getfield 57, 3) := by decide +kernel
theorem dX7_supplyFor_35 : decode cX7_supplyFor 35 = .ok (.iload_n 3, 1) := by decide +kernel
theorem dX7_supplyFor_36 : decode cX7_supplyFor 36 = .ok (.sipush (-1000), 3) := by decide +kernel
theorem dX7_supplyFor_39 : decode cX7_supplyFor 39 = .ok (.iastore, 1) := by decide +kernel
theorem dX7_supplyFor_40 : decode cX7_supplyFor 40 = .ok (.iinc 3 1, 3) := by decide +kernel
theorem dX7_supplyFor_43 : decode cX7_supplyFor 43 = .ok (.goto (-26), 3) := by decide +kernel
theorem dX7_supplyFor_46 : decode cX7_supplyFor 46 = .ok (.aload_n 0, 1) := by decide +kernel
theorem dX7_supplyFor_47 : decode cX7_supplyFor 47 = .ok (.getfield 57, 3) := by decide +kernel
theorem dX7_supplyFor_50 : decode cX7_supplyFor 50 = .ok (.iload_n 1, 1) := by decide +kernel
theorem dX7_supplyFor_51 : decode cX7_supplyFor 51 = .ok (.iload_n 2, 1) := by decide +kernel
theorem dX7_supplyFor_52 : decode cX7_supplyFor 52 = .ok (.iastore, 1) := by decide +kernel
theorem dX7_supplyFor_53 : decode cX7_supplyFor 53 = .ok (.aload_n 0, 1) := by decide +kernel
theorem dX7_supplyFor_54 : decode cX7_supplyFor 54 = .ok (.invokevirtual 207, 3) := by decide +kernel
theorem dX7_supplyFor_57 : decode cX7_supplyFor 57 = .ok (.ireturn, 1) := by decide +kernel
theorem dX7_cheapestSupply_0 : decode cX7_cheapestSupply 0 = .ok (.aload_n 0, 1) := by decide +kernel
theorem dX7_cheapestSupply_1 : decode cX7_cheapestSupply 1 = .ok (.getfield 10, 3) := by decide +kernel
theorem dX7_cheapestSupply_4 : decode cX7_cheapestSupply 4 = .ok (.getfield 72, 3) := by decide +kernel
theorem dX7_cheapestSupply_7 : decode cX7_cheapestSupply 7 = .ok (.astore_n 1, 1) := by decide +kernel
theorem dX7_cheapestSupply_8 : decode cX7_cheapestSupply 8 = .ok (.iconst 0, 1) := by decide +kernel
theorem dX7_cheapestSupply_9 : decode cX7_cheapestSupply 9 = .ok (.istore_n 2, 1) := by decide +kernel
theorem dX7_cheapestSupply_10 : decode cX7_cheapestSupply 10 = .ok (.iload_n 2, 1) := by decide +kernel
theorem dX7_cheapestSupply_11 : decode cX7_cheapestSupply 11 = .ok (.aload_n 1, 1) := by decide +kernel
theorem dX7_cheapestSupply_12 : decode cX7_cheapestSupply 12 = .ok (.getfield 75, 3) := by decide +kernel
theorem dX7_cheapestSupply_15 : decode cX7_cheapestSupply 15 = .ok (.if_icmp .ge 39, 3) := by decide +kernel
theorem dX7_cheapestSupply_18 : decode cX7_cheapestSupply 18 = .ok (.aload_n 0, 1) := by decide +kernel
theorem dX7_cheapestSupply_19 : decode cX7_cheapestSupply 19 = .ok (.getfield 57, 3) := by decide +kernel
theorem dX7_cheapestSupply_22 : decode cX7_cheapestSupply 22 = .ok (.iload_n 2, 1) := by decide +kernel
theorem dX7_cheapestSupply_23 : decode cX7_cheapestSupply 23 = .ok (.aload_n 1, 1) := by decide +kernel
theorem dX7_cheapestSupply_24 : decode cX7_cheapestSupply 24 = .ok (.getfield 97, 3) := by decide +kernel
theorem dX7_cheapestSupply_27 : decode cX7_cheapestSupply 27 = .ok (.iload_n 2, 1) := by decide +kernel
theorem dX7_cheapestSupply_28 : decode cX7_cheapestSupply 28 = .ok (.iaload, 1) := by decide +kernel
theorem dX7_cheapestSupply_29 : decode cX7_cheapestSupply 29 = .ok (.ifCond .le 15, 3) := by decide +kernel
theorem dX7_cheapestSupply_32 : decode cX7_cheapestSupply 32 = .ok (.aload_n 1, 1) := by decide +kernel
theorem dX7_cheapestSupply_33 : decode cX7_cheapestSupply 33 = .ok (.getfield 100, 3) := by decide +kernel
theorem dX7_cheapestSupply_36 : decode cX7_cheapestSupply 36 = .ok (.iload_n 2, 1) := by decide +kernel
theorem dX7_cheapestSupply_37 : decode cX7_cheapestSupply 37 = .ok (.iaload, 1) := by decide +kernel
theorem dX7_cheapestSupply_38 : decode cX7_cheapestSupply 38 = .ok (.bipush 100, 2) := by decide +kernel
theorem dX7_cheapestSupply_40 : decode cX7_cheapestSupply 40 = .ok (.iadd, 1) := by decide +kernel
theorem dX7_cheapestSupply_41 : decode cX7_cheapestSupply 41 = .ok (.goto 6, 3) := by decide +kernel
theorem dX7_cheapestSupply_44 : decode cX7_cheapestSupply 44 = .ok (.sipush (-1000), 3) := by decide +kernel
theorem dX7_cheapestSupply_47 : decode cX7_cheapestSupply 47 = .ok (.iastore, 1) := by decide +kernel
theorem dX7_cheapestSupply_48 : decode cX7_cheapestSupply 48 = .ok (.iinc 2 1, 3) := by decide +kernel
theorem dX7_cheapestSupply_51 : decode cX7_cheapestSupply 51 = .ok (.goto (-41), 3) := by decide +kernel
theorem dX7_cheapestSupply_54 : decode cX7_cheapestSupply 54 = .ok (.aload_n 0, 1) := by decide +kernel
theorem dX7_cheapestSupply_55 : decode cX7_cheapestSupply 55 = .ok (.invokevirtual 207, 3) := by decide +kernel
theorem dX7_cheapestSupply_58 : decode cX7_cheapestSupply 58 = .ok (.istore_n 2, 1) := by decide +kernel
theorem dX7_cheapestSupply_59 : decode cX7_cheapestSupply 59 = .ok (.iload_n 2, 1) := by decide +kernel
theorem dX7_cheapestSupply_60 : decode cX7_cheapestSupply 60 = .ok (.iconst (-1), 1) := by decide +kernel
theorem dX7_cheapestSupply_61 : decode cX7_cheapestSupply 61 = .ok (.if_icmp .ne 5, 3) := by decide +kernel
theorem dX7_cheapestSupply_64 : decode cX7_cheapestSupply 64 = .ok (.iconst (-1), 1) := by decide +kernel
theorem dX7_cheapestSupply_65 : decode cX7_cheapestSupply 65 = .ok (.ireturn, 1) := by decide +kernel
theorem dX7_cheapestSupply_66 : decode cX7_cheapestSupply 66 = .ok (.aload_n 0, 1) := by decide +kernel
theorem dX7_cheapestSupply_67 : decode cX7_cheapestSupply 67 = .ok (.getfield 44, 3) := by decide +kernel
theorem dX7_cheapestSupply_70 : decode cX7_cheapestSupply 70 = .ok (.aload_n 0, 1) := by decide +kernel
theorem dX7_cheapestSupply_71 : decode cX7_cheapestSupply 71 = .ok (.getfield 10, 3) := by decide +kernel
theorem dX7_cheapestSupply_74 : decode cX7_cheapestSupply 74 = .ok (.iload_n 2, 1) := by decide +kernel
theorem dX7_cheapestSupply_75 : decode cX7_cheapestSupply 75 = .ok (.invokevirtual 210, 3) := by decide +kernel
theorem dX7_cheapestSupply_78 : decode cX7_cheapestSupply 78 = .ok (.aload_n 0, 1) := by decide +kernel
theorem dX7_cheapestSupply_79 : decode cX7_cheapestSupply 79 = .ok (.getfield 44, 3) := by decide +kernel
theorem dX7_cheapestSupply_82 : decode cX7_cheapestSupply 82 = .ok (.getfield 213, 3) := by decide +kernel
theorem dX7_cheapestSupply_85 : decode cX7_cheapestSupply 85 = .ok (.ifCond .ne 7, 3) := by decide +kernel
theorem dX7_cheapestSupply_88 : decode cX7_cheapestSupply 88 = .ok (.iload_n 2, 1) := by decide +kernel
theorem dX7_cheapestSupply_89 : decode cX7_cheapestSupply 89 = .ok (.goto 4, 3) := by decide +kernel
theorem dX7_cheapestSupply_92 : decode cX7_cheapestSupply 92 = .ok (.iconst (-1), 1) := by decide +kernel
theorem dX7_cheapestSupply_93 : decode cX7_cheapestSupply 93 = .ok (.ireturn, 1) := by decide +kernel
theorem dX7_saves_0 : decode cX7_saves 0 = .ok (.aload_n 0, 1) := by decide +kernel
theorem dX7_saves_1 : decode cX7_saves 1 = .ok (.iload_n 1, 1) := by decide +kernel
theorem dX7_saves_2 : decode cX7_saves 2 = .ok (.invokevirtual 94, 3) := by decide +kernel
theorem dX7_saves_5 : decode cX7_saves 5 = .ok (.aload_n 0, 1) := by decide +kernel
theorem dX7_saves_6 : decode cX7_saves 6 = .ok (.getfield 10, 3) := by decide +kernel
theorem dX7_saves_9 : decode cX7_saves 9 = .ok (.getfield 72, 3) := by decide +kernel
theorem dX7_saves_12 : decode cX7_saves 12 = .ok (.getfield 103, 3) := by decide +kernel
theorem dX7_saves_15 : decode cX7_saves 15 = .ok (.iload_n 1, 1) := by decide +kernel
theorem dX7_saves_16 : decode cX7_saves 16 = .ok (.iaload, 1) := by decide +kernel
theorem dX7_saves_17 : decode cX7_saves 17 = .ok (.istore_n 2, 1) := by decide +kernel
theorem dX7_saves_18 : decode cX7_saves 18 = .ok (.aload_n 0, 1) := by decide +kernel
theorem dX7_saves_19 : decode cX7_saves 19 = .ok (.getfield 10, 3) := by decide +kernel
theorem dX7_saves_22 : decode cX7_saves 22 = .ok (.getfield 72, 3) := by decide +kernel
theorem dX7_saves_25 : decode cX7_saves 25 = .ok (.getfield 103, 3) := by decide +kernel
theorem dX7_saves_28 : decode cX7_saves 28 = .ok (.iload_n 1, 1) := by decide +kernel
theorem dX7_saves_29 : decode cX7_saves 29 = .ok (.iconst 0, 1) := by decide +kernel
theorem dX7_saves_30 : decode cX7_saves 30 = .ok (.iastore, 1) := by decide +kernel
theorem dX7_saves_31 : decode cX7_saves 31 = .ok (.aload_n 0, 1) := by decide +kernel
theorem dX7_saves_32 : decode cX7_saves 32 = .ok (.getfield 44, 3) := by decide +kernel
theorem dX7_saves_35 : decode cX7_saves 35 = .ok (.aload_n 0, 1) := by decide +kernel
theorem dX7_saves_36 : decode cX7_saves 36 = .ok (.getfield 10, 3) := by decide +kernel
theorem dX7_saves_39 : decode cX7_saves 39 = .ok (.aload_n 0, 1) := by decide +kernel
theorem dX7_saves_40 : decode cX7_saves 40 = .ok (.getfield 10, 3) := by decide +kernel
theorem dX7_saves_43 : decode cX7_saves 43 = .ok (.getfield 106, 3) := by decide +kernel
theorem dX7_saves_46 : decode cX7_saves 46 = .ok (.invokevirtual 210, 3) := by decide +kernel
theorem dX7_saves_49 : decode cX7_saves 49 = .ok (.aload_n 0, 1) := by decide +kernel
theorem dX7_saves_50 : decode cX7_saves 50 = .ok (.getfield 10, 3) := by decide +kernel
theorem dX7_saves_53 : decode cX7_saves 53 = .ok (.getfield 72, 3) := by decide +kernel
theorem dX7_saves_56 : decode cX7_saves 56 = .ok (.getfield 103, 3) := by decide +kernel
theorem dX7_saves_59 : decode cX7_saves 59 = .ok (.iload_n 1, 1) := by decide +kernel
theorem dX7_saves_60 : decode cX7_saves 60 = .ok (.iload_n 2, 1) := by decide +kernel
theorem dX7_saves_61 : decode cX7_saves 61 = .ok (.iastore, 1) := by decide +kernel
theorem dX7_saves_62 : decode cX7_saves 62 = .ok (.aload_n 0, 1) := by decide +kernel
theorem dX7_saves_63 : decode cX7_saves 63 = .ok (.getfield 33, 3) := by decide +kernel
theorem dX7_saves_66 : decode cX7_saves 66 = .ok (.getfield 172, 3) := by decide +kernel
theorem dX7_saves_69 : decode cX7_saves 69 = .ok (.aload_n 0, 1) := by decide +kernel
theorem dX7_saves_70 : decode cX7_saves 70 = .ok (.getfield 44, 3) := by decide +kernel
theorem dX7_saves_73 : decode cX7_saves 73 = .ok (.getfield 172, 3) := by decide +kernel
theorem dX7_saves_76 : decode cX7_saves 76 = .ok (.isub, 1) := by decide +kernel
theorem dX7_saves_77 : decode cX7_saves 77 = .ok (.ireturn, 1) := by decide +kernel
theorem dX7_efficiency_0 : decode cX7_efficiency 0 = .ok (.aload_n 0, 1) := by decide +kernel
theorem dX7_efficiency_1 : decode cX7_efficiency 1 = .ok (.getfield 33, 3) := by decide +kernel
theorem dX7_efficiency_4 : decode cX7_efficiency 4 = .ok (.getfield 216, 3) := by decide +kernel
theorem dX7_efficiency_7 : decode cX7_efficiency 7 = .ok (.iconst 0, 1) := by decide +kernel
theorem dX7_efficiency_8 : decode cX7_efficiency 8 = .ok (.iaload, 1) := by decide +kernel
theorem dX7_efficiency_9 : decode cX7_efficiency 9 = .ok (.aload_n 0, 1) := by decide +kernel
theorem dX7_efficiency_10 : decode cX7_efficiency 10 = .ok (.getfield 10, 3) := by decide +kernel
theorem dX7_efficiency_13 : decode cX7_efficiency 13 = .ok (.getfield 106, 3) := by decide +kernel
theorem dX7_efficiency_16 : decode cX7_efficiency 16 = .ok (.imul, 1) := by decide +kernel
theorem dX7_efficiency_17 : decode cX7_efficiency 17 = .ok (.istore_n 1, 1) := by decide +kernel
theorem dX7_efficiency_18 : decode cX7_efficiency 18 = .ok (.iload_n 1, 1) := by decide +kernel
theorem dX7_efficiency_19 : decode cX7_efficiency 19 = .ok (.ifCond .ne 5, 3) := by decide +kernel
theorem dX7_efficiency_22 : decode cX7_efficiency 22 = .ok (.dconst 0, 1) := by decide +kernel
theorem dX7_efficiency_23 : decode cX7_efficiency 23 = .ok (.dreturn, 1) := by decide +kernel
theorem dX7_efficiency_24 : decode cX7_efficiency 24 = .ok (.aload_n 0, 1) := by decide +kernel
theorem dX7_efficiency_25 : decode cX7_efficiency 25 = .ok (.iconst 0, 1) := by decide +kernel
theorem dX7_efficiency_26 : decode cX7_efficiency 26 = .ok (.invokevirtual 123, 3) := by decide +kernel
theorem dX7_efficiency_29 : decode cX7_efficiency 29 = .ok (.i2d, 1) := by decide +kernel
theorem dX7_efficiency_30 : decode cX7_efficiency 30 = .ok (.iload_n 1, 1) := by decide +kernel
theorem dX7_efficiency_31 : decode cX7_efficiency 31 = .ok (.i2d, 1) := by decide +kernel
theorem dX7_efficiency_32 : decode cX7_efficiency 32 = .ok (.ddiv, 1) := by decide +kernel
theorem dX7_efficiency_33 : decode cX7_efficiency 33 = .ok (.dreturn, 1) := by decide +kernel
theorem dX7_append_0 : decode cX7_append 0 = .ok (.iload_n 1, 1) := by decide +kernel
theorem dX7_append_1 : decode cX7_append 1 = .ok (.iconst 0, 1) := by decide +kernel
theorem dX7_append_2 : decode cX7_append 2 = .ok (.bipush 127, 2) := by decide +kernel
theorem dX7_append_4 : decode cX7_append 4 = .ok (.invokestatic 68, 3) := by decide +kernel
theorem dX7_append_7 : decode cX7_append 7 = .ok (.aload_n 0, 1) := by decide +kernel
theorem dX7_append_8 : decode cX7_append 8 = .ok (.getfield 26, 3) := by decide +kernel
theorem dX7_append_11 : decode cX7_append 11 = .ok (.getfield 219, 3) := by decide +kernel
theorem dX7_append_14 : decode cX7_append 14 = .ok (.sipush 180, 3) := by decide +kernel
theorem dX7_append_17 : decode cX7_append 17 = .ok (.if_icmp .lt 13, 3) := by decide +kernel
theorem dX7_append_20 : decode cX7_append 20 = .ok (.new 79, 3) := by decide +kernel
theorem dX7_append_23 : decode cX7_append 23 = .ok (.dup, 1) := by decide +kernel
theorem dX7_append_24 : decode cX7_append 24 = .ok (.ldc 222, 2) := by decide +kernel
theorem dX7_append_26 : decode cX7_append 26 = .ok (.invokespecial 83, 3) := by decide +kernel
theorem dX7_append_29 : decode cX7_append 29 = .ok (.athrow, 1) := by decide +kernel
theorem dX7_append_30 : decode cX7_append 30 = .ok (.aload_n 0, 1) := by decide +kernel
theorem dX7_append_31 : decode cX7_append 31 = .ok (.getfield 26, 3) := by decide +kernel
theorem dX7_append_34 : decode cX7_append 34 = .ok (.iload_n 1, 1) := by decide +kernel
theorem dX7_append_35 : decode cX7_append 35 = .ok (.invokevirtual 224, 3) := by decide +kernel
theorem dX7_append_38 : decode cX7_append 38 = .ok (.aload_n 0, 1) := by decide +kernel
theorem dX7_append_39 : decode cX7_append 39 = .ok (.getfield 26, 3) := by decide +kernel
theorem dX7_append_42 : decode cX7_append 42 = .ok (.getfield 219, 3) := by decide +kernel
theorem dX7_append_45 : decode cX7_append 45 = .ok (.ireturn, 1) := by decide +kernel
theorem dX7_clearText_0 : decode cX7_clearText 0 = .ok (.aload_n 0, 1) := by decide +kernel
theorem dX7_clearText_1 : decode cX7_clearText 1 = .ok (.getfield 26, 3) := by decide +kernel
theorem dX7_clearText_4 : decode cX7_clearText 4 = .ok (.getfield 219, 3) := by decide +kernel
theorem dX7_clearText_7 : decode cX7_clearText 7 = .ok (.istore_n 1, 1) := by decide +kernel
theorem dX7_clearText_8 : decode cX7_clearText 8 = .ok (.aload_n 0, 1) := by decide +kernel
theorem dX7_clearText_9 : decode cX7_clearText 9 = .ok (.getfield 26, 3) := by decide +kernel
theorem dX7_clearText_12 : decode cX7_clearText 12 = .ok (.iconst 0, 1) := by decide +kernel
theorem dX7_clearText_13 : decode cX7_clearText 13 = .ok (.putfield 219, 3) := by decide +kernel
theorem dX7_clearText_16 : decode cX7_clearText 16 = .ok (.iload_n 1, 1) := by decide +kernel
theorem dX7_clearText_17 : decode cX7_clearText 17 = .ok (.ireturn, 1) := by decide +kernel
theorem dX7_parse_0 : decode cX7_parse 0 = .ok (.aload_n 0, 1) := by decide +kernel
theorem dX7_parse_1 : decode cX7_parse 1 = .ok (.getfield 26, 3) := by decide +kernel
theorem dX7_parse_4 : decode cX7_parse 4 = .ok (.aload_n 0, 1) := by decide +kernel
theorem dX7_parse_5 : decode cX7_parse 5 = .ok (.getfield 53, 3) := by decide +kernel
theorem dX7_parse_8 : decode cX7_parse 8 = .ok (.invokevirtual 227, 3) := by decide +kernel
theorem dX7_parse_11 : decode cX7_parse 11 = .ok (.istore_n 1, 1) := by decide +kernel
theorem dX7_parse_12 : decode cX7_parse 12 = .ok (.iload_n 1, 1) := by decide +kernel
theorem dX7_parse_13 : decode cX7_parse 13 = .ok (.iconst (-1), 1) := by decide +kernel
theorem dX7_parse_14 : decode cX7_parse 14 = .ok (.if_icmp .eq 8, 3) := by decide +kernel
theorem dX7_parse_17 : decode cX7_parse 17 = .ok (.bipush (-10), 2) := by decide +kernel
theorem dX7_parse_19 : decode cX7_parse 19 = .ok (.iload_n 1, 1) := by decide +kernel
theorem dX7_parse_20 : decode cX7_parse 20 = .ok (.isub, 1) := by decide +kernel
theorem dX7_parse_21 : decode cX7_parse 21 = .ok (.ireturn, 1) := by decide +kernel
theorem dX7_parse_22 : decode cX7_parse 22 = .ok (.aload_n 0, 1) := by decide +kernel
theorem dX7_parse_23 : decode cX7_parse 23 = .ok (.getfield 19, 3) := by decide +kernel
theorem dX7_parse_26 : decode cX7_parse 26 = .ok (.aload_n 0, 1) := by decide +kernel
theorem dX7_parse_27 : decode cX7_parse 27 = .ok (.getfield 10, 3) := by decide +kernel
theorem dX7_parse_30 : decode cX7_parse 30 = .ok (.invokevirtual 86, 3) := by decide +kernel
theorem dX7_parse_33 : decode cX7_parse 33 = .ok (.aload_n 0, 1) := by decide +kernel
theorem dX7_parse_34 : decode cX7_parse 34 = .ok (.getfield 10, 3) := by decide +kernel
theorem dX7_parse_37 : decode cX7_parse 37 = .ok (.getfield 72, 3) := by decide +kernel
theorem dX7_parse_40 : decode cX7_parse 40 = .ok (.aload_n 0, 1) := by decide +kernel
theorem dX7_parse_41 : decode cX7_parse 41 = .ok (.getfield 53, 3) := by decide +kernel
theorem dX7_parse_44 : decode cX7_parse 44 = .ok (.invokevirtual 231, 3) := by decide +kernel
theorem dX7_parse_47 : decode cX7_parse 47 = .ok (.aload_n 0, 1) := by decide +kernel
theorem dX7_parse_48 : decode cX7_parse 48 = .ok (.invokevirtual 61, 3) := by decide +kernel
theorem dX7_parse_51 : decode cX7_parse 51 = .ok (.aload_n 0, 1) := by decide +kernel
theorem dX7_parse_52 : decode cX7_parse 52 = .ok (.getfield 10, 3) := by decide +kernel
theorem dX7_parse_55 : decode cX7_parse 55 = .ok (.getfield 72, 3) := by decide +kernel
theorem dX7_parse_58 : decode cX7_parse 58 = .ok (.getfield 75, 3) := by decide +kernel
theorem dX7_parse_61 : decode cX7_parse 61 = .ok (.ireturn, 1) := by decide +kernel
theorem dX7_undo_0 : decode cX7_undo 0 = .ok (.aload_n 0, 1) := by decide +kernel
theorem dX7_undo_1 : decode cX7_undo 1 = .ok (.getfield 19, 3) := by decide +kernel
theorem dX7_undo_4 : decode cX7_undo 4 = .ok (.getfield 234, 3) := by decide +kernel
theorem dX7_undo_7 : decode cX7_undo 7 = .ok (.ifCond .gt 13, 3) := by decide +kernel
theorem dX7_undo_10 : decode cX7_undo 10 = .ok (.new 79, 3) := by decide +kernel
theorem dX7_undo_13 : decode cX7_undo 13 = .ok (.dup, 1) := by decide +kernel
theorem dX7_undo_14 : decode cX7_undo 14 = .ok (.ldc 235, 2) := by decide +kernel
theorem dX7_undo_16 : decode cX7_undo 16 = .ok (.invokespecial 83, 3) := by decide +kernel
theorem dX7_undo_19 : decode cX7_undo 19 = .ok (.athrow, 1) := by decide +kernel
theorem dX7_undo_20 : decode cX7_undo 20 = .ok (.aload_n 0, 1) := by decide +kernel
theorem dX7_undo_21 : decode cX7_undo 21 = .ok (.getfield 19, 3) := by decide +kernel
theorem dX7_undo_24 : decode cX7_undo 24 = .ok (.aload_n 0, 1) := by decide +kernel
theorem dX7_undo_25 : decode cX7_undo 25 = .ok (.getfield 10, 3) := by decide +kernel
theorem dX7_undo_28 : decode cX7_undo 28 = .ok (.invokevirtual 237, 3) := by decide +kernel
theorem dX7_undo_31 : decode cX7_undo 31 = .ok (.aload_n 0, 1) := by decide +kernel
theorem dX7_undo_32 : decode cX7_undo 32 = .ok (.invokevirtual 61, 3) := by decide +kernel
theorem dX7_undo_35 : decode cX7_undo 35 = .ok (.aload_n 0, 1) := by decide +kernel
theorem dX7_undo_36 : decode cX7_undo 36 = .ok (.getfield 19, 3) := by decide +kernel
theorem dX7_undo_39 : decode cX7_undo 39 = .ok (.getfield 234, 3) := by decide +kernel
theorem dX7_undo_42 : decode cX7_undo 42 = .ok (.ireturn, 1) := by decide +kernel
theorem dX7_digest_0 : decode cX7_digest 0 = .ok (.ldc2_w 240, 3) := by decide +kernel
theorem dX7_digest_3 : decode cX7_digest 3 = .ok (.aload_n 0, 1) := by decide +kernel
theorem dX7_digest_4 : decode cX7_digest 4 = .ok (.getfield 26, 3) := by decide +kernel
theorem dX7_digest_7 : decode cX7_digest 7 = .ok (.getfield 219, 3) := by decide +kernel
theorem dX7_digest_10 : decode cX7_digest 10 = .ok (.i2l, 1) := by decide +kernel
theorem dX7_digest_11 : decode cX7_digest 11 = .ok (.invokestatic 242, 3) := by decide +kernel
theorem dX7_digest_14 : decode cX7_digest 14 = .ok (.lstore_n 1, 1) := by decide +kernel
theorem dX7_digest_15 : decode cX7_digest 15 = .ok (.iconst 0, 1) := by decide +kernel
theorem dX7_digest_16 : decode cX7_digest 16 = .ok (.istore_n 3, 1) := by decide +kernel
theorem dX7_digest_17 : decode cX7_digest 17 = .ok (.iload_n 3, 1) := by decide +kernel
theorem dX7_digest_18 : decode cX7_digest 18 = .ok (.bipush 14, 2) := by decide +kernel
theorem dX7_digest_20 : decode cX7_digest 20 = .ok (.if_icmp .gt 20, 3) := by decide +kernel
theorem dX7_digest_23 : decode cX7_digest 23 = .ok (.lload_n 1, 1) := by decide +kernel
theorem dX7_digest_24 : decode cX7_digest 24 = .ok (.aload_n 0, 1) := by decide +kernel
theorem dX7_digest_25 : decode cX7_digest 25 = .ok (.iload_n 3, 1) := by decide +kernel
theorem dX7_digest_26 : decode cX7_digest 26 = .ok (.invokevirtual 119, 3) := by decide +kernel
theorem dX7_digest_29 : decode cX7_digest 29 = .ok (.i2l, 1) := by decide +kernel
theorem dX7_digest_30 : decode cX7_digest 30 = .ok (.invokestatic 242, 3) := by decide +kernel
theorem dX7_digest_33 : decode cX7_digest 33 = .ok (.lstore_n 1, 1) := by decide +kernel
theorem dX7_digest_34 : decode cX7_digest 34 = .ok (.iinc 3 1, 3) := by decide +kernel
theorem dX7_digest_37 : decode cX7_digest 37 = .ok (.goto (-20), 3) := by decide +kernel
theorem dX7_digest_40 : decode cX7_digest 40 = .ok (.iconst 0, 1) := by decide +kernel
theorem dX7_digest_41 : decode cX7_digest 41 = .ok (.istore_n 3, 1) := by decide +kernel
theorem dX7_digest_42 : decode cX7_digest 42 = .ok (.iload_n 3, 1) := by decide +kernel
theorem dX7_digest_43 : decode cX7_digest 43 = .ok (.iconst 2, 1) := by decide +kernel
theorem dX7_digest_44 : decode cX7_digest 44 = .ok (.if_icmp .gt 20, 3) := by decide +kernel
theorem dX7_digest_47 : decode cX7_digest 47 = .ok (.lload_n 1, 1) := by decide +kernel
theorem dX7_digest_48 : decode cX7_digest 48 = .ok (.aload_n 0, 1) := by decide +kernel
theorem dX7_digest_49 : decode cX7_digest 49 = .ok (.iload_n 3, 1) := by decide +kernel
theorem dX7_digest_50 : decode cX7_digest 50 = .ok (.invokevirtual 123, 3) := by decide +kernel
theorem dX7_digest_53 : decode cX7_digest 53 = .ok (.i2l, 1) := by decide +kernel
theorem dX7_digest_54 : decode cX7_digest 54 = .ok (.invokestatic 242, 3) := by decide +kernel
theorem dX7_digest_57 : decode cX7_digest 57 = .ok (.lstore_n 1, 1) := by decide +kernel
theorem dX7_digest_58 : decode cX7_digest 58 = .ok (.iinc 3 1, 3) := by decide +kernel
theorem dX7_digest_61 : decode cX7_digest 61 = .ok (.goto (-19), 3) := by decide +kernel
theorem dX7_digest_64 : decode cX7_digest 64 = .ok (.aload_n 0, 1) := by decide +kernel
theorem dX7_digest_65 : decode cX7_digest 65 = .ok (.lload_n 1, 1) := by decide +kernel
theorem dX7_digest_66 : decode cX7_digest 66 = .ok (.invokevirtual 246, 3) := by decide +kernel
theorem dX7_digest_69 : decode cX7_digest 69 = .ok (.lstore_n 1, 1) := by decide +kernel
theorem dX7_digest_70 : decode cX7_digest 70 = .ok (.aload_n 0, 1) := by decide +kernel
theorem dX7_digest_71 : decode cX7_digest 71 = .ok (.lload_n 1, 1) := by decide +kernel
theorem dX7_digest_72 : decode cX7_digest 72 = .ok (.invokevirtual 250, 3) := by decide +kernel
theorem dX7_digest_75 : decode cX7_digest 75 = .ok (.lstore_n 1, 1) := by decide +kernel
theorem dX7_digest_76 : decode cX7_digest 76 = .ok (.aload_n 0, 1) := by decide +kernel
theorem dX7_digest_77 : decode cX7_digest 77 = .ok (.lload_n 1, 1) := by decide +kernel
theorem dX7_digest_78 : decode cX7_digest 78 = .ok (.invokevirtual 253, 3) := by decide +kernel
theorem dX7_digest_81 : decode cX7_digest 81 = .ok (.lstore_n 1, 1) := by decide +kernel
theorem dX7_digest_82 : decode cX7_digest 82 = .ok (.lload_n 1, 1) := by decide +kernel
theorem dX7_digest_83 : decode cX7_digest 83 = .ok (.aload_n 0, 1) := by decide +kernel
theorem dX7_digest_84 : decode cX7_digest 84 = .ok (.getfield 40, 3) := by decide +kernel
theorem dX7_digest_87 : decode cX7_digest 87 = .ok (.invokevirtual 192, 3) := by decide +kernel
theorem dX7_digest_90 : decode cX7_digest 90 = .ok (.i2l, 1) := by decide +kernel
theorem dX7_digest_91 : decode cX7_digest 91 = .ok (.invokestatic 242, 3) := by decide +kernel
theorem dX7_digest_94 : decode cX7_digest 94 = .ok (.lstore_n 1, 1) := by decide +kernel
theorem dX7_digest_95 : decode cX7_digest 95 = .ok (.lload_n 1, 1) := by decide +kernel
theorem dX7_digest_96 : decode cX7_digest 96 = .ok (.aload_n 0, 1) := by decide +kernel
theorem dX7_digest_97 : decode cX7_digest 97 = .ok (.getfield 19, 3) := by decide +kernel
theorem dX7_digest_100 : decode cX7_digest 100 = .ok (.getfield 234, 3) := by decide +kernel
theorem dX7_digest_103 : decode cX7_digest 103 = .ok (.i2l, 1) := by decide +kernel
theorem dX7_digest_104 : decode cX7_digest 104 = .ok (.invokestatic 242, 3) := by decide +kernel
theorem dX7_digest_107 : decode cX7_digest 107 = .ok (.lreturn, 1) := by decide +kernel
theorem dX7_settle_0 : decode cX7_settle 0 = .ok (.aload_n 0, 1) := by decide +kernel
theorem dX7_settle_1 : decode cX7_settle 1 = .ok (.getfield 33, 3) := by decide +kernel
theorem dX7_settle_4 : decode cX7_settle 4 = .ok (.aload_n 0, 1) := by decide +kernel
theorem dX7_settle_5 : decode cX7_settle 5 = .ok (.getfield 10, 3) := by decide +kernel
theorem dX7_settle_8 : decode cX7_settle 8 = .ok (.aload_n 0, 1) := by decide +kernel
theorem dX7_settle_9 : decode cX7_settle 9 = .ok (.getfield 10, 3) := by decide +kernel
theorem dX7_settle_12 : decode cX7_settle 12 = .ok (.getfield 106, 3) := by decide +kernel
theorem dX7_settle_15 : decode cX7_settle 15 = .ok (.invokevirtual 210, 3) := by decide +kernel
theorem dX7_settle_18 : decode cX7_settle 18 = .ok (.aload_n 0, 1) := by decide +kernel
theorem dX7_settle_19 : decode cX7_settle 19 = .ok (.getfield 40, 3) := by decide +kernel
theorem dX7_settle_22 : decode cX7_settle 22 = .ok (.aload_n 0, 1) := by decide +kernel
theorem dX7_settle_23 : decode cX7_settle 23 = .ok (.getfield 10, 3) := by decide +kernel
theorem dX7_settle_26 : decode cX7_settle 26 = .ok (.getfield 72, 3) := by decide +kernel
theorem dX7_settle_29 : decode cX7_settle 29 = .ok (.invokevirtual 195, 3) := by decide +kernel
theorem dX7_settle_32 : decode cX7_settle 32 = .ok (.aload_n 0, 1) := by decide +kernel
theorem dX7_settle_33 : decode cX7_settle 33 = .ok (.getfield 40, 3) := by decide +kernel
theorem dX7_settle_36 : decode cX7_settle 36 = .ok (.aload_n 0, 1) := by decide +kernel
theorem dX7_settle_37 : decode cX7_settle 37 = .ok (.getfield 10, 3) := by decide +kernel
theorem dX7_settle_40 : decode cX7_settle 40 = .ok (.getfield 72, 3) := by decide +kernel
theorem dX7_settle_43 : decode cX7_settle 43 = .ok (.invokevirtual 199, 3) := by decide +kernel
theorem dX7_settle_46 : decode cX7_settle 46 = .ok (.return_, 1) := by decide +kernel
theorem dX7_requireNode_0 : decode cX7_requireNode 0 = .ok (.iload_n 1, 1) := by decide +kernel
theorem dX7_requireNode_1 : decode cX7_requireNode 1 = .ok (.ifCond .lt 17, 3) := by decide +kernel
theorem dX7_requireNode_4 : decode cX7_requireNode 4 = .ok (.iload_n 1, 1) := by decide +kernel
theorem dX7_requireNode_5 : decode cX7_requireNode 5 = .ok (.aload_n 0, 1) := by decide +kernel
theorem dX7_requireNode_6 : decode cX7_requireNode 6 = .ok (.getfield 10, 3) := by decide +kernel
theorem dX7_requireNode_9 : decode cX7_requireNode 9 = .ok (.getfield 72, 3) := by decide +kernel
theorem dX7_requireNode_12 : decode cX7_requireNode 12 = .ok (.getfield 75, 3) := by decide +kernel
theorem dX7_requireNode_15 : decode cX7_requireNode 15 = .ok (.if_icmp .lt 14, 3) := by decide +kernel
theorem dX7_requireNode_18 : decode cX7_requireNode 18 = .ok (.new 256, 3) := by decide +kernel
theorem dX7_requireNode_21 : decode cX7_requireNode 21 = .ok (.dup, 1) := by decide +kernel
theorem dX7_requireNode_22 : decode cX7_requireNode 22 = .ok (.ldc_w 258, 3) := by decide +kernel
theorem dX7_requireNode_25 : decode cX7_requireNode 25 = .ok (.invokespecial 260, 3) := by decide +kernel
theorem dX7_requireNode_28 : decode cX7_requireNode 28 = .ok (.athrow, 1) := by decide +kernel
theorem dX7_requireNode_29 : decode cX7_requireNode 29 = .ok (.return_, 1) := by decide +kernel
theorem dX7_requirePipe_0 : decode cX7_requirePipe 0 = .ok (.iload_n 1, 1) := by decide +kernel
theorem dX7_requirePipe_1 : decode cX7_requirePipe 1 = .ok (.iconst 1, 1) := by decide +kernel
theorem dX7_requirePipe_2 : decode cX7_requirePipe 2 = .ok (.if_icmp .lt 17, 3) := by decide +kernel
theorem dX7_requirePipe_5 : decode cX7_requirePipe 5 = .ok (.iload_n 1, 1) := by decide +kernel
theorem dX7_requirePipe_6 : decode cX7_requirePipe 6 = .ok (.aload_n 0, 1) := by decide +kernel
theorem dX7_requirePipe_7 : decode cX7_requirePipe 7 = .ok (.getfield 10, 3) := by decide +kernel
theorem dX7_requirePipe_10 : decode cX7_requirePipe 10 = .ok (.getfield 72, 3) := by decide +kernel
theorem dX7_requirePipe_13 : decode cX7_requirePipe 13 = .ok (.getfield 75, 3) := by decide +kernel
theorem dX7_requirePipe_16 : decode cX7_requirePipe 16 = .ok (.if_icmp .lt 14, 3) := by decide +kernel
theorem dX7_requirePipe_19 : decode cX7_requirePipe 19 = .ok (.new 256, 3) := by decide +kernel
theorem dX7_requirePipe_22 : decode cX7_requirePipe 22 = .ok (.dup, 1) := by decide +kernel
theorem dX7_requirePipe_23 : decode cX7_requirePipe 23 = .ok (.ldc_w 261, 3) := by decide +kernel
theorem dX7_requirePipe_26 : decode cX7_requirePipe 26 = .ok (.invokespecial 260, 3) := by decide +kernel
theorem dX7_requirePipe_29 : decode cX7_requirePipe 29 = .ok (.athrow, 1) := by decide +kernel
theorem dX7_requirePipe_30 : decode cX7_requirePipe 30 = .ok (.return_, 1) := by decide +kernel
theorem dX7_requireBoiler_0 : decode cX7_requireBoiler 0 = .ok (.iload_n 1, 1) := by decide +kernel
theorem dX7_requireBoiler_1 : decode cX7_requireBoiler 1 = .ok (.ifCond .lt 17, 3) := by decide +kernel
theorem dX7_requireBoiler_4 : decode cX7_requireBoiler 4 = .ok (.iload_n 1, 1) := by decide +kernel
theorem dX7_requireBoiler_5 : decode cX7_requireBoiler 5 = .ok (.aload_n 0, 1) := by decide +kernel
theorem dX7_requireBoiler_6 : decode cX7_requireBoiler 6 = .ok (.getfield 10, 3) := by decide +kernel
theorem dX7_requireBoiler_9 : decode cX7_requireBoiler 9 = .ok (.getfield 127, 3) := by decide +kernel
theorem dX7_requireBoiler_12 : decode cX7_requireBoiler 12 = .ok (.getfield 131, 3) := by decide +kernel
theorem dX7_requireBoiler_15 : decode cX7_requireBoiler 15 = .ok (.if_icmp .lt 14, 3) := by decide +kernel
theorem dX7_requireBoiler_18 : decode cX7_requireBoiler 18 = .ok (.new 256, 3) := by decide +kernel
theorem dX7_requireBoiler_21 : decode cX7_requireBoiler 21 = .ok (.dup, 1) := by decide +kernel
theorem dX7_requireBoiler_22 : decode cX7_requireBoiler 22 = .ok (.ldc_w 263, 3) := by decide +kernel
theorem dX7_requireBoiler_25 : decode cX7_requireBoiler 25 = .ok (.invokespecial 260, 3) := by decide +kernel
theorem dX7_requireBoiler_28 : decode cX7_requireBoiler 28 = .ok (.athrow, 1) := by decide +kernel
theorem dX7_requireBoiler_29 : decode cX7_requireBoiler 29 = .ok (.return_, 1) := by decide +kernel
theorem dX7_requireWithin_0 : decode cX7_requireWithin 0 = .ok (.iload_n 0, 1) := by decide +kernel
theorem dX7_requireWithin_1 : decode cX7_requireWithin 1 = .ok (.iload_n 1, 1) := by decide +kernel
theorem dX7_requireWithin_2 : decode cX7_requireWithin 2 = .ok (.if_icmp .lt 8, 3) := by decide +kernel
theorem dX7_requireWithin_5 : decode cX7_requireWithin 5 = .ok (.iload_n 0, 1) := by decide +kernel
theorem dX7_requireWithin_6 : decode cX7_requireWithin 6 = .ok (.iload_n 2, 1) := by decide +kernel
theorem dX7_requireWithin_7 : decode cX7_requireWithin 7 = .ok (.if_icmp .le 14, 3) := by decide +kernel
theorem dX7_requireWithin_10 : decode cX7_requireWithin 10 = .ok (.new 265, 3) := by decide +kernel
theorem dX7_requireWithin_13 : decode cX7_requireWithin 13 = .ok (.dup, 1) := by decide +kernel
theorem dX7_requireWithin_14 : decode cX7_requireWithin 14 = .ok (.ldc_w 267, 3) := by decide +kernel
theorem dX7_requireWithin_17 : decode cX7_requireWithin 17 = .ok (.invokespecial 269, 3) := by decide +kernel
theorem dX7_requireWithin_20 : decode cX7_requireWithin 20 = .ok (.athrow, 1) := by decide +kernel
theorem dX7_requireWithin_21 : decode cX7_requireWithin 21 = .ok (.return_, 1) := by decide +kernel
theorem dX7_nodeFact_0 : decode cX7_nodeFact 0 = .ok (.aload_n 0, 1) := by decide +kernel
theorem dX7_nodeFact_1 : decode cX7_nodeFact 1 = .ok (.getfield 10, 3) := by decide +kernel
theorem dX7_nodeFact_4 : decode cX7_nodeFact 4 = .ok (.getfield 72, 3) := by decide +kernel
theorem dX7_nodeFact_7 : decode cX7_nodeFact 7 = .ok (.astore_n 3, 1) := by decide +kernel
theorem dX7_nodeFact_8 : decode cX7_nodeFact 8 = .ok (.iload_n 2, 1) := by decide +kernel
theorem dX7_nodeFact_9 : decode cX7_nodeFact 9 = .ok (.tableswitch 151 0 10 #[59, 66, 73, 80, 87, 94, 101, 111, 121, 139, 145], 59) := by decide +kernel
theorem dX7_nodeFact_68 : decode cX7_nodeFact 68 = .ok (.aload_n 3, 1) := by decide +kernel
theorem dX7_nodeFact_69 : decode cX7_nodeFact 69 = .ok (.getfield 270, 3) := by decide +kernel
theorem dX7_nodeFact_72 : decode cX7_nodeFact 72 = .ok (.iload_n 1, 1) := by decide +kernel
theorem dX7_nodeFact_73 : decode cX7_nodeFact 73 = .ok (.iaload, 1) := by decide +kernel
theorem dX7_nodeFact_74 : decode cX7_nodeFact 74 = .ok (.ireturn, 1) := by decide +kernel
theorem dX7_nodeFact_75 : decode cX7_nodeFact 75 = .ok (.aload_n 3, 1) := by decide +kernel
theorem dX7_nodeFact_76 : decode cX7_nodeFact 76 = .ok (.getfield 273, 3) := by decide +kernel
theorem dX7_nodeFact_79 : decode cX7_nodeFact 79 = .ok (.iload_n 1, 1) := by decide +kernel
theorem dX7_nodeFact_80 : decode cX7_nodeFact 80 = .ok (.iaload, 1) := by decide +kernel
theorem dX7_nodeFact_81 : decode cX7_nodeFact 81 = .ok (.ireturn, 1) := by decide +kernel
theorem dX7_nodeFact_82 : decode cX7_nodeFact 82 = .ok (.aload_n 3, 1) := by decide +kernel
theorem dX7_nodeFact_83 : decode cX7_nodeFact 83 = .ok (.getfield 275, 3) := by decide +kernel
theorem dX7_nodeFact_86 : decode cX7_nodeFact 86 = .ok (.iload_n 1, 1) := by decide +kernel
theorem dX7_nodeFact_87 : decode cX7_nodeFact 87 = .ok (.iaload, 1) := by decide +kernel
theorem dX7_nodeFact_88 : decode cX7_nodeFact 88 = .ok (.ireturn, 1) := by decide +kernel
theorem dX7_nodeFact_89 : decode cX7_nodeFact 89 = .ok (.aload_n 3, 1) := by decide +kernel
theorem dX7_nodeFact_90 : decode cX7_nodeFact 90 = .ok (.getfield 97, 3) := by decide +kernel
theorem dX7_nodeFact_93 : decode cX7_nodeFact 93 = .ok (.iload_n 1, 1) := by decide +kernel
theorem dX7_nodeFact_94 : decode cX7_nodeFact 94 = .ok (.iaload, 1) := by decide +kernel
theorem dX7_nodeFact_95 : decode cX7_nodeFact 95 = .ok (.ireturn, 1) := by decide +kernel
theorem dX7_nodeFact_96 : decode cX7_nodeFact 96 = .ok (.aload_n 3, 1) := by decide +kernel
theorem dX7_nodeFact_97 : decode cX7_nodeFact 97 = .ok (.getfield 100, 3) := by decide +kernel
theorem dX7_nodeFact_100 : decode cX7_nodeFact 100 = .ok (.iload_n 1, 1) := by decide +kernel
theorem dX7_nodeFact_101 : decode cX7_nodeFact 101 = .ok (.iaload, 1) := by decide +kernel
theorem dX7_nodeFact_102 : decode cX7_nodeFact 102 = .ok (.ireturn, 1) := by decide +kernel
theorem dX7_nodeFact_103 : decode cX7_nodeFact 103 = .ok (.aload_n 3, 1) := by decide +kernel
theorem dX7_nodeFact_104 : decode cX7_nodeFact 104 = .ok (.getfield 103, 3) := by decide +kernel
theorem dX7_nodeFact_107 : decode cX7_nodeFact 107 = .ok (.iload_n 1, 1) := by decide +kernel
theorem dX7_nodeFact_108 : decode cX7_nodeFact 108 = .ok (.iaload, 1) := by decide +kernel
theorem dX7_nodeFact_109 : decode cX7_nodeFact 109 = .ok (.ireturn, 1) := by decide +kernel
theorem dX7_nodeFact_110 : decode cX7_nodeFact 110 = .ok (.aload_n 0, 1) := by decide +kernel
theorem dX7_nodeFact_111 : decode cX7_nodeFact 111 = .ok (.getfield 33, 3) := by decide +kernel
theorem dX7_nodeFact_114 : decode cX7_nodeFact 114 = .ok (.getfield 216, 3) := by decide +kernel
theorem dX7_nodeFact_117 : decode cX7_nodeFact 117 = .ok (.iload_n 1, 1) := by decide +kernel
theorem dX7_nodeFact_118 : decode cX7_nodeFact 118 = .ok (.iaload, 1) := by decide +kernel
theorem dX7_nodeFact_119 : decode cX7_nodeFact 119 = .ok (.ireturn, 1) := by decide +kernel
theorem dX7_nodeFact_120 : decode cX7_nodeFact 120 = .ok (.aload_n 0, 1) := by decide +kernel
theorem dX7_nodeFact_121 : decode cX7_nodeFact 121 = .ok (.getfield 33, 3) := by decide +kernel
theorem dX7_nodeFact_124 : decode cX7_nodeFact 124 = .ok (.getfield 278, 3) := by decide +kernel
theorem dX7_nodeFact_127 : decode cX7_nodeFact 127 = .ok (.iload_n 1, 1) := by decide +kernel
theorem dX7_nodeFact_128 : decode cX7_nodeFact 128 = .ok (.iaload, 1) := by decide +kernel
theorem dX7_nodeFact_129 : decode cX7_nodeFact 129 = .ok (.ireturn, 1) := by decide +kernel
theorem dX7_nodeFact_130 : decode cX7_nodeFact 130 = .ok (.iload_n 1, 1) := by decide +kernel
theorem dX7_nodeFact_131 : decode cX7_nodeFact 131 = .ok (.ifCond .ne 7, 3) := by decide +kernel
theorem dX7_nodeFact_134 : decode cX7_nodeFact 134 = .ok (.iconst (-1), 1) := by decide +kernel
theorem dX7_nodeFact_135 : decode cX7_nodeFact 135 = .ok (.goto 12, 3) := by decide +kernel
theorem dX7_nodeFact_138 : decode cX7_nodeFact 138 = .ok (.aload_n 0, 1) := by decide +kernel
theorem dX7_nodeFact_139 : decode cX7_nodeFact 139 = .ok (.getfield 33, 3) := by decide +kernel
theorem dX7_nodeFact_142 : decode cX7_nodeFact 142 = .ok (.aload_n 3, 1) := by decide +kernel
theorem dX7_nodeFact_143 : decode cX7_nodeFact 143 = .ok (.iload_n 1, 1) := by decide +kernel
theorem dX7_nodeFact_144 : decode cX7_nodeFact 144 = .ok (.invokevirtual 281, 3) := by decide +kernel
theorem dX7_nodeFact_147 : decode cX7_nodeFact 147 = .ok (.ireturn, 1) := by decide +kernel
theorem dX7_nodeFact_148 : decode cX7_nodeFact 148 = .ok (.aload_n 3, 1) := by decide +kernel
theorem dX7_nodeFact_149 : decode cX7_nodeFact 149 = .ok (.iload_n 1, 1) := by decide +kernel
theorem dX7_nodeFact_150 : decode cX7_nodeFact 150 = .ok (.invokevirtual 285, 3) := by decide +kernel
theorem dX7_nodeFact_153 : decode cX7_nodeFact 153 = .ok (.ireturn, 1) := by decide +kernel
theorem dX7_nodeFact_154 : decode cX7_nodeFact 154 = .ok (.aload_n 3, 1) := by decide +kernel
theorem dX7_nodeFact_155 : decode cX7_nodeFact 155 = .ok (.iload_n 1, 1) := by decide +kernel
theorem dX7_nodeFact_156 : decode cX7_nodeFact 156 = .ok (.invokevirtual 288, 3) := by decide +kernel
theorem dX7_nodeFact_159 : decode cX7_nodeFact 159 = .ok (.ireturn, 1) := by decide +kernel
theorem dX7_nodeFact_160 : decode cX7_nodeFact 160 = .ok (.aload_n 3, 1) := by decide +kernel
theorem dX7_nodeFact_161 : decode cX7_nodeFact 161 = .ok (.getfield 163, 3) := by decide +kernel
theorem dX7_nodeFact_164 : decode cX7_nodeFact 164 = .ok (.iload_n 1, 1) := by decide +kernel
theorem dX7_nodeFact_165 : decode cX7_nodeFact 165 = .ok (.iaload, 1) := by decide +kernel
theorem dX7_nodeFact_166 : decode cX7_nodeFact 166 = .ok (.ireturn, 1) := by decide +kernel
theorem dX7_heatOf_0 : decode cX7_heatOf 0 = .ok (.aload_n 0, 1) := by decide +kernel
theorem dX7_heatOf_1 : decode cX7_heatOf 1 = .ok (.getfield 10, 3) := by decide +kernel
theorem dX7_heatOf_4 : decode cX7_heatOf 4 = .ok (.getfield 72, 3) := by decide +kernel
theorem dX7_heatOf_7 : decode cX7_heatOf 7 = .ok (.astore_n 3, 1) := by decide +kernel
theorem dX7_heatOf_8 : decode cX7_heatOf 8 = .ok (.iload_n 2, 1) := by decide +kernel
theorem dX7_heatOf_9 : decode cX7_heatOf 9 = .ok (.tableswitch 139 0 4 #[35, 62, 92, 109, 119], 35) := by decide +kernel
theorem dX7_heatOf_44 : decode cX7_heatOf 44 = .ok (.aload_n 3, 1) := by decide +kernel
theorem dX7_heatOf_45 : decode cX7_heatOf 45 = .ok (.getfield 97, 3) := by decide +kernel
theorem dX7_heatOf_48 : decode cX7_heatOf 48 = .ok (.iload_n 1, 1) := by decide +kernel
theorem dX7_heatOf_49 : decode cX7_heatOf 49 = .ok (.iaload, 1) := by decide +kernel
theorem dX7_heatOf_50 : decode cX7_heatOf 50 = .ok (.aload_n 0, 1) := by decide +kernel
theorem dX7_heatOf_51 : decode cX7_heatOf 51 = .ok (.getfield 33, 3) := by decide +kernel
theorem dX7_heatOf_54 : decode cX7_heatOf 54 = .ok (.getfield 278, 3) := by decide +kernel
theorem dX7_heatOf_57 : decode cX7_heatOf 57 = .ok (.iload_n 1, 1) := by decide +kernel
theorem dX7_heatOf_58 : decode cX7_heatOf 58 = .ok (.iaload, 1) := by decide +kernel
theorem dX7_heatOf_59 : decode cX7_heatOf 59 = .ok (.aload_n 0, 1) := by decide +kernel
theorem dX7_heatOf_60 : decode cX7_heatOf 60 = .ok (.getfield 33, 3) := by decide +kernel
theorem dX7_heatOf_63 : decode cX7_heatOf 63 = .ok (.aload_n 3, 1) := by decide +kernel
theorem dX7_heatOf_64 : decode cX7_heatOf 64 = .ok (.iload_n 1, 1) := by decide +kernel
theorem dX7_heatOf_65 : decode cX7_heatOf 65 = .ok (.invokevirtual 281, 3) := by decide +kernel
theorem dX7_heatOf_68 : decode cX7_heatOf 68 = .ok (.isub, 1) := by decide +kernel
theorem dX7_heatOf_69 : decode cX7_heatOf 69 = .ok (.imul, 1) := by decide +kernel
theorem dX7_heatOf_70 : decode cX7_heatOf 70 = .ok (.ireturn, 1) := by decide +kernel
theorem dX7_heatOf_71 : decode cX7_heatOf 71 = .ok (.aload_n 0, 1) := by decide +kernel
theorem dX7_heatOf_72 : decode cX7_heatOf 72 = .ok (.getfield 33, 3) := by decide +kernel
theorem dX7_heatOf_75 : decode cX7_heatOf 75 = .ok (.getfield 216, 3) := by decide +kernel
theorem dX7_heatOf_78 : decode cX7_heatOf 78 = .ok (.iload_n 1, 1) := by decide +kernel
theorem dX7_heatOf_79 : decode cX7_heatOf 79 = .ok (.iaload, 1) := by decide +kernel
theorem dX7_heatOf_80 : decode cX7_heatOf 80 = .ok (.aload_n 0, 1) := by decide +kernel
theorem dX7_heatOf_81 : decode cX7_heatOf 81 = .ok (.getfield 33, 3) := by decide +kernel
theorem dX7_heatOf_84 : decode cX7_heatOf 84 = .ok (.aload_n 3, 1) := by decide +kernel
theorem dX7_heatOf_85 : decode cX7_heatOf 85 = .ok (.iload_n 1, 1) := by decide +kernel
theorem dX7_heatOf_86 : decode cX7_heatOf 86 = .ok (.invokevirtual 291, 3) := by decide +kernel
theorem dX7_heatOf_89 : decode cX7_heatOf 89 = .ok (.aload_n 0, 1) := by decide +kernel
theorem dX7_heatOf_90 : decode cX7_heatOf 90 = .ok (.getfield 33, 3) := by decide +kernel
theorem dX7_heatOf_93 : decode cX7_heatOf 93 = .ok (.getfield 278, 3) := by decide +kernel
theorem dX7_heatOf_96 : decode cX7_heatOf 96 = .ok (.iload_n 1, 1) := by decide +kernel
theorem dX7_heatOf_97 : decode cX7_heatOf 97 = .ok (.iaload, 1) := by decide +kernel
theorem dX7_heatOf_98 : decode cX7_heatOf 98 = .ok (.isub, 1) := by decide +kernel
theorem dX7_heatOf_99 : decode cX7_heatOf 99 = .ok (.imul, 1) := by decide +kernel
theorem dX7_heatOf_100 : decode cX7_heatOf 100 = .ok (.ireturn, 1) := by decide +kernel
theorem dX7_heatOf_101 : decode cX7_heatOf 101 = .ok (.aload_n 3, 1) := by decide +kernel
theorem dX7_heatOf_102 : decode cX7_heatOf 102 = .ok (.getfield 103, 3) := by decide +kernel
theorem dX7_heatOf_105 : decode cX7_heatOf 105 = .ok (.iload_n 1, 1) := by decide +kernel
theorem dX7_heatOf_106 : decode cX7_heatOf 106 = .ok (.iaload, 1) := by decide +kernel
theorem dX7_heatOf_107 : decode cX7_heatOf 107 = .ok (.aload_n 0, 1) := by decide +kernel
theorem dX7_heatOf_108 : decode cX7_heatOf 108 = .ok (.getfield 33, 3) := by decide +kernel
theorem dX7_heatOf_111 : decode cX7_heatOf 111 = .ok (.getfield 278, 3) := by decide +kernel
theorem dX7_heatOf_114 : decode cX7_heatOf 114 = .ok (.iload_n 1, 1) := by decide +kernel
theorem dX7_heatOf_115 : decode cX7_heatOf 115 = .ok (.iaload, 1) := by decide +kernel
theorem dX7_heatOf_116 : decode cX7_heatOf 116 = .ok (.imul, 1) := by decide +kernel
theorem dX7_heatOf_117 : decode cX7_heatOf 117 = .ok (.ireturn, 1) := by decide +kernel
theorem dX7_heatOf_118 : decode cX7_heatOf 118 = .ok (.aload_n 0, 1) := by decide +kernel
theorem dX7_heatOf_119 : decode cX7_heatOf 119 = .ok (.getfield 33, 3) := by decide +kernel
theorem dX7_heatOf_122 : decode cX7_heatOf 122 = .ok (.getfield 294, 3) := by decide +kernel
theorem dX7_heatOf_125 : decode cX7_heatOf 125 = .ok (.iload_n 1, 1) := by decide +kernel
theorem dX7_heatOf_126 : decode cX7_heatOf 126 = .ok (.iaload, 1) := by decide +kernel
theorem dX7_heatOf_127 : decode cX7_heatOf 127 = .ok (.ireturn, 1) := by decide +kernel
theorem dX7_heatOf_128 : decode cX7_heatOf 128 = .ok (.aload_n 0, 1) := by decide +kernel
theorem dX7_heatOf_129 : decode cX7_heatOf 129 = .ok (.getfield 33, 3) := by decide +kernel
theorem dX7_heatOf_132 : decode cX7_heatOf 132 = .ok (.getfield 216, 3) := by decide +kernel
theorem dX7_heatOf_135 : decode cX7_heatOf 135 = .ok (.iload_n 1, 1) := by decide +kernel
theorem dX7_heatOf_136 : decode cX7_heatOf 136 = .ok (.iaload, 1) := by decide +kernel
theorem dX7_heatOf_137 : decode cX7_heatOf 137 = .ok (.aload_n 0, 1) := by decide +kernel
theorem dX7_heatOf_138 : decode cX7_heatOf 138 = .ok (.getfield 33, 3) := by decide +kernel
theorem dX7_heatOf_141 : decode cX7_heatOf 141 = .ok (.aload_n 3, 1) := by decide +kernel
theorem dX7_heatOf_142 : decode cX7_heatOf 142 = .ok (.iload_n 1, 1) := by decide +kernel
theorem dX7_heatOf_143 : decode cX7_heatOf 143 = .ok (.invokevirtual 291, 3) := by decide +kernel
theorem dX7_heatOf_146 : decode cX7_heatOf 146 = .ok (.imul, 1) := by decide +kernel
theorem dX7_heatOf_147 : decode cX7_heatOf 147 = .ok (.ireturn, 1) := by decide +kernel
theorem dX7_heatOf_148 : decode cX7_heatOf 148 = .ok (.aload_n 0, 1) := by decide +kernel
theorem dX7_heatOf_149 : decode cX7_heatOf 149 = .ok (.iload_n 1, 1) := by decide +kernel
theorem dX7_heatOf_150 : decode cX7_heatOf 150 = .ok (.invokevirtual 166, 3) := by decide +kernel
theorem dX7_heatOf_153 : decode cX7_heatOf 153 = .ok (.ireturn, 1) := by decide +kernel
theorem dX7_billOf_0 : decode cX7_billOf 0 = .ok (.aload_n 0, 1) := by decide +kernel
theorem dX7_billOf_1 : decode cX7_billOf 1 = .ok (.getfield 33, 3) := by decide +kernel
theorem dX7_billOf_4 : decode cX7_billOf 4 = .ok (.aload_n 0, 1) := by decide +kernel
theorem dX7_billOf_5 : decode cX7_billOf 5 = .ok (.getfield 10, 3) := by decide +kernel
theorem dX7_billOf_8 : decode cX7_billOf 8 = .ok (.getfield 72, 3) := by decide +kernel
theorem dX7_billOf_11 : decode cX7_billOf 11 = .ok (.iload_n 1, 1) := by decide +kernel
theorem dX7_billOf_12 : decode cX7_billOf 12 = .ok (.invokevirtual 281, 3) := by decide +kernel
theorem dX7_billOf_15 : decode cX7_billOf 15 = .ok (.aload_n 0, 1) := by decide +kernel
theorem dX7_billOf_16 : decode cX7_billOf 16 = .ok (.getfield 10, 3) := by decide +kernel
theorem dX7_billOf_19 : decode cX7_billOf 19 = .ok (.getfield 152, 3) := by decide +kernel
theorem dX7_billOf_22 : decode cX7_billOf 22 = .ok (.isub, 1) := by decide +kernel
theorem dX7_billOf_23 : decode cX7_billOf 23 = .ok (.istore_n 2, 1) := by decide +kernel
theorem dX7_billOf_24 : decode cX7_billOf 24 = .ok (.aload_n 0, 1) := by decide +kernel
theorem dX7_billOf_25 : decode cX7_billOf 25 = .ok (.iload_n 1, 1) := by decide +kernel
theorem dX7_billOf_26 : decode cX7_billOf 26 = .ok (.iconst 0, 1) := by decide +kernel
theorem dX7_billOf_27 : decode cX7_billOf 27 = .ok (.invokevirtual 116, 3) := by decide +kernel
theorem dX7_billOf_30 : decode cX7_billOf 30 = .ok (.aload_n 0, 1) := by decide +kernel
theorem dX7_billOf_31 : decode cX7_billOf 31 = .ok (.getfield 10, 3) := by decide +kernel
theorem dX7_billOf_34 : decode cX7_billOf 34 = .ok (.getfield 149, 3) := by decide +kernel
theorem dX7_billOf_37 : decode cX7_billOf 37 = .ok (.imul, 1) := by decide +kernel
theorem dX7_billOf_38 : decode cX7_billOf 38 = .ok (.sipush 1000, 3) := by decide +kernel
theorem dX7_billOf_41 : decode cX7_billOf 41 = .ok (.idiv, 1) := by decide +kernel
theorem dX7_billOf_42 : decode cX7_billOf 42 = .ok (.aload_n 0, 1) := by decide +kernel
theorem dX7_billOf_43 : decode cX7_billOf 43 = .ok (.getfield 10, 3) := by decide +kernel
theorem dX7_billOf_46 : decode cX7_billOf 46 = .ok (.getfield 72, 3) := by decide +kernel
theorem dX7_billOf_49 : decode cX7_billOf 49 = .ok (.getfield 97, 3) := by decide +kernel
theorem dX7_billOf_52 : decode cX7_billOf 52 = .ok (.iload_n 1, 1) := by decide +kernel
theorem dX7_billOf_53 : decode cX7_billOf 53 = .ok (.iaload, 1) := by decide +kernel
theorem dX7_billOf_54 : decode cX7_billOf 54 = .ok (.iload_n 2, 1) := by decide +kernel
theorem dX7_billOf_55 : decode cX7_billOf 55 = .ok (.imul, 1) := by decide +kernel
theorem dX7_billOf_56 : decode cX7_billOf 56 = .ok (.aload_n 0, 1) := by decide +kernel
theorem dX7_billOf_57 : decode cX7_billOf 57 = .ok (.getfield 10, 3) := by decide +kernel
theorem dX7_billOf_60 : decode cX7_billOf 60 = .ok (.getfield 155, 3) := by decide +kernel
theorem dX7_billOf_63 : decode cX7_billOf 63 = .ok (.imul, 1) := by decide +kernel
theorem dX7_billOf_64 : decode cX7_billOf 64 = .ok (.sipush 1000, 3) := by decide +kernel
theorem dX7_billOf_67 : decode cX7_billOf 67 = .ok (.idiv, 1) := by decide +kernel
theorem dX7_billOf_68 : decode cX7_billOf 68 = .ok (.iadd, 1) := by decide +kernel
theorem dX7_billOf_69 : decode cX7_billOf 69 = .ok (.ireturn, 1) := by decide +kernel
theorem dX7_number_0 : decode cX7_number 0 = .ok (.iload_n 1, 1) := by decide +kernel
theorem dX7_number_1 : decode cX7_number 1 = .ok (.tableswitch 194 0 13 #[71, 79, 87, 95, 103, 111, 122, 133, 141, 149, 157, 165, 173, 184], 71) := by decide +kernel
theorem dX7_number_72 : decode cX7_number 72 = .ok (.aload_n 0, 1) := by decide +kernel
theorem dX7_number_73 : decode cX7_number 73 = .ok (.getfield 10, 3) := by decide +kernel
theorem dX7_number_76 : decode cX7_number 76 = .ok (.getfield 106, 3) := by decide +kernel
theorem dX7_number_79 : decode cX7_number 79 = .ok (.ireturn, 1) := by decide +kernel
theorem dX7_number_80 : decode cX7_number 80 = .ok (.aload_n 0, 1) := by decide +kernel
theorem dX7_number_81 : decode cX7_number 81 = .ok (.getfield 10, 3) := by decide +kernel
theorem dX7_number_84 : decode cX7_number 84 = .ok (.getfield 109, 3) := by decide +kernel
theorem dX7_number_87 : decode cX7_number 87 = .ok (.ireturn, 1) := by decide +kernel
theorem dX7_number_88 : decode cX7_number 88 = .ok (.aload_n 0, 1) := by decide +kernel
theorem dX7_number_89 : decode cX7_number 89 = .ok (.getfield 10, 3) := by decide +kernel
theorem dX7_number_92 : decode cX7_number 92 = .ok (.getfield 149, 3) := by decide +kernel
theorem dX7_number_95 : decode cX7_number 95 = .ok (.ireturn, 1) := by decide +kernel
theorem dX7_number_96 : decode cX7_number 96 = .ok (.aload_n 0, 1) := by decide +kernel
theorem dX7_number_97 : decode cX7_number 97 = .ok (.getfield 10, 3) := by decide +kernel
theorem dX7_number_100 : decode cX7_number 100 = .ok (.getfield 152, 3) := by decide +kernel
theorem dX7_number_103 : decode cX7_number 103 = .ok (.ireturn, 1) := by decide +kernel
theorem dX7_number_104 : decode cX7_number 104 = .ok (.aload_n 0, 1) := by decide +kernel
theorem dX7_number_105 : decode cX7_number 105 = .ok (.getfield 10, 3) := by decide +kernel
theorem dX7_number_108 : decode cX7_number 108 = .ok (.getfield 155, 3) := by decide +kernel
theorem dX7_number_111 : decode cX7_number 111 = .ok (.ireturn, 1) := by decide +kernel
theorem dX7_number_112 : decode cX7_number 112 = .ok (.aload_n 0, 1) := by decide +kernel
theorem dX7_number_113 : decode cX7_number 113 = .ok (.getfield 10, 3) := by decide +kernel
theorem dX7_number_116 : decode cX7_number 116 = .ok (.getfield 72, 3) := by decide +kernel
theorem dX7_number_119 : decode cX7_number 119 = .ok (.getfield 75, 3) := by decide +kernel
theorem dX7_number_122 : decode cX7_number 122 = .ok (.ireturn, 1) := by decide +kernel
theorem dX7_number_123 : decode cX7_number 123 = .ok (.aload_n 0, 1) := by decide +kernel
theorem dX7_number_124 : decode cX7_number 124 = .ok (.getfield 10, 3) := by decide +kernel
theorem dX7_number_127 : decode cX7_number 127 = .ok (.getfield 127, 3) := by decide +kernel
theorem dX7_number_130 : decode cX7_number 130 = .ok (.getfield 131, 3) := by decide +kernel
theorem dX7_number_133 : decode cX7_number 133 = .ok (.ireturn, 1) := by decide +kernel
theorem dX7_number_134 : decode cX7_number 134 = .ok (.aload_n 0, 1) := by decide +kernel
theorem dX7_number_135 : decode cX7_number 135 = .ok (.getfield 33, 3) := by decide +kernel
theorem dX7_number_138 : decode cX7_number 138 = .ok (.getfield 297, 3) := by decide +kernel
theorem dX7_number_141 : decode cX7_number 141 = .ok (.ireturn, 1) := by decide +kernel
theorem dX7_number_142 : decode cX7_number 142 = .ok (.aload_n 0, 1) := by decide +kernel
theorem dX7_number_143 : decode cX7_number 143 = .ok (.getfield 33, 3) := by decide +kernel
theorem dX7_number_146 : decode cX7_number 146 = .ok (.getfield 213, 3) := by decide +kernel
theorem dX7_number_149 : decode cX7_number 149 = .ok (.ireturn, 1) := by decide +kernel
theorem dX7_number_150 : decode cX7_number 150 = .ok (.aload_n 0, 1) := by decide +kernel
theorem dX7_number_151 : decode cX7_number 151 = .ok (.getfield 33, 3) := by decide +kernel
theorem dX7_number_154 : decode cX7_number 154 = .ok (.getfield 172, 3) := by decide +kernel
theorem dX7_number_157 : decode cX7_number 157 = .ok (.ireturn, 1) := by decide +kernel
theorem dX7_number_158 : decode cX7_number 158 = .ok (.aload_n 0, 1) := by decide +kernel
theorem dX7_number_159 : decode cX7_number 159 = .ok (.getfield 10, 3) := by decide +kernel
theorem dX7_number_162 : decode cX7_number 162 = .ok (.getfield 169, 3) := by decide +kernel
theorem dX7_number_165 : decode cX7_number 165 = .ok (.ireturn, 1) := by decide +kernel
theorem dX7_number_166 : decode cX7_number 166 = .ok (.aload_n 0, 1) := by decide +kernel
theorem dX7_number_167 : decode cX7_number 167 = .ok (.getfield 10, 3) := by decide +kernel
theorem dX7_number_170 : decode cX7_number 170 = .ok (.getfield 158, 3) := by decide +kernel
theorem dX7_number_173 : decode cX7_number 173 = .ok (.ireturn, 1) := by decide +kernel
theorem dX7_number_174 : decode cX7_number 174 = .ok (.aload_n 0, 1) := by decide +kernel
theorem dX7_number_175 : decode cX7_number 175 = .ok (.getfield 10, 3) := by decide +kernel
theorem dX7_number_178 : decode cX7_number 178 = .ok (.getfield 72, 3) := by decide +kernel
theorem dX7_number_181 : decode cX7_number 181 = .ok (.invokevirtual 300, 3) := by decide +kernel
theorem dX7_number_184 : decode cX7_number 184 = .ok (.ireturn, 1) := by decide +kernel
theorem dX7_number_185 : decode cX7_number 185 = .ok (.aload_n 0, 1) := by decide +kernel
theorem dX7_number_186 : decode cX7_number 186 = .ok (.getfield 33, 3) := by decide +kernel
theorem dX7_number_189 : decode cX7_number 189 = .ok (.getfield 294, 3) := by decide +kernel
theorem dX7_number_192 : decode cX7_number 192 = .ok (.iconst 0, 1) := by decide +kernel
theorem dX7_number_193 : decode cX7_number 193 = .ok (.iaload, 1) := by decide +kernel
theorem dX7_number_194 : decode cX7_number 194 = .ok (.ireturn, 1) := by decide +kernel
theorem dX7_number_195 : decode cX7_number 195 = .ok (.aload_n 0, 1) := by decide +kernel
theorem dX7_number_196 : decode cX7_number 196 = .ok (.getfield 10, 3) := by decide +kernel
theorem dX7_number_199 : decode cX7_number 199 = .ok (.getfield 72, 3) := by decide +kernel
theorem dX7_number_202 : decode cX7_number 202 = .ok (.invokevirtual 176, 3) := by decide +kernel
theorem dX7_number_205 : decode cX7_number 205 = .ok (.ireturn, 1) := by decide +kernel
theorem dX7_sumOfHeats_0 : decode cX7_sumOfHeats 0 = .ok (.iconst 0, 1) := by decide +kernel
theorem dX7_sumOfHeats_1 : decode cX7_sumOfHeats 1 = .ok (.istore_n 2, 1) := by decide +kernel
theorem dX7_sumOfHeats_2 : decode cX7_sumOfHeats 2 = .ok (.iconst 1, 1) := by decide +kernel
theorem dX7_sumOfHeats_3 : decode cX7_sumOfHeats 3 = .ok (.istore_n 3, 1) := by decide +kernel
theorem dX7_sumOfHeats_4 : decode cX7_sumOfHeats 4 = .ok (.iload_n 3, 1) := by decide +kernel
theorem dX7_sumOfHeats_5 : decode cX7_sumOfHeats 5 = .ok (.aload_n 0, 1) := by decide +kernel
theorem dX7_sumOfHeats_6 : decode cX7_sumOfHeats 6 = .ok (.getfield 10, 3) := by decide +kernel
theorem dX7_sumOfHeats_9 : decode cX7_sumOfHeats 9 = .ok (.getfield 72, 3) := by decide +kernel
theorem dX7_sumOfHeats_12 : decode cX7_sumOfHeats 12 = .ok (.getfield 75, 3) := by decide +kernel
theorem dX7_sumOfHeats_15 : decode cX7_sumOfHeats 15 = .ok (.if_icmp .ge 18, 3) := by decide +kernel
theorem dX7_sumOfHeats_18 : decode cX7_sumOfHeats 18 = .ok (.iload_n 2, 1) := by decide +kernel
theorem dX7_sumOfHeats_19 : decode cX7_sumOfHeats 19 = .ok (.aload_n 0, 1) := by decide +kernel
theorem dX7_sumOfHeats_20 : decode cX7_sumOfHeats 20 = .ok (.iload_n 3, 1) := by decide +kernel
theorem dX7_sumOfHeats_21 : decode cX7_sumOfHeats 21 = .ok (.iload_n 1, 1) := by decide +kernel
theorem dX7_sumOfHeats_22 : decode cX7_sumOfHeats 22 = .ok (.invokevirtual 116, 3) := by decide +kernel
theorem dX7_sumOfHeats_25 : decode cX7_sumOfHeats 25 = .ok (.iadd, 1) := by decide +kernel
theorem dX7_sumOfHeats_26 : decode cX7_sumOfHeats 26 = .ok (.istore_n 2, 1) := by decide +kernel
theorem dX7_sumOfHeats_27 : decode cX7_sumOfHeats 27 = .ok (.iinc 3 1, 3) := by decide +kernel
theorem dX7_sumOfHeats_30 : decode cX7_sumOfHeats 30 = .ok (.goto (-26), 3) := by decide +kernel
theorem dX7_sumOfHeats_33 : decode cX7_sumOfHeats 33 = .ok (.iload_n 2, 1) := by decide +kernel
theorem dX7_sumOfHeats_34 : decode cX7_sumOfHeats 34 = .ok (.ireturn, 1) := by decide +kernel
theorem dX7_boilerFact_0 : decode cX7_boilerFact 0 = .ok (.aload_n 0, 1) := by decide +kernel
theorem dX7_boilerFact_1 : decode cX7_boilerFact 1 = .ok (.getfield 10, 3) := by decide +kernel
theorem dX7_boilerFact_4 : decode cX7_boilerFact 4 = .ok (.getfield 127, 3) := by decide +kernel
theorem dX7_boilerFact_7 : decode cX7_boilerFact 7 = .ok (.astore_n 3, 1) := by decide +kernel
theorem dX7_boilerFact_8 : decode cX7_boilerFact 8 = .ok (.iload_n 2, 1) := by decide +kernel
theorem dX7_boilerFact_9 : decode cX7_boilerFact 9 = .ok (.tableswitch 62 0 3 #[31, 38, 45, 52], 31) := by decide +kernel
theorem dX7_boilerFact_40 : decode cX7_boilerFact 40 = .ok (.aload_n 3, 1) := by decide +kernel
theorem dX7_boilerFact_41 : decode cX7_boilerFact 41 = .ok (.getfield 303, 3) := by decide +kernel
theorem dX7_boilerFact_44 : decode cX7_boilerFact 44 = .ok (.iload_n 1, 1) := by decide +kernel
theorem dX7_boilerFact_45 : decode cX7_boilerFact 45 = .ok (.iaload, 1) := by decide +kernel
theorem dX7_boilerFact_46 : decode cX7_boilerFact 46 = .ok (.ireturn, 1) := by decide +kernel
theorem dX7_boilerFact_47 : decode cX7_boilerFact 47 = .ok (.aload_n 3, 1) := by decide +kernel
theorem dX7_boilerFact_48 : decode cX7_boilerFact 48 = .ok (.getfield 306, 3) := by decide +kernel
theorem dX7_boilerFact_51 : decode cX7_boilerFact 51 = .ok (.iload_n 1, 1) := by decide +kernel
theorem dX7_boilerFact_52 : decode cX7_boilerFact 52 = .ok (.iaload, 1) := by decide +kernel
theorem dX7_boilerFact_53 : decode cX7_boilerFact 53 = .ok (.ireturn, 1) := by decide +kernel
theorem dX7_boilerFact_54 : decode cX7_boilerFact 54 = .ok (.aload_n 3, 1) := by decide +kernel
theorem dX7_boilerFact_55 : decode cX7_boilerFact 55 = .ok (.getfield 143, 3) := by decide +kernel
theorem dX7_boilerFact_58 : decode cX7_boilerFact 58 = .ok (.iload_n 1, 1) := by decide +kernel
theorem dX7_boilerFact_59 : decode cX7_boilerFact 59 = .ok (.iaload, 1) := by decide +kernel
theorem dX7_boilerFact_60 : decode cX7_boilerFact 60 = .ok (.ireturn, 1) := by decide +kernel
theorem dX7_boilerFact_61 : decode cX7_boilerFact 61 = .ok (.aload_n 0, 1) := by decide +kernel
theorem dX7_boilerFact_62 : decode cX7_boilerFact 62 = .ok (.getfield 33, 3) := by decide +kernel
theorem dX7_boilerFact_65 : decode cX7_boilerFact 65 = .ok (.getfield 309, 3) := by decide +kernel
theorem dX7_boilerFact_68 : decode cX7_boilerFact 68 = .ok (.iload_n 1, 1) := by decide +kernel
theorem dX7_boilerFact_69 : decode cX7_boilerFact 69 = .ok (.iaload, 1) := by decide +kernel
theorem dX7_boilerFact_70 : decode cX7_boilerFact 70 = .ok (.ireturn, 1) := by decide +kernel
theorem dX7_boilerFact_71 : decode cX7_boilerFact 71 = .ok (.aload_n 3, 1) := by decide +kernel
theorem dX7_boilerFact_72 : decode cX7_boilerFact 72 = .ok (.iload_n 1, 1) := by decide +kernel
theorem dX7_boilerFact_73 : decode cX7_boilerFact 73 = .ok (.invokevirtual 312, 3) := by decide +kernel
theorem dX7_boilerFact_76 : decode cX7_boilerFact 76 = .ok (.ireturn, 1) := by decide +kernel
theorem dX7_lowestSupplyForWishes_0 : decode cX7_lowestSupplyForWishes 0 = .ok (.aload_n 0, 1) := by decide +kernel
theorem dX7_lowestSupplyForWishes_1 : decode cX7_lowestSupplyForWishes 1 = .ok (.getfield 44, 3) := by decide +kernel
theorem dX7_lowestSupplyForWishes_4 : decode cX7_lowestSupplyForWishes 4 = .ok (.aload_n 0, 1) := by decide +kernel
theorem dX7_lowestSupplyForWishes_5 : decode cX7_lowestSupplyForWishes 5 = .ok (.getfield 10, 3) := by decide +kernel
theorem dX7_lowestSupplyForWishes_8 : decode cX7_lowestSupplyForWishes 8 = .ok (.getfield 72, 3) := by decide +kernel
theorem dX7_lowestSupplyForWishes_11 : decode cX7_lowestSupplyForWishes 11 = .ok (.invokevirtual 315, 3) := by decide +kernel
theorem dX7_lowestSupplyForWishes_14 : decode cX7_lowestSupplyForWishes 14 = .ok (.sipush 399, 3) := by decide +kernel
theorem dX7_lowestSupplyForWishes_17 : decode cX7_lowestSupplyForWishes 17 = .ok (.istore_n 1, 1) := by decide +kernel
theorem dX7_lowestSupplyForWishes_18 : decode cX7_lowestSupplyForWishes 18 = .ok (.sipush 512, 3) := by decide +kernel
theorem dX7_lowestSupplyForWishes_21 : decode cX7_lowestSupplyForWishes 21 = .ok (.istore_n 2, 1) := by decide +kernel
theorem dX7_lowestSupplyForWishes_22 : decode cX7_lowestSupplyForWishes 22 = .ok (.iload_n 2, 1) := by decide +kernel
theorem dX7_lowestSupplyForWishes_23 : decode cX7_lowestSupplyForWishes 23 = .ok (.ifCond .le 31, 3) := by decide +kernel
theorem dX7_lowestSupplyForWishes_26 : decode cX7_lowestSupplyForWishes 26 = .ok (.iload_n 1, 1) := by decide +kernel
theorem dX7_lowestSupplyForWishes_27 : decode cX7_lowestSupplyForWishes 27 = .ok (.iload_n 2, 1) := by decide +kernel
theorem dX7_lowestSupplyForWishes_28 : decode cX7_lowestSupplyForWishes 28 = .ok (.iadd, 1) := by decide +kernel
theorem dX7_lowestSupplyForWishes_29 : decode cX7_lowestSupplyForWishes 29 = .ok (.istore_n 3, 1) := by decide +kernel
theorem dX7_lowestSupplyForWishes_30 : decode cX7_lowestSupplyForWishes 30 = .ok (.iload_n 3, 1) := by decide +kernel
theorem dX7_lowestSupplyForWishes_31 : decode cX7_lowestSupplyForWishes 31 = .ok (.sipush 1200, 3) := by decide +kernel
theorem dX7_lowestSupplyForWishes_34 : decode cX7_lowestSupplyForWishes 34 = .ok (.if_icmp .gt 13, 3) := by decide +kernel
theorem dX7_lowestSupplyForWishes_37 : decode cX7_lowestSupplyForWishes 37 = .ok (.aload_n 0, 1) := by decide +kernel
theorem dX7_lowestSupplyForWishes_38 : decode cX7_lowestSupplyForWishes 38 = .ok (.iload_n 3, 1) := by decide +kernel
theorem dX7_lowestSupplyForWishes_39 : decode cX7_lowestSupplyForWishes 39 = .ok (.invokevirtual 318, 3) := by decide +kernel
theorem dX7_lowestSupplyForWishes_42 : decode cX7_lowestSupplyForWishes 42 = .ok (.ifCond .ne 5, 3) := by decide +kernel
theorem dX7_lowestSupplyForWishes_45 : decode cX7_lowestSupplyForWishes 45 = .ok (.iload_n 3, 1) := by decide +kernel
theorem dX7_lowestSupplyForWishes_46 : decode cX7_lowestSupplyForWishes 46 = .ok (.istore_n 1, 1) := by decide +kernel
theorem dX7_lowestSupplyForWishes_47 : decode cX7_lowestSupplyForWishes 47 = .ok (.iload_n 2, 1) := by decide +kernel
theorem dX7_lowestSupplyForWishes_48 : decode cX7_lowestSupplyForWishes 48 = .ok (.iconst 2, 1) := by decide +kernel
theorem dX7_lowestSupplyForWishes_49 : decode cX7_lowestSupplyForWishes 49 = .ok (.idiv, 1) := by decide +kernel
theorem dX7_lowestSupplyForWishes_50 : decode cX7_lowestSupplyForWishes 50 = .ok (.istore_n 2, 1) := by decide +kernel
theorem dX7_lowestSupplyForWishes_51 : decode cX7_lowestSupplyForWishes 51 = .ok (.goto (-29), 3) := by decide +kernel
theorem dX7_lowestSupplyForWishes_54 : decode cX7_lowestSupplyForWishes 54 = .ok (.iload_n 1, 1) := by decide +kernel
theorem dX7_lowestSupplyForWishes_55 : decode cX7_lowestSupplyForWishes 55 = .ok (.sipush 1200, 3) := by decide +kernel
theorem dX7_lowestSupplyForWishes_58 : decode cX7_lowestSupplyForWishes 58 = .ok (.if_icmp .ge 9, 3) := by decide +kernel
theorem dX7_lowestSupplyForWishes_61 : decode cX7_lowestSupplyForWishes 61 = .ok (.iload_n 1, 1) := by decide +kernel
theorem dX7_lowestSupplyForWishes_62 : decode cX7_lowestSupplyForWishes 62 = .ok (.iconst 1, 1) := by decide +kernel
theorem dX7_lowestSupplyForWishes_63 : decode cX7_lowestSupplyForWishes 63 = .ok (.iadd, 1) := by decide +kernel
theorem dX7_lowestSupplyForWishes_64 : decode cX7_lowestSupplyForWishes 64 = .ok (.goto 4, 3) := by decide +kernel
theorem dX7_lowestSupplyForWishes_67 : decode cX7_lowestSupplyForWishes 67 = .ok (.iconst (-1), 1) := by decide +kernel
theorem dX7_lowestSupplyForWishes_68 : decode cX7_lowestSupplyForWishes 68 = .ok (.ireturn, 1) := by decide +kernel
theorem dX7_grantsWishes_0 : decode cX7_grantsWishes 0 = .ok (.aload_n 0, 1) := by decide +kernel
theorem dX7_grantsWishes_1 : decode cX7_grantsWishes 1 = .ok (.getfield 44, 3) := by decide +kernel
theorem dX7_grantsWishes_4 : decode cX7_grantsWishes 4 = .ok (.aload_n 0, 1) := by decide +kernel
theorem dX7_grantsWishes_5 : decode cX7_grantsWishes 5 = .ok (.getfield 10, 3) := by decide +kernel
theorem dX7_grantsWishes_8 : decode cX7_grantsWishes 8 = .ok (.iload_n 1, 1) := by decide +kernel
theorem dX7_grantsWishes_9 : decode cX7_grantsWishes 9 = .ok (.invokevirtual 322, 3) := by decide +kernel
theorem dX7_grantsWishes_12 : decode cX7_grantsWishes 12 = .ok (.iconst 1, 1) := by decide +kernel
theorem dX7_grantsWishes_13 : decode cX7_grantsWishes 13 = .ok (.istore_n 2, 1) := by decide +kernel
theorem dX7_grantsWishes_14 : decode cX7_grantsWishes 14 = .ok (.iload_n 2, 1) := by decide +kernel
theorem dX7_grantsWishes_15 : decode cX7_grantsWishes 15 = .ok (.aload_n 0, 1) := by decide +kernel
theorem dX7_grantsWishes_16 : decode cX7_grantsWishes 16 = .ok (.getfield 10, 3) := by decide +kernel
theorem dX7_grantsWishes_19 : decode cX7_grantsWishes 19 = .ok (.getfield 72, 3) := by decide +kernel
theorem dX7_grantsWishes_22 : decode cX7_grantsWishes 22 = .ok (.getfield 75, 3) := by decide +kernel
theorem dX7_grantsWishes_25 : decode cX7_grantsWishes 25 = .ok (.if_icmp .ge 29, 3) := by decide +kernel
theorem dX7_grantsWishes_28 : decode cX7_grantsWishes 28 = .ok (.aload_n 0, 1) := by decide +kernel
theorem dX7_grantsWishes_29 : decode cX7_grantsWishes 29 = .ok (.getfield 44, 3) := by decide +kernel
theorem dX7_grantsWishes_32 : decode cX7_grantsWishes 32 = .ok (.getfield 278, 3) := by decide +kernel
theorem dX7_grantsWishes_35 : decode cX7_grantsWishes 35 = .ok (.iload_n 2, 1) := by decide +kernel
theorem dX7_grantsWishes_36 : decode cX7_grantsWishes 36 = .ok (.iaload, 1) := by decide +kernel
theorem dX7_grantsWishes_37 : decode cX7_grantsWishes 37 = .ok (.aload_n 0, 1) := by decide +kernel
theorem dX7_grantsWishes_38 : decode cX7_grantsWishes 38 = .ok (.getfield 57, 3) := by decide +kernel
theorem dX7_grantsWishes_41 : decode cX7_grantsWishes 41 = .ok (.iload_n 2, 1) := by decide +kernel
theorem dX7_grantsWishes_42 : decode cX7_grantsWishes 42 = .ok (.iaload, 1) := by decide +kernel
theorem dX7_grantsWishes_43 : decode cX7_grantsWishes 43 = .ok (.if_icmp .ge 5, 3) := by decide +kernel
theorem dX7_grantsWishes_46 : decode cX7_grantsWishes 46 = .ok (.iconst 0, 1) := by decide +kernel
theorem dX7_grantsWishes_47 : decode cX7_grantsWishes 47 = .ok (.ireturn, 1) := by decide +kernel
theorem dX7_grantsWishes_48 : decode cX7_grantsWishes 48 = .ok (.iinc 2 1, 3) := by decide +kernel
theorem dX7_grantsWishes_51 : decode cX7_grantsWishes 51 = .ok (.goto (-37), 3) := by decide +kernel
theorem dX7_grantsWishes_54 : decode cX7_grantsWishes 54 = .ok (.iconst 1, 1) := by decide +kernel
theorem dX7_grantsWishes_55 : decode cX7_grantsWishes 55 = .ok (.ireturn, 1) := by decide +kernel
theorem dX7_fold_0 : decode cX7_fold 0 = .ok (.ldc2_w 325, 3) := by decide +kernel
theorem dX7_fold_3 : decode cX7_fold 3 = .ok (.lload_n 0, 1) := by decide +kernel
theorem dX7_fold_4 : decode cX7_fold 4 = .ok (.lmul, 1) := by decide +kernel
theorem dX7_fold_5 : decode cX7_fold 5 = .ok (.lload_n 2, 1) := by decide +kernel
theorem dX7_fold_6 : decode cX7_fold 6 = .ok (.ladd, 1) := by decide +kernel
theorem dX7_fold_7 : decode cX7_fold 7 = .ok (.lreturn, 1) := by decide +kernel
theorem dX7_foldNodes_0 : decode cX7_foldNodes 0 = .ok (.lload_n 1, 1) := by decide +kernel
theorem dX7_foldNodes_1 : decode cX7_foldNodes 1 = .ok (.lstore_n 3, 1) := by decide +kernel
theorem dX7_foldNodes_2 : decode cX7_foldNodes 2 = .ok (.iconst 0, 1) := by decide +kernel
theorem dX7_foldNodes_3 : decode cX7_foldNodes 3 = .ok (.istore 5, 2) := by decide +kernel
theorem dX7_foldNodes_5 : decode cX7_foldNodes 5 = .ok (.iload 5, 2) := by decide +kernel
theorem dX7_foldNodes_7 : decode cX7_foldNodes 7 = .ok (.aload_n 0, 1) := by decide +kernel
theorem dX7_foldNodes_8 : decode cX7_foldNodes 8 = .ok (.getfield 10, 3) := by decide +kernel
theorem dX7_foldNodes_11 : decode cX7_foldNodes 11 = .ok (.getfield 72, 3) := by decide +kernel
theorem dX7_foldNodes_14 : decode cX7_foldNodes 14 = .ok (.getfield 75, 3) := by decide +kernel
theorem dX7_foldNodes_17 : decode cX7_foldNodes 17 = .ok (.if_icmp .ge 84, 3) := by decide +kernel
theorem dX7_foldNodes_20 : decode cX7_foldNodes 20 = .ok (.iconst 0, 1) := by decide +kernel
theorem dX7_foldNodes_21 : decode cX7_foldNodes 21 = .ok (.istore 6, 2) := by decide +kernel
theorem dX7_foldNodes_23 : decode cX7_foldNodes 23 = .ok (.iload 6, 2) := by decide +kernel
theorem dX7_foldNodes_25 : decode cX7_foldNodes 25 = .ok (.bipush 11, 2) := by decide +kernel
theorem dX7_foldNodes_27 : decode cX7_foldNodes 27 = .ok (.if_icmp .gt 23, 3) := by decide +kernel
theorem dX7_foldNodes_30 : decode cX7_foldNodes 30 = .ok (.lload_n 3, 1) := by decide +kernel
theorem dX7_foldNodes_31 : decode cX7_foldNodes 31 = .ok (.aload_n 0, 1) := by decide +kernel
theorem dX7_foldNodes_32 : decode cX7_foldNodes 32 = .ok (.iload 5, 2) := by decide +kernel
theorem dX7_foldNodes_34 : decode cX7_foldNodes 34 = .ok (.iload 6, 2) := by decide +kernel
theorem dX7_foldNodes_36 : decode cX7_foldNodes 36 = .ok (.invokevirtual 112, 3) := by decide +kernel
theorem dX7_foldNodes_39 : decode cX7_foldNodes 39 = .ok (.i2l, 1) := by decide +kernel
theorem dX7_foldNodes_40 : decode cX7_foldNodes 40 = .ok (.invokestatic 242, 3) := by decide +kernel
theorem dX7_foldNodes_43 : decode cX7_foldNodes 43 = .ok (.lstore_n 3, 1) := by decide +kernel
theorem dX7_foldNodes_44 : decode cX7_foldNodes 44 = .ok (.iinc 6 1, 3) := by decide +kernel
theorem dX7_foldNodes_47 : decode cX7_foldNodes 47 = .ok (.goto (-24), 3) := by decide +kernel
theorem dX7_foldNodes_50 : decode cX7_foldNodes 50 = .ok (.lload_n 3, 1) := by decide +kernel
theorem dX7_foldNodes_51 : decode cX7_foldNodes 51 = .ok (.aload_n 0, 1) := by decide +kernel
theorem dX7_foldNodes_52 : decode cX7_foldNodes 52 = .ok (.getfield 40, 3) := by decide +kernel
theorem dX7_foldNodes_55 : decode cX7_foldNodes 55 = .ok (.iload 5, 2) := by decide +kernel
theorem dX7_foldNodes_57 : decode cX7_foldNodes 57 = .ok (.invokevirtual 180, 3) := by decide +kernel
theorem dX7_foldNodes_60 : decode cX7_foldNodes 60 = .ok (.i2l, 1) := by decide +kernel
theorem dX7_foldNodes_61 : decode cX7_foldNodes 61 = .ok (.invokestatic 242, 3) := by decide +kernel
theorem dX7_foldNodes_64 : decode cX7_foldNodes 64 = .ok (.lstore_n 3, 1) := by decide +kernel
theorem dX7_foldNodes_65 : decode cX7_foldNodes 65 = .ok (.lload_n 3, 1) := by decide +kernel
theorem dX7_foldNodes_66 : decode cX7_foldNodes 66 = .ok (.aload_n 0, 1) := by decide +kernel
theorem dX7_foldNodes_67 : decode cX7_foldNodes 67 = .ok (.getfield 40, 3) := by decide +kernel
theorem dX7_foldNodes_70 : decode cX7_foldNodes 70 = .ok (.iload 5, 2) := by decide +kernel
theorem dX7_foldNodes_72 : decode cX7_foldNodes 72 = .ok (.invokevirtual 183, 3) := by decide +kernel
theorem dX7_foldNodes_75 : decode cX7_foldNodes 75 = .ok (.i2l, 1) := by decide +kernel
theorem dX7_foldNodes_76 : decode cX7_foldNodes 76 = .ok (.invokestatic 242, 3) := by decide +kernel
theorem dX7_foldNodes_79 : decode cX7_foldNodes 79 = .ok (.lstore_n 3, 1) := by decide +kernel
theorem dX7_foldNodes_80 : decode cX7_foldNodes 80 = .ok (.lload_n 3, 1) := by decide +kernel
theorem dX7_foldNodes_81 : decode cX7_foldNodes 81 = .ok (.aload_n 0, 1) := by decide +kernel
theorem dX7_foldNodes_82 : decode cX7_foldNodes 82 = .ok (.getfield 40, 3) := by decide +kernel
theorem dX7_foldNodes_85 : decode cX7_foldNodes 85 = .ok (.iload 5, 2) := by decide +kernel
theorem dX7_foldNodes_87 : decode cX7_foldNodes 87 = .ok (.invokevirtual 189, 3) := by decide +kernel
theorem dX7_foldNodes_90 : decode cX7_foldNodes 90 = .ok (.i2l, 1) := by decide +kernel
theorem dX7_foldNodes_91 : decode cX7_foldNodes 91 = .ok (.invokestatic 242, 3) := by decide +kernel
theorem dX7_foldNodes_94 : decode cX7_foldNodes 94 = .ok (.lstore_n 3, 1) := by decide +kernel
theorem dX7_foldNodes_95 : decode cX7_foldNodes 95 = .ok (.iinc 5 1, 3) := by decide +kernel
theorem dX7_foldNodes_98 : decode cX7_foldNodes 98 = .ok (.goto (-93), 3) := by decide +kernel
theorem dX7_foldNodes_101 : decode cX7_foldNodes 101 = .ok (.lload_n 3, 1) := by decide +kernel
theorem dX7_foldNodes_102 : decode cX7_foldNodes 102 = .ok (.lreturn, 1) := by decide +kernel
theorem dX7_foldHeats_0 : decode cX7_foldHeats 0 = .ok (.lload_n 1, 1) := by decide +kernel
theorem dX7_foldHeats_1 : decode cX7_foldHeats 1 = .ok (.lstore_n 3, 1) := by decide +kernel
theorem dX7_foldHeats_2 : decode cX7_foldHeats 2 = .ok (.iconst 1, 1) := by decide +kernel
theorem dX7_foldHeats_3 : decode cX7_foldHeats 3 = .ok (.istore 5, 2) := by decide +kernel
theorem dX7_foldHeats_5 : decode cX7_foldHeats 5 = .ok (.iload 5, 2) := by decide +kernel
theorem dX7_foldHeats_7 : decode cX7_foldHeats 7 = .ok (.aload_n 0, 1) := by decide +kernel
theorem dX7_foldHeats_8 : decode cX7_foldHeats 8 = .ok (.getfield 10, 3) := by decide +kernel
theorem dX7_foldHeats_11 : decode cX7_foldHeats 11 = .ok (.getfield 72, 3) := by decide +kernel
theorem dX7_foldHeats_14 : decode cX7_foldHeats 14 = .ok (.getfield 75, 3) := by decide +kernel
theorem dX7_foldHeats_17 : decode cX7_foldHeats 17 = .ok (.if_icmp .ge 38, 3) := by decide +kernel
theorem dX7_foldHeats_20 : decode cX7_foldHeats 20 = .ok (.iconst 0, 1) := by decide +kernel
theorem dX7_foldHeats_21 : decode cX7_foldHeats 21 = .ok (.istore 6, 2) := by decide +kernel
theorem dX7_foldHeats_23 : decode cX7_foldHeats 23 = .ok (.iload 6, 2) := by decide +kernel
theorem dX7_foldHeats_25 : decode cX7_foldHeats 25 = .ok (.iconst 5, 1) := by decide +kernel
theorem dX7_foldHeats_26 : decode cX7_foldHeats 26 = .ok (.if_icmp .gt 23, 3) := by decide +kernel
theorem dX7_foldHeats_29 : decode cX7_foldHeats 29 = .ok (.lload_n 3, 1) := by decide +kernel
theorem dX7_foldHeats_30 : decode cX7_foldHeats 30 = .ok (.aload_n 0, 1) := by decide +kernel
theorem dX7_foldHeats_31 : decode cX7_foldHeats 31 = .ok (.iload 5, 2) := by decide +kernel
theorem dX7_foldHeats_33 : decode cX7_foldHeats 33 = .ok (.iload 6, 2) := by decide +kernel
theorem dX7_foldHeats_35 : decode cX7_foldHeats 35 = .ok (.invokevirtual 116, 3) := by decide +kernel
theorem dX7_foldHeats_38 : decode cX7_foldHeats 38 = .ok (.i2l, 1) := by decide +kernel
theorem dX7_foldHeats_39 : decode cX7_foldHeats 39 = .ok (.invokestatic 242, 3) := by decide +kernel
theorem dX7_foldHeats_42 : decode cX7_foldHeats 42 = .ok (.lstore_n 3, 1) := by decide +kernel
theorem dX7_foldHeats_43 : decode cX7_foldHeats 43 = .ok (.iinc 6 1, 3) := by decide +kernel
theorem dX7_foldHeats_46 : decode cX7_foldHeats 46 = .ok (.goto (-23), 3) := by decide +kernel
theorem dX7_foldHeats_49 : decode cX7_foldHeats 49 = .ok (.iinc 5 1, 3) := by decide +kernel
theorem dX7_foldHeats_52 : decode cX7_foldHeats 52 = .ok (.goto (-47), 3) := by decide +kernel
theorem dX7_foldHeats_55 : decode cX7_foldHeats 55 = .ok (.lload_n 3, 1) := by decide +kernel
theorem dX7_foldHeats_56 : decode cX7_foldHeats 56 = .ok (.lreturn, 1) := by decide +kernel
theorem dX7_foldBoilers_0 : decode cX7_foldBoilers 0 = .ok (.lload_n 1, 1) := by decide +kernel
theorem dX7_foldBoilers_1 : decode cX7_foldBoilers 1 = .ok (.lstore_n 3, 1) := by decide +kernel
theorem dX7_foldBoilers_2 : decode cX7_foldBoilers 2 = .ok (.iconst 0, 1) := by decide +kernel
theorem dX7_foldBoilers_3 : decode cX7_foldBoilers 3 = .ok (.istore 5, 2) := by decide +kernel
theorem dX7_foldBoilers_5 : decode cX7_foldBoilers 5 = .ok (.iload 5, 2) := by decide +kernel
theorem dX7_foldBoilers_7 : decode cX7_foldBoilers 7 = .ok (.aload_n 0, 1) := by decide +kernel
theorem dX7_foldBoilers_8 : decode cX7_foldBoilers 8 = .ok (.getfield 10, 3) := by decide +kernel
theorem dX7_foldBoilers_11 : decode cX7_foldBoilers 11 = .ok (.getfield 127, 3) := by decide +kernel
theorem dX7_foldBoilers_14 : decode cX7_foldBoilers 14 = .ok (.getfield 131, 3) := by decide +kernel
theorem dX7_foldBoilers_17 : decode cX7_foldBoilers 17 = .ok (.if_icmp .ge 38, 3) := by decide +kernel
theorem dX7_foldBoilers_20 : decode cX7_foldBoilers 20 = .ok (.iconst 0, 1) := by decide +kernel
theorem dX7_foldBoilers_21 : decode cX7_foldBoilers 21 = .ok (.istore 6, 2) := by decide +kernel
theorem dX7_foldBoilers_23 : decode cX7_foldBoilers 23 = .ok (.iload 6, 2) := by decide +kernel
theorem dX7_foldBoilers_25 : decode cX7_foldBoilers 25 = .ok (.iconst 4, 1) := by decide +kernel
theorem dX7_foldBoilers_26 : decode cX7_foldBoilers 26 = .ok (.if_icmp .gt 23, 3) := by decide +kernel
theorem dX7_foldBoilers_29 : decode cX7_foldBoilers 29 = .ok (.lload_n 3, 1) := by decide +kernel
theorem dX7_foldBoilers_30 : decode cX7_foldBoilers 30 = .ok (.aload_n 0, 1) := by decide +kernel
theorem dX7_foldBoilers_31 : decode cX7_foldBoilers 31 = .ok (.iload 5, 2) := by decide +kernel
theorem dX7_foldBoilers_33 : decode cX7_foldBoilers 33 = .ok (.iload 6, 2) := by decide +kernel
theorem dX7_foldBoilers_35 : decode cX7_foldBoilers 35 = .ok (.invokevirtual 146, 3) := by decide +kernel
theorem dX7_foldBoilers_38 : decode cX7_foldBoilers 38 = .ok (.i2l, 1) := by decide +kernel
theorem dX7_foldBoilers_39 : decode cX7_foldBoilers 39 = .ok (.invokestatic 242, 3) := by decide +kernel
theorem dX7_foldBoilers_42 : decode cX7_foldBoilers 42 = .ok (.lstore_n 3, 1) := by decide +kernel
theorem dX7_foldBoilers_43 : decode cX7_foldBoilers 43 = .ok (.iinc 6 1, 3) := by decide +kernel
theorem dX7_foldBoilers_46 : decode cX7_foldBoilers 46 = .ok (.goto (-23), 3) := by decide +kernel
theorem dX7_foldBoilers_49 : decode cX7_foldBoilers 49 = .ok (.iinc 5 1, 3) := by decide +kernel
theorem dX7_foldBoilers_52 : decode cX7_foldBoilers 52 = .ok (.goto (-47), 3) := by decide +kernel
theorem dX7_foldBoilers_55 : decode cX7_foldBoilers 55 = .ok (.lload_n 3, 1) := by decide +kernel
theorem dX7_foldBoilers_56 : decode cX7_foldBoilers 56 = .ok (.lreturn, 1) := by decide +kernel
theorem dX7_copyRow_0 : decode cX7_copyRow 0 = .ok (.aload_n 0, 1) := by decide +kernel
theorem dX7_copyRow_1 : decode cX7_copyRow 1 = .ok (.iconst 0, 1) := by decide +kernel
theorem dX7_copyRow_2 : decode cX7_copyRow 2 = .ok (.aload_n 1, 1) := by decide +kernel
theorem dX7_copyRow_3 : decode cX7_copyRow 3 = .ok (.iconst 0, 1) := by decide +kernel
theorem dX7_copyRow_4 : decode cX7_copyRow 4 = .ok (.aload_n 0, 1) := by decide +kernel
theorem dX7_copyRow_5 : decode cX7_copyRow 5 = .ok (.arraylength, 1) := by decide +kernel
theorem dX7_copyRow_6 : decode cX7_copyRow 6 = .ok (.aload_n 1, 1) := by decide +kernel
theorem dX7_copyRow_7 : decode cX7_copyRow 7 = .ok (.arraylength, 1) := by decide +kernel
theorem dX7_copyRow_8 : decode cX7_copyRow 8 = .ok (.invokestatic 327, 3) := by decide +kernel
theorem dX7_copyRow_11 : decode cX7_copyRow 11 = .ok (.invokestatic 332, 3) := by decide +kernel
theorem dX7_copyRow_14 : decode cX7_copyRow 14 = .ok (.return_, 1) := by decide +kernel
theorem dX8_init_0 : decode cX8_init 0 = .ok (.aload_n 0, 1) := by decide +kernel
theorem dX8_init_1 : decode cX8_init 1 = .ok (.invokespecial 1, 3) := by decide +kernel
theorem dX8_init_4 : decode cX8_init 4 = .ok (.aload_n 0, 1) := by decide +kernel
theorem dX8_init_5 : decode cX8_init 5 = .ok (.sipush 149, 3) := by decide +kernel
theorem dX8_init_8 : decode cX8_init 8 = .ok (.newarray .int, 2) := by decide +kernel
theorem dX8_init_10 : decode cX8_init 10 = .ok (.putfield 7, 3) := by decide +kernel
theorem dX8_init_13 : decode cX8_init 13 = .ok (.aload_n 0, 1) := by decide +kernel
theorem dX8_init_14 : decode cX8_init 14 = .ok (.sipush 596, 3) := by decide +kernel
theorem dX8_init_17 : decode cX8_init 17 = .ok (.newarray .int, 2) := by decide +kernel
theorem dX8_init_19 : decode cX8_init 19 = .ok (.putfield 13, 3) := by decide +kernel
theorem dX8_init_22 : decode cX8_init 22 = .ok (.aload_n 0, 1) := by decide +kernel
theorem dX8_init_23 : decode cX8_init 23 = .ok (.sipush 149, 3) := by decide +kernel
theorem dX8_init_26 : decode cX8_init 26 = .ok (.newarray .int, 2) := by decide +kernel
theorem dX8_init_28 : decode cX8_init 28 = .ok (.putfield 16, 3) := by decide +kernel
theorem dX8_init_31 : decode cX8_init 31 = .ok (.aload_n 0, 1) := by decide +kernel
theorem dX8_init_32 : decode cX8_init 32 = .ok (.sipush 180, 3) := by decide +kernel
theorem dX8_init_35 : decode cX8_init 35 = .ok (.newarray .int, 2) := by decide +kernel
theorem dX8_init_37 : decode cX8_init 37 = .ok (.putfield 19, 3) := by decide +kernel
theorem dX8_init_40 : decode cX8_init 40 = .ok (.aload_n 0, 1) := by decide +kernel
theorem dX8_init_41 : decode cX8_init 41 = .ok (.bipush 16, 2) := by decide +kernel
theorem dX8_init_43 : decode cX8_init 43 = .ok (.newarray .int, 2) := by decide +kernel
theorem dX8_init_45 : decode cX8_init 45 = .ok (.putfield 22, 3) := by decide +kernel
theorem dX8_init_48 : decode cX8_init 48 = .ok (.aload_n 0, 1) := by decide +kernel
theorem dX8_init_49 : decode cX8_init 49 = .ok (.bipush 16, 2) := by decide +kernel
theorem dX8_init_51 : decode cX8_init 51 = .ok (.newarray .int, 2) := by decide +kernel
theorem dX8_init_53 : decode cX8_init 53 = .ok (.putfield 25, 3) := by decide +kernel
theorem dX8_init_56 : decode cX8_init 56 = .ok (.aload_n 0, 1) := by decide +kernel
theorem dX8_init_57 : decode cX8_init 57 = .ok (.bipush 16, 2) := by decide +kernel
theorem dX8_init_59 : decode cX8_init 59 = .ok (.newarray .int, 2) := by decide +kernel
theorem dX8_init_61 : decode cX8_init 61 = .ok (.putfield 28, 3) := by decide +kernel
theorem dX8_init_64 : decode cX8_init 64 = .ok (.aload_n 0, 1) := by decide +kernel
theorem dX8_init_65 : decode cX8_init 65 = .ok (.bipush 16, 2) := by decide +kernel
theorem dX8_init_67 : decode cX8_init 67 = .ok (.newarray .int, 2) := by decide +kernel
theorem dX8_init_69 : decode cX8_init 69 = .ok (.putfield 31, 3) := by decide +kernel
theorem dX8_init_72 : decode cX8_init 72 = .ok (.aload_n 0, 1) := by decide +kernel
theorem dX8_init_73 : decode cX8_init 73 = .ok (.iconst 4, 1) := by decide +kernel
theorem dX8_init_74 : decode cX8_init 74 = .ok (.newarray .int, 2) := by decide +kernel
theorem dX8_init_76 : decode cX8_init 76 = .ok (.putfield 34, 3) := by decide +kernel
theorem dX8_init_79 : decode cX8_init 79 = .ok (.aload_n 0, 1) := by decide +kernel
theorem dX8_init_80 : decode cX8_init 80 = .ok (.getfield 7, 3) := by decide +kernel
theorem dX8_init_83 : decode cX8_init 83 = .ok (.iconst 0, 1) := by decide +kernel
theorem dX8_init_84 : decode cX8_init 84 = .ok (.sipush 800, 3) := by decide +kernel
theorem dX8_init_87 : decode cX8_init 87 = .ok (.iastore, 1) := by decide +kernel
theorem dX8_init_88 : decode cX8_init 88 = .ok (.aload_n 0, 1) := by decide +kernel
theorem dX8_init_89 : decode cX8_init 89 = .ok (.getfield 7, 3) := by decide +kernel
theorem dX8_init_92 : decode cX8_init 92 = .ok (.iconst 1, 1) := by decide +kernel
theorem dX8_init_93 : decode cX8_init 93 = .ok (.bipush 80, 2) := by decide +kernel
theorem dX8_init_95 : decode cX8_init 95 = .ok (.iastore, 1) := by decide +kernel
theorem dX8_init_96 : decode cX8_init 96 = .ok (.aload_n 0, 1) := by decide +kernel
theorem dX8_init_97 : decode cX8_init 97 = .ok (.getfield 7, 3) := by decide +kernel
theorem dX8_init_100 : decode cX8_init 100 = .ok (.iconst 2, 1) := by decide +kernel
theorem dX8_init_101 : decode cX8_init 101 = .ok (.bipush 50, 2) := by decide +kernel
theorem dX8_init_103 : decode cX8_init 103 = .ok (.iastore, 1) := by decide +kernel
theorem dX8_init_104 : decode cX8_init 104 = .ok (.aload_n 0, 1) := by decide +kernel
theorem dX8_init_105 : decode cX8_init 105 = .ok (.getfield 7, 3) := by decide +kernel
theorem dX8_init_108 : decode cX8_init 108 = .ok (.iconst 3, 1) := by decide +kernel
theorem dX8_init_109 : decode cX8_init 109 = .ok (.sipush 400, 3) := by decide +kernel
theorem dX8_init_112 : decode cX8_init 112 = .ok (.iastore, 1) := by decide +kernel
theorem dX8_init_113 : decode cX8_init 113 = .ok (.aload_n 0, 1) := by decide +kernel
theorem dX8_init_114 : decode cX8_init 114 = .ok (.getfield 7, 3) := by decide +kernel
theorem dX8_init_117 : decode cX8_init 117 = .ok (.iconst 4, 1) := by decide +kernel
theorem dX8_init_118 : decode cX8_init 118 = .ok (.bipush 10, 2) := by decide +kernel
theorem dX8_init_120 : decode cX8_init 120 = .ok (.iastore, 1) := by decide +kernel
theorem dX8_init_121 : decode cX8_init 121 = .ok (.aload_n 0, 1) := by decide +kernel
theorem dX8_init_122 : decode cX8_init 122 = .ok (.getfield 7, 3) := by decide +kernel
theorem dX8_init_125 : decode cX8_init 125 = .ok (.iconst 5, 1) := by decide +kernel
theorem dX8_init_126 : decode cX8_init 126 = .ok (.iconst 1, 1) := by decide +kernel
theorem dX8_init_127 : decode cX8_init 127 = .ok (.iastore, 1) := by decide +kernel
theorem dX8_init_128 : decode cX8_init 128 = .ok (.aload_n 0, 1) := by decide +kernel
theorem dX8_init_129 : decode cX8_init 129 = .ok (.getfield 7, 3) := by decide +kernel
theorem dX8_init_132 : decode cX8_init 132 = .ok (.bipush 9, 2) := by decide +kernel
theorem dX8_init_134 : decode cX8_init 134 = .ok (.iconst (-1), 1) := by decide +kernel
theorem dX8_init_135 : decode cX8_init 135 = .ok (.iastore, 1) := by decide +kernel
theorem dX8_init_136 : decode cX8_init 136 = .ok (.return_, 1) := by decide +kernel
theorem dX8_thrown_0 : decode cX8_thrown 0 = .ok (.aload_n 0, 1) := by decide +kernel
theorem dX8_thrown_1 : decode cX8_thrown 1 = .ok (.getfield 37, 3) := by decide +kernel
theorem dX8_thrown_4 : decode cX8_thrown 4 = .ok (.ireturn, 1) := by decide +kernel
theorem dX8_in_0 : decode cX8_in 0 = .ok (.iload_n 0, 1) := by decide +kernel
theorem dX8_in_1 : decode cX8_in 1 = .ok (.iload_n 1, 1) := by decide +kernel
theorem dX8_in_2 : decode cX8_in 2 = .ok (.if_icmp .lt 12, 3) := by decide +kernel
theorem dX8_in_5 : decode cX8_in 5 = .ok (.iload_n 0, 1) := by decide +kernel
theorem dX8_in_6 : decode cX8_in 6 = .ok (.iload_n 2, 1) := by decide +kernel
theorem dX8_in_7 : decode cX8_in 7 = .ok (.if_icmp .gt 7, 3) := by decide +kernel
theorem dX8_in_10 : decode cX8_in 10 = .ok (.iconst 1, 1) := by decide +kernel
theorem dX8_in_11 : decode cX8_in 11 = .ok (.goto 4, 3) := by decide +kernel
theorem dX8_in_14 : decode cX8_in 14 = .ok (.iconst 0, 1) := by decide +kernel
theorem dX8_in_15 : decode cX8_in 15 = .ok (.ireturn, 1) := by decide +kernel
theorem dX8_fails_0 : decode cX8_fails 0 = .ok (.aload_n 0, 1) := by decide +kernel
theorem dX8_fails_1 : decode cX8_fails 1 = .ok (.iload_n 1, 1) := by decide +kernel
theorem dX8_fails_2 : decode cX8_fails 2 = .ok (.putfield 37, 3) := by decide +kernel
theorem dX8_fails_5 : decode cX8_fails 5 = .ok (.iconst 0, 1) := by decide +kernel
theorem dX8_fails_6 : decode cX8_fails 6 = .ok (.ireturn, 1) := by decide +kernel
theorem dX8_tells_0 : decode cX8_tells 0 = .ok (.aload_n 0, 1) := by decide +kernel
theorem dX8_tells_1 : decode cX8_tells 1 = .ok (.iconst 0, 1) := by decide +kernel
theorem dX8_tells_2 : decode cX8_tells 2 = .ok (.putfield 37, 3) := by decide +kernel
theorem dX8_tells_5 : decode cX8_tells 5 = .ok (.iload_n 1, 1) := by decide +kernel
theorem dX8_tells_6 : decode cX8_tells 6 = .ok (.ireturn, 1) := by decide +kernel
theorem dX8_hold_0 : decode cX8_hold 0 = .ok (.iconst 0, 1) := by decide +kernel
theorem dX8_hold_1 : decode cX8_hold 1 = .ok (.istore_n 1, 1) := by decide +kernel
theorem dX8_hold_2 : decode cX8_hold 2 = .ok (.iload_n 1, 1) := by decide +kernel
theorem dX8_hold_3 : decode cX8_hold 3 = .ok (.sipush 149, 3) := by decide +kernel
theorem dX8_hold_6 : decode cX8_hold 6 = .ok (.if_icmp .ge 21, 3) := by decide +kernel
theorem dX8_hold_9 : decode cX8_hold 9 = .ok (.aload_n 0, 1) := by decide +kernel
theorem dX8_hold_10 : decode cX8_hold 10 = .ok (.getfield 16, 3) := by decide +kernel
theorem dX8_hold_13 : decode cX8_hold 13 = .ok (.iload_n 1, 1) := by decide +kernel
theorem dX8_hold_14 : decode cX8_hold 14 = .ok (.aload_n 0, 1) := by decide +kernel
theorem dX8_hold_15 : decode cX8_hold 15 = .ok (.getfield 7, 3) := by decide +kernel
theorem dX8_hold_18 : decode cX8_hold 18 = .ok (.iload_n 1, 1) := by decide +kernel
theorem dX8_hold_19 : decode cX8_hold 19 = .ok (.iaload, 1) := by decide +kernel
theorem dX8_hold_20 : decode cX8_hold 20 = .ok (.iastore, 1) := by decide +kernel
theorem dX8_hold_21 : decode cX8_hold 21 = .ok (.iinc 1 1, 3) := by decide +kernel
theorem dX8_hold_24 : decode cX8_hold 24 = .ok (.goto (-22), 3) := by decide +kernel
theorem dX8_hold_27 : decode cX8_hold 27 = .ok (.return_, 1) := by decide +kernel
theorem dX8_ends_0 : decode cX8_ends 0 = .ok (.aload_n 0, 1) := by decide +kernel
theorem dX8_ends_1 : decode cX8_ends 1 = .ok (.getfield 41, 3) := by decide +kernel
theorem dX8_ends_4 : decode cX8_ends 4 = .ok (.iconst 4, 1) := by decide +kernel
theorem dX8_ends_5 : decode cX8_ends 5 = .ok (.if_icmp .ne 44, 3) := by decide +kernel
theorem dX8_ends_8 : decode cX8_ends 8 = .ok (.iconst 0, 1) := by decide +kernel
theorem dX8_ends_9 : decode cX8_ends 9 = .ok (.istore_n 2, 1) := by decide +kernel
theorem dX8_ends_10 : decode cX8_ends 10 = .ok (.iload_n 2, 1) := by decide +kernel
theorem dX8_ends_11 : decode cX8_ends 11 = .ok (.sipush 447, 3) := by decide +kernel
theorem dX8_ends_14 : decode cX8_ends 14 = .ok (.if_icmp .ge 25, 3) := by decide +kernel
theorem dX8_ends_17 : decode cX8_ends 17 = .ok (.aload_n 0, 1) := by decide +kernel
theorem dX8_ends_18 : decode cX8_ends 18 = .ok (.getfield 13, 3) := by decide +kernel
theorem dX8_ends_21 : decode cX8_ends 21 = .ok (.iload_n 2, 1) := by decide +kernel
theorem dX8_ends_22 : decode cX8_ends 22 = .ok (.aload_n 0, 1) := by decide +kernel
theorem dX8_ends_23 : decode cX8_ends 23 = .ok (.getfield 13, 3) := by decide +kernel
theorem dX8_ends_26 : decode cX8_ends 26 = .ok (.iload_n 2, 1) := by decide +kernel
theorem dX8_ends_27 : decode cX8_ends 27 = .ok (.sipush 149, 3) := by decide +kernel
theorem dX8_ends_30 : decode cX8_ends 30 = .ok (.iadd, 1) := by decide +kernel
theorem dX8_ends_31 : decode cX8_ends 31 = .ok (.iaload, 1) := by decide +kernel
theorem dX8_ends_32 : decode cX8_ends 32 = .ok (.iastore, 1) := by decide +kernel
theorem dX8_ends_33 : decode cX8_ends 33 = .ok (.iinc 2 1, 3) := by decide +kernel
theorem dX8_ends_36 : decode cX8_ends 36 = .ok (.goto (-26), 3) := by decide +kernel
theorem dX8_ends_39 : decode cX8_ends 39 = .ok (.aload_n 0, 1) := by decide +kernel
theorem dX8_ends_40 : decode cX8_ends 40 = .ok (.dup, 1) := by decide +kernel
theorem dX8_ends_41 : decode cX8_ends 41 = .ok (.getfield 41, 3) := by decide +kernel
theorem dX8_ends_44 : decode cX8_ends 44 = .ok (.iconst 1, 1) := by decide +kernel
theorem dX8_ends_45 : decode cX8_ends 45 = .ok (.isub, 1) := by decide +kernel
theorem dX8_ends_46 : decode cX8_ends 46 = .ok (.putfield 41, 3) := by decide +kernel
theorem dX8_ends_49 : decode cX8_ends 49 = .ok (.iconst 0, 1) := by decide +kernel
theorem dX8_ends_50 : decode cX8_ends 50 = .ok (.istore_n 2, 1) := by decide +kernel
theorem dX8_ends_51 : decode cX8_ends 51 = .ok (.iload_n 2, 1) := by decide +kernel
theorem dX8_ends_52 : decode cX8_ends 52 = .ok (.sipush 149, 3) := by decide +kernel
theorem dX8_ends_55 : decode cX8_ends 55 = .ok (.if_icmp .ge 30, 3) := by decide +kernel
theorem dX8_ends_58 : decode cX8_ends 58 = .ok (.aload_n 0, 1) := by decide +kernel
theorem dX8_ends_59 : decode cX8_ends 59 = .ok (.getfield 13, 3) := by decide +kernel
theorem dX8_ends_62 : decode cX8_ends 62 = .ok (.sipush 149, 3) := by decide +kernel
theorem dX8_ends_65 : decode cX8_ends 65 = .ok (.aload_n 0, 1) := by decide +kernel
theorem dX8_ends_66 : decode cX8_ends 66 = .ok (.getfield 41, 3) := by decide +kernel
theorem dX8_ends_69 : decode cX8_ends 69 = .ok (.imul, 1) := by decide +kernel
theorem dX8_ends_70 : decode cX8_ends 70 = .ok (.iload_n 2, 1) := by decide +kernel
theorem dX8_ends_71 : decode cX8_ends 71 = .ok (.iadd, 1) := by decide +kernel
theorem dX8_ends_72 : decode cX8_ends 72 = .ok (.aload_n 0, 1) := by decide +kernel
theorem dX8_ends_73 : decode cX8_ends 73 = .ok (.getfield 16, 3) := by decide +kernel
theorem dX8_ends_76 : decode cX8_ends 76 = .ok (.iload_n 2, 1) := by decide +kernel
theorem dX8_ends_77 : decode cX8_ends 77 = .ok (.iaload, 1) := by decide +kernel
theorem dX8_ends_78 : decode cX8_ends 78 = .ok (.iastore, 1) := by decide +kernel
theorem dX8_ends_79 : decode cX8_ends 79 = .ok (.iinc 2 1, 3) := by decide +kernel
theorem dX8_ends_82 : decode cX8_ends 82 = .ok (.goto (-31), 3) := by decide +kernel
theorem dX8_ends_85 : decode cX8_ends 85 = .ok (.aload_n 0, 1) := by decide +kernel
theorem dX8_ends_86 : decode cX8_ends 86 = .ok (.dup, 1) := by decide +kernel
theorem dX8_ends_87 : decode cX8_ends 87 = .ok (.getfield 41, 3) := by decide +kernel
theorem dX8_ends_90 : decode cX8_ends 90 = .ok (.iconst 1, 1) := by decide +kernel
theorem dX8_ends_91 : decode cX8_ends 91 = .ok (.iadd, 1) := by decide +kernel
theorem dX8_ends_92 : decode cX8_ends 92 = .ok (.putfield 41, 3) := by decide +kernel
theorem dX8_ends_95 : decode cX8_ends 95 = .ok (.aload_n 0, 1) := by decide +kernel
theorem dX8_ends_96 : decode cX8_ends 96 = .ok (.iload_n 1, 1) := by decide +kernel
theorem dX8_ends_97 : decode cX8_ends 97 = .ok (.invokevirtual 44, 3) := by decide +kernel
theorem dX8_ends_100 : decode cX8_ends 100 = .ok (.ireturn, 1) := by decide +kernel
theorem dX8_of_0 : decode cX8_of 0 = .ok (.aload_n 0, 1) := by decide +kernel
theorem dX8_of_1 : decode cX8_of 1 = .ok (.getfield 7, 3) := by decide +kernel
theorem dX8_of_4 : decode cX8_of 4 = .ok (.bipush 9, 2) := by decide +kernel
theorem dX8_of_6 : decode cX8_of 6 = .ok (.bipush 8, 2) := by decide +kernel
theorem dX8_of_8 : decode cX8_of 8 = .ok (.iload_n 1, 1) := by decide +kernel
theorem dX8_of_9 : decode cX8_of 9 = .ok (.imul, 1) := by decide +kernel
theorem dX8_of_10 : decode cX8_of 10 = .ok (.iadd, 1) := by decide +kernel
theorem dX8_of_11 : decode cX8_of 11 = .ok (.iload_n 2, 1) := by decide +kernel
theorem dX8_of_12 : decode cX8_of 12 = .ok (.iadd, 1) := by decide +kernel
theorem dX8_of_13 : decode cX8_of 13 = .ok (.iaload, 1) := by decide +kernel
theorem dX8_of_14 : decode cX8_of 14 = .ok (.ireturn, 1) := by decide +kernel
theorem dX8_puts_0 : decode cX8_puts 0 = .ok (.aload_n 0, 1) := by decide +kernel
theorem dX8_puts_1 : decode cX8_puts 1 = .ok (.getfield 7, 3) := by decide +kernel
theorem dX8_puts_4 : decode cX8_puts 4 = .ok (.bipush 9, 2) := by decide +kernel
theorem dX8_puts_6 : decode cX8_puts 6 = .ok (.bipush 8, 2) := by decide +kernel
theorem dX8_puts_8 : decode cX8_puts 8 = .ok (.iload_n 1, 1) := by decide +kernel
theorem dX8_puts_9 : decode cX8_puts 9 = .ok (.imul, 1) := by decide +kernel
theorem dX8_puts_10 : decode cX8_puts 10 = .ok (.iadd, 1) := by decide +kernel
theorem dX8_puts_11 : decode cX8_puts 11 = .ok (.iload_n 2, 1) := by decide +kernel
theorem dX8_puts_12 : decode cX8_puts 12 = .ok (.iadd, 1) := by decide +kernel
theorem dX8_puts_13 : decode cX8_puts 13 = .ok (.iload_n 3, 1) := by decide +kernel
theorem dX8_puts_14 : decode cX8_puts 14 = .ok (.iastore, 1) := by decide +kernel
theorem dX8_puts_15 : decode cX8_puts 15 = .ok (.return_, 1) := by decide +kernel
theorem dX8_isNode_0 : decode cX8_isNode 0 = .ok (.iload_n 1, 1) := by decide +kernel
theorem dX8_isNode_1 : decode cX8_isNode 1 = .ok (.ifCond .lt 17, 3) := by decide +kernel
theorem dX8_isNode_4 : decode cX8_isNode 4 = .ok (.iload_n 1, 1) := by decide +kernel
theorem dX8_isNode_5 : decode cX8_isNode 5 = .ok (.aload_n 0, 1) := by decide +kernel
theorem dX8_isNode_6 : decode cX8_isNode 6 = .ok (.getfield 7, 3) := by decide +kernel
theorem dX8_isNode_9 : decode cX8_isNode 9 = .ok (.iconst 5, 1) := by decide +kernel
theorem dX8_isNode_10 : decode cX8_isNode 10 = .ok (.iaload, 1) := by decide +kernel
theorem dX8_isNode_11 : decode cX8_isNode 11 = .ok (.if_icmp .ge 7, 3) := by decide +kernel
theorem dX8_isNode_14 : decode cX8_isNode 14 = .ok (.iconst 1, 1) := by decide +kernel
theorem dX8_isNode_15 : decode cX8_isNode 15 = .ok (.goto 4, 3) := by decide +kernel
theorem dX8_isNode_18 : decode cX8_isNode 18 = .ok (.iconst 0, 1) := by decide +kernel
theorem dX8_isNode_19 : decode cX8_isNode 19 = .ok (.ireturn, 1) := by decide +kernel
theorem dX8_isPipe_0 : decode cX8_isPipe 0 = .ok (.iload_n 1, 1) := by decide +kernel
theorem dX8_isPipe_1 : decode cX8_isPipe 1 = .ok (.ifCond .le 17, 3) := by decide +kernel
theorem dX8_isPipe_4 : decode cX8_isPipe 4 = .ok (.iload_n 1, 1) := by decide +kernel
theorem dX8_isPipe_5 : decode cX8_isPipe 5 = .ok (.aload_n 0, 1) := by decide +kernel
theorem dX8_isPipe_6 : decode cX8_isPipe 6 = .ok (.getfield 7, 3) := by decide +kernel
theorem dX8_isPipe_9 : decode cX8_isPipe 9 = .ok (.iconst 5, 1) := by decide +kernel
theorem dX8_isPipe_10 : decode cX8_isPipe 10 = .ok (.iaload, 1) := by decide +kernel
theorem dX8_isPipe_11 : decode cX8_isPipe 11 = .ok (.if_icmp .ge 7, 3) := by decide +kernel
theorem dX8_isPipe_14 : decode cX8_isPipe 14 = .ok (.iconst 1, 1) := by decide +kernel
theorem dX8_isPipe_15 : decode cX8_isPipe 15 = .ok (.goto 4, 3) := by decide +kernel
theorem dX8_isPipe_18 : decode cX8_isPipe 18 = .ok (.iconst 0, 1) := by decide +kernel
theorem dX8_isPipe_19 : decode cX8_isPipe 19 = .ok (.ireturn, 1) := by decide +kernel
theorem dX8_less_0 : decode cX8_less 0 = .ok (.iload_n 0, 1) := by decide +kernel
theorem dX8_less_1 : decode cX8_less 1 = .ok (.iload_n 1, 1) := by decide +kernel
theorem dX8_less_2 : decode cX8_less 2 = .ok (.if_icmp .ge 7, 3) := by decide +kernel
theorem dX8_less_5 : decode cX8_less 5 = .ok (.iload_n 0, 1) := by decide +kernel
theorem dX8_less_6 : decode cX8_less 6 = .ok (.goto 4, 3) := by decide +kernel
theorem dX8_less_9 : decode cX8_less 9 = .ok (.iload_n 1, 1) := by decide +kernel
theorem dX8_less_10 : decode cX8_less 10 = .ok (.ireturn, 1) := by decide +kernel
theorem dX8_warmth_0 : decode cX8_warmth 0 = .ok (.aload_n 0, 1) := by decide +kernel
theorem dX8_warmth_1 : decode cX8_warmth 1 = .ok (.getfield 25, 3) := by decide +kernel
theorem dX8_warmth_4 : decode cX8_warmth 4 = .ok (.aload_n 0, 1) := by decide +kernel
theorem dX8_warmth_5 : decode cX8_warmth 5 = .ok (.iload_n 1, 1) := by decide +kernel
theorem dX8_warmth_6 : decode cX8_warmth 6 = .ok (.iconst 0, 1) := by decide +kernel
theorem dX8_warmth_7 : decode cX8_warmth 7 = .ok (.invokevirtual 48, 3) := by decide +kernel
theorem dX8_warmth_10 : decode cX8_warmth 10 = .ok (.iaload, 1) := by decide +kernel
theorem dX8_warmth_11 : decode cX8_warmth 11 = .ok (.istore_n 2, 1) := by decide +kernel
theorem dX8_warmth_12 : decode cX8_warmth 12 = .ok (.aload_n 0, 1) := by decide +kernel
theorem dX8_warmth_13 : decode cX8_warmth 13 = .ok (.getfield 7, 3) := by decide +kernel
theorem dX8_warmth_16 : decode cX8_warmth 16 = .ok (.iconst 1, 1) := by decide +kernel
theorem dX8_warmth_17 : decode cX8_warmth 17 = .ok (.iaload, 1) := by decide +kernel
theorem dX8_warmth_18 : decode cX8_warmth 18 = .ok (.istore_n 3, 1) := by decide +kernel
theorem dX8_warmth_19 : decode cX8_warmth 19 = .ok (.aload_n 0, 1) := by decide +kernel
theorem dX8_warmth_20 : decode cX8_warmth 20 = .ok (.getfield 22, 3) := by decide +kernel
theorem dX8_warmth_23 : decode cX8_warmth 23 = .ok (.iload_n 1, 1) := by decide +kernel
theorem dX8_warmth_24 : decode cX8_warmth 24 = .ok (.iaload, 1) := by decide +kernel
theorem dX8_warmth_25 : decode cX8_warmth 25 = .ok (.ifCond .ne 9, 3) := by decide +kernel
theorem dX8_warmth_28 : decode cX8_warmth 28 = .ok (.iload_n 2, 1) := by decide +kernel
theorem dX8_warmth_29 : decode cX8_warmth 29 = .ok (.iload_n 3, 1) := by decide +kernel
theorem dX8_warmth_30 : decode cX8_warmth 30 = .ok (.invokestatic 52, 3) := by decide +kernel
theorem dX8_warmth_33 : decode cX8_warmth 33 = .ok (.ireturn, 1) := by decide +kernel
theorem dX8_warmth_34 : decode cX8_warmth 34 = .ok (.iload_n 2, 1) := by decide +kernel
theorem dX8_warmth_35 : decode cX8_warmth 35 = .ok (.iload_n 3, 1) := by decide +kernel
theorem dX8_warmth_36 : decode cX8_warmth 36 = .ok (.if_icmp .gt 5, 3) := by decide +kernel
theorem dX8_warmth_39 : decode cX8_warmth 39 = .ok (.iload_n 2, 1) := by decide +kernel
theorem dX8_warmth_40 : decode cX8_warmth 40 = .ok (.ireturn, 1) := by decide +kernel
theorem dX8_warmth_41 : decode cX8_warmth 41 = .ok (.iload_n 2, 1) := by decide +kernel
theorem dX8_warmth_42 : decode cX8_warmth 42 = .ok (.iload_n 3, 1) := by decide +kernel
theorem dX8_warmth_43 : decode cX8_warmth 43 = .ok (.isub, 1) := by decide +kernel
theorem dX8_warmth_44 : decode cX8_warmth 44 = .ok (.aload_n 0, 1) := by decide +kernel
theorem dX8_warmth_45 : decode cX8_warmth 45 = .ok (.iload_n 1, 1) := by decide +kernel
theorem dX8_warmth_46 : decode cX8_warmth 46 = .ok (.iconst 2, 1) := by decide +kernel
theorem dX8_warmth_47 : decode cX8_warmth 47 = .ok (.invokevirtual 48, 3) := by decide +kernel
theorem dX8_warmth_50 : decode cX8_warmth 50 = .ok (.imul, 1) := by decide +kernel
theorem dX8_warmth_51 : decode cX8_warmth 51 = .ok (.aload_n 0, 1) := by decide +kernel
theorem dX8_warmth_52 : decode cX8_warmth 52 = .ok (.iload_n 1, 1) := by decide +kernel
theorem dX8_warmth_53 : decode cX8_warmth 53 = .ok (.iconst 1, 1) := by decide +kernel
theorem dX8_warmth_54 : decode cX8_warmth 54 = .ok (.invokevirtual 48, 3) := by decide +kernel
theorem dX8_warmth_57 : decode cX8_warmth 57 = .ok (.imul, 1) := by decide +kernel
theorem dX8_warmth_58 : decode cX8_warmth 58 = .ok (.sipush 1000, 3) := by decide +kernel
theorem dX8_warmth_61 : decode cX8_warmth 61 = .ok (.aload_n 0, 1) := by decide +kernel
theorem dX8_warmth_62 : decode cX8_warmth 62 = .ok (.getfield 22, 3) := by decide +kernel
theorem dX8_warmth_65 : decode cX8_warmth 65 = .ok (.iload_n 1, 1) := by decide +kernel
theorem dX8_warmth_66 : decode cX8_warmth 66 = .ok (.iaload, 1) := by decide +kernel
theorem dX8_warmth_67 : decode cX8_warmth 67 = .ok (.imul, 1) := by decide +kernel
theorem dX8_warmth_68 : decode cX8_warmth 68 = .ok (.idiv, 1) := by decide +kernel
theorem dX8_warmth_69 : decode cX8_warmth 69 = .ok (.istore 4, 2) := by decide +kernel
theorem dX8_warmth_71 : decode cX8_warmth 71 = .ok (.iload_n 2, 1) := by decide +kernel
theorem dX8_warmth_72 : decode cX8_warmth 72 = .ok (.iload_n 2, 1) := by decide +kernel
theorem dX8_warmth_73 : decode cX8_warmth 73 = .ok (.iload_n 3, 1) := by decide +kernel
theorem dX8_warmth_74 : decode cX8_warmth 74 = .ok (.isub, 1) := by decide +kernel
theorem dX8_warmth_75 : decode cX8_warmth 75 = .ok (.iload 4, 2) := by decide +kernel
theorem dX8_warmth_77 : decode cX8_warmth 77 = .ok (.invokestatic 52, 3) := by decide +kernel
theorem dX8_warmth_80 : decode cX8_warmth 80 = .ok (.isub, 1) := by decide +kernel
theorem dX8_warmth_81 : decode cX8_warmth 81 = .ok (.ireturn, 1) := by decide +kernel
theorem dX8_works_0 : decode cX8_works 0 = .ok (.aload_n 0, 1) := by decide +kernel
theorem dX8_works_1 : decode cX8_works 1 = .ok (.getfield 7, 3) := by decide +kernel
theorem dX8_works_4 : decode cX8_works 4 = .ok (.iconst 5, 1) := by decide +kernel
theorem dX8_works_5 : decode cX8_works 5 = .ok (.iaload, 1) := by decide +kernel
theorem dX8_works_6 : decode cX8_works 6 = .ok (.istore_n 1, 1) := by decide +kernel
theorem dX8_works_7 : decode cX8_works 7 = .ok (.iconst 0, 1) := by decide +kernel
theorem dX8_works_8 : decode cX8_works 8 = .ok (.istore_n 2, 1) := by decide +kernel
theorem dX8_works_9 : decode cX8_works 9 = .ok (.iload_n 2, 1) := by decide +kernel
theorem dX8_works_10 : decode cX8_works 10 = .ok (.iload_n 1, 1) := by decide +kernel
theorem dX8_works_11 : decode cX8_works 11 = .ok (.if_icmp .ge 43, 3) := by decide +kernel
theorem dX8_works_14 : decode cX8_works 14 = .ok (.aload_n 0, 1) := by decide +kernel
theorem dX8_works_15 : decode cX8_works 15 = .ok (.getfield 22, 3) := by decide +kernel
theorem dX8_works_18 : decode cX8_works 18 = .ok (.iload_n 2, 1) := by decide +kernel
theorem dX8_works_19 : decode cX8_works 19 = .ok (.iload_n 2, 1) := by decide +kernel
theorem dX8_works_20 : decode cX8_works 20 = .ok (.ifCond .ne 7, 3) := by decide +kernel
theorem dX8_works_23 : decode cX8_works 23 = .ok (.iconst 0, 1) := by decide +kernel
theorem dX8_works_24 : decode cX8_works 24 = .ok (.goto 16, 3) := by decide +kernel
theorem dX8_works_27 : decode cX8_works 27 = .ok (.aload_n 0, 1) := by decide +kernel
theorem dX8_works_28 : decode cX8_works 28 = .ok (.iload_n 2, 1) := by decide +kernel
theorem dX8_works_29 : decode cX8_works 29 = .ok (.iconst 3, 1) := by decide +kernel
theorem dX8_works_30 : decode cX8_works 30 = .ok (.invokevirtual 48, 3) := by decide +kernel
theorem dX8_works_33 : decode cX8_works 33 = .ok (.aload_n 0, 1) := by decide +kernel
theorem dX8_works_34 : decode cX8_works 34 = .ok (.iload_n 2, 1) := by decide +kernel
theorem dX8_works_35 : decode cX8_works 35 = .ok (.iconst 5, 1) := by decide +kernel
theorem dX8_works_36 : decode cX8_works 36 = .ok (.invokevirtual 48, 3) := by decide +kernel
theorem dX8_works_39 : decode cX8_works 39 = .ok (.iadd, 1) := by decide +kernel
theorem dX8_works_40 : decode cX8_works 40 = .ok (.iastore, 1) := by decide +kernel
theorem dX8_works_41 : decode cX8_works 41 = .ok (.aload_n 0, 1) := by decide +kernel
theorem dX8_works_42 : decode cX8_works 42 = .ok (.getfield 31, 3) := by decide +kernel
theorem dX8_works_45 : decode cX8_works 45 = .ok (.iload_n 2, 1) := by decide +kernel
theorem dX8_works_46 : decode cX8_works 46 = .ok (.iconst 0, 1) := by decide +kernel
theorem dX8_works_47 : decode cX8_works 47 = .ok (.iastore, 1) := by decide +kernel
theorem dX8_works_48 : decode cX8_works 48 = .ok (.iinc 2 1, 3) := by decide +kernel
theorem dX8_works_51 : decode cX8_works 51 = .ok (.goto (-42), 3) := by decide +kernel
theorem dX8_works_54 : decode cX8_works 54 = .ok (.iload_n 1, 1) := by decide +kernel
theorem dX8_works_55 : decode cX8_works 55 = .ok (.iconst 1, 1) := by decide +kernel
theorem dX8_works_56 : decode cX8_works 56 = .ok (.isub, 1) := by decide +kernel
theorem dX8_works_57 : decode cX8_works 57 = .ok (.istore_n 2, 1) := by decide +kernel
theorem dX8_works_58 : decode cX8_works 58 = .ok (.iload_n 2, 1) := by decide +kernel
theorem dX8_works_59 : decode cX8_works 59 = .ok (.ifCond .le 29, 3) := by decide +kernel
theorem dX8_works_62 : decode cX8_works 62 = .ok (.aload_n 0, 1) := by decide +kernel
theorem dX8_works_63 : decode cX8_works 63 = .ok (.getfield 22, 3) := by decide +kernel
theorem dX8_works_66 : decode cX8_works 66 = .ok (.aload_n 0, 1) := by decide +kernel
theorem dX8_works_67 : decode cX8_works 67 = .ok (.iload_n 2, 1) := by decide +kernel
theorem dX8_works_68 : decode cX8_works 68 = .ok (.iconst 0, 1) := by decide +kernel
theorem dX8_works_69 : decode cX8_works 69 = .ok (.invokevirtual 48, 3) := by decide +kernel
theorem dX8_works_72 : decode cX8_works 72 = .ok (.dup2, 1) := by decide +kernel
theorem dX8_works_73 : decode cX8_works 73 = .ok (.iaload, 1) := by decide +kernel
theorem dX8_works_74 : decode cX8_works 74 = .ok (.aload_n 0, 1) := by decide +kernel
theorem dX8_works_75 : decode cX8_works 75 = .ok (.getfield 22, 3) := by decide +kernel
theorem dX8_works_78 : decode cX8_works 78 = .ok (.iload_n 2, 1) := by decide +kernel
theorem dX8_works_79 : decode cX8_works 79 = .ok (.iaload, 1) := by decide +kernel
theorem dX8_works_80 : decode cX8_works 80 = .ok (.iadd, 1) := by decide +kernel
theorem dX8_works_81 : decode cX8_works 81 = .ok (.iastore, 1) := by decide +kernel
theorem dX8_works_82 : decode cX8_works 82 = .ok (.iinc 2 (-1), 3) := by decide +kernel
theorem dX8_works_85 : decode cX8_works 85 = .ok (.goto (-27), 3) := by decide +kernel
theorem dX8_works_88 : decode cX8_works 88 = .ok (.aload_n 0, 1) := by decide +kernel
theorem dX8_works_89 : decode cX8_works 89 = .ok (.getfield 25, 3) := by decide +kernel
theorem dX8_works_92 : decode cX8_works 92 = .ok (.iconst 0, 1) := by decide +kernel
theorem dX8_works_93 : decode cX8_works 93 = .ok (.aload_n 0, 1) := by decide +kernel
theorem dX8_works_94 : decode cX8_works 94 = .ok (.getfield 7, 3) := by decide +kernel
theorem dX8_works_97 : decode cX8_works 97 = .ok (.iconst 0, 1) := by decide +kernel
theorem dX8_works_98 : decode cX8_works 98 = .ok (.iaload, 1) := by decide +kernel
theorem dX8_works_99 : decode cX8_works 99 = .ok (.iastore, 1) := by decide +kernel
theorem dX8_works_100 : decode cX8_works 100 = .ok (.aload_n 0, 1) := by decide +kernel
theorem dX8_works_101 : decode cX8_works 101 = .ok (.getfield 28, 3) := by decide +kernel
theorem dX8_works_104 : decode cX8_works 104 = .ok (.iconst 0, 1) := by decide +kernel
theorem dX8_works_105 : decode cX8_works 105 = .ok (.iconst (-1), 1) := by decide +kernel
theorem dX8_works_106 : decode cX8_works 106 = .ok (.iastore, 1) := by decide +kernel
theorem dX8_works_107 : decode cX8_works 107 = .ok (.iconst 1, 1) := by decide +kernel
theorem dX8_works_108 : decode cX8_works 108 = .ok (.istore_n 2, 1) := by decide +kernel
theorem dX8_works_109 : decode cX8_works 109 = .ok (.iload_n 2, 1) := by decide +kernel
theorem dX8_works_110 : decode cX8_works 110 = .ok (.iload_n 1, 1) := by decide +kernel
theorem dX8_works_111 : decode cX8_works 111 = .ok (.if_icmp .ge 41, 3) := by decide +kernel
theorem dX8_works_114 : decode cX8_works 114 = .ok (.aload_n 0, 1) := by decide +kernel
theorem dX8_works_115 : decode cX8_works 115 = .ok (.getfield 25, 3) := by decide +kernel
theorem dX8_works_118 : decode cX8_works 118 = .ok (.iload_n 2, 1) := by decide +kernel
theorem dX8_works_119 : decode cX8_works 119 = .ok (.aload_n 0, 1) := by decide +kernel
theorem dX8_works_120 : decode cX8_works 120 = .ok (.iload_n 2, 1) := by decide +kernel
theorem dX8_works_121 : decode cX8_works 121 = .ok (.invokevirtual 55, 3) := by decide +kernel
theorem dX8_works_124 : decode cX8_works 124 = .ok (.iastore, 1) := by decide +kernel
theorem dX8_works_125 : decode cX8_works 125 = .ok (.aload_n 0, 1) := by decide +kernel
theorem dX8_works_126 : decode cX8_works 126 = .ok (.getfield 28, 3) := by decide +kernel
theorem dX8_works_129 : decode cX8_works 129 = .ok (.iload_n 2, 1) := by decide +kernel
theorem dX8_works_130 : decode cX8_works 130 = .ok (.aload_n 0, 1) := by decide +kernel
theorem dX8_works_131 : decode cX8_works 131 = .ok (.iload_n 2, 1) := by decide +kernel
theorem dX8_works_132 : decode cX8_works 132 = .ok (.iconst 4, 1) := by decide +kernel
theorem dX8_works_133 : decode cX8_works 133 = .ok (.invokevirtual 48, 3) := by decide +kernel
theorem dX8_works_136 : decode cX8_works 136 = .ok (.aload_n 0, 1) := by decide +kernel
theorem dX8_works_137 : decode cX8_works 137 = .ok (.getfield 25, 3) := by decide +kernel
theorem dX8_works_140 : decode cX8_works 140 = .ok (.iload_n 2, 1) := by decide +kernel
theorem dX8_works_141 : decode cX8_works 141 = .ok (.iaload, 1) := by decide +kernel
theorem dX8_works_142 : decode cX8_works 142 = .ok (.invokestatic 52, 3) := by decide +kernel
theorem dX8_works_145 : decode cX8_works 145 = .ok (.iastore, 1) := by decide +kernel
theorem dX8_works_146 : decode cX8_works 146 = .ok (.iinc 2 1, 3) := by decide +kernel
theorem dX8_works_149 : decode cX8_works 149 = .ok (.goto (-40), 3) := by decide +kernel
theorem dX8_works_152 : decode cX8_works 152 = .ok (.iload_n 1, 1) := by decide +kernel
theorem dX8_works_153 : decode cX8_works 153 = .ok (.iconst 1, 1) := by decide +kernel
theorem dX8_works_154 : decode cX8_works 154 = .ok (.isub, 1) := by decide +kernel
theorem dX8_works_155 : decode cX8_works 155 = .ok (.istore_n 2, 1) := by decide +kernel
theorem dX8_works_156 : decode cX8_works 156 = .ok (.iload_n 2, 1) := by decide +kernel
theorem dX8_works_157 : decode cX8_works 157 = .ok (.ifCond .le 51, 3) := by decide +kernel
theorem dX8_works_160 : decode cX8_works 160 = .ok (.aload_n 0, 1) := by decide +kernel
theorem dX8_works_161 : decode cX8_works 161 = .ok (.getfield 31, 3) := by decide +kernel
theorem dX8_works_164 : decode cX8_works 164 = .ok (.iload_n 2, 1) := by decide +kernel
theorem dX8_works_165 : decode cX8_works 165 = .ok (.dup2, 1) := by decide +kernel
theorem dX8_works_166 : decode cX8_works 166 = .ok (.iaload, 1) := by decide +kernel
theorem dX8_works_167 : decode cX8_works 167 = .ok (.aload_n 0, 1) := by decide +kernel
theorem dX8_works_168 : decode cX8_works 168 = .ok (.iload_n 2, 1) := by decide +kernel
theorem dX8_works_169 : decode cX8_works 169 = .ok (.iconst 3, 1) := by decide +kernel
theorem dX8_works_170 : decode cX8_works 170 = .ok (.invokevirtual 48, 3) := by decide +kernel
theorem dX8_works_173 : decode cX8_works 173 = .ok (.aload_n 0, 1) := by decide +kernel
theorem dX8_works_174 : decode cX8_works 174 = .ok (.getfield 28, 3) := by decide +kernel
theorem dX8_works_177 : decode cX8_works 177 = .ok (.iload_n 2, 1) := by decide +kernel
theorem dX8_works_178 : decode cX8_works 178 = .ok (.iaload, 1) := by decide +kernel
theorem dX8_works_179 : decode cX8_works 179 = .ok (.imul, 1) := by decide +kernel
theorem dX8_works_180 : decode cX8_works 180 = .ok (.iadd, 1) := by decide +kernel
theorem dX8_works_181 : decode cX8_works 181 = .ok (.iastore, 1) := by decide +kernel
theorem dX8_works_182 : decode cX8_works 182 = .ok (.aload_n 0, 1) := by decide +kernel
theorem dX8_works_183 : decode cX8_works 183 = .ok (.getfield 31, 3) := by decide +kernel
theorem dX8_works_186 : decode cX8_works 186 = .ok (.aload_n 0, 1) := by decide +kernel
theorem dX8_works_187 : decode cX8_works 187 = .ok (.iload_n 2, 1) := by decide +kernel
theorem dX8_works_188 : decode cX8_works 188 = .ok (.iconst 0, 1) := by decide +kernel
theorem dX8_works_189 : decode cX8_works 189 = .ok (.invokevirtual 48, 3) := by decide +kernel
theorem dX8_works_192 : decode cX8_works 192 = .ok (.dup2, 1) := by decide +kernel
theorem dX8_works_193 : decode cX8_works 193 = .ok (.iaload, 1) := by decide +kernel
theorem dX8_works_194 : decode cX8_works 194 = .ok (.aload_n 0, 1) := by decide +kernel
theorem dX8_works_195 : decode cX8_works 195 = .ok (.getfield 31, 3) := by decide +kernel
theorem dX8_works_198 : decode cX8_works 198 = .ok (.iload_n 2, 1) := by decide +kernel
theorem dX8_works_199 : decode cX8_works 199 = .ok (.iaload, 1) := by decide +kernel
theorem dX8_works_200 : decode cX8_works 200 = .ok (.iadd, 1) := by decide +kernel
theorem dX8_works_201 : decode cX8_works 201 = .ok (.iastore, 1) := by decide +kernel
theorem dX8_works_202 : decode cX8_works 202 = .ok (.iinc 2 (-1), 3) := by decide +kernel
theorem dX8_works_205 : decode cX8_works 205 = .ok (.goto (-49), 3) := by decide +kernel
theorem dX8_works_208 : decode cX8_works 208 = .ok (.return_, 1) := by decide +kernel
theorem dX8_need_0 : decode cX8_need 0 = .ok (.aload_n 0, 1) := by decide +kernel
theorem dX8_need_1 : decode cX8_need 1 = .ok (.getfield 22, 3) := by decide +kernel
theorem dX8_need_4 : decode cX8_need 4 = .ok (.iconst 0, 1) := by decide +kernel
theorem dX8_need_5 : decode cX8_need 5 = .ok (.iaload, 1) := by decide +kernel
theorem dX8_need_6 : decode cX8_need 6 = .ok (.aload_n 0, 1) := by decide +kernel
theorem dX8_need_7 : decode cX8_need 7 = .ok (.getfield 7, 3) := by decide +kernel
theorem dX8_need_10 : decode cX8_need 10 = .ok (.iconst 0, 1) := by decide +kernel
theorem dX8_need_11 : decode cX8_need 11 = .ok (.iaload, 1) := by decide +kernel
theorem dX8_need_12 : decode cX8_need 12 = .ok (.imul, 1) := by decide +kernel
theorem dX8_need_13 : decode cX8_need 13 = .ok (.aload_n 0, 1) := by decide +kernel
theorem dX8_need_14 : decode cX8_need 14 = .ok (.getfield 31, 3) := by decide +kernel
theorem dX8_need_17 : decode cX8_need 17 = .ok (.iconst 0, 1) := by decide +kernel
theorem dX8_need_18 : decode cX8_need 18 = .ok (.iaload, 1) := by decide +kernel
theorem dX8_need_19 : decode cX8_need 19 = .ok (.isub, 1) := by decide +kernel
theorem dX8_need_20 : decode cX8_need 20 = .ok (.istore_n 1, 1) := by decide +kernel
theorem dX8_need_21 : decode cX8_need 21 = .ok (.iload_n 1, 1) := by decide +kernel
theorem dX8_need_22 : decode cX8_need 22 = .ok (.ifCond .ge 7, 3) := by decide +kernel
theorem dX8_need_25 : decode cX8_need 25 = .ok (.iconst 0, 1) := by decide +kernel
theorem dX8_need_26 : decode cX8_need 26 = .ok (.goto 4, 3) := by decide +kernel
theorem dX8_need_29 : decode cX8_need 29 = .ok (.iload_n 1, 1) := by decide +kernel
theorem dX8_need_30 : decode cX8_need 30 = .ok (.ireturn, 1) := by decide +kernel
theorem dX8_delivered_0 : decode cX8_delivered 0 = .ok (.aload_n 0, 1) := by decide +kernel
theorem dX8_delivered_1 : decode cX8_delivered 1 = .ok (.iload_n 1, 1) := by decide +kernel
theorem dX8_delivered_2 : decode cX8_delivered 2 = .ok (.iconst 3, 1) := by decide +kernel
theorem dX8_delivered_3 : decode cX8_delivered 3 = .ok (.invokevirtual 48, 3) := by decide +kernel
theorem dX8_delivered_6 : decode cX8_delivered 6 = .ok (.aload_n 0, 1) := by decide +kernel
theorem dX8_delivered_7 : decode cX8_delivered 7 = .ok (.getfield 25, 3) := by decide +kernel
theorem dX8_delivered_10 : decode cX8_delivered 10 = .ok (.iload_n 1, 1) := by decide +kernel
theorem dX8_delivered_11 : decode cX8_delivered 11 = .ok (.iaload, 1) := by decide +kernel
theorem dX8_delivered_12 : decode cX8_delivered 12 = .ok (.aload_n 0, 1) := by decide +kernel
theorem dX8_delivered_13 : decode cX8_delivered 13 = .ok (.getfield 28, 3) := by decide +kernel
theorem dX8_delivered_16 : decode cX8_delivered 16 = .ok (.iload_n 1, 1) := by decide +kernel
theorem dX8_delivered_17 : decode cX8_delivered 17 = .ok (.iaload, 1) := by decide +kernel
theorem dX8_delivered_18 : decode cX8_delivered 18 = .ok (.isub, 1) := by decide +kernel
theorem dX8_delivered_19 : decode cX8_delivered 19 = .ok (.imul, 1) := by decide +kernel
theorem dX8_delivered_20 : decode cX8_delivered 20 = .ok (.ireturn, 1) := by decide +kernel
theorem dX8_billOf_0 : decode cX8_billOf 0 = .ok (.aload_n 0, 1) := by decide +kernel
theorem dX8_billOf_1 : decode cX8_billOf 1 = .ok (.iload_n 1, 1) := by decide +kernel
theorem dX8_billOf_2 : decode cX8_billOf 2 = .ok (.invokevirtual 58, 3) := by decide +kernel
theorem dX8_billOf_5 : decode cX8_billOf 5 = .ok (.aload_n 0, 1) := by decide +kernel
theorem dX8_billOf_6 : decode cX8_billOf 6 = .ok (.getfield 7, 3) := by decide +kernel
theorem dX8_billOf_9 : decode cX8_billOf 9 = .ok (.iconst 2, 1) := by decide +kernel
theorem dX8_billOf_10 : decode cX8_billOf 10 = .ok (.iaload, 1) := by decide +kernel
theorem dX8_billOf_11 : decode cX8_billOf 11 = .ok (.imul, 1) := by decide +kernel
theorem dX8_billOf_12 : decode cX8_billOf 12 = .ok (.sipush 1000, 3) := by decide +kernel
theorem dX8_billOf_15 : decode cX8_billOf 15 = .ok (.idiv, 1) := by decide +kernel
theorem dX8_billOf_16 : decode cX8_billOf 16 = .ok (.aload_n 0, 1) := by decide +kernel
theorem dX8_billOf_17 : decode cX8_billOf 17 = .ok (.iload_n 1, 1) := by decide +kernel
theorem dX8_billOf_18 : decode cX8_billOf 18 = .ok (.iconst 3, 1) := by decide +kernel
theorem dX8_billOf_19 : decode cX8_billOf 19 = .ok (.invokevirtual 48, 3) := by decide +kernel
theorem dX8_billOf_22 : decode cX8_billOf 22 = .ok (.aload_n 0, 1) := by decide +kernel
theorem dX8_billOf_23 : decode cX8_billOf 23 = .ok (.getfield 28, 3) := by decide +kernel
theorem dX8_billOf_26 : decode cX8_billOf 26 = .ok (.iload_n 1, 1) := by decide +kernel
theorem dX8_billOf_27 : decode cX8_billOf 27 = .ok (.iaload, 1) := by decide +kernel
theorem dX8_billOf_28 : decode cX8_billOf 28 = .ok (.aload_n 0, 1) := by decide +kernel
theorem dX8_billOf_29 : decode cX8_billOf 29 = .ok (.getfield 7, 3) := by decide +kernel
theorem dX8_billOf_32 : decode cX8_billOf 32 = .ok (.iconst 3, 1) := by decide +kernel
theorem dX8_billOf_33 : decode cX8_billOf 33 = .ok (.iaload, 1) := by decide +kernel
theorem dX8_billOf_34 : decode cX8_billOf 34 = .ok (.isub, 1) := by decide +kernel
theorem dX8_billOf_35 : decode cX8_billOf 35 = .ok (.imul, 1) := by decide +kernel
theorem dX8_billOf_36 : decode cX8_billOf 36 = .ok (.aload_n 0, 1) := by decide +kernel
theorem dX8_billOf_37 : decode cX8_billOf 37 = .ok (.getfield 7, 3) := by decide +kernel
theorem dX8_billOf_40 : decode cX8_billOf 40 = .ok (.iconst 4, 1) := by decide +kernel
theorem dX8_billOf_41 : decode cX8_billOf 41 = .ok (.iaload, 1) := by decide +kernel
theorem dX8_billOf_42 : decode cX8_billOf 42 = .ok (.imul, 1) := by decide +kernel
theorem dX8_billOf_43 : decode cX8_billOf 43 = .ok (.sipush 1000, 3) := by decide +kernel
theorem dX8_billOf_46 : decode cX8_billOf 46 = .ok (.idiv, 1) := by decide +kernel
theorem dX8_billOf_47 : decode cX8_billOf 47 = .ok (.iadd, 1) := by decide +kernel
theorem dX8_billOf_48 : decode cX8_billOf 48 = .ok (.ireturn, 1) := by decide +kernel
theorem dX8_heatOf_0 : decode cX8_heatOf 0 = .ok (.aload_n 0, 1) := by decide +kernel
theorem dX8_heatOf_1 : decode cX8_heatOf 1 = .ok (.getfield 25, 3) := by decide +kernel
theorem dX8_heatOf_4 : decode cX8_heatOf 4 = .ok (.aload_n 0, 1) := by decide +kernel
theorem dX8_heatOf_5 : decode cX8_heatOf 5 = .ok (.iload_n 1, 1) := by decide +kernel
theorem dX8_heatOf_6 : decode cX8_heatOf 6 = .ok (.iconst 0, 1) := by decide +kernel
theorem dX8_heatOf_7 : decode cX8_heatOf 7 = .ok (.invokevirtual 48, 3) := by decide +kernel
theorem dX8_heatOf_10 : decode cX8_heatOf 10 = .ok (.iaload, 1) := by decide +kernel
theorem dX8_heatOf_11 : decode cX8_heatOf 11 = .ok (.istore_n 3, 1) := by decide +kernel
theorem dX8_heatOf_12 : decode cX8_heatOf 12 = .ok (.iload_n 2, 1) := by decide +kernel
theorem dX8_heatOf_13 : decode cX8_heatOf 13 = .ok (.tableswitch 87 0 4 #[35, 41, 57, 71, 78], 35) := by decide +kernel
theorem dX8_heatOf_48 : decode cX8_heatOf 48 = .ok (.aload_n 0, 1) := by decide +kernel
theorem dX8_heatOf_49 : decode cX8_heatOf 49 = .ok (.iload_n 1, 1) := by decide +kernel
theorem dX8_heatOf_50 : decode cX8_heatOf 50 = .ok (.invokevirtual 58, 3) := by decide +kernel
theorem dX8_heatOf_53 : decode cX8_heatOf 53 = .ok (.ireturn, 1) := by decide +kernel
theorem dX8_heatOf_54 : decode cX8_heatOf 54 = .ok (.aload_n 0, 1) := by decide +kernel
theorem dX8_heatOf_55 : decode cX8_heatOf 55 = .ok (.getfield 22, 3) := by decide +kernel
theorem dX8_heatOf_58 : decode cX8_heatOf 58 = .ok (.iload_n 1, 1) := by decide +kernel
theorem dX8_heatOf_59 : decode cX8_heatOf 59 = .ok (.iaload, 1) := by decide +kernel
theorem dX8_heatOf_60 : decode cX8_heatOf 60 = .ok (.iload_n 3, 1) := by decide +kernel
theorem dX8_heatOf_61 : decode cX8_heatOf 61 = .ok (.aload_n 0, 1) := by decide +kernel
theorem dX8_heatOf_62 : decode cX8_heatOf 62 = .ok (.getfield 25, 3) := by decide +kernel
theorem dX8_heatOf_65 : decode cX8_heatOf 65 = .ok (.iload_n 1, 1) := by decide +kernel
theorem dX8_heatOf_66 : decode cX8_heatOf 66 = .ok (.iaload, 1) := by decide +kernel
theorem dX8_heatOf_67 : decode cX8_heatOf 67 = .ok (.isub, 1) := by decide +kernel
theorem dX8_heatOf_68 : decode cX8_heatOf 68 = .ok (.imul, 1) := by decide +kernel
theorem dX8_heatOf_69 : decode cX8_heatOf 69 = .ok (.ireturn, 1) := by decide +kernel
theorem dX8_heatOf_70 : decode cX8_heatOf 70 = .ok (.aload_n 0, 1) := by decide +kernel
theorem dX8_heatOf_71 : decode cX8_heatOf 71 = .ok (.iload_n 1, 1) := by decide +kernel
theorem dX8_heatOf_72 : decode cX8_heatOf 72 = .ok (.iconst 5, 1) := by decide +kernel
theorem dX8_heatOf_73 : decode cX8_heatOf 73 = .ok (.invokevirtual 48, 3) := by decide +kernel
theorem dX8_heatOf_76 : decode cX8_heatOf 76 = .ok (.aload_n 0, 1) := by decide +kernel
theorem dX8_heatOf_77 : decode cX8_heatOf 77 = .ok (.getfield 25, 3) := by decide +kernel
theorem dX8_heatOf_80 : decode cX8_heatOf 80 = .ok (.iload_n 1, 1) := by decide +kernel
theorem dX8_heatOf_81 : decode cX8_heatOf 81 = .ok (.iaload, 1) := by decide +kernel
theorem dX8_heatOf_82 : decode cX8_heatOf 82 = .ok (.imul, 1) := by decide +kernel
theorem dX8_heatOf_83 : decode cX8_heatOf 83 = .ok (.ireturn, 1) := by decide +kernel
theorem dX8_heatOf_84 : decode cX8_heatOf 84 = .ok (.aload_n 0, 1) := by decide +kernel
theorem dX8_heatOf_85 : decode cX8_heatOf 85 = .ok (.getfield 31, 3) := by decide +kernel
theorem dX8_heatOf_88 : decode cX8_heatOf 88 = .ok (.iload_n 1, 1) := by decide +kernel
theorem dX8_heatOf_89 : decode cX8_heatOf 89 = .ok (.iaload, 1) := by decide +kernel
theorem dX8_heatOf_90 : decode cX8_heatOf 90 = .ok (.ireturn, 1) := by decide +kernel
theorem dX8_heatOf_91 : decode cX8_heatOf 91 = .ok (.aload_n 0, 1) := by decide +kernel
theorem dX8_heatOf_92 : decode cX8_heatOf 92 = .ok (.getfield 22, 3) := by decide +kernel
theorem dX8_heatOf_95 : decode cX8_heatOf 95 = .ok (.iload_n 1, 1) := by decide +kernel
theorem dX8_heatOf_96 : decode cX8_heatOf 96 = .ok (.iaload, 1) := by decide +kernel
theorem dX8_heatOf_97 : decode cX8_heatOf 97 = .ok (.iload_n 3, 1) := by decide +kernel
theorem dX8_heatOf_98 : decode cX8_heatOf 98 = .ok (.imul, 1) := by decide +kernel
theorem dX8_heatOf_99 : decode cX8_heatOf 99 = .ok (.ireturn, 1) := by decide +kernel
theorem dX8_heatOf_100 : decode cX8_heatOf 100 = .ok (.aload_n 0, 1) := by decide +kernel
theorem dX8_heatOf_101 : decode cX8_heatOf 101 = .ok (.iload_n 1, 1) := by decide +kernel
theorem dX8_heatOf_102 : decode cX8_heatOf 102 = .ok (.invokevirtual 61, 3) := by decide +kernel
theorem dX8_heatOf_105 : decode cX8_heatOf 105 = .ok (.ireturn, 1) := by decide +kernel
theorem dX8_sumOf_0 : decode cX8_sumOf 0 = .ok (.iconst 0, 1) := by decide +kernel
theorem dX8_sumOf_1 : decode cX8_sumOf 1 = .ok (.istore_n 2, 1) := by decide +kernel
theorem dX8_sumOf_2 : decode cX8_sumOf 2 = .ok (.iconst 1, 1) := by decide +kernel
theorem dX8_sumOf_3 : decode cX8_sumOf 3 = .ok (.istore_n 3, 1) := by decide +kernel
theorem dX8_sumOf_4 : decode cX8_sumOf 4 = .ok (.iload_n 3, 1) := by decide +kernel
theorem dX8_sumOf_5 : decode cX8_sumOf 5 = .ok (.aload_n 0, 1) := by decide +kernel
theorem dX8_sumOf_6 : decode cX8_sumOf 6 = .ok (.getfield 7, 3) := by decide +kernel
theorem dX8_sumOf_9 : decode cX8_sumOf 9 = .ok (.iconst 5, 1) := by decide +kernel
theorem dX8_sumOf_10 : decode cX8_sumOf 10 = .ok (.iaload, 1) := by decide +kernel
theorem dX8_sumOf_11 : decode cX8_sumOf 11 = .ok (.if_icmp .ge 18, 3) := by decide +kernel
theorem dX8_sumOf_14 : decode cX8_sumOf 14 = .ok (.iload_n 2, 1) := by decide +kernel
theorem dX8_sumOf_15 : decode cX8_sumOf 15 = .ok (.aload_n 0, 1) := by decide +kernel
theorem dX8_sumOf_16 : decode cX8_sumOf 16 = .ok (.iload_n 3, 1) := by decide +kernel
theorem dX8_sumOf_17 : decode cX8_sumOf 17 = .ok (.iload_n 1, 1) := by decide +kernel
theorem dX8_sumOf_18 : decode cX8_sumOf 18 = .ok (.invokevirtual 64, 3) := by decide +kernel
theorem dX8_sumOf_21 : decode cX8_sumOf 21 = .ok (.iadd, 1) := by decide +kernel
theorem dX8_sumOf_22 : decode cX8_sumOf 22 = .ok (.istore_n 2, 1) := by decide +kernel
theorem dX8_sumOf_23 : decode cX8_sumOf 23 = .ok (.iinc 3 1, 3) := by decide +kernel
theorem dX8_sumOf_26 : decode cX8_sumOf 26 = .ok (.goto (-22), 3) := by decide +kernel
theorem dX8_sumOf_29 : decode cX8_sumOf 29 = .ok (.iload_n 2, 1) := by decide +kernel
theorem dX8_sumOf_30 : decode cX8_sumOf 30 = .ok (.ireturn, 1) := by decide +kernel
theorem dX8_ofBoiler_0 : decode cX8_ofBoiler 0 = .ok (.aload_n 0, 1) := by decide +kernel
theorem dX8_ofBoiler_1 : decode cX8_ofBoiler 1 = .ok (.getfield 7, 3) := by decide +kernel
theorem dX8_ofBoiler_4 : decode cX8_ofBoiler 4 = .ok (.sipush 137, 3) := by decide +kernel
theorem dX8_ofBoiler_7 : decode cX8_ofBoiler 7 = .ok (.iconst 3, 1) := by decide +kernel
theorem dX8_ofBoiler_8 : decode cX8_ofBoiler 8 = .ok (.iload_n 1, 1) := by decide +kernel
theorem dX8_ofBoiler_9 : decode cX8_ofBoiler 9 = .ok (.imul, 1) := by decide +kernel
theorem dX8_ofBoiler_10 : decode cX8_ofBoiler 10 = .ok (.iadd, 1) := by decide +kernel
theorem dX8_ofBoiler_11 : decode cX8_ofBoiler 11 = .ok (.iload_n 2, 1) := by decide +kernel
theorem dX8_ofBoiler_12 : decode cX8_ofBoiler 12 = .ok (.iadd, 1) := by decide +kernel
theorem dX8_ofBoiler_13 : decode cX8_ofBoiler 13 = .ok (.iaload, 1) := by decide +kernel
theorem dX8_ofBoiler_14 : decode cX8_ofBoiler 14 = .ok (.ireturn, 1) := by decide +kernel
theorem dX8_placeOf_0 : decode cX8_placeOf 0 = .ok (.iconst 0, 1) := by decide +kernel
theorem dX8_placeOf_1 : decode cX8_placeOf 1 = .ok (.istore_n 2, 1) := by decide +kernel
theorem dX8_placeOf_2 : decode cX8_placeOf 2 = .ok (.iconst 0, 1) := by decide +kernel
theorem dX8_placeOf_3 : decode cX8_placeOf 3 = .ok (.istore_n 3, 1) := by decide +kernel
theorem dX8_placeOf_4 : decode cX8_placeOf 4 = .ok (.iload_n 3, 1) := by decide +kernel
theorem dX8_placeOf_5 : decode cX8_placeOf 5 = .ok (.aload_n 0, 1) := by decide +kernel
theorem dX8_placeOf_6 : decode cX8_placeOf 6 = .ok (.getfield 7, 3) := by decide +kernel
theorem dX8_placeOf_9 : decode cX8_placeOf 9 = .ok (.bipush 6, 2) := by decide +kernel
theorem dX8_placeOf_11 : decode cX8_placeOf 11 = .ok (.iaload, 1) := by decide +kernel
theorem dX8_placeOf_12 : decode cX8_placeOf 12 = .ok (.if_icmp .ge 52, 3) := by decide +kernel
theorem dX8_placeOf_15 : decode cX8_placeOf 15 = .ok (.iload_n 2, 1) := by decide +kernel
theorem dX8_placeOf_16 : decode cX8_placeOf 16 = .ok (.aload_n 0, 1) := by decide +kernel
theorem dX8_placeOf_17 : decode cX8_placeOf 17 = .ok (.iload_n 3, 1) := by decide +kernel
end
section
theorem dX8_placeOf_18 : decode cX8_placeOf 18 = .ok (.iconst 2, 1) := by decide +kernel
theorem dX8_placeOf_19 : decode cX8_placeOf 19 = .ok (.invokevirtual 67, 3) := by decide +kernel
theorem dX8_placeOf_22 : decode cX8_placeOf 22 = .ok (.aload_n 0, 1) := by decide +kernel
theorem dX8_placeOf_23 : decode cX8_placeOf 23 = .ok (.iload_n 1, 1) := by decide +kernel
theorem dX8_placeOf_24 : decode cX8_placeOf 24 = .ok (.iconst 2, 1) := by decide +kernel
theorem dX8_placeOf_25 : decode cX8_placeOf 25 = .ok (.invokevirtual 67, 3) := by decide +kernel
theorem dX8_placeOf_28 : decode cX8_placeOf 28 = .ok (.if_icmp .lt 23, 3) := by decide +kernel
theorem dX8_placeOf_31 : decode cX8_placeOf 31 = .ok (.aload_n 0, 1) := by decide +kernel
theorem dX8_placeOf_32 : decode cX8_placeOf 32 = .ok (.iload_n 3, 1) := by decide +kernel
theorem dX8_placeOf_33 : decode cX8_placeOf 33 = .ok (.iconst 2, 1) := by decide +kernel
theorem dX8_placeOf_34 : decode cX8_placeOf 34 = .ok (.invokevirtual 67, 3) := by decide +kernel
theorem dX8_placeOf_37 : decode cX8_placeOf 37 = .ok (.aload_n 0, 1) := by decide +kernel
theorem dX8_placeOf_38 : decode cX8_placeOf 38 = .ok (.iload_n 1, 1) := by decide +kernel
theorem dX8_placeOf_39 : decode cX8_placeOf 39 = .ok (.iconst 2, 1) := by decide +kernel
theorem dX8_placeOf_40 : decode cX8_placeOf 40 = .ok (.invokevirtual 67, 3) := by decide +kernel
theorem dX8_placeOf_43 : decode cX8_placeOf 43 = .ok (.if_icmp .ne 12, 3) := by decide +kernel
theorem dX8_placeOf_46 : decode cX8_placeOf 46 = .ok (.iload_n 3, 1) := by decide +kernel
theorem dX8_placeOf_47 : decode cX8_placeOf 47 = .ok (.iload_n 1, 1) := by decide +kernel
theorem dX8_placeOf_48 : decode cX8_placeOf 48 = .ok (.if_icmp .ge 7, 3) := by decide +kernel
theorem dX8_placeOf_51 : decode cX8_placeOf 51 = .ok (.iconst 1, 1) := by decide +kernel
theorem dX8_placeOf_52 : decode cX8_placeOf 52 = .ok (.goto 4, 3) := by decide +kernel
theorem dX8_placeOf_55 : decode cX8_placeOf 55 = .ok (.iconst 0, 1) := by decide +kernel
theorem dX8_placeOf_56 : decode cX8_placeOf 56 = .ok (.iadd, 1) := by decide +kernel
theorem dX8_placeOf_57 : decode cX8_placeOf 57 = .ok (.istore_n 2, 1) := by decide +kernel
theorem dX8_placeOf_58 : decode cX8_placeOf 58 = .ok (.iinc 3 1, 3) := by decide +kernel
theorem dX8_placeOf_61 : decode cX8_placeOf 61 = .ok (.goto (-57), 3) := by decide +kernel
theorem dX8_placeOf_64 : decode cX8_placeOf 64 = .ok (.iload_n 2, 1) := by decide +kernel
theorem dX8_placeOf_65 : decode cX8_placeOf 65 = .ok (.ireturn, 1) := by decide +kernel
theorem dX8_boilerAt_0 : decode cX8_boilerAt 0 = .ok (.iconst 0, 1) := by decide +kernel
theorem dX8_boilerAt_1 : decode cX8_boilerAt 1 = .ok (.istore_n 2, 1) := by decide +kernel
theorem dX8_boilerAt_2 : decode cX8_boilerAt 2 = .ok (.aload_n 0, 1) := by decide +kernel
theorem dX8_boilerAt_3 : decode cX8_boilerAt 3 = .ok (.iload_n 2, 1) := by decide +kernel
theorem dX8_boilerAt_4 : decode cX8_boilerAt 4 = .ok (.invokevirtual 70, 3) := by decide +kernel
theorem dX8_boilerAt_7 : decode cX8_boilerAt 7 = .ok (.iload_n 1, 1) := by decide +kernel
theorem dX8_boilerAt_8 : decode cX8_boilerAt 8 = .ok (.if_icmp .eq 9, 3) := by decide +kernel
theorem dX8_boilerAt_11 : decode cX8_boilerAt 11 = .ok (.iinc 2 1, 3) := by decide +kernel
theorem dX8_boilerAt_14 : decode cX8_boilerAt 14 = .ok (.goto (-12), 3) := by decide +kernel
theorem dX8_boilerAt_17 : decode cX8_boilerAt 17 = .ok (.iload_n 2, 1) := by decide +kernel
theorem dX8_boilerAt_18 : decode cX8_boilerAt 18 = .ok (.ireturn, 1) := by decide +kernel
theorem dX8_costs_0 : decode cX8_costs 0 = .ok (.aload_n 0, 1) := by decide +kernel
theorem dX8_costs_1 : decode cX8_costs 1 = .ok (.invokevirtual 73, 3) := by decide +kernel
theorem dX8_costs_4 : decode cX8_costs 4 = .ok (.istore_n 1, 1) := by decide +kernel
theorem dX8_costs_5 : decode cX8_costs 5 = .ok (.iconst 0, 1) := by decide +kernel
theorem dX8_costs_6 : decode cX8_costs 6 = .ok (.istore_n 2, 1) := by decide +kernel
theorem dX8_costs_7 : decode cX8_costs 7 = .ok (.iconst 0, 1) := by decide +kernel
theorem dX8_costs_8 : decode cX8_costs 8 = .ok (.istore_n 3, 1) := by decide +kernel
theorem dX8_costs_9 : decode cX8_costs 9 = .ok (.iload_n 3, 1) := by decide +kernel
theorem dX8_costs_10 : decode cX8_costs 10 = .ok (.aload_n 0, 1) := by decide +kernel
theorem dX8_costs_11 : decode cX8_costs 11 = .ok (.getfield 7, 3) := by decide +kernel
theorem dX8_costs_14 : decode cX8_costs 14 = .ok (.bipush 6, 2) := by decide +kernel
theorem dX8_costs_16 : decode cX8_costs 16 = .ok (.iaload, 1) := by decide +kernel
theorem dX8_costs_17 : decode cX8_costs 17 = .ok (.if_icmp .ge 88, 3) := by decide +kernel
theorem dX8_costs_20 : decode cX8_costs 20 = .ok (.aload_n 0, 1) := by decide +kernel
theorem dX8_costs_21 : decode cX8_costs 21 = .ok (.iload_n 3, 1) := by decide +kernel
theorem dX8_costs_22 : decode cX8_costs 22 = .ok (.invokevirtual 77, 3) := by decide +kernel
theorem dX8_costs_25 : decode cX8_costs 25 = .ok (.istore 4, 2) := by decide +kernel
theorem dX8_costs_27 : decode cX8_costs 27 = .ok (.aload_n 0, 1) := by decide +kernel
theorem dX8_costs_28 : decode cX8_costs 28 = .ok (.iload 4, 2) := by decide +kernel
theorem dX8_costs_30 : decode cX8_costs 30 = .ok (.iconst 0, 1) := by decide +kernel
theorem dX8_costs_31 : decode cX8_costs 31 = .ok (.invokevirtual 67, 3) := by decide +kernel
theorem dX8_costs_34 : decode cX8_costs 34 = .ok (.iload_n 1, 1) := by decide +kernel
theorem dX8_costs_35 : decode cX8_costs 35 = .ok (.invokestatic 52, 3) := by decide +kernel
theorem dX8_costs_38 : decode cX8_costs 38 = .ok (.istore 5, 2) := by decide +kernel
theorem dX8_costs_40 : decode cX8_costs 40 = .ok (.iload_n 1, 1) := by decide +kernel
theorem dX8_costs_41 : decode cX8_costs 41 = .ok (.iload 5, 2) := by decide +kernel
theorem dX8_costs_43 : decode cX8_costs 43 = .ok (.isub, 1) := by decide +kernel
theorem dX8_costs_44 : decode cX8_costs 44 = .ok (.istore_n 1, 1) := by decide +kernel
theorem dX8_costs_45 : decode cX8_costs 45 = .ok (.iload 5, 2) := by decide +kernel
theorem dX8_costs_47 : decode cX8_costs 47 = .ok (.ifCond .le 26, 3) := by decide +kernel
theorem dX8_costs_50 : decode cX8_costs 50 = .ok (.iload 5, 2) := by decide +kernel
theorem dX8_costs_52 : decode cX8_costs 52 = .ok (.aload_n 0, 1) := by decide +kernel
theorem dX8_costs_53 : decode cX8_costs 53 = .ok (.iload 4, 2) := by decide +kernel
theorem dX8_costs_55 : decode cX8_costs 55 = .ok (.iconst 1, 1) := by decide +kernel
theorem dX8_costs_56 : decode cX8_costs 56 = .ok (.invokevirtual 67, 3) := by decide +kernel
theorem dX8_costs_59 : decode cX8_costs 59 = .ok (.if_icmp .ge 14, 3) := by decide +kernel
theorem dX8_costs_62 : decode cX8_costs 62 = .ok (.aload_n 0, 1) := by decide +kernel
theorem dX8_costs_63 : decode cX8_costs 63 = .ok (.iload 4, 2) := by decide +kernel
theorem dX8_costs_65 : decode cX8_costs 65 = .ok (.iconst 1, 1) := by decide +kernel
theorem dX8_costs_66 : decode cX8_costs 66 = .ok (.invokevirtual 67, 3) := by decide +kernel
theorem dX8_costs_69 : decode cX8_costs 69 = .ok (.istore 5, 2) := by decide +kernel
theorem dX8_costs_71 : decode cX8_costs 71 = .ok (.iconst 0, 1) := by decide +kernel
theorem dX8_costs_72 : decode cX8_costs 72 = .ok (.istore_n 1, 1) := by decide +kernel
theorem dX8_costs_73 : decode cX8_costs 73 = .ok (.aload_n 0, 1) := by decide +kernel
theorem dX8_costs_74 : decode cX8_costs 74 = .ok (.getfield 34, 3) := by decide +kernel
theorem dX8_costs_77 : decode cX8_costs 77 = .ok (.iload 4, 2) := by decide +kernel
theorem dX8_costs_79 : decode cX8_costs 79 = .ok (.iload 5, 2) := by decide +kernel
theorem dX8_costs_81 : decode cX8_costs 81 = .ok (.iastore, 1) := by decide +kernel
theorem dX8_costs_82 : decode cX8_costs 82 = .ok (.iload_n 2, 1) := by decide +kernel
theorem dX8_costs_83 : decode cX8_costs 83 = .ok (.iload 5, 2) := by decide +kernel
theorem dX8_costs_85 : decode cX8_costs 85 = .ok (.aload_n 0, 1) := by decide +kernel
theorem dX8_costs_86 : decode cX8_costs 86 = .ok (.iload 4, 2) := by decide +kernel
theorem dX8_costs_88 : decode cX8_costs 88 = .ok (.iconst 2, 1) := by decide +kernel
theorem dX8_costs_89 : decode cX8_costs 89 = .ok (.invokevirtual 67, 3) := by decide +kernel
theorem dX8_costs_92 : decode cX8_costs 92 = .ok (.imul, 1) := by decide +kernel
theorem dX8_costs_93 : decode cX8_costs 93 = .ok (.sipush 1000, 3) := by decide +kernel
theorem dX8_costs_96 : decode cX8_costs 96 = .ok (.idiv, 1) := by decide +kernel
theorem dX8_costs_97 : decode cX8_costs 97 = .ok (.iadd, 1) := by decide +kernel
theorem dX8_costs_98 : decode cX8_costs 98 = .ok (.istore_n 2, 1) := by decide +kernel
theorem dX8_costs_99 : decode cX8_costs 99 = .ok (.iinc 3 1, 3) := by decide +kernel
theorem dX8_costs_102 : decode cX8_costs 102 = .ok (.goto (-93), 3) := by decide +kernel
theorem dX8_costs_105 : decode cX8_costs 105 = .ok (.aload_n 0, 1) := by decide +kernel
theorem dX8_costs_106 : decode cX8_costs 106 = .ok (.iload_n 1, 1) := by decide +kernel
theorem dX8_costs_107 : decode cX8_costs 107 = .ok (.putfield 80, 3) := by decide +kernel
theorem dX8_costs_110 : decode cX8_costs 110 = .ok (.iload_n 2, 1) := by decide +kernel
theorem dX8_costs_111 : decode cX8_costs 111 = .ok (.ireturn, 1) := by decide +kernel
theorem dX8_isPipe__0 : decode cX8_isPipe_ 0 = .ok (.iload_n 0, 1) := by decide +kernel
theorem dX8_isPipe__1 : decode cX8_isPipe_ 1 = .ok (.iconst 1, 1) := by decide +kernel
theorem dX8_isPipe__2 : decode cX8_isPipe_ 2 = .ok (.sipush 500, 3) := by decide +kernel
theorem dX8_isPipe__5 : decode cX8_isPipe_ 5 = .ok (.invokestatic 83, 3) := by decide +kernel
theorem dX8_isPipe__8 : decode cX8_isPipe_ 8 = .ok (.ifCond .eq 17, 3) := by decide +kernel
theorem dX8_isPipe__11 : decode cX8_isPipe_ 11 = .ok (.iload_n 1, 1) := by decide +kernel
theorem dX8_isPipe__12 : decode cX8_isPipe_ 12 = .ok (.iconst 0, 1) := by decide +kernel
theorem dX8_isPipe__13 : decode cX8_isPipe_ 13 = .ok (.bipush 50, 2) := by decide +kernel
theorem dX8_isPipe__15 : decode cX8_isPipe_ 15 = .ok (.invokestatic 83, 3) := by decide +kernel
theorem dX8_isPipe__18 : decode cX8_isPipe_ 18 = .ok (.ifCond .eq 7, 3) := by decide +kernel
theorem dX8_isPipe__21 : decode cX8_isPipe_ 21 = .ok (.iconst 1, 1) := by decide +kernel
theorem dX8_isPipe__22 : decode cX8_isPipe_ 22 = .ok (.goto 4, 3) := by decide +kernel
theorem dX8_isPipe__25 : decode cX8_isPipe_ 25 = .ok (.iconst 0, 1) := by decide +kernel
theorem dX8_isPipe__26 : decode cX8_isPipe_ 26 = .ok (.ireturn, 1) := by decide +kernel
theorem dX8_isCustomer_0 : decode cX8_isCustomer 0 = .ok (.iload_n 0, 1) := by decide +kernel
theorem dX8_isCustomer_1 : decode cX8_isCustomer 1 = .ok (.iconst 0, 1) := by decide +kernel
theorem dX8_isCustomer_2 : decode cX8_isCustomer 2 = .ok (.sipush 500, 3) := by decide +kernel
theorem dX8_isCustomer_5 : decode cX8_isCustomer 5 = .ok (.invokestatic 83, 3) := by decide +kernel
theorem dX8_isCustomer_8 : decode cX8_isCustomer 8 = .ok (.ifCond .eq 18, 3) := by decide +kernel
theorem dX8_isCustomer_11 : decode cX8_isCustomer 11 = .ok (.iload_n 1, 1) := by decide +kernel
theorem dX8_isCustomer_12 : decode cX8_isCustomer 12 = .ok (.iconst 0, 1) := by decide +kernel
theorem dX8_isCustomer_13 : decode cX8_isCustomer 13 = .ok (.sipush 1200, 3) := by decide +kernel
theorem dX8_isCustomer_16 : decode cX8_isCustomer 16 = .ok (.invokestatic 83, 3) := by decide +kernel
theorem dX8_isCustomer_19 : decode cX8_isCustomer 19 = .ok (.ifCond .eq 7, 3) := by decide +kernel
theorem dX8_isCustomer_22 : decode cX8_isCustomer 22 = .ok (.iconst 1, 1) := by decide +kernel
theorem dX8_isCustomer_23 : decode cX8_isCustomer 23 = .ok (.goto 4, 3) := by decide +kernel
theorem dX8_isCustomer_26 : decode cX8_isCustomer 26 = .ok (.iconst 0, 1) := by decide +kernel
theorem dX8_isCustomer_27 : decode cX8_isCustomer 27 = .ok (.ireturn, 1) := by decide +kernel
theorem dX8_adds_0 : decode cX8_adds 0 = .ok (.aload_n 0, 1) := by decide +kernel
theorem dX8_adds_1 : decode cX8_adds 1 = .ok (.getfield 7, 3) := by decide +kernel
theorem dX8_adds_4 : decode cX8_adds 4 = .ok (.iconst 5, 1) := by decide +kernel
theorem dX8_adds_5 : decode cX8_adds 5 = .ok (.iaload, 1) := by decide +kernel
theorem dX8_adds_6 : decode cX8_adds 6 = .ok (.istore 6, 2) := by decide +kernel
theorem dX8_adds_8 : decode cX8_adds 8 = .ok (.aload_n 0, 1) := by decide +kernel
theorem dX8_adds_9 : decode cX8_adds 9 = .ok (.iload 6, 2) := by decide +kernel
theorem dX8_adds_11 : decode cX8_adds 11 = .ok (.iconst 0, 1) := by decide +kernel
theorem dX8_adds_12 : decode cX8_adds 12 = .ok (.iload_n 1, 1) := by decide +kernel
theorem dX8_adds_13 : decode cX8_adds 13 = .ok (.invokevirtual 87, 3) := by decide +kernel
theorem dX8_adds_16 : decode cX8_adds 16 = .ok (.aload_n 0, 1) := by decide +kernel
theorem dX8_adds_17 : decode cX8_adds 17 = .ok (.iload 6, 2) := by decide +kernel
theorem dX8_adds_19 : decode cX8_adds 19 = .ok (.iconst 1, 1) := by decide +kernel
theorem dX8_adds_20 : decode cX8_adds 20 = .ok (.iload_n 2, 1) := by decide +kernel
theorem dX8_adds_21 : decode cX8_adds 21 = .ok (.invokevirtual 87, 3) := by decide +kernel
theorem dX8_adds_24 : decode cX8_adds 24 = .ok (.aload_n 0, 1) := by decide +kernel
theorem dX8_adds_25 : decode cX8_adds 25 = .ok (.iload 6, 2) := by decide +kernel
theorem dX8_adds_27 : decode cX8_adds 27 = .ok (.iconst 2, 1) := by decide +kernel
theorem dX8_adds_28 : decode cX8_adds 28 = .ok (.iload_n 3, 1) := by decide +kernel
theorem dX8_adds_29 : decode cX8_adds 29 = .ok (.invokevirtual 87, 3) := by decide +kernel
theorem dX8_adds_32 : decode cX8_adds 32 = .ok (.aload_n 0, 1) := by decide +kernel
theorem dX8_adds_33 : decode cX8_adds 33 = .ok (.iload 6, 2) := by decide +kernel
theorem dX8_adds_35 : decode cX8_adds 35 = .ok (.iconst 3, 1) := by decide +kernel
theorem dX8_adds_36 : decode cX8_adds 36 = .ok (.iload 4, 2) := by decide +kernel
theorem dX8_adds_38 : decode cX8_adds 38 = .ok (.invokevirtual 87, 3) := by decide +kernel
theorem dX8_adds_41 : decode cX8_adds 41 = .ok (.aload_n 0, 1) := by decide +kernel
theorem dX8_adds_42 : decode cX8_adds 42 = .ok (.iload 6, 2) := by decide +kernel
theorem dX8_adds_44 : decode cX8_adds 44 = .ok (.iconst 4, 1) := by decide +kernel
theorem dX8_adds_45 : decode cX8_adds 45 = .ok (.iload 5, 2) := by decide +kernel
theorem dX8_adds_47 : decode cX8_adds 47 = .ok (.invokevirtual 87, 3) := by decide +kernel
theorem dX8_adds_50 : decode cX8_adds 50 = .ok (.aload_n 0, 1) := by decide +kernel
theorem dX8_adds_51 : decode cX8_adds 51 = .ok (.iload 6, 2) := by decide +kernel
theorem dX8_adds_53 : decode cX8_adds 53 = .ok (.iconst 5, 1) := by decide +kernel
theorem dX8_adds_54 : decode cX8_adds 54 = .ok (.iconst 0, 1) := by decide +kernel
theorem dX8_adds_55 : decode cX8_adds 55 = .ok (.invokevirtual 87, 3) := by decide +kernel
theorem dX8_adds_58 : decode cX8_adds 58 = .ok (.aload_n 0, 1) := by decide +kernel
theorem dX8_adds_59 : decode cX8_adds 59 = .ok (.iload 6, 2) := by decide +kernel
theorem dX8_adds_61 : decode cX8_adds 61 = .ok (.bipush 6, 2) := by decide +kernel
theorem dX8_adds_63 : decode cX8_adds 63 = .ok (.iconst 0, 1) := by decide +kernel
theorem dX8_adds_64 : decode cX8_adds 64 = .ok (.invokevirtual 87, 3) := by decide +kernel
theorem dX8_adds_67 : decode cX8_adds 67 = .ok (.aload_n 0, 1) := by decide +kernel
theorem dX8_adds_68 : decode cX8_adds 68 = .ok (.iload 6, 2) := by decide +kernel
theorem dX8_adds_70 : decode cX8_adds 70 = .ok (.bipush 7, 2) := by decide +kernel
theorem dX8_adds_72 : decode cX8_adds 72 = .ok (.iconst 0, 1) := by decide +kernel
theorem dX8_adds_73 : decode cX8_adds 73 = .ok (.invokevirtual 87, 3) := by decide +kernel
theorem dX8_adds_76 : decode cX8_adds 76 = .ok (.aload_n 0, 1) := by decide +kernel
theorem dX8_adds_77 : decode cX8_adds 77 = .ok (.getfield 7, 3) := by decide +kernel
theorem dX8_adds_80 : decode cX8_adds 80 = .ok (.iconst 5, 1) := by decide +kernel
theorem dX8_adds_81 : decode cX8_adds 81 = .ok (.dup2, 1) := by decide +kernel
theorem dX8_adds_82 : decode cX8_adds 82 = .ok (.iaload, 1) := by decide +kernel
theorem dX8_adds_83 : decode cX8_adds 83 = .ok (.iconst 1, 1) := by decide +kernel
theorem dX8_adds_84 : decode cX8_adds 84 = .ok (.iadd, 1) := by decide +kernel
theorem dX8_adds_85 : decode cX8_adds 85 = .ok (.iastore, 1) := by decide +kernel
theorem dX8_adds_86 : decode cX8_adds 86 = .ok (.return_, 1) := by decide +kernel
theorem dX8_addNode_0 : decode cX8_addNode 0 = .ok (.aload_n 0, 1) := by decide +kernel
theorem dX8_addNode_1 : decode cX8_addNode 1 = .ok (.iload_n 1, 1) := by decide +kernel
theorem dX8_addNode_2 : decode cX8_addNode 2 = .ok (.invokevirtual 91, 3) := by decide +kernel
theorem dX8_addNode_5 : decode cX8_addNode 5 = .ok (.ifCond .ne 9, 3) := by decide +kernel
theorem dX8_addNode_8 : decode cX8_addNode 8 = .ok (.aload_n 0, 1) := by decide +kernel
theorem dX8_addNode_9 : decode cX8_addNode 9 = .ok (.iconst 1, 1) := by decide +kernel
theorem dX8_addNode_10 : decode cX8_addNode 10 = .ok (.invokevirtual 95, 3) := by decide +kernel
theorem dX8_addNode_13 : decode cX8_addNode 13 = .ok (.ireturn, 1) := by decide +kernel
theorem dX8_addNode_14 : decode cX8_addNode 14 = .ok (.iload_n 2, 1) := by decide +kernel
theorem dX8_addNode_15 : decode cX8_addNode 15 = .ok (.iload_n 3, 1) := by decide +kernel
theorem dX8_addNode_16 : decode cX8_addNode 16 = .ok (.invokestatic 98, 3) := by decide +kernel
theorem dX8_addNode_19 : decode cX8_addNode 19 = .ok (.ifCond .eq 13, 3) := by decide +kernel
theorem dX8_addNode_22 : decode cX8_addNode 22 = .ok (.iload 4, 2) := by decide +kernel
theorem dX8_addNode_24 : decode cX8_addNode 24 = .ok (.iload 5, 2) := by decide +kernel
theorem dX8_addNode_26 : decode cX8_addNode 26 = .ok (.invokestatic 102, 3) := by decide +kernel
theorem dX8_addNode_29 : decode cX8_addNode 29 = .ok (.ifCond .ne 9, 3) := by decide +kernel
theorem dX8_addNode_32 : decode cX8_addNode 32 = .ok (.aload_n 0, 1) := by decide +kernel
theorem dX8_addNode_33 : decode cX8_addNode 33 = .ok (.iconst 2, 1) := by decide +kernel
theorem dX8_addNode_34 : decode cX8_addNode 34 = .ok (.invokevirtual 95, 3) := by decide +kernel
theorem dX8_addNode_37 : decode cX8_addNode 37 = .ok (.ireturn, 1) := by decide +kernel
theorem dX8_addNode_38 : decode cX8_addNode 38 = .ok (.aload_n 0, 1) := by decide +kernel
theorem dX8_addNode_39 : decode cX8_addNode 39 = .ok (.getfield 7, 3) := by decide +kernel
theorem dX8_addNode_42 : decode cX8_addNode 42 = .ok (.iconst 5, 1) := by decide +kernel
theorem dX8_addNode_43 : decode cX8_addNode 43 = .ok (.iaload, 1) := by decide +kernel
theorem dX8_addNode_44 : decode cX8_addNode 44 = .ok (.bipush 16, 2) := by decide +kernel
theorem dX8_addNode_46 : decode cX8_addNode 46 = .ok (.if_icmp .ne 9, 3) := by decide +kernel
theorem dX8_addNode_49 : decode cX8_addNode 49 = .ok (.aload_n 0, 1) := by decide +kernel
theorem dX8_addNode_50 : decode cX8_addNode 50 = .ok (.iconst 3, 1) := by decide +kernel
theorem dX8_addNode_51 : decode cX8_addNode 51 = .ok (.invokevirtual 95, 3) := by decide +kernel
theorem dX8_addNode_54 : decode cX8_addNode 54 = .ok (.ireturn, 1) := by decide +kernel
theorem dX8_addNode_55 : decode cX8_addNode 55 = .ok (.aload_n 0, 1) := by decide +kernel
theorem dX8_addNode_56 : decode cX8_addNode 56 = .ok (.invokevirtual 105, 3) := by decide +kernel
theorem dX8_addNode_59 : decode cX8_addNode 59 = .ok (.aload_n 0, 1) := by decide +kernel
theorem dX8_addNode_60 : decode cX8_addNode 60 = .ok (.iload_n 1, 1) := by decide +kernel
theorem dX8_addNode_61 : decode cX8_addNode 61 = .ok (.iload_n 2, 1) := by decide +kernel
theorem dX8_addNode_62 : decode cX8_addNode 62 = .ok (.iload_n 3, 1) := by decide +kernel
theorem dX8_addNode_63 : decode cX8_addNode 63 = .ok (.iload 4, 2) := by decide +kernel
theorem dX8_addNode_65 : decode cX8_addNode 65 = .ok (.iload 5, 2) := by decide +kernel
theorem dX8_addNode_67 : decode cX8_addNode 67 = .ok (.invokevirtual 108, 3) := by decide +kernel
theorem dX8_addNode_70 : decode cX8_addNode 70 = .ok (.aload_n 0, 1) := by decide +kernel
theorem dX8_addNode_71 : decode cX8_addNode 71 = .ok (.aload_n 0, 1) := by decide +kernel
theorem dX8_addNode_72 : decode cX8_addNode 72 = .ok (.getfield 7, 3) := by decide +kernel
theorem dX8_addNode_75 : decode cX8_addNode 75 = .ok (.iconst 5, 1) := by decide +kernel
theorem dX8_addNode_76 : decode cX8_addNode 76 = .ok (.iaload, 1) := by decide +kernel
theorem dX8_addNode_77 : decode cX8_addNode 77 = .ok (.iconst 1, 1) := by decide +kernel
theorem dX8_addNode_78 : decode cX8_addNode 78 = .ok (.isub, 1) := by decide +kernel
theorem dX8_addNode_79 : decode cX8_addNode 79 = .ok (.invokevirtual 112, 3) := by decide +kernel
theorem dX8_addNode_82 : decode cX8_addNode 82 = .ok (.ireturn, 1) := by decide +kernel
theorem dX8_setDraw_0 : decode cX8_setDraw 0 = .ok (.aload_n 0, 1) := by decide +kernel
theorem dX8_setDraw_1 : decode cX8_setDraw 1 = .ok (.iload_n 1, 1) := by decide +kernel
theorem dX8_setDraw_2 : decode cX8_setDraw 2 = .ok (.invokevirtual 115, 3) := by decide +kernel
theorem dX8_setDraw_5 : decode cX8_setDraw 5 = .ok (.ifCond .ne 9, 3) := by decide +kernel
theorem dX8_setDraw_8 : decode cX8_setDraw 8 = .ok (.aload_n 0, 1) := by decide +kernel
theorem dX8_setDraw_9 : decode cX8_setDraw 9 = .ok (.iconst 1, 1) := by decide +kernel
theorem dX8_setDraw_10 : decode cX8_setDraw 10 = .ok (.invokevirtual 95, 3) := by decide +kernel
theorem dX8_setDraw_13 : decode cX8_setDraw 13 = .ok (.ireturn, 1) := by decide +kernel
theorem dX8_setDraw_14 : decode cX8_setDraw 14 = .ok (.iload_n 2, 1) := by decide +kernel
theorem dX8_setDraw_15 : decode cX8_setDraw 15 = .ok (.iload_n 3, 1) := by decide +kernel
theorem dX8_setDraw_16 : decode cX8_setDraw 16 = .ok (.invokestatic 102, 3) := by decide +kernel
theorem dX8_setDraw_19 : decode cX8_setDraw 19 = .ok (.ifCond .ne 9, 3) := by decide +kernel
theorem dX8_setDraw_22 : decode cX8_setDraw 22 = .ok (.aload_n 0, 1) := by decide +kernel
theorem dX8_setDraw_23 : decode cX8_setDraw 23 = .ok (.iconst 2, 1) := by decide +kernel
theorem dX8_setDraw_24 : decode cX8_setDraw 24 = .ok (.invokevirtual 95, 3) := by decide +kernel
theorem dX8_setDraw_27 : decode cX8_setDraw 27 = .ok (.ireturn, 1) := by decide +kernel
theorem dX8_setDraw_28 : decode cX8_setDraw 28 = .ok (.aload_n 0, 1) := by decide +kernel
theorem dX8_setDraw_29 : decode cX8_setDraw 29 = .ok (.invokevirtual 105, 3) := by decide +kernel
theorem dX8_setDraw_32 : decode cX8_setDraw 32 = .ok (.aload_n 0, 1) := by decide +kernel
theorem dX8_setDraw_33 : decode cX8_setDraw 33 = .ok (.iload_n 1, 1) := by decide +kernel
theorem dX8_setDraw_34 : decode cX8_setDraw 34 = .ok (.iconst 3, 1) := by decide +kernel
theorem dX8_setDraw_35 : decode cX8_setDraw 35 = .ok (.invokevirtual 48, 3) := by decide +kernel
theorem dX8_setDraw_38 : decode cX8_setDraw 38 = .ok (.istore 4, 2) := by decide +kernel
theorem dX8_setDraw_40 : decode cX8_setDraw 40 = .ok (.aload_n 0, 1) := by decide +kernel
theorem dX8_setDraw_41 : decode cX8_setDraw 41 = .ok (.iload_n 1, 1) := by decide +kernel
theorem dX8_setDraw_42 : decode cX8_setDraw 42 = .ok (.iconst 3, 1) := by decide +kernel
theorem dX8_setDraw_43 : decode cX8_setDraw 43 = .ok (.iload_n 2, 1) := by decide +kernel
theorem dX8_setDraw_44 : decode cX8_setDraw 44 = .ok (.invokevirtual 87, 3) := by decide +kernel
theorem dX8_setDraw_47 : decode cX8_setDraw 47 = .ok (.aload_n 0, 1) := by decide +kernel
theorem dX8_setDraw_48 : decode cX8_setDraw 48 = .ok (.iload_n 1, 1) := by decide +kernel
theorem dX8_setDraw_49 : decode cX8_setDraw 49 = .ok (.iconst 4, 1) := by decide +kernel
theorem dX8_setDraw_50 : decode cX8_setDraw 50 = .ok (.iload_n 3, 1) := by decide +kernel
theorem dX8_setDraw_51 : decode cX8_setDraw 51 = .ok (.invokevirtual 87, 3) := by decide +kernel
theorem dX8_setDraw_54 : decode cX8_setDraw 54 = .ok (.aload_n 0, 1) := by decide +kernel
theorem dX8_setDraw_55 : decode cX8_setDraw 55 = .ok (.iload 4, 2) := by decide +kernel
theorem dX8_setDraw_57 : decode cX8_setDraw 57 = .ok (.invokevirtual 112, 3) := by decide +kernel
theorem dX8_setDraw_60 : decode cX8_setDraw 60 = .ok (.ireturn, 1) := by decide +kernel
theorem dX8_setLeak_0 : decode cX8_setLeak 0 = .ok (.aload_n 0, 1) := by decide +kernel
theorem dX8_setLeak_1 : decode cX8_setLeak 1 = .ok (.iload_n 1, 1) := by decide +kernel
theorem dX8_setLeak_2 : decode cX8_setLeak 2 = .ok (.invokevirtual 115, 3) := by decide +kernel
theorem dX8_setLeak_5 : decode cX8_setLeak 5 = .ok (.ifCond .ne 9, 3) := by decide +kernel
theorem dX8_setLeak_8 : decode cX8_setLeak 8 = .ok (.aload_n 0, 1) := by decide +kernel
theorem dX8_setLeak_9 : decode cX8_setLeak 9 = .ok (.iconst 1, 1) := by decide +kernel
theorem dX8_setLeak_10 : decode cX8_setLeak 10 = .ok (.invokevirtual 95, 3) := by decide +kernel
theorem dX8_setLeak_13 : decode cX8_setLeak 13 = .ok (.ireturn, 1) := by decide +kernel
theorem dX8_setLeak_14 : decode cX8_setLeak 14 = .ok (.iload_n 2, 1) := by decide +kernel
theorem dX8_setLeak_15 : decode cX8_setLeak 15 = .ok (.iconst 0, 1) := by decide +kernel
theorem dX8_setLeak_16 : decode cX8_setLeak 16 = .ok (.bipush 100, 2) := by decide +kernel
theorem dX8_setLeak_18 : decode cX8_setLeak 18 = .ok (.invokestatic 83, 3) := by decide +kernel
theorem dX8_setLeak_21 : decode cX8_setLeak 21 = .ok (.ifCond .ne 9, 3) := by decide +kernel
theorem dX8_setLeak_24 : decode cX8_setLeak 24 = .ok (.aload_n 0, 1) := by decide +kernel
theorem dX8_setLeak_25 : decode cX8_setLeak 25 = .ok (.iconst 2, 1) := by decide +kernel
theorem dX8_setLeak_26 : decode cX8_setLeak 26 = .ok (.invokevirtual 95, 3) := by decide +kernel
theorem dX8_setLeak_29 : decode cX8_setLeak 29 = .ok (.ireturn, 1) := by decide +kernel
theorem dX8_setLeak_30 : decode cX8_setLeak 30 = .ok (.aload_n 0, 1) := by decide +kernel
theorem dX8_setLeak_31 : decode cX8_setLeak 31 = .ok (.invokevirtual 105, 3) := by decide +kernel
theorem dX8_setLeak_34 : decode cX8_setLeak 34 = .ok (.aload_n 0, 1) := by decide +kernel
theorem dX8_setLeak_35 : decode cX8_setLeak 35 = .ok (.iload_n 1, 1) := by decide +kernel
theorem dX8_setLeak_36 : decode cX8_setLeak 36 = .ok (.iconst 5, 1) := by decide +kernel
theorem dX8_setLeak_37 : decode cX8_setLeak 37 = .ok (.invokevirtual 48, 3) := by decide +kernel
theorem dX8_setLeak_40 : decode cX8_setLeak 40 = .ok (.istore_n 3, 1) := by decide +kernel
theorem dX8_setLeak_41 : decode cX8_setLeak 41 = .ok (.aload_n 0, 1) := by decide +kernel
theorem dX8_setLeak_42 : decode cX8_setLeak 42 = .ok (.iload_n 1, 1) := by decide +kernel
theorem dX8_setLeak_43 : decode cX8_setLeak 43 = .ok (.iconst 5, 1) := by decide +kernel
theorem dX8_setLeak_44 : decode cX8_setLeak 44 = .ok (.iload_n 2, 1) := by decide +kernel
theorem dX8_setLeak_45 : decode cX8_setLeak 45 = .ok (.invokevirtual 87, 3) := by decide +kernel
theorem dX8_setLeak_48 : decode cX8_setLeak 48 = .ok (.aload_n 0, 1) := by decide +kernel
theorem dX8_setLeak_49 : decode cX8_setLeak 49 = .ok (.iload_n 3, 1) := by decide +kernel
theorem dX8_setLeak_50 : decode cX8_setLeak 50 = .ok (.invokevirtual 112, 3) := by decide +kernel
theorem dX8_setLeak_53 : decode cX8_setLeak 53 = .ok (.ireturn, 1) := by decide +kernel
theorem dX8_setTemperatures_0 : decode cX8_setTemperatures 0 = .ok (.iload_n 1, 1) := by decide +kernel
theorem dX8_setTemperatures_1 : decode cX8_setTemperatures 1 = .ok (.sipush 400, 3) := by decide +kernel
theorem dX8_setTemperatures_4 : decode cX8_setTemperatures 4 = .ok (.sipush 1200, 3) := by decide +kernel
theorem dX8_setTemperatures_7 : decode cX8_setTemperatures 7 = .ok (.invokestatic 83, 3) := by decide +kernel
theorem dX8_setTemperatures_10 : decode cX8_setTemperatures 10 = .ok (.ifCond .eq 16, 3) := by decide +kernel
theorem dX8_setTemperatures_13 : decode cX8_setTemperatures 13 = .ok (.iload_n 2, 1) := by decide +kernel
theorem dX8_setTemperatures_14 : decode cX8_setTemperatures 14 = .ok (.sipush (-200), 3) := by decide +kernel
theorem dX8_setTemperatures_17 : decode cX8_setTemperatures 17 = .ok (.sipush 300, 3) := by decide +kernel
theorem dX8_setTemperatures_20 : decode cX8_setTemperatures 20 = .ok (.invokestatic 83, 3) := by decide +kernel
theorem dX8_setTemperatures_23 : decode cX8_setTemperatures 23 = .ok (.ifCond .ne 9, 3) := by decide +kernel
theorem dX8_setTemperatures_26 : decode cX8_setTemperatures 26 = .ok (.aload_n 0, 1) := by decide +kernel
theorem dX8_setTemperatures_27 : decode cX8_setTemperatures 27 = .ok (.iconst 1, 1) := by decide +kernel
theorem dX8_setTemperatures_28 : decode cX8_setTemperatures 28 = .ok (.invokevirtual 95, 3) := by decide +kernel
theorem dX8_setTemperatures_31 : decode cX8_setTemperatures 31 = .ok (.ireturn, 1) := by decide +kernel
theorem dX8_setTemperatures_32 : decode cX8_setTemperatures 32 = .ok (.aload_n 0, 1) := by decide +kernel
theorem dX8_setTemperatures_33 : decode cX8_setTemperatures 33 = .ok (.invokevirtual 105, 3) := by decide +kernel
theorem dX8_setTemperatures_36 : decode cX8_setTemperatures 36 = .ok (.aload_n 0, 1) := by decide +kernel
theorem dX8_setTemperatures_37 : decode cX8_setTemperatures 37 = .ok (.getfield 7, 3) := by decide +kernel
theorem dX8_setTemperatures_40 : decode cX8_setTemperatures 40 = .ok (.iconst 0, 1) := by decide +kernel
theorem dX8_setTemperatures_41 : decode cX8_setTemperatures 41 = .ok (.iaload, 1) := by decide +kernel
theorem dX8_setTemperatures_42 : decode cX8_setTemperatures 42 = .ok (.istore_n 3, 1) := by decide +kernel
theorem dX8_setTemperatures_43 : decode cX8_setTemperatures 43 = .ok (.aload_n 0, 1) := by decide +kernel
theorem dX8_setTemperatures_44 : decode cX8_setTemperatures 44 = .ok (.getfield 7, 3) := by decide +kernel
theorem dX8_setTemperatures_47 : decode cX8_setTemperatures 47 = .ok (.iconst 0, 1) := by decide +kernel
theorem dX8_setTemperatures_48 : decode cX8_setTemperatures 48 = .ok (.iload_n 1, 1) := by decide +kernel
theorem dX8_setTemperatures_49 : decode cX8_setTemperatures 49 = .ok (.iastore, 1) := by decide +kernel
theorem dX8_setTemperatures_50 : decode cX8_setTemperatures 50 = .ok (.aload_n 0, 1) := by decide +kernel
theorem dX8_setTemperatures_51 : decode cX8_setTemperatures 51 = .ok (.getfield 7, 3) := by decide +kernel
theorem dX8_setTemperatures_54 : decode cX8_setTemperatures 54 = .ok (.iconst 1, 1) := by decide +kernel
theorem dX8_setTemperatures_55 : decode cX8_setTemperatures 55 = .ok (.iload_n 2, 1) := by decide +kernel
theorem dX8_setTemperatures_56 : decode cX8_setTemperatures 56 = .ok (.iastore, 1) := by decide +kernel
theorem dX8_setTemperatures_57 : decode cX8_setTemperatures 57 = .ok (.aload_n 0, 1) := by decide +kernel
theorem dX8_setTemperatures_58 : decode cX8_setTemperatures 58 = .ok (.iload_n 3, 1) := by decide +kernel
theorem dX8_setTemperatures_59 : decode cX8_setTemperatures 59 = .ok (.invokevirtual 112, 3) := by decide +kernel
theorem dX8_setTemperatures_62 : decode cX8_setTemperatures 62 = .ok (.ireturn, 1) := by decide +kernel
theorem dX8_isBelow_0 : decode cX8_isBelow 0 = .ok (.iload_n 1, 1) := by decide +kernel
theorem dX8_isBelow_1 : decode cX8_isBelow 1 = .ok (.istore_n 3, 1) := by decide +kernel
theorem dX8_isBelow_2 : decode cX8_isBelow 2 = .ok (.iload_n 3, 1) := by decide +kernel
theorem dX8_isBelow_3 : decode cX8_isBelow 3 = .ok (.iload_n 2, 1) := by decide +kernel
theorem dX8_isBelow_4 : decode cX8_isBelow 4 = .ok (.if_icmp .le 13, 3) := by decide +kernel
theorem dX8_isBelow_7 : decode cX8_isBelow 7 = .ok (.aload_n 0, 1) := by decide +kernel
theorem dX8_isBelow_8 : decode cX8_isBelow 8 = .ok (.iload_n 3, 1) := by decide +kernel
theorem dX8_isBelow_9 : decode cX8_isBelow 9 = .ok (.iconst 0, 1) := by decide +kernel
theorem dX8_isBelow_10 : decode cX8_isBelow 10 = .ok (.invokevirtual 48, 3) := by decide +kernel
theorem dX8_isBelow_13 : decode cX8_isBelow 13 = .ok (.istore_n 3, 1) := by decide +kernel
theorem dX8_isBelow_14 : decode cX8_isBelow 14 = .ok (.goto (-12), 3) := by decide +kernel
theorem dX8_isBelow_17 : decode cX8_isBelow 17 = .ok (.iload_n 3, 1) := by decide +kernel
theorem dX8_isBelow_18 : decode cX8_isBelow 18 = .ok (.iload_n 2, 1) := by decide +kernel
theorem dX8_isBelow_19 : decode cX8_isBelow 19 = .ok (.if_icmp .ne 7, 3) := by decide +kernel
theorem dX8_isBelow_22 : decode cX8_isBelow 22 = .ok (.iconst 1, 1) := by decide +kernel
theorem dX8_isBelow_23 : decode cX8_isBelow 23 = .ok (.goto 4, 3) := by decide +kernel
theorem dX8_isBelow_26 : decode cX8_isBelow 26 = .ok (.iconst 0, 1) := by decide +kernel
theorem dX8_isBelow_27 : decode cX8_isBelow 27 = .ok (.ireturn, 1) := by decide +kernel
theorem dX8_childMany_0 : decode cX8_childMany 0 = .ok (.iconst 0, 1) := by decide +kernel
theorem dX8_childMany_1 : decode cX8_childMany 1 = .ok (.istore_n 2, 1) := by decide +kernel
theorem dX8_childMany_2 : decode cX8_childMany 2 = .ok (.iconst 1, 1) := by decide +kernel
theorem dX8_childMany_3 : decode cX8_childMany 3 = .ok (.istore_n 3, 1) := by decide +kernel
theorem dX8_childMany_4 : decode cX8_childMany 4 = .ok (.iload_n 3, 1) := by decide +kernel
theorem dX8_childMany_5 : decode cX8_childMany 5 = .ok (.aload_n 0, 1) := by decide +kernel
theorem dX8_childMany_6 : decode cX8_childMany 6 = .ok (.getfield 7, 3) := by decide +kernel
theorem dX8_childMany_9 : decode cX8_childMany 9 = .ok (.iconst 5, 1) := by decide +kernel
theorem dX8_childMany_10 : decode cX8_childMany 10 = .ok (.iaload, 1) := by decide +kernel
theorem dX8_childMany_11 : decode cX8_childMany 11 = .ok (.if_icmp .ge 27, 3) := by decide +kernel
theorem dX8_childMany_14 : decode cX8_childMany 14 = .ok (.iload_n 2, 1) := by decide +kernel
theorem dX8_childMany_15 : decode cX8_childMany 15 = .ok (.aload_n 0, 1) := by decide +kernel
theorem dX8_childMany_16 : decode cX8_childMany 16 = .ok (.iload_n 3, 1) := by decide +kernel
theorem dX8_childMany_17 : decode cX8_childMany 17 = .ok (.iconst 0, 1) := by decide +kernel
theorem dX8_childMany_18 : decode cX8_childMany 18 = .ok (.invokevirtual 48, 3) := by decide +kernel
theorem dX8_childMany_21 : decode cX8_childMany 21 = .ok (.iload_n 1, 1) := by decide +kernel
theorem dX8_childMany_22 : decode cX8_childMany 22 = .ok (.if_icmp .ne 7, 3) := by decide +kernel
theorem dX8_childMany_25 : decode cX8_childMany 25 = .ok (.iconst 1, 1) := by decide +kernel
theorem dX8_childMany_26 : decode cX8_childMany 26 = .ok (.goto 4, 3) := by decide +kernel
theorem dX8_childMany_29 : decode cX8_childMany 29 = .ok (.iconst 0, 1) := by decide +kernel
theorem dX8_childMany_30 : decode cX8_childMany 30 = .ok (.iadd, 1) := by decide +kernel
theorem dX8_childMany_31 : decode cX8_childMany 31 = .ok (.istore_n 2, 1) := by decide +kernel
theorem dX8_childMany_32 : decode cX8_childMany 32 = .ok (.iinc 3 1, 3) := by decide +kernel
theorem dX8_childMany_35 : decode cX8_childMany 35 = .ok (.goto (-31), 3) := by decide +kernel
theorem dX8_childMany_38 : decode cX8_childMany 38 = .ok (.iload_n 2, 1) := by decide +kernel
theorem dX8_childMany_39 : decode cX8_childMany 39 = .ok (.ireturn, 1) := by decide +kernel
theorem dX8_branchMany_0 : decode cX8_branchMany 0 = .ok (.iconst 0, 1) := by decide +kernel
theorem dX8_branchMany_1 : decode cX8_branchMany 1 = .ok (.istore_n 2, 1) := by decide +kernel
theorem dX8_branchMany_2 : decode cX8_branchMany 2 = .ok (.iconst 0, 1) := by decide +kernel
theorem dX8_branchMany_3 : decode cX8_branchMany 3 = .ok (.istore_n 3, 1) := by decide +kernel
theorem dX8_branchMany_4 : decode cX8_branchMany 4 = .ok (.iload_n 3, 1) := by decide +kernel
theorem dX8_branchMany_5 : decode cX8_branchMany 5 = .ok (.aload_n 0, 1) := by decide +kernel
theorem dX8_branchMany_6 : decode cX8_branchMany 6 = .ok (.getfield 7, 3) := by decide +kernel
theorem dX8_branchMany_9 : decode cX8_branchMany 9 = .ok (.iconst 5, 1) := by decide +kernel
theorem dX8_branchMany_10 : decode cX8_branchMany 10 = .ok (.iaload, 1) := by decide +kernel
theorem dX8_branchMany_11 : decode cX8_branchMany 11 = .ok (.if_icmp .ge 26, 3) := by decide +kernel
theorem dX8_branchMany_14 : decode cX8_branchMany 14 = .ok (.iload_n 2, 1) := by decide +kernel
theorem dX8_branchMany_15 : decode cX8_branchMany 15 = .ok (.aload_n 0, 1) := by decide +kernel
theorem dX8_branchMany_16 : decode cX8_branchMany 16 = .ok (.iload_n 3, 1) := by decide +kernel
theorem dX8_branchMany_17 : decode cX8_branchMany 17 = .ok (.iload_n 1, 1) := by decide +kernel
theorem dX8_branchMany_18 : decode cX8_branchMany 18 = .ok (.invokevirtual 117, 3) := by decide +kernel
theorem dX8_branchMany_21 : decode cX8_branchMany 21 = .ok (.ifCond .eq 7, 3) := by decide +kernel
theorem dX8_branchMany_24 : decode cX8_branchMany 24 = .ok (.iconst 1, 1) := by decide +kernel
theorem dX8_branchMany_25 : decode cX8_branchMany 25 = .ok (.goto 4, 3) := by decide +kernel
theorem dX8_branchMany_28 : decode cX8_branchMany 28 = .ok (.iconst 0, 1) := by decide +kernel
theorem dX8_branchMany_29 : decode cX8_branchMany 29 = .ok (.iadd, 1) := by decide +kernel
theorem dX8_branchMany_30 : decode cX8_branchMany 30 = .ok (.istore_n 2, 1) := by decide +kernel
theorem dX8_branchMany_31 : decode cX8_branchMany 31 = .ok (.iinc 3 1, 3) := by decide +kernel
theorem dX8_branchMany_34 : decode cX8_branchMany 34 = .ok (.goto (-30), 3) := by decide +kernel
theorem dX8_branchMany_37 : decode cX8_branchMany 37 = .ok (.iload_n 2, 1) := by decide +kernel
theorem dX8_branchMany_38 : decode cX8_branchMany 38 = .ok (.ireturn, 1) := by decide +kernel
theorem dX8_nodeOf_0 : decode cX8_nodeOf 0 = .ok (.iload_n 2, 1) := by decide +kernel
theorem dX8_nodeOf_1 : decode cX8_nodeOf 1 = .ok (.tableswitch 80 6 11 #[39, 46, 53, 60, 66, 72], 39) := by decide +kernel
theorem dX8_nodeOf_40 : decode cX8_nodeOf 40 = .ok (.aload_n 0, 1) := by decide +kernel
theorem dX8_nodeOf_41 : decode cX8_nodeOf 41 = .ok (.getfield 22, 3) := by decide +kernel
theorem dX8_nodeOf_44 : decode cX8_nodeOf 44 = .ok (.iload_n 1, 1) := by decide +kernel
theorem dX8_nodeOf_45 : decode cX8_nodeOf 45 = .ok (.iaload, 1) := by decide +kernel
theorem dX8_nodeOf_46 : decode cX8_nodeOf 46 = .ok (.ireturn, 1) := by decide +kernel
theorem dX8_nodeOf_47 : decode cX8_nodeOf 47 = .ok (.aload_n 0, 1) := by decide +kernel
theorem dX8_nodeOf_48 : decode cX8_nodeOf 48 = .ok (.getfield 25, 3) := by decide +kernel
theorem dX8_nodeOf_51 : decode cX8_nodeOf 51 = .ok (.iload_n 1, 1) := by decide +kernel
theorem dX8_nodeOf_52 : decode cX8_nodeOf 52 = .ok (.iaload, 1) := by decide +kernel
theorem dX8_nodeOf_53 : decode cX8_nodeOf 53 = .ok (.ireturn, 1) := by decide +kernel
theorem dX8_nodeOf_54 : decode cX8_nodeOf 54 = .ok (.aload_n 0, 1) := by decide +kernel
theorem dX8_nodeOf_55 : decode cX8_nodeOf 55 = .ok (.getfield 28, 3) := by decide +kernel
theorem dX8_nodeOf_58 : decode cX8_nodeOf 58 = .ok (.iload_n 1, 1) := by decide +kernel
theorem dX8_nodeOf_59 : decode cX8_nodeOf 59 = .ok (.iaload, 1) := by decide +kernel
theorem dX8_nodeOf_60 : decode cX8_nodeOf 60 = .ok (.ireturn, 1) := by decide +kernel
theorem dX8_nodeOf_61 : decode cX8_nodeOf 61 = .ok (.aload_n 0, 1) := by decide +kernel
theorem dX8_nodeOf_62 : decode cX8_nodeOf 62 = .ok (.iload_n 1, 1) := by decide +kernel
theorem dX8_nodeOf_63 : decode cX8_nodeOf 63 = .ok (.invokevirtual 120, 3) := by decide +kernel
theorem dX8_nodeOf_66 : decode cX8_nodeOf 66 = .ok (.ireturn, 1) := by decide +kernel
theorem dX8_nodeOf_67 : decode cX8_nodeOf 67 = .ok (.aload_n 0, 1) := by decide +kernel
theorem dX8_nodeOf_68 : decode cX8_nodeOf 68 = .ok (.iload_n 1, 1) := by decide +kernel
theorem dX8_nodeOf_69 : decode cX8_nodeOf 69 = .ok (.invokevirtual 123, 3) := by decide +kernel
theorem dX8_nodeOf_72 : decode cX8_nodeOf 72 = .ok (.ireturn, 1) := by decide +kernel
theorem dX8_nodeOf_73 : decode cX8_nodeOf 73 = .ok (.aload_n 0, 1) := by decide +kernel
theorem dX8_nodeOf_74 : decode cX8_nodeOf 74 = .ok (.iload_n 1, 1) := by decide +kernel
theorem dX8_nodeOf_75 : decode cX8_nodeOf 75 = .ok (.bipush 7, 2) := by decide +kernel
theorem dX8_nodeOf_77 : decode cX8_nodeOf 77 = .ok (.invokevirtual 48, 3) := by decide +kernel
theorem dX8_nodeOf_80 : decode cX8_nodeOf 80 = .ok (.ireturn, 1) := by decide +kernel
theorem dX8_nodeOf_81 : decode cX8_nodeOf 81 = .ok (.aload_n 0, 1) := by decide +kernel
theorem dX8_nodeOf_82 : decode cX8_nodeOf 82 = .ok (.iload_n 1, 1) := by decide +kernel
theorem dX8_nodeOf_83 : decode cX8_nodeOf 83 = .ok (.iload_n 2, 1) := by decide +kernel
theorem dX8_nodeOf_84 : decode cX8_nodeOf 84 = .ok (.invokevirtual 48, 3) := by decide +kernel
theorem dX8_nodeOf_87 : decode cX8_nodeOf 87 = .ok (.ireturn, 1) := by decide +kernel
theorem dX8_node_0 : decode cX8_node 0 = .ok (.aload_n 0, 1) := by decide +kernel
theorem dX8_node_1 : decode cX8_node 1 = .ok (.iload_n 1, 1) := by decide +kernel
theorem dX8_node_2 : decode cX8_node 2 = .ok (.invokevirtual 91, 3) := by decide +kernel
theorem dX8_node_5 : decode cX8_node 5 = .ok (.ifCond .ne 9, 3) := by decide +kernel
theorem dX8_node_8 : decode cX8_node 8 = .ok (.aload_n 0, 1) := by decide +kernel
theorem dX8_node_9 : decode cX8_node 9 = .ok (.iconst 1, 1) := by decide +kernel
theorem dX8_node_10 : decode cX8_node 10 = .ok (.invokevirtual 95, 3) := by decide +kernel
theorem dX8_node_13 : decode cX8_node 13 = .ok (.ireturn, 1) := by decide +kernel
theorem dX8_node_14 : decode cX8_node 14 = .ok (.iload_n 2, 1) := by decide +kernel
theorem dX8_node_15 : decode cX8_node 15 = .ok (.iconst 0, 1) := by decide +kernel
theorem dX8_node_16 : decode cX8_node 16 = .ok (.bipush 11, 2) := by decide +kernel
theorem dX8_node_18 : decode cX8_node 18 = .ok (.invokestatic 83, 3) := by decide +kernel
theorem dX8_node_21 : decode cX8_node 21 = .ok (.ifCond .ne 9, 3) := by decide +kernel
theorem dX8_node_24 : decode cX8_node 24 = .ok (.aload_n 0, 1) := by decide +kernel
theorem dX8_node_25 : decode cX8_node 25 = .ok (.iconst 2, 1) := by decide +kernel
theorem dX8_node_26 : decode cX8_node 26 = .ok (.invokevirtual 95, 3) := by decide +kernel
theorem dX8_node_29 : decode cX8_node 29 = .ok (.ireturn, 1) := by decide +kernel
theorem dX8_node_30 : decode cX8_node 30 = .ok (.aload_n 0, 1) := by decide +kernel
theorem dX8_node_31 : decode cX8_node 31 = .ok (.invokevirtual 126, 3) := by decide +kernel
theorem dX8_node_34 : decode cX8_node 34 = .ok (.aload_n 0, 1) := by decide +kernel
theorem dX8_node_35 : decode cX8_node 35 = .ok (.aload_n 0, 1) := by decide +kernel
theorem dX8_node_36 : decode cX8_node 36 = .ok (.iload_n 1, 1) := by decide +kernel
theorem dX8_node_37 : decode cX8_node 37 = .ok (.iload_n 2, 1) := by decide +kernel
theorem dX8_node_38 : decode cX8_node 38 = .ok (.invokevirtual 129, 3) := by decide +kernel
theorem dX8_node_41 : decode cX8_node 41 = .ok (.invokevirtual 44, 3) := by decide +kernel
theorem dX8_node_44 : decode cX8_node 44 = .ok (.ireturn, 1) := by decide +kernel
theorem dX8_heat_0 : decode cX8_heat 0 = .ok (.aload_n 0, 1) := by decide +kernel
theorem dX8_heat_1 : decode cX8_heat 1 = .ok (.iload_n 1, 1) := by decide +kernel
theorem dX8_heat_2 : decode cX8_heat 2 = .ok (.invokevirtual 115, 3) := by decide +kernel
theorem dX8_heat_5 : decode cX8_heat 5 = .ok (.ifCond .ne 9, 3) := by decide +kernel
theorem dX8_heat_8 : decode cX8_heat 8 = .ok (.aload_n 0, 1) := by decide +kernel
theorem dX8_heat_9 : decode cX8_heat 9 = .ok (.iconst 1, 1) := by decide +kernel
theorem dX8_heat_10 : decode cX8_heat 10 = .ok (.invokevirtual 95, 3) := by decide +kernel
theorem dX8_heat_13 : decode cX8_heat 13 = .ok (.ireturn, 1) := by decide +kernel
theorem dX8_heat_14 : decode cX8_heat 14 = .ok (.iload_n 2, 1) := by decide +kernel
theorem dX8_heat_15 : decode cX8_heat 15 = .ok (.iconst 0, 1) := by decide +kernel
theorem dX8_heat_16 : decode cX8_heat 16 = .ok (.iconst 5, 1) := by decide +kernel
theorem dX8_heat_17 : decode cX8_heat 17 = .ok (.invokestatic 83, 3) := by decide +kernel
theorem dX8_heat_20 : decode cX8_heat 20 = .ok (.ifCond .ne 9, 3) := by decide +kernel
theorem dX8_heat_23 : decode cX8_heat 23 = .ok (.aload_n 0, 1) := by decide +kernel
theorem dX8_heat_24 : decode cX8_heat 24 = .ok (.iconst 2, 1) := by decide +kernel
theorem dX8_heat_25 : decode cX8_heat 25 = .ok (.invokevirtual 95, 3) := by decide +kernel
theorem dX8_heat_28 : decode cX8_heat 28 = .ok (.ireturn, 1) := by decide +kernel
theorem dX8_heat_29 : decode cX8_heat 29 = .ok (.aload_n 0, 1) := by decide +kernel
theorem dX8_heat_30 : decode cX8_heat 30 = .ok (.invokevirtual 126, 3) := by decide +kernel
theorem dX8_heat_33 : decode cX8_heat 33 = .ok (.aload_n 0, 1) := by decide +kernel
theorem dX8_heat_34 : decode cX8_heat 34 = .ok (.aload_n 0, 1) := by decide +kernel
theorem dX8_heat_35 : decode cX8_heat 35 = .ok (.iload_n 1, 1) := by decide +kernel
theorem dX8_heat_36 : decode cX8_heat 36 = .ok (.iload_n 2, 1) := by decide +kernel
theorem dX8_heat_37 : decode cX8_heat 37 = .ok (.invokevirtual 64, 3) := by decide +kernel
theorem dX8_heat_40 : decode cX8_heat 40 = .ok (.invokevirtual 44, 3) := by decide +kernel
theorem dX8_heat_43 : decode cX8_heat 43 = .ok (.ireturn, 1) := by decide +kernel
theorem dX8_accounts_0 : decode cX8_accounts 0 = .ok (.iconst 0, 1) := by decide +kernel
theorem dX8_accounts_1 : decode cX8_accounts 1 = .ok (.istore_n 1, 1) := by decide +kernel
theorem dX8_accounts_2 : decode cX8_accounts 2 = .ok (.iconst 1, 1) := by decide +kernel
theorem dX8_accounts_3 : decode cX8_accounts 3 = .ok (.istore_n 2, 1) := by decide +kernel
theorem dX8_accounts_4 : decode cX8_accounts 4 = .ok (.iload_n 2, 1) := by decide +kernel
theorem dX8_accounts_5 : decode cX8_accounts 5 = .ok (.aload_n 0, 1) := by decide +kernel
theorem dX8_accounts_6 : decode cX8_accounts 6 = .ok (.getfield 7, 3) := by decide +kernel
theorem dX8_accounts_9 : decode cX8_accounts 9 = .ok (.iconst 5, 1) := by decide +kernel
theorem dX8_accounts_10 : decode cX8_accounts 10 = .ok (.iaload, 1) := by decide +kernel
theorem dX8_accounts_11 : decode cX8_accounts 11 = .ok (.if_icmp .ge 19, 3) := by decide +kernel
theorem dX8_accounts_14 : decode cX8_accounts 14 = .ok (.iload_n 1, 1) := by decide +kernel
theorem dX8_accounts_15 : decode cX8_accounts 15 = .ok (.aload_n 0, 1) := by decide +kernel
theorem dX8_accounts_16 : decode cX8_accounts 16 = .ok (.iload_n 2, 1) := by decide +kernel
theorem dX8_accounts_17 : decode cX8_accounts 17 = .ok (.bipush 7, 2) := by decide +kernel
theorem dX8_accounts_19 : decode cX8_accounts 19 = .ok (.invokevirtual 48, 3) := by decide +kernel
theorem dX8_accounts_22 : decode cX8_accounts 22 = .ok (.iadd, 1) := by decide +kernel
theorem dX8_accounts_23 : decode cX8_accounts 23 = .ok (.istore_n 1, 1) := by decide +kernel
theorem dX8_accounts_24 : decode cX8_accounts 24 = .ok (.iinc 2 1, 3) := by decide +kernel
theorem dX8_accounts_27 : decode cX8_accounts 27 = .ok (.goto (-23), 3) := by decide +kernel
theorem dX8_accounts_30 : decode cX8_accounts 30 = .ok (.iload_n 1, 1) := by decide +kernel
theorem dX8_accounts_31 : decode cX8_accounts 31 = .ok (.ireturn, 1) := by decide +kernel
theorem dX8_meters_0 : decode cX8_meters 0 = .ok (.iconst 0, 1) := by decide +kernel
theorem dX8_meters_1 : decode cX8_meters 1 = .ok (.istore_n 1, 1) := by decide +kernel
theorem dX8_meters_2 : decode cX8_meters 2 = .ok (.iconst 1, 1) := by decide +kernel
theorem dX8_meters_3 : decode cX8_meters 3 = .ok (.istore_n 2, 1) := by decide +kernel
theorem dX8_meters_4 : decode cX8_meters 4 = .ok (.iload_n 2, 1) := by decide +kernel
theorem dX8_meters_5 : decode cX8_meters 5 = .ok (.aload_n 0, 1) := by decide +kernel
theorem dX8_meters_6 : decode cX8_meters 6 = .ok (.getfield 7, 3) := by decide +kernel
theorem dX8_meters_9 : decode cX8_meters 9 = .ok (.iconst 5, 1) := by decide +kernel
theorem dX8_meters_10 : decode cX8_meters 10 = .ok (.iaload, 1) := by decide +kernel
theorem dX8_meters_11 : decode cX8_meters 11 = .ok (.if_icmp .ge 19, 3) := by decide +kernel
theorem dX8_meters_14 : decode cX8_meters 14 = .ok (.iload_n 1, 1) := by decide +kernel
theorem dX8_meters_15 : decode cX8_meters 15 = .ok (.aload_n 0, 1) := by decide +kernel
theorem dX8_meters_16 : decode cX8_meters 16 = .ok (.iload_n 2, 1) := by decide +kernel
theorem dX8_meters_17 : decode cX8_meters 17 = .ok (.bipush 6, 2) := by decide +kernel
theorem dX8_meters_19 : decode cX8_meters 19 = .ok (.invokevirtual 48, 3) := by decide +kernel
theorem dX8_meters_22 : decode cX8_meters 22 = .ok (.iadd, 1) := by decide +kernel
theorem dX8_meters_23 : decode cX8_meters 23 = .ok (.istore_n 1, 1) := by decide +kernel
theorem dX8_meters_24 : decode cX8_meters 24 = .ok (.iinc 2 1, 3) := by decide +kernel
theorem dX8_meters_27 : decode cX8_meters 27 = .ok (.goto (-23), 3) := by decide +kernel
theorem dX8_meters_30 : decode cX8_meters 30 = .ok (.iload_n 1, 1) := by decide +kernel
theorem dX8_meters_31 : decode cX8_meters 31 = .ok (.ireturn, 1) := by decide +kernel
theorem dX8_valueOf_0 : decode cX8_valueOf 0 = .ok (.aload_n 0, 1) := by decide +kernel
theorem dX8_valueOf_1 : decode cX8_valueOf 1 = .ok (.invokevirtual 132, 3) := by decide +kernel
theorem dX8_valueOf_4 : decode cX8_valueOf 4 = .ok (.istore_n 2, 1) := by decide +kernel
theorem dX8_valueOf_5 : decode cX8_valueOf 5 = .ok (.iload_n 1, 1) := by decide +kernel
theorem dX8_valueOf_6 : decode cX8_valueOf 6 = .ok (.tableswitch 91 7 14 #[46, 51, 56, 58, 66, 74, 79, 86], 46) := by decide +kernel
theorem dX8_valueOf_52 : decode cX8_valueOf 52 = .ok (.aload_n 0, 1) := by decide +kernel
theorem dX8_valueOf_53 : decode cX8_valueOf 53 = .ok (.invokevirtual 73, 3) := by decide +kernel
theorem dX8_valueOf_56 : decode cX8_valueOf 56 = .ok (.ireturn, 1) := by decide +kernel
theorem dX8_valueOf_57 : decode cX8_valueOf 57 = .ok (.aload_n 0, 1) := by decide +kernel
theorem dX8_valueOf_58 : decode cX8_valueOf 58 = .ok (.getfield 80, 3) := by decide +kernel
theorem dX8_valueOf_61 : decode cX8_valueOf 61 = .ok (.ireturn, 1) := by decide +kernel
theorem dX8_valueOf_62 : decode cX8_valueOf 62 = .ok (.iload_n 2, 1) := by decide +kernel
theorem dX8_valueOf_63 : decode cX8_valueOf 63 = .ok (.ireturn, 1) := by decide +kernel
theorem dX8_valueOf_64 : decode cX8_valueOf 64 = .ok (.aload_n 0, 1) := by decide +kernel
theorem dX8_valueOf_65 : decode cX8_valueOf 65 = .ok (.getfield 7, 3) := by decide +kernel
theorem dX8_valueOf_68 : decode cX8_valueOf 68 = .ok (.bipush 7, 2) := by decide +kernel
theorem dX8_valueOf_70 : decode cX8_valueOf 70 = .ok (.iaload, 1) := by decide +kernel
theorem dX8_valueOf_71 : decode cX8_valueOf 71 = .ok (.ireturn, 1) := by decide +kernel
theorem dX8_valueOf_72 : decode cX8_valueOf 72 = .ok (.aload_n 0, 1) := by decide +kernel
theorem dX8_valueOf_73 : decode cX8_valueOf 73 = .ok (.getfield 7, 3) := by decide +kernel
theorem dX8_valueOf_76 : decode cX8_valueOf 76 = .ok (.bipush 8, 2) := by decide +kernel
theorem dX8_valueOf_78 : decode cX8_valueOf 78 = .ok (.iaload, 1) := by decide +kernel
theorem dX8_valueOf_79 : decode cX8_valueOf 79 = .ok (.ireturn, 1) := by decide +kernel
theorem dX8_valueOf_80 : decode cX8_valueOf 80 = .ok (.aload_n 0, 1) := by decide +kernel
theorem dX8_valueOf_81 : decode cX8_valueOf 81 = .ok (.invokevirtual 135, 3) := by decide +kernel
theorem dX8_valueOf_84 : decode cX8_valueOf 84 = .ok (.ireturn, 1) := by decide +kernel
theorem dX8_valueOf_85 : decode cX8_valueOf 85 = .ok (.aload_n 0, 1) := by decide +kernel
theorem dX8_valueOf_86 : decode cX8_valueOf 86 = .ok (.getfield 31, 3) := by decide +kernel
theorem dX8_valueOf_89 : decode cX8_valueOf 89 = .ok (.iconst 0, 1) := by decide +kernel
theorem dX8_valueOf_90 : decode cX8_valueOf 90 = .ok (.iaload, 1) := by decide +kernel
theorem dX8_valueOf_91 : decode cX8_valueOf 91 = .ok (.ireturn, 1) := by decide +kernel
theorem dX8_valueOf_92 : decode cX8_valueOf 92 = .ok (.aload_n 0, 1) := by decide +kernel
theorem dX8_valueOf_93 : decode cX8_valueOf 93 = .ok (.invokevirtual 138, 3) := by decide +kernel
theorem dX8_valueOf_96 : decode cX8_valueOf 96 = .ok (.ireturn, 1) := by decide +kernel
theorem dX8_valueOf_97 : decode cX8_valueOf 97 = .ok (.aload_n 0, 1) := by decide +kernel
theorem dX8_valueOf_98 : decode cX8_valueOf 98 = .ok (.getfield 7, 3) := by decide +kernel
theorem dX8_valueOf_101 : decode cX8_valueOf 101 = .ok (.iload_n 1, 1) := by decide +kernel
theorem dX8_valueOf_102 : decode cX8_valueOf 102 = .ok (.iaload, 1) := by decide +kernel
theorem dX8_valueOf_103 : decode cX8_valueOf 103 = .ok (.ireturn, 1) := by decide +kernel
theorem dX8_value_0 : decode cX8_value 0 = .ok (.iload_n 1, 1) := by decide +kernel
theorem dX8_value_1 : decode cX8_value 1 = .ok (.iconst 0, 1) := by decide +kernel
theorem dX8_value_2 : decode cX8_value 2 = .ok (.bipush 14, 2) := by decide +kernel
theorem dX8_value_4 : decode cX8_value 4 = .ok (.invokestatic 83, 3) := by decide +kernel
theorem dX8_value_7 : decode cX8_value 7 = .ok (.ifCond .ne 9, 3) := by decide +kernel
theorem dX8_value_10 : decode cX8_value 10 = .ok (.aload_n 0, 1) := by decide +kernel
theorem dX8_value_11 : decode cX8_value 11 = .ok (.iconst 1, 1) := by decide +kernel
theorem dX8_value_12 : decode cX8_value 12 = .ok (.invokevirtual 95, 3) := by decide +kernel
theorem dX8_value_15 : decode cX8_value 15 = .ok (.ireturn, 1) := by decide +kernel
theorem dX8_value_16 : decode cX8_value 16 = .ok (.aload_n 0, 1) := by decide +kernel
theorem dX8_value_17 : decode cX8_value 17 = .ok (.invokevirtual 126, 3) := by decide +kernel
theorem dX8_value_20 : decode cX8_value 20 = .ok (.aload_n 0, 1) := by decide +kernel
theorem dX8_value_21 : decode cX8_value 21 = .ok (.aload_n 0, 1) := by decide +kernel
theorem dX8_value_22 : decode cX8_value 22 = .ok (.iload_n 1, 1) := by decide +kernel
theorem dX8_value_23 : decode cX8_value 23 = .ok (.invokevirtual 141, 3) := by decide +kernel
theorem dX8_value_26 : decode cX8_value 26 = .ok (.invokevirtual 44, 3) := by decide +kernel
theorem dX8_value_29 : decode cX8_value 29 = .ok (.ireturn, 1) := by decide +kernel
theorem dX8_sum_0 : decode cX8_sum 0 = .ok (.iload_n 1, 1) := by decide +kernel
theorem dX8_sum_1 : decode cX8_sum 1 = .ok (.iconst 0, 1) := by decide +kernel
theorem dX8_sum_2 : decode cX8_sum 2 = .ok (.iconst 2, 1) := by decide +kernel
theorem dX8_sum_3 : decode cX8_sum 3 = .ok (.invokestatic 83, 3) := by decide +kernel
theorem dX8_sum_6 : decode cX8_sum 6 = .ok (.ifCond .ne 9, 3) := by decide +kernel
theorem dX8_sum_9 : decode cX8_sum 9 = .ok (.aload_n 0, 1) := by decide +kernel
theorem dX8_sum_10 : decode cX8_sum 10 = .ok (.iconst 1, 1) := by decide +kernel
theorem dX8_sum_11 : decode cX8_sum 11 = .ok (.invokevirtual 95, 3) := by decide +kernel
theorem dX8_sum_14 : decode cX8_sum 14 = .ok (.ireturn, 1) := by decide +kernel
theorem dX8_sum_15 : decode cX8_sum 15 = .ok (.aload_n 0, 1) := by decide +kernel
theorem dX8_sum_16 : decode cX8_sum 16 = .ok (.invokevirtual 126, 3) := by decide +kernel
theorem dX8_sum_19 : decode cX8_sum 19 = .ok (.aload_n 0, 1) := by decide +kernel
theorem dX8_sum_20 : decode cX8_sum 20 = .ok (.aload_n 0, 1) := by decide +kernel
theorem dX8_sum_21 : decode cX8_sum 21 = .ok (.iload_n 1, 1) := by decide +kernel
theorem dX8_sum_22 : decode cX8_sum 22 = .ok (.invokevirtual 144, 3) := by decide +kernel
theorem dX8_sum_25 : decode cX8_sum 25 = .ok (.invokevirtual 44, 3) := by decide +kernel
theorem dX8_sum_28 : decode cX8_sum 28 = .ok (.ireturn, 1) := by decide +kernel
theorem dX8_addBoiler_0 : decode cX8_addBoiler 0 = .ok (.iload_n 1, 1) := by decide +kernel
theorem dX8_addBoiler_1 : decode cX8_addBoiler 1 = .ok (.iconst 1, 1) := by decide +kernel
theorem dX8_addBoiler_2 : decode cX8_addBoiler 2 = .ok (.ldc 147, 2) := by decide +kernel
theorem dX8_addBoiler_4 : decode cX8_addBoiler 4 = .ok (.invokestatic 83, 3) := by decide +kernel
theorem dX8_addBoiler_7 : decode cX8_addBoiler 7 = .ok (.ifCond .eq 22, 3) := by decide +kernel
theorem dX8_addBoiler_10 : decode cX8_addBoiler 10 = .ok (.iload_n 2, 1) := by decide +kernel
theorem dX8_addBoiler_11 : decode cX8_addBoiler 11 = .ok (.iconst 0, 1) := by decide +kernel
theorem dX8_addBoiler_12 : decode cX8_addBoiler 12 = .ok (.iload_n 1, 1) := by decide +kernel
theorem dX8_addBoiler_13 : decode cX8_addBoiler 13 = .ok (.invokestatic 83, 3) := by decide +kernel
theorem dX8_addBoiler_16 : decode cX8_addBoiler 16 = .ok (.ifCond .eq 13, 3) := by decide +kernel
theorem dX8_addBoiler_19 : decode cX8_addBoiler 19 = .ok (.iload_n 3, 1) := by decide +kernel
theorem dX8_addBoiler_20 : decode cX8_addBoiler 20 = .ok (.iconst 0, 1) := by decide +kernel
theorem dX8_addBoiler_21 : decode cX8_addBoiler 21 = .ok (.bipush 99, 2) := by decide +kernel
theorem dX8_addBoiler_23 : decode cX8_addBoiler 23 = .ok (.invokestatic 83, 3) := by decide +kernel
theorem dX8_addBoiler_26 : decode cX8_addBoiler 26 = .ok (.ifCond .ne 9, 3) := by decide +kernel
theorem dX8_addBoiler_29 : decode cX8_addBoiler 29 = .ok (.aload_n 0, 1) := by decide +kernel
theorem dX8_addBoiler_30 : decode cX8_addBoiler 30 = .ok (.iconst 1, 1) := by decide +kernel
theorem dX8_addBoiler_31 : decode cX8_addBoiler 31 = .ok (.invokevirtual 95, 3) := by decide +kernel
theorem dX8_addBoiler_34 : decode cX8_addBoiler 34 = .ok (.ireturn, 1) := by decide +kernel
theorem dX8_addBoiler_35 : decode cX8_addBoiler 35 = .ok (.aload_n 0, 1) := by decide +kernel
theorem dX8_addBoiler_36 : decode cX8_addBoiler 36 = .ok (.getfield 7, 3) := by decide +kernel
theorem dX8_addBoiler_39 : decode cX8_addBoiler 39 = .ok (.bipush 6, 2) := by decide +kernel
theorem dX8_addBoiler_41 : decode cX8_addBoiler 41 = .ok (.iaload, 1) := by decide +kernel
theorem dX8_addBoiler_42 : decode cX8_addBoiler 42 = .ok (.iconst 4, 1) := by decide +kernel
theorem dX8_addBoiler_43 : decode cX8_addBoiler 43 = .ok (.if_icmp .ne 9, 3) := by decide +kernel
theorem dX8_addBoiler_46 : decode cX8_addBoiler 46 = .ok (.aload_n 0, 1) := by decide +kernel
theorem dX8_addBoiler_47 : decode cX8_addBoiler 47 = .ok (.iconst 2, 1) := by decide +kernel
theorem dX8_addBoiler_48 : decode cX8_addBoiler 48 = .ok (.invokevirtual 95, 3) := by decide +kernel
theorem dX8_addBoiler_51 : decode cX8_addBoiler 51 = .ok (.ireturn, 1) := by decide +kernel
theorem dX8_addBoiler_52 : decode cX8_addBoiler 52 = .ok (.aload_n 0, 1) := by decide +kernel
theorem dX8_addBoiler_53 : decode cX8_addBoiler 53 = .ok (.invokevirtual 105, 3) := by decide +kernel
theorem dX8_addBoiler_56 : decode cX8_addBoiler 56 = .ok (.sipush 137, 3) := by decide +kernel
theorem dX8_addBoiler_59 : decode cX8_addBoiler 59 = .ok (.iconst 3, 1) := by decide +kernel
theorem dX8_addBoiler_60 : decode cX8_addBoiler 60 = .ok (.aload_n 0, 1) := by decide +kernel
theorem dX8_addBoiler_61 : decode cX8_addBoiler 61 = .ok (.getfield 7, 3) := by decide +kernel
theorem dX8_addBoiler_64 : decode cX8_addBoiler 64 = .ok (.bipush 6, 2) := by decide +kernel
theorem dX8_addBoiler_66 : decode cX8_addBoiler 66 = .ok (.iaload, 1) := by decide +kernel
theorem dX8_addBoiler_67 : decode cX8_addBoiler 67 = .ok (.imul, 1) := by decide +kernel
theorem dX8_addBoiler_68 : decode cX8_addBoiler 68 = .ok (.iadd, 1) := by decide +kernel
theorem dX8_addBoiler_69 : decode cX8_addBoiler 69 = .ok (.istore 4, 2) := by decide +kernel
theorem dX8_addBoiler_71 : decode cX8_addBoiler 71 = .ok (.aload_n 0, 1) := by decide +kernel
theorem dX8_addBoiler_72 : decode cX8_addBoiler 72 = .ok (.getfield 7, 3) := by decide +kernel
theorem dX8_addBoiler_75 : decode cX8_addBoiler 75 = .ok (.iload 4, 2) := by decide +kernel
theorem dX8_addBoiler_77 : decode cX8_addBoiler 77 = .ok (.iload_n 1, 1) := by decide +kernel
theorem dX8_addBoiler_78 : decode cX8_addBoiler 78 = .ok (.iastore, 1) := by decide +kernel
theorem dX8_addBoiler_79 : decode cX8_addBoiler 79 = .ok (.aload_n 0, 1) := by decide +kernel
theorem dX8_addBoiler_80 : decode cX8_addBoiler 80 = .ok (.getfield 7, 3) := by decide +kernel
theorem dX8_addBoiler_83 : decode cX8_addBoiler 83 = .ok (.iload 4, 2) := by decide +kernel
theorem dX8_addBoiler_85 : decode cX8_addBoiler 85 = .ok (.iconst 1, 1) := by decide +kernel
theorem dX8_addBoiler_86 : decode cX8_addBoiler 86 = .ok (.iadd, 1) := by decide +kernel
theorem dX8_addBoiler_87 : decode cX8_addBoiler 87 = .ok (.iload_n 2, 1) := by decide +kernel
theorem dX8_addBoiler_88 : decode cX8_addBoiler 88 = .ok (.iastore, 1) := by decide +kernel
theorem dX8_addBoiler_89 : decode cX8_addBoiler 89 = .ok (.aload_n 0, 1) := by decide +kernel
theorem dX8_addBoiler_90 : decode cX8_addBoiler 90 = .ok (.getfield 7, 3) := by decide +kernel
theorem dX8_addBoiler_93 : decode cX8_addBoiler 93 = .ok (.iload 4, 2) := by decide +kernel
theorem dX8_addBoiler_95 : decode cX8_addBoiler 95 = .ok (.iconst 2, 1) := by decide +kernel
theorem dX8_addBoiler_96 : decode cX8_addBoiler 96 = .ok (.iadd, 1) := by decide +kernel
theorem dX8_addBoiler_97 : decode cX8_addBoiler 97 = .ok (.iload_n 3, 1) := by decide +kernel
theorem dX8_addBoiler_98 : decode cX8_addBoiler 98 = .ok (.iastore, 1) := by decide +kernel
theorem dX8_addBoiler_99 : decode cX8_addBoiler 99 = .ok (.aload_n 0, 1) := by decide +kernel
theorem dX8_addBoiler_100 : decode cX8_addBoiler 100 = .ok (.getfield 7, 3) := by decide +kernel
theorem dX8_addBoiler_103 : decode cX8_addBoiler 103 = .ok (.bipush 6, 2) := by decide +kernel
theorem dX8_addBoiler_105 : decode cX8_addBoiler 105 = .ok (.dup2, 1) := by decide +kernel
theorem dX8_addBoiler_106 : decode cX8_addBoiler 106 = .ok (.iaload, 1) := by decide +kernel
theorem dX8_addBoiler_107 : decode cX8_addBoiler 107 = .ok (.iconst 1, 1) := by decide +kernel
theorem dX8_addBoiler_108 : decode cX8_addBoiler 108 = .ok (.iadd, 1) := by decide +kernel
theorem dX8_addBoiler_109 : decode cX8_addBoiler 109 = .ok (.iastore, 1) := by decide +kernel
theorem dX8_addBoiler_110 : decode cX8_addBoiler 110 = .ok (.aload_n 0, 1) := by decide +kernel
theorem dX8_addBoiler_111 : decode cX8_addBoiler 111 = .ok (.aload_n 0, 1) := by decide +kernel
theorem dX8_addBoiler_112 : decode cX8_addBoiler 112 = .ok (.getfield 7, 3) := by decide +kernel
theorem dX8_addBoiler_115 : decode cX8_addBoiler 115 = .ok (.bipush 6, 2) := by decide +kernel
theorem dX8_addBoiler_117 : decode cX8_addBoiler 117 = .ok (.iaload, 1) := by decide +kernel
theorem dX8_addBoiler_118 : decode cX8_addBoiler 118 = .ok (.iconst 1, 1) := by decide +kernel
theorem dX8_addBoiler_119 : decode cX8_addBoiler 119 = .ok (.isub, 1) := by decide +kernel
theorem dX8_addBoiler_120 : decode cX8_addBoiler 120 = .ok (.invokevirtual 112, 3) := by decide +kernel
theorem dX8_addBoiler_123 : decode cX8_addBoiler 123 = .ok (.ireturn, 1) := by decide +kernel
theorem dX8_isBoiler_0 : decode cX8_isBoiler 0 = .ok (.iload_n 1, 1) := by decide +kernel
theorem dX8_isBoiler_1 : decode cX8_isBoiler 1 = .ok (.ifCond .lt 18, 3) := by decide +kernel
theorem dX8_isBoiler_4 : decode cX8_isBoiler 4 = .ok (.iload_n 1, 1) := by decide +kernel
theorem dX8_isBoiler_5 : decode cX8_isBoiler 5 = .ok (.aload_n 0, 1) := by decide +kernel
theorem dX8_isBoiler_6 : decode cX8_isBoiler 6 = .ok (.getfield 7, 3) := by decide +kernel
theorem dX8_isBoiler_9 : decode cX8_isBoiler 9 = .ok (.bipush 6, 2) := by decide +kernel
theorem dX8_isBoiler_11 : decode cX8_isBoiler 11 = .ok (.iaload, 1) := by decide +kernel
theorem dX8_isBoiler_12 : decode cX8_isBoiler 12 = .ok (.if_icmp .ge 7, 3) := by decide +kernel
theorem dX8_isBoiler_15 : decode cX8_isBoiler 15 = .ok (.iconst 1, 1) := by decide +kernel
theorem dX8_isBoiler_16 : decode cX8_isBoiler 16 = .ok (.goto 4, 3) := by decide +kernel
theorem dX8_isBoiler_19 : decode cX8_isBoiler 19 = .ok (.iconst 0, 1) := by decide +kernel
theorem dX8_isBoiler_20 : decode cX8_isBoiler 20 = .ok (.ireturn, 1) := by decide +kernel
theorem dX8_setCost_0 : decode cX8_setCost 0 = .ok (.aload_n 0, 1) := by decide +kernel
theorem dX8_setCost_1 : decode cX8_setCost 1 = .ok (.iload_n 1, 1) := by decide +kernel
theorem dX8_setCost_2 : decode cX8_setCost 2 = .ok (.invokevirtual 148, 3) := by decide +kernel
theorem dX8_setCost_5 : decode cX8_setCost 5 = .ok (.ifCond .ne 9, 3) := by decide +kernel
theorem dX8_setCost_8 : decode cX8_setCost 8 = .ok (.aload_n 0, 1) := by decide +kernel
theorem dX8_setCost_9 : decode cX8_setCost 9 = .ok (.iconst 1, 1) := by decide +kernel
theorem dX8_setCost_10 : decode cX8_setCost 10 = .ok (.invokevirtual 95, 3) := by decide +kernel
theorem dX8_setCost_13 : decode cX8_setCost 13 = .ok (.ireturn, 1) := by decide +kernel
theorem dX8_setCost_14 : decode cX8_setCost 14 = .ok (.iload_n 2, 1) := by decide +kernel
theorem dX8_setCost_15 : decode cX8_setCost 15 = .ok (.iconst 0, 1) := by decide +kernel
theorem dX8_setCost_16 : decode cX8_setCost 16 = .ok (.bipush 99, 2) := by decide +kernel
theorem dX8_setCost_18 : decode cX8_setCost 18 = .ok (.invokestatic 83, 3) := by decide +kernel
theorem dX8_setCost_21 : decode cX8_setCost 21 = .ok (.ifCond .ne 9, 3) := by decide +kernel
theorem dX8_setCost_24 : decode cX8_setCost 24 = .ok (.aload_n 0, 1) := by decide +kernel
theorem dX8_setCost_25 : decode cX8_setCost 25 = .ok (.iconst 2, 1) := by decide +kernel
theorem dX8_setCost_26 : decode cX8_setCost 26 = .ok (.invokevirtual 95, 3) := by decide +kernel
theorem dX8_setCost_29 : decode cX8_setCost 29 = .ok (.ireturn, 1) := by decide +kernel
theorem dX8_setCost_30 : decode cX8_setCost 30 = .ok (.aload_n 0, 1) := by decide +kernel
theorem dX8_setCost_31 : decode cX8_setCost 31 = .ok (.invokevirtual 105, 3) := by decide +kernel
theorem dX8_setCost_34 : decode cX8_setCost 34 = .ok (.aload_n 0, 1) := by decide +kernel
theorem dX8_setCost_35 : decode cX8_setCost 35 = .ok (.iload_n 1, 1) := by decide +kernel
theorem dX8_setCost_36 : decode cX8_setCost 36 = .ok (.iconst 2, 1) := by decide +kernel
theorem dX8_setCost_37 : decode cX8_setCost 37 = .ok (.invokevirtual 67, 3) := by decide +kernel
theorem dX8_setCost_40 : decode cX8_setCost 40 = .ok (.istore_n 3, 1) := by decide +kernel
theorem dX8_setCost_41 : decode cX8_setCost 41 = .ok (.aload_n 0, 1) := by decide +kernel
theorem dX8_setCost_42 : decode cX8_setCost 42 = .ok (.getfield 7, 3) := by decide +kernel
theorem dX8_setCost_45 : decode cX8_setCost 45 = .ok (.sipush 137, 3) := by decide +kernel
theorem dX8_setCost_48 : decode cX8_setCost 48 = .ok (.iconst 3, 1) := by decide +kernel
theorem dX8_setCost_49 : decode cX8_setCost 49 = .ok (.iload_n 1, 1) := by decide +kernel
theorem dX8_setCost_50 : decode cX8_setCost 50 = .ok (.imul, 1) := by decide +kernel
theorem dX8_setCost_51 : decode cX8_setCost 51 = .ok (.iadd, 1) := by decide +kernel
theorem dX8_setCost_52 : decode cX8_setCost 52 = .ok (.iconst 2, 1) := by decide +kernel
theorem dX8_setCost_53 : decode cX8_setCost 53 = .ok (.iadd, 1) := by decide +kernel
theorem dX8_setCost_54 : decode cX8_setCost 54 = .ok (.iload_n 2, 1) := by decide +kernel
theorem dX8_setCost_55 : decode cX8_setCost 55 = .ok (.iastore, 1) := by decide +kernel
theorem dX8_setCost_56 : decode cX8_setCost 56 = .ok (.aload_n 0, 1) := by decide +kernel
theorem dX8_setCost_57 : decode cX8_setCost 57 = .ok (.iload_n 3, 1) := by decide +kernel
theorem dX8_setCost_58 : decode cX8_setCost 58 = .ok (.invokevirtual 112, 3) := by decide +kernel
theorem dX8_setCost_61 : decode cX8_setCost 61 = .ok (.ireturn, 1) := by decide +kernel
theorem dX8_boilerOf_0 : decode cX8_boilerOf 0 = .ok (.iload_n 2, 1) := by decide +kernel
theorem dX8_boilerOf_1 : decode cX8_boilerOf 1 = .ok (.iconst 3, 1) := by decide +kernel
theorem dX8_boilerOf_2 : decode cX8_boilerOf 2 = .ok (.if_icmp .ge 12, 3) := by decide +kernel
theorem dX8_boilerOf_5 : decode cX8_boilerOf 5 = .ok (.aload_n 0, 1) := by decide +kernel
theorem dX8_boilerOf_6 : decode cX8_boilerOf 6 = .ok (.iload_n 1, 1) := by decide +kernel
theorem dX8_boilerOf_7 : decode cX8_boilerOf 7 = .ok (.iload_n 2, 1) := by decide +kernel
theorem dX8_boilerOf_8 : decode cX8_boilerOf 8 = .ok (.invokevirtual 67, 3) := by decide +kernel
theorem dX8_boilerOf_11 : decode cX8_boilerOf 11 = .ok (.goto 22, 3) := by decide +kernel
theorem dX8_boilerOf_14 : decode cX8_boilerOf 14 = .ok (.iload_n 2, 1) := by decide +kernel
theorem dX8_boilerOf_15 : decode cX8_boilerOf 15 = .ok (.iconst 3, 1) := by decide +kernel
theorem dX8_boilerOf_16 : decode cX8_boilerOf 16 = .ok (.if_icmp .ne 12, 3) := by decide +kernel
theorem dX8_boilerOf_19 : decode cX8_boilerOf 19 = .ok (.aload_n 0, 1) := by decide +kernel
theorem dX8_boilerOf_20 : decode cX8_boilerOf 20 = .ok (.getfield 34, 3) := by decide +kernel
theorem dX8_boilerOf_23 : decode cX8_boilerOf 23 = .ok (.iload_n 1, 1) := by decide +kernel
theorem dX8_boilerOf_24 : decode cX8_boilerOf 24 = .ok (.iaload, 1) := by decide +kernel
theorem dX8_boilerOf_25 : decode cX8_boilerOf 25 = .ok (.goto 8, 3) := by decide +kernel
theorem dX8_boilerOf_28 : decode cX8_boilerOf 28 = .ok (.aload_n 0, 1) := by decide +kernel
theorem dX8_boilerOf_29 : decode cX8_boilerOf 29 = .ok (.iload_n 1, 1) := by decide +kernel
theorem dX8_boilerOf_30 : decode cX8_boilerOf 30 = .ok (.invokevirtual 70, 3) := by decide +kernel
theorem dX8_boilerOf_33 : decode cX8_boilerOf 33 = .ok (.ireturn, 1) := by decide +kernel
theorem dX8_boiler_0 : decode cX8_boiler 0 = .ok (.aload_n 0, 1) := by decide +kernel
theorem dX8_boiler_1 : decode cX8_boiler 1 = .ok (.iload_n 1, 1) := by decide +kernel
theorem dX8_boiler_2 : decode cX8_boiler 2 = .ok (.invokevirtual 148, 3) := by decide +kernel
theorem dX8_boiler_5 : decode cX8_boiler 5 = .ok (.ifCond .ne 9, 3) := by decide +kernel
theorem dX8_boiler_8 : decode cX8_boiler 8 = .ok (.aload_n 0, 1) := by decide +kernel
theorem dX8_boiler_9 : decode cX8_boiler 9 = .ok (.iconst 1, 1) := by decide +kernel
theorem dX8_boiler_10 : decode cX8_boiler 10 = .ok (.invokevirtual 95, 3) := by decide +kernel
theorem dX8_boiler_13 : decode cX8_boiler 13 = .ok (.ireturn, 1) := by decide +kernel
theorem dX8_boiler_14 : decode cX8_boiler 14 = .ok (.iload_n 2, 1) := by decide +kernel
theorem dX8_boiler_15 : decode cX8_boiler 15 = .ok (.iconst 0, 1) := by decide +kernel
theorem dX8_boiler_16 : decode cX8_boiler 16 = .ok (.iconst 4, 1) := by decide +kernel
theorem dX8_boiler_17 : decode cX8_boiler 17 = .ok (.invokestatic 83, 3) := by decide +kernel
theorem dX8_boiler_20 : decode cX8_boiler 20 = .ok (.ifCond .ne 9, 3) := by decide +kernel
theorem dX8_boiler_23 : decode cX8_boiler 23 = .ok (.aload_n 0, 1) := by decide +kernel
theorem dX8_boiler_24 : decode cX8_boiler 24 = .ok (.iconst 2, 1) := by decide +kernel
theorem dX8_boiler_25 : decode cX8_boiler 25 = .ok (.invokevirtual 95, 3) := by decide +kernel
theorem dX8_boiler_28 : decode cX8_boiler 28 = .ok (.ireturn, 1) := by decide +kernel
theorem dX8_boiler_29 : decode cX8_boiler 29 = .ok (.aload_n 0, 1) := by decide +kernel
theorem dX8_boiler_30 : decode cX8_boiler 30 = .ok (.invokevirtual 126, 3) := by decide +kernel
theorem dX8_boiler_33 : decode cX8_boiler 33 = .ok (.aload_n 0, 1) := by decide +kernel
theorem dX8_boiler_34 : decode cX8_boiler 34 = .ok (.invokevirtual 132, 3) := by decide +kernel
theorem dX8_boiler_37 : decode cX8_boiler 37 = .ok (.pop, 1) := by decide +kernel
theorem dX8_boiler_38 : decode cX8_boiler 38 = .ok (.aload_n 0, 1) := by decide +kernel
theorem dX8_boiler_39 : decode cX8_boiler 39 = .ok (.aload_n 0, 1) := by decide +kernel
theorem dX8_boiler_40 : decode cX8_boiler 40 = .ok (.iload_n 1, 1) := by decide +kernel
theorem dX8_boiler_41 : decode cX8_boiler 41 = .ok (.iload_n 2, 1) := by decide +kernel
theorem dX8_boiler_42 : decode cX8_boiler 42 = .ok (.invokevirtual 151, 3) := by decide +kernel
theorem dX8_boiler_45 : decode cX8_boiler 45 = .ok (.invokevirtual 44, 3) := by decide +kernel
theorem dX8_boiler_48 : decode cX8_boiler 48 = .ok (.ireturn, 1) := by decide +kernel
theorem dX8_setTariff_0 : decode cX8_setTariff 0 = .ok (.iload_n 1, 1) := by decide +kernel
theorem dX8_setTariff_1 : decode cX8_setTariff 1 = .ok (.iconst 0, 1) := by decide +kernel
theorem dX8_setTariff_2 : decode cX8_setTariff 2 = .ok (.sipush 999, 3) := by decide +kernel
theorem dX8_setTariff_5 : decode cX8_setTariff 5 = .ok (.invokestatic 83, 3) := by decide +kernel
theorem dX8_setTariff_8 : decode cX8_setTariff 8 = .ok (.ifCond .eq 24, 3) := by decide +kernel
theorem dX8_setTariff_11 : decode cX8_setTariff 11 = .ok (.iload_n 2, 1) := by decide +kernel
theorem dX8_setTariff_12 : decode cX8_setTariff 12 = .ok (.iconst 0, 1) := by decide +kernel
theorem dX8_setTariff_13 : decode cX8_setTariff 13 = .ok (.sipush 1200, 3) := by decide +kernel
theorem dX8_setTariff_16 : decode cX8_setTariff 16 = .ok (.invokestatic 83, 3) := by decide +kernel
theorem dX8_setTariff_19 : decode cX8_setTariff 19 = .ok (.ifCond .eq 13, 3) := by decide +kernel
theorem dX8_setTariff_22 : decode cX8_setTariff 22 = .ok (.iload_n 3, 1) := by decide +kernel
theorem dX8_setTariff_23 : decode cX8_setTariff 23 = .ok (.iconst 0, 1) := by decide +kernel
theorem dX8_setTariff_24 : decode cX8_setTariff 24 = .ok (.bipush 99, 2) := by decide +kernel
theorem dX8_setTariff_26 : decode cX8_setTariff 26 = .ok (.invokestatic 83, 3) := by decide +kernel
theorem dX8_setTariff_29 : decode cX8_setTariff 29 = .ok (.ifCond .ne 9, 3) := by decide +kernel
theorem dX8_setTariff_32 : decode cX8_setTariff 32 = .ok (.aload_n 0, 1) := by decide +kernel
theorem dX8_setTariff_33 : decode cX8_setTariff 33 = .ok (.iconst 1, 1) := by decide +kernel
theorem dX8_setTariff_34 : decode cX8_setTariff 34 = .ok (.invokevirtual 95, 3) := by decide +kernel
theorem dX8_setTariff_37 : decode cX8_setTariff 37 = .ok (.ireturn, 1) := by decide +kernel
theorem dX8_setTariff_38 : decode cX8_setTariff 38 = .ok (.aload_n 0, 1) := by decide +kernel
theorem dX8_setTariff_39 : decode cX8_setTariff 39 = .ok (.invokevirtual 105, 3) := by decide +kernel
theorem dX8_setTariff_42 : decode cX8_setTariff 42 = .ok (.aload_n 0, 1) := by decide +kernel
theorem dX8_setTariff_43 : decode cX8_setTariff 43 = .ok (.getfield 7, 3) := by decide +kernel
theorem dX8_setTariff_46 : decode cX8_setTariff 46 = .ok (.iconst 2, 1) := by decide +kernel
theorem dX8_setTariff_47 : decode cX8_setTariff 47 = .ok (.iaload, 1) := by decide +kernel
theorem dX8_setTariff_48 : decode cX8_setTariff 48 = .ok (.istore 4, 2) := by decide +kernel
theorem dX8_setTariff_50 : decode cX8_setTariff 50 = .ok (.aload_n 0, 1) := by decide +kernel
theorem dX8_setTariff_51 : decode cX8_setTariff 51 = .ok (.getfield 7, 3) := by decide +kernel
theorem dX8_setTariff_54 : decode cX8_setTariff 54 = .ok (.iconst 2, 1) := by decide +kernel
theorem dX8_setTariff_55 : decode cX8_setTariff 55 = .ok (.iload_n 1, 1) := by decide +kernel
theorem dX8_setTariff_56 : decode cX8_setTariff 56 = .ok (.iastore, 1) := by decide +kernel
theorem dX8_setTariff_57 : decode cX8_setTariff 57 = .ok (.aload_n 0, 1) := by decide +kernel
theorem dX8_setTariff_58 : decode cX8_setTariff 58 = .ok (.getfield 7, 3) := by decide +kernel
theorem dX8_setTariff_61 : decode cX8_setTariff 61 = .ok (.iconst 3, 1) := by decide +kernel
theorem dX8_setTariff_62 : decode cX8_setTariff 62 = .ok (.iload_n 2, 1) := by decide +kernel
theorem dX8_setTariff_63 : decode cX8_setTariff 63 = .ok (.iastore, 1) := by decide +kernel
theorem dX8_setTariff_64 : decode cX8_setTariff 64 = .ok (.aload_n 0, 1) := by decide +kernel
theorem dX8_setTariff_65 : decode cX8_setTariff 65 = .ok (.getfield 7, 3) := by decide +kernel
theorem dX8_setTariff_68 : decode cX8_setTariff 68 = .ok (.iconst 4, 1) := by decide +kernel
theorem dX8_setTariff_69 : decode cX8_setTariff 69 = .ok (.iload_n 3, 1) := by decide +kernel
theorem dX8_setTariff_70 : decode cX8_setTariff 70 = .ok (.iastore, 1) := by decide +kernel
theorem dX8_setTariff_71 : decode cX8_setTariff 71 = .ok (.aload_n 0, 1) := by decide +kernel
theorem dX8_setTariff_72 : decode cX8_setTariff 72 = .ok (.iload 4, 2) := by decide +kernel
theorem dX8_setTariff_74 : decode cX8_setTariff 74 = .ok (.invokevirtual 112, 3) := by decide +kernel
theorem dX8_setTariff_77 : decode cX8_setTariff 77 = .ok (.ireturn, 1) := by decide +kernel
theorem dX8_pass_0 : decode cX8_pass 0 = .ok (.iload_n 1, 1) := by decide +kernel
theorem dX8_pass_1 : decode cX8_pass 1 = .ok (.iconst 1, 1) := by decide +kernel
theorem dX8_pass_2 : decode cX8_pass 2 = .ok (.bipush 100, 2) := by decide +kernel
theorem dX8_pass_4 : decode cX8_pass 4 = .ok (.invokestatic 83, 3) := by decide +kernel
theorem dX8_pass_7 : decode cX8_pass 7 = .ok (.ifCond .ne 9, 3) := by decide +kernel
theorem dX8_pass_10 : decode cX8_pass 10 = .ok (.aload_n 0, 1) := by decide +kernel
theorem dX8_pass_11 : decode cX8_pass 11 = .ok (.iconst 1, 1) := by decide +kernel
theorem dX8_pass_12 : decode cX8_pass 12 = .ok (.invokevirtual 95, 3) := by decide +kernel
theorem dX8_pass_15 : decode cX8_pass 15 = .ok (.ireturn, 1) := by decide +kernel
theorem dX8_pass_16 : decode cX8_pass 16 = .ok (.aload_n 0, 1) := by decide +kernel
theorem dX8_pass_17 : decode cX8_pass 17 = .ok (.getfield 7, 3) := by decide +kernel
theorem dX8_pass_20 : decode cX8_pass 20 = .ok (.bipush 8, 2) := by decide +kernel
theorem dX8_pass_22 : decode cX8_pass 22 = .ok (.iaload, 1) := by decide +kernel
theorem dX8_pass_23 : decode cX8_pass 23 = .ok (.iload_n 1, 1) := by decide +kernel
theorem dX8_pass_24 : decode cX8_pass 24 = .ok (.iadd, 1) := by decide +kernel
theorem dX8_pass_25 : decode cX8_pass 25 = .ok (.sipush 200, 3) := by decide +kernel
theorem dX8_pass_28 : decode cX8_pass 28 = .ok (.if_icmp .le 9, 3) := by decide +kernel
theorem dX8_pass_31 : decode cX8_pass 31 = .ok (.aload_n 0, 1) := by decide +kernel
theorem dX8_pass_32 : decode cX8_pass 32 = .ok (.iconst 2, 1) := by decide +kernel
theorem dX8_pass_33 : decode cX8_pass 33 = .ok (.invokevirtual 95, 3) := by decide +kernel
theorem dX8_pass_36 : decode cX8_pass 36 = .ok (.ireturn, 1) := by decide +kernel
theorem dX8_pass_37 : decode cX8_pass 37 = .ok (.aload_n 0, 1) := by decide +kernel
theorem dX8_pass_38 : decode cX8_pass 38 = .ok (.invokevirtual 105, 3) := by decide +kernel
theorem dX8_pass_41 : decode cX8_pass 41 = .ok (.aload_n 0, 1) := by decide +kernel
theorem dX8_pass_42 : decode cX8_pass 42 = .ok (.invokevirtual 126, 3) := by decide +kernel
theorem dX8_pass_45 : decode cX8_pass 45 = .ok (.iconst 1, 1) := by decide +kernel
theorem dX8_pass_46 : decode cX8_pass 46 = .ok (.istore_n 2, 1) := by decide +kernel
theorem dX8_pass_47 : decode cX8_pass 47 = .ok (.iload_n 2, 1) := by decide +kernel
theorem dX8_pass_48 : decode cX8_pass 48 = .ok (.aload_n 0, 1) := by decide +kernel
theorem dX8_pass_49 : decode cX8_pass 49 = .ok (.getfield 7, 3) := by decide +kernel
theorem dX8_pass_52 : decode cX8_pass 52 = .ok (.iconst 5, 1) := by decide +kernel
theorem dX8_pass_53 : decode cX8_pass 53 = .ok (.iaload, 1) := by decide +kernel
theorem dX8_pass_54 : decode cX8_pass 54 = .ok (.if_icmp .ge 31, 3) := by decide +kernel
theorem dX8_pass_57 : decode cX8_pass 57 = .ok (.aload_n 0, 1) := by decide +kernel
theorem dX8_pass_58 : decode cX8_pass 58 = .ok (.iload_n 2, 1) := by decide +kernel
theorem dX8_pass_59 : decode cX8_pass 59 = .ok (.bipush 7, 2) := by decide +kernel
theorem dX8_pass_61 : decode cX8_pass 61 = .ok (.aload_n 0, 1) := by decide +kernel
theorem dX8_pass_62 : decode cX8_pass 62 = .ok (.iload_n 2, 1) := by decide +kernel
theorem dX8_pass_63 : decode cX8_pass 63 = .ok (.bipush 7, 2) := by decide +kernel
theorem dX8_pass_65 : decode cX8_pass 65 = .ok (.invokevirtual 48, 3) := by decide +kernel
theorem dX8_pass_68 : decode cX8_pass 68 = .ok (.iload_n 1, 1) := by decide +kernel
theorem dX8_pass_69 : decode cX8_pass 69 = .ok (.aload_n 0, 1) := by decide +kernel
theorem dX8_pass_70 : decode cX8_pass 70 = .ok (.iload_n 2, 1) := by decide +kernel
theorem dX8_pass_71 : decode cX8_pass 71 = .ok (.invokevirtual 61, 3) := by decide +kernel
theorem dX8_pass_74 : decode cX8_pass 74 = .ok (.imul, 1) := by decide +kernel
theorem dX8_pass_75 : decode cX8_pass 75 = .ok (.iadd, 1) := by decide +kernel
theorem dX8_pass_76 : decode cX8_pass 76 = .ok (.invokevirtual 87, 3) := by decide +kernel
theorem dX8_pass_79 : decode cX8_pass 79 = .ok (.iinc 2 1, 3) := by decide +kernel
theorem dX8_pass_82 : decode cX8_pass 82 = .ok (.goto (-35), 3) := by decide +kernel
theorem dX8_pass_85 : decode cX8_pass 85 = .ok (.aload_n 0, 1) := by decide +kernel
theorem dX8_pass_86 : decode cX8_pass 86 = .ok (.getfield 7, 3) := by decide +kernel
theorem dX8_pass_89 : decode cX8_pass 89 = .ok (.bipush 7, 2) := by decide +kernel
theorem dX8_pass_91 : decode cX8_pass 91 = .ok (.dup2, 1) := by decide +kernel
theorem dX8_pass_92 : decode cX8_pass 92 = .ok (.iaload, 1) := by decide +kernel
theorem dX8_pass_93 : decode cX8_pass 93 = .ok (.iload_n 1, 1) := by decide +kernel
theorem dX8_pass_94 : decode cX8_pass 94 = .ok (.aload_n 0, 1) := by decide +kernel
theorem dX8_pass_95 : decode cX8_pass 95 = .ok (.invokevirtual 132, 3) := by decide +kernel
theorem dX8_pass_98 : decode cX8_pass 98 = .ok (.imul, 1) := by decide +kernel
theorem dX8_pass_99 : decode cX8_pass 99 = .ok (.iadd, 1) := by decide +kernel
theorem dX8_pass_100 : decode cX8_pass 100 = .ok (.iastore, 1) := by decide +kernel
theorem dX8_pass_101 : decode cX8_pass 101 = .ok (.aload_n 0, 1) := by decide +kernel
theorem dX8_pass_102 : decode cX8_pass 102 = .ok (.getfield 7, 3) := by decide +kernel
theorem dX8_pass_105 : decode cX8_pass 105 = .ok (.bipush 8, 2) := by decide +kernel
theorem dX8_pass_107 : decode cX8_pass 107 = .ok (.dup2, 1) := by decide +kernel
theorem dX8_pass_108 : decode cX8_pass 108 = .ok (.iaload, 1) := by decide +kernel
theorem dX8_pass_109 : decode cX8_pass 109 = .ok (.iload_n 1, 1) := by decide +kernel
theorem dX8_pass_110 : decode cX8_pass 110 = .ok (.iadd, 1) := by decide +kernel
theorem dX8_pass_111 : decode cX8_pass 111 = .ok (.iastore, 1) := by decide +kernel
theorem dX8_pass_112 : decode cX8_pass 112 = .ok (.aload_n 0, 1) := by decide +kernel
theorem dX8_pass_113 : decode cX8_pass 113 = .ok (.aload_n 0, 1) := by decide +kernel
theorem dX8_pass_114 : decode cX8_pass 114 = .ok (.getfield 7, 3) := by decide +kernel
theorem dX8_pass_117 : decode cX8_pass 117 = .ok (.bipush 8, 2) := by decide +kernel
theorem dX8_pass_119 : decode cX8_pass 119 = .ok (.iaload, 1) := by decide +kernel
theorem dX8_pass_120 : decode cX8_pass 120 = .ok (.invokevirtual 112, 3) := by decide +kernel
theorem dX8_pass_123 : decode cX8_pass 123 = .ok (.ireturn, 1) := by decide +kernel
theorem dX8_setMeter_0 : decode cX8_setMeter 0 = .ok (.aload_n 0, 1) := by decide +kernel
theorem dX8_setMeter_1 : decode cX8_setMeter 1 = .ok (.iload_n 1, 1) := by decide +kernel
theorem dX8_setMeter_2 : decode cX8_setMeter 2 = .ok (.invokevirtual 115, 3) := by decide +kernel
theorem dX8_setMeter_5 : decode cX8_setMeter 5 = .ok (.ifCond .ne 9, 3) := by decide +kernel
theorem dX8_setMeter_8 : decode cX8_setMeter 8 = .ok (.aload_n 0, 1) := by decide +kernel
theorem dX8_setMeter_9 : decode cX8_setMeter 9 = .ok (.iconst 1, 1) := by decide +kernel
theorem dX8_setMeter_10 : decode cX8_setMeter 10 = .ok (.invokevirtual 95, 3) := by decide +kernel
theorem dX8_setMeter_13 : decode cX8_setMeter 13 = .ok (.ireturn, 1) := by decide +kernel
theorem dX8_setMeter_14 : decode cX8_setMeter 14 = .ok (.aload_n 0, 1) := by decide +kernel
theorem dX8_setMeter_15 : decode cX8_setMeter 15 = .ok (.invokevirtual 105, 3) := by decide +kernel
theorem dX8_setMeter_18 : decode cX8_setMeter 18 = .ok (.aload_n 0, 1) := by decide +kernel
theorem dX8_setMeter_19 : decode cX8_setMeter 19 = .ok (.iload_n 1, 1) := by decide +kernel
theorem dX8_setMeter_20 : decode cX8_setMeter 20 = .ok (.bipush 6, 2) := by decide +kernel
theorem dX8_setMeter_22 : decode cX8_setMeter 22 = .ok (.iload_n 2, 1) := by decide +kernel
theorem dX8_setMeter_23 : decode cX8_setMeter 23 = .ok (.ifCond .eq 7, 3) := by decide +kernel
theorem dX8_setMeter_26 : decode cX8_setMeter 26 = .ok (.iconst 1, 1) := by decide +kernel
theorem dX8_setMeter_27 : decode cX8_setMeter 27 = .ok (.goto 4, 3) := by decide +kernel
theorem dX8_setMeter_30 : decode cX8_setMeter 30 = .ok (.iconst 0, 1) := by decide +kernel
theorem dX8_setMeter_31 : decode cX8_setMeter 31 = .ok (.invokevirtual 87, 3) := by decide +kernel
theorem dX8_setMeter_34 : decode cX8_setMeter 34 = .ok (.aload_n 0, 1) := by decide +kernel
theorem dX8_setMeter_35 : decode cX8_setMeter 35 = .ok (.aload_n 0, 1) := by decide +kernel
theorem dX8_setMeter_36 : decode cX8_setMeter 36 = .ok (.invokevirtual 138, 3) := by decide +kernel
theorem dX8_setMeter_39 : decode cX8_setMeter 39 = .ok (.invokevirtual 112, 3) := by decide +kernel
theorem dX8_setMeter_42 : decode cX8_setMeter 42 = .ok (.ireturn, 1) := by decide +kernel
theorem dX8_meterAt_0 : decode cX8_meterAt 0 = .ok (.iload_n 1, 1) := by decide +kernel
theorem dX8_meterAt_1 : decode cX8_meterAt 1 = .ok (.istore_n 2, 1) := by decide +kernel
theorem dX8_meterAt_2 : decode cX8_meterAt 2 = .ok (.iload_n 2, 1) := by decide +kernel
theorem dX8_meterAt_3 : decode cX8_meterAt 3 = .ok (.ifCond .le 23, 3) := by decide +kernel
theorem dX8_meterAt_6 : decode cX8_meterAt 6 = .ok (.aload_n 0, 1) := by decide +kernel
theorem dX8_meterAt_7 : decode cX8_meterAt 7 = .ok (.iload_n 2, 1) := by decide +kernel
theorem dX8_meterAt_8 : decode cX8_meterAt 8 = .ok (.bipush 6, 2) := by decide +kernel
theorem dX8_meterAt_10 : decode cX8_meterAt 10 = .ok (.invokevirtual 48, 3) := by decide +kernel
theorem dX8_meterAt_13 : decode cX8_meterAt 13 = .ok (.ifCond .ne 13, 3) := by decide +kernel
theorem dX8_meterAt_16 : decode cX8_meterAt 16 = .ok (.aload_n 0, 1) := by decide +kernel
theorem dX8_meterAt_17 : decode cX8_meterAt 17 = .ok (.iload_n 2, 1) := by decide +kernel
theorem dX8_meterAt_18 : decode cX8_meterAt 18 = .ok (.iconst 0, 1) := by decide +kernel
theorem dX8_meterAt_19 : decode cX8_meterAt 19 = .ok (.invokevirtual 48, 3) := by decide +kernel
theorem dX8_meterAt_22 : decode cX8_meterAt 22 = .ok (.istore_n 2, 1) := by decide +kernel
theorem dX8_meterAt_23 : decode cX8_meterAt 23 = .ok (.goto (-21), 3) := by decide +kernel
theorem dX8_meterAt_26 : decode cX8_meterAt 26 = .ok (.iload_n 2, 1) := by decide +kernel
theorem dX8_meterAt_27 : decode cX8_meterAt 27 = .ok (.ireturn, 1) := by decide +kernel
theorem dX8_hasMeter_0 : decode cX8_hasMeter 0 = .ok (.iload_n 1, 1) := by decide +kernel
theorem dX8_hasMeter_1 : decode cX8_hasMeter 1 = .ok (.ifCond .eq 14, 3) := by decide +kernel
theorem dX8_hasMeter_4 : decode cX8_hasMeter 4 = .ok (.aload_n 0, 1) := by decide +kernel
theorem dX8_hasMeter_5 : decode cX8_hasMeter 5 = .ok (.iload_n 1, 1) := by decide +kernel
theorem dX8_hasMeter_6 : decode cX8_hasMeter 6 = .ok (.bipush 6, 2) := by decide +kernel
theorem dX8_hasMeter_8 : decode cX8_hasMeter 8 = .ok (.invokevirtual 48, 3) := by decide +kernel
theorem dX8_hasMeter_11 : decode cX8_hasMeter 11 = .ok (.iconst 1, 1) := by decide +kernel
theorem dX8_hasMeter_12 : decode cX8_hasMeter 12 = .ok (.if_icmp .ne 7, 3) := by decide +kernel
theorem dX8_hasMeter_15 : decode cX8_hasMeter 15 = .ok (.iconst 1, 1) := by decide +kernel
theorem dX8_hasMeter_16 : decode cX8_hasMeter 16 = .ok (.goto 4, 3) := by decide +kernel
theorem dX8_hasMeter_19 : decode cX8_hasMeter 19 = .ok (.iconst 0, 1) := by decide +kernel
theorem dX8_hasMeter_20 : decode cX8_hasMeter 20 = .ok (.ireturn, 1) := by decide +kernel
theorem dX8_regionOf_0 : decode cX8_regionOf 0 = .ok (.aload_n 0, 1) := by decide +kernel
theorem dX8_regionOf_1 : decode cX8_regionOf 1 = .ok (.iload_n 1, 1) := by decide +kernel
theorem dX8_regionOf_2 : decode cX8_regionOf 2 = .ok (.invokevirtual 154, 3) := by decide +kernel
theorem dX8_regionOf_5 : decode cX8_regionOf 5 = .ok (.ifCond .ne 5, 3) := by decide +kernel
theorem dX8_regionOf_8 : decode cX8_regionOf 8 = .ok (.iconst (-1), 1) := by decide +kernel
theorem dX8_regionOf_9 : decode cX8_regionOf 9 = .ok (.ireturn, 1) := by decide +kernel
theorem dX8_regionOf_10 : decode cX8_regionOf 10 = .ok (.iconst 0, 1) := by decide +kernel
theorem dX8_regionOf_11 : decode cX8_regionOf 11 = .ok (.istore_n 2, 1) := by decide +kernel
theorem dX8_regionOf_12 : decode cX8_regionOf 12 = .ok (.iconst 1, 1) := by decide +kernel
theorem dX8_regionOf_13 : decode cX8_regionOf 13 = .ok (.istore_n 3, 1) := by decide +kernel
theorem dX8_regionOf_14 : decode cX8_regionOf 14 = .ok (.iload_n 3, 1) := by decide +kernel
theorem dX8_regionOf_15 : decode cX8_regionOf 15 = .ok (.aload_n 0, 1) := by decide +kernel
theorem dX8_regionOf_16 : decode cX8_regionOf 16 = .ok (.getfield 7, 3) := by decide +kernel
theorem dX8_regionOf_19 : decode cX8_regionOf 19 = .ok (.iconst 5, 1) := by decide +kernel
theorem dX8_regionOf_20 : decode cX8_regionOf 20 = .ok (.iaload, 1) := by decide +kernel
theorem dX8_regionOf_21 : decode cX8_regionOf 21 = .ok (.if_icmp .ge 26, 3) := by decide +kernel
theorem dX8_regionOf_24 : decode cX8_regionOf 24 = .ok (.iload_n 2, 1) := by decide +kernel
theorem dX8_regionOf_25 : decode cX8_regionOf 25 = .ok (.aload_n 0, 1) := by decide +kernel
theorem dX8_regionOf_26 : decode cX8_regionOf 26 = .ok (.iload_n 3, 1) := by decide +kernel
theorem dX8_regionOf_27 : decode cX8_regionOf 27 = .ok (.invokevirtual 157, 3) := by decide +kernel
theorem dX8_regionOf_30 : decode cX8_regionOf 30 = .ok (.iload_n 1, 1) := by decide +kernel
theorem dX8_regionOf_31 : decode cX8_regionOf 31 = .ok (.if_icmp .ne 7, 3) := by decide +kernel
theorem dX8_regionOf_34 : decode cX8_regionOf 34 = .ok (.iconst 1, 1) := by decide +kernel
theorem dX8_regionOf_35 : decode cX8_regionOf 35 = .ok (.goto 4, 3) := by decide +kernel
theorem dX8_regionOf_38 : decode cX8_regionOf 38 = .ok (.iconst 0, 1) := by decide +kernel
theorem dX8_regionOf_39 : decode cX8_regionOf 39 = .ok (.iadd, 1) := by decide +kernel
theorem dX8_regionOf_40 : decode cX8_regionOf 40 = .ok (.istore_n 2, 1) := by decide +kernel
theorem dX8_regionOf_41 : decode cX8_regionOf 41 = .ok (.iinc 3 1, 3) := by decide +kernel
theorem dX8_regionOf_44 : decode cX8_regionOf 44 = .ok (.goto (-30), 3) := by decide +kernel
theorem dX8_regionOf_47 : decode cX8_regionOf 47 = .ok (.iload_n 2, 1) := by decide +kernel
theorem dX8_regionOf_48 : decode cX8_regionOf 48 = .ok (.ireturn, 1) := by decide +kernel
theorem dX8_balanceOf_0 : decode cX8_balanceOf 0 = .ok (.aload_n 0, 1) := by decide +kernel
theorem dX8_balanceOf_1 : decode cX8_balanceOf 1 = .ok (.iload_n 1, 1) := by decide +kernel
theorem dX8_balanceOf_2 : decode cX8_balanceOf 2 = .ok (.invokevirtual 154, 3) := by decide +kernel
theorem dX8_balanceOf_5 : decode cX8_balanceOf 5 = .ok (.ifCond .ne 5, 3) := by decide +kernel
theorem dX8_balanceOf_8 : decode cX8_balanceOf 8 = .ok (.iconst (-1), 1) := by decide +kernel
theorem dX8_balanceOf_9 : decode cX8_balanceOf 9 = .ok (.ireturn, 1) := by decide +kernel
theorem dX8_balanceOf_10 : decode cX8_balanceOf 10 = .ok (.iconst 0, 1) := by decide +kernel
theorem dX8_balanceOf_11 : decode cX8_balanceOf 11 = .ok (.istore_n 2, 1) := by decide +kernel
theorem dX8_balanceOf_12 : decode cX8_balanceOf 12 = .ok (.iconst 1, 1) := by decide +kernel
theorem dX8_balanceOf_13 : decode cX8_balanceOf 13 = .ok (.istore_n 3, 1) := by decide +kernel
theorem dX8_balanceOf_14 : decode cX8_balanceOf 14 = .ok (.iload_n 3, 1) := by decide +kernel
theorem dX8_balanceOf_15 : decode cX8_balanceOf 15 = .ok (.aload_n 0, 1) := by decide +kernel
theorem dX8_balanceOf_16 : decode cX8_balanceOf 16 = .ok (.getfield 7, 3) := by decide +kernel
theorem dX8_balanceOf_19 : decode cX8_balanceOf 19 = .ok (.iconst 5, 1) := by decide +kernel
theorem dX8_balanceOf_20 : decode cX8_balanceOf 20 = .ok (.iaload, 1) := by decide +kernel
theorem dX8_balanceOf_21 : decode cX8_balanceOf 21 = .ok (.if_icmp .ge 31, 3) := by decide +kernel
theorem dX8_balanceOf_24 : decode cX8_balanceOf 24 = .ok (.iload_n 2, 1) := by decide +kernel
theorem dX8_balanceOf_25 : decode cX8_balanceOf 25 = .ok (.aload_n 0, 1) := by decide +kernel
theorem dX8_balanceOf_26 : decode cX8_balanceOf 26 = .ok (.iload_n 3, 1) := by decide +kernel
theorem dX8_balanceOf_27 : decode cX8_balanceOf 27 = .ok (.invokevirtual 157, 3) := by decide +kernel
theorem dX8_balanceOf_30 : decode cX8_balanceOf 30 = .ok (.iload_n 1, 1) := by decide +kernel
theorem dX8_balanceOf_31 : decode cX8_balanceOf 31 = .ok (.if_icmp .ne 12, 3) := by decide +kernel
theorem dX8_balanceOf_34 : decode cX8_balanceOf 34 = .ok (.aload_n 0, 1) := by decide +kernel
theorem dX8_balanceOf_35 : decode cX8_balanceOf 35 = .ok (.iload_n 3, 1) := by decide +kernel
theorem dX8_balanceOf_36 : decode cX8_balanceOf 36 = .ok (.iconst 5, 1) := by decide +kernel
theorem dX8_balanceOf_37 : decode cX8_balanceOf 37 = .ok (.invokevirtual 48, 3) := by decide +kernel
theorem dX8_balanceOf_40 : decode cX8_balanceOf 40 = .ok (.goto 4, 3) := by decide +kernel
theorem dX8_balanceOf_43 : decode cX8_balanceOf 43 = .ok (.iconst 0, 1) := by decide +kernel
theorem dX8_balanceOf_44 : decode cX8_balanceOf 44 = .ok (.iadd, 1) := by decide +kernel
theorem dX8_balanceOf_45 : decode cX8_balanceOf 45 = .ok (.istore_n 2, 1) := by decide +kernel
theorem dX8_balanceOf_46 : decode cX8_balanceOf 46 = .ok (.iinc 3 1, 3) := by decide +kernel
theorem dX8_balanceOf_49 : decode cX8_balanceOf 49 = .ok (.goto (-35), 3) := by decide +kernel
theorem dX8_balanceOf_52 : decode cX8_balanceOf 52 = .ok (.iload_n 2, 1) := by decide +kernel
theorem dX8_balanceOf_53 : decode cX8_balanceOf 53 = .ok (.ireturn, 1) := by decide +kernel
theorem dX8_inBranch_0 : decode cX8_inBranch 0 = .ok (.iconst 0, 1) := by decide +kernel
theorem dX8_inBranch_1 : decode cX8_inBranch 1 = .ok (.istore_n 3, 1) := by decide +kernel
theorem dX8_inBranch_2 : decode cX8_inBranch 2 = .ok (.iconst 1, 1) := by decide +kernel
theorem dX8_inBranch_3 : decode cX8_inBranch 3 = .ok (.istore 4, 2) := by decide +kernel
theorem dX8_inBranch_5 : decode cX8_inBranch 5 = .ok (.iload 4, 2) := by decide +kernel
theorem dX8_inBranch_7 : decode cX8_inBranch 7 = .ok (.aload_n 0, 1) := by decide +kernel
theorem dX8_inBranch_8 : decode cX8_inBranch 8 = .ok (.getfield 7, 3) := by decide +kernel
theorem dX8_inBranch_11 : decode cX8_inBranch 11 = .ok (.iconst 5, 1) := by decide +kernel
theorem dX8_inBranch_12 : decode cX8_inBranch 12 = .ok (.iaload, 1) := by decide +kernel
theorem dX8_inBranch_13 : decode cX8_inBranch 13 = .ok (.if_icmp .ge 37, 3) := by decide +kernel
theorem dX8_inBranch_16 : decode cX8_inBranch 16 = .ok (.iload_n 3, 1) := by decide +kernel
theorem dX8_inBranch_17 : decode cX8_inBranch 17 = .ok (.aload_n 0, 1) := by decide +kernel
theorem dX8_inBranch_18 : decode cX8_inBranch 18 = .ok (.iload 4, 2) := by decide +kernel
theorem dX8_inBranch_20 : decode cX8_inBranch 20 = .ok (.invokevirtual 157, 3) := by decide +kernel
theorem dX8_inBranch_23 : decode cX8_inBranch 23 = .ok (.iload_n 1, 1) := by decide +kernel
theorem dX8_inBranch_24 : decode cX8_inBranch 24 = .ok (.if_icmp .ne 17, 3) := by decide +kernel
theorem dX8_inBranch_27 : decode cX8_inBranch 27 = .ok (.aload_n 0, 1) := by decide +kernel
theorem dX8_inBranch_28 : decode cX8_inBranch 28 = .ok (.iload 4, 2) := by decide +kernel
theorem dX8_inBranch_30 : decode cX8_inBranch 30 = .ok (.iload_n 2, 1) := by decide +kernel
theorem dX8_inBranch_31 : decode cX8_inBranch 31 = .ok (.invokevirtual 117, 3) := by decide +kernel
theorem dX8_inBranch_34 : decode cX8_inBranch 34 = .ok (.ifCond .eq 7, 3) := by decide +kernel
theorem dX8_inBranch_37 : decode cX8_inBranch 37 = .ok (.iconst 1, 1) := by decide +kernel
theorem dX8_inBranch_38 : decode cX8_inBranch 38 = .ok (.goto 4, 3) := by decide +kernel
theorem dX8_inBranch_41 : decode cX8_inBranch 41 = .ok (.iconst 0, 1) := by decide +kernel
theorem dX8_inBranch_42 : decode cX8_inBranch 42 = .ok (.iadd, 1) := by decide +kernel
theorem dX8_inBranch_43 : decode cX8_inBranch 43 = .ok (.istore_n 3, 1) := by decide +kernel
theorem dX8_inBranch_44 : decode cX8_inBranch 44 = .ok (.iinc 4 1, 3) := by decide +kernel
theorem dX8_inBranch_47 : decode cX8_inBranch 47 = .ok (.goto (-42), 3) := by decide +kernel
theorem dX8_inBranch_50 : decode cX8_inBranch 50 = .ok (.iload_n 3, 1) := by decide +kernel
theorem dX8_inBranch_51 : decode cX8_inBranch 51 = .ok (.ireturn, 1) := by decide +kernel
theorem dX8_nextOf_0 : decode cX8_nextOf 0 = .ok (.aload_n 0, 1) := by decide +kernel
theorem dX8_nextOf_1 : decode cX8_nextOf 1 = .ok (.iload_n 1, 1) := by decide +kernel
theorem dX8_nextOf_2 : decode cX8_nextOf 2 = .ok (.invokevirtual 160, 3) := by decide +kernel
theorem dX8_nextOf_5 : decode cX8_nextOf 5 = .ok (.iconst 1, 1) := by decide +kernel
theorem dX8_nextOf_6 : decode cX8_nextOf 6 = .ok (.if_icmp .lt 12, 3) := by decide +kernel
theorem dX8_nextOf_9 : decode cX8_nextOf 9 = .ok (.aload_n 0, 1) := by decide +kernel
theorem dX8_nextOf_10 : decode cX8_nextOf 10 = .ok (.iload_n 1, 1) := by decide +kernel
theorem dX8_nextOf_11 : decode cX8_nextOf 11 = .ok (.invokevirtual 163, 3) := by decide +kernel
theorem dX8_nextOf_14 : decode cX8_nextOf 14 = .ok (.iconst 2, 1) := by decide +kernel
theorem dX8_nextOf_15 : decode cX8_nextOf 15 = .ok (.if_icmp .ge 5, 3) := by decide +kernel
theorem dX8_nextOf_18 : decode cX8_nextOf 18 = .ok (.iconst (-1), 1) := by decide +kernel
theorem dX8_nextOf_19 : decode cX8_nextOf 19 = .ok (.ireturn, 1) := by decide +kernel
theorem dX8_nextOf_20 : decode cX8_nextOf 20 = .ok (.iconst (-1), 1) := by decide +kernel
theorem dX8_nextOf_21 : decode cX8_nextOf 21 = .ok (.istore_n 2, 1) := by decide +kernel
theorem dX8_nextOf_22 : decode cX8_nextOf 22 = .ok (.iconst 0, 1) := by decide +kernel
theorem dX8_nextOf_23 : decode cX8_nextOf 23 = .ok (.istore_n 3, 1) := by decide +kernel
theorem dX8_nextOf_24 : decode cX8_nextOf 24 = .ok (.iconst 1, 1) := by decide +kernel
theorem dX8_nextOf_25 : decode cX8_nextOf 25 = .ok (.istore 4, 2) := by decide +kernel
theorem dX8_nextOf_27 : decode cX8_nextOf 27 = .ok (.iload 4, 2) := by decide +kernel
theorem dX8_nextOf_29 : decode cX8_nextOf 29 = .ok (.aload_n 0, 1) := by decide +kernel
theorem dX8_nextOf_30 : decode cX8_nextOf 30 = .ok (.getfield 7, 3) := by decide +kernel
theorem dX8_nextOf_33 : decode cX8_nextOf 33 = .ok (.iconst 5, 1) := by decide +kernel
theorem dX8_nextOf_34 : decode cX8_nextOf 34 = .ok (.iaload, 1) := by decide +kernel
theorem dX8_nextOf_35 : decode cX8_nextOf 35 = .ok (.if_icmp .ge 93, 3) := by decide +kernel
theorem dX8_nextOf_38 : decode cX8_nextOf 38 = .ok (.aload_n 0, 1) := by decide +kernel
theorem dX8_nextOf_39 : decode cX8_nextOf 39 = .ok (.iload 4, 2) := by decide +kernel
theorem dX8_nextOf_41 : decode cX8_nextOf 41 = .ok (.invokevirtual 157, 3) := by decide +kernel
theorem dX8_nextOf_44 : decode cX8_nextOf 44 = .ok (.iload_n 1, 1) := by decide +kernel
theorem dX8_nextOf_45 : decode cX8_nextOf 45 = .ok (.if_icmp .ne 77, 3) := by decide +kernel
theorem dX8_nextOf_48 : decode cX8_nextOf 48 = .ok (.aload_n 0, 1) := by decide +kernel
theorem dX8_nextOf_49 : decode cX8_nextOf 49 = .ok (.iload 4, 2) := by decide +kernel
theorem dX8_nextOf_51 : decode cX8_nextOf 51 = .ok (.bipush 6, 2) := by decide +kernel
theorem dX8_nextOf_53 : decode cX8_nextOf 53 = .ok (.invokevirtual 48, 3) := by decide +kernel
theorem dX8_nextOf_56 : decode cX8_nextOf 56 = .ok (.ifCond .ne 66, 3) := by decide +kernel
theorem dX8_nextOf_59 : decode cX8_nextOf 59 = .ok (.iconst 2, 1) := by decide +kernel
theorem dX8_nextOf_60 : decode cX8_nextOf 60 = .ok (.aload_n 0, 1) := by decide +kernel
theorem dX8_nextOf_61 : decode cX8_nextOf 61 = .ok (.iload_n 1, 1) := by decide +kernel
theorem dX8_nextOf_62 : decode cX8_nextOf 62 = .ok (.iload 4, 2) := by decide +kernel
theorem dX8_nextOf_64 : decode cX8_nextOf 64 = .ok (.invokevirtual 166, 3) := by decide +kernel
theorem dX8_nextOf_67 : decode cX8_nextOf 67 = .ok (.imul, 1) := by decide +kernel
theorem dX8_nextOf_68 : decode cX8_nextOf 68 = .ok (.aload_n 0, 1) := by decide +kernel
theorem dX8_nextOf_69 : decode cX8_nextOf 69 = .ok (.iload_n 1, 1) := by decide +kernel
theorem dX8_nextOf_70 : decode cX8_nextOf 70 = .ok (.invokevirtual 163, 3) := by decide +kernel
theorem dX8_nextOf_73 : decode cX8_nextOf 73 = .ok (.isub, 1) := by decide +kernel
theorem dX8_nextOf_74 : decode cX8_nextOf 74 = .ok (.istore 5, 2) := by decide +kernel
theorem dX8_nextOf_76 : decode cX8_nextOf 76 = .ok (.iload 5, 2) := by decide +kernel
theorem dX8_nextOf_78 : decode cX8_nextOf 78 = .ok (.ifCond .ge 9, 3) := by decide +kernel
theorem dX8_nextOf_81 : decode cX8_nextOf 81 = .ok (.iload 5, 2) := by decide +kernel
theorem dX8_nextOf_83 : decode cX8_nextOf 83 = .ok (.ineg, 1) := by decide +kernel
theorem dX8_nextOf_84 : decode cX8_nextOf 84 = .ok (.goto 5, 3) := by decide +kernel
theorem dX8_nextOf_87 : decode cX8_nextOf 87 = .ok (.iload 5, 2) := by decide +kernel
theorem dX8_nextOf_89 : decode cX8_nextOf 89 = .ok (.istore 5, 2) := by decide +kernel
theorem dX8_nextOf_91 : decode cX8_nextOf 91 = .ok (.iload_n 2, 1) := by decide +kernel
theorem dX8_nextOf_92 : decode cX8_nextOf 92 = .ok (.iconst (-1), 1) := by decide +kernel
theorem dX8_nextOf_93 : decode cX8_nextOf 93 = .ok (.if_icmp .eq 9, 3) := by decide +kernel
theorem dX8_nextOf_96 : decode cX8_nextOf 96 = .ok (.iload 5, 2) := by decide +kernel
theorem dX8_nextOf_98 : decode cX8_nextOf 98 = .ok (.iload_n 3, 1) := by decide +kernel
theorem dX8_nextOf_99 : decode cX8_nextOf 99 = .ok (.if_icmp .ge 8, 3) := by decide +kernel
theorem dX8_nextOf_102 : decode cX8_nextOf 102 = .ok (.iload 4, 2) := by decide +kernel
theorem dX8_nextOf_104 : decode cX8_nextOf 104 = .ok (.goto 4, 3) := by decide +kernel
theorem dX8_nextOf_107 : decode cX8_nextOf 107 = .ok (.iload_n 2, 1) := by decide +kernel
theorem dX8_nextOf_108 : decode cX8_nextOf 108 = .ok (.istore_n 2, 1) := by decide +kernel
theorem dX8_nextOf_109 : decode cX8_nextOf 109 = .ok (.iload_n 2, 1) := by decide +kernel
theorem dX8_nextOf_110 : decode cX8_nextOf 110 = .ok (.iload 4, 2) := by decide +kernel
theorem dX8_nextOf_112 : decode cX8_nextOf 112 = .ok (.if_icmp .ne 8, 3) := by decide +kernel
theorem dX8_nextOf_115 : decode cX8_nextOf 115 = .ok (.iload 5, 2) := by decide +kernel
theorem dX8_nextOf_117 : decode cX8_nextOf 117 = .ok (.goto 4, 3) := by decide +kernel
theorem dX8_nextOf_120 : decode cX8_nextOf 120 = .ok (.iload_n 3, 1) := by decide +kernel
theorem dX8_nextOf_121 : decode cX8_nextOf 121 = .ok (.istore_n 3, 1) := by decide +kernel
theorem dX8_nextOf_122 : decode cX8_nextOf 122 = .ok (.iinc 4 1, 3) := by decide +kernel
theorem dX8_nextOf_125 : decode cX8_nextOf 125 = .ok (.goto (-98), 3) := by decide +kernel
theorem dX8_nextOf_128 : decode cX8_nextOf 128 = .ok (.iload_n 2, 1) := by decide +kernel
theorem dX8_nextOf_129 : decode cX8_nextOf 129 = .ok (.ireturn, 1) := by decide +kernel
theorem dX8_balance_0 : decode cX8_balance 0 = .ok (.aload_n 0, 1) := by decide +kernel
theorem dX8_balance_1 : decode cX8_balance 1 = .ok (.iload_n 1, 1) := by decide +kernel
theorem dX8_balance_2 : decode cX8_balance 2 = .ok (.invokevirtual 91, 3) := by decide +kernel
theorem dX8_balance_5 : decode cX8_balance 5 = .ok (.ifCond .eq 15, 3) := by decide +kernel
theorem dX8_balance_8 : decode cX8_balance 8 = .ok (.aload_n 0, 1) := by decide +kernel
theorem dX8_balance_9 : decode cX8_balance 9 = .ok (.aload_n 0, 1) := by decide +kernel
theorem dX8_balance_10 : decode cX8_balance 10 = .ok (.iload_n 1, 1) := by decide +kernel
theorem dX8_balance_11 : decode cX8_balance 11 = .ok (.invokevirtual 160, 3) := by decide +kernel
theorem dX8_balance_14 : decode cX8_balance 14 = .ok (.invokevirtual 44, 3) := by decide +kernel
theorem dX8_balance_17 : decode cX8_balance 17 = .ok (.goto 8, 3) := by decide +kernel
theorem dX8_balance_20 : decode cX8_balance 20 = .ok (.aload_n 0, 1) := by decide +kernel
theorem dX8_balance_21 : decode cX8_balance 21 = .ok (.iconst 1, 1) := by decide +kernel
theorem dX8_balance_22 : decode cX8_balance 22 = .ok (.invokevirtual 95, 3) := by decide +kernel
theorem dX8_balance_25 : decode cX8_balance 25 = .ok (.ireturn, 1) := by decide +kernel
theorem dX8_region_0 : decode cX8_region 0 = .ok (.aload_n 0, 1) := by decide +kernel
theorem dX8_region_1 : decode cX8_region 1 = .ok (.iload_n 1, 1) := by decide +kernel
theorem dX8_region_2 : decode cX8_region 2 = .ok (.invokevirtual 91, 3) := by decide +kernel
theorem dX8_region_5 : decode cX8_region 5 = .ok (.ifCond .eq 15, 3) := by decide +kernel
theorem dX8_region_8 : decode cX8_region 8 = .ok (.aload_n 0, 1) := by decide +kernel
theorem dX8_region_9 : decode cX8_region 9 = .ok (.aload_n 0, 1) := by decide +kernel
theorem dX8_region_10 : decode cX8_region 10 = .ok (.iload_n 1, 1) := by decide +kernel
theorem dX8_region_11 : decode cX8_region 11 = .ok (.invokevirtual 163, 3) := by decide +kernel
theorem dX8_region_14 : decode cX8_region 14 = .ok (.invokevirtual 44, 3) := by decide +kernel
theorem dX8_region_17 : decode cX8_region 17 = .ok (.goto 8, 3) := by decide +kernel
theorem dX8_region_20 : decode cX8_region 20 = .ok (.aload_n 0, 1) := by decide +kernel
theorem dX8_region_21 : decode cX8_region 21 = .ok (.iconst 1, 1) := by decide +kernel
theorem dX8_region_22 : decode cX8_region 22 = .ok (.invokevirtual 95, 3) := by decide +kernel
theorem dX8_region_25 : decode cX8_region 25 = .ok (.ireturn, 1) := by decide +kernel
theorem dX8_meterOf_0 : decode cX8_meterOf 0 = .ok (.aload_n 0, 1) := by decide +kernel
theorem dX8_meterOf_1 : decode cX8_meterOf 1 = .ok (.iload_n 1, 1) := by decide +kernel
theorem dX8_meterOf_2 : decode cX8_meterOf 2 = .ok (.invokevirtual 115, 3) := by decide +kernel
theorem dX8_meterOf_5 : decode cX8_meterOf 5 = .ok (.ifCond .eq 15, 3) := by decide +kernel
theorem dX8_meterOf_8 : decode cX8_meterOf 8 = .ok (.aload_n 0, 1) := by decide +kernel
theorem dX8_meterOf_9 : decode cX8_meterOf 9 = .ok (.aload_n 0, 1) := by decide +kernel
theorem dX8_meterOf_10 : decode cX8_meterOf 10 = .ok (.iload_n 1, 1) := by decide +kernel
theorem dX8_meterOf_11 : decode cX8_meterOf 11 = .ok (.invokevirtual 157, 3) := by decide +kernel
theorem dX8_meterOf_14 : decode cX8_meterOf 14 = .ok (.invokevirtual 44, 3) := by decide +kernel
theorem dX8_meterOf_17 : decode cX8_meterOf 17 = .ok (.goto 8, 3) := by decide +kernel
theorem dX8_meterOf_20 : decode cX8_meterOf 20 = .ok (.aload_n 0, 1) := by decide +kernel
theorem dX8_meterOf_21 : decode cX8_meterOf 21 = .ok (.iconst 1, 1) := by decide +kernel
theorem dX8_meterOf_22 : decode cX8_meterOf 22 = .ok (.invokevirtual 95, 3) := by decide +kernel
theorem dX8_meterOf_25 : decode cX8_meterOf 25 = .ok (.ireturn, 1) := by decide +kernel
theorem dX8_nextMeter_0 : decode cX8_nextMeter 0 = .ok (.aload_n 0, 1) := by decide +kernel
theorem dX8_nextMeter_1 : decode cX8_nextMeter 1 = .ok (.iload_n 1, 1) := by decide +kernel
theorem dX8_nextMeter_2 : decode cX8_nextMeter 2 = .ok (.invokevirtual 91, 3) := by decide +kernel
theorem dX8_nextMeter_5 : decode cX8_nextMeter 5 = .ok (.ifCond .eq 15, 3) := by decide +kernel
theorem dX8_nextMeter_8 : decode cX8_nextMeter 8 = .ok (.aload_n 0, 1) := by decide +kernel
theorem dX8_nextMeter_9 : decode cX8_nextMeter 9 = .ok (.aload_n 0, 1) := by decide +kernel
theorem dX8_nextMeter_10 : decode cX8_nextMeter 10 = .ok (.iload_n 1, 1) := by decide +kernel
theorem dX8_nextMeter_11 : decode cX8_nextMeter 11 = .ok (.invokevirtual 169, 3) := by decide +kernel
theorem dX8_nextMeter_14 : decode cX8_nextMeter 14 = .ok (.invokevirtual 44, 3) := by decide +kernel
theorem dX8_nextMeter_17 : decode cX8_nextMeter 17 = .ok (.goto 8, 3) := by decide +kernel
theorem dX8_nextMeter_20 : decode cX8_nextMeter 20 = .ok (.aload_n 0, 1) := by decide +kernel
theorem dX8_nextMeter_21 : decode cX8_nextMeter 21 = .ok (.iconst 1, 1) := by decide +kernel
theorem dX8_nextMeter_22 : decode cX8_nextMeter 22 = .ok (.invokevirtual 95, 3) := by decide +kernel
theorem dX8_nextMeter_25 : decode cX8_nextMeter 25 = .ok (.ireturn, 1) := by decide +kernel
theorem dX8_suspectMany_0 : decode cX8_suspectMany 0 = .ok (.iconst 0, 1) := by decide +kernel
theorem dX8_suspectMany_1 : decode cX8_suspectMany 1 = .ok (.istore_n 1, 1) := by decide +kernel
theorem dX8_suspectMany_2 : decode cX8_suspectMany 2 = .ok (.iconst 0, 1) := by decide +kernel
theorem dX8_suspectMany_3 : decode cX8_suspectMany 3 = .ok (.istore_n 2, 1) := by decide +kernel
theorem dX8_suspectMany_4 : decode cX8_suspectMany 4 = .ok (.iload_n 2, 1) := by decide +kernel
theorem dX8_suspectMany_5 : decode cX8_suspectMany 5 = .ok (.aload_n 0, 1) := by decide +kernel
theorem dX8_suspectMany_6 : decode cX8_suspectMany 6 = .ok (.getfield 7, 3) := by decide +kernel
theorem dX8_suspectMany_9 : decode cX8_suspectMany 9 = .ok (.iconst 5, 1) := by decide +kernel
theorem dX8_suspectMany_10 : decode cX8_suspectMany 10 = .ok (.iaload, 1) := by decide +kernel
theorem dX8_suspectMany_11 : decode cX8_suspectMany 11 = .ok (.if_icmp .ge 25, 3) := by decide +kernel
theorem dX8_suspectMany_14 : decode cX8_suspectMany 14 = .ok (.iload_n 1, 1) := by decide +kernel
theorem dX8_suspectMany_15 : decode cX8_suspectMany 15 = .ok (.aload_n 0, 1) := by decide +kernel
theorem dX8_suspectMany_16 : decode cX8_suspectMany 16 = .ok (.iload_n 2, 1) := by decide +kernel
theorem dX8_suspectMany_17 : decode cX8_suspectMany 17 = .ok (.invokevirtual 160, 3) := by decide +kernel
theorem dX8_suspectMany_20 : decode cX8_suspectMany 20 = .ok (.ifCond .le 7, 3) := by decide +kernel
theorem dX8_suspectMany_23 : decode cX8_suspectMany 23 = .ok (.iconst 1, 1) := by decide +kernel
theorem dX8_suspectMany_24 : decode cX8_suspectMany 24 = .ok (.goto 4, 3) := by decide +kernel
theorem dX8_suspectMany_27 : decode cX8_suspectMany 27 = .ok (.iconst 0, 1) := by decide +kernel
theorem dX8_suspectMany_28 : decode cX8_suspectMany 28 = .ok (.iadd, 1) := by decide +kernel
theorem dX8_suspectMany_29 : decode cX8_suspectMany 29 = .ok (.istore_n 1, 1) := by decide +kernel
theorem dX8_suspectMany_30 : decode cX8_suspectMany 30 = .ok (.iinc 2 1, 3) := by decide +kernel
theorem dX8_suspectMany_33 : decode cX8_suspectMany 33 = .ok (.goto (-29), 3) := by decide +kernel
theorem dX8_suspectMany_36 : decode cX8_suspectMany 36 = .ok (.iload_n 1, 1) := by decide +kernel
theorem dX8_suspectMany_37 : decode cX8_suspectMany 37 = .ok (.ireturn, 1) := by decide +kernel
theorem dX8_suspects_0 : decode cX8_suspects 0 = .ok (.aload_n 0, 1) := by decide +kernel
theorem dX8_suspects_1 : decode cX8_suspects 1 = .ok (.aload_n 0, 1) := by decide +kernel
theorem dX8_suspects_2 : decode cX8_suspects 2 = .ok (.invokevirtual 172, 3) := by decide +kernel
theorem dX8_suspects_5 : decode cX8_suspects 5 = .ok (.invokevirtual 44, 3) := by decide +kernel
theorem dX8_suspects_8 : decode cX8_suspects 8 = .ok (.ireturn, 1) := by decide +kernel
theorem dX8_firstNext_0 : decode cX8_firstNext 0 = .ok (.iconst 0, 1) := by decide +kernel
theorem dX8_firstNext_1 : decode cX8_firstNext 1 = .ok (.istore_n 1, 1) := by decide +kernel
theorem dX8_firstNext_2 : decode cX8_firstNext 2 = .ok (.iload_n 1, 1) := by decide +kernel
theorem dX8_firstNext_3 : decode cX8_firstNext 3 = .ok (.aload_n 0, 1) := by decide +kernel
theorem dX8_firstNext_4 : decode cX8_firstNext 4 = .ok (.getfield 7, 3) := by decide +kernel
theorem dX8_firstNext_7 : decode cX8_firstNext 7 = .ok (.iconst 5, 1) := by decide +kernel
theorem dX8_firstNext_8 : decode cX8_firstNext 8 = .ok (.iaload, 1) := by decide +kernel
theorem dX8_firstNext_9 : decode cX8_firstNext 9 = .ok (.if_icmp .ge 24, 3) := by decide +kernel
theorem dX8_firstNext_12 : decode cX8_firstNext 12 = .ok (.aload_n 0, 1) := by decide +kernel
theorem dX8_firstNext_13 : decode cX8_firstNext 13 = .ok (.iload_n 1, 1) := by decide +kernel
theorem dX8_firstNext_14 : decode cX8_firstNext 14 = .ok (.invokevirtual 169, 3) := by decide +kernel
theorem dX8_firstNext_17 : decode cX8_firstNext 17 = .ok (.iconst (-1), 1) := by decide +kernel
theorem dX8_firstNext_18 : decode cX8_firstNext 18 = .ok (.if_icmp .eq 9, 3) := by decide +kernel
theorem dX8_firstNext_21 : decode cX8_firstNext 21 = .ok (.aload_n 0, 1) := by decide +kernel
theorem dX8_firstNext_22 : decode cX8_firstNext 22 = .ok (.iload_n 1, 1) := by decide +kernel
theorem dX8_firstNext_23 : decode cX8_firstNext 23 = .ok (.invokevirtual 169, 3) := by decide +kernel
theorem dX8_firstNext_26 : decode cX8_firstNext 26 = .ok (.ireturn, 1) := by decide +kernel
theorem dX8_firstNext_27 : decode cX8_firstNext 27 = .ok (.iinc 1 1, 3) := by decide +kernel
theorem dX8_firstNext_30 : decode cX8_firstNext 30 = .ok (.goto (-28), 3) := by decide +kernel
theorem dX8_firstNext_33 : decode cX8_firstNext 33 = .ok (.iconst (-1), 1) := by decide +kernel
theorem dX8_firstNext_34 : decode cX8_firstNext 34 = .ok (.ireturn, 1) := by decide +kernel
theorem dX8_metersToFind_0 : decode cX8_metersToFind 0 = .ok (.iconst 0, 1) := by decide +kernel
theorem dX8_metersToFind_1 : decode cX8_metersToFind 1 = .ok (.istore_n 1, 1) := by decide +kernel
theorem dX8_metersToFind_2 : decode cX8_metersToFind 2 = .ok (.iconst 0, 1) := by decide +kernel
theorem dX8_metersToFind_3 : decode cX8_metersToFind 3 = .ok (.istore_n 2, 1) := by decide +kernel
theorem dX8_metersToFind_4 : decode cX8_metersToFind 4 = .ok (.aload_n 0, 1) := by decide +kernel
theorem dX8_metersToFind_5 : decode cX8_metersToFind 5 = .ok (.invokevirtual 175, 3) := by decide +kernel
theorem dX8_metersToFind_8 : decode cX8_metersToFind 8 = .ok (.istore_n 3, 1) := by decide +kernel
theorem dX8_metersToFind_9 : decode cX8_metersToFind 9 = .ok (.iload_n 3, 1) := by decide +kernel
theorem dX8_metersToFind_10 : decode cX8_metersToFind 10 = .ok (.iconst (-1), 1) := by decide +kernel
theorem dX8_metersToFind_11 : decode cX8_metersToFind 11 = .ok (.if_icmp .eq 28, 3) := by decide +kernel
theorem dX8_metersToFind_14 : decode cX8_metersToFind 14 = .ok (.aload_n 0, 1) := by decide +kernel
theorem dX8_metersToFind_15 : decode cX8_metersToFind 15 = .ok (.iload_n 3, 1) := by decide +kernel
theorem dX8_metersToFind_16 : decode cX8_metersToFind 16 = .ok (.bipush 6, 2) := by decide +kernel
theorem dX8_metersToFind_18 : decode cX8_metersToFind 18 = .ok (.iconst 1, 1) := by decide +kernel
theorem dX8_metersToFind_19 : decode cX8_metersToFind 19 = .ok (.invokevirtual 87, 3) := by decide +kernel
theorem dX8_metersToFind_22 : decode cX8_metersToFind 22 = .ok (.iload_n 1, 1) := by decide +kernel
theorem dX8_metersToFind_23 : decode cX8_metersToFind 23 = .ok (.iconst 1, 1) := by decide +kernel
theorem dX8_metersToFind_24 : decode cX8_metersToFind 24 = .ok (.iload_n 3, 1) := by decide +kernel
theorem dX8_metersToFind_25 : decode cX8_metersToFind 25 = .ok (.ishl, 1) := by decide +kernel
theorem dX8_metersToFind_26 : decode cX8_metersToFind 26 = .ok (.ior, 1) := by decide +kernel
theorem dX8_metersToFind_27 : decode cX8_metersToFind 27 = .ok (.istore_n 1, 1) := by decide +kernel
theorem dX8_metersToFind_28 : decode cX8_metersToFind 28 = .ok (.iinc 2 1, 3) := by decide +kernel
theorem dX8_metersToFind_31 : decode cX8_metersToFind 31 = .ok (.aload_n 0, 1) := by decide +kernel
theorem dX8_metersToFind_32 : decode cX8_metersToFind 32 = .ok (.invokevirtual 175, 3) := by decide +kernel
theorem dX8_metersToFind_35 : decode cX8_metersToFind 35 = .ok (.istore_n 3, 1) := by decide +kernel
theorem dX8_metersToFind_36 : decode cX8_metersToFind 36 = .ok (.goto (-27), 3) := by decide +kernel
theorem dX8_metersToFind_39 : decode cX8_metersToFind 39 = .ok (.iconst 0, 1) := by decide +kernel
theorem dX8_metersToFind_40 : decode cX8_metersToFind 40 = .ok (.istore_n 3, 1) := by decide +kernel
theorem dX8_metersToFind_41 : decode cX8_metersToFind 41 = .ok (.iload_n 3, 1) := by decide +kernel
theorem dX8_metersToFind_42 : decode cX8_metersToFind 42 = .ok (.bipush 16, 2) := by decide +kernel
theorem dX8_metersToFind_44 : decode cX8_metersToFind 44 = .ok (.if_icmp .ge 36, 3) := by decide +kernel
theorem dX8_metersToFind_47 : decode cX8_metersToFind 47 = .ok (.aload_n 0, 1) := by decide +kernel
theorem dX8_metersToFind_48 : decode cX8_metersToFind 48 = .ok (.iload_n 3, 1) := by decide +kernel
theorem dX8_metersToFind_49 : decode cX8_metersToFind 49 = .ok (.bipush 6, 2) := by decide +kernel
theorem dX8_metersToFind_51 : decode cX8_metersToFind 51 = .ok (.iload_n 1, 1) := by decide +kernel
theorem dX8_metersToFind_52 : decode cX8_metersToFind 52 = .ok (.iload_n 3, 1) := by decide +kernel
theorem dX8_metersToFind_53 : decode cX8_metersToFind 53 = .ok (.ishr, 1) := by decide +kernel
theorem dX8_metersToFind_54 : decode cX8_metersToFind 54 = .ok (.iconst 1, 1) := by decide +kernel
theorem dX8_metersToFind_55 : decode cX8_metersToFind 55 = .ok (.iand, 1) := by decide +kernel
theorem dX8_metersToFind_56 : decode cX8_metersToFind 56 = .ok (.iconst 1, 1) := by decide +kernel
theorem dX8_metersToFind_57 : decode cX8_metersToFind 57 = .ok (.if_icmp .ne 7, 3) := by decide +kernel
theorem dX8_metersToFind_60 : decode cX8_metersToFind 60 = .ok (.iconst 0, 1) := by decide +kernel
theorem dX8_metersToFind_61 : decode cX8_metersToFind 61 = .ok (.goto 10, 3) := by decide +kernel
theorem dX8_metersToFind_64 : decode cX8_metersToFind 64 = .ok (.aload_n 0, 1) := by decide +kernel
theorem dX8_metersToFind_65 : decode cX8_metersToFind 65 = .ok (.iload_n 3, 1) := by decide +kernel
theorem dX8_metersToFind_66 : decode cX8_metersToFind 66 = .ok (.bipush 6, 2) := by decide +kernel
theorem dX8_metersToFind_68 : decode cX8_metersToFind 68 = .ok (.invokevirtual 48, 3) := by decide +kernel
theorem dX8_metersToFind_71 : decode cX8_metersToFind 71 = .ok (.invokevirtual 87, 3) := by decide +kernel
theorem dX8_metersToFind_74 : decode cX8_metersToFind 74 = .ok (.iinc 3 1, 3) := by decide +kernel
theorem dX8_metersToFind_77 : decode cX8_metersToFind 77 = .ok (.goto (-36), 3) := by decide +kernel
theorem dX8_metersToFind_80 : decode cX8_metersToFind 80 = .ok (.aload_n 0, 1) := by decide +kernel
theorem dX8_metersToFind_81 : decode cX8_metersToFind 81 = .ok (.iload_n 2, 1) := by decide +kernel
theorem dX8_metersToFind_82 : decode cX8_metersToFind 82 = .ok (.invokevirtual 44, 3) := by decide +kernel
theorem dX8_metersToFind_85 : decode cX8_metersToFind 85 = .ok (.ireturn, 1) := by decide +kernel
theorem dX8_supplyFor_0 : decode cX8_supplyFor 0 = .ok (.aload_n 0, 1) := by decide +kernel
theorem dX8_supplyFor_1 : decode cX8_supplyFor 1 = .ok (.iload_n 1, 1) := by decide +kernel
theorem dX8_supplyFor_2 : decode cX8_supplyFor 2 = .ok (.invokevirtual 115, 3) := by decide +kernel
theorem dX8_supplyFor_5 : decode cX8_supplyFor 5 = .ok (.ifCond .ne 9, 3) := by decide +kernel
theorem dX8_supplyFor_8 : decode cX8_supplyFor 8 = .ok (.aload_n 0, 1) := by decide +kernel
theorem dX8_supplyFor_9 : decode cX8_supplyFor 9 = .ok (.iconst 1, 1) := by decide +kernel
theorem dX8_supplyFor_10 : decode cX8_supplyFor 10 = .ok (.invokevirtual 95, 3) := by decide +kernel
theorem dX8_supplyFor_13 : decode cX8_supplyFor 13 = .ok (.ireturn, 1) := by decide +kernel
theorem dX8_supplyFor_14 : decode cX8_supplyFor 14 = .ok (.iload_n 2, 1) := by decide +kernel
theorem dX8_supplyFor_15 : decode cX8_supplyFor 15 = .ok (.sipush (-200), 3) := by decide +kernel
theorem dX8_supplyFor_18 : decode cX8_supplyFor 18 = .ok (.sipush 1200, 3) := by decide +kernel
theorem dX8_supplyFor_21 : decode cX8_supplyFor 21 = .ok (.invokestatic 83, 3) := by decide +kernel
theorem dX8_supplyFor_24 : decode cX8_supplyFor 24 = .ok (.ifCond .ne 9, 3) := by decide +kernel
theorem dX8_supplyFor_27 : decode cX8_supplyFor 27 = .ok (.aload_n 0, 1) := by decide +kernel
theorem dX8_supplyFor_28 : decode cX8_supplyFor 28 = .ok (.iconst 2, 1) := by decide +kernel
theorem dX8_supplyFor_29 : decode cX8_supplyFor 29 = .ok (.invokevirtual 95, 3) := by decide +kernel
theorem dX8_supplyFor_32 : decode cX8_supplyFor 32 = .ok (.ireturn, 1) := by decide +kernel
theorem dX8_supplyFor_33 : decode cX8_supplyFor 33 = .ok (.aload_n 0, 1) := by decide +kernel
theorem dX8_supplyFor_34 : decode cX8_supplyFor 34 = .ok (.getfield 7, 3) := by decide +kernel
theorem dX8_supplyFor_37 : decode cX8_supplyFor 37 = .ok (.iconst 0, 1) := by decide +kernel
theorem dX8_supplyFor_38 : decode cX8_supplyFor 38 = .ok (.iaload, 1) := by decide +kernel
theorem dX8_supplyFor_39 : decode cX8_supplyFor 39 = .ok (.istore_n 3, 1) := by decide +kernel
theorem dX8_supplyFor_40 : decode cX8_supplyFor 40 = .ok (.iconst (-1), 1) := by decide +kernel
theorem dX8_supplyFor_41 : decode cX8_supplyFor 41 = .ok (.istore 4, 2) := by decide +kernel
theorem dX8_supplyFor_43 : decode cX8_supplyFor 43 = .ok (.sipush 400, 3) := by decide +kernel
theorem dX8_supplyFor_46 : decode cX8_supplyFor 46 = .ok (.istore 5, 2) := by decide +kernel
theorem dX8_supplyFor_48 : decode cX8_supplyFor 48 = .ok (.iload 5, 2) := by decide +kernel
theorem dX8_supplyFor_50 : decode cX8_supplyFor 50 = .ok (.sipush 1200, 3) := by decide +kernel
theorem dX8_supplyFor_53 : decode cX8_supplyFor 53 = .ok (.if_icmp .gt 45, 3) := by decide +kernel
theorem dX8_supplyFor_56 : decode cX8_supplyFor 56 = .ok (.iload 4, 2) := by decide +kernel
theorem dX8_supplyFor_58 : decode cX8_supplyFor 58 = .ok (.iconst (-1), 1) := by decide +kernel
theorem dX8_supplyFor_59 : decode cX8_supplyFor 59 = .ok (.if_icmp .ne 39, 3) := by decide +kernel
theorem dX8_supplyFor_62 : decode cX8_supplyFor 62 = .ok (.aload_n 0, 1) := by decide +kernel
theorem dX8_supplyFor_63 : decode cX8_supplyFor 63 = .ok (.getfield 7, 3) := by decide +kernel
theorem dX8_supplyFor_66 : decode cX8_supplyFor 66 = .ok (.iconst 0, 1) := by decide +kernel
theorem dX8_supplyFor_67 : decode cX8_supplyFor 67 = .ok (.iload 5, 2) := by decide +kernel
theorem dX8_supplyFor_69 : decode cX8_supplyFor 69 = .ok (.iastore, 1) := by decide +kernel
theorem dX8_supplyFor_70 : decode cX8_supplyFor 70 = .ok (.aload_n 0, 1) := by decide +kernel
theorem dX8_supplyFor_71 : decode cX8_supplyFor 71 = .ok (.invokevirtual 126, 3) := by decide +kernel
theorem dX8_supplyFor_74 : decode cX8_supplyFor 74 = .ok (.aload_n 0, 1) := by decide +kernel
theorem dX8_supplyFor_75 : decode cX8_supplyFor 75 = .ok (.getfield 25, 3) := by decide +kernel
theorem dX8_supplyFor_78 : decode cX8_supplyFor 78 = .ok (.iload_n 1, 1) := by decide +kernel
theorem dX8_supplyFor_79 : decode cX8_supplyFor 79 = .ok (.iaload, 1) := by decide +kernel
theorem dX8_supplyFor_80 : decode cX8_supplyFor 80 = .ok (.iload_n 2, 1) := by decide +kernel
theorem dX8_supplyFor_81 : decode cX8_supplyFor 81 = .ok (.if_icmp .lt 8, 3) := by decide +kernel
theorem dX8_supplyFor_84 : decode cX8_supplyFor 84 = .ok (.iload 5, 2) := by decide +kernel
theorem dX8_supplyFor_86 : decode cX8_supplyFor 86 = .ok (.goto 4, 3) := by decide +kernel
theorem dX8_supplyFor_89 : decode cX8_supplyFor 89 = .ok (.iconst (-1), 1) := by decide +kernel
theorem dX8_supplyFor_90 : decode cX8_supplyFor 90 = .ok (.istore 4, 2) := by decide +kernel
theorem dX8_supplyFor_92 : decode cX8_supplyFor 92 = .ok (.iinc 5 1, 3) := by decide +kernel
theorem dX8_supplyFor_95 : decode cX8_supplyFor 95 = .ok (.goto (-47), 3) := by decide +kernel
theorem dX8_supplyFor_98 : decode cX8_supplyFor 98 = .ok (.aload_n 0, 1) := by decide +kernel
theorem dX8_supplyFor_99 : decode cX8_supplyFor 99 = .ok (.getfield 7, 3) := by decide +kernel
theorem dX8_supplyFor_102 : decode cX8_supplyFor 102 = .ok (.iconst 0, 1) := by decide +kernel
theorem dX8_supplyFor_103 : decode cX8_supplyFor 103 = .ok (.iload_n 3, 1) := by decide +kernel
theorem dX8_supplyFor_104 : decode cX8_supplyFor 104 = .ok (.iastore, 1) := by decide +kernel
theorem dX8_supplyFor_105 : decode cX8_supplyFor 105 = .ok (.aload_n 0, 1) := by decide +kernel
theorem dX8_supplyFor_106 : decode cX8_supplyFor 106 = .ok (.iload 4, 2) := by decide +kernel
theorem dX8_supplyFor_108 : decode cX8_supplyFor 108 = .ok (.invokevirtual 44, 3) := by decide +kernel
theorem dX8_supplyFor_111 : decode cX8_supplyFor 111 = .ok (.ireturn, 1) := by decide +kernel
theorem dX8_isWarm_0 : decode cX8_isWarm 0 = .ok (.iconst 1, 1) := by decide +kernel
theorem dX8_isWarm_1 : decode cX8_isWarm 1 = .ok (.istore_n 1, 1) := by decide +kernel
theorem dX8_isWarm_2 : decode cX8_isWarm 2 = .ok (.iconst 1, 1) := by decide +kernel
theorem dX8_isWarm_3 : decode cX8_isWarm 3 = .ok (.istore_n 2, 1) := by decide +kernel
theorem dX8_isWarm_4 : decode cX8_isWarm 4 = .ok (.iload_n 2, 1) := by decide +kernel
theorem dX8_isWarm_5 : decode cX8_isWarm 5 = .ok (.aload_n 0, 1) := by decide +kernel
theorem dX8_isWarm_6 : decode cX8_isWarm 6 = .ok (.getfield 7, 3) := by decide +kernel
theorem dX8_isWarm_9 : decode cX8_isWarm 9 = .ok (.iconst 5, 1) := by decide +kernel
theorem dX8_isWarm_10 : decode cX8_isWarm 10 = .ok (.iaload, 1) := by decide +kernel
theorem dX8_isWarm_11 : decode cX8_isWarm 11 = .ok (.if_icmp .ge 46, 3) := by decide +kernel
theorem dX8_isWarm_14 : decode cX8_isWarm 14 = .ok (.iload_n 1, 1) := by decide +kernel
theorem dX8_isWarm_15 : decode cX8_isWarm 15 = .ok (.ifCond .eq 34, 3) := by decide +kernel
theorem dX8_isWarm_18 : decode cX8_isWarm 18 = .ok (.aload_n 0, 1) := by decide +kernel
theorem dX8_isWarm_19 : decode cX8_isWarm 19 = .ok (.iload_n 2, 1) := by decide +kernel
theorem dX8_isWarm_20 : decode cX8_isWarm 20 = .ok (.iconst 3, 1) := by decide +kernel
theorem dX8_isWarm_21 : decode cX8_isWarm 21 = .ok (.invokevirtual 48, 3) := by decide +kernel
theorem dX8_isWarm_24 : decode cX8_isWarm 24 = .ok (.ifCond .eq 21, 3) := by decide +kernel
theorem dX8_isWarm_27 : decode cX8_isWarm 27 = .ok (.aload_n 0, 1) := by decide +kernel
theorem dX8_isWarm_28 : decode cX8_isWarm 28 = .ok (.getfield 25, 3) := by decide +kernel
theorem dX8_isWarm_31 : decode cX8_isWarm 31 = .ok (.iload_n 2, 1) := by decide +kernel
theorem dX8_isWarm_32 : decode cX8_isWarm 32 = .ok (.iaload, 1) := by decide +kernel
theorem dX8_isWarm_33 : decode cX8_isWarm 33 = .ok (.aload_n 0, 1) := by decide +kernel
theorem dX8_isWarm_34 : decode cX8_isWarm 34 = .ok (.getfield 28, 3) := by decide +kernel
theorem dX8_isWarm_37 : decode cX8_isWarm 37 = .ok (.iload_n 2, 1) := by decide +kernel
theorem dX8_isWarm_38 : decode cX8_isWarm 38 = .ok (.iaload, 1) := by decide +kernel
theorem dX8_isWarm_39 : decode cX8_isWarm 39 = .ok (.bipush 100, 2) := by decide +kernel
theorem dX8_isWarm_41 : decode cX8_isWarm 41 = .ok (.iadd, 1) := by decide +kernel
theorem dX8_isWarm_42 : decode cX8_isWarm 42 = .ok (.if_icmp .lt 7, 3) := by decide +kernel
theorem dX8_isWarm_45 : decode cX8_isWarm 45 = .ok (.iconst 1, 1) := by decide +kernel
theorem dX8_isWarm_46 : decode cX8_isWarm 46 = .ok (.goto 4, 3) := by decide +kernel
theorem dX8_isWarm_49 : decode cX8_isWarm 49 = .ok (.iconst 0, 1) := by decide +kernel
theorem dX8_isWarm_50 : decode cX8_isWarm 50 = .ok (.istore_n 1, 1) := by decide +kernel
theorem dX8_isWarm_51 : decode cX8_isWarm 51 = .ok (.iinc 2 1, 3) := by decide +kernel
theorem dX8_isWarm_54 : decode cX8_isWarm 54 = .ok (.goto (-50), 3) := by decide +kernel
theorem dX8_isWarm_57 : decode cX8_isWarm 57 = .ok (.iload_n 1, 1) := by decide +kernel
theorem dX8_isWarm_58 : decode cX8_isWarm 58 = .ok (.ireturn, 1) := by decide +kernel
theorem dX8_cheapestSupply_0 : decode cX8_cheapestSupply 0 = .ok (.aload_n 0, 1) := by decide +kernel
theorem dX8_cheapestSupply_1 : decode cX8_cheapestSupply 1 = .ok (.getfield 7, 3) := by decide +kernel
theorem dX8_cheapestSupply_4 : decode cX8_cheapestSupply 4 = .ok (.iconst 0, 1) := by decide +kernel
theorem dX8_cheapestSupply_5 : decode cX8_cheapestSupply 5 = .ok (.iaload, 1) := by decide +kernel
theorem dX8_cheapestSupply_6 : decode cX8_cheapestSupply 6 = .ok (.istore_n 1, 1) := by decide +kernel
theorem dX8_cheapestSupply_7 : decode cX8_cheapestSupply 7 = .ok (.iconst (-1), 1) := by decide +kernel
theorem dX8_cheapestSupply_8 : decode cX8_cheapestSupply 8 = .ok (.istore_n 2, 1) := by decide +kernel
theorem dX8_cheapestSupply_9 : decode cX8_cheapestSupply 9 = .ok (.iconst 0, 1) := by decide +kernel
theorem dX8_cheapestSupply_10 : decode cX8_cheapestSupply 10 = .ok (.istore_n 3, 1) := by decide +kernel
theorem dX8_cheapestSupply_11 : decode cX8_cheapestSupply 11 = .ok (.sipush 400, 3) := by decide +kernel
theorem dX8_cheapestSupply_14 : decode cX8_cheapestSupply 14 = .ok (.istore 4, 2) := by decide +kernel
theorem dX8_cheapestSupply_16 : decode cX8_cheapestSupply 16 = .ok (.iload 4, 2) := by decide +kernel
theorem dX8_cheapestSupply_18 : decode cX8_cheapestSupply 18 = .ok (.sipush 1200, 3) := by decide +kernel
theorem dX8_cheapestSupply_21 : decode cX8_cheapestSupply 21 = .ok (.if_icmp .gt 58, 3) := by decide +kernel
theorem dX8_cheapestSupply_24 : decode cX8_cheapestSupply 24 = .ok (.aload_n 0, 1) := by decide +kernel
theorem dX8_cheapestSupply_25 : decode cX8_cheapestSupply 25 = .ok (.getfield 7, 3) := by decide +kernel
theorem dX8_cheapestSupply_28 : decode cX8_cheapestSupply 28 = .ok (.iconst 0, 1) := by decide +kernel
theorem dX8_cheapestSupply_29 : decode cX8_cheapestSupply 29 = .ok (.iload 4, 2) := by decide +kernel
theorem dX8_cheapestSupply_31 : decode cX8_cheapestSupply 31 = .ok (.iastore, 1) := by decide +kernel
theorem dX8_cheapestSupply_32 : decode cX8_cheapestSupply 32 = .ok (.aload_n 0, 1) := by decide +kernel
theorem dX8_cheapestSupply_33 : decode cX8_cheapestSupply 33 = .ok (.invokevirtual 126, 3) := by decide +kernel
theorem dX8_cheapestSupply_36 : decode cX8_cheapestSupply 36 = .ok (.aload_n 0, 1) := by decide +kernel
theorem dX8_cheapestSupply_37 : decode cX8_cheapestSupply 37 = .ok (.invokevirtual 132, 3) := by decide +kernel
theorem dX8_cheapestSupply_40 : decode cX8_cheapestSupply 40 = .ok (.istore 5, 2) := by decide +kernel
theorem dX8_cheapestSupply_42 : decode cX8_cheapestSupply 42 = .ok (.aload_n 0, 1) := by decide +kernel
theorem dX8_cheapestSupply_43 : decode cX8_cheapestSupply 43 = .ok (.getfield 80, 3) := by decide +kernel
theorem dX8_cheapestSupply_46 : decode cX8_cheapestSupply 46 = .ok (.ifCond .ne 27, 3) := by decide +kernel
theorem dX8_cheapestSupply_49 : decode cX8_cheapestSupply 49 = .ok (.aload_n 0, 1) := by decide +kernel
theorem dX8_cheapestSupply_50 : decode cX8_cheapestSupply 50 = .ok (.invokevirtual 178, 3) := by decide +kernel
theorem dX8_cheapestSupply_53 : decode cX8_cheapestSupply 53 = .ok (.ifCond .eq 20, 3) := by decide +kernel
theorem dX8_cheapestSupply_56 : decode cX8_cheapestSupply 56 = .ok (.iload_n 2, 1) := by decide +kernel
theorem dX8_cheapestSupply_57 : decode cX8_cheapestSupply 57 = .ok (.iconst (-1), 1) := by decide +kernel
theorem dX8_cheapestSupply_58 : decode cX8_cheapestSupply 58 = .ok (.if_icmp .eq 9, 3) := by decide +kernel
theorem dX8_cheapestSupply_61 : decode cX8_cheapestSupply 61 = .ok (.iload 5, 2) := by decide +kernel
theorem dX8_cheapestSupply_63 : decode cX8_cheapestSupply 63 = .ok (.iload_n 3, 1) := by decide +kernel
theorem dX8_cheapestSupply_64 : decode cX8_cheapestSupply 64 = .ok (.if_icmp .ge 9, 3) := by decide +kernel
theorem dX8_cheapestSupply_67 : decode cX8_cheapestSupply 67 = .ok (.iload 4, 2) := by decide +kernel
theorem dX8_cheapestSupply_69 : decode cX8_cheapestSupply 69 = .ok (.istore_n 2, 1) := by decide +kernel
theorem dX8_cheapestSupply_70 : decode cX8_cheapestSupply 70 = .ok (.iload 5, 2) := by decide +kernel
theorem dX8_cheapestSupply_72 : decode cX8_cheapestSupply 72 = .ok (.istore_n 3, 1) := by decide +kernel
theorem dX8_cheapestSupply_73 : decode cX8_cheapestSupply 73 = .ok (.iinc 4 1, 3) := by decide +kernel
theorem dX8_cheapestSupply_76 : decode cX8_cheapestSupply 76 = .ok (.goto (-60), 3) := by decide +kernel
theorem dX8_cheapestSupply_79 : decode cX8_cheapestSupply 79 = .ok (.aload_n 0, 1) := by decide +kernel
theorem dX8_cheapestSupply_80 : decode cX8_cheapestSupply 80 = .ok (.getfield 7, 3) := by decide +kernel
theorem dX8_cheapestSupply_83 : decode cX8_cheapestSupply 83 = .ok (.iconst 0, 1) := by decide +kernel
theorem dX8_cheapestSupply_84 : decode cX8_cheapestSupply 84 = .ok (.iload_n 1, 1) := by decide +kernel
theorem dX8_cheapestSupply_85 : decode cX8_cheapestSupply 85 = .ok (.iastore, 1) := by decide +kernel
theorem dX8_cheapestSupply_86 : decode cX8_cheapestSupply 86 = .ok (.aload_n 0, 1) := by decide +kernel
theorem dX8_cheapestSupply_87 : decode cX8_cheapestSupply 87 = .ok (.iload_n 2, 1) := by decide +kernel
theorem dX8_cheapestSupply_88 : decode cX8_cheapestSupply 88 = .ok (.invokevirtual 44, 3) := by decide +kernel
theorem dX8_cheapestSupply_91 : decode cX8_cheapestSupply 91 = .ok (.ireturn, 1) := by decide +kernel
theorem dX8_saves_0 : decode cX8_saves 0 = .ok (.aload_n 0, 1) := by decide +kernel
theorem dX8_saves_1 : decode cX8_saves 1 = .ok (.iload_n 1, 1) := by decide +kernel
theorem dX8_saves_2 : decode cX8_saves 2 = .ok (.invokevirtual 115, 3) := by decide +kernel
theorem dX8_saves_5 : decode cX8_saves 5 = .ok (.ifCond .ne 9, 3) := by decide +kernel
theorem dX8_saves_8 : decode cX8_saves 8 = .ok (.aload_n 0, 1) := by decide +kernel
theorem dX8_saves_9 : decode cX8_saves 9 = .ok (.iconst 1, 1) := by decide +kernel
theorem dX8_saves_10 : decode cX8_saves 10 = .ok (.invokevirtual 95, 3) := by decide +kernel
theorem dX8_saves_13 : decode cX8_saves 13 = .ok (.ireturn, 1) := by decide +kernel
theorem dX8_saves_14 : decode cX8_saves 14 = .ok (.aload_n 0, 1) := by decide +kernel
theorem dX8_saves_15 : decode cX8_saves 15 = .ok (.invokevirtual 126, 3) := by decide +kernel
theorem dX8_saves_18 : decode cX8_saves 18 = .ok (.aload_n 0, 1) := by decide +kernel
theorem dX8_saves_19 : decode cX8_saves 19 = .ok (.invokevirtual 132, 3) := by decide +kernel
theorem dX8_saves_22 : decode cX8_saves 22 = .ok (.istore_n 2, 1) := by decide +kernel
theorem dX8_saves_23 : decode cX8_saves 23 = .ok (.aload_n 0, 1) := by decide +kernel
theorem dX8_saves_24 : decode cX8_saves 24 = .ok (.iload_n 1, 1) := by decide +kernel
theorem dX8_saves_25 : decode cX8_saves 25 = .ok (.iconst 5, 1) := by decide +kernel
theorem dX8_saves_26 : decode cX8_saves 26 = .ok (.invokevirtual 48, 3) := by decide +kernel
theorem dX8_saves_29 : decode cX8_saves 29 = .ok (.istore_n 3, 1) := by decide +kernel
theorem dX8_saves_30 : decode cX8_saves 30 = .ok (.aload_n 0, 1) := by decide +kernel
theorem dX8_saves_31 : decode cX8_saves 31 = .ok (.iload_n 1, 1) := by decide +kernel
theorem dX8_saves_32 : decode cX8_saves 32 = .ok (.iconst 5, 1) := by decide +kernel
theorem dX8_saves_33 : decode cX8_saves 33 = .ok (.iconst 0, 1) := by decide +kernel
theorem dX8_saves_34 : decode cX8_saves 34 = .ok (.invokevirtual 87, 3) := by decide +kernel
theorem dX8_saves_37 : decode cX8_saves 37 = .ok (.aload_n 0, 1) := by decide +kernel
theorem dX8_saves_38 : decode cX8_saves 38 = .ok (.invokevirtual 126, 3) := by decide +kernel
theorem dX8_saves_41 : decode cX8_saves 41 = .ok (.aload_n 0, 1) := by decide +kernel
theorem dX8_saves_42 : decode cX8_saves 42 = .ok (.invokevirtual 132, 3) := by decide +kernel
theorem dX8_saves_45 : decode cX8_saves 45 = .ok (.istore 4, 2) := by decide +kernel
theorem dX8_saves_47 : decode cX8_saves 47 = .ok (.aload_n 0, 1) := by decide +kernel
theorem dX8_saves_48 : decode cX8_saves 48 = .ok (.iload_n 1, 1) := by decide +kernel
theorem dX8_saves_49 : decode cX8_saves 49 = .ok (.iconst 5, 1) := by decide +kernel
theorem dX8_saves_50 : decode cX8_saves 50 = .ok (.iload_n 3, 1) := by decide +kernel
theorem dX8_saves_51 : decode cX8_saves 51 = .ok (.invokevirtual 87, 3) := by decide +kernel
theorem dX8_saves_54 : decode cX8_saves 54 = .ok (.aload_n 0, 1) := by decide +kernel
theorem dX8_saves_55 : decode cX8_saves 55 = .ok (.iload_n 2, 1) := by decide +kernel
theorem dX8_saves_56 : decode cX8_saves 56 = .ok (.iload 4, 2) := by decide +kernel
theorem dX8_saves_58 : decode cX8_saves 58 = .ok (.isub, 1) := by decide +kernel
theorem dX8_saves_59 : decode cX8_saves 59 = .ok (.invokevirtual 44, 3) := by decide +kernel
theorem dX8_saves_62 : decode cX8_saves 62 = .ok (.ireturn, 1) := by decide +kernel
theorem dX8_efficiency_0 : decode cX8_efficiency 0 = .ok (.aload_n 0, 1) := by decide +kernel
theorem dX8_efficiency_1 : decode cX8_efficiency 1 = .ok (.iconst 0, 1) := by decide +kernel
theorem dX8_efficiency_2 : decode cX8_efficiency 2 = .ok (.putfield 37, 3) := by decide +kernel
theorem dX8_efficiency_5 : decode cX8_efficiency 5 = .ok (.aload_n 0, 1) := by decide +kernel
theorem dX8_efficiency_6 : decode cX8_efficiency 6 = .ok (.invokevirtual 126, 3) := by decide +kernel
theorem dX8_efficiency_9 : decode cX8_efficiency 9 = .ok (.aload_n 0, 1) := by decide +kernel
theorem dX8_efficiency_10 : decode cX8_efficiency 10 = .ok (.getfield 22, 3) := by decide +kernel
theorem dX8_efficiency_13 : decode cX8_efficiency 13 = .ok (.iconst 0, 1) := by decide +kernel
theorem dX8_efficiency_14 : decode cX8_efficiency 14 = .ok (.iaload, 1) := by decide +kernel
theorem dX8_efficiency_15 : decode cX8_efficiency 15 = .ok (.aload_n 0, 1) := by decide +kernel
theorem dX8_efficiency_16 : decode cX8_efficiency 16 = .ok (.getfield 7, 3) := by decide +kernel
theorem dX8_efficiency_19 : decode cX8_efficiency 19 = .ok (.iconst 0, 1) := by decide +kernel
theorem dX8_efficiency_20 : decode cX8_efficiency 20 = .ok (.iaload, 1) := by decide +kernel
theorem dX8_efficiency_21 : decode cX8_efficiency 21 = .ok (.imul, 1) := by decide +kernel
theorem dX8_efficiency_22 : decode cX8_efficiency 22 = .ok (.istore_n 1, 1) := by decide +kernel
theorem dX8_efficiency_23 : decode cX8_efficiency 23 = .ok (.iload_n 1, 1) := by decide +kernel
theorem dX8_efficiency_24 : decode cX8_efficiency 24 = .ok (.ifCond .ne 7, 3) := by decide +kernel
theorem dX8_efficiency_27 : decode cX8_efficiency 27 = .ok (.dconst 0, 1) := by decide +kernel
theorem dX8_efficiency_28 : decode cX8_efficiency 28 = .ok (.goto 12, 3) := by decide +kernel
theorem dX8_efficiency_31 : decode cX8_efficiency 31 = .ok (.aload_n 0, 1) := by decide +kernel
theorem dX8_efficiency_32 : decode cX8_efficiency 32 = .ok (.iconst 0, 1) := by decide +kernel
theorem dX8_efficiency_33 : decode cX8_efficiency 33 = .ok (.invokevirtual 144, 3) := by decide +kernel
theorem dX8_efficiency_36 : decode cX8_efficiency 36 = .ok (.i2d, 1) := by decide +kernel
theorem dX8_efficiency_37 : decode cX8_efficiency 37 = .ok (.iload_n 1, 1) := by decide +kernel
theorem dX8_efficiency_38 : decode cX8_efficiency 38 = .ok (.i2d, 1) := by decide +kernel
theorem dX8_efficiency_39 : decode cX8_efficiency 39 = .ok (.ddiv, 1) := by decide +kernel
theorem dX8_efficiency_40 : decode cX8_efficiency 40 = .ok (.dreturn, 1) := by decide +kernel
theorem dX8_append_0 : decode cX8_append 0 = .ok (.iload_n 1, 1) := by decide +kernel
theorem dX8_append_1 : decode cX8_append 1 = .ok (.iconst 0, 1) := by decide +kernel
theorem dX8_append_2 : decode cX8_append 2 = .ok (.bipush 127, 2) := by decide +kernel
theorem dX8_append_4 : decode cX8_append 4 = .ok (.invokestatic 83, 3) := by decide +kernel
theorem dX8_append_7 : decode cX8_append 7 = .ok (.ifCond .ne 9, 3) := by decide +kernel
theorem dX8_append_10 : decode cX8_append 10 = .ok (.aload_n 0, 1) := by decide +kernel
theorem dX8_append_11 : decode cX8_append 11 = .ok (.iconst 1, 1) := by decide +kernel
theorem dX8_append_12 : decode cX8_append 12 = .ok (.invokevirtual 95, 3) := by decide +kernel
theorem dX8_append_15 : decode cX8_append 15 = .ok (.ireturn, 1) := by decide +kernel
theorem dX8_append_16 : decode cX8_append 16 = .ok (.aload_n 0, 1) := by decide +kernel
theorem dX8_append_17 : decode cX8_append 17 = .ok (.getfield 182, 3) := by decide +kernel
theorem dX8_append_20 : decode cX8_append 20 = .ok (.sipush 180, 3) := by decide +kernel
theorem dX8_append_23 : decode cX8_append 23 = .ok (.if_icmp .ne 9, 3) := by decide +kernel
theorem dX8_append_26 : decode cX8_append 26 = .ok (.aload_n 0, 1) := by decide +kernel
theorem dX8_append_27 : decode cX8_append 27 = .ok (.iconst 2, 1) := by decide +kernel
theorem dX8_append_28 : decode cX8_append 28 = .ok (.invokevirtual 95, 3) := by decide +kernel
theorem dX8_append_31 : decode cX8_append 31 = .ok (.ireturn, 1) := by decide +kernel
theorem dX8_append_32 : decode cX8_append 32 = .ok (.aload_n 0, 1) := by decide +kernel
theorem dX8_append_33 : decode cX8_append 33 = .ok (.getfield 19, 3) := by decide +kernel
theorem dX8_append_36 : decode cX8_append 36 = .ok (.aload_n 0, 1) := by decide +kernel
theorem dX8_append_37 : decode cX8_append 37 = .ok (.getfield 182, 3) := by decide +kernel
theorem dX8_append_40 : decode cX8_append 40 = .ok (.iload_n 1, 1) := by decide +kernel
theorem dX8_append_41 : decode cX8_append 41 = .ok (.iastore, 1) := by decide +kernel
theorem dX8_append_42 : decode cX8_append 42 = .ok (.aload_n 0, 1) := by decide +kernel
theorem dX8_append_43 : decode cX8_append 43 = .ok (.dup, 1) := by decide +kernel
theorem dX8_append_44 : decode cX8_append 44 = .ok (.getfield 182, 3) := by decide +kernel
theorem dX8_append_47 : decode cX8_append 47 = .ok (.iconst 1, 1) := by decide +kernel
theorem dX8_append_48 : decode cX8_append 48 = .ok (.iadd, 1) := by decide +kernel
theorem dX8_append_49 : decode cX8_append 49 = .ok (.putfield 182, 3) := by decide +kernel
theorem dX8_append_52 : decode cX8_append 52 = .ok (.aload_n 0, 1) := by decide +kernel
theorem dX8_append_53 : decode cX8_append 53 = .ok (.aload_n 0, 1) := by decide +kernel
theorem dX8_append_54 : decode cX8_append 54 = .ok (.getfield 182, 3) := by decide +kernel
theorem dX8_append_57 : decode cX8_append 57 = .ok (.invokevirtual 44, 3) := by decide +kernel
theorem dX8_append_60 : decode cX8_append 60 = .ok (.ireturn, 1) := by decide +kernel
theorem dX8_clearText_0 : decode cX8_clearText 0 = .ok (.aload_n 0, 1) := by decide +kernel
theorem dX8_clearText_1 : decode cX8_clearText 1 = .ok (.getfield 182, 3) := by decide +kernel
theorem dX8_clearText_4 : decode cX8_clearText 4 = .ok (.istore_n 1, 1) := by decide +kernel
theorem dX8_clearText_5 : decode cX8_clearText 5 = .ok (.aload_n 0, 1) := by decide +kernel
theorem dX8_clearText_6 : decode cX8_clearText 6 = .ok (.iconst 0, 1) := by decide +kernel
theorem dX8_clearText_7 : decode cX8_clearText 7 = .ok (.putfield 182, 3) := by decide +kernel
theorem dX8_clearText_10 : decode cX8_clearText 10 = .ok (.aload_n 0, 1) := by decide +kernel
theorem dX8_clearText_11 : decode cX8_clearText 11 = .ok (.iload_n 1, 1) := by decide +kernel
theorem dX8_clearText_12 : decode cX8_clearText 12 = .ok (.invokevirtual 44, 3) := by decide +kernel
theorem dX8_clearText_15 : decode cX8_clearText 15 = .ok (.ireturn, 1) := by decide +kernel
theorem dX8_isDigit_0 : decode cX8_isDigit 0 = .ok (.aload_n 0, 1) := by decide +kernel
theorem dX8_isDigit_1 : decode cX8_isDigit 1 = .ok (.getfield 185, 3) := by decide +kernel
theorem dX8_isDigit_4 : decode cX8_isDigit 4 = .ok (.aload_n 0, 1) := by decide +kernel
theorem dX8_isDigit_5 : decode cX8_isDigit 5 = .ok (.getfield 182, 3) := by decide +kernel
theorem dX8_isDigit_8 : decode cX8_isDigit 8 = .ok (.if_icmp .ge 26, 3) := by decide +kernel
theorem dX8_isDigit_11 : decode cX8_isDigit 11 = .ok (.aload_n 0, 1) := by decide +kernel
theorem dX8_isDigit_12 : decode cX8_isDigit 12 = .ok (.getfield 19, 3) := by decide +kernel
theorem dX8_isDigit_15 : decode cX8_isDigit 15 = .ok (.aload_n 0, 1) := by decide +kernel
theorem dX8_isDigit_16 : decode cX8_isDigit 16 = .ok (.getfield 185, 3) := by decide +kernel
theorem dX8_isDigit_19 : decode cX8_isDigit 19 = .ok (.iaload, 1) := by decide +kernel
theorem dX8_isDigit_20 : decode cX8_isDigit 20 = .ok (.bipush 48, 2) := by decide +kernel
theorem dX8_isDigit_22 : decode cX8_isDigit 22 = .ok (.bipush 57, 2) := by decide +kernel
theorem dX8_isDigit_24 : decode cX8_isDigit 24 = .ok (.invokestatic 83, 3) := by decide +kernel
theorem dX8_isDigit_27 : decode cX8_isDigit 27 = .ok (.ifCond .eq 7, 3) := by decide +kernel
theorem dX8_isDigit_30 : decode cX8_isDigit 30 = .ok (.iconst 1, 1) := by decide +kernel
theorem dX8_isDigit_31 : decode cX8_isDigit 31 = .ok (.goto 4, 3) := by decide +kernel
theorem dX8_isDigit_34 : decode cX8_isDigit 34 = .ok (.iconst 0, 1) := by decide +kernel
theorem dX8_isDigit_35 : decode cX8_isDigit 35 = .ok (.ireturn, 1) := by decide +kernel
theorem dX8_isNumber_0 : decode cX8_isNumber 0 = .ok (.aload_n 0, 1) := by decide +kernel
theorem dX8_isNumber_1 : decode cX8_isNumber 1 = .ok (.getfield 185, 3) := by decide +kernel
theorem dX8_isNumber_4 : decode cX8_isNumber 4 = .ok (.istore 5, 2) := by decide +kernel
theorem dX8_isNumber_6 : decode cX8_isNumber 6 = .ok (.aload_n 0, 1) := by decide +kernel
theorem dX8_isNumber_7 : decode cX8_isNumber 7 = .ok (.iconst 0, 1) := by decide +kernel
theorem dX8_isNumber_8 : decode cX8_isNumber 8 = .ok (.putfield 188, 3) := by decide +kernel
theorem dX8_isNumber_11 : decode cX8_isNumber 11 = .ok (.aload_n 0, 1) := by decide +kernel
theorem dX8_isNumber_12 : decode cX8_isNumber 12 = .ok (.invokevirtual 191, 3) := by decide +kernel
theorem dX8_isNumber_15 : decode cX8_isNumber 15 = .ok (.ifCond .eq 51, 3) := by decide +kernel
theorem dX8_isNumber_18 : decode cX8_isNumber 18 = .ok (.aload_n 0, 1) := by decide +kernel
theorem dX8_isNumber_19 : decode cX8_isNumber 19 = .ok (.getfield 185, 3) := by decide +kernel
theorem dX8_isNumber_22 : decode cX8_isNumber 22 = .ok (.iload 5, 2) := by decide +kernel
theorem dX8_isNumber_24 : decode cX8_isNumber 24 = .ok (.isub, 1) := by decide +kernel
theorem dX8_isNumber_25 : decode cX8_isNumber 25 = .ok (.iload_n 1, 1) := by decide +kernel
theorem dX8_isNumber_26 : decode cX8_isNumber 26 = .ok (.if_icmp .ge 40, 3) := by decide +kernel
theorem dX8_isNumber_29 : decode cX8_isNumber 29 = .ok (.aload_n 0, 1) := by decide +kernel
theorem dX8_isNumber_30 : decode cX8_isNumber 30 = .ok (.bipush 10, 2) := by decide +kernel
theorem dX8_isNumber_32 : decode cX8_isNumber 32 = .ok (.aload_n 0, 1) := by decide +kernel
theorem dX8_isNumber_33 : decode cX8_isNumber 33 = .ok (.getfield 188, 3) := by decide +kernel
theorem dX8_isNumber_36 : decode cX8_isNumber 36 = .ok (.imul, 1) := by decide +kernel
theorem dX8_isNumber_37 : decode cX8_isNumber 37 = .ok (.aload_n 0, 1) := by decide +kernel
theorem dX8_isNumber_38 : decode cX8_isNumber 38 = .ok (.getfield 19, 3) := by decide +kernel
theorem dX8_isNumber_41 : decode cX8_isNumber 41 = .ok (.aload_n 0, 1) := by decide +kernel
theorem dX8_isNumber_42 : decode cX8_isNumber 42 = .ok (.getfield 185, 3) := by decide +kernel
theorem dX8_isNumber_45 : decode cX8_isNumber 45 = .ok (.iaload, 1) := by decide +kernel
theorem dX8_isNumber_46 : decode cX8_isNumber 46 = .ok (.iadd, 1) := by decide +kernel
theorem dX8_isNumber_47 : decode cX8_isNumber 47 = .ok (.bipush 48, 2) := by decide +kernel
theorem dX8_isNumber_49 : decode cX8_isNumber 49 = .ok (.isub, 1) := by decide +kernel
theorem dX8_isNumber_50 : decode cX8_isNumber 50 = .ok (.putfield 188, 3) := by decide +kernel
theorem dX8_isNumber_53 : decode cX8_isNumber 53 = .ok (.aload_n 0, 1) := by decide +kernel
theorem dX8_isNumber_54 : decode cX8_isNumber 54 = .ok (.dup, 1) := by decide +kernel
theorem dX8_isNumber_55 : decode cX8_isNumber 55 = .ok (.getfield 185, 3) := by decide +kernel
theorem dX8_isNumber_58 : decode cX8_isNumber 58 = .ok (.iconst 1, 1) := by decide +kernel
theorem dX8_isNumber_59 : decode cX8_isNumber 59 = .ok (.iadd, 1) := by decide +kernel
theorem dX8_isNumber_60 : decode cX8_isNumber 60 = .ok (.putfield 185, 3) := by decide +kernel
theorem dX8_isNumber_63 : decode cX8_isNumber 63 = .ok (.goto (-52), 3) := by decide +kernel
theorem dX8_isNumber_66 : decode cX8_isNumber 66 = .ok (.aload_n 0, 1) := by decide +kernel
theorem dX8_isNumber_67 : decode cX8_isNumber 67 = .ok (.getfield 185, 3) := by decide +kernel
theorem dX8_isNumber_70 : decode cX8_isNumber 70 = .ok (.iload 5, 2) := by decide +kernel
theorem dX8_isNumber_72 : decode cX8_isNumber 72 = .ok (.if_icmp .eq 10, 3) := by decide +kernel
theorem dX8_isNumber_75 : decode cX8_isNumber 75 = .ok (.aload_n 0, 1) := by decide +kernel
theorem dX8_isNumber_76 : decode cX8_isNumber 76 = .ok (.invokevirtual 191, 3) := by decide +kernel
theorem dX8_isNumber_79 : decode cX8_isNumber 79 = .ok (.ifCond .eq 5, 3) := by decide +kernel
theorem dX8_isNumber_82 : decode cX8_isNumber 82 = .ok (.iconst 0, 1) := by decide +kernel
theorem dX8_isNumber_83 : decode cX8_isNumber 83 = .ok (.ireturn, 1) := by decide +kernel
theorem dX8_isNumber_84 : decode cX8_isNumber 84 = .ok (.aload_n 0, 1) := by decide +kernel
theorem dX8_isNumber_85 : decode cX8_isNumber 85 = .ok (.getfield 188, 3) := by decide +kernel
theorem dX8_isNumber_88 : decode cX8_isNumber 88 = .ok (.iload_n 2, 1) := by decide +kernel
theorem dX8_isNumber_89 : decode cX8_isNumber 89 = .ok (.iload_n 3, 1) := by decide +kernel
theorem dX8_isNumber_90 : decode cX8_isNumber 90 = .ok (.invokestatic 83, 3) := by decide +kernel
theorem dX8_isNumber_93 : decode cX8_isNumber 93 = .ok (.ifCond .ne 11, 3) := by decide +kernel
theorem dX8_isNumber_96 : decode cX8_isNumber 96 = .ok (.aload_n 0, 1) := by decide +kernel
theorem dX8_isNumber_97 : decode cX8_isNumber 97 = .ok (.iload 5, 2) := by decide +kernel
theorem dX8_isNumber_99 : decode cX8_isNumber 99 = .ok (.putfield 185, 3) := by decide +kernel
theorem dX8_isNumber_102 : decode cX8_isNumber 102 = .ok (.iconst 0, 1) := by decide +kernel
theorem dX8_isNumber_103 : decode cX8_isNumber 103 = .ok (.ireturn, 1) := by decide +kernel
theorem dX8_isNumber_104 : decode cX8_isNumber 104 = .ok (.aload_n 0, 1) := by decide +kernel
theorem dX8_isNumber_105 : decode cX8_isNumber 105 = .ok (.getfield 185, 3) := by decide +kernel
theorem dX8_isNumber_108 : decode cX8_isNumber 108 = .ok (.aload_n 0, 1) := by decide +kernel
theorem dX8_isNumber_109 : decode cX8_isNumber 109 = .ok (.getfield 182, 3) := by decide +kernel
theorem dX8_isNumber_112 : decode cX8_isNumber 112 = .ok (.if_icmp .eq 17, 3) := by decide +kernel
theorem dX8_isNumber_115 : decode cX8_isNumber 115 = .ok (.aload_n 0, 1) := by decide +kernel
theorem dX8_isNumber_116 : decode cX8_isNumber 116 = .ok (.getfield 19, 3) := by decide +kernel
theorem dX8_isNumber_119 : decode cX8_isNumber 119 = .ok (.aload_n 0, 1) := by decide +kernel
theorem dX8_isNumber_120 : decode cX8_isNumber 120 = .ok (.getfield 185, 3) := by decide +kernel
theorem dX8_isNumber_123 : decode cX8_isNumber 123 = .ok (.iaload, 1) := by decide +kernel
theorem dX8_isNumber_124 : decode cX8_isNumber 124 = .ok (.iload 4, 2) := by decide +kernel
theorem dX8_isNumber_126 : decode cX8_isNumber 126 = .ok (.if_icmp .eq 5, 3) := by decide +kernel
theorem dX8_isNumber_129 : decode cX8_isNumber 129 = .ok (.iconst 0, 1) := by decide +kernel
theorem dX8_isNumber_130 : decode cX8_isNumber 130 = .ok (.ireturn, 1) := by decide +kernel
theorem dX8_isNumber_131 : decode cX8_isNumber 131 = .ok (.aload_n 0, 1) := by decide +kernel
theorem dX8_isNumber_132 : decode cX8_isNumber 132 = .ok (.dup, 1) := by decide +kernel
theorem dX8_isNumber_133 : decode cX8_isNumber 133 = .ok (.getfield 185, 3) := by decide +kernel
theorem dX8_isNumber_136 : decode cX8_isNumber 136 = .ok (.iconst 1, 1) := by decide +kernel
theorem dX8_isNumber_137 : decode cX8_isNumber 137 = .ok (.iadd, 1) := by decide +kernel
theorem dX8_isNumber_138 : decode cX8_isNumber 138 = .ok (.putfield 185, 3) := by decide +kernel
theorem dX8_isNumber_141 : decode cX8_isNumber 141 = .ok (.iconst 1, 1) := by decide +kernel
theorem dX8_isNumber_142 : decode cX8_isNumber 142 = .ok (.ireturn, 1) := by decide +kernel
theorem dX8_isNodeText_0 : decode cX8_isNodeText 0 = .ok (.aload_n 0, 1) := by decide +kernel
theorem dX8_isNodeText_1 : decode cX8_isNodeText 1 = .ok (.getfield 7, 3) := by decide +kernel
theorem dX8_isNodeText_4 : decode cX8_isNodeText 4 = .ok (.iconst 5, 1) := by decide +kernel
theorem dX8_isNodeText_5 : decode cX8_isNodeText 5 = .ok (.iaload, 1) := by decide +kernel
theorem dX8_isNodeText_6 : decode cX8_isNodeText 6 = .ok (.istore_n 1, 1) := by decide +kernel
theorem dX8_isNodeText_7 : decode cX8_isNodeText 7 = .ok (.iload_n 1, 1) := by decide +kernel
theorem dX8_isNodeText_8 : decode cX8_isNodeText 8 = .ok (.bipush 16, 2) := by decide +kernel
theorem dX8_isNodeText_10 : decode cX8_isNodeText 10 = .ok (.if_icmp .eq 17, 3) := by decide +kernel
theorem dX8_isNodeText_13 : decode cX8_isNodeText 13 = .ok (.aload_n 0, 1) := by decide +kernel
theorem dX8_isNodeText_14 : decode cX8_isNodeText 14 = .ok (.iconst 2, 1) := by decide +kernel
theorem dX8_isNodeText_15 : decode cX8_isNodeText 15 = .ok (.iconst 0, 1) := by decide +kernel
theorem dX8_isNodeText_16 : decode cX8_isNodeText 16 = .ok (.iload_n 1, 1) := by decide +kernel
theorem dX8_isNodeText_17 : decode cX8_isNodeText 17 = .ok (.iconst 1, 1) := by decide +kernel
theorem dX8_isNodeText_18 : decode cX8_isNodeText 18 = .ok (.isub, 1) := by decide +kernel
theorem dX8_isNodeText_19 : decode cX8_isNodeText 19 = .ok (.bipush 44, 2) := by decide +kernel
theorem dX8_isNodeText_21 : decode cX8_isNodeText 21 = .ok (.invokevirtual 194, 3) := by decide +kernel
theorem dX8_isNodeText_24 : decode cX8_isNodeText 24 = .ok (.ifCond .ne 5, 3) := by decide +kernel
theorem dX8_isNodeText_27 : decode cX8_isNodeText 27 = .ok (.iconst 0, 1) := by decide +kernel
theorem dX8_isNodeText_28 : decode cX8_isNodeText 28 = .ok (.ireturn, 1) := by decide +kernel
theorem dX8_isNodeText_29 : decode cX8_isNodeText 29 = .ok (.aload_n 0, 1) := by decide +kernel
theorem dX8_isNodeText_30 : decode cX8_isNodeText 30 = .ok (.getfield 188, 3) := by decide +kernel
theorem dX8_isNodeText_33 : decode cX8_isNodeText 33 = .ok (.istore_n 2, 1) := by decide +kernel
theorem dX8_isNodeText_34 : decode cX8_isNodeText 34 = .ok (.aload_n 0, 1) := by decide +kernel
theorem dX8_isNodeText_35 : decode cX8_isNodeText 35 = .ok (.iconst 3, 1) := by decide +kernel
theorem dX8_isNodeText_36 : decode cX8_isNodeText 36 = .ok (.iconst 1, 1) := by decide +kernel
theorem dX8_isNodeText_37 : decode cX8_isNodeText 37 = .ok (.sipush 500, 3) := by decide +kernel
theorem dX8_isNodeText_40 : decode cX8_isNodeText 40 = .ok (.bipush 44, 2) := by decide +kernel
theorem dX8_isNodeText_42 : decode cX8_isNodeText 42 = .ok (.invokevirtual 194, 3) := by decide +kernel
theorem dX8_isNodeText_45 : decode cX8_isNodeText 45 = .ok (.ifCond .ne 5, 3) := by decide +kernel
theorem dX8_isNodeText_48 : decode cX8_isNodeText 48 = .ok (.iconst 0, 1) := by decide +kernel
theorem dX8_isNodeText_49 : decode cX8_isNodeText 49 = .ok (.ireturn, 1) := by decide +kernel
theorem dX8_isNodeText_50 : decode cX8_isNodeText 50 = .ok (.aload_n 0, 1) := by decide +kernel
theorem dX8_isNodeText_51 : decode cX8_isNodeText 51 = .ok (.getfield 188, 3) := by decide +kernel
theorem dX8_isNodeText_54 : decode cX8_isNodeText 54 = .ok (.istore_n 3, 1) := by decide +kernel
theorem dX8_isNodeText_55 : decode cX8_isNodeText 55 = .ok (.aload_n 0, 1) := by decide +kernel
theorem dX8_isNodeText_56 : decode cX8_isNodeText 56 = .ok (.iconst 2, 1) := by decide +kernel
theorem dX8_isNodeText_57 : decode cX8_isNodeText 57 = .ok (.iconst 0, 1) := by decide +kernel
theorem dX8_isNodeText_58 : decode cX8_isNodeText 58 = .ok (.bipush 50, 2) := by decide +kernel
theorem dX8_isNodeText_60 : decode cX8_isNodeText 60 = .ok (.bipush 44, 2) := by decide +kernel
theorem dX8_isNodeText_62 : decode cX8_isNodeText 62 = .ok (.invokevirtual 194, 3) := by decide +kernel
theorem dX8_isNodeText_65 : decode cX8_isNodeText 65 = .ok (.ifCond .ne 5, 3) := by decide +kernel
theorem dX8_isNodeText_68 : decode cX8_isNodeText 68 = .ok (.iconst 0, 1) := by decide +kernel
theorem dX8_isNodeText_69 : decode cX8_isNodeText 69 = .ok (.ireturn, 1) := by decide +kernel
theorem dX8_isNodeText_70 : decode cX8_isNodeText 70 = .ok (.aload_n 0, 1) := by decide +kernel
theorem dX8_isNodeText_71 : decode cX8_isNodeText 71 = .ok (.getfield 188, 3) := by decide +kernel
theorem dX8_isNodeText_74 : decode cX8_isNodeText 74 = .ok (.istore 4, 2) := by decide +kernel
theorem dX8_isNodeText_76 : decode cX8_isNodeText 76 = .ok (.aload_n 0, 1) := by decide +kernel
theorem dX8_isNodeText_77 : decode cX8_isNodeText 77 = .ok (.iconst 3, 1) := by decide +kernel
theorem dX8_isNodeText_78 : decode cX8_isNodeText 78 = .ok (.iconst 0, 1) := by decide +kernel
theorem dX8_isNodeText_79 : decode cX8_isNodeText 79 = .ok (.sipush 500, 3) := by decide +kernel
theorem dX8_isNodeText_82 : decode cX8_isNodeText 82 = .ok (.bipush 44, 2) := by decide +kernel
theorem dX8_isNodeText_84 : decode cX8_isNodeText 84 = .ok (.invokevirtual 194, 3) := by decide +kernel
end
section
theorem dX8_isNodeText_87 : decode cX8_isNodeText 87 = .ok (.ifCond .ne 5, 3) := by decide +kernel
theorem dX8_isNodeText_90 : decode cX8_isNodeText 90 = .ok (.iconst 0, 1) := by decide +kernel
theorem dX8_isNodeText_91 : decode cX8_isNodeText 91 = .ok (.ireturn, 1) := by decide +kernel
theorem dX8_isNodeText_92 : decode cX8_isNodeText 92 = .ok (.aload_n 0, 1) := by decide +kernel
theorem dX8_isNodeText_93 : decode cX8_isNodeText 93 = .ok (.getfield 188, 3) := by decide +kernel
theorem dX8_isNodeText_96 : decode cX8_isNodeText 96 = .ok (.istore 5, 2) := by decide +kernel
theorem dX8_isNodeText_98 : decode cX8_isNodeText 98 = .ok (.aload_n 0, 1) := by decide +kernel
theorem dX8_isNodeText_99 : decode cX8_isNodeText 99 = .ok (.iconst 4, 1) := by decide +kernel
theorem dX8_isNodeText_100 : decode cX8_isNodeText 100 = .ok (.iconst 0, 1) := by decide +kernel
theorem dX8_isNodeText_101 : decode cX8_isNodeText 101 = .ok (.sipush 1200, 3) := by decide +kernel
theorem dX8_isNodeText_104 : decode cX8_isNodeText 104 = .ok (.bipush 59, 2) := by decide +kernel
theorem dX8_isNodeText_106 : decode cX8_isNodeText 106 = .ok (.invokevirtual 194, 3) := by decide +kernel
theorem dX8_isNodeText_109 : decode cX8_isNodeText 109 = .ok (.ifCond .ne 5, 3) := by decide +kernel
theorem dX8_isNodeText_112 : decode cX8_isNodeText 112 = .ok (.iconst 0, 1) := by decide +kernel
theorem dX8_isNodeText_113 : decode cX8_isNodeText 113 = .ok (.ireturn, 1) := by decide +kernel
theorem dX8_isNodeText_114 : decode cX8_isNodeText 114 = .ok (.aload_n 0, 1) := by decide +kernel
theorem dX8_isNodeText_115 : decode cX8_isNodeText 115 = .ok (.iload_n 2, 1) := by decide +kernel
theorem dX8_isNodeText_116 : decode cX8_isNodeText 116 = .ok (.iload_n 3, 1) := by decide +kernel
theorem dX8_isNodeText_117 : decode cX8_isNodeText 117 = .ok (.iload 4, 2) := by decide +kernel
theorem dX8_isNodeText_119 : decode cX8_isNodeText 119 = .ok (.iload 5, 2) := by decide +kernel
theorem dX8_isNodeText_121 : decode cX8_isNodeText 121 = .ok (.aload_n 0, 1) := by decide +kernel
theorem dX8_isNodeText_122 : decode cX8_isNodeText 122 = .ok (.getfield 188, 3) := by decide +kernel
theorem dX8_isNodeText_125 : decode cX8_isNodeText 125 = .ok (.invokevirtual 108, 3) := by decide +kernel
theorem dX8_isNodeText_128 : decode cX8_isNodeText 128 = .ok (.iconst 1, 1) := by decide +kernel
theorem dX8_isNodeText_129 : decode cX8_isNodeText 129 = .ok (.ireturn, 1) := by decide +kernel
theorem dX8_parse_0 : decode cX8_parse 0 = .ok (.aload_n 0, 1) := by decide +kernel
theorem dX8_parse_1 : decode cX8_parse 1 = .ok (.invokevirtual 105, 3) := by decide +kernel
theorem dX8_parse_4 : decode cX8_parse 4 = .ok (.aload_n 0, 1) := by decide +kernel
theorem dX8_parse_5 : decode cX8_parse 5 = .ok (.iconst 0, 1) := by decide +kernel
theorem dX8_parse_6 : decode cX8_parse 6 = .ok (.putfield 185, 3) := by decide +kernel
theorem dX8_parse_9 : decode cX8_parse 9 = .ok (.aload_n 0, 1) := by decide +kernel
theorem dX8_parse_10 : decode cX8_parse 10 = .ok (.getfield 7, 3) := by decide +kernel
theorem dX8_parse_13 : decode cX8_parse 13 = .ok (.iconst 5, 1) := by decide +kernel
theorem dX8_parse_14 : decode cX8_parse 14 = .ok (.iconst 1, 1) := by decide +kernel
theorem dX8_parse_15 : decode cX8_parse 15 = .ok (.iastore, 1) := by decide +kernel
theorem dX8_parse_16 : decode cX8_parse 16 = .ok (.aload_n 0, 1) := by decide +kernel
theorem dX8_parse_17 : decode cX8_parse 17 = .ok (.getfield 185, 3) := by decide +kernel
theorem dX8_parse_20 : decode cX8_parse 20 = .ok (.aload_n 0, 1) := by decide +kernel
theorem dX8_parse_21 : decode cX8_parse 21 = .ok (.getfield 182, 3) := by decide +kernel
theorem dX8_parse_24 : decode cX8_parse 24 = .ok (.if_icmp .ge 49, 3) := by decide +kernel
theorem dX8_parse_27 : decode cX8_parse 27 = .ok (.aload_n 0, 1) := by decide +kernel
theorem dX8_parse_28 : decode cX8_parse 28 = .ok (.invokevirtual 198, 3) := by decide +kernel
theorem dX8_parse_31 : decode cX8_parse 31 = .ok (.ifCond .ne (-15), 3) := by decide +kernel
theorem dX8_parse_34 : decode cX8_parse 34 = .ok (.iconst 0, 1) := by decide +kernel
theorem dX8_parse_35 : decode cX8_parse 35 = .ok (.istore_n 1, 1) := by decide +kernel
theorem dX8_parse_36 : decode cX8_parse 36 = .ok (.iload_n 1, 1) := by decide +kernel
theorem dX8_parse_37 : decode cX8_parse 37 = .ok (.sipush 149, 3) := by decide +kernel
theorem dX8_parse_40 : decode cX8_parse 40 = .ok (.if_icmp .ge 21, 3) := by decide +kernel
theorem dX8_parse_43 : decode cX8_parse 43 = .ok (.aload_n 0, 1) := by decide +kernel
theorem dX8_parse_44 : decode cX8_parse 44 = .ok (.getfield 7, 3) := by decide +kernel
theorem dX8_parse_47 : decode cX8_parse 47 = .ok (.iload_n 1, 1) := by decide +kernel
theorem dX8_parse_48 : decode cX8_parse 48 = .ok (.aload_n 0, 1) := by decide +kernel
theorem dX8_parse_49 : decode cX8_parse 49 = .ok (.getfield 16, 3) := by decide +kernel
theorem dX8_parse_52 : decode cX8_parse 52 = .ok (.iload_n 1, 1) := by decide +kernel
theorem dX8_parse_53 : decode cX8_parse 53 = .ok (.iaload, 1) := by decide +kernel
theorem dX8_parse_54 : decode cX8_parse 54 = .ok (.iastore, 1) := by decide +kernel
theorem dX8_parse_55 : decode cX8_parse 55 = .ok (.iinc 1 1, 3) := by decide +kernel
theorem dX8_parse_58 : decode cX8_parse 58 = .ok (.goto (-22), 3) := by decide +kernel
theorem dX8_parse_61 : decode cX8_parse 61 = .ok (.aload_n 0, 1) := by decide +kernel
theorem dX8_parse_62 : decode cX8_parse 62 = .ok (.bipush (-10), 2) := by decide +kernel
theorem dX8_parse_64 : decode cX8_parse 64 = .ok (.aload_n 0, 1) := by decide +kernel
theorem dX8_parse_65 : decode cX8_parse 65 = .ok (.getfield 185, 3) := by decide +kernel
theorem dX8_parse_68 : decode cX8_parse 68 = .ok (.isub, 1) := by decide +kernel
theorem dX8_parse_69 : decode cX8_parse 69 = .ok (.invokevirtual 44, 3) := by decide +kernel
theorem dX8_parse_72 : decode cX8_parse 72 = .ok (.ireturn, 1) := by decide +kernel
theorem dX8_parse_73 : decode cX8_parse 73 = .ok (.aload_n 0, 1) := by decide +kernel
theorem dX8_parse_74 : decode cX8_parse 74 = .ok (.aload_n 0, 1) := by decide +kernel
theorem dX8_parse_75 : decode cX8_parse 75 = .ok (.getfield 7, 3) := by decide +kernel
theorem dX8_parse_78 : decode cX8_parse 78 = .ok (.iconst 5, 1) := by decide +kernel
theorem dX8_parse_79 : decode cX8_parse 79 = .ok (.iaload, 1) := by decide +kernel
theorem dX8_parse_80 : decode cX8_parse 80 = .ok (.invokevirtual 112, 3) := by decide +kernel
theorem dX8_parse_83 : decode cX8_parse 83 = .ok (.ireturn, 1) := by decide +kernel
theorem dX8_undo_0 : decode cX8_undo 0 = .ok (.aload_n 0, 1) := by decide +kernel
theorem dX8_undo_1 : decode cX8_undo 1 = .ok (.getfield 41, 3) := by decide +kernel
theorem dX8_undo_4 : decode cX8_undo 4 = .ok (.ifCond .ne 9, 3) := by decide +kernel
theorem dX8_undo_7 : decode cX8_undo 7 = .ok (.aload_n 0, 1) := by decide +kernel
theorem dX8_undo_8 : decode cX8_undo 8 = .ok (.iconst 1, 1) := by decide +kernel
theorem dX8_undo_9 : decode cX8_undo 9 = .ok (.invokevirtual 95, 3) := by decide +kernel
theorem dX8_undo_12 : decode cX8_undo 12 = .ok (.ireturn, 1) := by decide +kernel
theorem dX8_undo_13 : decode cX8_undo 13 = .ok (.aload_n 0, 1) := by decide +kernel
theorem dX8_undo_14 : decode cX8_undo 14 = .ok (.dup, 1) := by decide +kernel
theorem dX8_undo_15 : decode cX8_undo 15 = .ok (.getfield 41, 3) := by decide +kernel
theorem dX8_undo_18 : decode cX8_undo 18 = .ok (.iconst 1, 1) := by decide +kernel
theorem dX8_undo_19 : decode cX8_undo 19 = .ok (.isub, 1) := by decide +kernel
theorem dX8_undo_20 : decode cX8_undo 20 = .ok (.putfield 41, 3) := by decide +kernel
theorem dX8_undo_23 : decode cX8_undo 23 = .ok (.iconst 0, 1) := by decide +kernel
theorem dX8_undo_24 : decode cX8_undo 24 = .ok (.istore_n 1, 1) := by decide +kernel
theorem dX8_undo_25 : decode cX8_undo 25 = .ok (.iload_n 1, 1) := by decide +kernel
theorem dX8_undo_26 : decode cX8_undo 26 = .ok (.sipush 149, 3) := by decide +kernel
theorem dX8_undo_29 : decode cX8_undo 29 = .ok (.if_icmp .ge 30, 3) := by decide +kernel
theorem dX8_undo_32 : decode cX8_undo 32 = .ok (.aload_n 0, 1) := by decide +kernel
theorem dX8_undo_33 : decode cX8_undo 33 = .ok (.getfield 7, 3) := by decide +kernel
theorem dX8_undo_36 : decode cX8_undo 36 = .ok (.iload_n 1, 1) := by decide +kernel
theorem dX8_undo_37 : decode cX8_undo 37 = .ok (.aload_n 0, 1) := by decide +kernel
theorem dX8_undo_38 : decode cX8_undo 38 = .ok (.getfield 13, 3) := by decide +kernel
theorem dX8_undo_41 : decode cX8_undo 41 = .ok (.sipush 149, 3) := by decide +kernel
theorem dX8_undo_44 : decode cX8_undo 44 = .ok (.aload_n 0, 1) := by decide +kernel
theorem dX8_undo_45 : decode cX8_undo 45 = .ok (.getfield 41, 3) := by decide +kernel
theorem dX8_undo_48 : decode cX8_undo 48 = .ok (.imul, 1) := by decide +kernel
theorem dX8_undo_49 : decode cX8_undo 49 = .ok (.iload_n 1, 1) := by decide +kernel
theorem dX8_undo_50 : decode cX8_undo 50 = .ok (.iadd, 1) := by decide +kernel
theorem dX8_undo_51 : decode cX8_undo 51 = .ok (.iaload, 1) := by decide +kernel
theorem dX8_undo_52 : decode cX8_undo 52 = .ok (.iastore, 1) := by decide +kernel
theorem dX8_undo_53 : decode cX8_undo 53 = .ok (.iinc 1 1, 3) := by decide +kernel
theorem dX8_undo_56 : decode cX8_undo 56 = .ok (.goto (-31), 3) := by decide +kernel
theorem dX8_undo_59 : decode cX8_undo 59 = .ok (.aload_n 0, 1) := by decide +kernel
theorem dX8_undo_60 : decode cX8_undo 60 = .ok (.aload_n 0, 1) := by decide +kernel
theorem dX8_undo_61 : decode cX8_undo 61 = .ok (.getfield 41, 3) := by decide +kernel
theorem dX8_undo_64 : decode cX8_undo 64 = .ok (.invokevirtual 44, 3) := by decide +kernel
theorem dX8_undo_67 : decode cX8_undo 67 = .ok (.ireturn, 1) := by decide +kernel
theorem dX8_mix_0 : decode cX8_mix 0 = .ok (.aload_n 0, 1) := by decide +kernel
theorem dX8_mix_1 : decode cX8_mix 1 = .ok (.ldc2_w 201, 3) := by decide +kernel
theorem dX8_mix_4 : decode cX8_mix 4 = .ok (.aload_n 0, 1) := by decide +kernel
theorem dX8_mix_5 : decode cX8_mix 5 = .ok (.getfield 203, 3) := by decide +kernel
theorem dX8_mix_8 : decode cX8_mix 8 = .ok (.lmul, 1) := by decide +kernel
theorem dX8_mix_9 : decode cX8_mix 9 = .ok (.iload_n 1, 1) := by decide +kernel
theorem dX8_mix_10 : decode cX8_mix 10 = .ok (.i2l, 1) := by decide +kernel
theorem dX8_mix_11 : decode cX8_mix 11 = .ok (.ladd, 1) := by decide +kernel
theorem dX8_mix_12 : decode cX8_mix 12 = .ok (.putfield 203, 3) := by decide +kernel
theorem dX8_mix_15 : decode cX8_mix 15 = .ok (.return_, 1) := by decide +kernel
theorem dX8_digest_0 : decode cX8_digest 0 = .ok (.aload_n 0, 1) := by decide +kernel
theorem dX8_digest_1 : decode cX8_digest 1 = .ok (.iconst 0, 1) := by decide +kernel
theorem dX8_digest_2 : decode cX8_digest 2 = .ok (.putfield 37, 3) := by decide +kernel
theorem dX8_digest_5 : decode cX8_digest 5 = .ok (.aload_n 0, 1) := by decide +kernel
theorem dX8_digest_6 : decode cX8_digest 6 = .ok (.invokevirtual 126, 3) := by decide +kernel
theorem dX8_digest_9 : decode cX8_digest 9 = .ok (.aload_n 0, 1) := by decide +kernel
theorem dX8_digest_10 : decode cX8_digest 10 = .ok (.ldc2_w 207, 3) := by decide +kernel
theorem dX8_digest_13 : decode cX8_digest 13 = .ok (.putfield 203, 3) := by decide +kernel
theorem dX8_digest_16 : decode cX8_digest 16 = .ok (.aload_n 0, 1) := by decide +kernel
theorem dX8_digest_17 : decode cX8_digest 17 = .ok (.aload_n 0, 1) := by decide +kernel
theorem dX8_digest_18 : decode cX8_digest 18 = .ok (.getfield 182, 3) := by decide +kernel
theorem dX8_digest_21 : decode cX8_digest 21 = .ok (.invokevirtual 209, 3) := by decide +kernel
theorem dX8_digest_24 : decode cX8_digest 24 = .ok (.iconst 0, 1) := by decide +kernel
theorem dX8_digest_25 : decode cX8_digest 25 = .ok (.istore_n 1, 1) := by decide +kernel
theorem dX8_digest_26 : decode cX8_digest 26 = .ok (.iload_n 1, 1) := by decide +kernel
theorem dX8_digest_27 : decode cX8_digest 27 = .ok (.bipush 15, 2) := by decide +kernel
theorem dX8_digest_29 : decode cX8_digest 29 = .ok (.if_icmp .ge 18, 3) := by decide +kernel
theorem dX8_digest_32 : decode cX8_digest 32 = .ok (.aload_n 0, 1) := by decide +kernel
theorem dX8_digest_33 : decode cX8_digest 33 = .ok (.aload_n 0, 1) := by decide +kernel
theorem dX8_digest_34 : decode cX8_digest 34 = .ok (.iload_n 1, 1) := by decide +kernel
theorem dX8_digest_35 : decode cX8_digest 35 = .ok (.invokevirtual 141, 3) := by decide +kernel
theorem dX8_digest_38 : decode cX8_digest 38 = .ok (.invokevirtual 209, 3) := by decide +kernel
theorem dX8_digest_41 : decode cX8_digest 41 = .ok (.iinc 1 1, 3) := by decide +kernel
theorem dX8_digest_44 : decode cX8_digest 44 = .ok (.goto (-18), 3) := by decide +kernel
theorem dX8_digest_47 : decode cX8_digest 47 = .ok (.iconst 0, 1) := by decide +kernel
theorem dX8_digest_48 : decode cX8_digest 48 = .ok (.istore_n 1, 1) := by decide +kernel
theorem dX8_digest_49 : decode cX8_digest 49 = .ok (.iload_n 1, 1) := by decide +kernel
theorem dX8_digest_50 : decode cX8_digest 50 = .ok (.iconst 3, 1) := by decide +kernel
theorem dX8_digest_51 : decode cX8_digest 51 = .ok (.if_icmp .ge 18, 3) := by decide +kernel
theorem dX8_digest_54 : decode cX8_digest 54 = .ok (.aload_n 0, 1) := by decide +kernel
theorem dX8_digest_55 : decode cX8_digest 55 = .ok (.aload_n 0, 1) := by decide +kernel
theorem dX8_digest_56 : decode cX8_digest 56 = .ok (.iload_n 1, 1) := by decide +kernel
theorem dX8_digest_57 : decode cX8_digest 57 = .ok (.invokevirtual 144, 3) := by decide +kernel
theorem dX8_digest_60 : decode cX8_digest 60 = .ok (.invokevirtual 209, 3) := by decide +kernel
theorem dX8_digest_63 : decode cX8_digest 63 = .ok (.iinc 1 1, 3) := by decide +kernel
theorem dX8_digest_66 : decode cX8_digest 66 = .ok (.goto (-17), 3) := by decide +kernel
theorem dX8_digest_69 : decode cX8_digest 69 = .ok (.iconst 0, 1) := by decide +kernel
theorem dX8_digest_70 : decode cX8_digest 70 = .ok (.istore_n 1, 1) := by decide +kernel
theorem dX8_digest_71 : decode cX8_digest 71 = .ok (.iload_n 1, 1) := by decide +kernel
theorem dX8_digest_72 : decode cX8_digest 72 = .ok (.aload_n 0, 1) := by decide +kernel
theorem dX8_digest_73 : decode cX8_digest 73 = .ok (.getfield 7, 3) := by decide +kernel
theorem dX8_digest_76 : decode cX8_digest 76 = .ok (.iconst 5, 1) := by decide +kernel
theorem dX8_digest_77 : decode cX8_digest 77 = .ok (.iaload, 1) := by decide +kernel
theorem dX8_digest_78 : decode cX8_digest 78 = .ok (.if_icmp .ge 60, 3) := by decide +kernel
theorem dX8_digest_81 : decode cX8_digest 81 = .ok (.iconst 0, 1) := by decide +kernel
theorem dX8_digest_82 : decode cX8_digest 82 = .ok (.istore_n 2, 1) := by decide +kernel
theorem dX8_digest_83 : decode cX8_digest 83 = .ok (.iload_n 2, 1) := by decide +kernel
theorem dX8_digest_84 : decode cX8_digest 84 = .ok (.bipush 12, 2) := by decide +kernel
theorem dX8_digest_86 : decode cX8_digest 86 = .ok (.if_icmp .ge 19, 3) := by decide +kernel
theorem dX8_digest_89 : decode cX8_digest 89 = .ok (.aload_n 0, 1) := by decide +kernel
theorem dX8_digest_90 : decode cX8_digest 90 = .ok (.aload_n 0, 1) := by decide +kernel
theorem dX8_digest_91 : decode cX8_digest 91 = .ok (.iload_n 1, 1) := by decide +kernel
theorem dX8_digest_92 : decode cX8_digest 92 = .ok (.iload_n 2, 1) := by decide +kernel
theorem dX8_digest_93 : decode cX8_digest 93 = .ok (.invokevirtual 129, 3) := by decide +kernel
theorem dX8_digest_96 : decode cX8_digest 96 = .ok (.invokevirtual 209, 3) := by decide +kernel
theorem dX8_digest_99 : decode cX8_digest 99 = .ok (.iinc 2 1, 3) := by decide +kernel
theorem dX8_digest_102 : decode cX8_digest 102 = .ok (.goto (-19), 3) := by decide +kernel
theorem dX8_digest_105 : decode cX8_digest 105 = .ok (.aload_n 0, 1) := by decide +kernel
theorem dX8_digest_106 : decode cX8_digest 106 = .ok (.aload_n 0, 1) := by decide +kernel
theorem dX8_digest_107 : decode cX8_digest 107 = .ok (.iload_n 1, 1) := by decide +kernel
theorem dX8_digest_108 : decode cX8_digest 108 = .ok (.invokevirtual 160, 3) := by decide +kernel
theorem dX8_digest_111 : decode cX8_digest 111 = .ok (.invokevirtual 209, 3) := by decide +kernel
theorem dX8_digest_114 : decode cX8_digest 114 = .ok (.aload_n 0, 1) := by decide +kernel
theorem dX8_digest_115 : decode cX8_digest 115 = .ok (.aload_n 0, 1) := by decide +kernel
theorem dX8_digest_116 : decode cX8_digest 116 = .ok (.iload_n 1, 1) := by decide +kernel
theorem dX8_digest_117 : decode cX8_digest 117 = .ok (.invokevirtual 163, 3) := by decide +kernel
theorem dX8_digest_120 : decode cX8_digest 120 = .ok (.invokevirtual 209, 3) := by decide +kernel
theorem dX8_digest_123 : decode cX8_digest 123 = .ok (.aload_n 0, 1) := by decide +kernel
theorem dX8_digest_124 : decode cX8_digest 124 = .ok (.aload_n 0, 1) := by decide +kernel
theorem dX8_digest_125 : decode cX8_digest 125 = .ok (.iload_n 1, 1) := by decide +kernel
theorem dX8_digest_126 : decode cX8_digest 126 = .ok (.invokevirtual 169, 3) := by decide +kernel
theorem dX8_digest_129 : decode cX8_digest 129 = .ok (.invokevirtual 209, 3) := by decide +kernel
theorem dX8_digest_132 : decode cX8_digest 132 = .ok (.iinc 1 1, 3) := by decide +kernel
theorem dX8_digest_135 : decode cX8_digest 135 = .ok (.goto (-64), 3) := by decide +kernel
theorem dX8_digest_138 : decode cX8_digest 138 = .ok (.bipush 6, 2) := by decide +kernel
theorem dX8_digest_140 : decode cX8_digest 140 = .ok (.istore_n 1, 1) := by decide +kernel
theorem dX8_digest_141 : decode cX8_digest 141 = .ok (.iload_n 1, 1) := by decide +kernel
theorem dX8_digest_142 : decode cX8_digest 142 = .ok (.bipush 6, 2) := by decide +kernel
theorem dX8_digest_144 : decode cX8_digest 144 = .ok (.aload_n 0, 1) := by decide +kernel
theorem dX8_digest_145 : decode cX8_digest 145 = .ok (.getfield 7, 3) := by decide +kernel
theorem dX8_digest_148 : decode cX8_digest 148 = .ok (.iconst 5, 1) := by decide +kernel
theorem dX8_digest_149 : decode cX8_digest 149 = .ok (.iaload, 1) := by decide +kernel
theorem dX8_digest_150 : decode cX8_digest 150 = .ok (.imul, 1) := by decide +kernel
theorem dX8_digest_151 : decode cX8_digest 151 = .ok (.if_icmp .ge 25, 3) := by decide +kernel
theorem dX8_digest_154 : decode cX8_digest 154 = .ok (.aload_n 0, 1) := by decide +kernel
theorem dX8_digest_155 : decode cX8_digest 155 = .ok (.aload_n 0, 1) := by decide +kernel
theorem dX8_digest_156 : decode cX8_digest 156 = .ok (.iload_n 1, 1) := by decide +kernel
theorem dX8_digest_157 : decode cX8_digest 157 = .ok (.bipush 6, 2) := by decide +kernel
theorem dX8_digest_159 : decode cX8_digest 159 = .ok (.idiv, 1) := by decide +kernel
theorem dX8_digest_160 : decode cX8_digest 160 = .ok (.iload_n 1, 1) := by decide +kernel
theorem dX8_digest_161 : decode cX8_digest 161 = .ok (.bipush 6, 2) := by decide +kernel
theorem dX8_digest_163 : decode cX8_digest 163 = .ok (.irem, 1) := by decide +kernel
theorem dX8_digest_164 : decode cX8_digest 164 = .ok (.invokevirtual 64, 3) := by decide +kernel
theorem dX8_digest_167 : decode cX8_digest 167 = .ok (.invokevirtual 209, 3) := by decide +kernel
theorem dX8_digest_170 : decode cX8_digest 170 = .ok (.iinc 1 1, 3) := by decide +kernel
theorem dX8_digest_173 : decode cX8_digest 173 = .ok (.goto (-32), 3) := by decide +kernel
theorem dX8_digest_176 : decode cX8_digest 176 = .ok (.iconst 0, 1) := by decide +kernel
theorem dX8_digest_177 : decode cX8_digest 177 = .ok (.istore_n 1, 1) := by decide +kernel
theorem dX8_digest_178 : decode cX8_digest 178 = .ok (.iload_n 1, 1) := by decide +kernel
theorem dX8_digest_179 : decode cX8_digest 179 = .ok (.iconst 5, 1) := by decide +kernel
theorem dX8_digest_180 : decode cX8_digest 180 = .ok (.aload_n 0, 1) := by decide +kernel
theorem dX8_digest_181 : decode cX8_digest 181 = .ok (.getfield 7, 3) := by decide +kernel
theorem dX8_digest_184 : decode cX8_digest 184 = .ok (.bipush 6, 2) := by decide +kernel
theorem dX8_digest_186 : decode cX8_digest 186 = .ok (.iaload, 1) := by decide +kernel
theorem dX8_digest_187 : decode cX8_digest 187 = .ok (.imul, 1) := by decide +kernel
theorem dX8_digest_188 : decode cX8_digest 188 = .ok (.if_icmp .ge 23, 3) := by decide +kernel
theorem dX8_digest_191 : decode cX8_digest 191 = .ok (.aload_n 0, 1) := by decide +kernel
theorem dX8_digest_192 : decode cX8_digest 192 = .ok (.aload_n 0, 1) := by decide +kernel
theorem dX8_digest_193 : decode cX8_digest 193 = .ok (.iload_n 1, 1) := by decide +kernel
theorem dX8_digest_194 : decode cX8_digest 194 = .ok (.iconst 5, 1) := by decide +kernel
theorem dX8_digest_195 : decode cX8_digest 195 = .ok (.idiv, 1) := by decide +kernel
theorem dX8_digest_196 : decode cX8_digest 196 = .ok (.iload_n 1, 1) := by decide +kernel
theorem dX8_digest_197 : decode cX8_digest 197 = .ok (.iconst 5, 1) := by decide +kernel
theorem dX8_digest_198 : decode cX8_digest 198 = .ok (.irem, 1) := by decide +kernel
theorem dX8_digest_199 : decode cX8_digest 199 = .ok (.invokevirtual 151, 3) := by decide +kernel
theorem dX8_digest_202 : decode cX8_digest 202 = .ok (.invokevirtual 209, 3) := by decide +kernel
theorem dX8_digest_205 : decode cX8_digest 205 = .ok (.iinc 1 1, 3) := by decide +kernel
theorem dX8_digest_208 : decode cX8_digest 208 = .ok (.goto (-30), 3) := by decide +kernel
theorem dX8_digest_211 : decode cX8_digest 211 = .ok (.aload_n 0, 1) := by decide +kernel
theorem dX8_digest_212 : decode cX8_digest 212 = .ok (.aload_n 0, 1) := by decide +kernel
theorem dX8_digest_213 : decode cX8_digest 213 = .ok (.invokevirtual 172, 3) := by decide +kernel
theorem dX8_digest_216 : decode cX8_digest 216 = .ok (.invokevirtual 209, 3) := by decide +kernel
theorem dX8_digest_219 : decode cX8_digest 219 = .ok (.aload_n 0, 1) := by decide +kernel
theorem dX8_digest_220 : decode cX8_digest 220 = .ok (.aload_n 0, 1) := by decide +kernel
theorem dX8_digest_221 : decode cX8_digest 221 = .ok (.getfield 41, 3) := by decide +kernel
theorem dX8_digest_224 : decode cX8_digest 224 = .ok (.invokevirtual 209, 3) := by decide +kernel
theorem dX8_digest_227 : decode cX8_digest 227 = .ok (.aload_n 0, 1) := by decide +kernel
theorem dX8_digest_228 : decode cX8_digest 228 = .ok (.getfield 203, 3) := by decide +kernel
theorem dX8_digest_231 : decode cX8_digest 231 = .ok (.lreturn, 1) := by decide +kernel
theorem dJ6_bitCount_0f7a4_0 : decode cJ6_bitCount_0f7a4 0 = .ok (.iload_n 0, 1) := by decide +kernel
theorem dJ6_bitCount_0f7a4_1 : decode cJ6_bitCount_0f7a4 1 = .ok (.iload_n 0, 1) := by decide +kernel
theorem dJ6_bitCount_0f7a4_2 : decode cJ6_bitCount_0f7a4 2 = .ok (.iconst 1, 1) := by decide +kernel
theorem dJ6_bitCount_0f7a4_3 : decode cJ6_bitCount_0f7a4 3 = .ok (.iushr, 1) := by decide +kernel
theorem dJ6_bitCount_0f7a4_4 : decode cJ6_bitCount_0f7a4 4 = .ok (.ldc_w 265, 3) := by decide +kernel
theorem dJ6_bitCount_0f7a4_7 : decode cJ6_bitCount_0f7a4 7 = .ok (.iand, 1) := by decide +kernel
theorem dJ6_bitCount_0f7a4_8 : decode cJ6_bitCount_0f7a4 8 = .ok (.isub, 1) := by decide +kernel
theorem dJ6_bitCount_0f7a4_9 : decode cJ6_bitCount_0f7a4 9 = .ok (.istore_n 0, 1) := by decide +kernel
theorem dJ6_bitCount_0f7a4_10 : decode cJ6_bitCount_0f7a4 10 = .ok (.iload_n 0, 1) := by decide +kernel
theorem dJ6_bitCount_0f7a4_11 : decode cJ6_bitCount_0f7a4 11 = .ok (.ldc_w 266, 3) := by decide +kernel
theorem dJ6_bitCount_0f7a4_14 : decode cJ6_bitCount_0f7a4 14 = .ok (.iand, 1) := by decide +kernel
theorem dJ6_bitCount_0f7a4_15 : decode cJ6_bitCount_0f7a4 15 = .ok (.iload_n 0, 1) := by decide +kernel
theorem dJ6_bitCount_0f7a4_16 : decode cJ6_bitCount_0f7a4 16 = .ok (.iconst 2, 1) := by decide +kernel
theorem dJ6_bitCount_0f7a4_17 : decode cJ6_bitCount_0f7a4 17 = .ok (.iushr, 1) := by decide +kernel
theorem dJ6_bitCount_0f7a4_18 : decode cJ6_bitCount_0f7a4 18 = .ok (.ldc_w 266, 3) := by decide +kernel
theorem dJ6_bitCount_0f7a4_21 : decode cJ6_bitCount_0f7a4 21 = .ok (.iand, 1) := by decide +kernel
theorem dJ6_bitCount_0f7a4_22 : decode cJ6_bitCount_0f7a4 22 = .ok (.iadd, 1) := by decide +kernel
theorem dJ6_bitCount_0f7a4_23 : decode cJ6_bitCount_0f7a4 23 = .ok (.istore_n 0, 1) := by decide +kernel
theorem dJ6_bitCount_0f7a4_24 : decode cJ6_bitCount_0f7a4 24 = .ok (.iload_n 0, 1) := by decide +kernel
theorem dJ6_bitCount_0f7a4_25 : decode cJ6_bitCount_0f7a4 25 = .ok (.iload_n 0, 1) := by decide +kernel
theorem dJ6_bitCount_0f7a4_26 : decode cJ6_bitCount_0f7a4 26 = .ok (.iconst 4, 1) := by decide +kernel
theorem dJ6_bitCount_0f7a4_27 : decode cJ6_bitCount_0f7a4 27 = .ok (.iushr, 1) := by decide +kernel
theorem dJ6_bitCount_0f7a4_28 : decode cJ6_bitCount_0f7a4 28 = .ok (.iadd, 1) := by decide +kernel
theorem dJ6_bitCount_0f7a4_29 : decode cJ6_bitCount_0f7a4 29 = .ok (.ldc_w 267, 3) := by decide +kernel
theorem dJ6_bitCount_0f7a4_32 : decode cJ6_bitCount_0f7a4 32 = .ok (.iand, 1) := by decide +kernel
theorem dJ6_bitCount_0f7a4_33 : decode cJ6_bitCount_0f7a4 33 = .ok (.istore_n 0, 1) := by decide +kernel
theorem dJ6_bitCount_0f7a4_34 : decode cJ6_bitCount_0f7a4 34 = .ok (.iload_n 0, 1) := by decide +kernel
theorem dJ6_bitCount_0f7a4_35 : decode cJ6_bitCount_0f7a4 35 = .ok (.iload_n 0, 1) := by decide +kernel
theorem dJ6_bitCount_0f7a4_36 : decode cJ6_bitCount_0f7a4 36 = .ok (.bipush 8, 2) := by decide +kernel
theorem dJ6_bitCount_0f7a4_38 : decode cJ6_bitCount_0f7a4 38 = .ok (.iushr, 1) := by decide +kernel
theorem dJ6_bitCount_0f7a4_39 : decode cJ6_bitCount_0f7a4 39 = .ok (.iadd, 1) := by decide +kernel
theorem dJ6_bitCount_0f7a4_40 : decode cJ6_bitCount_0f7a4 40 = .ok (.istore_n 0, 1) := by decide +kernel
theorem dJ6_bitCount_0f7a4_41 : decode cJ6_bitCount_0f7a4 41 = .ok (.iload_n 0, 1) := by decide +kernel
theorem dJ6_bitCount_0f7a4_42 : decode cJ6_bitCount_0f7a4 42 = .ok (.iload_n 0, 1) := by decide +kernel
theorem dJ6_bitCount_0f7a4_43 : decode cJ6_bitCount_0f7a4 43 = .ok (.bipush 16, 2) := by decide +kernel
theorem dJ6_bitCount_0f7a4_45 : decode cJ6_bitCount_0f7a4 45 = .ok (.iushr, 1) := by decide +kernel
theorem dJ6_bitCount_0f7a4_46 : decode cJ6_bitCount_0f7a4 46 = .ok (.iadd, 1) := by decide +kernel
theorem dJ6_bitCount_0f7a4_47 : decode cJ6_bitCount_0f7a4 47 = .ok (.istore_n 0, 1) := by decide +kernel
theorem dJ6_bitCount_0f7a4_48 : decode cJ6_bitCount_0f7a4 48 = .ok (.iload_n 0, 1) := by decide +kernel
theorem dJ6_bitCount_0f7a4_49 : decode cJ6_bitCount_0f7a4 49 = .ok (.bipush 63, 2) := by decide +kernel
theorem dJ6_bitCount_0f7a4_51 : decode cJ6_bitCount_0f7a4 51 = .ok (.iand, 1) := by decide +kernel
theorem dJ6_bitCount_0f7a4_52 : decode cJ6_bitCount_0f7a4 52 = .ok (.ireturn, 1) := by decide +kernel
theorem dL_addNode_0 : decode cL_addNode 0 = .ok (.aload 6, 2) := by decide +kernel
theorem dL_addNode_2 : decode cL_addNode 2 = .ok (.iconst 0, 1) := by decide +kernel
theorem dL_addNode_3 : decode cL_addNode 3 = .ok (.aload_n 0, 1) := by decide +kernel
theorem dL_addNode_4 : decode cL_addNode 4 = .ok (.iload_n 1, 1) := by decide +kernel
theorem dL_addNode_5 : decode cL_addNode 5 = .ok (.iload_n 2, 1) := by decide +kernel
theorem dL_addNode_6 : decode cL_addNode 6 = .ok (.iload_n 3, 1) := by decide +kernel
theorem dL_addNode_7 : decode cL_addNode 7 = .ok (.iload 4, 2) := by decide +kernel
theorem dL_addNode_9 : decode cL_addNode 9 = .ok (.iload 5, 2) := by decide +kernel
theorem dL_addNode_11 : decode cL_addNode 11 = .ok (.invokevirtual 7, 3) := by decide +kernel
theorem dL_addNode_14 : decode cL_addNode 14 = .ok (.i2l, 1) := by decide +kernel
theorem dL_addNode_15 : decode cL_addNode 15 = .ok (.lastore, 1) := by decide +kernel
theorem dL_addNode_16 : decode cL_addNode 16 = .ok (.goto 15, 3) := by decide +kernel
theorem dL_addNode_19 : decode cL_addNode 19 = .ok (.astore 7, 2) := by decide +kernel
theorem dL_addNode_21 : decode cL_addNode 21 = .ok (.iconst 1, 1) := by decide +kernel
theorem dL_addNode_22 : decode cL_addNode 22 = .ok (.ireturn, 1) := by decide +kernel
theorem dL_addNode_23 : decode cL_addNode 23 = .ok (.astore 7, 2) := by decide +kernel
theorem dL_addNode_25 : decode cL_addNode 25 = .ok (.iconst 2, 1) := by decide +kernel
theorem dL_addNode_26 : decode cL_addNode 26 = .ok (.ireturn, 1) := by decide +kernel
theorem dL_addNode_27 : decode cL_addNode 27 = .ok (.astore 7, 2) := by decide +kernel
theorem dL_addNode_29 : decode cL_addNode 29 = .ok (.iconst 3, 1) := by decide +kernel
theorem dL_addNode_30 : decode cL_addNode 30 = .ok (.ireturn, 1) := by decide +kernel
theorem dL_addNode_31 : decode cL_addNode 31 = .ok (.iconst 0, 1) := by decide +kernel
theorem dL_addNode_32 : decode cL_addNode 32 = .ok (.ireturn, 1) := by decide +kernel
theorem dL_setDraw_0 : decode cL_setDraw 0 = .ok (.aload 4, 2) := by decide +kernel
theorem dL_setDraw_2 : decode cL_setDraw 2 = .ok (.iconst 0, 1) := by decide +kernel
theorem dL_setDraw_3 : decode cL_setDraw 3 = .ok (.aload_n 0, 1) := by decide +kernel
theorem dL_setDraw_4 : decode cL_setDraw 4 = .ok (.iload_n 1, 1) := by decide +kernel
theorem dL_setDraw_5 : decode cL_setDraw 5 = .ok (.iload_n 2, 1) := by decide +kernel
theorem dL_setDraw_6 : decode cL_setDraw 6 = .ok (.iload_n 3, 1) := by decide +kernel
theorem dL_setDraw_7 : decode cL_setDraw 7 = .ok (.invokevirtual 19, 3) := by decide +kernel
theorem dL_setDraw_10 : decode cL_setDraw 10 = .ok (.i2l, 1) := by decide +kernel
theorem dL_setDraw_11 : decode cL_setDraw 11 = .ok (.lastore, 1) := by decide +kernel
theorem dL_setDraw_12 : decode cL_setDraw 12 = .ok (.goto 11, 3) := by decide +kernel
theorem dL_setDraw_15 : decode cL_setDraw 15 = .ok (.astore 5, 2) := by decide +kernel
theorem dL_setDraw_17 : decode cL_setDraw 17 = .ok (.iconst 1, 1) := by decide +kernel
theorem dL_setDraw_18 : decode cL_setDraw 18 = .ok (.ireturn, 1) := by decide +kernel
theorem dL_setDraw_19 : decode cL_setDraw 19 = .ok (.astore 5, 2) := by decide +kernel
theorem dL_setDraw_21 : decode cL_setDraw 21 = .ok (.iconst 2, 1) := by decide +kernel
theorem dL_setDraw_22 : decode cL_setDraw 22 = .ok (.ireturn, 1) := by decide +kernel
theorem dL_setDraw_23 : decode cL_setDraw 23 = .ok (.iconst 0, 1) := by decide +kernel
theorem dL_setDraw_24 : decode cL_setDraw 24 = .ok (.ireturn, 1) := by decide +kernel
theorem dL_setLeak_0 : decode cL_setLeak 0 = .ok (.aload_n 3, 1) := by decide +kernel
theorem dL_setLeak_1 : decode cL_setLeak 1 = .ok (.iconst 0, 1) := by decide +kernel
theorem dL_setLeak_2 : decode cL_setLeak 2 = .ok (.aload_n 0, 1) := by decide +kernel
theorem dL_setLeak_3 : decode cL_setLeak 3 = .ok (.iload_n 1, 1) := by decide +kernel
theorem dL_setLeak_4 : decode cL_setLeak 4 = .ok (.iload_n 2, 1) := by decide +kernel
theorem dL_setLeak_5 : decode cL_setLeak 5 = .ok (.invokevirtual 23, 3) := by decide +kernel
theorem dL_setLeak_8 : decode cL_setLeak 8 = .ok (.i2l, 1) := by decide +kernel
theorem dL_setLeak_9 : decode cL_setLeak 9 = .ok (.lastore, 1) := by decide +kernel
theorem dL_setLeak_10 : decode cL_setLeak 10 = .ok (.goto 11, 3) := by decide +kernel
theorem dL_setLeak_13 : decode cL_setLeak 13 = .ok (.astore 4, 2) := by decide +kernel
theorem dL_setLeak_15 : decode cL_setLeak 15 = .ok (.iconst 1, 1) := by decide +kernel
theorem dL_setLeak_16 : decode cL_setLeak 16 = .ok (.ireturn, 1) := by decide +kernel
theorem dL_setLeak_17 : decode cL_setLeak 17 = .ok (.astore 4, 2) := by decide +kernel
theorem dL_setLeak_19 : decode cL_setLeak 19 = .ok (.iconst 2, 1) := by decide +kernel
theorem dL_setLeak_20 : decode cL_setLeak 20 = .ok (.ireturn, 1) := by decide +kernel
theorem dL_setLeak_21 : decode cL_setLeak 21 = .ok (.iconst 0, 1) := by decide +kernel
theorem dL_setLeak_22 : decode cL_setLeak 22 = .ok (.ireturn, 1) := by decide +kernel
theorem dL_setTemperatures_0 : decode cL_setTemperatures 0 = .ok (.aload_n 3, 1) := by decide +kernel
theorem dL_setTemperatures_1 : decode cL_setTemperatures 1 = .ok (.iconst 0, 1) := by decide +kernel
theorem dL_setTemperatures_2 : decode cL_setTemperatures 2 = .ok (.aload_n 0, 1) := by decide +kernel
theorem dL_setTemperatures_3 : decode cL_setTemperatures 3 = .ok (.iload_n 1, 1) := by decide +kernel
theorem dL_setTemperatures_4 : decode cL_setTemperatures 4 = .ok (.iload_n 2, 1) := by decide +kernel
theorem dL_setTemperatures_5 : decode cL_setTemperatures 5 = .ok (.invokevirtual 27, 3) := by decide +kernel
theorem dL_setTemperatures_8 : decode cL_setTemperatures 8 = .ok (.i2l, 1) := by decide +kernel
theorem dL_setTemperatures_9 : decode cL_setTemperatures 9 = .ok (.lastore, 1) := by decide +kernel
theorem dL_setTemperatures_10 : decode cL_setTemperatures 10 = .ok (.goto 7, 3) := by decide +kernel
theorem dL_setTemperatures_13 : decode cL_setTemperatures 13 = .ok (.astore 4, 2) := by decide +kernel
theorem dL_setTemperatures_15 : decode cL_setTemperatures 15 = .ok (.iconst 1, 1) := by decide +kernel
theorem dL_setTemperatures_16 : decode cL_setTemperatures 16 = .ok (.ireturn, 1) := by decide +kernel
theorem dL_setTemperatures_17 : decode cL_setTemperatures 17 = .ok (.iconst 0, 1) := by decide +kernel
theorem dL_setTemperatures_18 : decode cL_setTemperatures 18 = .ok (.ireturn, 1) := by decide +kernel
theorem dL_node_0 : decode cL_node 0 = .ok (.aload_n 3, 1) := by decide +kernel
theorem dL_node_1 : decode cL_node 1 = .ok (.iconst 0, 1) := by decide +kernel
theorem dL_node_2 : decode cL_node 2 = .ok (.aload_n 0, 1) := by decide +kernel
theorem dL_node_3 : decode cL_node 3 = .ok (.iload_n 1, 1) := by decide +kernel
theorem dL_node_4 : decode cL_node 4 = .ok (.iload_n 2, 1) := by decide +kernel
theorem dL_node_5 : decode cL_node 5 = .ok (.invokevirtual 30, 3) := by decide +kernel
theorem dL_node_8 : decode cL_node 8 = .ok (.i2l, 1) := by decide +kernel
theorem dL_node_9 : decode cL_node 9 = .ok (.lastore, 1) := by decide +kernel
theorem dL_node_10 : decode cL_node 10 = .ok (.goto 11, 3) := by decide +kernel
theorem dL_node_13 : decode cL_node 13 = .ok (.astore 4, 2) := by decide +kernel
theorem dL_node_15 : decode cL_node 15 = .ok (.iconst 1, 1) := by decide +kernel
theorem dL_node_16 : decode cL_node 16 = .ok (.ireturn, 1) := by decide +kernel
theorem dL_node_17 : decode cL_node 17 = .ok (.astore 4, 2) := by decide +kernel
theorem dL_node_19 : decode cL_node 19 = .ok (.iconst 2, 1) := by decide +kernel
theorem dL_node_20 : decode cL_node 20 = .ok (.ireturn, 1) := by decide +kernel
theorem dL_node_21 : decode cL_node 21 = .ok (.iconst 0, 1) := by decide +kernel
theorem dL_node_22 : decode cL_node 22 = .ok (.ireturn, 1) := by decide +kernel
theorem dL_heat_0 : decode cL_heat 0 = .ok (.aload_n 3, 1) := by decide +kernel
theorem dL_heat_1 : decode cL_heat 1 = .ok (.iconst 0, 1) := by decide +kernel
theorem dL_heat_2 : decode cL_heat 2 = .ok (.aload_n 0, 1) := by decide +kernel
theorem dL_heat_3 : decode cL_heat 3 = .ok (.iload_n 1, 1) := by decide +kernel
theorem dL_heat_4 : decode cL_heat 4 = .ok (.iload_n 2, 1) := by decide +kernel
theorem dL_heat_5 : decode cL_heat 5 = .ok (.invokevirtual 33, 3) := by decide +kernel
theorem dL_heat_8 : decode cL_heat 8 = .ok (.i2l, 1) := by decide +kernel
theorem dL_heat_9 : decode cL_heat 9 = .ok (.lastore, 1) := by decide +kernel
theorem dL_heat_10 : decode cL_heat 10 = .ok (.goto 11, 3) := by decide +kernel
theorem dL_heat_13 : decode cL_heat 13 = .ok (.astore 4, 2) := by decide +kernel
theorem dL_heat_15 : decode cL_heat 15 = .ok (.iconst 1, 1) := by decide +kernel
theorem dL_heat_16 : decode cL_heat 16 = .ok (.ireturn, 1) := by decide +kernel
theorem dL_heat_17 : decode cL_heat 17 = .ok (.astore 4, 2) := by decide +kernel
theorem dL_heat_19 : decode cL_heat 19 = .ok (.iconst 2, 1) := by decide +kernel
theorem dL_heat_20 : decode cL_heat 20 = .ok (.ireturn, 1) := by decide +kernel
theorem dL_heat_21 : decode cL_heat 21 = .ok (.iconst 0, 1) := by decide +kernel
theorem dL_heat_22 : decode cL_heat 22 = .ok (.ireturn, 1) := by decide +kernel
theorem dL_value_0 : decode cL_value 0 = .ok (.aload_n 2, 1) := by decide +kernel
theorem dL_value_1 : decode cL_value 1 = .ok (.iconst 0, 1) := by decide +kernel
theorem dL_value_2 : decode cL_value 2 = .ok (.aload_n 0, 1) := by decide +kernel
theorem dL_value_3 : decode cL_value 3 = .ok (.iload_n 1, 1) := by decide +kernel
theorem dL_value_4 : decode cL_value 4 = .ok (.invokevirtual 36, 3) := by decide +kernel
theorem dL_value_7 : decode cL_value 7 = .ok (.i2l, 1) := by decide +kernel
theorem dL_value_8 : decode cL_value 8 = .ok (.lastore, 1) := by decide +kernel
theorem dL_value_9 : decode cL_value 9 = .ok (.goto 6, 3) := by decide +kernel
theorem dL_value_12 : decode cL_value 12 = .ok (.astore_n 3, 1) := by decide +kernel
theorem dL_value_13 : decode cL_value 13 = .ok (.iconst 1, 1) := by decide +kernel
theorem dL_value_14 : decode cL_value 14 = .ok (.ireturn, 1) := by decide +kernel
theorem dL_value_15 : decode cL_value 15 = .ok (.iconst 0, 1) := by decide +kernel
theorem dL_value_16 : decode cL_value 16 = .ok (.ireturn, 1) := by decide +kernel
theorem dL_sum_0 : decode cL_sum 0 = .ok (.aload_n 2, 1) := by decide +kernel
theorem dL_sum_1 : decode cL_sum 1 = .ok (.iconst 0, 1) := by decide +kernel
theorem dL_sum_2 : decode cL_sum 2 = .ok (.aload_n 0, 1) := by decide +kernel
theorem dL_sum_3 : decode cL_sum 3 = .ok (.iload_n 1, 1) := by decide +kernel
theorem dL_sum_4 : decode cL_sum 4 = .ok (.invokevirtual 40, 3) := by decide +kernel
theorem dL_sum_7 : decode cL_sum 7 = .ok (.i2l, 1) := by decide +kernel
theorem dL_sum_8 : decode cL_sum 8 = .ok (.lastore, 1) := by decide +kernel
theorem dL_sum_9 : decode cL_sum 9 = .ok (.goto 6, 3) := by decide +kernel
theorem dL_sum_12 : decode cL_sum 12 = .ok (.astore_n 3, 1) := by decide +kernel
theorem dL_sum_13 : decode cL_sum 13 = .ok (.iconst 1, 1) := by decide +kernel
theorem dL_sum_14 : decode cL_sum 14 = .ok (.ireturn, 1) := by decide +kernel
theorem dL_sum_15 : decode cL_sum 15 = .ok (.iconst 0, 1) := by decide +kernel
theorem dL_sum_16 : decode cL_sum 16 = .ok (.ireturn, 1) := by decide +kernel
theorem dL_addBoiler_0 : decode cL_addBoiler 0 = .ok (.aload 4, 2) := by decide +kernel
theorem dL_addBoiler_2 : decode cL_addBoiler 2 = .ok (.iconst 0, 1) := by decide +kernel
theorem dL_addBoiler_3 : decode cL_addBoiler 3 = .ok (.aload_n 0, 1) := by decide +kernel
theorem dL_addBoiler_4 : decode cL_addBoiler 4 = .ok (.iload_n 1, 1) := by decide +kernel
theorem dL_addBoiler_5 : decode cL_addBoiler 5 = .ok (.iload_n 2, 1) := by decide +kernel
theorem dL_addBoiler_6 : decode cL_addBoiler 6 = .ok (.iload_n 3, 1) := by decide +kernel
theorem dL_addBoiler_7 : decode cL_addBoiler 7 = .ok (.invokevirtual 43, 3) := by decide +kernel
theorem dL_addBoiler_10 : decode cL_addBoiler 10 = .ok (.i2l, 1) := by decide +kernel
theorem dL_addBoiler_11 : decode cL_addBoiler 11 = .ok (.lastore, 1) := by decide +kernel
theorem dL_addBoiler_12 : decode cL_addBoiler 12 = .ok (.goto 11, 3) := by decide +kernel
theorem dL_addBoiler_15 : decode cL_addBoiler 15 = .ok (.astore 5, 2) := by decide +kernel
theorem dL_addBoiler_17 : decode cL_addBoiler 17 = .ok (.iconst 1, 1) := by decide +kernel
theorem dL_addBoiler_18 : decode cL_addBoiler 18 = .ok (.ireturn, 1) := by decide +kernel
theorem dL_addBoiler_19 : decode cL_addBoiler 19 = .ok (.astore 5, 2) := by decide +kernel
theorem dL_addBoiler_21 : decode cL_addBoiler 21 = .ok (.iconst 2, 1) := by decide +kernel
theorem dL_addBoiler_22 : decode cL_addBoiler 22 = .ok (.ireturn, 1) := by decide +kernel
theorem dL_addBoiler_23 : decode cL_addBoiler 23 = .ok (.iconst 0, 1) := by decide +kernel
theorem dL_addBoiler_24 : decode cL_addBoiler 24 = .ok (.ireturn, 1) := by decide +kernel
theorem dL_setCost_0 : decode cL_setCost 0 = .ok (.aload_n 3, 1) := by decide +kernel
theorem dL_setCost_1 : decode cL_setCost 1 = .ok (.iconst 0, 1) := by decide +kernel
theorem dL_setCost_2 : decode cL_setCost 2 = .ok (.aload_n 0, 1) := by decide +kernel
theorem dL_setCost_3 : decode cL_setCost 3 = .ok (.iload_n 1, 1) := by decide +kernel
theorem dL_setCost_4 : decode cL_setCost 4 = .ok (.iload_n 2, 1) := by decide +kernel
theorem dL_setCost_5 : decode cL_setCost 5 = .ok (.invokevirtual 46, 3) := by decide +kernel
theorem dL_setCost_8 : decode cL_setCost 8 = .ok (.i2l, 1) := by decide +kernel
theorem dL_setCost_9 : decode cL_setCost 9 = .ok (.lastore, 1) := by decide +kernel
theorem dL_setCost_10 : decode cL_setCost 10 = .ok (.goto 11, 3) := by decide +kernel
theorem dL_setCost_13 : decode cL_setCost 13 = .ok (.astore 4, 2) := by decide +kernel
theorem dL_setCost_15 : decode cL_setCost 15 = .ok (.iconst 1, 1) := by decide +kernel
theorem dL_setCost_16 : decode cL_setCost 16 = .ok (.ireturn, 1) := by decide +kernel
theorem dL_setCost_17 : decode cL_setCost 17 = .ok (.astore 4, 2) := by decide +kernel
theorem dL_setCost_19 : decode cL_setCost 19 = .ok (.iconst 2, 1) := by decide +kernel
theorem dL_setCost_20 : decode cL_setCost 20 = .ok (.ireturn, 1) := by decide +kernel
theorem dL_setCost_21 : decode cL_setCost 21 = .ok (.iconst 0, 1) := by decide +kernel
theorem dL_setCost_22 : decode cL_setCost 22 = .ok (.ireturn, 1) := by decide +kernel
theorem dL_boiler_0 : decode cL_boiler 0 = .ok (.aload_n 3, 1) := by decide +kernel
theorem dL_boiler_1 : decode cL_boiler 1 = .ok (.iconst 0, 1) := by decide +kernel
theorem dL_boiler_2 : decode cL_boiler 2 = .ok (.aload_n 0, 1) := by decide +kernel
theorem dL_boiler_3 : decode cL_boiler 3 = .ok (.iload_n 1, 1) := by decide +kernel
theorem dL_boiler_4 : decode cL_boiler 4 = .ok (.iload_n 2, 1) := by decide +kernel
theorem dL_boiler_5 : decode cL_boiler 5 = .ok (.invokevirtual 49, 3) := by decide +kernel
theorem dL_boiler_8 : decode cL_boiler 8 = .ok (.i2l, 1) := by decide +kernel
theorem dL_boiler_9 : decode cL_boiler 9 = .ok (.lastore, 1) := by decide +kernel
theorem dL_boiler_10 : decode cL_boiler 10 = .ok (.goto 11, 3) := by decide +kernel
theorem dL_boiler_13 : decode cL_boiler 13 = .ok (.astore 4, 2) := by decide +kernel
theorem dL_boiler_15 : decode cL_boiler 15 = .ok (.iconst 1, 1) := by decide +kernel
theorem dL_boiler_16 : decode cL_boiler 16 = .ok (.ireturn, 1) := by decide +kernel
theorem dL_boiler_17 : decode cL_boiler 17 = .ok (.astore 4, 2) := by decide +kernel
theorem dL_boiler_19 : decode cL_boiler 19 = .ok (.iconst 2, 1) := by decide +kernel
theorem dL_boiler_20 : decode cL_boiler 20 = .ok (.ireturn, 1) := by decide +kernel
theorem dL_boiler_21 : decode cL_boiler 21 = .ok (.iconst 0, 1) := by decide +kernel
theorem dL_boiler_22 : decode cL_boiler 22 = .ok (.ireturn, 1) := by decide +kernel
theorem dL_setTariff_0 : decode cL_setTariff 0 = .ok (.aload 4, 2) := by decide +kernel
theorem dL_setTariff_2 : decode cL_setTariff 2 = .ok (.iconst 0, 1) := by decide +kernel
theorem dL_setTariff_3 : decode cL_setTariff 3 = .ok (.aload_n 0, 1) := by decide +kernel
theorem dL_setTariff_4 : decode cL_setTariff 4 = .ok (.iload_n 1, 1) := by decide +kernel
theorem dL_setTariff_5 : decode cL_setTariff 5 = .ok (.iload_n 2, 1) := by decide +kernel
theorem dL_setTariff_6 : decode cL_setTariff 6 = .ok (.iload_n 3, 1) := by decide +kernel
theorem dL_setTariff_7 : decode cL_setTariff 7 = .ok (.invokevirtual 52, 3) := by decide +kernel
theorem dL_setTariff_10 : decode cL_setTariff 10 = .ok (.i2l, 1) := by decide +kernel
theorem dL_setTariff_11 : decode cL_setTariff 11 = .ok (.lastore, 1) := by decide +kernel
theorem dL_setTariff_12 : decode cL_setTariff 12 = .ok (.goto 7, 3) := by decide +kernel
theorem dL_setTariff_15 : decode cL_setTariff 15 = .ok (.astore 5, 2) := by decide +kernel
theorem dL_setTariff_17 : decode cL_setTariff 17 = .ok (.iconst 1, 1) := by decide +kernel
theorem dL_setTariff_18 : decode cL_setTariff 18 = .ok (.ireturn, 1) := by decide +kernel
theorem dL_setTariff_19 : decode cL_setTariff 19 = .ok (.iconst 0, 1) := by decide +kernel
theorem dL_setTariff_20 : decode cL_setTariff 20 = .ok (.ireturn, 1) := by decide +kernel
theorem dL_pass_0 : decode cL_pass 0 = .ok (.aload_n 2, 1) := by decide +kernel
theorem dL_pass_1 : decode cL_pass 1 = .ok (.iconst 0, 1) := by decide +kernel
theorem dL_pass_2 : decode cL_pass 2 = .ok (.aload_n 0, 1) := by decide +kernel
theorem dL_pass_3 : decode cL_pass 3 = .ok (.iload_n 1, 1) := by decide +kernel
theorem dL_pass_4 : decode cL_pass 4 = .ok (.invokevirtual 55, 3) := by decide +kernel
theorem dL_pass_7 : decode cL_pass 7 = .ok (.i2l, 1) := by decide +kernel
theorem dL_pass_8 : decode cL_pass 8 = .ok (.lastore, 1) := by decide +kernel
theorem dL_pass_9 : decode cL_pass 9 = .ok (.goto 9, 3) := by decide +kernel
theorem dL_pass_12 : decode cL_pass 12 = .ok (.astore_n 3, 1) := by decide +kernel
theorem dL_pass_13 : decode cL_pass 13 = .ok (.iconst 1, 1) := by decide +kernel
theorem dL_pass_14 : decode cL_pass 14 = .ok (.ireturn, 1) := by decide +kernel
theorem dL_pass_15 : decode cL_pass 15 = .ok (.astore_n 3, 1) := by decide +kernel
theorem dL_pass_16 : decode cL_pass 16 = .ok (.iconst 2, 1) := by decide +kernel
theorem dL_pass_17 : decode cL_pass 17 = .ok (.ireturn, 1) := by decide +kernel
theorem dL_pass_18 : decode cL_pass 18 = .ok (.iconst 0, 1) := by decide +kernel
theorem dL_pass_19 : decode cL_pass 19 = .ok (.ireturn, 1) := by decide +kernel
theorem dL_setMeter_0 : decode cL_setMeter 0 = .ok (.aload_n 3, 1) := by decide +kernel
theorem dL_setMeter_1 : decode cL_setMeter 1 = .ok (.iconst 0, 1) := by decide +kernel
theorem dL_setMeter_2 : decode cL_setMeter 2 = .ok (.aload_n 0, 1) := by decide +kernel
theorem dL_setMeter_3 : decode cL_setMeter 3 = .ok (.iload_n 1, 1) := by decide +kernel
theorem dL_setMeter_4 : decode cL_setMeter 4 = .ok (.iload_n 2, 1) := by decide +kernel
theorem dL_setMeter_5 : decode cL_setMeter 5 = .ok (.invokevirtual 58, 3) := by decide +kernel
theorem dL_setMeter_8 : decode cL_setMeter 8 = .ok (.i2l, 1) := by decide +kernel
theorem dL_setMeter_9 : decode cL_setMeter 9 = .ok (.lastore, 1) := by decide +kernel
theorem dL_setMeter_10 : decode cL_setMeter 10 = .ok (.goto 7, 3) := by decide +kernel
theorem dL_setMeter_13 : decode cL_setMeter 13 = .ok (.astore 4, 2) := by decide +kernel
theorem dL_setMeter_15 : decode cL_setMeter 15 = .ok (.iconst 1, 1) := by decide +kernel
theorem dL_setMeter_16 : decode cL_setMeter 16 = .ok (.ireturn, 1) := by decide +kernel
theorem dL_setMeter_17 : decode cL_setMeter 17 = .ok (.iconst 0, 1) := by decide +kernel
theorem dL_setMeter_18 : decode cL_setMeter 18 = .ok (.ireturn, 1) := by decide +kernel
theorem dL_balance_0 : decode cL_balance 0 = .ok (.aload_n 2, 1) := by decide +kernel
theorem dL_balance_1 : decode cL_balance 1 = .ok (.iconst 0, 1) := by decide +kernel
theorem dL_balance_2 : decode cL_balance 2 = .ok (.aload_n 0, 1) := by decide +kernel
theorem dL_balance_3 : decode cL_balance 3 = .ok (.iload_n 1, 1) := by decide +kernel
theorem dL_balance_4 : decode cL_balance 4 = .ok (.invokevirtual 62, 3) := by decide +kernel
theorem dL_balance_7 : decode cL_balance 7 = .ok (.i2l, 1) := by decide +kernel
theorem dL_balance_8 : decode cL_balance 8 = .ok (.lastore, 1) := by decide +kernel
theorem dL_balance_9 : decode cL_balance 9 = .ok (.goto 6, 3) := by decide +kernel
theorem dL_balance_12 : decode cL_balance 12 = .ok (.astore_n 3, 1) := by decide +kernel
theorem dL_balance_13 : decode cL_balance 13 = .ok (.iconst 1, 1) := by decide +kernel
theorem dL_balance_14 : decode cL_balance 14 = .ok (.ireturn, 1) := by decide +kernel
theorem dL_balance_15 : decode cL_balance 15 = .ok (.iconst 0, 1) := by decide +kernel
theorem dL_balance_16 : decode cL_balance 16 = .ok (.ireturn, 1) := by decide +kernel
theorem dL_region_0 : decode cL_region 0 = .ok (.aload_n 2, 1) := by decide +kernel
theorem dL_region_1 : decode cL_region 1 = .ok (.iconst 0, 1) := by decide +kernel
theorem dL_region_2 : decode cL_region 2 = .ok (.aload_n 0, 1) := by decide +kernel
theorem dL_region_3 : decode cL_region 3 = .ok (.iload_n 1, 1) := by decide +kernel
theorem dL_region_4 : decode cL_region 4 = .ok (.invokevirtual 65, 3) := by decide +kernel
theorem dL_region_7 : decode cL_region 7 = .ok (.i2l, 1) := by decide +kernel
theorem dL_region_8 : decode cL_region 8 = .ok (.lastore, 1) := by decide +kernel
theorem dL_region_9 : decode cL_region 9 = .ok (.goto 6, 3) := by decide +kernel
theorem dL_region_12 : decode cL_region 12 = .ok (.astore_n 3, 1) := by decide +kernel
theorem dL_region_13 : decode cL_region 13 = .ok (.iconst 1, 1) := by decide +kernel
theorem dL_region_14 : decode cL_region 14 = .ok (.ireturn, 1) := by decide +kernel
theorem dL_region_15 : decode cL_region 15 = .ok (.iconst 0, 1) := by decide +kernel
theorem dL_region_16 : decode cL_region 16 = .ok (.ireturn, 1) := by decide +kernel
theorem dL_meterOf_0 : decode cL_meterOf 0 = .ok (.aload_n 2, 1) := by decide +kernel
theorem dL_meterOf_1 : decode cL_meterOf 1 = .ok (.iconst 0, 1) := by decide +kernel
theorem dL_meterOf_2 : decode cL_meterOf 2 = .ok (.aload_n 0, 1) := by decide +kernel
theorem dL_meterOf_3 : decode cL_meterOf 3 = .ok (.iload_n 1, 1) := by decide +kernel
theorem dL_meterOf_4 : decode cL_meterOf 4 = .ok (.invokevirtual 68, 3) := by decide +kernel
theorem dL_meterOf_7 : decode cL_meterOf 7 = .ok (.i2l, 1) := by decide +kernel
theorem dL_meterOf_8 : decode cL_meterOf 8 = .ok (.lastore, 1) := by decide +kernel
theorem dL_meterOf_9 : decode cL_meterOf 9 = .ok (.goto 6, 3) := by decide +kernel
theorem dL_meterOf_12 : decode cL_meterOf 12 = .ok (.astore_n 3, 1) := by decide +kernel
theorem dL_meterOf_13 : decode cL_meterOf 13 = .ok (.iconst 1, 1) := by decide +kernel
theorem dL_meterOf_14 : decode cL_meterOf 14 = .ok (.ireturn, 1) := by decide +kernel
theorem dL_meterOf_15 : decode cL_meterOf 15 = .ok (.iconst 0, 1) := by decide +kernel
theorem dL_meterOf_16 : decode cL_meterOf 16 = .ok (.ireturn, 1) := by decide +kernel
theorem dL_nextMeter_0 : decode cL_nextMeter 0 = .ok (.aload_n 2, 1) := by decide +kernel
theorem dL_nextMeter_1 : decode cL_nextMeter 1 = .ok (.iconst 0, 1) := by decide +kernel
theorem dL_nextMeter_2 : decode cL_nextMeter 2 = .ok (.aload_n 0, 1) := by decide +kernel
theorem dL_nextMeter_3 : decode cL_nextMeter 3 = .ok (.iload_n 1, 1) := by decide +kernel
theorem dL_nextMeter_4 : decode cL_nextMeter 4 = .ok (.invokevirtual 71, 3) := by decide +kernel
theorem dL_nextMeter_7 : decode cL_nextMeter 7 = .ok (.i2l, 1) := by decide +kernel
theorem dL_nextMeter_8 : decode cL_nextMeter 8 = .ok (.lastore, 1) := by decide +kernel
theorem dL_nextMeter_9 : decode cL_nextMeter 9 = .ok (.goto 6, 3) := by decide +kernel
theorem dL_nextMeter_12 : decode cL_nextMeter 12 = .ok (.astore_n 3, 1) := by decide +kernel
theorem dL_nextMeter_13 : decode cL_nextMeter 13 = .ok (.iconst 1, 1) := by decide +kernel
theorem dL_nextMeter_14 : decode cL_nextMeter 14 = .ok (.ireturn, 1) := by decide +kernel
theorem dL_nextMeter_15 : decode cL_nextMeter 15 = .ok (.iconst 0, 1) := by decide +kernel
theorem dL_nextMeter_16 : decode cL_nextMeter 16 = .ok (.ireturn, 1) := by decide +kernel
theorem dL_supplyFor_0 : decode cL_supplyFor 0 = .ok (.aload_n 3, 1) := by decide +kernel
theorem dL_supplyFor_1 : decode cL_supplyFor 1 = .ok (.iconst 0, 1) := by decide +kernel
theorem dL_supplyFor_2 : decode cL_supplyFor 2 = .ok (.aload_n 0, 1) := by decide +kernel
theorem dL_supplyFor_3 : decode cL_supplyFor 3 = .ok (.iload_n 1, 1) := by decide +kernel
theorem dL_supplyFor_4 : decode cL_supplyFor 4 = .ok (.iload_n 2, 1) := by decide +kernel
theorem dL_supplyFor_5 : decode cL_supplyFor 5 = .ok (.invokevirtual 74, 3) := by decide +kernel
theorem dL_supplyFor_8 : decode cL_supplyFor 8 = .ok (.i2l, 1) := by decide +kernel
theorem dL_supplyFor_9 : decode cL_supplyFor 9 = .ok (.lastore, 1) := by decide +kernel
theorem dL_supplyFor_10 : decode cL_supplyFor 10 = .ok (.goto 11, 3) := by decide +kernel
theorem dL_supplyFor_13 : decode cL_supplyFor 13 = .ok (.astore 4, 2) := by decide +kernel
theorem dL_supplyFor_15 : decode cL_supplyFor 15 = .ok (.iconst 1, 1) := by decide +kernel
theorem dL_supplyFor_16 : decode cL_supplyFor 16 = .ok (.ireturn, 1) := by decide +kernel
theorem dL_supplyFor_17 : decode cL_supplyFor 17 = .ok (.astore 4, 2) := by decide +kernel
theorem dL_supplyFor_19 : decode cL_supplyFor 19 = .ok (.iconst 2, 1) := by decide +kernel
theorem dL_supplyFor_20 : decode cL_supplyFor 20 = .ok (.ireturn, 1) := by decide +kernel
theorem dL_supplyFor_21 : decode cL_supplyFor 21 = .ok (.iconst 0, 1) := by decide +kernel
theorem dL_supplyFor_22 : decode cL_supplyFor 22 = .ok (.ireturn, 1) := by decide +kernel
theorem dL_saves_0 : decode cL_saves 0 = .ok (.aload_n 2, 1) := by decide +kernel
theorem dL_saves_1 : decode cL_saves 1 = .ok (.iconst 0, 1) := by decide +kernel
theorem dL_saves_2 : decode cL_saves 2 = .ok (.aload_n 0, 1) := by decide +kernel
theorem dL_saves_3 : decode cL_saves 3 = .ok (.iload_n 1, 1) := by decide +kernel
theorem dL_saves_4 : decode cL_saves 4 = .ok (.invokevirtual 77, 3) := by decide +kernel
theorem dL_saves_7 : decode cL_saves 7 = .ok (.i2l, 1) := by decide +kernel
theorem dL_saves_8 : decode cL_saves 8 = .ok (.lastore, 1) := by decide +kernel
theorem dL_saves_9 : decode cL_saves 9 = .ok (.goto 6, 3) := by decide +kernel
theorem dL_saves_12 : decode cL_saves 12 = .ok (.astore_n 3, 1) := by decide +kernel
theorem dL_saves_13 : decode cL_saves 13 = .ok (.iconst 1, 1) := by decide +kernel
theorem dL_saves_14 : decode cL_saves 14 = .ok (.ireturn, 1) := by decide +kernel
theorem dL_saves_15 : decode cL_saves 15 = .ok (.iconst 0, 1) := by decide +kernel
theorem dL_saves_16 : decode cL_saves 16 = .ok (.ireturn, 1) := by decide +kernel
theorem dL_append_0 : decode cL_append 0 = .ok (.aload_n 2, 1) := by decide +kernel
theorem dL_append_1 : decode cL_append 1 = .ok (.iconst 0, 1) := by decide +kernel
theorem dL_append_2 : decode cL_append 2 = .ok (.aload_n 0, 1) := by decide +kernel
theorem dL_append_3 : decode cL_append 3 = .ok (.iload_n 1, 1) := by decide +kernel
theorem dL_append_4 : decode cL_append 4 = .ok (.invokevirtual 80, 3) := by decide +kernel
theorem dL_append_7 : decode cL_append 7 = .ok (.i2l, 1) := by decide +kernel
theorem dL_append_8 : decode cL_append 8 = .ok (.lastore, 1) := by decide +kernel
theorem dL_append_9 : decode cL_append 9 = .ok (.goto 9, 3) := by decide +kernel
theorem dL_append_12 : decode cL_append 12 = .ok (.astore_n 3, 1) := by decide +kernel
theorem dL_append_13 : decode cL_append 13 = .ok (.iconst 1, 1) := by decide +kernel
theorem dL_append_14 : decode cL_append 14 = .ok (.ireturn, 1) := by decide +kernel
theorem dL_append_15 : decode cL_append 15 = .ok (.astore_n 3, 1) := by decide +kernel
theorem dL_append_16 : decode cL_append 16 = .ok (.iconst 2, 1) := by decide +kernel
theorem dL_append_17 : decode cL_append 17 = .ok (.ireturn, 1) := by decide +kernel
theorem dL_append_18 : decode cL_append 18 = .ok (.iconst 0, 1) := by decide +kernel
theorem dL_append_19 : decode cL_append 19 = .ok (.ireturn, 1) := by decide +kernel
theorem dL_undo_0 : decode cL_undo 0 = .ok (.aload_n 1, 1) := by decide +kernel
theorem dL_undo_1 : decode cL_undo 1 = .ok (.iconst 0, 1) := by decide +kernel
theorem dL_undo_2 : decode cL_undo 2 = .ok (.aload_n 0, 1) := by decide +kernel
theorem dL_undo_3 : decode cL_undo 3 = .ok (.invokevirtual 83, 3) := by decide +kernel
theorem dL_undo_6 : decode cL_undo 6 = .ok (.i2l, 1) := by decide +kernel
theorem dL_undo_7 : decode cL_undo 7 = .ok (.lastore, 1) := by decide +kernel
theorem dL_undo_8 : decode cL_undo 8 = .ok (.goto 6, 3) := by decide +kernel
theorem dL_undo_11 : decode cL_undo 11 = .ok (.astore_n 2, 1) := by decide +kernel
theorem dL_undo_12 : decode cL_undo 12 = .ok (.iconst 1, 1) := by decide +kernel
theorem dL_undo_13 : decode cL_undo 13 = .ok (.ireturn, 1) := by decide +kernel
theorem dL_undo_14 : decode cL_undo 14 = .ok (.iconst 0, 1) := by decide +kernel
theorem dL_undo_15 : decode cL_undo 15 = .ok (.ireturn, 1) := by decide +kernel
theorem dL_law_0 : decode cL_law 0 = .ok (.new 8, 3) := by decide +kernel
theorem dL_law_3 : decode cL_law 3 = .ok (.dup, 1) := by decide +kernel
theorem dL_law_4 : decode cL_law 4 = .ok (.invokespecial 87, 3) := by decide +kernel
theorem dL_law_7 : decode cL_law 7 = .ok (.astore_n 1, 1) := by decide +kernel
theorem dL_law_8 : decode cL_law 8 = .ok (.new 88, 3) := by decide +kernel
theorem dL_law_11 : decode cL_law 11 = .ok (.dup, 1) := by decide +kernel
theorem dL_law_12 : decode cL_law 12 = .ok (.invokespecial 90, 3) := by decide +kernel
theorem dL_law_15 : decode cL_law 15 = .ok (.astore_n 2, 1) := by decide +kernel
theorem dL_law_16 : decode cL_law 16 = .ok (.iconst 1, 1) := by decide +kernel
theorem dL_law_17 : decode cL_law 17 = .ok (.newarray .long, 2) := by decide +kernel
theorem dL_law_19 : decode cL_law 19 = .ok (.astore_n 3, 1) := by decide +kernel
theorem dL_law_20 : decode cL_law 20 = .ok (.iconst 0, 1) := by decide +kernel
theorem dL_law_21 : decode cL_law 21 = .ok (.istore 4, 2) := by decide +kernel
theorem dL_law_23 : decode cL_law 23 = .ok (.iload 4, 2) := by decide +kernel
theorem dL_law_25 : decode cL_law 25 = .ok (.aload_n 0, 1) := by decide +kernel
theorem dL_law_26 : decode cL_law 26 = .ok (.arraylength, 1) := by decide +kernel
theorem dL_law_27 : decode cL_law 27 = .ok (.bipush 6, 2) := by decide +kernel
theorem dL_law_29 : decode cL_law 29 = .ok (.isub, 1) := by decide +kernel
theorem dL_law_30 : decode cL_law 30 = .ok (.if_icmp .gt 1720, 3) := by decide +kernel
theorem dL_law_33 : decode cL_law 33 = .ok (.aload_n 0, 1) := by decide +kernel
theorem dL_law_34 : decode cL_law 34 = .ok (.iload 4, 2) := by decide +kernel
theorem dL_law_36 : decode cL_law 36 = .ok (.iaload, 1) := by decide +kernel
theorem dL_law_37 : decode cL_law 37 = .ok (.bipush 31, 2) := by decide +kernel
theorem dL_law_39 : decode cL_law 39 = .ok (.iand, 1) := by decide +kernel
theorem dL_law_40 : decode cL_law 40 = .ok (.tableswitch 1704 0 28 #[132, 236, 316, 384, 452, 520, 588, 644, 700, 780, 848, 916, 996, 1052, 1136, 1192, 1248, 1304, 1360, 1373, 1386, 1454, 1467, 1523, 1564, 1620, 1633, 1646, 1690], 132) := by decide +kernel
theorem dL_law_172 : decode cL_law 172 = .ok (.aload_n 1, 1) := by decide +kernel
theorem dL_law_173 : decode cL_law 173 = .ok (.aload_n 0, 1) := by decide +kernel
theorem dL_law_174 : decode cL_law 174 = .ok (.iload 4, 2) := by decide +kernel
theorem dL_law_176 : decode cL_law 176 = .ok (.iconst 1, 1) := by decide +kernel
theorem dL_law_177 : decode cL_law 177 = .ok (.iadd, 1) := by decide +kernel
theorem dL_law_178 : decode cL_law 178 = .ok (.iaload, 1) := by decide +kernel
theorem dL_law_179 : decode cL_law 179 = .ok (.aload_n 0, 1) := by decide +kernel
theorem dL_law_180 : decode cL_law 180 = .ok (.iload 4, 2) := by decide +kernel
theorem dL_law_182 : decode cL_law 182 = .ok (.iconst 2, 1) := by decide +kernel
theorem dL_law_183 : decode cL_law 183 = .ok (.iadd, 1) := by decide +kernel
theorem dL_law_184 : decode cL_law 184 = .ok (.iaload, 1) := by decide +kernel
theorem dL_law_185 : decode cL_law 185 = .ok (.aload_n 0, 1) := by decide +kernel
theorem dL_law_186 : decode cL_law 186 = .ok (.iload 4, 2) := by decide +kernel
theorem dL_law_188 : decode cL_law 188 = .ok (.iconst 3, 1) := by decide +kernel
theorem dL_law_189 : decode cL_law 189 = .ok (.iadd, 1) := by decide +kernel
theorem dL_law_190 : decode cL_law 190 = .ok (.iaload, 1) := by decide +kernel
theorem dL_law_191 : decode cL_law 191 = .ok (.aload_n 0, 1) := by decide +kernel
theorem dL_law_192 : decode cL_law 192 = .ok (.iload 4, 2) := by decide +kernel
theorem dL_law_194 : decode cL_law 194 = .ok (.iconst 4, 1) := by decide +kernel
theorem dL_law_195 : decode cL_law 195 = .ok (.iadd, 1) := by decide +kernel
theorem dL_law_196 : decode cL_law 196 = .ok (.iaload, 1) := by decide +kernel
theorem dL_law_197 : decode cL_law 197 = .ok (.aload_n 0, 1) := by decide +kernel
theorem dL_law_198 : decode cL_law 198 = .ok (.iload 4, 2) := by decide +kernel
theorem dL_law_200 : decode cL_law 200 = .ok (.iconst 5, 1) := by decide +kernel
theorem dL_law_201 : decode cL_law 201 = .ok (.iadd, 1) := by decide +kernel
theorem dL_law_202 : decode cL_law 202 = .ok (.iaload, 1) := by decide +kernel
theorem dL_law_203 : decode cL_law 203 = .ok (.aload_n 3, 1) := by decide +kernel
theorem dL_law_204 : decode cL_law 204 = .ok (.invokestatic 91, 3) := by decide +kernel
theorem dL_law_207 : decode cL_law 207 = .ok (.istore 5, 2) := by decide +kernel
theorem dL_law_209 : decode cL_law 209 = .ok (.aload_n 2, 1) := by decide +kernel
theorem dL_law_210 : decode cL_law 210 = .ok (.aload_n 0, 1) := by decide +kernel
theorem dL_law_211 : decode cL_law 211 = .ok (.iload 4, 2) := by decide +kernel
theorem dL_law_213 : decode cL_law 213 = .ok (.iconst 1, 1) := by decide +kernel
theorem dL_law_214 : decode cL_law 214 = .ok (.iadd, 1) := by decide +kernel
theorem dL_law_215 : decode cL_law 215 = .ok (.iaload, 1) := by decide +kernel
theorem dL_law_216 : decode cL_law 216 = .ok (.aload_n 0, 1) := by decide +kernel
theorem dL_law_217 : decode cL_law 217 = .ok (.iload 4, 2) := by decide +kernel
theorem dL_law_219 : decode cL_law 219 = .ok (.iconst 2, 1) := by decide +kernel
theorem dL_law_220 : decode cL_law 220 = .ok (.iadd, 1) := by decide +kernel
theorem dL_law_221 : decode cL_law 221 = .ok (.iaload, 1) := by decide +kernel
theorem dL_law_222 : decode cL_law 222 = .ok (.aload_n 0, 1) := by decide +kernel
theorem dL_law_223 : decode cL_law 223 = .ok (.iload 4, 2) := by decide +kernel
theorem dL_law_225 : decode cL_law 225 = .ok (.iconst 3, 1) := by decide +kernel
theorem dL_law_226 : decode cL_law 226 = .ok (.iadd, 1) := by decide +kernel
theorem dL_law_227 : decode cL_law 227 = .ok (.iaload, 1) := by decide +kernel
theorem dL_law_228 : decode cL_law 228 = .ok (.aload_n 0, 1) := by decide +kernel
theorem dL_law_229 : decode cL_law 229 = .ok (.iload 4, 2) := by decide +kernel
theorem dL_law_231 : decode cL_law 231 = .ok (.iconst 4, 1) := by decide +kernel
theorem dL_law_232 : decode cL_law 232 = .ok (.iadd, 1) := by decide +kernel
theorem dL_law_233 : decode cL_law 233 = .ok (.iaload, 1) := by decide +kernel
theorem dL_law_234 : decode cL_law 234 = .ok (.aload_n 0, 1) := by decide +kernel
theorem dL_law_235 : decode cL_law 235 = .ok (.iload 4, 2) := by decide +kernel
theorem dL_law_237 : decode cL_law 237 = .ok (.iconst 5, 1) := by decide +kernel
theorem dL_law_238 : decode cL_law 238 = .ok (.iadd, 1) := by decide +kernel
theorem dL_law_239 : decode cL_law 239 = .ok (.iaload, 1) := by decide +kernel
theorem dL_law_240 : decode cL_law 240 = .ok (.invokevirtual 96, 3) := by decide +kernel
theorem dL_law_243 : decode cL_law 243 = .ok (.istore 6, 2) := by decide +kernel
theorem dL_law_245 : decode cL_law 245 = .ok (.aload_n 2, 1) := by decide +kernel
theorem dL_law_246 : decode cL_law 246 = .ok (.invokevirtual 97, 3) := by decide +kernel
theorem dL_law_249 : decode cL_law 249 = .ok (.iload 5, 2) := by decide +kernel
theorem dL_law_251 : decode cL_law 251 = .ok (.if_icmp .eq 5, 3) := by decide +kernel
theorem dL_law_254 : decode cL_law 254 = .ok (.iconst 0, 1) := by decide +kernel
theorem dL_law_255 : decode cL_law 255 = .ok (.ireturn, 1) := by decide +kernel
theorem dL_law_256 : decode cL_law 256 = .ok (.iload 5, 2) := by decide +kernel
theorem dL_law_258 : decode cL_law 258 = .ok (.ifCond .ne 15, 3) := by decide +kernel
theorem dL_law_261 : decode cL_law 261 = .ok (.aload_n 3, 1) := by decide +kernel
theorem dL_law_262 : decode cL_law 262 = .ok (.iconst 0, 1) := by decide +kernel
theorem dL_law_263 : decode cL_law 263 = .ok (.laload, 1) := by decide +kernel
theorem dL_law_264 : decode cL_law 264 = .ok (.iload 6, 2) := by decide +kernel
theorem dL_law_266 : decode cL_law 266 = .ok (.i2l, 1) := by decide +kernel
theorem dL_law_267 : decode cL_law 267 = .ok (.lcmp, 1) := by decide +kernel
theorem dL_law_268 : decode cL_law 268 = .ok (.ifCond .eq 5, 3) := by decide +kernel
theorem dL_law_271 : decode cL_law 271 = .ok (.iconst 0, 1) := by decide +kernel
theorem dL_law_272 : decode cL_law 272 = .ok (.ireturn, 1) := by decide +kernel
theorem dL_law_273 : decode cL_law 273 = .ok (.goto 1471, 3) := by decide +kernel
theorem dL_law_276 : decode cL_law 276 = .ok (.aload_n 1, 1) := by decide +kernel
theorem dL_law_277 : decode cL_law 277 = .ok (.aload_n 0, 1) := by decide +kernel
theorem dL_law_278 : decode cL_law 278 = .ok (.iload 4, 2) := by decide +kernel
theorem dL_law_280 : decode cL_law 280 = .ok (.iconst 1, 1) := by decide +kernel
theorem dL_law_281 : decode cL_law 281 = .ok (.iadd, 1) := by decide +kernel
theorem dL_law_282 : decode cL_law 282 = .ok (.iaload, 1) := by decide +kernel
theorem dL_law_283 : decode cL_law 283 = .ok (.aload_n 0, 1) := by decide +kernel
theorem dL_law_284 : decode cL_law 284 = .ok (.iload 4, 2) := by decide +kernel
theorem dL_law_286 : decode cL_law 286 = .ok (.iconst 2, 1) := by decide +kernel
theorem dL_law_287 : decode cL_law 287 = .ok (.iadd, 1) := by decide +kernel
theorem dL_law_288 : decode cL_law 288 = .ok (.iaload, 1) := by decide +kernel
theorem dL_law_289 : decode cL_law 289 = .ok (.aload_n 0, 1) := by decide +kernel
theorem dL_law_290 : decode cL_law 290 = .ok (.iload 4, 2) := by decide +kernel
theorem dL_law_292 : decode cL_law 292 = .ok (.iconst 3, 1) := by decide +kernel
theorem dL_law_293 : decode cL_law 293 = .ok (.iadd, 1) := by decide +kernel
theorem dL_law_294 : decode cL_law 294 = .ok (.iaload, 1) := by decide +kernel
theorem dL_law_295 : decode cL_law 295 = .ok (.aload_n 3, 1) := by decide +kernel
theorem dL_law_296 : decode cL_law 296 = .ok (.invokestatic 100, 3) := by decide +kernel
theorem dL_law_299 : decode cL_law 299 = .ok (.istore 5, 2) := by decide +kernel
theorem dL_law_301 : decode cL_law 301 = .ok (.aload_n 2, 1) := by decide +kernel
theorem dL_law_302 : decode cL_law 302 = .ok (.aload_n 0, 1) := by decide +kernel
theorem dL_law_303 : decode cL_law 303 = .ok (.iload 4, 2) := by decide +kernel
theorem dL_law_305 : decode cL_law 305 = .ok (.iconst 1, 1) := by decide +kernel
theorem dL_law_306 : decode cL_law 306 = .ok (.iadd, 1) := by decide +kernel
theorem dL_law_307 : decode cL_law 307 = .ok (.iaload, 1) := by decide +kernel
theorem dL_law_308 : decode cL_law 308 = .ok (.aload_n 0, 1) := by decide +kernel
theorem dL_law_309 : decode cL_law 309 = .ok (.iload 4, 2) := by decide +kernel
theorem dL_law_311 : decode cL_law 311 = .ok (.iconst 2, 1) := by decide +kernel
theorem dL_law_312 : decode cL_law 312 = .ok (.iadd, 1) := by decide +kernel
theorem dL_law_313 : decode cL_law 313 = .ok (.iaload, 1) := by decide +kernel
theorem dL_law_314 : decode cL_law 314 = .ok (.aload_n 0, 1) := by decide +kernel
theorem dL_law_315 : decode cL_law 315 = .ok (.iload 4, 2) := by decide +kernel
theorem dL_law_317 : decode cL_law 317 = .ok (.iconst 3, 1) := by decide +kernel
theorem dL_law_318 : decode cL_law 318 = .ok (.iadd, 1) := by decide +kernel
theorem dL_law_319 : decode cL_law 319 = .ok (.iaload, 1) := by decide +kernel
theorem dL_law_320 : decode cL_law 320 = .ok (.invokevirtual 103, 3) := by decide +kernel
theorem dL_law_323 : decode cL_law 323 = .ok (.istore 6, 2) := by decide +kernel
theorem dL_law_325 : decode cL_law 325 = .ok (.aload_n 2, 1) := by decide +kernel
theorem dL_law_326 : decode cL_law 326 = .ok (.invokevirtual 97, 3) := by decide +kernel
theorem dL_law_329 : decode cL_law 329 = .ok (.iload 5, 2) := by decide +kernel
theorem dL_law_331 : decode cL_law 331 = .ok (.if_icmp .eq 5, 3) := by decide +kernel
theorem dL_law_334 : decode cL_law 334 = .ok (.iconst 0, 1) := by decide +kernel
theorem dL_law_335 : decode cL_law 335 = .ok (.ireturn, 1) := by decide +kernel
theorem dL_law_336 : decode cL_law 336 = .ok (.iload 5, 2) := by decide +kernel
theorem dL_law_338 : decode cL_law 338 = .ok (.ifCond .ne 15, 3) := by decide +kernel
theorem dL_law_341 : decode cL_law 341 = .ok (.aload_n 3, 1) := by decide +kernel
theorem dL_law_342 : decode cL_law 342 = .ok (.iconst 0, 1) := by decide +kernel
theorem dL_law_343 : decode cL_law 343 = .ok (.laload, 1) := by decide +kernel
theorem dL_law_344 : decode cL_law 344 = .ok (.iload 6, 2) := by decide +kernel
theorem dL_law_346 : decode cL_law 346 = .ok (.i2l, 1) := by decide +kernel
theorem dL_law_347 : decode cL_law 347 = .ok (.lcmp, 1) := by decide +kernel
theorem dL_law_348 : decode cL_law 348 = .ok (.ifCond .eq 5, 3) := by decide +kernel
theorem dL_law_351 : decode cL_law 351 = .ok (.iconst 0, 1) := by decide +kernel
theorem dL_law_352 : decode cL_law 352 = .ok (.ireturn, 1) := by decide +kernel
theorem dL_law_353 : decode cL_law 353 = .ok (.goto 1391, 3) := by decide +kernel
theorem dL_law_356 : decode cL_law 356 = .ok (.aload_n 1, 1) := by decide +kernel
theorem dL_law_357 : decode cL_law 357 = .ok (.aload_n 0, 1) := by decide +kernel
theorem dL_law_358 : decode cL_law 358 = .ok (.iload 4, 2) := by decide +kernel
theorem dL_law_360 : decode cL_law 360 = .ok (.iconst 1, 1) := by decide +kernel
theorem dL_law_361 : decode cL_law 361 = .ok (.iadd, 1) := by decide +kernel
theorem dL_law_362 : decode cL_law 362 = .ok (.iaload, 1) := by decide +kernel
theorem dL_law_363 : decode cL_law 363 = .ok (.aload_n 0, 1) := by decide +kernel
theorem dL_law_364 : decode cL_law 364 = .ok (.iload 4, 2) := by decide +kernel
theorem dL_law_366 : decode cL_law 366 = .ok (.iconst 2, 1) := by decide +kernel
theorem dL_law_367 : decode cL_law 367 = .ok (.iadd, 1) := by decide +kernel
theorem dL_law_368 : decode cL_law 368 = .ok (.iaload, 1) := by decide +kernel
theorem dL_law_369 : decode cL_law 369 = .ok (.aload_n 3, 1) := by decide +kernel
theorem dL_law_370 : decode cL_law 370 = .ok (.invokestatic 104, 3) := by decide +kernel
theorem dL_law_373 : decode cL_law 373 = .ok (.istore 5, 2) := by decide +kernel
theorem dL_law_375 : decode cL_law 375 = .ok (.aload_n 2, 1) := by decide +kernel
theorem dL_law_376 : decode cL_law 376 = .ok (.aload_n 0, 1) := by decide +kernel
theorem dL_law_377 : decode cL_law 377 = .ok (.iload 4, 2) := by decide +kernel
theorem dL_law_379 : decode cL_law 379 = .ok (.iconst 1, 1) := by decide +kernel
theorem dL_law_380 : decode cL_law 380 = .ok (.iadd, 1) := by decide +kernel
theorem dL_law_381 : decode cL_law 381 = .ok (.iaload, 1) := by decide +kernel
theorem dL_law_382 : decode cL_law 382 = .ok (.aload_n 0, 1) := by decide +kernel
theorem dL_law_383 : decode cL_law 383 = .ok (.iload 4, 2) := by decide +kernel
theorem dL_law_385 : decode cL_law 385 = .ok (.iconst 2, 1) := by decide +kernel
theorem dL_law_386 : decode cL_law 386 = .ok (.iadd, 1) := by decide +kernel
theorem dL_law_387 : decode cL_law 387 = .ok (.iaload, 1) := by decide +kernel
theorem dL_law_388 : decode cL_law 388 = .ok (.invokevirtual 107, 3) := by decide +kernel
theorem dL_law_391 : decode cL_law 391 = .ok (.istore 6, 2) := by decide +kernel
theorem dL_law_393 : decode cL_law 393 = .ok (.aload_n 2, 1) := by decide +kernel
theorem dL_law_394 : decode cL_law 394 = .ok (.invokevirtual 97, 3) := by decide +kernel
theorem dL_law_397 : decode cL_law 397 = .ok (.iload 5, 2) := by decide +kernel
theorem dL_law_399 : decode cL_law 399 = .ok (.if_icmp .eq 5, 3) := by decide +kernel
theorem dL_law_402 : decode cL_law 402 = .ok (.iconst 0, 1) := by decide +kernel
theorem dL_law_403 : decode cL_law 403 = .ok (.ireturn, 1) := by decide +kernel
theorem dL_law_404 : decode cL_law 404 = .ok (.iload 5, 2) := by decide +kernel
theorem dL_law_406 : decode cL_law 406 = .ok (.ifCond .ne 15, 3) := by decide +kernel
theorem dL_law_409 : decode cL_law 409 = .ok (.aload_n 3, 1) := by decide +kernel
theorem dL_law_410 : decode cL_law 410 = .ok (.iconst 0, 1) := by decide +kernel
theorem dL_law_411 : decode cL_law 411 = .ok (.laload, 1) := by decide +kernel
theorem dL_law_412 : decode cL_law 412 = .ok (.iload 6, 2) := by decide +kernel
theorem dL_law_414 : decode cL_law 414 = .ok (.i2l, 1) := by decide +kernel
theorem dL_law_415 : decode cL_law 415 = .ok (.lcmp, 1) := by decide +kernel
theorem dL_law_416 : decode cL_law 416 = .ok (.ifCond .eq 5, 3) := by decide +kernel
theorem dL_law_419 : decode cL_law 419 = .ok (.iconst 0, 1) := by decide +kernel
theorem dL_law_420 : decode cL_law 420 = .ok (.ireturn, 1) := by decide +kernel
theorem dL_law_421 : decode cL_law 421 = .ok (.goto 1323, 3) := by decide +kernel
theorem dL_law_424 : decode cL_law 424 = .ok (.aload_n 1, 1) := by decide +kernel
theorem dL_law_425 : decode cL_law 425 = .ok (.aload_n 0, 1) := by decide +kernel
theorem dL_law_426 : decode cL_law 426 = .ok (.iload 4, 2) := by decide +kernel
theorem dL_law_428 : decode cL_law 428 = .ok (.iconst 1, 1) := by decide +kernel
theorem dL_law_429 : decode cL_law 429 = .ok (.iadd, 1) := by decide +kernel
theorem dL_law_430 : decode cL_law 430 = .ok (.iaload, 1) := by decide +kernel
theorem dL_law_431 : decode cL_law 431 = .ok (.aload_n 0, 1) := by decide +kernel
theorem dL_law_432 : decode cL_law 432 = .ok (.iload 4, 2) := by decide +kernel
theorem dL_law_434 : decode cL_law 434 = .ok (.iconst 2, 1) := by decide +kernel
theorem dL_law_435 : decode cL_law 435 = .ok (.iadd, 1) := by decide +kernel
theorem dL_law_436 : decode cL_law 436 = .ok (.iaload, 1) := by decide +kernel
theorem dL_law_437 : decode cL_law 437 = .ok (.aload_n 3, 1) := by decide +kernel
theorem dL_law_438 : decode cL_law 438 = .ok (.invokestatic 108, 3) := by decide +kernel
theorem dL_law_441 : decode cL_law 441 = .ok (.istore 5, 2) := by decide +kernel
theorem dL_law_443 : decode cL_law 443 = .ok (.aload_n 2, 1) := by decide +kernel
theorem dL_law_444 : decode cL_law 444 = .ok (.aload_n 0, 1) := by decide +kernel
theorem dL_law_445 : decode cL_law 445 = .ok (.iload 4, 2) := by decide +kernel
theorem dL_law_447 : decode cL_law 447 = .ok (.iconst 1, 1) := by decide +kernel
theorem dL_law_448 : decode cL_law 448 = .ok (.iadd, 1) := by decide +kernel
theorem dL_law_449 : decode cL_law 449 = .ok (.iaload, 1) := by decide +kernel
theorem dL_law_450 : decode cL_law 450 = .ok (.aload_n 0, 1) := by decide +kernel
theorem dL_law_451 : decode cL_law 451 = .ok (.iload 4, 2) := by decide +kernel
theorem dL_law_453 : decode cL_law 453 = .ok (.iconst 2, 1) := by decide +kernel
theorem dL_law_454 : decode cL_law 454 = .ok (.iadd, 1) := by decide +kernel
theorem dL_law_455 : decode cL_law 455 = .ok (.iaload, 1) := by decide +kernel
theorem dL_law_456 : decode cL_law 456 = .ok (.invokevirtual 110, 3) := by decide +kernel
theorem dL_law_459 : decode cL_law 459 = .ok (.istore 6, 2) := by decide +kernel
theorem dL_law_461 : decode cL_law 461 = .ok (.aload_n 2, 1) := by decide +kernel
theorem dL_law_462 : decode cL_law 462 = .ok (.invokevirtual 97, 3) := by decide +kernel
theorem dL_law_465 : decode cL_law 465 = .ok (.iload 5, 2) := by decide +kernel
theorem dL_law_467 : decode cL_law 467 = .ok (.if_icmp .eq 5, 3) := by decide +kernel
theorem dL_law_470 : decode cL_law 470 = .ok (.iconst 0, 1) := by decide +kernel
theorem dL_law_471 : decode cL_law 471 = .ok (.ireturn, 1) := by decide +kernel
theorem dL_law_472 : decode cL_law 472 = .ok (.iload 5, 2) := by decide +kernel
theorem dL_law_474 : decode cL_law 474 = .ok (.ifCond .ne 15, 3) := by decide +kernel
theorem dL_law_477 : decode cL_law 477 = .ok (.aload_n 3, 1) := by decide +kernel
theorem dL_law_478 : decode cL_law 478 = .ok (.iconst 0, 1) := by decide +kernel
theorem dL_law_479 : decode cL_law 479 = .ok (.laload, 1) := by decide +kernel
theorem dL_law_480 : decode cL_law 480 = .ok (.iload 6, 2) := by decide +kernel
theorem dL_law_482 : decode cL_law 482 = .ok (.i2l, 1) := by decide +kernel
theorem dL_law_483 : decode cL_law 483 = .ok (.lcmp, 1) := by decide +kernel
theorem dL_law_484 : decode cL_law 484 = .ok (.ifCond .eq 5, 3) := by decide +kernel
theorem dL_law_487 : decode cL_law 487 = .ok (.iconst 0, 1) := by decide +kernel
theorem dL_law_488 : decode cL_law 488 = .ok (.ireturn, 1) := by decide +kernel
theorem dL_law_489 : decode cL_law 489 = .ok (.goto 1255, 3) := by decide +kernel
theorem dL_law_492 : decode cL_law 492 = .ok (.aload_n 1, 1) := by decide +kernel
theorem dL_law_493 : decode cL_law 493 = .ok (.aload_n 0, 1) := by decide +kernel
theorem dL_law_494 : decode cL_law 494 = .ok (.iload 4, 2) := by decide +kernel
theorem dL_law_496 : decode cL_law 496 = .ok (.iconst 1, 1) := by decide +kernel
theorem dL_law_497 : decode cL_law 497 = .ok (.iadd, 1) := by decide +kernel
theorem dL_law_498 : decode cL_law 498 = .ok (.iaload, 1) := by decide +kernel
theorem dL_law_499 : decode cL_law 499 = .ok (.aload_n 0, 1) := by decide +kernel
theorem dL_law_500 : decode cL_law 500 = .ok (.iload 4, 2) := by decide +kernel
theorem dL_law_502 : decode cL_law 502 = .ok (.iconst 2, 1) := by decide +kernel
theorem dL_law_503 : decode cL_law 503 = .ok (.iadd, 1) := by decide +kernel
theorem dL_law_504 : decode cL_law 504 = .ok (.iaload, 1) := by decide +kernel
theorem dL_law_505 : decode cL_law 505 = .ok (.aload_n 3, 1) := by decide +kernel
theorem dL_law_506 : decode cL_law 506 = .ok (.invokestatic 111, 3) := by decide +kernel
theorem dL_law_509 : decode cL_law 509 = .ok (.istore 5, 2) := by decide +kernel
theorem dL_law_511 : decode cL_law 511 = .ok (.aload_n 2, 1) := by decide +kernel
theorem dL_law_512 : decode cL_law 512 = .ok (.aload_n 0, 1) := by decide +kernel
theorem dL_law_513 : decode cL_law 513 = .ok (.iload 4, 2) := by decide +kernel
theorem dL_law_515 : decode cL_law 515 = .ok (.iconst 1, 1) := by decide +kernel
theorem dL_law_516 : decode cL_law 516 = .ok (.iadd, 1) := by decide +kernel
theorem dL_law_517 : decode cL_law 517 = .ok (.iaload, 1) := by decide +kernel
theorem dL_law_518 : decode cL_law 518 = .ok (.aload_n 0, 1) := by decide +kernel
theorem dL_law_519 : decode cL_law 519 = .ok (.iload 4, 2) := by decide +kernel
theorem dL_law_521 : decode cL_law 521 = .ok (.iconst 2, 1) := by decide +kernel
theorem dL_law_522 : decode cL_law 522 = .ok (.iadd, 1) := by decide +kernel
theorem dL_law_523 : decode cL_law 523 = .ok (.iaload, 1) := by decide +kernel
theorem dL_law_524 : decode cL_law 524 = .ok (.invokevirtual 113, 3) := by decide +kernel
theorem dL_law_527 : decode cL_law 527 = .ok (.istore 6, 2) := by decide +kernel
theorem dL_law_529 : decode cL_law 529 = .ok (.aload_n 2, 1) := by decide +kernel
theorem dL_law_530 : decode cL_law 530 = .ok (.invokevirtual 97, 3) := by decide +kernel
theorem dL_law_533 : decode cL_law 533 = .ok (.iload 5, 2) := by decide +kernel
theorem dL_law_535 : decode cL_law 535 = .ok (.if_icmp .eq 5, 3) := by decide +kernel
theorem dL_law_538 : decode cL_law 538 = .ok (.iconst 0, 1) := by decide +kernel
theorem dL_law_539 : decode cL_law 539 = .ok (.ireturn, 1) := by decide +kernel
theorem dL_law_540 : decode cL_law 540 = .ok (.iload 5, 2) := by decide +kernel
theorem dL_law_542 : decode cL_law 542 = .ok (.ifCond .ne 15, 3) := by decide +kernel
theorem dL_law_545 : decode cL_law 545 = .ok (.aload_n 3, 1) := by decide +kernel
theorem dL_law_546 : decode cL_law 546 = .ok (.iconst 0, 1) := by decide +kernel
theorem dL_law_547 : decode cL_law 547 = .ok (.laload, 1) := by decide +kernel
theorem dL_law_548 : decode cL_law 548 = .ok (.iload 6, 2) := by decide +kernel
theorem dL_law_550 : decode cL_law 550 = .ok (.i2l, 1) := by decide +kernel
theorem dL_law_551 : decode cL_law 551 = .ok (.lcmp, 1) := by decide +kernel
theorem dL_law_552 : decode cL_law 552 = .ok (.ifCond .eq 5, 3) := by decide +kernel
theorem dL_law_555 : decode cL_law 555 = .ok (.iconst 0, 1) := by decide +kernel
theorem dL_law_556 : decode cL_law 556 = .ok (.ireturn, 1) := by decide +kernel
theorem dL_law_557 : decode cL_law 557 = .ok (.goto 1187, 3) := by decide +kernel
theorem dL_law_560 : decode cL_law 560 = .ok (.aload_n 1, 1) := by decide +kernel
theorem dL_law_561 : decode cL_law 561 = .ok (.aload_n 0, 1) := by decide +kernel
theorem dL_law_562 : decode cL_law 562 = .ok (.iload 4, 2) := by decide +kernel
theorem dL_law_564 : decode cL_law 564 = .ok (.iconst 1, 1) := by decide +kernel
theorem dL_law_565 : decode cL_law 565 = .ok (.iadd, 1) := by decide +kernel
theorem dL_law_566 : decode cL_law 566 = .ok (.iaload, 1) := by decide +kernel
theorem dL_law_567 : decode cL_law 567 = .ok (.aload_n 0, 1) := by decide +kernel
theorem dL_law_568 : decode cL_law 568 = .ok (.iload 4, 2) := by decide +kernel
theorem dL_law_570 : decode cL_law 570 = .ok (.iconst 2, 1) := by decide +kernel
theorem dL_law_571 : decode cL_law 571 = .ok (.iadd, 1) := by decide +kernel
theorem dL_law_572 : decode cL_law 572 = .ok (.iaload, 1) := by decide +kernel
theorem dL_law_573 : decode cL_law 573 = .ok (.aload_n 3, 1) := by decide +kernel
theorem dL_law_574 : decode cL_law 574 = .ok (.invokestatic 114, 3) := by decide +kernel
theorem dL_law_577 : decode cL_law 577 = .ok (.istore 5, 2) := by decide +kernel
theorem dL_law_579 : decode cL_law 579 = .ok (.aload_n 2, 1) := by decide +kernel
theorem dL_law_580 : decode cL_law 580 = .ok (.aload_n 0, 1) := by decide +kernel
theorem dL_law_581 : decode cL_law 581 = .ok (.iload 4, 2) := by decide +kernel
theorem dL_law_583 : decode cL_law 583 = .ok (.iconst 1, 1) := by decide +kernel
theorem dL_law_584 : decode cL_law 584 = .ok (.iadd, 1) := by decide +kernel
theorem dL_law_585 : decode cL_law 585 = .ok (.iaload, 1) := by decide +kernel
theorem dL_law_586 : decode cL_law 586 = .ok (.aload_n 0, 1) := by decide +kernel
theorem dL_law_587 : decode cL_law 587 = .ok (.iload 4, 2) := by decide +kernel
theorem dL_law_589 : decode cL_law 589 = .ok (.iconst 2, 1) := by decide +kernel
theorem dL_law_590 : decode cL_law 590 = .ok (.iadd, 1) := by decide +kernel
theorem dL_law_591 : decode cL_law 591 = .ok (.iaload, 1) := by decide +kernel
theorem dL_law_592 : decode cL_law 592 = .ok (.invokevirtual 116, 3) := by decide +kernel
theorem dL_law_595 : decode cL_law 595 = .ok (.istore 6, 2) := by decide +kernel
theorem dL_law_597 : decode cL_law 597 = .ok (.aload_n 2, 1) := by decide +kernel
theorem dL_law_598 : decode cL_law 598 = .ok (.invokevirtual 97, 3) := by decide +kernel
theorem dL_law_601 : decode cL_law 601 = .ok (.iload 5, 2) := by decide +kernel
theorem dL_law_603 : decode cL_law 603 = .ok (.if_icmp .eq 5, 3) := by decide +kernel
theorem dL_law_606 : decode cL_law 606 = .ok (.iconst 0, 1) := by decide +kernel
theorem dL_law_607 : decode cL_law 607 = .ok (.ireturn, 1) := by decide +kernel
theorem dL_law_608 : decode cL_law 608 = .ok (.iload 5, 2) := by decide +kernel
theorem dL_law_610 : decode cL_law 610 = .ok (.ifCond .ne 15, 3) := by decide +kernel
theorem dL_law_613 : decode cL_law 613 = .ok (.aload_n 3, 1) := by decide +kernel
theorem dL_law_614 : decode cL_law 614 = .ok (.iconst 0, 1) := by decide +kernel
theorem dL_law_615 : decode cL_law 615 = .ok (.laload, 1) := by decide +kernel
theorem dL_law_616 : decode cL_law 616 = .ok (.iload 6, 2) := by decide +kernel
theorem dL_law_618 : decode cL_law 618 = .ok (.i2l, 1) := by decide +kernel
theorem dL_law_619 : decode cL_law 619 = .ok (.lcmp, 1) := by decide +kernel
theorem dL_law_620 : decode cL_law 620 = .ok (.ifCond .eq 5, 3) := by decide +kernel
theorem dL_law_623 : decode cL_law 623 = .ok (.iconst 0, 1) := by decide +kernel
theorem dL_law_624 : decode cL_law 624 = .ok (.ireturn, 1) := by decide +kernel
theorem dL_law_625 : decode cL_law 625 = .ok (.goto 1119, 3) := by decide +kernel
theorem dL_law_628 : decode cL_law 628 = .ok (.aload_n 1, 1) := by decide +kernel
theorem dL_law_629 : decode cL_law 629 = .ok (.aload_n 0, 1) := by decide +kernel
theorem dL_law_630 : decode cL_law 630 = .ok (.iload 4, 2) := by decide +kernel
theorem dL_law_632 : decode cL_law 632 = .ok (.iconst 1, 1) := by decide +kernel
theorem dL_law_633 : decode cL_law 633 = .ok (.iadd, 1) := by decide +kernel
theorem dL_law_634 : decode cL_law 634 = .ok (.iaload, 1) := by decide +kernel
theorem dL_law_635 : decode cL_law 635 = .ok (.aload_n 3, 1) := by decide +kernel
theorem dL_law_636 : decode cL_law 636 = .ok (.invokestatic 117, 3) := by decide +kernel
theorem dL_law_639 : decode cL_law 639 = .ok (.istore 5, 2) := by decide +kernel
theorem dL_law_641 : decode cL_law 641 = .ok (.aload_n 2, 1) := by decide +kernel
theorem dL_law_642 : decode cL_law 642 = .ok (.aload_n 0, 1) := by decide +kernel
theorem dL_law_643 : decode cL_law 643 = .ok (.iload 4, 2) := by decide +kernel
theorem dL_law_645 : decode cL_law 645 = .ok (.iconst 1, 1) := by decide +kernel
theorem dL_law_646 : decode cL_law 646 = .ok (.iadd, 1) := by decide +kernel
theorem dL_law_647 : decode cL_law 647 = .ok (.iaload, 1) := by decide +kernel
theorem dL_law_648 : decode cL_law 648 = .ok (.invokevirtual 120, 3) := by decide +kernel
theorem dL_law_651 : decode cL_law 651 = .ok (.istore 6, 2) := by decide +kernel
theorem dL_law_653 : decode cL_law 653 = .ok (.aload_n 2, 1) := by decide +kernel
theorem dL_law_654 : decode cL_law 654 = .ok (.invokevirtual 97, 3) := by decide +kernel
theorem dL_law_657 : decode cL_law 657 = .ok (.iload 5, 2) := by decide +kernel
theorem dL_law_659 : decode cL_law 659 = .ok (.if_icmp .eq 5, 3) := by decide +kernel
theorem dL_law_662 : decode cL_law 662 = .ok (.iconst 0, 1) := by decide +kernel
theorem dL_law_663 : decode cL_law 663 = .ok (.ireturn, 1) := by decide +kernel
theorem dL_law_664 : decode cL_law 664 = .ok (.iload 5, 2) := by decide +kernel
theorem dL_law_666 : decode cL_law 666 = .ok (.ifCond .ne 15, 3) := by decide +kernel
theorem dL_law_669 : decode cL_law 669 = .ok (.aload_n 3, 1) := by decide +kernel
theorem dL_law_670 : decode cL_law 670 = .ok (.iconst 0, 1) := by decide +kernel
theorem dL_law_671 : decode cL_law 671 = .ok (.laload, 1) := by decide +kernel
theorem dL_law_672 : decode cL_law 672 = .ok (.iload 6, 2) := by decide +kernel
theorem dL_law_674 : decode cL_law 674 = .ok (.i2l, 1) := by decide +kernel
theorem dL_law_675 : decode cL_law 675 = .ok (.lcmp, 1) := by decide +kernel
theorem dL_law_676 : decode cL_law 676 = .ok (.ifCond .eq 5, 3) := by decide +kernel
theorem dL_law_679 : decode cL_law 679 = .ok (.iconst 0, 1) := by decide +kernel
theorem dL_law_680 : decode cL_law 680 = .ok (.ireturn, 1) := by decide +kernel
theorem dL_law_681 : decode cL_law 681 = .ok (.goto 1063, 3) := by decide +kernel
theorem dL_law_684 : decode cL_law 684 = .ok (.aload_n 1, 1) := by decide +kernel
theorem dL_law_685 : decode cL_law 685 = .ok (.aload_n 0, 1) := by decide +kernel
theorem dL_law_686 : decode cL_law 686 = .ok (.iload 4, 2) := by decide +kernel
theorem dL_law_688 : decode cL_law 688 = .ok (.iconst 1, 1) := by decide +kernel
theorem dL_law_689 : decode cL_law 689 = .ok (.iadd, 1) := by decide +kernel
theorem dL_law_690 : decode cL_law 690 = .ok (.iaload, 1) := by decide +kernel
theorem dL_law_691 : decode cL_law 691 = .ok (.aload_n 3, 1) := by decide +kernel
theorem dL_law_692 : decode cL_law 692 = .ok (.invokestatic 121, 3) := by decide +kernel
theorem dL_law_695 : decode cL_law 695 = .ok (.istore 5, 2) := by decide +kernel
theorem dL_law_697 : decode cL_law 697 = .ok (.aload_n 2, 1) := by decide +kernel
theorem dL_law_698 : decode cL_law 698 = .ok (.aload_n 0, 1) := by decide +kernel
theorem dL_law_699 : decode cL_law 699 = .ok (.iload 4, 2) := by decide +kernel
theorem dL_law_701 : decode cL_law 701 = .ok (.iconst 1, 1) := by decide +kernel
theorem dL_law_702 : decode cL_law 702 = .ok (.iadd, 1) := by decide +kernel
theorem dL_law_703 : decode cL_law 703 = .ok (.iaload, 1) := by decide +kernel
theorem dL_law_704 : decode cL_law 704 = .ok (.invokevirtual 123, 3) := by decide +kernel
theorem dL_law_707 : decode cL_law 707 = .ok (.istore 6, 2) := by decide +kernel
theorem dL_law_709 : decode cL_law 709 = .ok (.aload_n 2, 1) := by decide +kernel
theorem dL_law_710 : decode cL_law 710 = .ok (.invokevirtual 97, 3) := by decide +kernel
theorem dL_law_713 : decode cL_law 713 = .ok (.iload 5, 2) := by decide +kernel
theorem dL_law_715 : decode cL_law 715 = .ok (.if_icmp .eq 5, 3) := by decide +kernel
theorem dL_law_718 : decode cL_law 718 = .ok (.iconst 0, 1) := by decide +kernel
theorem dL_law_719 : decode cL_law 719 = .ok (.ireturn, 1) := by decide +kernel
theorem dL_law_720 : decode cL_law 720 = .ok (.iload 5, 2) := by decide +kernel
theorem dL_law_722 : decode cL_law 722 = .ok (.ifCond .ne 15, 3) := by decide +kernel
theorem dL_law_725 : decode cL_law 725 = .ok (.aload_n 3, 1) := by decide +kernel
theorem dL_law_726 : decode cL_law 726 = .ok (.iconst 0, 1) := by decide +kernel
theorem dL_law_727 : decode cL_law 727 = .ok (.laload, 1) := by decide +kernel
theorem dL_law_728 : decode cL_law 728 = .ok (.iload 6, 2) := by decide +kernel
theorem dL_law_730 : decode cL_law 730 = .ok (.i2l, 1) := by decide +kernel
theorem dL_law_731 : decode cL_law 731 = .ok (.lcmp, 1) := by decide +kernel
theorem dL_law_732 : decode cL_law 732 = .ok (.ifCond .eq 5, 3) := by decide +kernel
theorem dL_law_735 : decode cL_law 735 = .ok (.iconst 0, 1) := by decide +kernel
theorem dL_law_736 : decode cL_law 736 = .ok (.ireturn, 1) := by decide +kernel
theorem dL_law_737 : decode cL_law 737 = .ok (.goto 1007, 3) := by decide +kernel
theorem dL_law_740 : decode cL_law 740 = .ok (.aload_n 1, 1) := by decide +kernel
theorem dL_law_741 : decode cL_law 741 = .ok (.aload_n 0, 1) := by decide +kernel
theorem dL_law_742 : decode cL_law 742 = .ok (.iload 4, 2) := by decide +kernel
theorem dL_law_744 : decode cL_law 744 = .ok (.iconst 1, 1) := by decide +kernel
theorem dL_law_745 : decode cL_law 745 = .ok (.iadd, 1) := by decide +kernel
theorem dL_law_746 : decode cL_law 746 = .ok (.iaload, 1) := by decide +kernel
theorem dL_law_747 : decode cL_law 747 = .ok (.aload_n 0, 1) := by decide +kernel
theorem dL_law_748 : decode cL_law 748 = .ok (.iload 4, 2) := by decide +kernel
theorem dL_law_750 : decode cL_law 750 = .ok (.iconst 2, 1) := by decide +kernel
theorem dL_law_751 : decode cL_law 751 = .ok (.iadd, 1) := by decide +kernel
theorem dL_law_752 : decode cL_law 752 = .ok (.iaload, 1) := by decide +kernel
theorem dL_law_753 : decode cL_law 753 = .ok (.aload_n 0, 1) := by decide +kernel
theorem dL_law_754 : decode cL_law 754 = .ok (.iload 4, 2) := by decide +kernel
theorem dL_law_756 : decode cL_law 756 = .ok (.iconst 3, 1) := by decide +kernel
theorem dL_law_757 : decode cL_law 757 = .ok (.iadd, 1) := by decide +kernel
theorem dL_law_758 : decode cL_law 758 = .ok (.iaload, 1) := by decide +kernel
theorem dL_law_759 : decode cL_law 759 = .ok (.aload_n 3, 1) := by decide +kernel
theorem dL_law_760 : decode cL_law 760 = .ok (.invokestatic 124, 3) := by decide +kernel
theorem dL_law_763 : decode cL_law 763 = .ok (.istore 5, 2) := by decide +kernel
theorem dL_law_765 : decode cL_law 765 = .ok (.aload_n 2, 1) := by decide +kernel
theorem dL_law_766 : decode cL_law 766 = .ok (.aload_n 0, 1) := by decide +kernel
theorem dL_law_767 : decode cL_law 767 = .ok (.iload 4, 2) := by decide +kernel
theorem dL_law_769 : decode cL_law 769 = .ok (.iconst 1, 1) := by decide +kernel
theorem dL_law_770 : decode cL_law 770 = .ok (.iadd, 1) := by decide +kernel
theorem dL_law_771 : decode cL_law 771 = .ok (.iaload, 1) := by decide +kernel
theorem dL_law_772 : decode cL_law 772 = .ok (.aload_n 0, 1) := by decide +kernel
theorem dL_law_773 : decode cL_law 773 = .ok (.iload 4, 2) := by decide +kernel
theorem dL_law_775 : decode cL_law 775 = .ok (.iconst 2, 1) := by decide +kernel
theorem dL_law_776 : decode cL_law 776 = .ok (.iadd, 1) := by decide +kernel
theorem dL_law_777 : decode cL_law 777 = .ok (.iaload, 1) := by decide +kernel
theorem dL_law_778 : decode cL_law 778 = .ok (.aload_n 0, 1) := by decide +kernel
theorem dL_law_779 : decode cL_law 779 = .ok (.iload 4, 2) := by decide +kernel
theorem dL_law_781 : decode cL_law 781 = .ok (.iconst 3, 1) := by decide +kernel
theorem dL_law_782 : decode cL_law 782 = .ok (.iadd, 1) := by decide +kernel
theorem dL_law_783 : decode cL_law 783 = .ok (.iaload, 1) := by decide +kernel
theorem dL_law_784 : decode cL_law 784 = .ok (.invokevirtual 126, 3) := by decide +kernel
theorem dL_law_787 : decode cL_law 787 = .ok (.istore 6, 2) := by decide +kernel
theorem dL_law_789 : decode cL_law 789 = .ok (.aload_n 2, 1) := by decide +kernel
theorem dL_law_790 : decode cL_law 790 = .ok (.invokevirtual 97, 3) := by decide +kernel
theorem dL_law_793 : decode cL_law 793 = .ok (.iload 5, 2) := by decide +kernel
theorem dL_law_795 : decode cL_law 795 = .ok (.if_icmp .eq 5, 3) := by decide +kernel
theorem dL_law_798 : decode cL_law 798 = .ok (.iconst 0, 1) := by decide +kernel
theorem dL_law_799 : decode cL_law 799 = .ok (.ireturn, 1) := by decide +kernel
theorem dL_law_800 : decode cL_law 800 = .ok (.iload 5, 2) := by decide +kernel
theorem dL_law_802 : decode cL_law 802 = .ok (.ifCond .ne 15, 3) := by decide +kernel
theorem dL_law_805 : decode cL_law 805 = .ok (.aload_n 3, 1) := by decide +kernel
theorem dL_law_806 : decode cL_law 806 = .ok (.iconst 0, 1) := by decide +kernel
theorem dL_law_807 : decode cL_law 807 = .ok (.laload, 1) := by decide +kernel
theorem dL_law_808 : decode cL_law 808 = .ok (.iload 6, 2) := by decide +kernel
theorem dL_law_810 : decode cL_law 810 = .ok (.i2l, 1) := by decide +kernel
theorem dL_law_811 : decode cL_law 811 = .ok (.lcmp, 1) := by decide +kernel
theorem dL_law_812 : decode cL_law 812 = .ok (.ifCond .eq 5, 3) := by decide +kernel
theorem dL_law_815 : decode cL_law 815 = .ok (.iconst 0, 1) := by decide +kernel
theorem dL_law_816 : decode cL_law 816 = .ok (.ireturn, 1) := by decide +kernel
theorem dL_law_817 : decode cL_law 817 = .ok (.goto 927, 3) := by decide +kernel
theorem dL_law_820 : decode cL_law 820 = .ok (.aload_n 1, 1) := by decide +kernel
theorem dL_law_821 : decode cL_law 821 = .ok (.aload_n 0, 1) := by decide +kernel
theorem dL_law_822 : decode cL_law 822 = .ok (.iload 4, 2) := by decide +kernel
theorem dL_law_824 : decode cL_law 824 = .ok (.iconst 1, 1) := by decide +kernel
theorem dL_law_825 : decode cL_law 825 = .ok (.iadd, 1) := by decide +kernel
theorem dL_law_826 : decode cL_law 826 = .ok (.iaload, 1) := by decide +kernel
theorem dL_law_827 : decode cL_law 827 = .ok (.aload_n 0, 1) := by decide +kernel
theorem dL_law_828 : decode cL_law 828 = .ok (.iload 4, 2) := by decide +kernel
theorem dL_law_830 : decode cL_law 830 = .ok (.iconst 2, 1) := by decide +kernel
theorem dL_law_831 : decode cL_law 831 = .ok (.iadd, 1) := by decide +kernel
theorem dL_law_832 : decode cL_law 832 = .ok (.iaload, 1) := by decide +kernel
theorem dL_law_833 : decode cL_law 833 = .ok (.aload_n 3, 1) := by decide +kernel
theorem dL_law_834 : decode cL_law 834 = .ok (.invokestatic 127, 3) := by decide +kernel
theorem dL_law_837 : decode cL_law 837 = .ok (.istore 5, 2) := by decide +kernel
theorem dL_law_839 : decode cL_law 839 = .ok (.aload_n 2, 1) := by decide +kernel
theorem dL_law_840 : decode cL_law 840 = .ok (.aload_n 0, 1) := by decide +kernel
theorem dL_law_841 : decode cL_law 841 = .ok (.iload 4, 2) := by decide +kernel
theorem dL_law_843 : decode cL_law 843 = .ok (.iconst 1, 1) := by decide +kernel
theorem dL_law_844 : decode cL_law 844 = .ok (.iadd, 1) := by decide +kernel
theorem dL_law_845 : decode cL_law 845 = .ok (.iaload, 1) := by decide +kernel
theorem dL_law_846 : decode cL_law 846 = .ok (.aload_n 0, 1) := by decide +kernel
theorem dL_law_847 : decode cL_law 847 = .ok (.iload 4, 2) := by decide +kernel
theorem dL_law_849 : decode cL_law 849 = .ok (.iconst 2, 1) := by decide +kernel
theorem dL_law_850 : decode cL_law 850 = .ok (.iadd, 1) := by decide +kernel
theorem dL_law_851 : decode cL_law 851 = .ok (.iaload, 1) := by decide +kernel
theorem dL_law_852 : decode cL_law 852 = .ok (.invokevirtual 129, 3) := by decide +kernel
theorem dL_law_855 : decode cL_law 855 = .ok (.istore 6, 2) := by decide +kernel
theorem dL_law_857 : decode cL_law 857 = .ok (.aload_n 2, 1) := by decide +kernel
theorem dL_law_858 : decode cL_law 858 = .ok (.invokevirtual 97, 3) := by decide +kernel
theorem dL_law_861 : decode cL_law 861 = .ok (.iload 5, 2) := by decide +kernel
theorem dL_law_863 : decode cL_law 863 = .ok (.if_icmp .eq 5, 3) := by decide +kernel
theorem dL_law_866 : decode cL_law 866 = .ok (.iconst 0, 1) := by decide +kernel
theorem dL_law_867 : decode cL_law 867 = .ok (.ireturn, 1) := by decide +kernel
theorem dL_law_868 : decode cL_law 868 = .ok (.iload 5, 2) := by decide +kernel
theorem dL_law_870 : decode cL_law 870 = .ok (.ifCond .ne 15, 3) := by decide +kernel
theorem dL_law_873 : decode cL_law 873 = .ok (.aload_n 3, 1) := by decide +kernel
theorem dL_law_874 : decode cL_law 874 = .ok (.iconst 0, 1) := by decide +kernel
theorem dL_law_875 : decode cL_law 875 = .ok (.laload, 1) := by decide +kernel
theorem dL_law_876 : decode cL_law 876 = .ok (.iload 6, 2) := by decide +kernel
theorem dL_law_878 : decode cL_law 878 = .ok (.i2l, 1) := by decide +kernel
theorem dL_law_879 : decode cL_law 879 = .ok (.lcmp, 1) := by decide +kernel
theorem dL_law_880 : decode cL_law 880 = .ok (.ifCond .eq 5, 3) := by decide +kernel
theorem dL_law_883 : decode cL_law 883 = .ok (.iconst 0, 1) := by decide +kernel
theorem dL_law_884 : decode cL_law 884 = .ok (.ireturn, 1) := by decide +kernel
theorem dL_law_885 : decode cL_law 885 = .ok (.goto 859, 3) := by decide +kernel
theorem dL_law_888 : decode cL_law 888 = .ok (.aload_n 1, 1) := by decide +kernel
theorem dL_law_889 : decode cL_law 889 = .ok (.aload_n 0, 1) := by decide +kernel
theorem dL_law_890 : decode cL_law 890 = .ok (.iload 4, 2) := by decide +kernel
theorem dL_law_892 : decode cL_law 892 = .ok (.iconst 1, 1) := by decide +kernel
theorem dL_law_893 : decode cL_law 893 = .ok (.iadd, 1) := by decide +kernel
theorem dL_law_894 : decode cL_law 894 = .ok (.iaload, 1) := by decide +kernel
theorem dL_law_895 : decode cL_law 895 = .ok (.aload_n 0, 1) := by decide +kernel
theorem dL_law_896 : decode cL_law 896 = .ok (.iload 4, 2) := by decide +kernel
theorem dL_law_898 : decode cL_law 898 = .ok (.iconst 2, 1) := by decide +kernel
theorem dL_law_899 : decode cL_law 899 = .ok (.iadd, 1) := by decide +kernel
theorem dL_law_900 : decode cL_law 900 = .ok (.iaload, 1) := by decide +kernel
theorem dL_law_901 : decode cL_law 901 = .ok (.aload_n 3, 1) := by decide +kernel
theorem dL_law_902 : decode cL_law 902 = .ok (.invokestatic 130, 3) := by decide +kernel
theorem dL_law_905 : decode cL_law 905 = .ok (.istore 5, 2) := by decide +kernel
theorem dL_law_907 : decode cL_law 907 = .ok (.aload_n 2, 1) := by decide +kernel
theorem dL_law_908 : decode cL_law 908 = .ok (.aload_n 0, 1) := by decide +kernel
theorem dL_law_909 : decode cL_law 909 = .ok (.iload 4, 2) := by decide +kernel
theorem dL_law_911 : decode cL_law 911 = .ok (.iconst 1, 1) := by decide +kernel
theorem dL_law_912 : decode cL_law 912 = .ok (.iadd, 1) := by decide +kernel
theorem dL_law_913 : decode cL_law 913 = .ok (.iaload, 1) := by decide +kernel
theorem dL_law_914 : decode cL_law 914 = .ok (.aload_n 0, 1) := by decide +kernel
theorem dL_law_915 : decode cL_law 915 = .ok (.iload 4, 2) := by decide +kernel
theorem dL_law_917 : decode cL_law 917 = .ok (.iconst 2, 1) := by decide +kernel
theorem dL_law_918 : decode cL_law 918 = .ok (.iadd, 1) := by decide +kernel
theorem dL_law_919 : decode cL_law 919 = .ok (.iaload, 1) := by decide +kernel
theorem dL_law_920 : decode cL_law 920 = .ok (.invokevirtual 132, 3) := by decide +kernel
theorem dL_law_923 : decode cL_law 923 = .ok (.istore 6, 2) := by decide +kernel
theorem dL_law_925 : decode cL_law 925 = .ok (.aload_n 2, 1) := by decide +kernel
theorem dL_law_926 : decode cL_law 926 = .ok (.invokevirtual 97, 3) := by decide +kernel
theorem dL_law_929 : decode cL_law 929 = .ok (.iload 5, 2) := by decide +kernel
theorem dL_law_931 : decode cL_law 931 = .ok (.if_icmp .eq 5, 3) := by decide +kernel
theorem dL_law_934 : decode cL_law 934 = .ok (.iconst 0, 1) := by decide +kernel
theorem dL_law_935 : decode cL_law 935 = .ok (.ireturn, 1) := by decide +kernel
theorem dL_law_936 : decode cL_law 936 = .ok (.iload 5, 2) := by decide +kernel
theorem dL_law_938 : decode cL_law 938 = .ok (.ifCond .ne 15, 3) := by decide +kernel
theorem dL_law_941 : decode cL_law 941 = .ok (.aload_n 3, 1) := by decide +kernel
theorem dL_law_942 : decode cL_law 942 = .ok (.iconst 0, 1) := by decide +kernel
theorem dL_law_943 : decode cL_law 943 = .ok (.laload, 1) := by decide +kernel
theorem dL_law_944 : decode cL_law 944 = .ok (.iload 6, 2) := by decide +kernel
theorem dL_law_946 : decode cL_law 946 = .ok (.i2l, 1) := by decide +kernel
theorem dL_law_947 : decode cL_law 947 = .ok (.lcmp, 1) := by decide +kernel
theorem dL_law_948 : decode cL_law 948 = .ok (.ifCond .eq 5, 3) := by decide +kernel
theorem dL_law_951 : decode cL_law 951 = .ok (.iconst 0, 1) := by decide +kernel
theorem dL_law_952 : decode cL_law 952 = .ok (.ireturn, 1) := by decide +kernel
theorem dL_law_953 : decode cL_law 953 = .ok (.goto 791, 3) := by decide +kernel
theorem dL_law_956 : decode cL_law 956 = .ok (.aload_n 1, 1) := by decide +kernel
theorem dL_law_957 : decode cL_law 957 = .ok (.aload_n 0, 1) := by decide +kernel
theorem dL_law_958 : decode cL_law 958 = .ok (.iload 4, 2) := by decide +kernel
theorem dL_law_960 : decode cL_law 960 = .ok (.iconst 1, 1) := by decide +kernel
theorem dL_law_961 : decode cL_law 961 = .ok (.iadd, 1) := by decide +kernel
theorem dL_law_962 : decode cL_law 962 = .ok (.iaload, 1) := by decide +kernel
theorem dL_law_963 : decode cL_law 963 = .ok (.aload_n 0, 1) := by decide +kernel
theorem dL_law_964 : decode cL_law 964 = .ok (.iload 4, 2) := by decide +kernel
theorem dL_law_966 : decode cL_law 966 = .ok (.iconst 2, 1) := by decide +kernel
theorem dL_law_967 : decode cL_law 967 = .ok (.iadd, 1) := by decide +kernel
theorem dL_law_968 : decode cL_law 968 = .ok (.iaload, 1) := by decide +kernel
theorem dL_law_969 : decode cL_law 969 = .ok (.aload_n 0, 1) := by decide +kernel
theorem dL_law_970 : decode cL_law 970 = .ok (.iload 4, 2) := by decide +kernel
theorem dL_law_972 : decode cL_law 972 = .ok (.iconst 3, 1) := by decide +kernel
theorem dL_law_973 : decode cL_law 973 = .ok (.iadd, 1) := by decide +kernel
theorem dL_law_974 : decode cL_law 974 = .ok (.iaload, 1) := by decide +kernel
theorem dL_law_975 : decode cL_law 975 = .ok (.aload_n 3, 1) := by decide +kernel
theorem dL_law_976 : decode cL_law 976 = .ok (.invokestatic 133, 3) := by decide +kernel
theorem dL_law_979 : decode cL_law 979 = .ok (.istore 5, 2) := by decide +kernel
theorem dL_law_981 : decode cL_law 981 = .ok (.aload_n 2, 1) := by decide +kernel
theorem dL_law_982 : decode cL_law 982 = .ok (.aload_n 0, 1) := by decide +kernel
theorem dL_law_983 : decode cL_law 983 = .ok (.iload 4, 2) := by decide +kernel
theorem dL_law_985 : decode cL_law 985 = .ok (.iconst 1, 1) := by decide +kernel
theorem dL_law_986 : decode cL_law 986 = .ok (.iadd, 1) := by decide +kernel
theorem dL_law_987 : decode cL_law 987 = .ok (.iaload, 1) := by decide +kernel
theorem dL_law_988 : decode cL_law 988 = .ok (.aload_n 0, 1) := by decide +kernel
theorem dL_law_989 : decode cL_law 989 = .ok (.iload 4, 2) := by decide +kernel
theorem dL_law_991 : decode cL_law 991 = .ok (.iconst 2, 1) := by decide +kernel
theorem dL_law_992 : decode cL_law 992 = .ok (.iadd, 1) := by decide +kernel
theorem dL_law_993 : decode cL_law 993 = .ok (.iaload, 1) := by decide +kernel
theorem dL_law_994 : decode cL_law 994 = .ok (.aload_n 0, 1) := by decide +kernel
theorem dL_law_995 : decode cL_law 995 = .ok (.iload 4, 2) := by decide +kernel
theorem dL_law_997 : decode cL_law 997 = .ok (.iconst 3, 1) := by decide +kernel
theorem dL_law_998 : decode cL_law 998 = .ok (.iadd, 1) := by decide +kernel
theorem dL_law_999 : decode cL_law 999 = .ok (.iaload, 1) := by decide +kernel
theorem dL_law_1000 : decode cL_law 1000 = .ok (.invokevirtual 135, 3) := by decide +kernel
theorem dL_law_1003 : decode cL_law 1003 = .ok (.istore 6, 2) := by decide +kernel
theorem dL_law_1005 : decode cL_law 1005 = .ok (.aload_n 2, 1) := by decide +kernel
theorem dL_law_1006 : decode cL_law 1006 = .ok (.invokevirtual 97, 3) := by decide +kernel
theorem dL_law_1009 : decode cL_law 1009 = .ok (.iload 5, 2) := by decide +kernel
theorem dL_law_1011 : decode cL_law 1011 = .ok (.if_icmp .eq 5, 3) := by decide +kernel
theorem dL_law_1014 : decode cL_law 1014 = .ok (.iconst 0, 1) := by decide +kernel
theorem dL_law_1015 : decode cL_law 1015 = .ok (.ireturn, 1) := by decide +kernel
theorem dL_law_1016 : decode cL_law 1016 = .ok (.iload 5, 2) := by decide +kernel
theorem dL_law_1018 : decode cL_law 1018 = .ok (.ifCond .ne 15, 3) := by decide +kernel
theorem dL_law_1021 : decode cL_law 1021 = .ok (.aload_n 3, 1) := by decide +kernel
theorem dL_law_1022 : decode cL_law 1022 = .ok (.iconst 0, 1) := by decide +kernel
theorem dL_law_1023 : decode cL_law 1023 = .ok (.laload, 1) := by decide +kernel
theorem dL_law_1024 : decode cL_law 1024 = .ok (.iload 6, 2) := by decide +kernel
theorem dL_law_1026 : decode cL_law 1026 = .ok (.i2l, 1) := by decide +kernel
theorem dL_law_1027 : decode cL_law 1027 = .ok (.lcmp, 1) := by decide +kernel
theorem dL_law_1028 : decode cL_law 1028 = .ok (.ifCond .eq 5, 3) := by decide +kernel
theorem dL_law_1031 : decode cL_law 1031 = .ok (.iconst 0, 1) := by decide +kernel
theorem dL_law_1032 : decode cL_law 1032 = .ok (.ireturn, 1) := by decide +kernel
theorem dL_law_1033 : decode cL_law 1033 = .ok (.goto 711, 3) := by decide +kernel
theorem dL_law_1036 : decode cL_law 1036 = .ok (.aload_n 1, 1) := by decide +kernel
theorem dL_law_1037 : decode cL_law 1037 = .ok (.aload_n 0, 1) := by decide +kernel
theorem dL_law_1038 : decode cL_law 1038 = .ok (.iload 4, 2) := by decide +kernel
theorem dL_law_1040 : decode cL_law 1040 = .ok (.iconst 1, 1) := by decide +kernel
theorem dL_law_1041 : decode cL_law 1041 = .ok (.iadd, 1) := by decide +kernel
theorem dL_law_1042 : decode cL_law 1042 = .ok (.iaload, 1) := by decide +kernel
theorem dL_law_1043 : decode cL_law 1043 = .ok (.aload_n 3, 1) := by decide +kernel
theorem dL_law_1044 : decode cL_law 1044 = .ok (.invokestatic 136, 3) := by decide +kernel
theorem dL_law_1047 : decode cL_law 1047 = .ok (.istore 5, 2) := by decide +kernel
theorem dL_law_1049 : decode cL_law 1049 = .ok (.aload_n 2, 1) := by decide +kernel
theorem dL_law_1050 : decode cL_law 1050 = .ok (.aload_n 0, 1) := by decide +kernel
theorem dL_law_1051 : decode cL_law 1051 = .ok (.iload 4, 2) := by decide +kernel
theorem dL_law_1053 : decode cL_law 1053 = .ok (.iconst 1, 1) := by decide +kernel
theorem dL_law_1054 : decode cL_law 1054 = .ok (.iadd, 1) := by decide +kernel
theorem dL_law_1055 : decode cL_law 1055 = .ok (.iaload, 1) := by decide +kernel
theorem dL_law_1056 : decode cL_law 1056 = .ok (.invokevirtual 138, 3) := by decide +kernel
theorem dL_law_1059 : decode cL_law 1059 = .ok (.istore 6, 2) := by decide +kernel
theorem dL_law_1061 : decode cL_law 1061 = .ok (.aload_n 2, 1) := by decide +kernel
theorem dL_law_1062 : decode cL_law 1062 = .ok (.invokevirtual 97, 3) := by decide +kernel
theorem dL_law_1065 : decode cL_law 1065 = .ok (.iload 5, 2) := by decide +kernel
theorem dL_law_1067 : decode cL_law 1067 = .ok (.if_icmp .eq 5, 3) := by decide +kernel
theorem dL_law_1070 : decode cL_law 1070 = .ok (.iconst 0, 1) := by decide +kernel
theorem dL_law_1071 : decode cL_law 1071 = .ok (.ireturn, 1) := by decide +kernel
theorem dL_law_1072 : decode cL_law 1072 = .ok (.iload 5, 2) := by decide +kernel
theorem dL_law_1074 : decode cL_law 1074 = .ok (.ifCond .ne 15, 3) := by decide +kernel
theorem dL_law_1077 : decode cL_law 1077 = .ok (.aload_n 3, 1) := by decide +kernel
theorem dL_law_1078 : decode cL_law 1078 = .ok (.iconst 0, 1) := by decide +kernel
theorem dL_law_1079 : decode cL_law 1079 = .ok (.laload, 1) := by decide +kernel
theorem dL_law_1080 : decode cL_law 1080 = .ok (.iload 6, 2) := by decide +kernel
theorem dL_law_1082 : decode cL_law 1082 = .ok (.i2l, 1) := by decide +kernel
theorem dL_law_1083 : decode cL_law 1083 = .ok (.lcmp, 1) := by decide +kernel
theorem dL_law_1084 : decode cL_law 1084 = .ok (.ifCond .eq 5, 3) := by decide +kernel
theorem dL_law_1087 : decode cL_law 1087 = .ok (.iconst 0, 1) := by decide +kernel
theorem dL_law_1088 : decode cL_law 1088 = .ok (.ireturn, 1) := by decide +kernel
theorem dL_law_1089 : decode cL_law 1089 = .ok (.goto 655, 3) := by decide +kernel
theorem dL_law_1092 : decode cL_law 1092 = .ok (.aload_n 1, 1) := by decide +kernel
theorem dL_law_1093 : decode cL_law 1093 = .ok (.aload_n 0, 1) := by decide +kernel
theorem dL_law_1094 : decode cL_law 1094 = .ok (.iload 4, 2) := by decide +kernel
theorem dL_law_1096 : decode cL_law 1096 = .ok (.iconst 1, 1) := by decide +kernel
theorem dL_law_1097 : decode cL_law 1097 = .ok (.iadd, 1) := by decide +kernel
theorem dL_law_1098 : decode cL_law 1098 = .ok (.iaload, 1) := by decide +kernel
theorem dL_law_1099 : decode cL_law 1099 = .ok (.aload_n 0, 1) := by decide +kernel
theorem dL_law_1100 : decode cL_law 1100 = .ok (.iload 4, 2) := by decide +kernel
theorem dL_law_1102 : decode cL_law 1102 = .ok (.iconst 2, 1) := by decide +kernel
theorem dL_law_1103 : decode cL_law 1103 = .ok (.iadd, 1) := by decide +kernel
theorem dL_law_1104 : decode cL_law 1104 = .ok (.iaload, 1) := by decide +kernel
theorem dL_law_1105 : decode cL_law 1105 = .ok (.ifCond .eq 7, 3) := by decide +kernel
theorem dL_law_1108 : decode cL_law 1108 = .ok (.iconst 1, 1) := by decide +kernel
theorem dL_law_1109 : decode cL_law 1109 = .ok (.goto 4, 3) := by decide +kernel
theorem dL_law_1112 : decode cL_law 1112 = .ok (.iconst 0, 1) := by decide +kernel
theorem dL_law_1113 : decode cL_law 1113 = .ok (.aload_n 3, 1) := by decide +kernel
theorem dL_law_1114 : decode cL_law 1114 = .ok (.invokestatic 139, 3) := by decide +kernel
theorem dL_law_1117 : decode cL_law 1117 = .ok (.istore 5, 2) := by decide +kernel
theorem dL_law_1119 : decode cL_law 1119 = .ok (.aload_n 2, 1) := by decide +kernel
theorem dL_law_1120 : decode cL_law 1120 = .ok (.aload_n 0, 1) := by decide +kernel
theorem dL_law_1121 : decode cL_law 1121 = .ok (.iload 4, 2) := by decide +kernel
theorem dL_law_1123 : decode cL_law 1123 = .ok (.iconst 1, 1) := by decide +kernel
theorem dL_law_1124 : decode cL_law 1124 = .ok (.iadd, 1) := by decide +kernel
theorem dL_law_1125 : decode cL_law 1125 = .ok (.iaload, 1) := by decide +kernel
theorem dL_law_1126 : decode cL_law 1126 = .ok (.aload_n 0, 1) := by decide +kernel
theorem dL_law_1127 : decode cL_law 1127 = .ok (.iload 4, 2) := by decide +kernel
theorem dL_law_1129 : decode cL_law 1129 = .ok (.iconst 2, 1) := by decide +kernel
theorem dL_law_1130 : decode cL_law 1130 = .ok (.iadd, 1) := by decide +kernel
theorem dL_law_1131 : decode cL_law 1131 = .ok (.iaload, 1) := by decide +kernel
theorem dL_law_1132 : decode cL_law 1132 = .ok (.ifCond .eq 7, 3) := by decide +kernel
theorem dL_law_1135 : decode cL_law 1135 = .ok (.iconst 1, 1) := by decide +kernel
theorem dL_law_1136 : decode cL_law 1136 = .ok (.goto 4, 3) := by decide +kernel
theorem dL_law_1139 : decode cL_law 1139 = .ok (.iconst 0, 1) := by decide +kernel
theorem dL_law_1140 : decode cL_law 1140 = .ok (.invokevirtual 142, 3) := by decide +kernel
theorem dL_law_1143 : decode cL_law 1143 = .ok (.istore 6, 2) := by decide +kernel
theorem dL_law_1145 : decode cL_law 1145 = .ok (.aload_n 2, 1) := by decide +kernel
theorem dL_law_1146 : decode cL_law 1146 = .ok (.invokevirtual 97, 3) := by decide +kernel
theorem dL_law_1149 : decode cL_law 1149 = .ok (.iload 5, 2) := by decide +kernel
theorem dL_law_1151 : decode cL_law 1151 = .ok (.if_icmp .eq 5, 3) := by decide +kernel
theorem dL_law_1154 : decode cL_law 1154 = .ok (.iconst 0, 1) := by decide +kernel
theorem dL_law_1155 : decode cL_law 1155 = .ok (.ireturn, 1) := by decide +kernel
theorem dL_law_1156 : decode cL_law 1156 = .ok (.iload 5, 2) := by decide +kernel
theorem dL_law_1158 : decode cL_law 1158 = .ok (.ifCond .ne 15, 3) := by decide +kernel
theorem dL_law_1161 : decode cL_law 1161 = .ok (.aload_n 3, 1) := by decide +kernel
theorem dL_law_1162 : decode cL_law 1162 = .ok (.iconst 0, 1) := by decide +kernel
theorem dL_law_1163 : decode cL_law 1163 = .ok (.laload, 1) := by decide +kernel
theorem dL_law_1164 : decode cL_law 1164 = .ok (.iload 6, 2) := by decide +kernel
theorem dL_law_1166 : decode cL_law 1166 = .ok (.i2l, 1) := by decide +kernel
theorem dL_law_1167 : decode cL_law 1167 = .ok (.lcmp, 1) := by decide +kernel
theorem dL_law_1168 : decode cL_law 1168 = .ok (.ifCond .eq 5, 3) := by decide +kernel
theorem dL_law_1171 : decode cL_law 1171 = .ok (.iconst 0, 1) := by decide +kernel
theorem dL_law_1172 : decode cL_law 1172 = .ok (.ireturn, 1) := by decide +kernel
theorem dL_law_1173 : decode cL_law 1173 = .ok (.goto 571, 3) := by decide +kernel
theorem dL_law_1176 : decode cL_law 1176 = .ok (.aload_n 1, 1) := by decide +kernel
theorem dL_law_1177 : decode cL_law 1177 = .ok (.aload_n 0, 1) := by decide +kernel
theorem dL_law_1178 : decode cL_law 1178 = .ok (.iload 4, 2) := by decide +kernel
theorem dL_law_1180 : decode cL_law 1180 = .ok (.iconst 1, 1) := by decide +kernel
theorem dL_law_1181 : decode cL_law 1181 = .ok (.iadd, 1) := by decide +kernel
theorem dL_law_1182 : decode cL_law 1182 = .ok (.iaload, 1) := by decide +kernel
theorem dL_law_1183 : decode cL_law 1183 = .ok (.aload_n 3, 1) := by decide +kernel
theorem dL_law_1184 : decode cL_law 1184 = .ok (.invokestatic 143, 3) := by decide +kernel
theorem dL_law_1187 : decode cL_law 1187 = .ok (.istore 5, 2) := by decide +kernel
theorem dL_law_1189 : decode cL_law 1189 = .ok (.aload_n 2, 1) := by decide +kernel
theorem dL_law_1190 : decode cL_law 1190 = .ok (.aload_n 0, 1) := by decide +kernel
theorem dL_law_1191 : decode cL_law 1191 = .ok (.iload 4, 2) := by decide +kernel
theorem dL_law_1193 : decode cL_law 1193 = .ok (.iconst 1, 1) := by decide +kernel
theorem dL_law_1194 : decode cL_law 1194 = .ok (.iadd, 1) := by decide +kernel
theorem dL_law_1195 : decode cL_law 1195 = .ok (.iaload, 1) := by decide +kernel
theorem dL_law_1196 : decode cL_law 1196 = .ok (.invokevirtual 145, 3) := by decide +kernel
theorem dL_law_1199 : decode cL_law 1199 = .ok (.istore 6, 2) := by decide +kernel
theorem dL_law_1201 : decode cL_law 1201 = .ok (.aload_n 2, 1) := by decide +kernel
theorem dL_law_1202 : decode cL_law 1202 = .ok (.invokevirtual 97, 3) := by decide +kernel
theorem dL_law_1205 : decode cL_law 1205 = .ok (.iload 5, 2) := by decide +kernel
theorem dL_law_1207 : decode cL_law 1207 = .ok (.if_icmp .eq 5, 3) := by decide +kernel
theorem dL_law_1210 : decode cL_law 1210 = .ok (.iconst 0, 1) := by decide +kernel
theorem dL_law_1211 : decode cL_law 1211 = .ok (.ireturn, 1) := by decide +kernel
theorem dL_law_1212 : decode cL_law 1212 = .ok (.iload 5, 2) := by decide +kernel
theorem dL_law_1214 : decode cL_law 1214 = .ok (.ifCond .ne 15, 3) := by decide +kernel
theorem dL_law_1217 : decode cL_law 1217 = .ok (.aload_n 3, 1) := by decide +kernel
theorem dL_law_1218 : decode cL_law 1218 = .ok (.iconst 0, 1) := by decide +kernel
theorem dL_law_1219 : decode cL_law 1219 = .ok (.laload, 1) := by decide +kernel
theorem dL_law_1220 : decode cL_law 1220 = .ok (.iload 6, 2) := by decide +kernel
theorem dL_law_1222 : decode cL_law 1222 = .ok (.i2l, 1) := by decide +kernel
theorem dL_law_1223 : decode cL_law 1223 = .ok (.lcmp, 1) := by decide +kernel
theorem dL_law_1224 : decode cL_law 1224 = .ok (.ifCond .eq 5, 3) := by decide +kernel
theorem dL_law_1227 : decode cL_law 1227 = .ok (.iconst 0, 1) := by decide +kernel
theorem dL_law_1228 : decode cL_law 1228 = .ok (.ireturn, 1) := by decide +kernel
theorem dL_law_1229 : decode cL_law 1229 = .ok (.goto 515, 3) := by decide +kernel
theorem dL_law_1232 : decode cL_law 1232 = .ok (.aload_n 1, 1) := by decide +kernel
theorem dL_law_1233 : decode cL_law 1233 = .ok (.aload_n 0, 1) := by decide +kernel
theorem dL_law_1234 : decode cL_law 1234 = .ok (.iload 4, 2) := by decide +kernel
theorem dL_law_1236 : decode cL_law 1236 = .ok (.iconst 1, 1) := by decide +kernel
theorem dL_law_1237 : decode cL_law 1237 = .ok (.iadd, 1) := by decide +kernel
theorem dL_law_1238 : decode cL_law 1238 = .ok (.iaload, 1) := by decide +kernel
theorem dL_law_1239 : decode cL_law 1239 = .ok (.aload_n 3, 1) := by decide +kernel
theorem dL_law_1240 : decode cL_law 1240 = .ok (.invokestatic 146, 3) := by decide +kernel
theorem dL_law_1243 : decode cL_law 1243 = .ok (.istore 5, 2) := by decide +kernel
theorem dL_law_1245 : decode cL_law 1245 = .ok (.aload_n 2, 1) := by decide +kernel
theorem dL_law_1246 : decode cL_law 1246 = .ok (.aload_n 0, 1) := by decide +kernel
theorem dL_law_1247 : decode cL_law 1247 = .ok (.iload 4, 2) := by decide +kernel
theorem dL_law_1249 : decode cL_law 1249 = .ok (.iconst 1, 1) := by decide +kernel
theorem dL_law_1250 : decode cL_law 1250 = .ok (.iadd, 1) := by decide +kernel
theorem dL_law_1251 : decode cL_law 1251 = .ok (.iaload, 1) := by decide +kernel
theorem dL_law_1252 : decode cL_law 1252 = .ok (.invokevirtual 148, 3) := by decide +kernel
theorem dL_law_1255 : decode cL_law 1255 = .ok (.istore 6, 2) := by decide +kernel
theorem dL_law_1257 : decode cL_law 1257 = .ok (.aload_n 2, 1) := by decide +kernel
theorem dL_law_1258 : decode cL_law 1258 = .ok (.invokevirtual 97, 3) := by decide +kernel
theorem dL_law_1261 : decode cL_law 1261 = .ok (.iload 5, 2) := by decide +kernel
theorem dL_law_1263 : decode cL_law 1263 = .ok (.if_icmp .eq 5, 3) := by decide +kernel
theorem dL_law_1266 : decode cL_law 1266 = .ok (.iconst 0, 1) := by decide +kernel
theorem dL_law_1267 : decode cL_law 1267 = .ok (.ireturn, 1) := by decide +kernel
theorem dL_law_1268 : decode cL_law 1268 = .ok (.iload 5, 2) := by decide +kernel
theorem dL_law_1270 : decode cL_law 1270 = .ok (.ifCond .ne 15, 3) := by decide +kernel
theorem dL_law_1273 : decode cL_law 1273 = .ok (.aload_n 3, 1) := by decide +kernel
theorem dL_law_1274 : decode cL_law 1274 = .ok (.iconst 0, 1) := by decide +kernel
theorem dL_law_1275 : decode cL_law 1275 = .ok (.laload, 1) := by decide +kernel
theorem dL_law_1276 : decode cL_law 1276 = .ok (.iload 6, 2) := by decide +kernel
theorem dL_law_1278 : decode cL_law 1278 = .ok (.i2l, 1) := by decide +kernel
theorem dL_law_1279 : decode cL_law 1279 = .ok (.lcmp, 1) := by decide +kernel
theorem dL_law_1280 : decode cL_law 1280 = .ok (.ifCond .eq 5, 3) := by decide +kernel
theorem dL_law_1283 : decode cL_law 1283 = .ok (.iconst 0, 1) := by decide +kernel
theorem dL_law_1284 : decode cL_law 1284 = .ok (.ireturn, 1) := by decide +kernel
theorem dL_law_1285 : decode cL_law 1285 = .ok (.goto 459, 3) := by decide +kernel
theorem dL_law_1288 : decode cL_law 1288 = .ok (.aload_n 1, 1) := by decide +kernel
theorem dL_law_1289 : decode cL_law 1289 = .ok (.aload_n 0, 1) := by decide +kernel
theorem dL_law_1290 : decode cL_law 1290 = .ok (.iload 4, 2) := by decide +kernel
theorem dL_law_1292 : decode cL_law 1292 = .ok (.iconst 1, 1) := by decide +kernel
theorem dL_law_1293 : decode cL_law 1293 = .ok (.iadd, 1) := by decide +kernel
theorem dL_law_1294 : decode cL_law 1294 = .ok (.iaload, 1) := by decide +kernel
theorem dL_law_1295 : decode cL_law 1295 = .ok (.aload_n 3, 1) := by decide +kernel
theorem dL_law_1296 : decode cL_law 1296 = .ok (.invokestatic 149, 3) := by decide +kernel
theorem dL_law_1299 : decode cL_law 1299 = .ok (.istore 5, 2) := by decide +kernel
theorem dL_law_1301 : decode cL_law 1301 = .ok (.aload_n 2, 1) := by decide +kernel
theorem dL_law_1302 : decode cL_law 1302 = .ok (.aload_n 0, 1) := by decide +kernel
theorem dL_law_1303 : decode cL_law 1303 = .ok (.iload 4, 2) := by decide +kernel
theorem dL_law_1305 : decode cL_law 1305 = .ok (.iconst 1, 1) := by decide +kernel
theorem dL_law_1306 : decode cL_law 1306 = .ok (.iadd, 1) := by decide +kernel
theorem dL_law_1307 : decode cL_law 1307 = .ok (.iaload, 1) := by decide +kernel
theorem dL_law_1308 : decode cL_law 1308 = .ok (.invokevirtual 151, 3) := by decide +kernel
theorem dL_law_1311 : decode cL_law 1311 = .ok (.istore 6, 2) := by decide +kernel
theorem dL_law_1313 : decode cL_law 1313 = .ok (.aload_n 2, 1) := by decide +kernel
theorem dL_law_1314 : decode cL_law 1314 = .ok (.invokevirtual 97, 3) := by decide +kernel
theorem dL_law_1317 : decode cL_law 1317 = .ok (.iload 5, 2) := by decide +kernel
theorem dL_law_1319 : decode cL_law 1319 = .ok (.if_icmp .eq 5, 3) := by decide +kernel
theorem dL_law_1322 : decode cL_law 1322 = .ok (.iconst 0, 1) := by decide +kernel
theorem dL_law_1323 : decode cL_law 1323 = .ok (.ireturn, 1) := by decide +kernel
theorem dL_law_1324 : decode cL_law 1324 = .ok (.iload 5, 2) := by decide +kernel
theorem dL_law_1326 : decode cL_law 1326 = .ok (.ifCond .ne 15, 3) := by decide +kernel
theorem dL_law_1329 : decode cL_law 1329 = .ok (.aload_n 3, 1) := by decide +kernel
theorem dL_law_1330 : decode cL_law 1330 = .ok (.iconst 0, 1) := by decide +kernel
theorem dL_law_1331 : decode cL_law 1331 = .ok (.laload, 1) := by decide +kernel
theorem dL_law_1332 : decode cL_law 1332 = .ok (.iload 6, 2) := by decide +kernel
theorem dL_law_1334 : decode cL_law 1334 = .ok (.i2l, 1) := by decide +kernel
theorem dL_law_1335 : decode cL_law 1335 = .ok (.lcmp, 1) := by decide +kernel
theorem dL_law_1336 : decode cL_law 1336 = .ok (.ifCond .eq 5, 3) := by decide +kernel
theorem dL_law_1339 : decode cL_law 1339 = .ok (.iconst 0, 1) := by decide +kernel
theorem dL_law_1340 : decode cL_law 1340 = .ok (.ireturn, 1) := by decide +kernel
theorem dL_law_1341 : decode cL_law 1341 = .ok (.goto 403, 3) := by decide +kernel
theorem dL_law_1344 : decode cL_law 1344 = .ok (.aload_n 1, 1) := by decide +kernel
theorem dL_law_1345 : decode cL_law 1345 = .ok (.aload_n 0, 1) := by decide +kernel
theorem dL_law_1346 : decode cL_law 1346 = .ok (.iload 4, 2) := by decide +kernel
theorem dL_law_1348 : decode cL_law 1348 = .ok (.iconst 1, 1) := by decide +kernel
theorem dL_law_1349 : decode cL_law 1349 = .ok (.iadd, 1) := by decide +kernel
theorem dL_law_1350 : decode cL_law 1350 = .ok (.iaload, 1) := by decide +kernel
theorem dL_law_1351 : decode cL_law 1351 = .ok (.aload_n 3, 1) := by decide +kernel
theorem dL_law_1352 : decode cL_law 1352 = .ok (.invokestatic 152, 3) := by decide +kernel
theorem dL_law_1355 : decode cL_law 1355 = .ok (.istore 5, 2) := by decide +kernel
theorem dL_law_1357 : decode cL_law 1357 = .ok (.aload_n 2, 1) := by decide +kernel
theorem dL_law_1358 : decode cL_law 1358 = .ok (.aload_n 0, 1) := by decide +kernel
theorem dL_law_1359 : decode cL_law 1359 = .ok (.iload 4, 2) := by decide +kernel
theorem dL_law_1361 : decode cL_law 1361 = .ok (.iconst 1, 1) := by decide +kernel
theorem dL_law_1362 : decode cL_law 1362 = .ok (.iadd, 1) := by decide +kernel
theorem dL_law_1363 : decode cL_law 1363 = .ok (.iaload, 1) := by decide +kernel
theorem dL_law_1364 : decode cL_law 1364 = .ok (.invokevirtual 154, 3) := by decide +kernel
theorem dL_law_1367 : decode cL_law 1367 = .ok (.istore 6, 2) := by decide +kernel
theorem dL_law_1369 : decode cL_law 1369 = .ok (.aload_n 2, 1) := by decide +kernel
theorem dL_law_1370 : decode cL_law 1370 = .ok (.invokevirtual 97, 3) := by decide +kernel
theorem dL_law_1373 : decode cL_law 1373 = .ok (.iload 5, 2) := by decide +kernel
theorem dL_law_1375 : decode cL_law 1375 = .ok (.if_icmp .eq 5, 3) := by decide +kernel
theorem dL_law_1378 : decode cL_law 1378 = .ok (.iconst 0, 1) := by decide +kernel
theorem dL_law_1379 : decode cL_law 1379 = .ok (.ireturn, 1) := by decide +kernel
theorem dL_law_1380 : decode cL_law 1380 = .ok (.iload 5, 2) := by decide +kernel
theorem dL_law_1382 : decode cL_law 1382 = .ok (.ifCond .ne 15, 3) := by decide +kernel
theorem dL_law_1385 : decode cL_law 1385 = .ok (.aload_n 3, 1) := by decide +kernel
theorem dL_law_1386 : decode cL_law 1386 = .ok (.iconst 0, 1) := by decide +kernel
theorem dL_law_1387 : decode cL_law 1387 = .ok (.laload, 1) := by decide +kernel
theorem dL_law_1388 : decode cL_law 1388 = .ok (.iload 6, 2) := by decide +kernel
theorem dL_law_1390 : decode cL_law 1390 = .ok (.i2l, 1) := by decide +kernel
theorem dL_law_1391 : decode cL_law 1391 = .ok (.lcmp, 1) := by decide +kernel
theorem dL_law_1392 : decode cL_law 1392 = .ok (.ifCond .eq 5, 3) := by decide +kernel
theorem dL_law_1395 : decode cL_law 1395 = .ok (.iconst 0, 1) := by decide +kernel
theorem dL_law_1396 : decode cL_law 1396 = .ok (.ireturn, 1) := by decide +kernel
theorem dL_law_1397 : decode cL_law 1397 = .ok (.goto 347, 3) := by decide +kernel
theorem dL_law_1400 : decode cL_law 1400 = .ok (.aload_n 1, 1) := by decide +kernel
theorem dL_law_1401 : decode cL_law 1401 = .ok (.invokevirtual 155, 3) := by decide +kernel
theorem dL_law_1404 : decode cL_law 1404 = .ok (.aload_n 2, 1) := by decide +kernel
theorem dL_law_1405 : decode cL_law 1405 = .ok (.invokevirtual 158, 3) := by decide +kernel
theorem dL_law_1408 : decode cL_law 1408 = .ok (.if_icmp .eq 336, 3) := by decide +kernel
theorem dL_law_1411 : decode cL_law 1411 = .ok (.iconst 0, 1) := by decide +kernel
theorem dL_law_1412 : decode cL_law 1412 = .ok (.ireturn, 1) := by decide +kernel
theorem dL_law_1413 : decode cL_law 1413 = .ok (.aload_n 1, 1) := by decide +kernel
theorem dL_law_1414 : decode cL_law 1414 = .ok (.invokevirtual 159, 3) := by decide +kernel
theorem dL_law_1417 : decode cL_law 1417 = .ok (.aload_n 2, 1) := by decide +kernel
theorem dL_law_1418 : decode cL_law 1418 = .ok (.invokevirtual 162, 3) := by decide +kernel
theorem dL_law_1421 : decode cL_law 1421 = .ok (.if_icmp .eq 323, 3) := by decide +kernel
theorem dL_law_1424 : decode cL_law 1424 = .ok (.iconst 0, 1) := by decide +kernel
theorem dL_law_1425 : decode cL_law 1425 = .ok (.ireturn, 1) := by decide +kernel
theorem dL_law_1426 : decode cL_law 1426 = .ok (.aload_n 1, 1) := by decide +kernel
theorem dL_law_1427 : decode cL_law 1427 = .ok (.aload_n 0, 1) := by decide +kernel
theorem dL_law_1428 : decode cL_law 1428 = .ok (.iload 4, 2) := by decide +kernel
theorem dL_law_1430 : decode cL_law 1430 = .ok (.iconst 1, 1) := by decide +kernel
theorem dL_law_1431 : decode cL_law 1431 = .ok (.iadd, 1) := by decide +kernel
theorem dL_law_1432 : decode cL_law 1432 = .ok (.iaload, 1) := by decide +kernel
theorem dL_law_1433 : decode cL_law 1433 = .ok (.aload_n 0, 1) := by decide +kernel
theorem dL_law_1434 : decode cL_law 1434 = .ok (.iload 4, 2) := by decide +kernel
theorem dL_law_1436 : decode cL_law 1436 = .ok (.iconst 2, 1) := by decide +kernel
theorem dL_law_1437 : decode cL_law 1437 = .ok (.iadd, 1) := by decide +kernel
theorem dL_law_1438 : decode cL_law 1438 = .ok (.iaload, 1) := by decide +kernel
theorem dL_law_1439 : decode cL_law 1439 = .ok (.aload_n 3, 1) := by decide +kernel
theorem dL_law_1440 : decode cL_law 1440 = .ok (.invokestatic 163, 3) := by decide +kernel
theorem dL_law_1443 : decode cL_law 1443 = .ok (.istore 5, 2) := by decide +kernel
theorem dL_law_1445 : decode cL_law 1445 = .ok (.aload_n 2, 1) := by decide +kernel
theorem dL_law_1446 : decode cL_law 1446 = .ok (.aload_n 0, 1) := by decide +kernel
theorem dL_law_1447 : decode cL_law 1447 = .ok (.iload 4, 2) := by decide +kernel
theorem dL_law_1449 : decode cL_law 1449 = .ok (.iconst 1, 1) := by decide +kernel
theorem dL_law_1450 : decode cL_law 1450 = .ok (.iadd, 1) := by decide +kernel
theorem dL_law_1451 : decode cL_law 1451 = .ok (.iaload, 1) := by decide +kernel
theorem dL_law_1452 : decode cL_law 1452 = .ok (.aload_n 0, 1) := by decide +kernel
theorem dL_law_1453 : decode cL_law 1453 = .ok (.iload 4, 2) := by decide +kernel
theorem dL_law_1455 : decode cL_law 1455 = .ok (.iconst 2, 1) := by decide +kernel
theorem dL_law_1456 : decode cL_law 1456 = .ok (.iadd, 1) := by decide +kernel
theorem dL_law_1457 : decode cL_law 1457 = .ok (.iaload, 1) := by decide +kernel
theorem dL_law_1458 : decode cL_law 1458 = .ok (.invokevirtual 165, 3) := by decide +kernel
theorem dL_law_1461 : decode cL_law 1461 = .ok (.istore 6, 2) := by decide +kernel
theorem dL_law_1463 : decode cL_law 1463 = .ok (.aload_n 2, 1) := by decide +kernel
theorem dL_law_1464 : decode cL_law 1464 = .ok (.invokevirtual 97, 3) := by decide +kernel
theorem dL_law_1467 : decode cL_law 1467 = .ok (.iload 5, 2) := by decide +kernel
theorem dL_law_1469 : decode cL_law 1469 = .ok (.if_icmp .eq 5, 3) := by decide +kernel
theorem dL_law_1472 : decode cL_law 1472 = .ok (.iconst 0, 1) := by decide +kernel
theorem dL_law_1473 : decode cL_law 1473 = .ok (.ireturn, 1) := by decide +kernel
theorem dL_law_1474 : decode cL_law 1474 = .ok (.iload 5, 2) := by decide +kernel
theorem dL_law_1476 : decode cL_law 1476 = .ok (.ifCond .ne 15, 3) := by decide +kernel
theorem dL_law_1479 : decode cL_law 1479 = .ok (.aload_n 3, 1) := by decide +kernel
theorem dL_law_1480 : decode cL_law 1480 = .ok (.iconst 0, 1) := by decide +kernel
theorem dL_law_1481 : decode cL_law 1481 = .ok (.laload, 1) := by decide +kernel
theorem dL_law_1482 : decode cL_law 1482 = .ok (.iload 6, 2) := by decide +kernel
theorem dL_law_1484 : decode cL_law 1484 = .ok (.i2l, 1) := by decide +kernel
theorem dL_law_1485 : decode cL_law 1485 = .ok (.lcmp, 1) := by decide +kernel
theorem dL_law_1486 : decode cL_law 1486 = .ok (.ifCond .eq 5, 3) := by decide +kernel
theorem dL_law_1489 : decode cL_law 1489 = .ok (.iconst 0, 1) := by decide +kernel
theorem dL_law_1490 : decode cL_law 1490 = .ok (.ireturn, 1) := by decide +kernel
theorem dL_law_1491 : decode cL_law 1491 = .ok (.goto 253, 3) := by decide +kernel
theorem dL_law_1494 : decode cL_law 1494 = .ok (.aload_n 1, 1) := by decide +kernel
theorem dL_law_1495 : decode cL_law 1495 = .ok (.invokevirtual 166, 3) := by decide +kernel
theorem dL_law_1498 : decode cL_law 1498 = .ok (.aload_n 2, 1) := by decide +kernel
theorem dL_law_1499 : decode cL_law 1499 = .ok (.invokevirtual 169, 3) := by decide +kernel
theorem dL_law_1502 : decode cL_law 1502 = .ok (.if_icmp .eq 242, 3) := by decide +kernel
theorem dL_law_1505 : decode cL_law 1505 = .ok (.iconst 0, 1) := by decide +kernel
theorem dL_law_1506 : decode cL_law 1506 = .ok (.ireturn, 1) := by decide +kernel
theorem dL_law_1507 : decode cL_law 1507 = .ok (.aload_n 1, 1) := by decide +kernel
theorem dL_law_1508 : decode cL_law 1508 = .ok (.aload_n 0, 1) := by decide +kernel
theorem dL_law_1509 : decode cL_law 1509 = .ok (.iload 4, 2) := by decide +kernel
theorem dL_law_1511 : decode cL_law 1511 = .ok (.iconst 1, 1) := by decide +kernel
theorem dL_law_1512 : decode cL_law 1512 = .ok (.iadd, 1) := by decide +kernel
theorem dL_law_1513 : decode cL_law 1513 = .ok (.iaload, 1) := by decide +kernel
theorem dL_law_1514 : decode cL_law 1514 = .ok (.aload_n 3, 1) := by decide +kernel
theorem dL_law_1515 : decode cL_law 1515 = .ok (.invokestatic 170, 3) := by decide +kernel
theorem dL_law_1518 : decode cL_law 1518 = .ok (.istore 5, 2) := by decide +kernel
theorem dL_law_1520 : decode cL_law 1520 = .ok (.aload_n 2, 1) := by decide +kernel
theorem dL_law_1521 : decode cL_law 1521 = .ok (.aload_n 0, 1) := by decide +kernel
theorem dL_law_1522 : decode cL_law 1522 = .ok (.iload 4, 2) := by decide +kernel
theorem dL_law_1524 : decode cL_law 1524 = .ok (.iconst 1, 1) := by decide +kernel
theorem dL_law_1525 : decode cL_law 1525 = .ok (.iadd, 1) := by decide +kernel
theorem dL_law_1526 : decode cL_law 1526 = .ok (.iaload, 1) := by decide +kernel
theorem dL_law_1527 : decode cL_law 1527 = .ok (.invokevirtual 172, 3) := by decide +kernel
theorem dL_law_1530 : decode cL_law 1530 = .ok (.istore 6, 2) := by decide +kernel
theorem dL_law_1532 : decode cL_law 1532 = .ok (.aload_n 2, 1) := by decide +kernel
theorem dL_law_1533 : decode cL_law 1533 = .ok (.invokevirtual 97, 3) := by decide +kernel
theorem dL_law_1536 : decode cL_law 1536 = .ok (.iload 5, 2) := by decide +kernel
theorem dL_law_1538 : decode cL_law 1538 = .ok (.if_icmp .eq 5, 3) := by decide +kernel
theorem dL_law_1541 : decode cL_law 1541 = .ok (.iconst 0, 1) := by decide +kernel
theorem dL_law_1542 : decode cL_law 1542 = .ok (.ireturn, 1) := by decide +kernel
theorem dL_law_1543 : decode cL_law 1543 = .ok (.iload 5, 2) := by decide +kernel
theorem dL_law_1545 : decode cL_law 1545 = .ok (.ifCond .ne 15, 3) := by decide +kernel
theorem dL_law_1548 : decode cL_law 1548 = .ok (.aload_n 3, 1) := by decide +kernel
theorem dL_law_1549 : decode cL_law 1549 = .ok (.iconst 0, 1) := by decide +kernel
theorem dL_law_1550 : decode cL_law 1550 = .ok (.laload, 1) := by decide +kernel
theorem dL_law_1551 : decode cL_law 1551 = .ok (.iload 6, 2) := by decide +kernel
theorem dL_law_1553 : decode cL_law 1553 = .ok (.i2l, 1) := by decide +kernel
theorem dL_law_1554 : decode cL_law 1554 = .ok (.lcmp, 1) := by decide +kernel
theorem dL_law_1555 : decode cL_law 1555 = .ok (.ifCond .eq 5, 3) := by decide +kernel
theorem dL_law_1558 : decode cL_law 1558 = .ok (.iconst 0, 1) := by decide +kernel
theorem dL_law_1559 : decode cL_law 1559 = .ok (.ireturn, 1) := by decide +kernel
theorem dL_law_1560 : decode cL_law 1560 = .ok (.goto 184, 3) := by decide +kernel
theorem dL_law_1563 : decode cL_law 1563 = .ok (.aload_n 1, 1) := by decide +kernel
theorem dL_law_1564 : decode cL_law 1564 = .ok (.invokevirtual 173, 3) := by decide +kernel
theorem dL_law_1567 : decode cL_law 1567 = .ok (.dstore 5, 2) := by decide +kernel
theorem dL_law_1569 : decode cL_law 1569 = .ok (.aload_n 2, 1) := by decide +kernel
theorem dL_law_1570 : decode cL_law 1570 = .ok (.invokevirtual 177, 3) := by decide +kernel
theorem dL_law_1573 : decode cL_law 1573 = .ok (.dstore 7, 2) := by decide +kernel
theorem dL_law_1575 : decode cL_law 1575 = .ok (.dload 5, 2) := by decide +kernel
theorem dL_law_1577 : decode cL_law 1577 = .ok (.dload 7, 2) := by decide +kernel
theorem dL_law_1579 : decode cL_law 1579 = .ok (.dcmp .l, 1) := by decide +kernel
theorem dL_law_1580 : decode cL_law 1580 = .ok (.ifCond .eq 21, 3) := by decide +kernel
theorem dL_law_1583 : decode cL_law 1583 = .ok (.dload 5, 2) := by decide +kernel
theorem dL_law_1585 : decode cL_law 1585 = .ok (.dload 5, 2) := by decide +kernel
theorem dL_law_1587 : decode cL_law 1587 = .ok (.dcmp .l, 1) := by decide +kernel
theorem dL_law_1588 : decode cL_law 1588 = .ok (.ifCond .eq 11, 3) := by decide +kernel
theorem dL_law_1591 : decode cL_law 1591 = .ok (.dload 7, 2) := by decide +kernel
theorem dL_law_1593 : decode cL_law 1593 = .ok (.dload 7, 2) := by decide +kernel
theorem dL_law_1595 : decode cL_law 1595 = .ok (.dcmp .l, 1) := by decide +kernel
theorem dL_law_1596 : decode cL_law 1596 = .ok (.ifCond .ne 5, 3) := by decide +kernel
theorem dL_law_1599 : decode cL_law 1599 = .ok (.iconst 0, 1) := by decide +kernel
theorem dL_law_1600 : decode cL_law 1600 = .ok (.ireturn, 1) := by decide +kernel
theorem dL_law_1601 : decode cL_law 1601 = .ok (.goto 143, 3) := by decide +kernel
theorem dL_law_1604 : decode cL_law 1604 = .ok (.aload_n 1, 1) := by decide +kernel
theorem dL_law_1605 : decode cL_law 1605 = .ok (.aload_n 0, 1) := by decide +kernel
theorem dL_law_1606 : decode cL_law 1606 = .ok (.iload 4, 2) := by decide +kernel
theorem dL_law_1608 : decode cL_law 1608 = .ok (.iconst 1, 1) := by decide +kernel
theorem dL_law_1609 : decode cL_law 1609 = .ok (.iadd, 1) := by decide +kernel
theorem dL_law_1610 : decode cL_law 1610 = .ok (.iaload, 1) := by decide +kernel
theorem dL_law_1611 : decode cL_law 1611 = .ok (.aload_n 3, 1) := by decide +kernel
theorem dL_law_1612 : decode cL_law 1612 = .ok (.invokestatic 178, 3) := by decide +kernel
theorem dL_law_1615 : decode cL_law 1615 = .ok (.istore 5, 2) := by decide +kernel
theorem dL_law_1617 : decode cL_law 1617 = .ok (.aload_n 2, 1) := by decide +kernel
theorem dL_law_1618 : decode cL_law 1618 = .ok (.aload_n 0, 1) := by decide +kernel
theorem dL_law_1619 : decode cL_law 1619 = .ok (.iload 4, 2) := by decide +kernel
theorem dL_law_1621 : decode cL_law 1621 = .ok (.iconst 1, 1) := by decide +kernel
theorem dL_law_1622 : decode cL_law 1622 = .ok (.iadd, 1) := by decide +kernel
theorem dL_law_1623 : decode cL_law 1623 = .ok (.iaload, 1) := by decide +kernel
theorem dL_law_1624 : decode cL_law 1624 = .ok (.invokevirtual 180, 3) := by decide +kernel
theorem dL_law_1627 : decode cL_law 1627 = .ok (.istore 6, 2) := by decide +kernel
theorem dL_law_1629 : decode cL_law 1629 = .ok (.aload_n 2, 1) := by decide +kernel
theorem dL_law_1630 : decode cL_law 1630 = .ok (.invokevirtual 97, 3) := by decide +kernel
theorem dL_law_1633 : decode cL_law 1633 = .ok (.iload 5, 2) := by decide +kernel
theorem dL_law_1635 : decode cL_law 1635 = .ok (.if_icmp .eq 5, 3) := by decide +kernel
theorem dL_law_1638 : decode cL_law 1638 = .ok (.iconst 0, 1) := by decide +kernel
theorem dL_law_1639 : decode cL_law 1639 = .ok (.ireturn, 1) := by decide +kernel
theorem dL_law_1640 : decode cL_law 1640 = .ok (.iload 5, 2) := by decide +kernel
theorem dL_law_1642 : decode cL_law 1642 = .ok (.ifCond .ne 15, 3) := by decide +kernel
theorem dL_law_1645 : decode cL_law 1645 = .ok (.aload_n 3, 1) := by decide +kernel
theorem dL_law_1646 : decode cL_law 1646 = .ok (.iconst 0, 1) := by decide +kernel
theorem dL_law_1647 : decode cL_law 1647 = .ok (.laload, 1) := by decide +kernel
theorem dL_law_1648 : decode cL_law 1648 = .ok (.iload 6, 2) := by decide +kernel
theorem dL_law_1650 : decode cL_law 1650 = .ok (.i2l, 1) := by decide +kernel
theorem dL_law_1651 : decode cL_law 1651 = .ok (.lcmp, 1) := by decide +kernel
theorem dL_law_1652 : decode cL_law 1652 = .ok (.ifCond .eq 5, 3) := by decide +kernel
theorem dL_law_1655 : decode cL_law 1655 = .ok (.iconst 0, 1) := by decide +kernel
theorem dL_law_1656 : decode cL_law 1656 = .ok (.ireturn, 1) := by decide +kernel
theorem dL_law_1657 : decode cL_law 1657 = .ok (.goto 87, 3) := by decide +kernel
theorem dL_law_1660 : decode cL_law 1660 = .ok (.aload_n 1, 1) := by decide +kernel
theorem dL_law_1661 : decode cL_law 1661 = .ok (.invokevirtual 181, 3) := by decide +kernel
theorem dL_law_1664 : decode cL_law 1664 = .ok (.aload_n 2, 1) := by decide +kernel
theorem dL_law_1665 : decode cL_law 1665 = .ok (.invokevirtual 184, 3) := by decide +kernel
theorem dL_law_1668 : decode cL_law 1668 = .ok (.if_icmp .eq 76, 3) := by decide +kernel
theorem dL_law_1671 : decode cL_law 1671 = .ok (.iconst 0, 1) := by decide +kernel
theorem dL_law_1672 : decode cL_law 1672 = .ok (.ireturn, 1) := by decide +kernel
theorem dL_law_1673 : decode cL_law 1673 = .ok (.aload_n 1, 1) := by decide +kernel
theorem dL_law_1674 : decode cL_law 1674 = .ok (.invokevirtual 185, 3) := by decide +kernel
theorem dL_law_1677 : decode cL_law 1677 = .ok (.aload_n 2, 1) := by decide +kernel
theorem dL_law_1678 : decode cL_law 1678 = .ok (.invokevirtual 188, 3) := by decide +kernel
theorem dL_law_1681 : decode cL_law 1681 = .ok (.if_icmp .eq 63, 3) := by decide +kernel
theorem dL_law_1684 : decode cL_law 1684 = .ok (.iconst 0, 1) := by decide +kernel
theorem dL_law_1685 : decode cL_law 1685 = .ok (.ireturn, 1) := by decide +kernel
theorem dL_law_1686 : decode cL_law 1686 = .ok (.aload_n 1, 1) := by decide +kernel
theorem dL_law_1687 : decode cL_law 1687 = .ok (.aload_n 3, 1) := by decide +kernel
theorem dL_law_1688 : decode cL_law 1688 = .ok (.invokestatic 189, 3) := by decide +kernel
theorem dL_law_1691 : decode cL_law 1691 = .ok (.istore 5, 2) := by decide +kernel
theorem dL_law_1693 : decode cL_law 1693 = .ok (.aload_n 2, 1) := by decide +kernel
theorem dL_law_1694 : decode cL_law 1694 = .ok (.invokevirtual 192, 3) := by decide +kernel
theorem dL_law_1697 : decode cL_law 1697 = .ok (.istore 6, 2) := by decide +kernel
theorem dL_law_1699 : decode cL_law 1699 = .ok (.aload_n 2, 1) := by decide +kernel
theorem dL_law_1700 : decode cL_law 1700 = .ok (.invokevirtual 97, 3) := by decide +kernel
theorem dL_law_1703 : decode cL_law 1703 = .ok (.iload 5, 2) := by decide +kernel
theorem dL_law_1705 : decode cL_law 1705 = .ok (.if_icmp .eq 5, 3) := by decide +kernel
theorem dL_law_1708 : decode cL_law 1708 = .ok (.iconst 0, 1) := by decide +kernel
theorem dL_law_1709 : decode cL_law 1709 = .ok (.ireturn, 1) := by decide +kernel
theorem dL_law_1710 : decode cL_law 1710 = .ok (.iload 5, 2) := by decide +kernel
theorem dL_law_1712 : decode cL_law 1712 = .ok (.ifCond .ne 15, 3) := by decide +kernel
theorem dL_law_1715 : decode cL_law 1715 = .ok (.aload_n 3, 1) := by decide +kernel
theorem dL_law_1716 : decode cL_law 1716 = .ok (.iconst 0, 1) := by decide +kernel
theorem dL_law_1717 : decode cL_law 1717 = .ok (.laload, 1) := by decide +kernel
theorem dL_law_1718 : decode cL_law 1718 = .ok (.iload 6, 2) := by decide +kernel
theorem dL_law_1720 : decode cL_law 1720 = .ok (.i2l, 1) := by decide +kernel
theorem dL_law_1721 : decode cL_law 1721 = .ok (.lcmp, 1) := by decide +kernel
theorem dL_law_1722 : decode cL_law 1722 = .ok (.ifCond .eq 5, 3) := by decide +kernel
theorem dL_law_1725 : decode cL_law 1725 = .ok (.iconst 0, 1) := by decide +kernel
theorem dL_law_1726 : decode cL_law 1726 = .ok (.ireturn, 1) := by decide +kernel
theorem dL_law_1727 : decode cL_law 1727 = .ok (.goto 17, 3) := by decide +kernel
theorem dL_law_1730 : decode cL_law 1730 = .ok (.aload_n 1, 1) := by decide +kernel
theorem dL_law_1731 : decode cL_law 1731 = .ok (.invokevirtual 193, 3) := by decide +kernel
theorem dL_law_1734 : decode cL_law 1734 = .ok (.aload_n 2, 1) := by decide +kernel
theorem dL_law_1735 : decode cL_law 1735 = .ok (.invokevirtual 197, 3) := by decide +kernel
theorem dL_law_1738 : decode cL_law 1738 = .ok (.lcmp, 1) := by decide +kernel
theorem dL_law_1739 : decode cL_law 1739 = .ok (.ifCond .eq 5, 3) := by decide +kernel
theorem dL_law_1742 : decode cL_law 1742 = .ok (.iconst 0, 1) := by decide +kernel
theorem dL_law_1743 : decode cL_law 1743 = .ok (.ireturn, 1) := by decide +kernel
theorem dL_law_1744 : decode cL_law 1744 = .ok (.iinc 4 6, 3) := by decide +kernel
theorem dL_law_1747 : decode cL_law 1747 = .ok (.goto (-1724), 3) := by decide +kernel
theorem dL_law_1750 : decode cL_law 1750 = .ok (.iconst 1, 1) := by decide +kernel
theorem dL_law_1751 : decode cL_law 1751 = .ok (.ireturn, 1) := by decide +kernel
end
section
/-! memory by places: the class's cells, the reference's and the law's own row lie at 118 fixed places; place k has the address mA G k; what it holds is read off M (ints) and g (longs) by a layout that never changes -/
abbrev Mem : Type := Nat → Nat → Int32
abbrev Glo : Type := Nat → Nat → Int64
abbrev LE : Type := Nat × List Nat
abbrev vwC : List vw_C := [(RX0, TX0, 4), (RX1, TX1, 3), (RX2, TX2, 7), (RX3, TX3, 9), (RX4, TX4, 4), (RX5, TX5, 6), (RX6, TX6, 9), (RX7, TX7, 9), (RX8, TX8, 16)]
def layL : List LE := [
  (1, [7, 3, 17, 75, 77, 82, 88, 93, 99, 108]),
  (1, [6, 4, 13, 0, 0, 0, 0, 0, 0, 0]),
  (1, [3, 5, 6, 7, 8, 9, 10, 11, 12, 0]),
  (0, [16]),
  (0, [16]),
  (0, [16]),
  (0, [16]),
  (0, [16]),
  (0, [16]),
  (0, [16]),
  (0, [16]),
  (1, [0, 14, 15, 16, 0]),
  (0, [4]),
  (0, [4]),
  (0, [4]),
  (1, [1, 18, 0, 0]),
  (2, [17, 31, 45, 59]),
  (1, [6, 20, 29, 0, 0, 0, 0, 0, 0, 0]),
  (1, [3, 21, 22, 23, 24, 25, 26, 27, 28, 0]),
  (0, [16]),
  (0, [16]),
  (0, [16]),
  (0, [16]),
  (0, [16]),
  (0, [16]),
  (0, [16]),
  (0, [16]),
  (1, [0, 30, 31, 32, 0]),
  (0, [4]),
  (0, [4]),
  (0, [4]),
  (1, [6, 34, 43, 0, 0, 0, 0, 0, 0, 0]),
  (1, [3, 35, 36, 37, 38, 39, 40, 41, 42, 0]),
  (0, [16]),
  (0, [16]),
  (0, [16]),
  (0, [16]),
  (0, [16]),
  (0, [16]),
  (0, [16]),
  (0, [16]),
  (1, [0, 44, 45, 46, 0]),
  (0, [4]),
  (0, [4]),
  (0, [4]),
  (1, [6, 48, 57, 0, 0, 0, 0, 0, 0, 0]),
  (1, [3, 49, 50, 51, 52, 53, 54, 55, 56, 0]),
  (0, [16]),
  (0, [16]),
  (0, [16]),
  (0, [16]),
  (0, [16]),
  (0, [16]),
  (0, [16]),
  (0, [16]),
  (1, [0, 58, 59, 60, 0]),
  (0, [4]),
  (0, [4]),
  (0, [4]),
  (1, [6, 62, 71, 0, 0, 0, 0, 0, 0, 0]),
  (1, [3, 63, 64, 65, 66, 67, 68, 69, 70, 0]),
  (0, [16]),
  (0, [16]),
  (0, [16]),
  (0, [16]),
  (0, [16]),
  (0, [16]),
  (0, [16]),
  (0, [16]),
  (1, [0, 72, 73, 74, 0]),
  (0, [4]),
  (0, [4]),
  (0, [4]),
  (1, [4, 76, 0, 0, 0]),
  (0, [180]),
  (1, [2, 78, 79, 80, 81, 0, 0, 0]),
  (0, [16]),
  (0, [16]),
  (0, [16]),
  (0, [4]),
  (1, [5, 83, 84, 85, 86, 87, 0]),
  (0, [16]),
  (0, [16]),
  (0, [16]),
  (0, [16]),
  (0, [16]),
  (1, [2, 89, 90, 91, 92, 0, 0, 0]),
  (0, [16]),
  (0, [16]),
  (0, [16]),
  (0, [4]),
  (1, [5, 94, 95, 96, 97, 98, 0]),
  (0, [16]),
  (0, [16]),
  (0, [16]),
  (0, [16]),
  (0, [16]),
  (1, [3, 100, 101, 102, 103, 104, 105, 106, 107, 0]),
  (0, [16]),
  (0, [16]),
  (0, [16]),
  (0, [16]),
  (0, [16]),
  (0, [16]),
  (0, [16]),
  (0, [16]),
  (0, [16]),
  (1, [8, 110, 111, 112, 0, 113, 0, 0, 114, 115, 116, 117, 118, 0, 0, 0, 1]),
  (0, [149]),
  (0, [596]),
  (0, [149]),
  (0, [180]),
  (0, [16]),
  (0, [16]),
  (0, [16]),
  (0, [16]),
  (0, [4]),
  (3, [1])]
def lay (k : Nat) : LE := layL.getD k (0, [0])
theorem lay_lt {k : Nat} (h : lay k ≠ (0, [0])) : k < 118 := by
  rcases Nat.lt_or_ge k 118 with q | q
  · exact q
  · exact absurd (by
      unfold lay
      rw [List.getD_eq_getElem?_getD, List.getElem?_eq_none (by rw [show layL.length = 118 from rfl]; exact q)]
      rfl) h
abbrev mG : Type := va_G × (ClassId × ClassId × ClassId) × (Nat → Nat)
def mD (G : mG) : va_G := G.1
def mT (G : mG) : List (ClassId × FieldType) := [(G.2.1.1, .int), (G.2.1.2.1, .object "HeatBranches$State"), (G.2.1.2.2, .long)]
def mA (G : mG) (k : Nat) : Nat := G.2.2 k
def m_fs (ad : Nat → Nat) (f : Nat → Int32) (gl : Nat → Int64) : Nat → List Nat → List Value
  | _, [] => []
  | j, 0 :: t => .int (f j) :: m_fs ad f gl (j + 1) t
  | j, 1 :: t => .long (gl j) :: m_fs ad f gl (j + 1) t
  | j, (q + 2) :: t => .ref (ad q) :: m_fs ad f gl (j + 1) t
theorem m_fs_len (ad : Nat → Nat) (f : Nat → Int32) (gl : Nat → Int64) : ∀ (fs : List Nat) (j : Nat), (m_fs ad f gl j fs).length = fs.length
  | [], _ => rfl
  | 0 :: t, j => congrArg (· + 1) (m_fs_len ad f gl t (j + 1))
  | 1 :: t, j => congrArg (· + 1) (m_fs_len ad f gl t (j + 1))
  | (q + 2) :: t, j => congrArg (· + 1) (m_fs_len ad f gl t (j + 1))
theorem m_fs_int (ad : Nat → Nat) (f : Nat → Int32) (gl : Nat → Int64) : ∀ (fs : List Nat) (j i : Nat), fs[i]? = some 0 → (m_fs ad f gl j fs)[i]? = some (.int (f (j + i)))
  | [], _, _, h => by simp at h
  | a :: t, j, 0, h => by
    simp at h
    subst h
    rfl
  | a :: t, j, i + 1, h => by
    have h2 : t[i]? = some 0 := by simpa using h
    have r := m_fs_int ad f gl t (j + 1) i h2
    have e : j + 1 + i = j + (i + 1) := by omega
    rw [e] at r
    match a with
    | 0 => simpa [m_fs] using r
    | 1 => simpa [m_fs] using r
    | q + 2 => simpa [m_fs] using r
theorem m_fs_long (ad : Nat → Nat) (f : Nat → Int32) (gl : Nat → Int64) : ∀ (fs : List Nat) (j i : Nat), fs[i]? = some 1 → (m_fs ad f gl j fs)[i]? = some (.long (gl (j + i)))
  | [], _, _, h => by simp at h
  | a :: t, j, 0, h => by
    simp at h
    subst h
    rfl
  | a :: t, j, i + 1, h => by
    have h2 : t[i]? = some 1 := by simpa using h
    have r := m_fs_long ad f gl t (j + 1) i h2
    have e : j + 1 + i = j + (i + 1) := by omega
    rw [e] at r
    match a with
    | 0 => simpa [m_fs] using r
    | 1 => simpa [m_fs] using r
    | q + 2 => simpa [m_fs] using r
theorem m_fs_ref (ad : Nat → Nat) (f : Nat → Int32) (gl : Nat → Int64) {q0 : Nat} : ∀ (fs : List Nat) (j i : Nat), fs[i]? = some (q0 + 2) → (m_fs ad f gl j fs)[i]? = some (.ref (ad q0))
  | [], _, _, h => by simp at h
  | a :: t, j, 0, h => by
    simp at h
    subst h
    rfl
  | a :: t, j, i + 1, h => by
    have h2 : t[i]? = some (q0 + 2) := by simpa using h
    have r := m_fs_ref ad f gl t (j + 1) i h2
    match a with
    | 0 => simpa [m_fs] using r
    | 1 => simpa [m_fs] using r
    | q + 2 => simpa [m_fs] using r
theorem m_fs_cong (ad : Nat → Nat) {f f' : Nat → Int32} {gl gl' : Nat → Int64} : ∀ (fs : List Nat) (j : Nat), (∀ i, j ≤ i → f i = f' i ∧ gl i = gl' i) → m_fs ad f gl j fs = m_fs ad f' gl' j fs
  | [], _, _ => rfl
  | 0 :: t, j, h => by
    have r := m_fs_cong ad t (j + 1) (fun i hi => h i (by omega))
    simp [m_fs, r, (h j (Nat.le_refl j)).1]
  | 1 :: t, j, h => by
    have r := m_fs_cong ad t (j + 1) (fun i hi => h i (by omega))
    simp [m_fs, r, (h j (Nat.le_refl j)).2]
  | (q + 2) :: t, j, h => by
    have r := m_fs_cong ad t (j + 1) (fun i hi => h i (by omega))
    simp [m_fs, r]
theorem m_fs_set (ad : Nat → Nat) (f : Nat → Int32) (gl : Nat → Int64) (x : Int32) : ∀ (fs : List Nat) (j i : Nat), fs[i]? = some 0 → (m_fs ad f gl j fs).set i (.int x) = m_fs ad (upd f (j + i) x) gl j fs
  | [], _, _, h => by simp at h
  | a :: t, j, 0, h => by
    simp at h
    subst h
    have r := m_fs_cong ad (f := f) (f' := upd f (j + 0) x) (gl := gl) (gl' := gl) t (j + 1) (fun i hi => ⟨by simp [upd]; omega, rfl⟩)
    simp only [m_fs, List.set_cons_zero, r]
    simp [upd]
  | a :: t, j, i + 1, h => by
    have h2 : t[i]? = some 0 := by simpa using h
    have r := m_fs_set ad f gl x t (j + 1) i h2
    have e : j + 1 + i = j + (i + 1) := by omega
    rw [e] at r
    match a with
    | 0 =>
      simp only [m_fs, List.set_cons_succ, r]
      simp [upd]
    | 1 => simp only [m_fs, List.set_cons_succ, r]
    | q + 2 => simp only [m_fs, List.set_cons_succ, r]
theorem m_fs_setL (ad : Nat → Nat) (f : Nat → Int32) (gl : Nat → Int64) (x : Int64) : ∀ (fs : List Nat) (j i : Nat), fs[i]? = some 1 → (m_fs ad f gl j fs).set i (.long x) = m_fs ad f (vp_updL gl (j + i) x) j fs
  | [], _, _, h => by simp at h
  | a :: t, j, 0, h => by
    simp at h
    subst h
    have r := m_fs_cong ad (f := f) (f' := f) (gl := gl) (gl' := vp_updL gl (j + 0) x) t (j + 1) (fun i hi => ⟨rfl, by simp [vp_updL]; omega⟩)
    simp only [m_fs, List.set_cons_zero, r]
    simp [vp_updL]
  | a :: t, j, i + 1, h => by
    have h2 : t[i]? = some 1 := by simpa using h
    have r := m_fs_setL ad f gl x t (j + 1) i h2
    have e : j + 1 + i = j + (i + 1) := by omega
    rw [e] at r
    match a with
    | 0 => simp only [m_fs, List.set_cons_succ, r]
    | 1 =>
      simp only [m_fs, List.set_cons_succ, r]
      simp [vp_updL]
    | q + 2 => simp only [m_fs, List.set_cons_succ, r]
/-- what place k holds -/
def m_ctL (G : mG) (f : Nat → Int32) (gl : Nat → Int64) : LE → va_E
  | (0, n :: _) => .inl (G.2.1.1, n, .inl f)
  | (1, ci :: fs) => .inr (ci, m_fs (mA G) f gl 0 fs)
  | (2, ps) => .inl (G.2.1.2.1, ps.length, .inr (.inr (.inr (.inr (fun i => (ps[i]?).map (mA G))))))
  | (3, n :: _) => .inl (G.2.1.2.2, n, .inr (.inl gl))
  | _ => .inl (G.2.1.1, 0, .inl f)
def m_ct (G : mG) (M : Mem) (g : Glo) (k : Nat) : va_E := m_ctL G (M k) (g k) (lay k)
def m_ws (G : mG) (M : Mem) (g : Glo) : va_W := (List.range 118).map (fun k => (mA G k, m_ct G M g k))
def mset (M : Mem) (k i : Nat) (x : Int32) : Mem := fun q => if q = k then upd (M k) i x else M q
def gset (g : Glo) (k i : Nat) (x : Int64) : Glo := fun q => if q = k then vp_updL (g k) i x else g q
theorem m_ws_at {G : mG} {M : Mem} {g : Glo} {k : Nat} (hk : k < 118) : (m_ws G M g)[k]? = some (mA G k, m_ct G M g k) := by
  simp [m_ws, hk]
theorem m_ws_inv {G : mG} {M : Mem} {g : Glo} {k : Nat} {q : Nat × va_E} (h : (m_ws G M g)[k]? = some q) : k < 118 ∧ q.1 = mA G k := by
  have hk : k < 118 := by
    have := (List.getElem?_eq_some_iff.mp h).1
    simpa [m_ws] using this
  rw [m_ws_at hk] at h
  cases h
  exact ⟨hk, rfl⟩
theorem m_ws_set {G : mG} {M M' : Mem} {g g' : Glo} {k : Nat} {e : va_E} (ho : ∀ q, q ≠ k → M' q = M q ∧ g' q = g q) (he : e = m_ct G M' g' k) : (m_ws G M g).set k (mA G k, e) = m_ws G M' g' := by
  apply List.ext_getElem?
  intro i
  by_cases hi : i < 118
  · rw [List.getElem?_set, m_ws_at hi, m_ws_at hi]
    by_cases h : k = i
    · subst h
      simp [m_ws, hi, he]
    · have := ho i (fun z => h z.symm)
      simp [h, m_ct, this.1, this.2]
  · rw [List.getElem?_eq_none (by simp [m_ws]; omega), List.getElem?_eq_none (by simp [m_ws]; omega)]
def mInj (G : mG) : Prop := ∀ i j : Nat, i < 118 → j < 118 → mA G i = mA G j → i = j
def mAq (G : mG) (sz : Nat) : Nat → Prop := fun q => (∃ k, k < 118 ∧ mA G k = q) ∨ sz ≤ q
theorem m_D {G : mG} {M : Mem} {g : Glo} {sz : Nat} (h : mInj G) : va_D (mAq G sz) (m_ws G M g) := by
  refine ⟨fun i j p q hp hq e => ?_, fun k q hq => ?_⟩
  · obtain ⟨a, b⟩ := m_ws_inv hp
    obtain ⟨c, d⟩ := m_ws_inv hq
    exact h i j a c (b ▸ d ▸ e)
  · obtain ⟨a, b⟩ := m_ws_inv hq
    exact Or.inl ⟨k, a, b.symm⟩
-- words that every method may ask for
def gd : List Cond := lw_tbl.filter goodWord
theorem gd_of {w : Cond} (h : w ∈ lw_tbl) (g : goodWord w = true) : w ∈ gd := List.mem_filter.mpr ⟨h, g⟩
theorem gd_t {w : Cond} (i : Nat) (h : tables_1[i]? = some w) (g : goodWord w = true) : w ∈ gd := gd_of (List.mem_append_right _ (List.mem_of_getElem? h)) g
theorem gd_s {w : Cond} (i : Nat) (h : (k2_sels lw_privs)[i]? = some w) (g : goodWord w = true) : w ∈ gd := gd_of (List.mem_append_left _ (List.mem_of_getElem? h)) g
theorem gd_good {w : Cond} (h : w ∈ gd) : goodWord w = true := (List.mem_filter.mp h).2
theorem gd_in {c : Cond} (hc : c ∈ gd) : GoodIn gd (c :: gd) := fun w hw => by
  have h : w ∈ gd := (List.mem_cons.mp hw).elim (fun e => e ▸ hc) id
  exact ⟨h, good_of_word (gd_good h)⟩
theorem gd_app {a b : List Cond} (ha : ∀ w ∈ a, w ∈ gd) (hb : GoodIn gd b) : GoodIn gd (a ++ b) := fun w hw => by
  rcases List.mem_append.mp hw with h | h
  · exact ⟨ha w h, good_of_word (gd_good (ha w h))⟩
  · exact hb w h
/-- a class of ours -/
def mCl (ci : Nat) (C : String) (T : u_T) (N : Nat) (ty : Nat → FieldType) : Prop := vwC[ci]? = some (C, T, N) ∧ (∀ w ∈ u_ws C T N, w ∈ gd) ∧ (∀ k, k < N → parseFieldDescriptor (T k).2.2.1 = some (ty k)) ∧ (∀ a, a < N → ∀ b, b < N → a ≠ b → (T a).2.1 ≠ (T b).2.1)
/-- field i of class ci, by the number idx in own's pool -/
def mFl (own : String) (idx ci i : Nat) : Prop := ∃ (C : String) (T : u_T) (N : Nat) (ty : Nat → FieldType), mCl ci C T N ty ∧ i < N ∧ Cond.fieldLink own idx (T i).1 (T i).2.1 (T i).2.2.1 ∈ gd
def mFi (own : String) (idx ci i : Nat) (t : FieldType) : Prop := ∃ (C : String) (T : u_T) (N : Nat) (ty : Nat → FieldType), mCl ci C T N ty ∧ i < N ∧ Cond.fieldLink own idx (T i).1 (T i).2.1 (T i).2.2.1 ∈ gd ∧ (T i).2.2.2 = false ∧ parseFieldDescriptor (T i).2.2.1 = some t
theorem mFi.fl {own : String} {idx ci i : Nat} {t : FieldType} (h : mFi own idx ci i t) : mFl own idx ci i := by
  obtain ⟨C, T, N, ty, h1, h2, h3, -, -⟩ := h
  exact ⟨C, T, N, ty, h1, h2, h3⟩
/-- links of private members across the nest, and the texts of the exceptions: by premises of their own -/
def nwL : List (String × Nat × MethodName × String) := [("HeatBranches", 9, ⟨"HeatBranches$State", "<init>", "()V"⟩, "HeatBranches"), ("HeatBranches$State", 18, ⟨"HeatBranches$Boilers", "<init>", "()V"⟩, "HeatBranches"), ("HeatBranches$History", 24, ⟨"HeatBranches$State", "<init>", "()V"⟩, "HeatBranches"), ("HeatBranches", 25, ⟨"HeatBranches$NetworkText", "<init>", "()V"⟩, "HeatBranches"), ("HeatBranches", 32, ⟨"HeatBranches$Hour", "<init>", "()V"⟩, "HeatBranches"), ("HeatBranches", 39, ⟨"HeatBranches$Regions", "<init>", "()V"⟩, "HeatBranches"), ("HeatBranches$Regions", 34, ⟨"HeatBranches", "copyRow", "([I[I)V"⟩, "HeatBranches"), ("HeatBranches$Network", 40, ⟨"HeatBranches", "copyRow", "([I[I)V"⟩, "HeatBranches"), ("HeatBranches$Boilers", 25, ⟨"HeatBranches", "copyRow", "([I[I)V"⟩, "HeatBranches")]
def strL : List (String × Nat × String) := [("HeatBranches", 258, "there is no such node"), ("HeatBranches", 267, "an argument is out of range"), ("HeatBranches", 81, "there are 16 nodes"), ("HeatBranches", 261, "there is no such node other than 0"), ("HeatBranches", 134, "there are 4 boilers"), ("HeatBranches", 263, "there is no such boiler"), ("HeatBranches", 161, "more than 200 hours"), ("HeatBranches", 222, "the text has 180 bytes"), ("HeatBranches", 235, "there is no saved state")]
/-- what the machine's tables and statics give, at a heap whose cells outside mAq G sz stay -/
def mS (G : mG) (sz : Nat) (U : State) (H : Heap) : Prop := va_K (mD G) vwC (mT G) U ∧ (∀ q ∈ nwL, va_Nw (.methodLinkNest q.1 q.2.1 q.2.2.1 q.2.2.2) U) ∧ vx_Zq Bundle.tN "UNASSIGNED_STACK" Bundle.steD (mAq G sz) U H ∧ vx_Zq Bundle.tN "SUPPRESSED_SENTINEL" Bundle.listD (mAq G sz) U H ∧ (∀ q ∈ strL, ∃ sa, vk_R q.1 q.2.1 q.2.2 sa U)
theorem mS.same {G : mG} {sz : Nat} {u U : State} {H : Heap} (hv : u.vm = U.vm) (h : mS G sz u H) : mS G sz U H := by
  obtain ⟨h1, h2, h3, h4, h5⟩ := h
  have ha : u.vm.Alike U.vm := by rw [hv]; exact Vm.Alike.refl _
  exact ⟨va_K.moved ha h1, fun q hq => va_Nw.same rfl hv (h2 q hq), h3.moved ha, h4.moved ha, fun q hq => (h5 q hq).imp fun _ z => vk_R.same hv.symm z⟩
theorem mAq_le {G : mG} {a b : Nat} (h : a ≤ b) {q : Nat} (hq : mAq G b q) : mAq G a q := hq.elim Or.inl (fun z => Or.inr (Nat.le_trans h z))
theorem mS.call {G : mG} {s U : State} {H : Heap} {locs : List Loc} (hW : s.WarmedH U.vm) (hS : va_S (mAq G s.heap.size) s.heap H locs) (h : mS G s.heap.size s s.heap) : mS G H.size U H := by
  obtain ⟨h1, h2, h3, h4, h5⟩ := h
  exact ⟨va_K.moved hW.alike h1, fun q hq => va_Nw.warmM hW (h2 q hq), ((h3.moved hW.alike).kept hS.2.1).narrow (fun q hq => mAq_le hS.1 hq), ((h4.moved hW.alike).kept hS.2.1).narrow (fun q hq => mAq_le hS.1 hq), fun q hq => (h5 q hq).imp fun _ z => vk_R.warm hW z⟩
def mCx (p : Program) (s : State) (m : MethodId) (args : Array Value) (c : Code) (cc : ByteArray) (nL : Nat) (own : String) (G : mG) : Prop :=
  p.tables.exec = Jvm.exec ∧ c.code = cc ∧ c.maxLocals = nL ∧ s.vm.findClass own = some m.cls ∧ (∀ w ∈ gd, w.before args s = true) ∧ mS G s.heap.size s s.heap ∧ mInj G
/-- the machine at pc with the locals L, the stack st, the memory (M, g) -/
def At (p : Program) (l : Launch) (e : Env) (R : Room) (s : State) (m : MethodId) (args : Array Value) (below : List Frame) (meth : Method) (c : Code) (G : mG) (nL k n : Nat) (Q : State → Prop) (M : Mem) (g : Glo) (L : List (Nat × Value)) (pc : Nat) (st : List Value) : Prop :=
  ∀ (H : Heap) (locs : List Loc) (ls : Array Slot), va_P (mD G) vwC (m_ws G M g) H → va_S (mAq G s.heap.size) s.heap H locs → lv_has ls nL L → W p l e R s m args below meth c H locs k n Q (F0 m pc ls st)
section MR
variable {p : Program} {l : Launch} {e : Env} {R : Room} {s : State} {m : MethodId} {args : Array Value} {below : List Frame} {meth : Method} {c : Code} {G : mG} {nL kk nn : Nat} {Q : State → Prop} {M : Mem} {g : Glo} {L : List (Nat × Value)} {pc : Nat} {st : List Value} {cc : ByteArray} {own : String}
theorem r_iconst {v : Int32} {n : Int} (C : mCx p s m args c cc nL own G) (hd : decode cc pc = .ok (.iconst n, 1)) (hv : Int32.ofInt n = v) (k : At p l e R s m args below meth c G nL kk nn Q M g L (pc + 1) (.int v :: st)) : At p l e R s m args below meth c G nL kk nn Q M g L pc st :=
  fun H locs ls hP hS hl => lv_iconst C.1 C.2.1 hd hv (k H locs ls hP hS hl)
theorem r_bipush {v : Int32} {n : Int} (C : mCx p s m args c cc nL own G) (hd : decode cc pc = .ok (.bipush n, 2)) (hv : (Int8.ofInt n).toInt32 = v) (k : At p l e R s m args below meth c G nL kk nn Q M g L (pc + 2) (.int v :: st)) : At p l e R s m args below meth c G nL kk nn Q M g L pc st :=
  fun H locs ls hP hS hl => lv_bipush C.1 C.2.1 hd hv (k H locs ls hP hS hl)
theorem r_sipush {v : Int32} {n : Int} (C : mCx p s m args c cc nL own G) (hd : decode cc pc = .ok (.sipush n, 3)) (hv : (Int16.ofInt n).toInt32 = v) (k : At p l e R s m args below meth c G nL kk nn Q M g L (pc + 3) (.int v :: st)) : At p l e R s m args below meth c G nL kk nn Q M g L pc st :=
  fun H locs ls hP hS hl => lv_sipush C.1 C.2.1 hd hv (k H locs ls hP hS hl)
theorem r_iload_n {k0 : Fin 4} {x : Int32} (C : mCx p s m args c cc nL own G) (hd : decode cc pc = .ok (.iload_n k0, 1)) (i : Nat) (hl0 : L[i]? = some ((k0 : Nat), .int x)) (k : At p l e R s m args below meth c G nL kk nn Q M g L (pc + 1) (.int x :: st)) : At p l e R s m args below meth c G nL kk nn Q M g L pc st :=
  fun H locs ls hP hS hl => lv_iload_n C.1 C.2.1 hd rfl (lv_at hl i hl0) (k H locs ls hP hS hl)
theorem r_iload {k0 : Nat} {x : Int32} (C : mCx p s m args c cc nL own G) (hd : decode cc pc = .ok (.iload k0, 2)) (i : Nat) (hl0 : L[i]? = some (k0, .int x)) (k : At p l e R s m args below meth c G nL kk nn Q M g L (pc + 2) (.int x :: st)) : At p l e R s m args below meth c G nL kk nn Q M g L pc st :=
  fun H locs ls hP hS hl => lv_iload C.1 C.2.1 hd (lv_at hl i hl0) (k H locs ls hP hS hl)
theorem r_aload_n {k0 : Fin 4} {x : Nat} (C : mCx p s m args c cc nL own G) (hd : decode cc pc = .ok (.aload_n k0, 1)) (i : Nat) (hl0 : L[i]? = some ((k0 : Nat), .ref x)) (k : At p l e R s m args below meth c G nL kk nn Q M g L (pc + 1) (.ref x :: st)) : At p l e R s m args below meth c G nL kk nn Q M g L pc st :=
  fun H locs ls hP hS hl => lv_aload_n C.1 C.2.1 hd rfl (lv_at hl i hl0) (k H locs ls hP hS hl)
theorem r_aload {k0 : Nat} {x : Nat} (C : mCx p s m args c cc nL own G) (hd : decode cc pc = .ok (.aload k0, 2)) (i : Nat) (hl0 : L[i]? = some (k0, .ref x)) (k : At p l e R s m args below meth c G nL kk nn Q M g L (pc + 2) (.ref x :: st)) : At p l e R s m args below meth c G nL kk nn Q M g L pc st :=
  fun H locs ls hP hS hl => lv_aload C.1 C.2.1 hd (lv_at hl i hl0) (k H locs ls hP hS hl)
theorem r_lload_n {k0 : Fin 4} {x : Int64} (C : mCx p s m args c cc nL own G) (hd : decode cc pc = .ok (.lload_n k0, 1)) (i : Nat) (hl0 : L[i]? = some ((k0 : Nat), .long x)) (k : At p l e R s m args below meth c G nL kk nn Q M g L (pc + 1) (.long x :: st)) : At p l e R s m args below meth c G nL kk nn Q M g L pc st :=
  fun H locs ls hP hS hl => lv_lload_n C.1 C.2.1 hd rfl (lv_at hl i hl0) (k H locs ls hP hS hl)
theorem r_istore_n {k0 : Fin 4} {x : Int32} {L' : List (Nat × Value)} (C : mCx p s m args c cc nL own G) (hd : decode cc pc = .ok (.istore_n k0, 1)) (hn : (k0 : Nat) < nL) (hL : ((k0 : Nat), Value.int x) :: L.filter (fun q => !(q.1 == (k0 : Nat)) && !(q.1 + 1 == (k0 : Nat) && q.2.category == 2)) = L') (k : At p l e R s m args below meth c G nL kk nn Q M g L' (pc + 1) st) : At p l e R s m args below meth c G nL kk nn Q M g L pc (.int x :: st) :=
  fun H locs ls hP hS hl => lv_istore_n C.1 C.2.1 hd rfl hl hn hL (fun ls hl => k H locs ls hP hS hl)
theorem r_istore {k0 : Nat} {x : Int32} {L' : List (Nat × Value)} (C : mCx p s m args c cc nL own G) (hd : decode cc pc = .ok (.istore k0, 2)) (hn : k0 < nL) (hL : (k0, Value.int x) :: L.filter (fun q => !(q.1 == k0) && !(q.1 + 1 == k0 && q.2.category == 2)) = L') (k : At p l e R s m args below meth c G nL kk nn Q M g L' (pc + 2) st) : At p l e R s m args below meth c G nL kk nn Q M g L pc (.int x :: st) :=
  fun H locs ls hP hS hl => lv_istore C.1 C.2.1 hd hl hn hL (fun ls hl => k H locs ls hP hS hl)
theorem r_astore_n {k0 : Fin 4} {x : Nat} {L' : List (Nat × Value)} (C : mCx p s m args c cc nL own G) (hd : decode cc pc = .ok (.astore_n k0, 1)) (hn : (k0 : Nat) < nL) (hL : ((k0 : Nat), Value.ref x) :: L.filter (fun q => !(q.1 == (k0 : Nat)) && !(q.1 + 1 == (k0 : Nat) && q.2.category == 2)) = L') (k : At p l e R s m args below meth c G nL kk nn Q M g L' (pc + 1) st) : At p l e R s m args below meth c G nL kk nn Q M g L pc (.ref x :: st) :=
  fun H locs ls hP hS hl => lv_astore_n C.1 C.2.1 hd rfl hl hn hL (fun ls hl => k H locs ls hP hS hl)
theorem r_astore {k0 : Nat} {x : Nat} {L' : List (Nat × Value)} (C : mCx p s m args c cc nL own G) (hd : decode cc pc = .ok (.astore k0, 2)) (hn : k0 < nL) (hL : (k0, Value.ref x) :: L.filter (fun q => !(q.1 == k0) && !(q.1 + 1 == k0 && q.2.category == 2)) = L') (k : At p l e R s m args below meth c G nL kk nn Q M g L' (pc + 2) st) : At p l e R s m args below meth c G nL kk nn Q M g L pc (.ref x :: st) :=
  fun H locs ls hP hS hl => lv_astore C.1 C.2.1 hd hl hn hL (fun ls hl => k H locs ls hP hS hl)
theorem r_lstore_n {k0 : Fin 4} {x : Int64} {L' : List (Nat × Value)} (C : mCx p s m args c cc nL own G) (hd : decode cc pc = .ok (.lstore_n k0, 1)) (hn : (k0 : Nat) + 1 < nL) (hL : ((k0 : Nat), Value.long x) :: L.filter (fun q => !(q.1 == (k0 : Nat)) && (!(q.1 == (k0 : Nat) + 1) && !(q.1 + 1 == (k0 : Nat) && q.2.category == 2))) = L') (k : At p l e R s m args below meth c G nL kk nn Q M g L' (pc + 1) st) : At p l e R s m args below meth c G nL kk nn Q M g L pc (.long x :: st) :=
  fun H locs ls hP hS hl => lv_lstore_n C.1 C.2.1 hd rfl hl hn hL (fun ls hl => k H locs ls hP hS hl)
theorem r_iinc {k0 : Nat} {n : Int} {x v : Int32} {L' : List (Nat × Value)} (C : mCx p s m args c cc nL own G) (hd : decode cc pc = .ok (.iinc k0 n, 3)) (i : Nat) (hl0 : L[i]? = some (k0, .int x)) (hv : x + Int32.ofInt n = v) (hn : k0 < nL) (hL : (k0, Value.int v) :: L.filter (fun q => !(q.1 == k0) && !(q.1 + 1 == k0 && q.2.category == 2)) = L') (k : At p l e R s m args below meth c G nL kk nn Q M g L' (pc + 3) st) : At p l e R s m args below meth c G nL kk nn Q M g L pc st :=
  fun H locs ls hP hS hl => lv_iinc C.1 C.2.1 hd hl hl0 hv hn hL (fun ls hl => k H locs ls hP hS hl)
theorem r_sub {L' : List (Nat × Value)} (ks : List Nat) (h : lv_pick L ks = L') (k : At p l e R s m args below meth c G nL kk nn Q M g L' pc st) : At p l e R s m args below meth c G nL kk nn Q M g L pc st :=
  fun H locs ls hP hS hl => k H locs ls hP hS (lv_sub hl ks h)
theorem r_iadd {x y : Int32} (C : mCx p s m args c cc nL own G) (hd : decode cc pc = .ok (.iadd, 1)) (k : At p l e R s m args below meth c G nL kk nn Q M g L (pc + 1) (.int (x + y) :: st)) : At p l e R s m args below meth c G nL kk nn Q M g L pc (.int y :: .int x :: st) :=
  fun H locs ls hP hS hl => lv_iadd C.1 C.2.1 hd (k H locs ls hP hS hl)
theorem r_isub {x y : Int32} (C : mCx p s m args c cc nL own G) (hd : decode cc pc = .ok (.isub, 1)) (k : At p l e R s m args below meth c G nL kk nn Q M g L (pc + 1) (.int (x - y) :: st)) : At p l e R s m args below meth c G nL kk nn Q M g L pc (.int y :: .int x :: st) :=
  fun H locs ls hP hS hl => lv_isub C.1 C.2.1 hd (k H locs ls hP hS hl)
theorem r_imul {x y : Int32} (C : mCx p s m args c cc nL own G) (hd : decode cc pc = .ok (.imul, 1)) (k : At p l e R s m args below meth c G nL kk nn Q M g L (pc + 1) (.int (x * y) :: st)) : At p l e R s m args below meth c G nL kk nn Q M g L pc (.int y :: .int x :: st) :=
  fun H locs ls hP hS hl => lv_imul C.1 C.2.1 hd (k H locs ls hP hS hl)
theorem r_idiv {x y : Int32} (C : mCx p s m args c cc nL own G) (hd : decode cc pc = .ok (.idiv, 1)) (hy : ¬ y = 0) (k : At p l e R s m args below meth c G nL kk nn Q M g L (pc + 1) (.int (x / y) :: st)) : At p l e R s m args below meth c G nL kk nn Q M g L pc (.int y :: .int x :: st) :=
  fun H locs ls hP hS hl => lv_idiv C.1 C.2.1 hd hy (k H locs ls hP hS hl)
theorem r_iand {x y : Int32} (C : mCx p s m args c cc nL own G) (hd : decode cc pc = .ok (.iand, 1)) (k : At p l e R s m args below meth c G nL kk nn Q M g L (pc + 1) (.int (x &&& y) :: st)) : At p l e R s m args below meth c G nL kk nn Q M g L pc (.int y :: .int x :: st) :=
  fun H locs ls hP hS hl => lv_iand C.1 C.2.1 hd (k H locs ls hP hS hl)
theorem r_ior {x y : Int32} (C : mCx p s m args c cc nL own G) (hd : decode cc pc = .ok (.ior, 1)) (k : At p l e R s m args below meth c G nL kk nn Q M g L (pc + 1) (.int (x ||| y) :: st)) : At p l e R s m args below meth c G nL kk nn Q M g L pc (.int y :: .int x :: st) :=
  fun H locs ls hP hS hl => lv_ior C.1 C.2.1 hd (k H locs ls hP hS hl)
theorem r_ineg {x : Int32} (C : mCx p s m args c cc nL own G) (hd : decode cc pc = .ok (.ineg, 1)) (k : At p l e R s m args below meth c G nL kk nn Q M g L (pc + 1) (.int (-x) :: st)) : At p l e R s m args below meth c G nL kk nn Q M g L pc (.int x :: st) :=
  fun H locs ls hP hS hl => lv_ineg C.1 C.2.1 hd (k H locs ls hP hS hl)
theorem r_valI {x y : Int32} (h : x = y) (k : At p l e R s m args below meth c G nL kk nn Q M g L pc (.int y :: st)) : At p l e R s m args below meth c G nL kk nn Q M g L pc (.int x :: st) := h ▸ k
theorem r_mem {M' : Mem} (h : M = M') (k : At p l e R s m args below meth c G nL kk nn Q M' g L pc st) : At p l e R s m args below meth c G nL kk nn Q M g L pc st := h ▸ k
theorem r_dup {v : Value} (C : mCx p s m args c cc nL own G) (hd : decode cc pc = .ok (.dup, 1)) (hv : v.category = 1) (k : At p l e R s m args below meth c G nL kk nn Q M g L (pc + 1) (v :: v :: st)) : At p l e R s m args below meth c G nL kk nn Q M g L pc (v :: st) :=
  fun H locs ls hP hS hl => lv_dup C.1 C.2.1 hd hv (k H locs ls hP hS hl)
theorem r_dup2 {v w : Value} (C : mCx p s m args c cc nL own G) (hd : decode cc pc = .ok (.dup2, 1)) (hv : v.category = 1) (hw : w.category = 1) (k : At p l e R s m args below meth c G nL kk nn Q M g L (pc + 1) (v :: w :: v :: w :: st)) : At p l e R s m args below meth c G nL kk nn Q M g L pc (v :: w :: st) :=
  fun H locs ls hP hS hl => lv_dup2_11 C.1 C.2.1 hd hv hw (k H locs ls hP hS hl)
theorem r_pop {v : Value} (C : mCx p s m args c cc nL own G) (hd : decode cc pc = .ok (.pop, 1)) (hv : v.category = 1) (k : At p l e R s m args below meth c G nL kk nn Q M g L (pc + 1) st) : At p l e R s m args below meth c G nL kk nn Q M g L pc (v :: st) :=
  fun H locs ls hP hS hl => lv_pop C.1 C.2.1 hd hv (k H locs ls hP hS hl)
theorem r_goto {off : Int} {tgt : Nat} (C : mCx p s m args c cc nL own G) (hd : decode cc pc = .ok (.goto off, 3)) (ht : (pc : Int) + off = (tgt : Int)) (k : At p l e R s m args below meth c G nL kk nn Q M g L tgt st) : At p l e R s m args below meth c G nL kk nn Q M g L pc st :=
  fun H locs ls hP hS hl => lv_goto C.1 C.2.1 hd ht (k H locs ls hP hS hl)
theorem r_if_eq {x : Int32} {off : Int} {tgt : Nat} (C : mCx p s m args c cc nL own G) (hd : decode cc pc = .ok (.ifCond .eq off, 3)) (ht : (pc : Int) + off = (tgt : Int)) (k1 : x = 0 → At p l e R s m args below meth c G nL kk nn Q M g L tgt st) (k2 : ¬ x = 0 → At p l e R s m args below meth c G nL kk nn Q M g L (pc + 3) st) : At p l e R s m args below meth c G nL kk nn Q M g L pc (.int x :: st) :=
  fun H locs ls hP hS hl => lv_if_eq C.1 C.2.1 hd ht (fun q => k1 q H locs ls hP hS hl) (fun q => k2 q H locs ls hP hS hl)
theorem r_icmp_eq {x y : Int32} {off : Int} {tgt : Nat} (C : mCx p s m args c cc nL own G) (hd : decode cc pc = .ok (.if_icmp .eq off, 3)) (ht : (pc : Int) + off = (tgt : Int)) (k1 : x = y → At p l e R s m args below meth c G nL kk nn Q M g L tgt st) (k2 : ¬ x = y → At p l e R s m args below meth c G nL kk nn Q M g L (pc + 3) st) : At p l e R s m args below meth c G nL kk nn Q M g L pc (.int y :: .int x :: st) :=
  fun H locs ls hP hS hl => lv_icmp_eq C.1 C.2.1 hd ht (fun q => k1 q H locs ls hP hS hl) (fun q => k2 q H locs ls hP hS hl)
theorem r_if_ne {x : Int32} {off : Int} {tgt : Nat} (C : mCx p s m args c cc nL own G) (hd : decode cc pc = .ok (.ifCond .ne off, 3)) (ht : (pc : Int) + off = (tgt : Int)) (k1 : ¬ x = 0 → At p l e R s m args below meth c G nL kk nn Q M g L tgt st) (k2 : x = 0 → At p l e R s m args below meth c G nL kk nn Q M g L (pc + 3) st) : At p l e R s m args below meth c G nL kk nn Q M g L pc (.int x :: st) :=
  fun H locs ls hP hS hl => lv_if_ne C.1 C.2.1 hd ht (fun q => k1 q H locs ls hP hS hl) (fun q => k2 q H locs ls hP hS hl)
theorem r_icmp_ne {x y : Int32} {off : Int} {tgt : Nat} (C : mCx p s m args c cc nL own G) (hd : decode cc pc = .ok (.if_icmp .ne off, 3)) (ht : (pc : Int) + off = (tgt : Int)) (k1 : ¬ x = y → At p l e R s m args below meth c G nL kk nn Q M g L tgt st) (k2 : x = y → At p l e R s m args below meth c G nL kk nn Q M g L (pc + 3) st) : At p l e R s m args below meth c G nL kk nn Q M g L pc (.int y :: .int x :: st) :=
  fun H locs ls hP hS hl => lv_icmp_ne C.1 C.2.1 hd ht (fun q => k1 q H locs ls hP hS hl) (fun q => k2 q H locs ls hP hS hl)
theorem r_if_lt {x : Int32} {off : Int} {tgt : Nat} (C : mCx p s m args c cc nL own G) (hd : decode cc pc = .ok (.ifCond .lt off, 3)) (ht : (pc : Int) + off = (tgt : Int)) (k1 : x < 0 → At p l e R s m args below meth c G nL kk nn Q M g L tgt st) (k2 : ¬ x < 0 → At p l e R s m args below meth c G nL kk nn Q M g L (pc + 3) st) : At p l e R s m args below meth c G nL kk nn Q M g L pc (.int x :: st) :=
  fun H locs ls hP hS hl => lv_if_lt C.1 C.2.1 hd ht (fun q => k1 q H locs ls hP hS hl) (fun q => k2 q H locs ls hP hS hl)
theorem r_icmp_lt {x y : Int32} {off : Int} {tgt : Nat} (C : mCx p s m args c cc nL own G) (hd : decode cc pc = .ok (.if_icmp .lt off, 3)) (ht : (pc : Int) + off = (tgt : Int)) (k1 : x < y → At p l e R s m args below meth c G nL kk nn Q M g L tgt st) (k2 : ¬ x < y → At p l e R s m args below meth c G nL kk nn Q M g L (pc + 3) st) : At p l e R s m args below meth c G nL kk nn Q M g L pc (.int y :: .int x :: st) :=
  fun H locs ls hP hS hl => lv_icmp_lt C.1 C.2.1 hd ht (fun q => k1 q H locs ls hP hS hl) (fun q => k2 q H locs ls hP hS hl)
theorem r_if_ge {x : Int32} {off : Int} {tgt : Nat} (C : mCx p s m args c cc nL own G) (hd : decode cc pc = .ok (.ifCond .ge off, 3)) (ht : (pc : Int) + off = (tgt : Int)) (k1 : 0 ≤ x → At p l e R s m args below meth c G nL kk nn Q M g L tgt st) (k2 : ¬ 0 ≤ x → At p l e R s m args below meth c G nL kk nn Q M g L (pc + 3) st) : At p l e R s m args below meth c G nL kk nn Q M g L pc (.int x :: st) :=
  fun H locs ls hP hS hl => lv_if_ge C.1 C.2.1 hd ht (fun q => k1 q H locs ls hP hS hl) (fun q => k2 q H locs ls hP hS hl)
theorem r_icmp_ge {x y : Int32} {off : Int} {tgt : Nat} (C : mCx p s m args c cc nL own G) (hd : decode cc pc = .ok (.if_icmp .ge off, 3)) (ht : (pc : Int) + off = (tgt : Int)) (k1 : y ≤ x → At p l e R s m args below meth c G nL kk nn Q M g L tgt st) (k2 : ¬ y ≤ x → At p l e R s m args below meth c G nL kk nn Q M g L (pc + 3) st) : At p l e R s m args below meth c G nL kk nn Q M g L pc (.int y :: .int x :: st) :=
  fun H locs ls hP hS hl => lv_icmp_ge C.1 C.2.1 hd ht (fun q => k1 q H locs ls hP hS hl) (fun q => k2 q H locs ls hP hS hl)
theorem r_if_gt {x : Int32} {off : Int} {tgt : Nat} (C : mCx p s m args c cc nL own G) (hd : decode cc pc = .ok (.ifCond .gt off, 3)) (ht : (pc : Int) + off = (tgt : Int)) (k1 : 0 < x → At p l e R s m args below meth c G nL kk nn Q M g L tgt st) (k2 : ¬ 0 < x → At p l e R s m args below meth c G nL kk nn Q M g L (pc + 3) st) : At p l e R s m args below meth c G nL kk nn Q M g L pc (.int x :: st) :=
  fun H locs ls hP hS hl => lv_if_gt C.1 C.2.1 hd ht (fun q => k1 q H locs ls hP hS hl) (fun q => k2 q H locs ls hP hS hl)
theorem r_icmp_gt {x y : Int32} {off : Int} {tgt : Nat} (C : mCx p s m args c cc nL own G) (hd : decode cc pc = .ok (.if_icmp .gt off, 3)) (ht : (pc : Int) + off = (tgt : Int)) (k1 : y < x → At p l e R s m args below meth c G nL kk nn Q M g L tgt st) (k2 : ¬ y < x → At p l e R s m args below meth c G nL kk nn Q M g L (pc + 3) st) : At p l e R s m args below meth c G nL kk nn Q M g L pc (.int y :: .int x :: st) :=
  fun H locs ls hP hS hl => lv_icmp_gt C.1 C.2.1 hd ht (fun q => k1 q H locs ls hP hS hl) (fun q => k2 q H locs ls hP hS hl)
theorem r_if_le {x : Int32} {off : Int} {tgt : Nat} (C : mCx p s m args c cc nL own G) (hd : decode cc pc = .ok (.ifCond .le off, 3)) (ht : (pc : Int) + off = (tgt : Int)) (k1 : x ≤ 0 → At p l e R s m args below meth c G nL kk nn Q M g L tgt st) (k2 : ¬ x ≤ 0 → At p l e R s m args below meth c G nL kk nn Q M g L (pc + 3) st) : At p l e R s m args below meth c G nL kk nn Q M g L pc (.int x :: st) :=
  fun H locs ls hP hS hl => lv_if_le C.1 C.2.1 hd ht (fun q => k1 q H locs ls hP hS hl) (fun q => k2 q H locs ls hP hS hl)
theorem r_icmp_le {x y : Int32} {off : Int} {tgt : Nat} (C : mCx p s m args c cc nL own G) (hd : decode cc pc = .ok (.if_icmp .le off, 3)) (ht : (pc : Int) + off = (tgt : Int)) (k1 : x ≤ y → At p l e R s m args below meth c G nL kk nn Q M g L tgt st) (k2 : ¬ x ≤ y → At p l e R s m args below meth c G nL kk nn Q M g L (pc + 3) st) : At p l e R s m args below meth c G nL kk nn Q M g L pc (.int y :: .int x :: st) :=
  fun H locs ls hP hS hl => lv_icmp_le C.1 C.2.1 hd ht (fun q => k1 q H locs ls hP hS hl) (fun q => k2 q H locs ls hP hS hl)
end MR
end
section
section MM
variable {p : Program} {l : Launch} {e : Env} {R : Room} {s : State} {m : MethodId} {args : Array Value} {below : List Frame} {meth : Method} {c : Code} {G : mG} {nL kk nn : Nat} {Q : State → Prop} {M : Mem} {g : Glo} {L : List (Nat × Value)} {pc : Nat} {st : List Value} {cc : ByteArray} {own : String}
theorem m_obj {G : mG} {M : Mem} {g : Glo} {q ci : Nat} {fs : List Nat} (hq : lay q = (1, ci :: fs)) : (m_ws G M g)[q]? = some (mA G q, .inr (ci, m_fs (mA G) (M q) (g q) 0 fs)) := by
  have h := m_ws_at (G := G) (M := M) (g := g) (lay_lt (k := q) (by rw [hq]; intro h; cases h))
  rw [h]
  simp only [m_ct, hq, m_ctL]
theorem m_arr {G : mG} {M : Mem} {g : Glo} {q n : Nat} (hq : lay q = (0, [n])) (hn : n ≠ 0) : (m_ws G M g)[q]? = some (mA G q, .inl (G.2.1.1, n, .inl (M q))) := by
  have h := m_ws_at (G := G) (M := M) (g := g) (lay_lt (k := q) (by rw [hq]; intro h; injection h with _ h2; injection h2 with h3; exact hn h3))
  rw [h]
  simp only [m_ct, hq, m_ctL]
theorem m_arL {G : mG} {M : Mem} {g : Glo} {q n : Nat} (hq : lay q = (3, [n])) : (m_ws G M g)[q]? = some (mA G q, .inl (G.2.1.2.2, n, .inr (.inl (g q)))) := by
  have h := m_ws_at (G := G) (M := M) (g := g) (lay_lt (k := q) (by rw [hq]; intro h; injection h with h2 _; cases h2))
  rw [h]
  simp only [m_ct, hq, m_ctL]
theorem m_arR {G : mG} {M : Mem} {g : Glo} {q : Nat} {ps : List Nat} (hq : lay q = (2, ps)) : (m_ws G M g)[q]? = some (mA G q, .inl (G.2.1.2.1, ps.length, .inr (.inr (.inr (.inr (fun i => (ps[i]?).map (mA G))))))) := by
  have h := m_ws_at (G := G) (M := M) (g := g) (lay_lt (k := q) (by rw [hq]; intro h; injection h with h2 _; cases h2))
  rw [h]
  simp only [m_ct, hq, m_ctL]
theorem m_ct_set {G : mG} {M : Mem} {g : Glo} {q i : Nat} {x : Int32} {e : va_E} (he : e = m_ct G (mset M q i x) g q) : (m_ws G M g).set q (mA G q, e) = m_ws G (mset M q i x) g :=
  m_ws_set (fun z hz => ⟨by simp [mset, hz], rfl⟩) he
theorem m_ct_setL {G : mG} {M : Mem} {g : Glo} {q i : Nat} {x : Int64} {e : va_E} (he : e = m_ct G M (gset g q i x) q) : (m_ws G M g).set q (mA G q, e) = m_ws G M (gset g q i x) :=
  m_ws_set (fun z hz => ⟨rfl, by simp [gset, hz]⟩) he
theorem r_geti {q ci : Nat} {fs : List Nat} {idx : Nat} (C : mCx p s m args c cc nL own G) (hd : decode cc pc = .ok (.getfield idx, 3)) (i : Nat) (hf : mFl own idx ci i) (hq : lay q = (1, ci :: fs)) (hi : fs[i]? = some 0) (k : At p l e R s m args below meth c G nL kk nn Q M g L (pc + 3) (.int (M q i) :: st)) : At p l e R s m args below meth c G nL kk nn Q M g L pc (.ref (mA G q) :: st) := by
  intro H locs ls hP hS hl
  obtain ⟨C0, T, N, ty, ⟨c1, c2, c3, c4⟩, h2, h3⟩ := hf
  have hv := m_fs_int (mA G) (M q) (g q) fs 0 i hi
  rw [Nat.zero_add] at hv
  exact va_get (D := mD G) (v := .int (M q i)) C.1 C.2.1 (Ts := gd) C.2.2.2.2.1 c2 C.2.2.2.1 C.2.2.2.2.2.1.1 hP q (m_obj hq) c1 i h2 (C.2.2.2.2.1 _ h3) (fun _ h => h) hv hd (k H locs ls hP hS hl)
theorem r_getl {q ci : Nat} {fs : List Nat} {idx : Nat} (C : mCx p s m args c cc nL own G) (hd : decode cc pc = .ok (.getfield idx, 3)) (i : Nat) (hf : mFl own idx ci i) (hq : lay q = (1, ci :: fs)) (hi : fs[i]? = some 1) (k : At p l e R s m args below meth c G nL kk nn Q M g L (pc + 3) (.long (g q i) :: st)) : At p l e R s m args below meth c G nL kk nn Q M g L pc (.ref (mA G q) :: st) := by
  intro H locs ls hP hS hl
  obtain ⟨C0, T, N, ty, ⟨c1, c2, c3, c4⟩, h2, h3⟩ := hf
  have hv := m_fs_long (mA G) (M q) (g q) fs 0 i hi
  rw [Nat.zero_add] at hv
  exact va_get (D := mD G) (v := .long (g q i)) C.1 C.2.1 (Ts := gd) C.2.2.2.2.1 c2 C.2.2.2.1 C.2.2.2.2.2.1.1 hP q (m_obj hq) c1 i h2 (C.2.2.2.2.1 _ h3) (fun _ h => h) hv hd (k H locs ls hP hS hl)
theorem r_getr {q ci q2 : Nat} {fs : List Nat} {idx : Nat} (C : mCx p s m args c cc nL own G) (hd : decode cc pc = .ok (.getfield idx, 3)) (i : Nat) (hf : mFl own idx ci i) (hq : lay q = (1, ci :: fs)) (hi : fs[i]? = some (q2 + 2)) (k : At p l e R s m args below meth c G nL kk nn Q M g L (pc + 3) (.ref (mA G q2) :: st)) : At p l e R s m args below meth c G nL kk nn Q M g L pc (.ref (mA G q) :: st) := by
  intro H locs ls hP hS hl
  obtain ⟨C0, T, N, ty, ⟨c1, c2, c3, c4⟩, h2, h3⟩ := hf
  exact va_get (D := mD G) (v := .ref (mA G q2)) C.1 C.2.1 (Ts := gd) C.2.2.2.2.1 c2 C.2.2.2.1 C.2.2.2.2.2.1.1 hP q (m_obj hq) c1 i h2 (C.2.2.2.2.1 _ h3) (fun _ h => h) (m_fs_ref (mA G) (M q) (g q) fs 0 i hi) hd (k H locs ls hP hS hl)
theorem r_puti {q ci : Nat} {fs : List Nat} {idx : Nat} {x : Int32} (C : mCx p s m args c cc nL own G) (hd : decode cc pc = .ok (.putfield idx, 3)) (i : Nat) (hf : mFi own idx ci i .int) (hq : lay q = (1, ci :: fs)) (hi : fs[i]? = some 0) (k : At p l e R s m args below meth c G nL kk nn Q (mset M q i x) g L (pc + 3) st) : At p l e R s m args below meth c G nL kk nn Q M g L pc (.int x :: .ref (mA G q) :: st) := by
  intro H locs ls hP hS hl
  obtain ⟨C0, T, N, ty, ⟨c1, c2, c3, c4⟩, h2, h3, h4, h5⟩ := hf
  refine va_put (D := mD G) (v := .int x) (ty := .int) C.1 C.2.1 (Ts := gd) C.2.2.2.2.1 c2 ty c3 c4 C.2.2.2.1 C.2.2.2.2.2.1.1 hP (m_D C.2.2.2.2.2.2) hS q (m_obj hq) c1 i h2 (C.2.2.2.2.1 _ h3) (fun _ h => h) h4 h5 rfl rfl (by rw [m_fs_len]; exact (List.getElem?_eq_some_iff.mp hi).1) hd (fun H locs hP _ hS => ?_)
  refine k H locs ls ?_ hS hl
  rw [← m_ct_set (G := G) (M := M) (g := g) (q := q) (i := i) (x := x) (e := .inr (ci, (m_fs (mA G) (M q) (g q) 0 fs).set i (.int x)))]
  · exact hP
  · simp only [m_ct, hq, m_ctL]
    rw [m_fs_set (mA G) (M q) (g q) x fs 0 i hi, Nat.zero_add]
    simp [mset]
theorem r_putl {q ci : Nat} {fs : List Nat} {idx : Nat} {x : Int64} (C : mCx p s m args c cc nL own G) (hd : decode cc pc = .ok (.putfield idx, 3)) (i : Nat) (hf : mFi own idx ci i .long) (hq : lay q = (1, ci :: fs)) (hi : fs[i]? = some 1) (k : At p l e R s m args below meth c G nL kk nn Q M (gset g q i x) L (pc + 3) st) : At p l e R s m args below meth c G nL kk nn Q M g L pc (.long x :: .ref (mA G q) :: st) := by
  intro H locs ls hP hS hl
  obtain ⟨C0, T, N, ty, ⟨c1, c2, c3, c4⟩, h2, h3, h4, h5⟩ := hf
  refine va_put (D := mD G) (v := .long x) (ty := .long) C.1 C.2.1 (Ts := gd) C.2.2.2.2.1 c2 ty c3 c4 C.2.2.2.1 C.2.2.2.2.2.1.1 hP (m_D C.2.2.2.2.2.2) hS q (m_obj hq) c1 i h2 (C.2.2.2.2.1 _ h3) (fun _ h => h) h4 h5 rfl rfl (by rw [m_fs_len]; exact (List.getElem?_eq_some_iff.mp hi).1) hd (fun H locs hP _ hS => ?_)
  refine k H locs ls ?_ hS hl
  rw [← m_ct_setL (G := G) (M := M) (g := g) (q := q) (i := i) (x := x) (e := .inr (ci, (m_fs (mA G) (M q) (g q) 0 fs).set i (.long x)))]
  · exact hP
  · simp only [m_ct, hq, m_ctL]
    rw [m_fs_setL (mA G) (M q) (g q) x fs 0 i hi, Nat.zero_add]
    simp [gset]
theorem vp_in_ne {i : Int32} {n : Nat} (h : vp_in i n) : n ≠ 0 := fun e => h (Or.inr (by omega))
theorem r_iald {q n : Nat} {i : Int32} (C : mCx p s m args c cc nL own G) (hd : decode cc pc = .ok (.iaload, 1)) (hq : lay q = (0, [n])) (hin : vp_in i n) (k : At p l e R s m args below meth c G nL kk nn Q M g L (pc + 1) (.int (M q i.toNatClampNeg) :: st)) : At p l e R s m args below meth c G nL kk nn Q M g L pc (.int i :: .ref (mA G q) :: st) :=
  fun H locs ls hP hS hl => va_iald (D := mD G) C.1 C.2.1 C.2.2.2.2.2.1.1 hP q 0 (m_arr hq (vp_in_ne hin)) rfl hin hd (k H locs ls hP hS hl)
theorem r_ialdN {q n j : Nat} {i v : Int32} (C : mCx p s m args c cc nL own G) (hd : decode cc pc = .ok (.iaload, 1)) (hq : lay q = (0, [n])) (hi : i = nI j) (hj : j < n) (hn : n < 2 ^ 31) (hv : M q j = v) (k : At p l e R s m args below meth c G nL kk nn Q M g L (pc + 1) (.int v :: st)) : At p l e R s m args below meth c G nL kk nn Q M g L pc (.int i :: .ref (mA G q) :: st) := by
  subst hi
  refine r_iald C hd hq (vp_in_nI hj hn) ?_
  rw [nI_clamp (by omega), hv]
  exact k
theorem r_iast {q n : Nat} {i x : Int32} (C : mCx p s m args c cc nL own G) (hd : decode cc pc = .ok (.iastore, 1)) (hq : lay q = (0, [n])) (hin : vp_in i n) (k : At p l e R s m args below meth c G nL kk nn Q (mset M q i.toNatClampNeg x) g L (pc + 1) st) : At p l e R s m args below meth c G nL kk nn Q M g L pc (.int x :: .int i :: .ref (mA G q) :: st) := by
  intro H locs ls hP hS hl
  refine va_iast (D := mD G) C.1 C.2.1 C.2.2.2.2.2.1.1 hP (m_D C.2.2.2.2.2.2) hS q 0 (m_arr hq (vp_in_ne hin)) rfl hin hd (fun H locs hP _ hS => ?_)
  refine k H locs ls ?_ hS hl
  rw [← m_ct_set (G := G) (M := M) (g := g) (q := q) (i := i.toNatClampNeg) (x := x) (e := .inl (G.2.1.1, n, .inl (upd (M q) i.toNatClampNeg x)))]
  · exact hP
  · simp only [m_ct, hq, m_ctL]
    simp [mset]
theorem r_iastN {q n j : Nat} {i x : Int32} (C : mCx p s m args c cc nL own G) (hd : decode cc pc = .ok (.iastore, 1)) (hq : lay q = (0, [n])) (hi : i = nI j) (hj : j < n) (hn : n < 2 ^ 31) (k : At p l e R s m args below meth c G nL kk nn Q (mset M q j x) g L (pc + 1) st) : At p l e R s m args below meth c G nL kk nn Q M g L pc (.int x :: .int i :: .ref (mA G q) :: st) := by
  subst hi
  refine r_iast C hd hq (vp_in_nI hj hn) ?_
  rw [nI_clamp (by omega)]
  exact k
theorem r_lald {q n : Nat} {i : Int32} (C : mCx p s m args c cc nL own G) (hd : decode cc pc = .ok (.laload, 1)) (hq : lay q = (3, [n])) (hin : vp_in i n) (k : At p l e R s m args below meth c G nL kk nn Q M g L (pc + 1) (.long (g q i.toNatClampNeg) :: st)) : At p l e R s m args below meth c G nL kk nn Q M g L pc (.int i :: .ref (mA G q) :: st) :=
  fun H locs ls hP hS hl => va_lald (D := mD G) C.1 C.2.1 C.2.2.2.2.2.1.1 hP q 2 (m_arL hq) rfl hin hd (k H locs ls hP hS hl)
theorem r_last {q n : Nat} {i : Int32} {x : Int64} (C : mCx p s m args c cc nL own G) (hd : decode cc pc = .ok (.lastore, 1)) (hq : lay q = (3, [n])) (hin : vp_in i n) (k : At p l e R s m args below meth c G nL kk nn Q M (gset g q i.toNatClampNeg x) L (pc + 1) st) : At p l e R s m args below meth c G nL kk nn Q M g L pc (.long x :: .int i :: .ref (mA G q) :: st) := by
  intro H locs ls hP hS hl
  refine va_last (D := mD G) C.1 C.2.1 C.2.2.2.2.2.1.1 hP (m_D C.2.2.2.2.2.2) hS q 2 (m_arL hq) rfl hin hd (fun H locs hP _ hS => ?_)
  refine k H locs ls ?_ hS hl
  rw [← m_ct_setL (G := G) (M := M) (g := g) (q := q) (i := i.toNatClampNeg) (x := x) (e := .inl (G.2.1.2.2, n, .inr (.inl (vp_updL (g q) i.toNatClampNeg x))))]
  · exact hP
  · simp only [m_ct, hq, m_ctL]
    simp [gset]
theorem r_alen {q n : Nat} {v : Int32} (C : mCx p s m args c cc nL own G) (hd : decode cc pc = .ok (.arraylength, 1)) (hq : lay q = (0, [n])) (hn : n ≠ 0) (hv : Int32.ofNat n = v) (k : At p l e R s m args below meth c G nL kk nn Q M g L (pc + 1) (.int v :: st)) : At p l e R s m args below meth c G nL kk nn Q M g L pc (.ref (mA G q) :: st) :=
  fun H locs ls hP hS hl => va_alen (D := mD G) C.1 C.2.1 C.2.2.2.2.2.1.1 hP q 0 (m_arr hq hn) (ty := .int) rfl hv hd (k H locs ls hP hS hl)
theorem r_aald {q q2 : Nat} {ps : List Nat} {i : Int32} (C : mCx p s m args c cc nL own G) (hd : decode cc pc = .ok (.aaload, 1)) (hq : lay q = (2, ps)) (hin : vp_in i ps.length) (h2 : ps[i.toNatClampNeg]? = some q2) (k : At p l e R s m args below meth c G nL kk nn Q M g L (pc + 1) (.ref (mA G q2) :: st)) : At p l e R s m args below meth c G nL kk nn Q M g L pc (.int i :: .ref (mA G q) :: st) := by
  intro H locs ls hP hS hl
  refine va_aldq (D := mD G) (C := "HeatBranches$State") C.1 C.2.1 C.2.2.2.2.2.1.1 hP q 1 (m_arR hq) rfl hin hd ?_
  simp only [h2, Option.map_some, va_rf]
  exact k H locs ls hP hS hl
def mMath (own : String) (idx : Nat) (y : MethodName) (bytes : ByteArray) (n : Nat) : Prop := Cond.methodLink own idx y ∈ gd ∧ Cond.static y ∈ gd ∧ Cond.initialized "java/lang/Math" ∈ gd ∧ Cond.code y bytes n (some .int) ∈ gd
def rmD (d mc ms : Nat) : Room := { frames := 60 + d, cells := mc, slots := ms, locals := 1000 + 40 * d }
theorem r_min {x y v : Int32} {idx d mc ms : Nat} (C : mCx p s m args c cc nL own G) (hd : decode cc pc = .ok (.invokestatic idx, 3)) (hm : mMath own idx Lib.Math.min.name Lib.Math.min.code 2) (hst : (st.map fun v => v.category).sum ≤ 8) (h1 : kk ≤ mc) (h2 : nn ≤ ms) (hv : (if y < x then y else x) = v) (k : At p l e (rmD d mc ms) s m args below meth c G nL kk nn Q M g L (pc + 3) (.int v :: st)) : At p l e (rmD d mc ms) s m args below meth c G nL kk nn Q M g L pc (.int y :: .int x :: st) := by
  intro H locs ls hP hS hl
  obtain ⟨a1, a2, a3, a4⟩ := hm
  subst hv
  have ht := C.2.2.2.2.1
  exact va_mmin C.1 C.2.1 (by rw [C.2.2.1]; exact hl.1.symm) C.2.2.2.1 (ht _ a1) (ht _ a2) (ht _ a3) (ht _ a4) (by show 1 ≤ 60 + d; omega) (by show _ ≤ 1000 + 40 * d; omega) h1 h2 hd (k H locs ls hP hS hl)
theorem r_max {x y v : Int32} {idx d mc ms : Nat} (C : mCx p s m args c cc nL own G) (hd : decode cc pc = .ok (.invokestatic idx, 3)) (hm : mMath own idx Lib.Math.max.name Lib.Math.max.code 2) (hst : (st.map fun v => v.category).sum ≤ 8) (h1 : kk ≤ mc) (h2 : nn ≤ ms) (hv : (if x < y then y else x) = v) (k : At p l e (rmD d mc ms) s m args below meth c G nL kk nn Q M g L (pc + 3) (.int v :: st)) : At p l e (rmD d mc ms) s m args below meth c G nL kk nn Q M g L pc (.int y :: .int x :: st) := by
  intro H locs ls hP hS hl
  obtain ⟨a1, a2, a3, a4⟩ := hm
  subst hv
  have ht := C.2.2.2.2.1
  exact va_mmax C.1 C.2.1 (by rw [C.2.2.1]; exact hl.1.symm) C.2.2.2.1 (ht _ a1) (ht _ a2) (ht _ a3) (ht _ a4) (by show 1 ≤ 60 + d; omega) (by show _ ≤ 1000 + 40 * d; omega) h1 h2 hd (k H locs ls hP hS hl)
end MM
end
section
section MC
variable {p : Program} {l : Launch} {e : Env} {s : State} {m : MethodId} {args : Array Value} {below : List Frame} {meth : Method} {c : Code} {G : mG} {nL kk nn : Nat} {Q : State → Prop} {M : Mem} {g : Glo} {L : List (Nat × Value)} {pc : Nat} {st : List Value} {cc : ByteArray} {own : String}
def mPc (G : mG) (sz : Nat) (vs : List Value) (M : Mem) (g : Glo) : Array Value → State → Prop := va_Pc vs (fun U => U.heap.size = sz ∧ va_P (mD G) vwC (m_ws G M g) U.heap ∧ mS G sz U U.heap)
theorem mPc_blind {sz : Nat} {vs : List Value} : FrameBlind (mPc G sz vs M g) := fun a U g9 mk q => ⟨q.1, q.2.1, q.2.2.1, mS.same (u := U) (U := U.calling g9 mk a) rfl q.2.2.2⟩
theorem mPc_pre {U : State} {H : Heap} {locs : List Loc} {vs : List Value} (C : mCx p s m args c cc nL own G) (hP : va_P (mD G) vwC (m_ws G M g) H) (hS : va_S (mAq G s.heap.size) s.heap H locs) (hU : U.heap = H) (hW : s.WarmedH U.vm) : mPc G H.size vs M g vs.toArray U := by
  subst hU
  exact ⟨rfl, rfl, hP, mS.call hW hS C.2.2.2.2.2.1⟩
def mB (G : mG) : Mem × Glo → State → Prop := fun u t => va_P (mD G) vwC (m_ws G u.1 u.2) t.heap
/-- a method of ours that neither makes nor throws: its answer and the memory behind it -/
def mcI (l : Launch) (G : mG) (y : MethodName) (cc : ByteArray) (nL : Nat) (ret : FieldType) (d : Nat) (vs : List Value) (M : Mem) (g : Glo) (post : Int32 → Mem → Glo → Prop) : Prop :=
  ∀ sz, Met l y (.code y cc nL (some ret) :: gd) (rmD d 0 0) (mPc G sz vs M g) (va_Qi (fun r (u : Mem × Glo) => post r u.1 u.2) (mB G) (mAq G sz)) 0 0 (mAq G sz)
def mcL (l : Launch) (G : mG) (y : MethodName) (cc : ByteArray) (nL : Nat) (d : Nat) (vs : List Value) (M : Mem) (g : Glo) (post : Int64 → Mem → Glo → Prop) : Prop :=
  ∀ sz, Met l y (.code y cc nL (some .long) :: gd) (rmD d 0 0) (mPc G sz vs M g) (va_Ql (fun r (u : Mem × Glo) => post r u.1 u.2) (mB G) (mAq G sz)) 0 0 (mAq G sz)
def mcV (l : Launch) (G : mG) (y : MethodName) (cc : ByteArray) (nL : Nat) (d : Nat) (vs : List Value) (M : Mem) (g : Glo) (post : Mem → Glo → Prop) : Prop :=
  ∀ sz, Met l y (.code y cc nL none :: gd) (rmD d 0 0) (mPc G sz vs M g) (va_Qv (fun (u : Mem × Glo) => post u.1 u.2) (mB G) (mAq G sz)) 0 0 (mAq G sz)
def mcR (l : Launch) (G : mG) (y : MethodName) (cc : ByteArray) (nL : Nat) (ret : FieldType) (d : Nat) (vs : List Value) (M : Mem) (g : Glo) (a0 : Nat) : Prop :=
  ∀ sz, Met l y (.code y cc nL (some ret) :: gd) (rmD d 0 0) (mPc G sz vs M g) (va_Qr (fun (_ : Unit) => True) (fun _ a t => a = mA G a0 ∧ mB G (M, g) t) (mAq G sz)) 0 0 (mAq G sz)
theorem mcI_of {y : MethodName} {ret : FieldType} {d : Nat} {vs : List Value} {post : Int32 → Mem → Glo → Prop} {L0 : List (Nat × Value)} (hG : mInj G) (hy : plainName y.cls = true) (hvs : (lg_sl vs).length ≤ nL) (hL : lv_args 0 vs = L0)
    (body : ∀ (p : Program) (e : Env) (s : State) (m : MethodId) (args : Array Value) (below : List Frame) (meth : Method) (c : Code) (Q : State → Prop), mCx p s m args c cc nL y.cls G →
      (∀ (r : Int32) (M' : Mem) (g' : Glo) (L' : List (Nat × Value)) (pc : Nat), decode cc pc = .ok (.ireturn, 1) → narrow ret (.int r) = .int r → post r M' g' → At p l e (rmD d 0 0) s m args below meth c G nL 0 0 Q M' g' L' pc [.int r]) →
      At p l e (rmD d 0 0) s m args below meth c G nL 0 0 Q M g L0 0 []) : mcI l G y cc nL ret d vs M g post := by
  intro sz
  refine Met.ofW (cc := cc) (maxL := nL) (ret := some ret) hy rfl ?_
  intro p e s m args below meth c s₁ B hml hv
  obtain ⟨rfl, hsz, hP, hS⟩ := hv
  subst hsz
  subst hL
  rw [lg_entry_eq]
  exact body p e s m _ below meth c _ ⟨B.exec, B.bytes, hml, findClass_of_methodNamed B.named, fun w hw => atoms_spec B.pre w (List.mem_cons_of_mem _ hw), hS, hG⟩
    (fun r M' g' L' pc hd hn hp H locs ls hP hS hl => W.zret B.exec B.bytes B.returns hn (fun t ht hW => ⟨⟨r, (M', g'), rfl, hp, by unfold mB; rw [ht]; exact hP⟩, hS.F ht⟩) hS.2.2 hd B.notSynchronized)
    s.heap [] _ hP va_S.rf (lv_entry vs hvs)
theorem mcL_of {y : MethodName} {d : Nat} {vs : List Value} {post : Int64 → Mem → Glo → Prop} {L0 : List (Nat × Value)} (hG : mInj G) (hy : plainName y.cls = true) (hvs : (lg_sl vs).length ≤ nL) (hL : lv_args 0 vs = L0)
    (body : ∀ (p : Program) (e : Env) (s : State) (m : MethodId) (args : Array Value) (below : List Frame) (meth : Method) (c : Code) (Q : State → Prop), mCx p s m args c cc nL y.cls G →
      (∀ (r : Int64) (M' : Mem) (g' : Glo) (L' : List (Nat × Value)) (pc : Nat), decode cc pc = .ok (.lreturn, 1) → post r M' g' → At p l e (rmD d 0 0) s m args below meth c G nL 0 0 Q M' g' L' pc [.long r]) →
      At p l e (rmD d 0 0) s m args below meth c G nL 0 0 Q M g L0 0 []) : mcL l G y cc nL d vs M g post := by
  intro sz
  refine Met.ofW (cc := cc) (maxL := nL) (ret := some .long) hy rfl ?_
  intro p e s m args below meth c s₁ B hml hv
  obtain ⟨rfl, hsz, hP, hS⟩ := hv
  subst hsz
  subst hL
  rw [lg_entry_eq]
  exact body p e s m _ below meth c _ ⟨B.exec, B.bytes, hml, findClass_of_methodNamed B.named, fun w hw => atoms_spec B.pre w (List.mem_cons_of_mem _ hw), hS, hG⟩
    (fun r M' g' L' pc hd hp H locs ls hP hS hl => W.lret B.exec B.bytes B.returns (fun t ht hW => ⟨⟨r, (M', g'), rfl, hp, by unfold mB; rw [ht]; exact hP⟩, hS.F ht⟩) hS.2.2 hd B.notSynchronized)
    s.heap [] _ hP va_S.rf (lv_entry vs hvs)
theorem mcV_of {y : MethodName} {d : Nat} {vs : List Value} {post : Mem → Glo → Prop} {L0 : List (Nat × Value)} (hG : mInj G) (hy : plainName y.cls = true) (hvs : (lg_sl vs).length ≤ nL) (hL : lv_args 0 vs = L0)
    (body : ∀ (p : Program) (e : Env) (s : State) (m : MethodId) (args : Array Value) (below : List Frame) (meth : Method) (c : Code) (Q : State → Prop), mCx p s m args c cc nL y.cls G →
      (∀ (M' : Mem) (g' : Glo) (L' : List (Nat × Value)) (pc : Nat), decode cc pc = .ok (.return_, 1) → post M' g' → At p l e (rmD d 0 0) s m args below meth c G nL 0 0 Q M' g' L' pc []) →
      At p l e (rmD d 0 0) s m args below meth c G nL 0 0 Q M g L0 0 []) : mcV l G y cc nL d vs M g post := by
  intro sz
  refine Met.ofW (cc := cc) (maxL := nL) (ret := none) hy rfl ?_
  intro p e s m args below meth c s₁ B hml hv
  obtain ⟨rfl, hsz, hP, hS⟩ := hv
  subst hsz
  subst hL
  rw [lg_entry_eq]
  exact body p e s m _ below meth c _ ⟨B.exec, B.bytes, hml, findClass_of_methodNamed B.named, fun w hw => atoms_spec B.pre w (List.mem_cons_of_mem _ hw), hS, hG⟩
    (fun M' g' L' pc hd hp H locs ls hP hS hl => W.vret B.exec B.bytes B.returns (fun t ht hW => ⟨⟨(M', g'), rfl, hp, by unfold mB; rw [ht]; exact hP⟩, hS.F ht⟩) hS.2.2 hd B.notSynchronized)
    s.heap [] _ hP va_S.rf (lv_entry vs hvs)
theorem mcR_of {y : MethodName} {cn : String} {d : Nat} {vs : List Value} {a0 : Nat} {L0 : List (Nat × Value)} (hG : mInj G) (hy : plainName y.cls = true) (hvs : (lg_sl vs).length ≤ nL) (hL : lv_args 0 vs = L0)
    (body : ∀ (p : Program) (e : Env) (s : State) (m : MethodId) (args : Array Value) (below : List Frame) (meth : Method) (c : Code) (Q : State → Prop), mCx p s m args c cc nL y.cls G →
      (∀ (L' : List (Nat × Value)) (pc : Nat), decode cc pc = .ok (.areturn, 1) → At p l e (rmD d 0 0) s m args below meth c G nL 0 0 Q M g L' pc [.ref (mA G a0)]) →
      At p l e (rmD d 0 0) s m args below meth c G nL 0 0 Q M g L0 0 []) : mcR l G y cc nL (.object cn) d vs M g a0 := by
  intro sz
  refine Met.ofW (cc := cc) (maxL := nL) (ret := some (.object cn)) hy rfl ?_
  intro p e s m args below meth c s₁ B hml hv
  obtain ⟨rfl, hsz, hP, hS⟩ := hv
  subst hsz
  subst hL
  rw [lg_entry_eq]
  exact body p e s m _ below meth c _ ⟨B.exec, B.bytes, hml, findClass_of_methodNamed B.named, fun w hw => atoms_spec B.pre w (List.mem_cons_of_mem _ hw), hS, hG⟩
    (fun L' pc hd H locs ls hP hS hl => W.aret B.exec B.bytes B.returns (Or.inl ⟨_, rfl⟩) (Or.inr ⟨_, rfl⟩) (fun t ht hW => ⟨⟨(), mA G a0, rfl, trivial, rfl, by unfold mB; rw [ht]; exact hP⟩, hS.F ht⟩) hS.2.2 hd B.notSynchronized)
    s.heap [] _ hP va_S.rf (lv_entry vs hvs)
/-- a place where a method of ours is called on an object (mV), or without one (mT0), or a constructor (mI) -/
def mSi (own : String) (idx : Nat) (y : MethodName) (bytes : ByteArray) (maxL : Nat) (ret : Option FieldType) (n : Nat) : Prop :=
  Cond.methodLink own idx y ∈ gd ∧ Cond.initialized y.cls ∈ gd ∧ Cond.code y bytes maxL ret ∈ gd ∧ y.cls ≠ "java/lang/invoke/MethodHandle" ∧ y.cls ≠ "java/lang/invoke/VarHandle" ∧ (parseMethodDescriptor y.desc).map (fun d => d.parameters.length) = some n ∧ maxL ≤ 20
def mSv (own : String) (idx : Nat) (Cn : String) (y : MethodName) (bytes : ByteArray) (maxL : Nat) (ret : Option FieldType) (n : Nat) : Prop :=
  mSi own idx y bytes maxL ret n ∧ Cond.instanceMethod y ∈ gd ∧ Cond.selects Cn y y ∈ gd ∧ y.cls = Cn
def mSs (own : String) (idx : Nat) (y : MethodName) (bytes : ByteArray) (maxL : Nat) (ret : Option FieldType) (n : Nat) : Prop :=
  mSi own idx y bytes maxL ret n ∧ Cond.static y ∈ gd
theorem m_fix (C : mCx p s m args c cc nL own G) : CallFix p m c cc nL s args gd own := ⟨C.1, C.2.1, C.2.2.1, C.2.2.2.1, C.2.2.2.2.1⟩
theorem m_cb {idx maxL n d D mc ms mc' ms' : Nat} {y : MethodName} {bytes : ByteArray} {ret : Option FieldType} (C : mCx p s m args c cc nL own G) (h : mSi own idx y bytes maxL ret n) (hd : d < D) : CallB (rmD D mc' ms') s args own idx y bytes maxL ret (.code y bytes maxL ret :: gd) (rmD d mc ms) mc ms n := by
  obtain ⟨h1, h2, h3, h4, h5, h6, h7⟩ := h
  have ht := C.2.2.2.2.1
  exact callB_of n ht (gd_in h3) rfl rfl rfl (ht _ h2) (ht _ h1) ⟨h4, h5, h6⟩ ⟨by show 60 + d + 1 ≤ 60 + D; omega, by show 8 + (maxL + 11) + (1000 + 40 * d) ≤ 1000 + 40 * D; omega⟩
theorem m_cw {idx maxL n d D mc ms mc' ms' : Nat} {Cn : String} {y : MethodName} {bytes : ByteArray} {ret : Option FieldType} (C : mCx p s m args c cc nL own G) (h : mSv own idx Cn y bytes maxL ret n) (hd : d < D) : CallW (rmD D mc' ms') s args own Cn idx y bytes maxL ret (.code y bytes maxL ret :: gd) (rmD d mc ms) mc ms n := by
  obtain ⟨h1, h2, h3, h4⟩ := h
  exact ⟨m_cb C h1 hd, C.2.2.2.2.1 _ h2, C.2.2.2.2.1 _ h3⟩
theorem m_pv {q ci n : Nat} {fs : List Nat} {C0 : String} {T : u_T} {H : Heap} {locs : List Loc} {As : List Value} (C : mCx p s m args c cc nL own G) (hq : lay q = (1, ci :: fs)) (hc : vwC[ci]? = some (C0, T, n)) (hP : va_P (mD G) vwC (m_ws G M g) H) (hS : va_S (mAq G s.heap.size) s.heap H locs) : PreV s H C0 (mA G q) (mPc G H.size (.ref (mA G q) :: As) M g) As :=
  ⟨mPc_blind, va_recv C.2.2.2.2.2.1.1 hP hc (m_obj hq), fun _ hU hW => mPc_pre C hP hS hU hW⟩
theorem m_ps {H : Heap} {locs : List Loc} {As : List Value} (C : mCx p s m args c cc nL own G) (hP : va_P (mD G) vwC (m_ws G M g) H) (hS : va_S (mAq G s.heap.size) s.heap H locs) : PreS s H (mPc G H.size As M g) As :=
  ⟨mPc_blind, fun _ hU hW => mPc_pre C hP hS hU hW⟩
theorem r_callVI {idx maxL n d D q ci N mc ms : Nat} {fs : List Nat} {C0 : String} {T : u_T} {y : MethodName} {bytes : ByteArray} {ret : FieldType} {As rest st0 : List Value} {post : Int32 → Mem → Glo → Prop} (C : mCx p s m args c cc nL own G) (hd : decode cc pc = .ok (.invokevirtual idx, 3)) (hs : mSv own idx C0 y bytes maxL (some ret) n) (hM : mcI l G y bytes maxL ret d (.ref (mA G q) :: As) M g post) (hdD : d < D) (hq : lay q = (1, ci :: fs)) (hc : vwC[ci]? = some (C0, T, N)) (hn : As.length = n) (hst : st0 = As.reverse ++ .ref (mA G q) :: rest) (hr : (rest.map fun v => v.category).sum ≤ 8) (h1 : kk ≤ mc) (h2 : nn ≤ ms)
    (k : ∀ (r : Int32) (M' : Mem) (g' : Glo), post r M' g' → At p l e (rmD D mc ms) s m args below meth c G nL kk nn Q M' g' L (pc + 3) (.int r :: rest)) : At p l e (rmD D mc ms) s m args below meth c G nL kk nn Q M g L pc st0 := by
  intro H locs ls hP hS hl
  subst hst
  refine va_calli (va_runV (As := As) (rest := rest) (m_fix C) (hM H.size) (m_cw C hs hdD) (m_pv C hq hc hP hS) rfl hn hl.1 rfl (lv_room hr) hd ⟨h1, h2⟩) hS (fun _ _ h => mAq_le hS.1 h) (fun _ h => mAq_le hS.1 h) (fun r u t H1 locs1 ht hvm hw hB hz1 hk1 hS1 => ?_)
  unfold mB at hB
  rw [ht] at hB
  exact k r u.1 u.2 hw H1 locs1 ls hB hS1 hl
theorem r_callVL {idx maxL n d D q ci N mc ms : Nat} {fs : List Nat} {C0 : String} {T : u_T} {y : MethodName} {bytes : ByteArray} {As rest st0 : List Value} {post : Int64 → Mem → Glo → Prop} (C : mCx p s m args c cc nL own G) (hd : decode cc pc = .ok (.invokevirtual idx, 3)) (hs : mSv own idx C0 y bytes maxL (some .long) n) (hM : mcL l G y bytes maxL d (.ref (mA G q) :: As) M g post) (hdD : d < D) (hq : lay q = (1, ci :: fs)) (hc : vwC[ci]? = some (C0, T, N)) (hn : As.length = n) (hst : st0 = As.reverse ++ .ref (mA G q) :: rest) (hr : (rest.map fun v => v.category).sum ≤ 8) (h1 : kk ≤ mc) (h2 : nn ≤ ms)
    (k : ∀ (r : Int64) (M' : Mem) (g' : Glo), post r M' g' → At p l e (rmD D mc ms) s m args below meth c G nL kk nn Q M' g' L (pc + 3) (.long r :: rest)) : At p l e (rmD D mc ms) s m args below meth c G nL kk nn Q M g L pc st0 := by
  intro H locs ls hP hS hl
  subst hst
  refine va_calll (va_runV (As := As) (rest := rest) (m_fix C) (hM H.size) (m_cw C hs hdD) (m_pv C hq hc hP hS) rfl hn hl.1 rfl (lv_room hr) hd ⟨h1, h2⟩) hS (fun _ _ h => mAq_le hS.1 h) (fun _ h => mAq_le hS.1 h) (fun r u t H1 locs1 ht hvm hw hB hz1 hk1 hS1 => ?_)
  unfold mB at hB
  rw [ht] at hB
  exact k r u.1 u.2 hw H1 locs1 ls hB hS1 hl
theorem r_callVV {idx maxL n d D q ci N mc ms : Nat} {fs : List Nat} {C0 : String} {T : u_T} {y : MethodName} {bytes : ByteArray} {As rest st0 : List Value} {post : Mem → Glo → Prop} (C : mCx p s m args c cc nL own G) (hd : decode cc pc = .ok (.invokevirtual idx, 3)) (hs : mSv own idx C0 y bytes maxL none n) (hM : mcV l G y bytes maxL d (.ref (mA G q) :: As) M g post) (hdD : d < D) (hq : lay q = (1, ci :: fs)) (hc : vwC[ci]? = some (C0, T, N)) (hn : As.length = n) (hst : st0 = As.reverse ++ .ref (mA G q) :: rest) (hr : (rest.map fun v => v.category).sum ≤ 8) (h1 : kk ≤ mc) (h2 : nn ≤ ms)
    (k : ∀ (M' : Mem) (g' : Glo), post M' g' → At p l e (rmD D mc ms) s m args below meth c G nL kk nn Q M' g' L (pc + 3) rest) : At p l e (rmD D mc ms) s m args below meth c G nL kk nn Q M g L pc st0 := by
  intro H locs ls hP hS hl
  subst hst
  refine va_callv (va_runV (As := As) (rest := rest) (m_fix C) (hM H.size) (m_cw C hs hdD) (m_pv C hq hc hP hS) rfl hn hl.1 rfl (lv_room hr) hd ⟨h1, h2⟩) hS (fun _ _ h => mAq_le hS.1 h) (fun _ h => mAq_le hS.1 h) (fun u t H1 locs1 ht hvm hw hB hz1 hk1 hS1 => ?_)
  unfold mB at hB
  rw [ht] at hB
  exact k u.1 u.2 hw H1 locs1 ls hB hS1 hl
theorem r_callVR {idx maxL n d D q ci N mc ms a0 : Nat} {fs : List Nat} {C0 : String} {T : u_T} {y : MethodName} {bytes : ByteArray} {ret : FieldType} {As rest st0 : List Value} (C : mCx p s m args c cc nL own G) (hd : decode cc pc = .ok (.invokevirtual idx, 3)) (hs : mSv own idx C0 y bytes maxL (some ret) n) (hM : mcR l G y bytes maxL ret d (.ref (mA G q) :: As) M g a0) (hdD : d < D) (hq : lay q = (1, ci :: fs)) (hc : vwC[ci]? = some (C0, T, N)) (hn : As.length = n) (hst : st0 = As.reverse ++ .ref (mA G q) :: rest) (hr : (rest.map fun v => v.category).sum ≤ 8) (h1 : kk ≤ mc) (h2 : nn ≤ ms)
    (k : At p l e (rmD D mc ms) s m args below meth c G nL kk nn Q M g L (pc + 3) (.ref (mA G a0) :: rest)) : At p l e (rmD D mc ms) s m args below meth c G nL kk nn Q M g L pc st0 := by
  intro H locs ls hP hS hl
  subst hst
  refine va_callr (va_runV (As := As) (rest := rest) (m_fix C) (hM H.size) (m_cw C hs hdD) (m_pv C hq hc hP hS) rfl hn hl.1 rfl (lv_room hr) hd ⟨h1, h2⟩) hS (fun _ _ h => mAq_le hS.1 h) (fun _ h => mAq_le hS.1 h) (fun u ra t H1 locs1 ht hvm hw hB hz1 hk1 hS1 => ?_)
  obtain ⟨rfl, hB⟩ := hB
  unfold mB at hB
  rw [ht] at hB
  exact k H1 locs1 ls hB hS1 hl
theorem r_callSI {idx maxL n d D mc ms : Nat} {y : MethodName} {bytes : ByteArray} {ret : FieldType} {As rest st0 : List Value} {post : Int32 → Mem → Glo → Prop} (C : mCx p s m args c cc nL own G) (hd : decode cc pc = .ok (.invokestatic idx, 3)) (hs : mSs own idx y bytes maxL (some ret) n) (hM : mcI l G y bytes maxL ret d As M g post) (hdD : d < D) (hn : As.length = n) (hst : st0 = As.reverse ++ rest) (hr : (rest.map fun v => v.category).sum ≤ 8) (h1 : kk ≤ mc) (h2 : nn ≤ ms)
    (k : ∀ (r : Int32) (M' : Mem) (g' : Glo), post r M' g' → At p l e (rmD D mc ms) s m args below meth c G nL kk nn Q M' g' L (pc + 3) (.int r :: rest)) : At p l e (rmD D mc ms) s m args below meth c G nL kk nn Q M g L pc st0 := by
  intro H locs ls hP hS hl
  subst hst
  refine va_calli (va_runS (As := As) (rest := rest) (m_fix C) (hM H.size) ⟨m_cb C hs.1 hdD, C.2.2.2.2.1 _ hs.2⟩ (m_ps C hP hS) rfl hn hl.1 rfl (lv_room hr) hd ⟨h1, h2⟩) hS (fun _ _ h => mAq_le hS.1 h) (fun _ h => mAq_le hS.1 h) (fun r u t H1 locs1 ht hvm hw hB hz1 hk1 hS1 => ?_)
  unfold mB at hB
  rw [ht] at hB
  exact k r u.1 u.2 hw H1 locs1 ls hB hS1 hl
theorem r_callSL {idx maxL n d D mc ms : Nat} {y : MethodName} {bytes : ByteArray} {As rest st0 : List Value} {post : Int64 → Mem → Glo → Prop} (C : mCx p s m args c cc nL own G) (hd : decode cc pc = .ok (.invokestatic idx, 3)) (hs : mSs own idx y bytes maxL (some .long) n) (hM : mcL l G y bytes maxL d As M g post) (hdD : d < D) (hn : As.length = n) (hst : st0 = As.reverse ++ rest) (hr : (rest.map fun v => v.category).sum ≤ 8) (h1 : kk ≤ mc) (h2 : nn ≤ ms)
    (k : ∀ (r : Int64) (M' : Mem) (g' : Glo), post r M' g' → At p l e (rmD D mc ms) s m args below meth c G nL kk nn Q M' g' L (pc + 3) (.long r :: rest)) : At p l e (rmD D mc ms) s m args below meth c G nL kk nn Q M g L pc st0 := by
  intro H locs ls hP hS hl
  subst hst
  refine va_calll (va_runS (As := As) (rest := rest) (m_fix C) (hM H.size) ⟨m_cb C hs.1 hdD, C.2.2.2.2.1 _ hs.2⟩ (m_ps C hP hS) rfl hn hl.1 rfl (lv_room hr) hd ⟨h1, h2⟩) hS (fun _ _ h => mAq_le hS.1 h) (fun _ h => mAq_le hS.1 h) (fun r u t H1 locs1 ht hvm hw hB hz1 hk1 hS1 => ?_)
  unfold mB at hB
  rw [ht] at hB
  exact k r u.1 u.2 hw H1 locs1 ls hB hS1 hl
theorem r_callSV {idx maxL n d D mc ms : Nat} {y : MethodName} {bytes : ByteArray} {As rest st0 : List Value} {post : Mem → Glo → Prop} (C : mCx p s m args c cc nL own G) (hd : decode cc pc = .ok (.invokestatic idx, 3)) (hs : mSs own idx y bytes maxL none n) (hM : mcV l G y bytes maxL d As M g post) (hdD : d < D) (hn : As.length = n) (hst : st0 = As.reverse ++ rest) (hr : (rest.map fun v => v.category).sum ≤ 8) (h1 : kk ≤ mc) (h2 : nn ≤ ms)
    (k : ∀ (M' : Mem) (g' : Glo), post M' g' → At p l e (rmD D mc ms) s m args below meth c G nL kk nn Q M' g' L (pc + 3) rest) : At p l e (rmD D mc ms) s m args below meth c G nL kk nn Q M g L pc st0 := by
  intro H locs ls hP hS hl
  subst hst
  refine va_callv (va_runS (As := As) (rest := rest) (m_fix C) (hM H.size) ⟨m_cb C hs.1 hdD, C.2.2.2.2.1 _ hs.2⟩ (m_ps C hP hS) rfl hn hl.1 rfl (lv_room hr) hd ⟨h1, h2⟩) hS (fun _ _ h => mAq_le hS.1 h) (fun _ h => mAq_le hS.1 h) (fun u t H1 locs1 ht hvm hw hB hz1 hk1 hS1 => ?_)
  unfold mB at hB
  rw [ht] at hB
  exact k u.1 u.2 hw H1 locs1 ls hB hS1 hl
/-- a private static of a nest mate -/
def mSn (own : String) (idx : Nat) (y : MethodName) (host : String) (bytes : ByteArray) (maxL : Nat) (ret : Option FieldType) (n : Nat) : Prop :=
  (own, idx, y, host) ∈ nwL ∧ Cond.initialized y.cls ∈ gd ∧ Cond.code y bytes maxL ret ∈ gd ∧ y.cls ≠ "java/lang/invoke/MethodHandle" ∧ y.cls ≠ "java/lang/invoke/VarHandle" ∧ (parseMethodDescriptor y.desc).map (fun d => d.parameters.length) = some n ∧ maxL ≤ 20 ∧ Cond.static y ∈ gd
theorem r_callNV {idx maxL n d D mc ms : Nat} {y : MethodName} {host : String} {bytes : ByteArray} {As rest st0 : List Value} {post : Mem → Glo → Prop} (C : mCx p s m args c cc nL own G) (hd : decode cc pc = .ok (.invokestatic idx, 3)) (hs : mSn own idx y host bytes maxL none n) (hM : mcV l G y bytes maxL d As M g post) (hdD : d < D) (hn : As.length = n) (hst : st0 = As.reverse ++ rest) (hr : (rest.map fun v => v.category).sum ≤ 8) (h1 : kk ≤ mc) (h2 : nn ≤ ms)
    (k : ∀ (M' : Mem) (g' : Glo), post M' g' → At p l e (rmD D mc ms) s m args below meth c G nL kk nn Q M' g' L (pc + 3) rest) : At p l e (rmD D mc ms) s m args below meth c G nL kk nn Q M g L pc st0 := by
  intro H locs ls hP hS hl
  subst hst
  obtain ⟨a1, a2, a3, a4, a5, a6, a7, a8⟩ := hs
  have ht := C.2.2.2.2.1
  refine va_callv (va_runSN (As := As) (rest := rest) (m_fix C) (hM H.size) ⟨va_cnB n ht (gd_in a3) rfl rfl rfl (C.2.2.2.2.2.1.2.1 _ a1) (ht _ a2) ⟨a4, a5, a6⟩ ⟨by show 60 + d + 1 ≤ 60 + D; omega, by show 8 + (maxL + 11) + (1000 + 40 * d) ≤ 1000 + 40 * D; omega⟩, ht _ a8, trivial⟩ (m_ps C hP hS) rfl hn hl.1 rfl (lv_room hr) hd ⟨h1, h2⟩) hS (fun _ _ h => mAq_le hS.1 h) (fun _ h => mAq_le hS.1 h) (fun u t H1 locs1 ht hvm hw hB hz1 hk1 hS1 => ?_)
  unfold mB at hB
  rw [ht] at hB
  exact k u.1 u.2 hw H1 locs1 ls hB hS1 hl
end MC
end
section
theorem cl0 : mCl 0 RX0 TX0 4 tyX0 := ⟨rfl, (show ∀ w ∈ [u_lay RX0 TX0 0, u_lay RX0 TX0 1, u_lay RX0 TX0 2, u_lay RX0 TX0 3], w ∈ gd from List.forall_mem_cons.mpr ⟨gd_t 107 (by decide +kernel) rfl, List.forall_mem_cons.mpr ⟨gd_t 109 (by decide +kernel) rfl, List.forall_mem_cons.mpr ⟨gd_t 111 (by decide +kernel) rfl, List.forall_mem_cons.mpr ⟨gd_t 113 (by decide +kernel) rfl, fun _ h => absurd h List.not_mem_nil⟩⟩⟩⟩), tyX0_ok, nmX0⟩
theorem cl1 : mCl 1 RX1 TX1 3 tyX1 := ⟨rfl, (show ∀ w ∈ [u_lay RX1 TX1 0, u_lay RX1 TX1 1, u_lay RX1 TX1 2], w ∈ gd from List.forall_mem_cons.mpr ⟨gd_t 169 (by decide +kernel) rfl, List.forall_mem_cons.mpr ⟨gd_t 171 (by decide +kernel) rfl, List.forall_mem_cons.mpr ⟨gd_t 173 (by decide +kernel) rfl, fun _ h => absurd h List.not_mem_nil⟩⟩⟩), tyX1_ok, nmX1⟩
theorem cl2 : mCl 2 RX2 TX2 7 tyX2 := ⟨rfl, (show ∀ w ∈ [u_lay RX2 TX2 0, u_lay RX2 TX2 1, u_lay RX2 TX2 2, u_lay RX2 TX2 3, u_lay RX2 TX2 4, u_lay RX2 TX2 5, u_lay RX2 TX2 6], w ∈ gd from List.forall_mem_cons.mpr ⟨gd_t 216 (by decide +kernel) rfl, List.forall_mem_cons.mpr ⟨gd_t 218 (by decide +kernel) rfl, List.forall_mem_cons.mpr ⟨gd_t 220 (by decide +kernel) rfl, List.forall_mem_cons.mpr ⟨gd_t 222 (by decide +kernel) rfl, List.forall_mem_cons.mpr ⟨gd_t 224 (by decide +kernel) rfl, List.forall_mem_cons.mpr ⟨gd_t 226 (by decide +kernel) rfl, List.forall_mem_cons.mpr ⟨gd_t 228 (by decide +kernel) rfl, fun _ h => absurd h List.not_mem_nil⟩⟩⟩⟩⟩⟩⟩), tyX2_ok, nmX2⟩
theorem cl3 : mCl 3 RX3 TX3 9 tyX3 := ⟨rfl, (show ∀ w ∈ [u_lay RX3 TX3 0, u_lay RX3 TX3 1, u_lay RX3 TX3 2, u_lay RX3 TX3 3, u_lay RX3 TX3 4, u_lay RX3 TX3 5, u_lay RX3 TX3 6, u_lay RX3 TX3 7, u_lay RX3 TX3 8], w ∈ gd from List.forall_mem_cons.mpr ⟨gd_t 69 (by decide +kernel) rfl, List.forall_mem_cons.mpr ⟨gd_t 71 (by decide +kernel) rfl, List.forall_mem_cons.mpr ⟨gd_t 73 (by decide +kernel) rfl, List.forall_mem_cons.mpr ⟨gd_t 75 (by decide +kernel) rfl, List.forall_mem_cons.mpr ⟨gd_t 77 (by decide +kernel) rfl, List.forall_mem_cons.mpr ⟨gd_t 79 (by decide +kernel) rfl, List.forall_mem_cons.mpr ⟨gd_t 81 (by decide +kernel) rfl, List.forall_mem_cons.mpr ⟨gd_t 83 (by decide +kernel) rfl, List.forall_mem_cons.mpr ⟨gd_t 85 (by decide +kernel) rfl, fun _ h => absurd h List.not_mem_nil⟩⟩⟩⟩⟩⟩⟩⟩⟩), tyX3_ok, nmX3⟩
theorem cl4 : mCl 4 RX4 TX4 4 tyX4 := ⟨rfl, (show ∀ w ∈ [u_lay RX4 TX4 0, u_lay RX4 TX4 1, u_lay RX4 TX4 2, u_lay RX4 TX4 3], w ∈ gd from List.forall_mem_cons.mpr ⟨gd_t 187 (by decide +kernel) rfl, List.forall_mem_cons.mpr ⟨gd_t 189 (by decide +kernel) rfl, List.forall_mem_cons.mpr ⟨gd_t 191 (by decide +kernel) rfl, List.forall_mem_cons.mpr ⟨gd_t 193 (by decide +kernel) rfl, fun _ h => absurd h List.not_mem_nil⟩⟩⟩⟩), tyX4_ok, nmX4⟩
theorem cl5 : mCl 5 RX5 TX5 6 tyX5 := ⟨rfl, (show ∀ w ∈ [u_lay RX5 TX5 0, u_lay RX5 TX5 1, u_lay RX5 TX5 2, u_lay RX5 TX5 3, u_lay RX5 TX5 4, u_lay RX5 TX5 5], w ∈ gd from List.forall_mem_cons.mpr ⟨gd_t 244 (by decide +kernel) rfl, List.forall_mem_cons.mpr ⟨gd_t 246 (by decide +kernel) rfl, List.forall_mem_cons.mpr ⟨gd_t 248 (by decide +kernel) rfl, List.forall_mem_cons.mpr ⟨gd_t 250 (by decide +kernel) rfl, List.forall_mem_cons.mpr ⟨gd_t 252 (by decide +kernel) rfl, List.forall_mem_cons.mpr ⟨gd_t 254 (by decide +kernel) rfl, fun _ h => absurd h List.not_mem_nil⟩⟩⟩⟩⟩⟩), tyX5_ok, nmX5⟩
theorem cl6 : mCl 6 RX6 TX6 9 tyX6 := ⟨rfl, (show ∀ w ∈ [u_lay RX6 TX6 0, u_lay RX6 TX6 1, u_lay RX6 TX6 2, u_lay RX6 TX6 3, u_lay RX6 TX6 4, u_lay RX6 TX6 5, u_lay RX6 TX6 6, u_lay RX6 TX6 7, u_lay RX6 TX6 8], w ∈ gd from List.forall_mem_cons.mpr ⟨gd_t 137 (by decide +kernel) rfl, List.forall_mem_cons.mpr ⟨gd_t 139 (by decide +kernel) rfl, List.forall_mem_cons.mpr ⟨gd_t 141 (by decide +kernel) rfl, List.forall_mem_cons.mpr ⟨gd_t 143 (by decide +kernel) rfl, List.forall_mem_cons.mpr ⟨gd_t 145 (by decide +kernel) rfl, List.forall_mem_cons.mpr ⟨gd_t 147 (by decide +kernel) rfl, List.forall_mem_cons.mpr ⟨gd_t 149 (by decide +kernel) rfl, List.forall_mem_cons.mpr ⟨gd_t 151 (by decide +kernel) rfl, List.forall_mem_cons.mpr ⟨gd_t 153 (by decide +kernel) rfl, fun _ h => absurd h List.not_mem_nil⟩⟩⟩⟩⟩⟩⟩⟩⟩), tyX6_ok, nmX6⟩
theorem cl7 : mCl 7 RX7 TX7 9 tyX7 := ⟨rfl, (show ∀ w ∈ [u_lay RX7 TX7 0, u_lay RX7 TX7 1, u_lay RX7 TX7 2, u_lay RX7 TX7 3, u_lay RX7 TX7 4, u_lay RX7 TX7 5, u_lay RX7 TX7 6, u_lay RX7 TX7 7, u_lay RX7 TX7 8], w ∈ gd from List.forall_mem_cons.mpr ⟨gd_t 356 (by decide +kernel) rfl, List.forall_mem_cons.mpr ⟨gd_t 358 (by decide +kernel) rfl, List.forall_mem_cons.mpr ⟨gd_t 360 (by decide +kernel) rfl, List.forall_mem_cons.mpr ⟨gd_t 362 (by decide +kernel) rfl, List.forall_mem_cons.mpr ⟨gd_t 364 (by decide +kernel) rfl, List.forall_mem_cons.mpr ⟨gd_t 366 (by decide +kernel) rfl, List.forall_mem_cons.mpr ⟨gd_t 368 (by decide +kernel) rfl, List.forall_mem_cons.mpr ⟨gd_t 370 (by decide +kernel) rfl, List.forall_mem_cons.mpr ⟨gd_t 372 (by decide +kernel) rfl, fun _ h => absurd h List.not_mem_nil⟩⟩⟩⟩⟩⟩⟩⟩⟩), tyX7_ok, nmX7⟩
theorem cl8 : mCl 8 RX8 TX8 16 tyX8 := ⟨rfl, (show ∀ w ∈ [u_lay RX8 TX8 0, u_lay RX8 TX8 1, u_lay RX8 TX8 2, u_lay RX8 TX8 3, u_lay RX8 TX8 4, u_lay RX8 TX8 5, u_lay RX8 TX8 6, u_lay RX8 TX8 7, u_lay RX8 TX8 8, u_lay RX8 TX8 9, u_lay RX8 TX8 10, u_lay RX8 TX8 11, u_lay RX8 TX8 12, u_lay RX8 TX8 13, u_lay RX8 TX8 14, u_lay RX8 TX8 15], w ∈ gd from List.forall_mem_cons.mpr ⟨gd_t 865 (by decide +kernel) rfl, List.forall_mem_cons.mpr ⟨gd_t 867 (by decide +kernel) rfl, List.forall_mem_cons.mpr ⟨gd_t 869 (by decide +kernel) rfl, List.forall_mem_cons.mpr ⟨gd_t 871 (by decide +kernel) rfl, List.forall_mem_cons.mpr ⟨gd_t 873 (by decide +kernel) rfl, List.forall_mem_cons.mpr ⟨gd_t 875 (by decide +kernel) rfl, List.forall_mem_cons.mpr ⟨gd_t 877 (by decide +kernel) rfl, List.forall_mem_cons.mpr ⟨gd_t 879 (by decide +kernel) rfl, List.forall_mem_cons.mpr ⟨gd_t 881 (by decide +kernel) rfl, List.forall_mem_cons.mpr ⟨gd_t 883 (by decide +kernel) rfl, List.forall_mem_cons.mpr ⟨gd_t 885 (by decide +kernel) rfl, List.forall_mem_cons.mpr ⟨gd_t 887 (by decide +kernel) rfl, List.forall_mem_cons.mpr ⟨gd_t 889 (by decide +kernel) rfl, List.forall_mem_cons.mpr ⟨gd_t 891 (by decide +kernel) rfl, List.forall_mem_cons.mpr ⟨gd_t 893 (by decide +kernel) rfl, List.forall_mem_cons.mpr ⟨gd_t 895 (by decide +kernel) rfl, fun _ h => absurd h List.not_mem_nil⟩⟩⟩⟩⟩⟩⟩⟩⟩⟩⟩⟩⟩⟩⟩⟩), tyX8_ok, nmX8⟩
theorem f_X3_9 : mFl RX3 9 3 0 := ⟨RX3, TX3, 9, tyX3, cl3, by decide, gd_t 39 (by decide +kernel) rfl⟩
theorem f_X5_60 : mFl RX5 60 3 0 := ⟨RX3, TX3, 9, tyX3, cl3, by decide, gd_t 40 (by decide +kernel) rfl⟩
theorem f_X2_126 : mFl RX2 126 3 0 := ⟨RX3, TX3, 9, tyX3, cl3, by decide, gd_t 41 (by decide +kernel) rfl⟩
theorem f_X7_270 : mFl RX7 270 3 0 := ⟨RX3, TX3, 9, tyX3, cl3, by decide, gd_t 42 (by decide +kernel) rfl⟩
theorem f_X3_15 : mFl RX3 15 3 1 := ⟨RX3, TX3, 9, tyX3, cl3, by decide, gd_t 43 (by decide +kernel) rfl⟩
theorem f_X2_83 : mFl RX2 83 3 1 := ⟨RX3, TX3, 9, tyX3, cl3, by decide, gd_t 44 (by decide +kernel) rfl⟩
theorem f_X7_273 : mFl RX7 273 3 1 := ⟨RX3, TX3, 9, tyX3, cl3, by decide, gd_t 45 (by decide +kernel) rfl⟩
theorem f_X3_18 : mFl RX3 18 3 2 := ⟨RX3, TX3, 9, tyX3, cl3, by decide, gd_t 46 (by decide +kernel) rfl⟩
theorem f_X2_80 : mFl RX2 80 3 2 := ⟨RX3, TX3, 9, tyX3, cl3, by decide, gd_t 47 (by decide +kernel) rfl⟩
theorem f_X7_275 : mFl RX7 275 3 2 := ⟨RX3, TX3, 9, tyX3, cl3, by decide, gd_t 48 (by decide +kernel) rfl⟩
theorem f_X3_21 : mFl RX3 21 3 3 := ⟨RX3, TX3, 9, tyX3, cl3, by decide, gd_t 49 (by decide +kernel) rfl⟩
theorem f_X2_70 : mFl RX2 70 3 3 := ⟨RX3, TX3, 9, tyX3, cl3, by decide, gd_t 50 (by decide +kernel) rfl⟩
theorem f_X7_97 : mFl RX7 97 3 3 := ⟨RX3, TX3, 9, tyX3, cl3, by decide, gd_t 51 (by decide +kernel) rfl⟩
theorem f_X3_24 : mFl RX3 24 3 4 := ⟨RX3, TX3, 9, tyX3, cl3, by decide, gd_t 52 (by decide +kernel) rfl⟩
theorem f_X7_100 : mFl RX7 100 3 4 := ⟨RX3, TX3, 9, tyX3, cl3, by decide, gd_t 53 (by decide +kernel) rfl⟩
theorem f_X2_119 : mFl RX2 119 3 4 := ⟨RX3, TX3, 9, tyX3, cl3, by decide, gd_t 54 (by decide +kernel) rfl⟩
theorem f_X3_27 : mFl RX3 27 3 5 := ⟨RX3, TX3, 9, tyX3, cl3, by decide, gd_t 55 (by decide +kernel) rfl⟩
theorem f_X2_73 : mFl RX2 73 3 5 := ⟨RX3, TX3, 9, tyX3, cl3, by decide, gd_t 56 (by decide +kernel) rfl⟩
theorem f_X7_103 : mFl RX7 103 3 5 := ⟨RX3, TX3, 9, tyX3, cl3, by decide, gd_t 57 (by decide +kernel) rfl⟩
theorem f_X5_50 : mFl RX5 50 3 5 := ⟨RX3, TX3, 9, tyX3, cl3, by decide, gd_t 58 (by decide +kernel) rfl⟩
theorem f_X3_30 : mFl RX3 30 3 6 := ⟨RX3, TX3, 9, tyX3, cl3, by decide, gd_t 59 (by decide +kernel) rfl⟩
theorem f_X5_31 : mFl RX5 31 3 6 := ⟨RX3, TX3, 9, tyX3, cl3, by decide, gd_t 60 (by decide +kernel) rfl⟩
theorem f_X7_173 : mFl RX7 173 3 6 := ⟨RX3, TX3, 9, tyX3, cl3, by decide, gd_t 61 (by decide +kernel) rfl⟩
theorem f_X3_33 : mFl RX3 33 3 7 := ⟨RX3, TX3, 9, tyX3, cl3, by decide, gd_t 62 (by decide +kernel) rfl⟩
theorem f_X7_163 : mFl RX7 163 3 7 := ⟨RX3, TX3, 9, tyX3, cl3, by decide, gd_t 63 (by decide +kernel) rfl⟩
theorem fi_X3_36 : mFi RX3 36 3 8 .int := ⟨RX3, TX3, 9, tyX3, cl3, by decide, gd_t 64 (by decide +kernel) rfl, rfl, by decide +kernel⟩
theorem f_X3_36 : mFl RX3 36 3 8 := fi_X3_36.fl
theorem fi_X7_75 : mFi RX7 75 3 8 .int := ⟨RX3, TX3, 9, tyX3, cl3, by decide, gd_t 65 (by decide +kernel) rfl, rfl, by decide +kernel⟩
theorem f_X7_75 : mFl RX7 75 3 8 := fi_X7_75.fl
theorem fi_X4_25 : mFi RX4 25 3 8 .int := ⟨RX3, TX3, 9, tyX3, cl3, by decide, gd_t 66 (by decide +kernel) rfl, rfl, by decide +kernel⟩
theorem f_X4_25 : mFl RX4 25 3 8 := fi_X4_25.fl
theorem fi_X2_65 : mFi RX2 65 3 8 .int := ⟨RX3, TX3, 9, tyX3, cl3, by decide, gd_t 67 (by decide +kernel) rfl, rfl, by decide +kernel⟩
theorem f_X2_65 : mFl RX2 65 3 8 := fi_X2_65.fl
theorem fi_X5_38 : mFi RX5 38 3 8 .int := ⟨RX3, TX3, 9, tyX3, cl3, by decide, gd_t 68 (by decide +kernel) rfl, rfl, by decide +kernel⟩
theorem f_X5_38 : mFl RX5 38 3 8 := fi_X5_38.fl
theorem f_X0_9 : mFl RX0 9 0 0 := ⟨RX0, TX0, 4, tyX0, cl0, by decide, gd_t 95 (by decide +kernel) rfl⟩
theorem f_X2_107 : mFl RX2 107 0 0 := ⟨RX0, TX0, 4, tyX0, cl0, by decide, gd_t 96 (by decide +kernel) rfl⟩
theorem f_X7_303 : mFl RX7 303 0 0 := ⟨RX0, TX0, 4, tyX0, cl0, by decide, gd_t 97 (by decide +kernel) rfl⟩
theorem f_X0_15 : mFl RX0 15 0 1 := ⟨RX0, TX0, 4, tyX0, cl0, by decide, gd_t 98 (by decide +kernel) rfl⟩
theorem f_X2_113 : mFl RX2 113 0 1 := ⟨RX0, TX0, 4, tyX0, cl0, by decide, gd_t 99 (by decide +kernel) rfl⟩
theorem f_X7_306 : mFl RX7 306 0 1 := ⟨RX0, TX0, 4, tyX0, cl0, by decide, gd_t 100 (by decide +kernel) rfl⟩
theorem f_X0_18 : mFl RX0 18 0 2 := ⟨RX0, TX0, 4, tyX0, cl0, by decide, gd_t 101 (by decide +kernel) rfl⟩
theorem f_X2_116 : mFl RX2 116 0 2 := ⟨RX0, TX0, 4, tyX0, cl0, by decide, gd_t 102 (by decide +kernel) rfl⟩
theorem f_X7_143 : mFl RX7 143 0 2 := ⟨RX0, TX0, 4, tyX0, cl0, by decide, gd_t 103 (by decide +kernel) rfl⟩
theorem fi_X0_21 : mFi RX0 21 0 3 .int := ⟨RX0, TX0, 4, tyX0, cl0, by decide, gd_t 104 (by decide +kernel) rfl, rfl, by decide +kernel⟩
theorem f_X0_21 : mFl RX0 21 0 3 := fi_X0_21.fl
theorem fi_X2_100 : mFi RX2 100 0 3 .int := ⟨RX0, TX0, 4, tyX0, cl0, by decide, gd_t 105 (by decide +kernel) rfl, rfl, by decide +kernel⟩
theorem f_X2_100 : mFl RX2 100 0 3 := fi_X2_100.fl
theorem fi_X7_131 : mFi RX7 131 0 3 .int := ⟨RX0, TX0, 4, tyX0, cl0, by decide, gd_t 106 (by decide +kernel) rfl, rfl, by decide +kernel⟩
theorem f_X7_131 : mFl RX7 131 0 3 := fi_X7_131.fl
theorem f_X6_10 : mFl RX6 10 6 0 := ⟨RX6, TX6, 9, tyX6, cl6, by decide, gd_t 116 (by decide +kernel) rfl⟩
theorem f_X2_34 : mFl RX2 34 6 0 := ⟨RX6, TX6, 9, tyX6, cl6, by decide, gd_t 117 (by decide +kernel) rfl⟩
theorem f_X7_72 : mFl RX7 72 6 0 := ⟨RX6, TX6, 9, tyX6, cl6, by decide, gd_t 118 (by decide +kernel) rfl⟩
theorem f_X6_19 : mFl RX6 19 6 1 := ⟨RX6, TX6, 9, tyX6, cl6, by decide, gd_t 119 (by decide +kernel) rfl⟩
theorem f_X2_57 : mFl RX2 57 6 1 := ⟨RX6, TX6, 9, tyX6, cl6, by decide, gd_t 120 (by decide +kernel) rfl⟩
theorem f_X7_127 : mFl RX7 127 6 1 := ⟨RX6, TX6, 9, tyX6, cl6, by decide, gd_t 121 (by decide +kernel) rfl⟩
theorem fi_X6_23 : mFi RX6 23 6 2 .int := ⟨RX6, TX6, 9, tyX6, cl6, by decide, gd_t 122 (by decide +kernel) rfl, rfl, by decide +kernel⟩
theorem f_X6_23 : mFl RX6 23 6 2 := fi_X6_23.fl
theorem fi_X7_106 : mFi RX7 106 6 2 .int := ⟨RX6, TX6, 9, tyX6, cl6, by decide, gd_t 123 (by decide +kernel) rfl, rfl, by decide +kernel⟩
theorem f_X7_106 : mFl RX7 106 6 2 := fi_X7_106.fl
theorem fi_X6_27 : mFi RX6 27 6 3 .int := ⟨RX6, TX6, 9, tyX6, cl6, by decide, gd_t 124 (by decide +kernel) rfl, rfl, by decide +kernel⟩
theorem f_X6_27 : mFl RX6 27 6 3 := fi_X6_27.fl
theorem fi_X2_90 : mFi RX2 90 6 3 .int := ⟨RX6, TX6, 9, tyX6, cl6, by decide, gd_t 125 (by decide +kernel) rfl, rfl, by decide +kernel⟩
theorem f_X2_90 : mFl RX2 90 6 3 := fi_X2_90.fl
theorem fi_X7_109 : mFi RX7 109 6 3 .int := ⟨RX6, TX6, 9, tyX6, cl6, by decide, gd_t 126 (by decide +kernel) rfl, rfl, by decide +kernel⟩
theorem f_X7_109 : mFl RX7 109 6 3 := fi_X7_109.fl
theorem fi_X6_30 : mFi RX6 30 6 4 .int := ⟨RX6, TX6, 9, tyX6, cl6, by decide, gd_t 127 (by decide +kernel) rfl, rfl, by decide +kernel⟩
theorem f_X6_30 : mFl RX6 30 6 4 := fi_X6_30.fl
theorem fi_X7_149 : mFi RX7 149 6 4 .int := ⟨RX6, TX6, 9, tyX6, cl6, by decide, gd_t 128 (by decide +kernel) rfl, rfl, by decide +kernel⟩
theorem f_X7_149 : mFl RX7 149 6 4 := fi_X7_149.fl
theorem fi_X6_33 : mFi RX6 33 6 5 .int := ⟨RX6, TX6, 9, tyX6, cl6, by decide, gd_t 129 (by decide +kernel) rfl, rfl, by decide +kernel⟩
theorem f_X6_33 : mFl RX6 33 6 5 := fi_X6_33.fl
theorem fi_X7_152 : mFi RX7 152 6 5 .int := ⟨RX6, TX6, 9, tyX6, cl6, by decide, gd_t 130 (by decide +kernel) rfl, rfl, by decide +kernel⟩
theorem f_X7_152 : mFl RX7 152 6 5 := fi_X7_152.fl
theorem fi_X6_36 : mFi RX6 36 6 6 .int := ⟨RX6, TX6, 9, tyX6, cl6, by decide, gd_t 131 (by decide +kernel) rfl, rfl, by decide +kernel⟩
theorem f_X6_36 : mFl RX6 36 6 6 := fi_X6_36.fl
theorem fi_X7_155 : mFi RX7 155 6 6 .int := ⟨RX6, TX6, 9, tyX6, cl6, by decide, gd_t 132 (by decide +kernel) rfl, rfl, by decide +kernel⟩
theorem f_X7_155 : mFl RX7 155 6 6 := fi_X7_155.fl
theorem fi_X6_39 : mFi RX6 39 6 7 .int := ⟨RX6, TX6, 9, tyX6, cl6, by decide, gd_t 133 (by decide +kernel) rfl, rfl, by decide +kernel⟩
theorem f_X6_39 : mFl RX6 39 6 7 := fi_X6_39.fl
theorem fi_X7_158 : mFi RX7 158 6 7 .int := ⟨RX6, TX6, 9, tyX6, cl6, by decide, gd_t 134 (by decide +kernel) rfl, rfl, by decide +kernel⟩
theorem f_X7_158 : mFl RX7 158 6 7 := fi_X7_158.fl
theorem fi_X6_42 : mFi RX6 42 6 8 .int := ⟨RX6, TX6, 9, tyX6, cl6, by decide, gd_t 135 (by decide +kernel) rfl, rfl, by decide +kernel⟩
theorem f_X6_42 : mFl RX6 42 6 8 := fi_X6_42.fl
theorem fi_X7_169 : mFi RX7 169 6 8 .int := ⟨RX6, TX6, 9, tyX6, cl6, by decide, gd_t 136 (by decide +kernel) rfl, rfl, by decide +kernel⟩
theorem f_X7_169 : mFl RX7 169 6 8 := fi_X7_169.fl
theorem f_X1_11 : mFl RX1 11 1 0 := ⟨RX1, TX1, 3, tyX1, cl1, by decide, gd_t 165 (by decide +kernel) rfl⟩
theorem fi_X1_17 : mFi RX1 17 1 1 .int := ⟨RX1, TX1, 3, tyX1, cl1, by decide, gd_t 166 (by decide +kernel) rfl, rfl, by decide +kernel⟩
theorem f_X1_17 : mFl RX1 17 1 1 := fi_X1_17.fl
theorem fi_X1_21 : mFi RX1 21 1 2 .int := ⟨RX1, TX1, 3, tyX1, cl1, by decide, gd_t 167 (by decide +kernel) rfl, rfl, by decide +kernel⟩
theorem f_X1_21 : mFl RX1 21 1 2 := fi_X1_21.fl
theorem fi_X7_234 : mFi RX7 234 1 2 .int := ⟨RX1, TX1, 3, tyX1, cl1, by decide, gd_t 168 (by decide +kernel) rfl, rfl, by decide +kernel⟩
theorem f_X7_234 : mFl RX7 234 1 2 := fi_X7_234.fl
theorem f_X4_9 : mFl RX4 9 4 0 := ⟨RX4, TX4, 4, tyX4, cl4, by decide, gd_t 182 (by decide +kernel) rfl⟩
theorem fi_X4_15 : mFi RX4 15 4 1 .int := ⟨RX4, TX4, 4, tyX4, cl4, by decide, gd_t 183 (by decide +kernel) rfl, rfl, by decide +kernel⟩
theorem f_X4_15 : mFl RX4 15 4 1 := fi_X4_15.fl
theorem fi_X7_219 : mFi RX7 219 4 1 .int := ⟨RX4, TX4, 4, tyX4, cl4, by decide, gd_t 184 (by decide +kernel) rfl, rfl, by decide +kernel⟩
theorem f_X7_219 : mFl RX7 219 4 1 := fi_X7_219.fl
theorem fi_X4_19 : mFi RX4 19 4 2 .int := ⟨RX4, TX4, 4, tyX4, cl4, by decide, gd_t 185 (by decide +kernel) rfl, rfl, by decide +kernel⟩
theorem f_X4_19 : mFl RX4 19 4 2 := fi_X4_19.fl
theorem fi_X4_22 : mFi RX4 22 4 3 .int := ⟨RX4, TX4, 4, tyX4, cl4, by decide, gd_t 186 (by decide +kernel) rfl, rfl, by decide +kernel⟩
theorem f_X4_22 : mFl RX4 22 4 3 := fi_X4_22.fl
theorem f_X2_9 : mFl RX2 9 2 0 := ⟨RX2, TX2, 7, tyX2, cl2, by decide, gd_t 202 (by decide +kernel) rfl⟩
theorem f_X7_216 : mFl RX7 216 2 0 := ⟨RX2, TX2, 7, tyX2, cl2, by decide, gd_t 203 (by decide +kernel) rfl⟩
theorem f_X2_15 : mFl RX2 15 2 1 := ⟨RX2, TX2, 7, tyX2, cl2, by decide, gd_t 204 (by decide +kernel) rfl⟩
theorem f_X7_278 : mFl RX7 278 2 1 := ⟨RX2, TX2, 7, tyX2, cl2, by decide, gd_t 205 (by decide +kernel) rfl⟩
theorem f_X2_18 : mFl RX2 18 2 2 := ⟨RX2, TX2, 7, tyX2, cl2, by decide, gd_t 206 (by decide +kernel) rfl⟩
theorem f_X7_294 : mFl RX7 294 2 2 := ⟨RX2, TX2, 7, tyX2, cl2, by decide, gd_t 207 (by decide +kernel) rfl⟩
theorem f_X2_21 : mFl RX2 21 2 3 := ⟨RX2, TX2, 7, tyX2, cl2, by decide, gd_t 208 (by decide +kernel) rfl⟩
theorem f_X7_309 : mFl RX7 309 2 3 := ⟨RX2, TX2, 7, tyX2, cl2, by decide, gd_t 209 (by decide +kernel) rfl⟩
theorem fi_X2_24 : mFi RX2 24 2 4 .int := ⟨RX2, TX2, 7, tyX2, cl2, by decide, gd_t 210 (by decide +kernel) rfl, rfl, by decide +kernel⟩
theorem f_X2_24 : mFl RX2 24 2 4 := fi_X2_24.fl
theorem fi_X7_297 : mFi RX7 297 2 4 .int := ⟨RX2, TX2, 7, tyX2, cl2, by decide, gd_t 211 (by decide +kernel) rfl, rfl, by decide +kernel⟩
theorem f_X7_297 : mFl RX7 297 2 4 := fi_X7_297.fl
theorem fi_X2_28 : mFi RX2 28 2 5 .int := ⟨RX2, TX2, 7, tyX2, cl2, by decide, gd_t 212 (by decide +kernel) rfl, rfl, by decide +kernel⟩
theorem f_X2_28 : mFl RX2 28 2 5 := fi_X2_28.fl
theorem fi_X7_213 : mFi RX7 213 2 5 .int := ⟨RX2, TX2, 7, tyX2, cl2, by decide, gd_t 213 (by decide +kernel) rfl, rfl, by decide +kernel⟩
theorem f_X7_213 : mFl RX7 213 2 5 := fi_X7_213.fl
theorem fi_X2_31 : mFi RX2 31 2 6 .int := ⟨RX2, TX2, 7, tyX2, cl2, by decide, gd_t 214 (by decide +kernel) rfl, rfl, by decide +kernel⟩
theorem f_X2_31 : mFl RX2 31 2 6 := fi_X2_31.fl
theorem fi_X7_172 : mFi RX7 172 2 6 .int := ⟨RX2, TX2, 7, tyX2, cl2, by decide, gd_t 215 (by decide +kernel) rfl, rfl, by decide +kernel⟩
theorem f_X7_172 : mFl RX7 172 2 6 := fi_X7_172.fl
theorem f_X5_9 : mFl RX5 9 5 0 := ⟨RX5, TX5, 6, tyX5, cl5, by decide, gd_t 237 (by decide +kernel) rfl⟩
theorem f_X5_15 : mFl RX5 15 5 1 := ⟨RX5, TX5, 6, tyX5, cl5, by decide, gd_t 238 (by decide +kernel) rfl⟩
theorem f_X7_186 : mFl RX7 186 5 1 := ⟨RX5, TX5, 6, tyX5, cl5, by decide, gd_t 239 (by decide +kernel) rfl⟩
theorem f_X5_18 : mFl RX5 18 5 2 := ⟨RX5, TX5, 6, tyX5, cl5, by decide, gd_t 240 (by decide +kernel) rfl⟩
theorem f_X5_21 : mFl RX5 21 5 3 := ⟨RX5, TX5, 6, tyX5, cl5, by decide, gd_t 241 (by decide +kernel) rfl⟩
theorem f_X5_24 : mFl RX5 24 5 4 := ⟨RX5, TX5, 6, tyX5, cl5, by decide, gd_t 242 (by decide +kernel) rfl⟩
theorem fi_X5_27 : mFi RX5 27 5 5 .int := ⟨RX5, TX5, 6, tyX5, cl5, by decide, gd_t 243 (by decide +kernel) rfl, rfl, by decide +kernel⟩
theorem f_X5_27 : mFl RX5 27 5 5 := fi_X5_27.fl
theorem f_X7_10 : mFl RX7 10 7 0 := ⟨RX7, TX7, 9, tyX7, cl7, by decide, gd_t 347 (by decide +kernel) rfl⟩
theorem f_X7_19 : mFl RX7 19 7 1 := ⟨RX7, TX7, 9, tyX7, cl7, by decide, gd_t 348 (by decide +kernel) rfl⟩
theorem f_X7_26 : mFl RX7 26 7 2 := ⟨RX7, TX7, 9, tyX7, cl7, by decide, gd_t 349 (by decide +kernel) rfl⟩
theorem f_X7_33 : mFl RX7 33 7 3 := ⟨RX7, TX7, 9, tyX7, cl7, by decide, gd_t 350 (by decide +kernel) rfl⟩
theorem f_X7_40 : mFl RX7 40 7 4 := ⟨RX7, TX7, 9, tyX7, cl7, by decide, gd_t 351 (by decide +kernel) rfl⟩
theorem f_X7_44 : mFl RX7 44 7 5 := ⟨RX7, TX7, 9, tyX7, cl7, by decide, gd_t 352 (by decide +kernel) rfl⟩
theorem f_X7_47 : mFl RX7 47 7 6 := ⟨RX7, TX7, 9, tyX7, cl7, by decide, gd_t 353 (by decide +kernel) rfl⟩
theorem f_X7_53 : mFl RX7 53 7 7 := ⟨RX7, TX7, 9, tyX7, cl7, by decide, gd_t 354 (by decide +kernel) rfl⟩
theorem f_X7_57 : mFl RX7 57 7 8 := ⟨RX7, TX7, 9, tyX7, cl7, by decide, gd_t 355 (by decide +kernel) rfl⟩
theorem f_X8_7 : mFl RX8 7 8 0 := ⟨RX8, TX8, 16, tyX8, cl8, by decide, gd_t 849 (by decide +kernel) rfl⟩
theorem f_X8_13 : mFl RX8 13 8 1 := ⟨RX8, TX8, 16, tyX8, cl8, by decide, gd_t 850 (by decide +kernel) rfl⟩
theorem f_X8_16 : mFl RX8 16 8 2 := ⟨RX8, TX8, 16, tyX8, cl8, by decide, gd_t 851 (by decide +kernel) rfl⟩
theorem fi_X8_41 : mFi RX8 41 8 3 .int := ⟨RX8, TX8, 16, tyX8, cl8, by decide, gd_t 852 (by decide +kernel) rfl, rfl, by decide +kernel⟩
theorem f_X8_41 : mFl RX8 41 8 3 := fi_X8_41.fl
theorem f_X8_19 : mFl RX8 19 8 4 := ⟨RX8, TX8, 16, tyX8, cl8, by decide, gd_t 853 (by decide +kernel) rfl⟩
theorem fi_X8_182 : mFi RX8 182 8 5 .int := ⟨RX8, TX8, 16, tyX8, cl8, by decide, gd_t 854 (by decide +kernel) rfl, rfl, by decide +kernel⟩
theorem f_X8_182 : mFl RX8 182 8 5 := fi_X8_182.fl
theorem fi_X8_37 : mFi RX8 37 8 6 .int := ⟨RX8, TX8, 16, tyX8, cl8, by decide, gd_t 855 (by decide +kernel) rfl, rfl, by decide +kernel⟩
theorem f_X8_37 : mFl RX8 37 8 6 := fi_X8_37.fl
theorem f_X8_22 : mFl RX8 22 8 7 := ⟨RX8, TX8, 16, tyX8, cl8, by decide, gd_t 856 (by decide +kernel) rfl⟩
theorem f_X8_25 : mFl RX8 25 8 8 := ⟨RX8, TX8, 16, tyX8, cl8, by decide, gd_t 857 (by decide +kernel) rfl⟩
theorem f_X8_28 : mFl RX8 28 8 9 := ⟨RX8, TX8, 16, tyX8, cl8, by decide, gd_t 858 (by decide +kernel) rfl⟩
theorem f_X8_31 : mFl RX8 31 8 10 := ⟨RX8, TX8, 16, tyX8, cl8, by decide, gd_t 859 (by decide +kernel) rfl⟩
theorem f_X8_34 : mFl RX8 34 8 11 := ⟨RX8, TX8, 16, tyX8, cl8, by decide, gd_t 860 (by decide +kernel) rfl⟩
theorem fi_X8_80 : mFi RX8 80 8 12 .int := ⟨RX8, TX8, 16, tyX8, cl8, by decide, gd_t 861 (by decide +kernel) rfl, rfl, by decide +kernel⟩
theorem f_X8_80 : mFl RX8 80 8 12 := fi_X8_80.fl
theorem fi_X8_185 : mFi RX8 185 8 13 .int := ⟨RX8, TX8, 16, tyX8, cl8, by decide, gd_t 862 (by decide +kernel) rfl, rfl, by decide +kernel⟩
theorem f_X8_185 : mFl RX8 185 8 13 := fi_X8_185.fl
theorem fi_X8_188 : mFi RX8 188 8 14 .int := ⟨RX8, TX8, 16, tyX8, cl8, by decide, gd_t 863 (by decide +kernel) rfl, rfl, by decide +kernel⟩
theorem f_X8_188 : mFl RX8 188 8 14 := fi_X8_188.fl
theorem fi_X8_203 : mFi RX8 203 8 15 .long := ⟨RX8, TX8, 16, tyX8, cl8, by decide, gd_t 864 (by decide +kernel) rfl, rfl, by decide +kernel⟩
theorem f_X8_203 : mFl RX8 203 8 15 := fi_X8_203.fl
theorem s_X7_61 : mSv RX7 61 RX7 yX7_settle cX7_settle 1 none 0 := ⟨⟨gd_t 259 (by decide +kernel) rfl, gd_t 1 (by decide +kernel) rfl, gd_t 262 (by decide +kernel) rfl, by decide, by decide, by decide +kernel, by decide⟩, gd_t 261 (by decide +kernel) rfl, gd_s 0 (by decide +kernel) rfl, rfl⟩
theorem s_X7_210 : mSv RX7 210 RX2 yX2_settle cX2_settle 3 none 2 := ⟨⟨gd_t 263 (by decide +kernel) rfl, gd_t 7 (by decide +kernel) rfl, gd_t 266 (by decide +kernel) rfl, by decide, by decide, by decide +kernel, by decide⟩, gd_t 264 (by decide +kernel) rfl, gd_t 265 (by decide +kernel) rfl, rfl⟩
theorem s_X2_40 : mSv RX2 40 RX2 yX2_settleFlows cX2_settleFlows 3 none 1 := ⟨⟨gd_t 267 (by decide +kernel) rfl, gd_t 7 (by decide +kernel) rfl, gd_t 270 (by decide +kernel) rfl, by decide, by decide, by decide +kernel, by decide⟩, gd_t 268 (by decide +kernel) rfl, gd_t 269 (by decide +kernel) rfl, rfl⟩
theorem s_X2_76 : mSs RX2 76 yX2_addUpTheTree cX2_addUpTheTree 3 none 2 := ⟨⟨gd_t 271 (by decide +kernel) rfl, gd_t 7 (by decide +kernel) rfl, gd_t 273 (by decide +kernel) rfl, by decide, by decide, by decide +kernel, by decide⟩, gd_t 272 (by decide +kernel) rfl⟩
theorem s_X2_122 : mSv RX2 122 RX3 yX3_hasParent cX3_hasParent 2 (some .boolean) 1 := ⟨⟨gd_t 274 (by decide +kernel) rfl, gd_t 3 (by decide +kernel) rfl, gd_t 277 (by decide +kernel) rfl, by decide, by decide, by decide +kernel, by decide⟩, gd_t 275 (by decide +kernel) rfl, gd_t 276 (by decide +kernel) rfl, rfl⟩
theorem s_X2_44 : mSv RX2 44 RX2 yX2_settleWarmth cX2_settleWarmth 6 none 2 := ⟨⟨gd_t 278 (by decide +kernel) rfl, gd_t 7 (by decide +kernel) rfl, gd_t 281 (by decide +kernel) rfl, by decide, by decide, by decide +kernel, by decide⟩, gd_t 279 (by decide +kernel) rfl, gd_t 280 (by decide +kernel) rfl, rfl⟩
theorem s_X2_86 : mSv RX2 86 RX2 yX2_warmthAbove cX2_warmthAbove 3 (some .int) 2 := ⟨⟨gd_t 282 (by decide +kernel) rfl, gd_t 7 (by decide +kernel) rfl, gd_t 285 (by decide +kernel) rfl, by decide, by decide, by decide +kernel, by decide⟩, gd_t 283 (by decide +kernel) rfl, gd_t 284 (by decide +kernel) rfl, rfl⟩
theorem s_X2_93 : mSs RX2 93 yX2_warmthBehind cX2_warmthBehind 5 (some .int) 4 := ⟨⟨gd_t 286 (by decide +kernel) rfl, gd_t 7 (by decide +kernel) rfl, gd_t 288 (by decide +kernel) rfl, by decide, by decide, by decide +kernel, by decide⟩, gd_t 287 (by decide +kernel) rfl⟩
theorem s_X2_110 : mMath RX2 110 Lib.Math.min.name Lib.Math.min.code 2 := ⟨gd_t 289 (by decide +kernel) rfl, gd_t 290 (by decide +kernel) rfl, gd_t 9 (by decide +kernel) rfl, gd_t 291 (by decide +kernel) rfl⟩
theorem s_X2_48 : mSv RX2 48 RX2 yX2_settleReturns cX2_settleReturns 3 none 1 := ⟨⟨gd_t 292 (by decide +kernel) rfl, gd_t 7 (by decide +kernel) rfl, gd_t 295 (by decide +kernel) rfl, by decide, by decide, by decide +kernel, by decide⟩, gd_t 293 (by decide +kernel) rfl, gd_t 294 (by decide +kernel) rfl, rfl⟩
theorem s_X2_97 : mSv RX2 97 RX2 yX2_returnOf cX2_returnOf 3 (some .int) 2 := ⟨⟨gd_t 296 (by decide +kernel) rfl, gd_t 7 (by decide +kernel) rfl, gd_t 299 (by decide +kernel) rfl, by decide, by decide, by decide +kernel, by decide⟩, gd_t 297 (by decide +kernel) rfl, gd_t 298 (by decide +kernel) rfl, rfl⟩
theorem s_X2_51 : mMath RX2 51 Lib.Math.max.name Lib.Math.max.code 2 := ⟨gd_t 300 (by decide +kernel) rfl, gd_t 301 (by decide +kernel) rfl, gd_t 9 (by decide +kernel) rfl, gd_t 302 (by decide +kernel) rfl⟩
theorem s_X2_61 : mSv RX2 61 RX2 yX2_settleLoads cX2_settleLoads 5 none 1 := ⟨⟨gd_t 303 (by decide +kernel) rfl, gd_t 7 (by decide +kernel) rfl, gd_t 306 (by decide +kernel) rfl, by decide, by decide, by decide +kernel, by decide⟩, gd_t 304 (by decide +kernel) rfl, gd_t 305 (by decide +kernel) rfl, rfl⟩
theorem s_X2_103 : mSv RX2 103 RX0 yX0_atPlace cX0_atPlace 3 (some .int) 1 := ⟨⟨gd_t 307 (by decide +kernel) rfl, gd_t 4 (by decide +kernel) rfl, gd_t 310 (by decide +kernel) rfl, by decide, by decide, by decide +kernel, by decide⟩, gd_t 308 (by decide +kernel) rfl, gd_t 309 (by decide +kernel) rfl, rfl⟩
theorem s_X0_29 : mSv RX0 29 RX0 yX0_placeOf cX0_placeOf 4 (some .int) 1 := ⟨⟨gd_t 311 (by decide +kernel) rfl, gd_t 4 (by decide +kernel) rfl, gd_t 314 (by decide +kernel) rfl, by decide, by decide, by decide +kernel, by decide⟩, gd_t 312 (by decide +kernel) rfl, gd_t 313 (by decide +kernel) rfl, rfl⟩
theorem s_X7_195 : mSv RX7 195 RX5 yX5_takeMeters cX5_takeMeters 2 none 1 := ⟨⟨gd_t 315 (by decide +kernel) rfl, gd_t 8 (by decide +kernel) rfl, gd_t 318 (by decide +kernel) rfl, by decide, by decide, by decide +kernel, by decide⟩, gd_t 316 (by decide +kernel) rfl, gd_t 317 (by decide +kernel) rfl, rfl⟩
theorem s_X7_327 : mMath RX7 327 Lib.Math.min.name Lib.Math.min.code 2 := ⟨gd_t 322 (by decide +kernel) rfl, gd_t 290 (by decide +kernel) rfl, gd_t 9 (by decide +kernel) rfl, gd_t 291 (by decide +kernel) rfl⟩
theorem s_X7_199 : mSv RX7 199 RX5 yX5_settle cX5_settle 4 none 1 := ⟨⟨gd_t 326 (by decide +kernel) rfl, gd_t 8 (by decide +kernel) rfl, gd_t 329 (by decide +kernel) rfl, by decide, by decide, by decide +kernel, by decide⟩, gd_t 327 (by decide +kernel) rfl, gd_t 328 (by decide +kernel) rfl, rfl⟩
theorem s_X5_39 : mSv RX5 39 RX5 yX5_clearCounts cX5_clearCounts 2 none 0 := ⟨⟨gd_t 330 (by decide +kernel) rfl, gd_t 8 (by decide +kernel) rfl, gd_t 333 (by decide +kernel) rfl, by decide, by decide, by decide +kernel, by decide⟩, gd_t 331 (by decide +kernel) rfl, gd_t 332 (by decide +kernel) rfl, rfl⟩
theorem s_X5_42 : mSv RX5 42 RX5 yX5_hasMeter cX5_hasMeter 2 (some .boolean) 1 := ⟨⟨gd_t 334 (by decide +kernel) rfl, gd_t 8 (by decide +kernel) rfl, gd_t 337 (by decide +kernel) rfl, by decide, by decide, by decide +kernel, by decide⟩, gd_t 335 (by decide +kernel) rfl, gd_t 336 (by decide +kernel) rfl, rfl⟩
theorem s_X5_46 : mSv RX5 46 RX5 yX5_headAbove cX5_headAbove 4 (some .int) 2 := ⟨⟨gd_t 338 (by decide +kernel) rfl, gd_t 8 (by decide +kernel) rfl, gd_t 341 (by decide +kernel) rfl, by decide, by decide, by decide +kernel, by decide⟩, gd_t 339 (by decide +kernel) rfl, gd_t 340 (by decide +kernel) rfl, rfl⟩
theorem s_X5_57 : mSv RX5 57 RX3 yX3_hasParent cX3_hasParent 2 (some .boolean) 1 := ⟨⟨gd_t 342 (by decide +kernel) rfl, gd_t 3 (by decide +kernel) rfl, gd_t 277 (by decide +kernel) rfl, by decide, by decide, by decide +kernel, by decide⟩, gd_t 275 (by decide +kernel) rfl, gd_t 276 (by decide +kernel) rfl, rfl⟩
theorem s_X5_53 : mSv RX5 53 RX5 yX5_countBranches cX5_countBranches 3 none 1 := ⟨⟨gd_t 343 (by decide +kernel) rfl, gd_t 8 (by decide +kernel) rfl, gd_t 346 (by decide +kernel) rfl, by decide, by decide, by decide +kernel, by decide⟩, gd_t 344 (by decide +kernel) rfl, gd_t 345 (by decide +kernel) rfl, rfl⟩
theorem s_L_155 : mSv RL 155 RX7 yX7_suspects cX7_suspects 1 (some .int) 0 := ⟨⟨gd_t 375 (by decide +kernel) rfl, gd_t 1 (by decide +kernel) rfl, gd_t 378 (by decide +kernel) rfl, by decide, by decide, by decide +kernel, by decide⟩, gd_t 376 (by decide +kernel) rfl, gd_t 377 (by decide +kernel) rfl, rfl⟩
theorem s_X7_192 : mSv RX7 192 RX5 yX5_suspectCount cX5_suspectCount 3 (some .int) 0 := ⟨⟨gd_t 379 (by decide +kernel) rfl, gd_t 8 (by decide +kernel) rfl, gd_t 382 (by decide +kernel) rfl, by decide, by decide, by decide +kernel, by decide⟩, gd_t 380 (by decide +kernel) rfl, gd_t 381 (by decide +kernel) rfl, rfl⟩
theorem s_X5_63 : mSv RX5 63 RX5 yX5_balanceAt cX5_balanceAt 2 (some .int) 1 := ⟨⟨gd_t 383 (by decide +kernel) rfl, gd_t 8 (by decide +kernel) rfl, gd_t 386 (by decide +kernel) rfl, by decide, by decide, by decide +kernel, by decide⟩, gd_t 384 (by decide +kernel) rfl, gd_t 385 (by decide +kernel) rfl, rfl⟩
theorem s_L_159 : mSv RL 159 RX7 yX7_metersToFind cX7_metersToFind 4 (some .int) 0 := ⟨⟨gd_t 387 (by decide +kernel) rfl, gd_t 1 (by decide +kernel) rfl, gd_t 390 (by decide +kernel) rfl, by decide, by decide, by decide +kernel, by decide⟩, gd_t 388 (by decide +kernel) rfl, gd_t 389 (by decide +kernel) rfl, rfl⟩
theorem s_X7_201 : mSv RX7 201 RX5 yX5_firstNextPlace cX5_firstNextPlace 3 (some .int) 0 := ⟨⟨gd_t 391 (by decide +kernel) rfl, gd_t 8 (by decide +kernel) rfl, gd_t 394 (by decide +kernel) rfl, by decide, by decide, by decide +kernel, by decide⟩, gd_t 392 (by decide +kernel) rfl, gd_t 393 (by decide +kernel) rfl, rfl⟩
theorem s_X5_72 : mSv RX5 72 RX5 yX5_nextPlace cX5_nextPlace 6 (some .int) 1 := ⟨⟨gd_t 395 (by decide +kernel) rfl, gd_t 8 (by decide +kernel) rfl, gd_t 398 (by decide +kernel) rfl, by decide, by decide, by decide +kernel, by decide⟩, gd_t 396 (by decide +kernel) rfl, gd_t 397 (by decide +kernel) rfl, rfl⟩
theorem s_X5_67 : mMath RX5 67 Lib.Math.abs.name Lib.Math.abs.code 1 := ⟨gd_t 399 (by decide +kernel) rfl, gd_t 400 (by decide +kernel) rfl, gd_t 9 (by decide +kernel) rfl, gd_t 401 (by decide +kernel) rfl⟩
theorem s_X7_204 : mSv RX7 204 RX5 yX5_giveMeter cX5_giveMeter 2 none 1 := ⟨⟨gd_t 402 (by decide +kernel) rfl, gd_t 8 (by decide +kernel) rfl, gd_t 405 (by decide +kernel) rfl, by decide, by decide, by decide +kernel, by decide⟩, gd_t 403 (by decide +kernel) rfl, gd_t 404 (by decide +kernel) rfl, rfl⟩
theorem s_L_166 : mSv RL 166 RX7 yX7_cheapestSupply cX7_cheapestSupply 3 (some .int) 0 := ⟨⟨gd_t 406 (by decide +kernel) rfl, gd_t 1 (by decide +kernel) rfl, gd_t 409 (by decide +kernel) rfl, by decide, by decide, by decide +kernel, by decide⟩, gd_t 407 (by decide +kernel) rfl, gd_t 408 (by decide +kernel) rfl, rfl⟩
theorem s_X7_207 : mSv RX7 207 RX7 yX7_lowestSupplyForWishes cX7_lowestSupplyForWishes 4 (some .int) 0 := ⟨⟨gd_t 410 (by decide +kernel) rfl, gd_t 1 (by decide +kernel) rfl, gd_t 413 (by decide +kernel) rfl, by decide, by decide, by decide +kernel, by decide⟩, gd_t 412 (by decide +kernel) rfl, gd_s 1 (by decide +kernel) rfl, rfl⟩
theorem s_X7_315 : mSv RX7 315 RX2 yX2_settleFlows cX2_settleFlows 3 none 1 := ⟨⟨gd_t 414 (by decide +kernel) rfl, gd_t 7 (by decide +kernel) rfl, gd_t 270 (by decide +kernel) rfl, by decide, by decide, by decide +kernel, by decide⟩, gd_t 268 (by decide +kernel) rfl, gd_t 269 (by decide +kernel) rfl, rfl⟩
theorem s_X7_318 : mSv RX7 318 RX7 yX7_grantsWishes cX7_grantsWishes 3 (some .boolean) 1 := ⟨⟨gd_t 415 (by decide +kernel) rfl, gd_t 1 (by decide +kernel) rfl, gd_t 418 (by decide +kernel) rfl, by decide, by decide, by decide +kernel, by decide⟩, gd_t 417 (by decide +kernel) rfl, gd_s 2 (by decide +kernel) rfl, rfl⟩
theorem s_X7_322 : mSv RX7 322 RX2 yX2_settleWarmth cX2_settleWarmth 6 none 2 := ⟨⟨gd_t 419 (by decide +kernel) rfl, gd_t 7 (by decide +kernel) rfl, gd_t 281 (by decide +kernel) rfl, by decide, by decide, by decide +kernel, by decide⟩, gd_t 279 (by decide +kernel) rfl, gd_t 280 (by decide +kernel) rfl, rfl⟩
theorem s_L_173 : mSv RL 173 RX7 yX7_efficiency cX7_efficiency 2 (some .double) 0 := ⟨⟨gd_t 420 (by decide +kernel) rfl, gd_t 1 (by decide +kernel) rfl, gd_t 423 (by decide +kernel) rfl, by decide, by decide, by decide +kernel, by decide⟩, gd_t 421 (by decide +kernel) rfl, gd_t 422 (by decide +kernel) rfl, rfl⟩
theorem s_X7_123 : mSv RX7 123 RX7 yX7_sumOfHeats cX7_sumOfHeats 4 (some .int) 1 := ⟨⟨gd_t 424 (by decide +kernel) rfl, gd_t 1 (by decide +kernel) rfl, gd_t 427 (by decide +kernel) rfl, by decide, by decide, by decide +kernel, by decide⟩, gd_t 426 (by decide +kernel) rfl, gd_s 3 (by decide +kernel) rfl, rfl⟩
theorem s_X7_116 : mSv RX7 116 RX7 yX7_heatOf cX7_heatOf 4 (some .int) 2 := ⟨⟨gd_t 428 (by decide +kernel) rfl, gd_t 1 (by decide +kernel) rfl, gd_t 431 (by decide +kernel) rfl, by decide, by decide, by decide +kernel, by decide⟩, gd_t 430 (by decide +kernel) rfl, gd_s 4 (by decide +kernel) rfl, rfl⟩
theorem s_X7_281 : mSv RX7 281 RX2 yX2_returnOf cX2_returnOf 3 (some .int) 2 := ⟨⟨gd_t 432 (by decide +kernel) rfl, gd_t 7 (by decide +kernel) rfl, gd_t 299 (by decide +kernel) rfl, by decide, by decide, by decide +kernel, by decide⟩, gd_t 297 (by decide +kernel) rfl, gd_t 298 (by decide +kernel) rfl, rfl⟩
theorem s_X7_291 : mSv RX7 291 RX2 yX2_warmthAbove cX2_warmthAbove 3 (some .int) 2 := ⟨⟨gd_t 433 (by decide +kernel) rfl, gd_t 7 (by decide +kernel) rfl, gd_t 285 (by decide +kernel) rfl, by decide, by decide, by decide +kernel, by decide⟩, gd_t 283 (by decide +kernel) rfl, gd_t 284 (by decide +kernel) rfl, rfl⟩
theorem s_X7_166 : mSv RX7 166 RX7 yX7_billOf cX7_billOf 3 (some .int) 1 := ⟨⟨gd_t 434 (by decide +kernel) rfl, gd_t 1 (by decide +kernel) rfl, gd_t 437 (by decide +kernel) rfl, by decide, by decide, by decide +kernel, by decide⟩, gd_t 436 (by decide +kernel) rfl, gd_s 5 (by decide +kernel) rfl, rfl⟩
theorem s_L_181 : mSv RL 181 RX7 yX7_clearText cX7_clearText 2 (some .int) 0 := ⟨⟨gd_t 438 (by decide +kernel) rfl, gd_t 1 (by decide +kernel) rfl, gd_t 441 (by decide +kernel) rfl, by decide, by decide, by decide +kernel, by decide⟩, gd_t 439 (by decide +kernel) rfl, gd_t 440 (by decide +kernel) rfl, rfl⟩
theorem s_L_185 : mSv RL 185 RX7 yX7_parse cX7_parse 2 (some .int) 0 := ⟨⟨gd_t 442 (by decide +kernel) rfl, gd_t 1 (by decide +kernel) rfl, gd_t 445 (by decide +kernel) rfl, by decide, by decide, by decide +kernel, by decide⟩, gd_t 443 (by decide +kernel) rfl, gd_t 444 (by decide +kernel) rfl, rfl⟩
theorem s_X7_227 : mSv RX7 227 RX4 yX4_readInto cX4_readInto 3 (some .int) 1 := ⟨⟨gd_t 446 (by decide +kernel) rfl, gd_t 6 (by decide +kernel) rfl, gd_t 449 (by decide +kernel) rfl, by decide, by decide, by decide +kernel, by decide⟩, gd_t 447 (by decide +kernel) rfl, gd_t 448 (by decide +kernel) rfl, rfl⟩
theorem s_X4_30 : mSv RX4 30 RX4 yX4_readNode cX4_readNode 8 none 2 := ⟨⟨gd_t 450 (by decide +kernel) rfl, gd_t 6 (by decide +kernel) rfl, gd_t 453 (by decide +kernel) rfl, by decide, by decide, by decide +kernel, by decide⟩, gd_t 451 (by decide +kernel) rfl, gd_t 452 (by decide +kernel) rfl, rfl⟩
theorem s_X4_34 : mSv RX4 34 RX4 yX4_readNumber cX4_readNumber 8 (some .int) 4 := ⟨⟨gd_t 454 (by decide +kernel) rfl, gd_t 6 (by decide +kernel) rfl, gd_t 457 (by decide +kernel) rfl, by decide, by decide, by decide +kernel, by decide⟩, gd_t 455 (by decide +kernel) rfl, gd_t 456 (by decide +kernel) rfl, rfl⟩
theorem s_X4_42 : mSs RX4 42 yX4_isDigit cX4_isDigit 1 (some .boolean) 1 := ⟨⟨gd_t 458 (by decide +kernel) rfl, gd_t 6 (by decide +kernel) rfl, gd_t 460 (by decide +kernel) rfl, by decide, by decide, by decide +kernel, by decide⟩, gd_t 459 (by decide +kernel) rfl⟩
theorem s_X4_38 : mSv RX4 38 RX3 yX3_attach cX3_attach 7 (some .int) 5 := ⟨⟨gd_t 461 (by decide +kernel) rfl, gd_t 3 (by decide +kernel) rfl, gd_t 464 (by decide +kernel) rfl, by decide, by decide, by decide +kernel, by decide⟩, gd_t 462 (by decide +kernel) rfl, gd_t 463 (by decide +kernel) rfl, rfl⟩
theorem s_X7_86 : mSv RX7 86 RX1 yX1_keep cX1_keep 3 none 1 := ⟨⟨gd_t 465 (by decide +kernel) rfl, gd_t 5 (by decide +kernel) rfl, gd_t 468 (by decide +kernel) rfl, by decide, by decide, by decide +kernel, by decide⟩, gd_t 466 (by decide +kernel) rfl, gd_t 467 (by decide +kernel) rfl, rfl⟩
theorem s_X1_25 : mSv RX1 25 RX1 yX1_slot cX1_slot 3 (some (.object "HeatBranches$State")) 1 := ⟨⟨gd_t 469 (by decide +kernel) rfl, gd_t 5 (by decide +kernel) rfl, gd_t 472 (by decide +kernel) rfl, by decide, by decide, by decide +kernel, by decide⟩, gd_t 470 (by decide +kernel) rfl, gd_t 471 (by decide +kernel) rfl, rfl⟩
theorem s_X1_29 : mSv RX1 29 RX6 yX6_copyFrom cX6_copyFrom 2 none 1 := ⟨⟨gd_t 473 (by decide +kernel) rfl, gd_t 2 (by decide +kernel) rfl, gd_t 476 (by decide +kernel) rfl, by decide, by decide, by decide +kernel, by decide⟩, gd_t 474 (by decide +kernel) rfl, gd_t 475 (by decide +kernel) rfl, rfl⟩
theorem s_X6_45 : mSv RX6 45 RX3 yX3_copyFrom cX3_copyFrom 2 none 1 := ⟨⟨gd_t 477 (by decide +kernel) rfl, gd_t 3 (by decide +kernel) rfl, gd_t 480 (by decide +kernel) rfl, by decide, by decide, by decide +kernel, by decide⟩, gd_t 478 (by decide +kernel) rfl, gd_t 479 (by decide +kernel) rfl, rfl⟩
theorem s_X6_49 : mSv RX6 49 RX0 yX0_copyFrom cX0_copyFrom 2 none 1 := ⟨⟨gd_t 482 (by decide +kernel) rfl, gd_t 4 (by decide +kernel) rfl, gd_t 485 (by decide +kernel) rfl, by decide, by decide, by decide +kernel, by decide⟩, gd_t 483 (by decide +kernel) rfl, gd_t 484 (by decide +kernel) rfl, rfl⟩
theorem s_X7_231 : mSv RX7 231 RX3 yX3_copyFrom cX3_copyFrom 2 none 1 := ⟨⟨gd_t 487 (by decide +kernel) rfl, gd_t 3 (by decide +kernel) rfl, gd_t 480 (by decide +kernel) rfl, by decide, by decide, by decide +kernel, by decide⟩, gd_t 478 (by decide +kernel) rfl, gd_t 479 (by decide +kernel) rfl, rfl⟩
theorem s_L_193 : mSv RL 193 RX7 yX7_digest cX7_digest 4 (some .long) 0 := ⟨⟨gd_t 488 (by decide +kernel) rfl, gd_t 1 (by decide +kernel) rfl, gd_t 491 (by decide +kernel) rfl, by decide, by decide, by decide +kernel, by decide⟩, gd_t 489 (by decide +kernel) rfl, gd_t 490 (by decide +kernel) rfl, rfl⟩
theorem s_X7_242 : mSs RX7 242 yX7_fold cX7_fold 4 (some .long) 2 := ⟨⟨gd_t 493 (by decide +kernel) rfl, gd_t 1 (by decide +kernel) rfl, gd_t 495 (by decide +kernel) rfl, by decide, by decide, by decide +kernel, by decide⟩, gd_t 494 (by decide +kernel) rfl⟩
theorem s_X7_119 : mSv RX7 119 RX7 yX7_number cX7_number 2 (some .int) 1 := ⟨⟨gd_t 497 (by decide +kernel) rfl, gd_t 1 (by decide +kernel) rfl, gd_t 500 (by decide +kernel) rfl, by decide, by decide, by decide +kernel, by decide⟩, gd_t 499 (by decide +kernel) rfl, gd_s 6 (by decide +kernel) rfl, rfl⟩
theorem s_X7_300 : mSv RX7 300 RX3 yX3_accounts cX3_accounts 3 (some .int) 0 := ⟨⟨gd_t 501 (by decide +kernel) rfl, gd_t 3 (by decide +kernel) rfl, gd_t 504 (by decide +kernel) rfl, by decide, by decide, by decide +kernel, by decide⟩, gd_t 502 (by decide +kernel) rfl, gd_t 503 (by decide +kernel) rfl, rfl⟩
theorem s_X7_176 : mSv RX7 176 RX3 yX3_meters cX3_meters 3 (some .int) 0 := ⟨⟨gd_t 505 (by decide +kernel) rfl, gd_t 3 (by decide +kernel) rfl, gd_t 508 (by decide +kernel) rfl, by decide, by decide, by decide +kernel, by decide⟩, gd_t 506 (by decide +kernel) rfl, gd_t 507 (by decide +kernel) rfl, rfl⟩
theorem s_X7_246 : mSv RX7 246 RX7 yX7_foldNodes cX7_foldNodes 7 (some .long) 1 := ⟨⟨gd_t 509 (by decide +kernel) rfl, gd_t 1 (by decide +kernel) rfl, gd_t 512 (by decide +kernel) rfl, by decide, by decide, by decide +kernel, by decide⟩, gd_t 511 (by decide +kernel) rfl, gd_s 7 (by decide +kernel) rfl, rfl⟩
theorem s_X7_112 : mSv RX7 112 RX7 yX7_nodeFact cX7_nodeFact 4 (some .int) 2 := ⟨⟨gd_t 513 (by decide +kernel) rfl, gd_t 1 (by decide +kernel) rfl, gd_t 516 (by decide +kernel) rfl, by decide, by decide, by decide +kernel, by decide⟩, gd_t 515 (by decide +kernel) rfl, gd_s 8 (by decide +kernel) rfl, rfl⟩
theorem s_X7_285 : mSv RX7 285 RX3 yX3_childrenOf cX3_childrenOf 4 (some .int) 1 := ⟨⟨gd_t 517 (by decide +kernel) rfl, gd_t 3 (by decide +kernel) rfl, gd_t 520 (by decide +kernel) rfl, by decide, by decide, by decide +kernel, by decide⟩, gd_t 518 (by decide +kernel) rfl, gd_t 519 (by decide +kernel) rfl, rfl⟩
theorem s_X7_288 : mSv RX7 288 RX3 yX3_branchOf cX3_branchOf 4 (some .int) 1 := ⟨⟨gd_t 521 (by decide +kernel) rfl, gd_t 3 (by decide +kernel) rfl, gd_t 524 (by decide +kernel) rfl, by decide, by decide, by decide +kernel, by decide⟩, gd_t 522 (by decide +kernel) rfl, gd_t 523 (by decide +kernel) rfl, rfl⟩
theorem s_X3_44 : mSv RX3 44 RX3 yX3_hasParent cX3_hasParent 2 (some .boolean) 1 := ⟨⟨gd_t 525 (by decide +kernel) rfl, gd_t 3 (by decide +kernel) rfl, gd_t 277 (by decide +kernel) rfl, by decide, by decide, by decide +kernel, by decide⟩, gd_t 275 (by decide +kernel) rfl, gd_t 276 (by decide +kernel) rfl, rfl⟩
theorem s_X7_180 : mSv RX7 180 RX5 yX5_balanceAt cX5_balanceAt 2 (some .int) 1 := ⟨⟨gd_t 532 (by decide +kernel) rfl, gd_t 8 (by decide +kernel) rfl, gd_t 386 (by decide +kernel) rfl, by decide, by decide, by decide +kernel, by decide⟩, gd_t 384 (by decide +kernel) rfl, gd_t 385 (by decide +kernel) rfl, rfl⟩
theorem s_X7_183 : mSv RX7 183 RX5 yX5_sizeAt cX5_sizeAt 2 (some .int) 1 := ⟨⟨gd_t 533 (by decide +kernel) rfl, gd_t 8 (by decide +kernel) rfl, gd_t 536 (by decide +kernel) rfl, by decide, by decide, by decide +kernel, by decide⟩, gd_t 534 (by decide +kernel) rfl, gd_t 535 (by decide +kernel) rfl, rfl⟩
theorem s_X7_189 : mSv RX7 189 RX5 yX5_nextPlace cX5_nextPlace 6 (some .int) 1 := ⟨⟨gd_t 537 (by decide +kernel) rfl, gd_t 8 (by decide +kernel) rfl, gd_t 398 (by decide +kernel) rfl, by decide, by decide, by decide +kernel, by decide⟩, gd_t 396 (by decide +kernel) rfl, gd_t 397 (by decide +kernel) rfl, rfl⟩
theorem s_X7_250 : mSv RX7 250 RX7 yX7_foldHeats cX7_foldHeats 7 (some .long) 1 := ⟨⟨gd_t 538 (by decide +kernel) rfl, gd_t 1 (by decide +kernel) rfl, gd_t 541 (by decide +kernel) rfl, by decide, by decide, by decide +kernel, by decide⟩, gd_t 540 (by decide +kernel) rfl, gd_s 9 (by decide +kernel) rfl, rfl⟩
theorem s_X7_253 : mSv RX7 253 RX7 yX7_foldBoilers cX7_foldBoilers 7 (some .long) 1 := ⟨⟨gd_t 542 (by decide +kernel) rfl, gd_t 1 (by decide +kernel) rfl, gd_t 545 (by decide +kernel) rfl, by decide, by decide, by decide +kernel, by decide⟩, gd_t 544 (by decide +kernel) rfl, gd_s 10 (by decide +kernel) rfl, rfl⟩
theorem s_X7_146 : mSv RX7 146 RX7 yX7_boilerFact cX7_boilerFact 4 (some .int) 2 := ⟨⟨gd_t 546 (by decide +kernel) rfl, gd_t 1 (by decide +kernel) rfl, gd_t 549 (by decide +kernel) rfl, by decide, by decide, by decide +kernel, by decide⟩, gd_t 548 (by decide +kernel) rfl, gd_s 11 (by decide +kernel) rfl, rfl⟩
theorem s_X7_312 : mSv RX7 312 RX0 yX0_placeOf cX0_placeOf 4 (some .int) 1 := ⟨⟨gd_t 550 (by decide +kernel) rfl, gd_t 4 (by decide +kernel) rfl, gd_t 314 (by decide +kernel) rfl, by decide, by decide, by decide +kernel, by decide⟩, gd_t 312 (by decide +kernel) rfl, gd_t 313 (by decide +kernel) rfl, rfl⟩
theorem s_L_7 : mSv RL 7 RX7 yX7_addNode cX7_addNode 7 (some .int) 5 := ⟨⟨gd_t 557 (by decide +kernel) rfl, gd_t 1 (by decide +kernel) rfl, gd_t 560 (by decide +kernel) rfl, by decide, by decide, by decide +kernel, by decide⟩, gd_t 558 (by decide +kernel) rfl, gd_t 559 (by decide +kernel) rfl, rfl⟩
theorem s_X7_64 : mSv RX7 64 RX7 yX7_requireNode cX7_requireNode 2 none 1 := ⟨⟨gd_t 561 (by decide +kernel) rfl, gd_t 1 (by decide +kernel) rfl, gd_t 564 (by decide +kernel) rfl, by decide, by decide, by decide +kernel, by decide⟩, gd_t 563 (by decide +kernel) rfl, gd_s 12 (by decide +kernel) rfl, rfl⟩
theorem s_X7_68 : mSs RX7 68 yX7_requireWithin cX7_requireWithin 3 none 3 := ⟨⟨gd_t 633 (by decide +kernel) rfl, gd_t 1 (by decide +kernel) rfl, gd_t 635 (by decide +kernel) rfl, by decide, by decide, by decide +kernel, by decide⟩, gd_t 634 (by decide +kernel) rfl⟩
theorem s_X7_90 : mSv RX7 90 RX3 yX3_attach cX3_attach 7 (some .int) 5 := ⟨⟨gd_t 668 (by decide +kernel) rfl, gd_t 3 (by decide +kernel) rfl, gd_t 464 (by decide +kernel) rfl, by decide, by decide, by decide +kernel, by decide⟩, gd_t 462 (by decide +kernel) rfl, gd_t 463 (by decide +kernel) rfl, rfl⟩
theorem s_L_19 : mSv RL 19 RX7 yX7_setDraw cX7_setDraw 5 (some .int) 3 := ⟨⟨gd_t 672 (by decide +kernel) rfl, gd_t 1 (by decide +kernel) rfl, gd_t 675 (by decide +kernel) rfl, by decide, by decide, by decide +kernel, by decide⟩, gd_t 673 (by decide +kernel) rfl, gd_t 674 (by decide +kernel) rfl, rfl⟩
theorem s_X7_94 : mSv RX7 94 RX7 yX7_requirePipe cX7_requirePipe 2 none 1 := ⟨⟨gd_t 676 (by decide +kernel) rfl, gd_t 1 (by decide +kernel) rfl, gd_t 679 (by decide +kernel) rfl, by decide, by decide, by decide +kernel, by decide⟩, gd_t 678 (by decide +kernel) rfl, gd_s 14 (by decide +kernel) rfl, rfl⟩
theorem s_L_23 : mSv RL 23 RX7 yX7_setLeak cX7_setLeak 4 (some .int) 2 := ⟨⟨gd_t 684 (by decide +kernel) rfl, gd_t 1 (by decide +kernel) rfl, gd_t 687 (by decide +kernel) rfl, by decide, by decide, by decide +kernel, by decide⟩, gd_t 685 (by decide +kernel) rfl, gd_t 686 (by decide +kernel) rfl, rfl⟩
theorem s_L_27 : mSv RL 27 RX7 yX7_setTemperatures cX7_setTemperatures 4 (some .int) 2 := ⟨⟨gd_t 691 (by decide +kernel) rfl, gd_t 1 (by decide +kernel) rfl, gd_t 694 (by decide +kernel) rfl, by decide, by decide, by decide +kernel, by decide⟩, gd_t 692 (by decide +kernel) rfl, gd_t 693 (by decide +kernel) rfl, rfl⟩
theorem s_L_30 : mSv RL 30 RX7 yX7_node cX7_node 3 (some .int) 2 := ⟨⟨gd_t 698 (by decide +kernel) rfl, gd_t 1 (by decide +kernel) rfl, gd_t 701 (by decide +kernel) rfl, by decide, by decide, by decide +kernel, by decide⟩, gd_t 699 (by decide +kernel) rfl, gd_t 700 (by decide +kernel) rfl, rfl⟩
theorem s_L_33 : mSv RL 33 RX7 yX7_heat cX7_heat 3 (some .int) 2 := ⟨⟨gd_t 705 (by decide +kernel) rfl, gd_t 1 (by decide +kernel) rfl, gd_t 708 (by decide +kernel) rfl, by decide, by decide, by decide +kernel, by decide⟩, gd_t 706 (by decide +kernel) rfl, gd_t 707 (by decide +kernel) rfl, rfl⟩
theorem s_L_36 : mSv RL 36 RX7 yX7_value cX7_value 2 (some .int) 1 := ⟨⟨gd_t 712 (by decide +kernel) rfl, gd_t 1 (by decide +kernel) rfl, gd_t 715 (by decide +kernel) rfl, by decide, by decide, by decide +kernel, by decide⟩, gd_t 713 (by decide +kernel) rfl, gd_t 714 (by decide +kernel) rfl, rfl⟩
theorem s_L_40 : mSv RL 40 RX7 yX7_sum cX7_sum 2 (some .int) 1 := ⟨⟨gd_t 719 (by decide +kernel) rfl, gd_t 1 (by decide +kernel) rfl, gd_t 722 (by decide +kernel) rfl, by decide, by decide, by decide +kernel, by decide⟩, gd_t 720 (by decide +kernel) rfl, gd_t 721 (by decide +kernel) rfl, rfl⟩
theorem s_L_43 : mSv RL 43 RX7 yX7_addBoiler cX7_addBoiler 5 (some .int) 3 := ⟨⟨gd_t 726 (by decide +kernel) rfl, gd_t 1 (by decide +kernel) rfl, gd_t 729 (by decide +kernel) rfl, by decide, by decide, by decide +kernel, by decide⟩, gd_t 727 (by decide +kernel) rfl, gd_t 728 (by decide +kernel) rfl, rfl⟩
theorem s_X7_136 : mSv RX7 136 RX0 yX0_install cX0_install 5 (some .int) 3 := ⟨⟨gd_t 732 (by decide +kernel) rfl, gd_t 4 (by decide +kernel) rfl, gd_t 735 (by decide +kernel) rfl, by decide, by decide, by decide +kernel, by decide⟩, gd_t 733 (by decide +kernel) rfl, gd_t 734 (by decide +kernel) rfl, rfl⟩
theorem s_L_46 : mSv RL 46 RX7 yX7_setCost cX7_setCost 4 (some .int) 2 := ⟨⟨gd_t 739 (by decide +kernel) rfl, gd_t 1 (by decide +kernel) rfl, gd_t 742 (by decide +kernel) rfl, by decide, by decide, by decide +kernel, by decide⟩, gd_t 740 (by decide +kernel) rfl, gd_t 741 (by decide +kernel) rfl, rfl⟩
theorem s_X7_140 : mSv RX7 140 RX7 yX7_requireBoiler cX7_requireBoiler 2 none 1 := ⟨⟨gd_t 743 (by decide +kernel) rfl, gd_t 1 (by decide +kernel) rfl, gd_t 746 (by decide +kernel) rfl, by decide, by decide, by decide +kernel, by decide⟩, gd_t 745 (by decide +kernel) rfl, gd_s 15 (by decide +kernel) rfl, rfl⟩
theorem s_L_49 : mSv RL 49 RX7 yX7_boiler cX7_boiler 3 (some .int) 2 := ⟨⟨gd_t 751 (by decide +kernel) rfl, gd_t 1 (by decide +kernel) rfl, gd_t 754 (by decide +kernel) rfl, by decide, by decide, by decide +kernel, by decide⟩, gd_t 752 (by decide +kernel) rfl, gd_t 753 (by decide +kernel) rfl, rfl⟩
theorem s_L_52 : mSv RL 52 RX7 yX7_setTariff cX7_setTariff 5 (some .int) 3 := ⟨⟨gd_t 758 (by decide +kernel) rfl, gd_t 1 (by decide +kernel) rfl, gd_t 761 (by decide +kernel) rfl, by decide, by decide, by decide +kernel, by decide⟩, gd_t 759 (by decide +kernel) rfl, gd_t 760 (by decide +kernel) rfl, rfl⟩
theorem s_L_55 : mSv RL 55 RX7 yX7_pass cX7_pass 3 (some .int) 1 := ⟨⟨gd_t 765 (by decide +kernel) rfl, gd_t 1 (by decide +kernel) rfl, gd_t 768 (by decide +kernel) rfl, by decide, by decide, by decide +kernel, by decide⟩, gd_t 766 (by decide +kernel) rfl, gd_t 767 (by decide +kernel) rfl, rfl⟩
theorem s_L_58 : mSv RL 58 RX7 yX7_setMeter cX7_setMeter 3 (some .int) 2 := ⟨⟨gd_t 773 (by decide +kernel) rfl, gd_t 1 (by decide +kernel) rfl, gd_t 776 (by decide +kernel) rfl, by decide, by decide, by decide +kernel, by decide⟩, gd_t 774 (by decide +kernel) rfl, gd_t 775 (by decide +kernel) rfl, rfl⟩
theorem s_L_62 : mSv RL 62 RX7 yX7_balance cX7_balance 2 (some .int) 1 := ⟨⟨gd_t 780 (by decide +kernel) rfl, gd_t 1 (by decide +kernel) rfl, gd_t 783 (by decide +kernel) rfl, by decide, by decide, by decide +kernel, by decide⟩, gd_t 781 (by decide +kernel) rfl, gd_t 782 (by decide +kernel) rfl, rfl⟩
theorem s_L_65 : mSv RL 65 RX7 yX7_region cX7_region 2 (some .int) 1 := ⟨⟨gd_t 787 (by decide +kernel) rfl, gd_t 1 (by decide +kernel) rfl, gd_t 790 (by decide +kernel) rfl, by decide, by decide, by decide +kernel, by decide⟩, gd_t 788 (by decide +kernel) rfl, gd_t 789 (by decide +kernel) rfl, rfl⟩
theorem s_L_68 : mSv RL 68 RX7 yX7_meterOf cX7_meterOf 2 (some .int) 1 := ⟨⟨gd_t 794 (by decide +kernel) rfl, gd_t 1 (by decide +kernel) rfl, gd_t 797 (by decide +kernel) rfl, by decide, by decide, by decide +kernel, by decide⟩, gd_t 795 (by decide +kernel) rfl, gd_t 796 (by decide +kernel) rfl, rfl⟩
theorem s_L_71 : mSv RL 71 RX7 yX7_nextMeter cX7_nextMeter 2 (some .int) 1 := ⟨⟨gd_t 801 (by decide +kernel) rfl, gd_t 1 (by decide +kernel) rfl, gd_t 804 (by decide +kernel) rfl, by decide, by decide, by decide +kernel, by decide⟩, gd_t 802 (by decide +kernel) rfl, gd_t 803 (by decide +kernel) rfl, rfl⟩
theorem s_L_74 : mSv RL 74 RX7 yX7_supplyFor cX7_supplyFor 4 (some .int) 2 := ⟨⟨gd_t 808 (by decide +kernel) rfl, gd_t 1 (by decide +kernel) rfl, gd_t 811 (by decide +kernel) rfl, by decide, by decide, by decide +kernel, by decide⟩, gd_t 809 (by decide +kernel) rfl, gd_t 810 (by decide +kernel) rfl, rfl⟩
theorem s_L_77 : mSv RL 77 RX7 yX7_saves cX7_saves 3 (some .int) 1 := ⟨⟨gd_t 815 (by decide +kernel) rfl, gd_t 1 (by decide +kernel) rfl, gd_t 818 (by decide +kernel) rfl, by decide, by decide, by decide +kernel, by decide⟩, gd_t 816 (by decide +kernel) rfl, gd_t 817 (by decide +kernel) rfl, rfl⟩
theorem s_L_80 : mSv RL 80 RX7 yX7_append cX7_append 2 (some .int) 1 := ⟨⟨gd_t 822 (by decide +kernel) rfl, gd_t 1 (by decide +kernel) rfl, gd_t 825 (by decide +kernel) rfl, by decide, by decide, by decide +kernel, by decide⟩, gd_t 823 (by decide +kernel) rfl, gd_t 824 (by decide +kernel) rfl, rfl⟩
theorem s_X7_224 : mSv RX7 224 RX4 yX4_put cX4_put 2 none 1 := ⟨⟨gd_t 827 (by decide +kernel) rfl, gd_t 6 (by decide +kernel) rfl, gd_t 830 (by decide +kernel) rfl, by decide, by decide, by decide +kernel, by decide⟩, gd_t 828 (by decide +kernel) rfl, gd_t 829 (by decide +kernel) rfl, rfl⟩
theorem s_L_83 : mSv RL 83 RX7 yX7_undo cX7_undo 1 (some .int) 0 := ⟨⟨gd_t 834 (by decide +kernel) rfl, gd_t 1 (by decide +kernel) rfl, gd_t 837 (by decide +kernel) rfl, by decide, by decide, by decide +kernel, by decide⟩, gd_t 835 (by decide +kernel) rfl, gd_t 836 (by decide +kernel) rfl, rfl⟩
theorem s_X7_237 : mSv RX7 237 RX1 yX1_bringBack cX1_bringBack 3 none 1 := ⟨⟨gd_t 839 (by decide +kernel) rfl, gd_t 5 (by decide +kernel) rfl, gd_t 842 (by decide +kernel) rfl, by decide, by decide, by decide +kernel, by decide⟩, gd_t 840 (by decide +kernel) rfl, gd_t 841 (by decide +kernel) rfl, rfl⟩
theorem s_L_97 : mSv RL 97 RX8 yX8_thrown cX8_thrown 1 (some .int) 0 := ⟨⟨gd_t 898 (by decide +kernel) rfl, gd_t 11 (by decide +kernel) rfl, gd_t 901 (by decide +kernel) rfl, by decide, by decide, by decide +kernel, by decide⟩, gd_t 899 (by decide +kernel) rfl, gd_t 900 (by decide +kernel) rfl, rfl⟩
theorem s_L_96 : mSv RL 96 RX8 yX8_addNode cX8_addNode 6 (some .int) 5 := ⟨⟨gd_t 902 (by decide +kernel) rfl, gd_t 11 (by decide +kernel) rfl, gd_t 905 (by decide +kernel) rfl, by decide, by decide, by decide +kernel, by decide⟩, gd_t 903 (by decide +kernel) rfl, gd_t 904 (by decide +kernel) rfl, rfl⟩
theorem s_X8_91 : mSv RX8 91 RX8 yX8_isNode cX8_isNode 2 (some .boolean) 1 := ⟨⟨gd_t 906 (by decide +kernel) rfl, gd_t 11 (by decide +kernel) rfl, gd_t 909 (by decide +kernel) rfl, by decide, by decide, by decide +kernel, by decide⟩, gd_t 908 (by decide +kernel) rfl, gd_s 16 (by decide +kernel) rfl, rfl⟩
theorem s_X8_95 : mSv RX8 95 RX8 yX8_fails cX8_fails 2 (some .int) 1 := ⟨⟨gd_t 910 (by decide +kernel) rfl, gd_t 11 (by decide +kernel) rfl, gd_t 913 (by decide +kernel) rfl, by decide, by decide, by decide +kernel, by decide⟩, gd_t 912 (by decide +kernel) rfl, gd_s 17 (by decide +kernel) rfl, rfl⟩
theorem s_X8_98 : mSs RX8 98 yX8_isPipe_ cX8_isPipe_ 2 (some .boolean) 2 := ⟨⟨gd_t 914 (by decide +kernel) rfl, gd_t 11 (by decide +kernel) rfl, gd_t 916 (by decide +kernel) rfl, by decide, by decide, by decide +kernel, by decide⟩, gd_t 915 (by decide +kernel) rfl⟩
theorem s_X8_83 : mSs RX8 83 yX8_in cX8_in 3 (some .boolean) 3 := ⟨⟨gd_t 917 (by decide +kernel) rfl, gd_t 11 (by decide +kernel) rfl, gd_t 919 (by decide +kernel) rfl, by decide, by decide, by decide +kernel, by decide⟩, gd_t 918 (by decide +kernel) rfl⟩
theorem s_X8_102 : mSs RX8 102 yX8_isCustomer cX8_isCustomer 2 (some .boolean) 2 := ⟨⟨gd_t 920 (by decide +kernel) rfl, gd_t 11 (by decide +kernel) rfl, gd_t 922 (by decide +kernel) rfl, by decide, by decide, by decide +kernel, by decide⟩, gd_t 921 (by decide +kernel) rfl⟩
theorem s_X8_105 : mSv RX8 105 RX8 yX8_hold cX8_hold 2 none 0 := ⟨⟨gd_t 923 (by decide +kernel) rfl, gd_t 11 (by decide +kernel) rfl, gd_t 926 (by decide +kernel) rfl, by decide, by decide, by decide +kernel, by decide⟩, gd_t 925 (by decide +kernel) rfl, gd_s 18 (by decide +kernel) rfl, rfl⟩
theorem s_X8_108 : mSv RX8 108 RX8 yX8_adds cX8_adds 7 none 5 := ⟨⟨gd_t 927 (by decide +kernel) rfl, gd_t 11 (by decide +kernel) rfl, gd_t 930 (by decide +kernel) rfl, by decide, by decide, by decide +kernel, by decide⟩, gd_t 929 (by decide +kernel) rfl, gd_s 19 (by decide +kernel) rfl, rfl⟩
theorem s_X8_87 : mSv RX8 87 RX8 yX8_puts cX8_puts 4 none 3 := ⟨⟨gd_t 931 (by decide +kernel) rfl, gd_t 11 (by decide +kernel) rfl, gd_t 934 (by decide +kernel) rfl, by decide, by decide, by decide +kernel, by decide⟩, gd_t 933 (by decide +kernel) rfl, gd_s 20 (by decide +kernel) rfl, rfl⟩
theorem s_X8_112 : mSv RX8 112 RX8 yX8_ends cX8_ends 3 (some .int) 1 := ⟨⟨gd_t 935 (by decide +kernel) rfl, gd_t 11 (by decide +kernel) rfl, gd_t 938 (by decide +kernel) rfl, by decide, by decide, by decide +kernel, by decide⟩, gd_t 937 (by decide +kernel) rfl, gd_s 21 (by decide +kernel) rfl, rfl⟩
theorem s_X8_44 : mSv RX8 44 RX8 yX8_tells cX8_tells 2 (some .int) 1 := ⟨⟨gd_t 939 (by decide +kernel) rfl, gd_t 11 (by decide +kernel) rfl, gd_t 942 (by decide +kernel) rfl, by decide, by decide, by decide +kernel, by decide⟩, gd_t 941 (by decide +kernel) rfl, gd_s 22 (by decide +kernel) rfl, rfl⟩
theorem s_L_103 : mSv RL 103 RX8 yX8_setDraw cX8_setDraw 5 (some .int) 3 := ⟨⟨gd_t 943 (by decide +kernel) rfl, gd_t 11 (by decide +kernel) rfl, gd_t 946 (by decide +kernel) rfl, by decide, by decide, by decide +kernel, by decide⟩, gd_t 944 (by decide +kernel) rfl, gd_t 945 (by decide +kernel) rfl, rfl⟩
theorem s_X8_115 : mSv RX8 115 RX8 yX8_isPipe cX8_isPipe 2 (some .boolean) 1 := ⟨⟨gd_t 947 (by decide +kernel) rfl, gd_t 11 (by decide +kernel) rfl, gd_t 950 (by decide +kernel) rfl, by decide, by decide, by decide +kernel, by decide⟩, gd_t 949 (by decide +kernel) rfl, gd_s 23 (by decide +kernel) rfl, rfl⟩
theorem s_X8_48 : mSv RX8 48 RX8 yX8_of cX8_of 3 (some .int) 2 := ⟨⟨gd_t 951 (by decide +kernel) rfl, gd_t 11 (by decide +kernel) rfl, gd_t 954 (by decide +kernel) rfl, by decide, by decide, by decide +kernel, by decide⟩, gd_t 953 (by decide +kernel) rfl, gd_s 24 (by decide +kernel) rfl, rfl⟩
theorem s_L_107 : mSv RL 107 RX8 yX8_setLeak cX8_setLeak 4 (some .int) 2 := ⟨⟨gd_t 955 (by decide +kernel) rfl, gd_t 11 (by decide +kernel) rfl, gd_t 958 (by decide +kernel) rfl, by decide, by decide, by decide +kernel, by decide⟩, gd_t 956 (by decide +kernel) rfl, gd_t 957 (by decide +kernel) rfl, rfl⟩
theorem s_L_110 : mSv RL 110 RX8 yX8_setTemperatures cX8_setTemperatures 4 (some .int) 2 := ⟨⟨gd_t 959 (by decide +kernel) rfl, gd_t 11 (by decide +kernel) rfl, gd_t 962 (by decide +kernel) rfl, by decide, by decide, by decide +kernel, by decide⟩, gd_t 960 (by decide +kernel) rfl, gd_t 961 (by decide +kernel) rfl, rfl⟩
theorem s_L_113 : mSv RL 113 RX8 yX8_node cX8_node 3 (some .int) 2 := ⟨⟨gd_t 963 (by decide +kernel) rfl, gd_t 11 (by decide +kernel) rfl, gd_t 966 (by decide +kernel) rfl, by decide, by decide, by decide +kernel, by decide⟩, gd_t 964 (by decide +kernel) rfl, gd_t 965 (by decide +kernel) rfl, rfl⟩
theorem s_X8_126 : mSv RX8 126 RX8 yX8_works cX8_works 3 none 0 := ⟨⟨gd_t 967 (by decide +kernel) rfl, gd_t 11 (by decide +kernel) rfl, gd_t 970 (by decide +kernel) rfl, by decide, by decide, by decide +kernel, by decide⟩, gd_t 969 (by decide +kernel) rfl, gd_s 25 (by decide +kernel) rfl, rfl⟩
theorem s_X8_55 : mSv RX8 55 RX8 yX8_warmth cX8_warmth 5 (some .int) 1 := ⟨⟨gd_t 971 (by decide +kernel) rfl, gd_t 11 (by decide +kernel) rfl, gd_t 974 (by decide +kernel) rfl, by decide, by decide, by decide +kernel, by decide⟩, gd_t 973 (by decide +kernel) rfl, gd_s 26 (by decide +kernel) rfl, rfl⟩
theorem s_X8_52 : mSs RX8 52 yX8_less cX8_less 2 (some .int) 2 := ⟨⟨gd_t 975 (by decide +kernel) rfl, gd_t 11 (by decide +kernel) rfl, gd_t 977 (by decide +kernel) rfl, by decide, by decide, by decide +kernel, by decide⟩, gd_t 976 (by decide +kernel) rfl⟩
theorem s_X8_129 : mSv RX8 129 RX8 yX8_nodeOf cX8_nodeOf 3 (some .int) 2 := ⟨⟨gd_t 978 (by decide +kernel) rfl, gd_t 11 (by decide +kernel) rfl, gd_t 981 (by decide +kernel) rfl, by decide, by decide, by decide +kernel, by decide⟩, gd_t 980 (by decide +kernel) rfl, gd_s 27 (by decide +kernel) rfl, rfl⟩
theorem s_X8_120 : mSv RX8 120 RX8 yX8_childMany cX8_childMany 4 (some .int) 1 := ⟨⟨gd_t 982 (by decide +kernel) rfl, gd_t 11 (by decide +kernel) rfl, gd_t 985 (by decide +kernel) rfl, by decide, by decide, by decide +kernel, by decide⟩, gd_t 984 (by decide +kernel) rfl, gd_s 28 (by decide +kernel) rfl, rfl⟩
theorem s_X8_123 : mSv RX8 123 RX8 yX8_branchMany cX8_branchMany 4 (some .int) 1 := ⟨⟨gd_t 986 (by decide +kernel) rfl, gd_t 11 (by decide +kernel) rfl, gd_t 989 (by decide +kernel) rfl, by decide, by decide, by decide +kernel, by decide⟩, gd_t 988 (by decide +kernel) rfl, gd_s 29 (by decide +kernel) rfl, rfl⟩
theorem s_X8_117 : mSv RX8 117 RX8 yX8_isBelow cX8_isBelow 4 (some .boolean) 2 := ⟨⟨gd_t 990 (by decide +kernel) rfl, gd_t 11 (by decide +kernel) rfl, gd_t 993 (by decide +kernel) rfl, by decide, by decide, by decide +kernel, by decide⟩, gd_t 992 (by decide +kernel) rfl, gd_s 30 (by decide +kernel) rfl, rfl⟩
theorem s_L_116 : mSv RL 116 RX8 yX8_heat cX8_heat 3 (some .int) 2 := ⟨⟨gd_t 994 (by decide +kernel) rfl, gd_t 11 (by decide +kernel) rfl, gd_t 997 (by decide +kernel) rfl, by decide, by decide, by decide +kernel, by decide⟩, gd_t 995 (by decide +kernel) rfl, gd_t 996 (by decide +kernel) rfl, rfl⟩
theorem s_X8_64 : mSv RX8 64 RX8 yX8_heatOf cX8_heatOf 4 (some .int) 2 := ⟨⟨gd_t 998 (by decide +kernel) rfl, gd_t 11 (by decide +kernel) rfl, gd_t 1001 (by decide +kernel) rfl, by decide, by decide, by decide +kernel, by decide⟩, gd_t 1000 (by decide +kernel) rfl, gd_s 31 (by decide +kernel) rfl, rfl⟩
theorem s_X8_58 : mSv RX8 58 RX8 yX8_delivered cX8_delivered 2 (some .int) 1 := ⟨⟨gd_t 1002 (by decide +kernel) rfl, gd_t 11 (by decide +kernel) rfl, gd_t 1005 (by decide +kernel) rfl, by decide, by decide, by decide +kernel, by decide⟩, gd_t 1004 (by decide +kernel) rfl, gd_s 32 (by decide +kernel) rfl, rfl⟩
theorem s_X8_61 : mSv RX8 61 RX8 yX8_billOf cX8_billOf 2 (some .int) 1 := ⟨⟨gd_t 1006 (by decide +kernel) rfl, gd_t 11 (by decide +kernel) rfl, gd_t 1009 (by decide +kernel) rfl, by decide, by decide, by decide +kernel, by decide⟩, gd_t 1008 (by decide +kernel) rfl, gd_s 33 (by decide +kernel) rfl, rfl⟩
theorem s_L_120 : mSv RL 120 RX8 yX8_value cX8_value 2 (some .int) 1 := ⟨⟨gd_t 1010 (by decide +kernel) rfl, gd_t 11 (by decide +kernel) rfl, gd_t 1013 (by decide +kernel) rfl, by decide, by decide, by decide +kernel, by decide⟩, gd_t 1011 (by decide +kernel) rfl, gd_t 1012 (by decide +kernel) rfl, rfl⟩
theorem s_X8_141 : mSv RX8 141 RX8 yX8_valueOf cX8_valueOf 3 (some .int) 1 := ⟨⟨gd_t 1014 (by decide +kernel) rfl, gd_t 11 (by decide +kernel) rfl, gd_t 1017 (by decide +kernel) rfl, by decide, by decide, by decide +kernel, by decide⟩, gd_t 1016 (by decide +kernel) rfl, gd_s 34 (by decide +kernel) rfl, rfl⟩
theorem s_X8_132 : mSv RX8 132 RX8 yX8_costs cX8_costs 6 (some .int) 0 := ⟨⟨gd_t 1018 (by decide +kernel) rfl, gd_t 11 (by decide +kernel) rfl, gd_t 1021 (by decide +kernel) rfl, by decide, by decide, by decide +kernel, by decide⟩, gd_t 1020 (by decide +kernel) rfl, gd_s 35 (by decide +kernel) rfl, rfl⟩
theorem s_X8_73 : mSv RX8 73 RX8 yX8_need cX8_need 2 (some .int) 0 := ⟨⟨gd_t 1022 (by decide +kernel) rfl, gd_t 11 (by decide +kernel) rfl, gd_t 1025 (by decide +kernel) rfl, by decide, by decide, by decide +kernel, by decide⟩, gd_t 1024 (by decide +kernel) rfl, gd_s 36 (by decide +kernel) rfl, rfl⟩
theorem s_X8_77 : mSv RX8 77 RX8 yX8_boilerAt cX8_boilerAt 3 (some .int) 1 := ⟨⟨gd_t 1026 (by decide +kernel) rfl, gd_t 11 (by decide +kernel) rfl, gd_t 1029 (by decide +kernel) rfl, by decide, by decide, by decide +kernel, by decide⟩, gd_t 1028 (by decide +kernel) rfl, gd_s 37 (by decide +kernel) rfl, rfl⟩
theorem s_X8_70 : mSv RX8 70 RX8 yX8_placeOf cX8_placeOf 4 (some .int) 1 := ⟨⟨gd_t 1030 (by decide +kernel) rfl, gd_t 11 (by decide +kernel) rfl, gd_t 1033 (by decide +kernel) rfl, by decide, by decide, by decide +kernel, by decide⟩, gd_t 1032 (by decide +kernel) rfl, gd_s 38 (by decide +kernel) rfl, rfl⟩
theorem s_X8_67 : mSv RX8 67 RX8 yX8_ofBoiler cX8_ofBoiler 3 (some .int) 2 := ⟨⟨gd_t 1034 (by decide +kernel) rfl, gd_t 11 (by decide +kernel) rfl, gd_t 1037 (by decide +kernel) rfl, by decide, by decide, by decide +kernel, by decide⟩, gd_t 1036 (by decide +kernel) rfl, gd_s 39 (by decide +kernel) rfl, rfl⟩
theorem s_X8_135 : mSv RX8 135 RX8 yX8_accounts cX8_accounts 3 (some .int) 0 := ⟨⟨gd_t 1038 (by decide +kernel) rfl, gd_t 11 (by decide +kernel) rfl, gd_t 1041 (by decide +kernel) rfl, by decide, by decide, by decide +kernel, by decide⟩, gd_t 1040 (by decide +kernel) rfl, gd_s 40 (by decide +kernel) rfl, rfl⟩
theorem s_X8_138 : mSv RX8 138 RX8 yX8_meters cX8_meters 3 (some .int) 0 := ⟨⟨gd_t 1042 (by decide +kernel) rfl, gd_t 11 (by decide +kernel) rfl, gd_t 1045 (by decide +kernel) rfl, by decide, by decide, by decide +kernel, by decide⟩, gd_t 1044 (by decide +kernel) rfl, gd_s 41 (by decide +kernel) rfl, rfl⟩
theorem s_L_123 : mSv RL 123 RX8 yX8_sum cX8_sum 2 (some .int) 1 := ⟨⟨gd_t 1046 (by decide +kernel) rfl, gd_t 11 (by decide +kernel) rfl, gd_t 1049 (by decide +kernel) rfl, by decide, by decide, by decide +kernel, by decide⟩, gd_t 1047 (by decide +kernel) rfl, gd_t 1048 (by decide +kernel) rfl, rfl⟩
theorem s_X8_144 : mSv RX8 144 RX8 yX8_sumOf cX8_sumOf 4 (some .int) 1 := ⟨⟨gd_t 1050 (by decide +kernel) rfl, gd_t 11 (by decide +kernel) rfl, gd_t 1053 (by decide +kernel) rfl, by decide, by decide, by decide +kernel, by decide⟩, gd_t 1052 (by decide +kernel) rfl, gd_s 42 (by decide +kernel) rfl, rfl⟩
theorem s_L_126 : mSv RL 126 RX8 yX8_addBoiler cX8_addBoiler 5 (some .int) 3 := ⟨⟨gd_t 1054 (by decide +kernel) rfl, gd_t 11 (by decide +kernel) rfl, gd_t 1057 (by decide +kernel) rfl, by decide, by decide, by decide +kernel, by decide⟩, gd_t 1055 (by decide +kernel) rfl, gd_t 1056 (by decide +kernel) rfl, rfl⟩
theorem s_L_129 : mSv RL 129 RX8 yX8_setCost cX8_setCost 4 (some .int) 2 := ⟨⟨gd_t 1059 (by decide +kernel) rfl, gd_t 11 (by decide +kernel) rfl, gd_t 1062 (by decide +kernel) rfl, by decide, by decide, by decide +kernel, by decide⟩, gd_t 1060 (by decide +kernel) rfl, gd_t 1061 (by decide +kernel) rfl, rfl⟩
theorem s_X8_148 : mSv RX8 148 RX8 yX8_isBoiler cX8_isBoiler 2 (some .boolean) 1 := ⟨⟨gd_t 1063 (by decide +kernel) rfl, gd_t 11 (by decide +kernel) rfl, gd_t 1066 (by decide +kernel) rfl, by decide, by decide, by decide +kernel, by decide⟩, gd_t 1065 (by decide +kernel) rfl, gd_s 43 (by decide +kernel) rfl, rfl⟩
theorem s_L_132 : mSv RL 132 RX8 yX8_boiler cX8_boiler 3 (some .int) 2 := ⟨⟨gd_t 1067 (by decide +kernel) rfl, gd_t 11 (by decide +kernel) rfl, gd_t 1070 (by decide +kernel) rfl, by decide, by decide, by decide +kernel, by decide⟩, gd_t 1068 (by decide +kernel) rfl, gd_t 1069 (by decide +kernel) rfl, rfl⟩
theorem s_X8_151 : mSv RX8 151 RX8 yX8_boilerOf cX8_boilerOf 3 (some .int) 2 := ⟨⟨gd_t 1071 (by decide +kernel) rfl, gd_t 11 (by decide +kernel) rfl, gd_t 1074 (by decide +kernel) rfl, by decide, by decide, by decide +kernel, by decide⟩, gd_t 1073 (by decide +kernel) rfl, gd_s 44 (by decide +kernel) rfl, rfl⟩
theorem s_L_135 : mSv RL 135 RX8 yX8_setTariff cX8_setTariff 5 (some .int) 3 := ⟨⟨gd_t 1075 (by decide +kernel) rfl, gd_t 11 (by decide +kernel) rfl, gd_t 1078 (by decide +kernel) rfl, by decide, by decide, by decide +kernel, by decide⟩, gd_t 1076 (by decide +kernel) rfl, gd_t 1077 (by decide +kernel) rfl, rfl⟩
theorem s_L_138 : mSv RL 138 RX8 yX8_pass cX8_pass 3 (some .int) 1 := ⟨⟨gd_t 1079 (by decide +kernel) rfl, gd_t 11 (by decide +kernel) rfl, gd_t 1082 (by decide +kernel) rfl, by decide, by decide, by decide +kernel, by decide⟩, gd_t 1080 (by decide +kernel) rfl, gd_t 1081 (by decide +kernel) rfl, rfl⟩
theorem s_L_142 : mSv RL 142 RX8 yX8_setMeter cX8_setMeter 3 (some .int) 2 := ⟨⟨gd_t 1083 (by decide +kernel) rfl, gd_t 11 (by decide +kernel) rfl, gd_t 1086 (by decide +kernel) rfl, by decide, by decide, by decide +kernel, by decide⟩, gd_t 1084 (by decide +kernel) rfl, gd_t 1085 (by decide +kernel) rfl, rfl⟩
theorem s_L_145 : mSv RL 145 RX8 yX8_balance cX8_balance 2 (some .int) 1 := ⟨⟨gd_t 1087 (by decide +kernel) rfl, gd_t 11 (by decide +kernel) rfl, gd_t 1090 (by decide +kernel) rfl, by decide, by decide, by decide +kernel, by decide⟩, gd_t 1088 (by decide +kernel) rfl, gd_t 1089 (by decide +kernel) rfl, rfl⟩
theorem s_X8_160 : mSv RX8 160 RX8 yX8_balanceOf cX8_balanceOf 4 (some .int) 1 := ⟨⟨gd_t 1091 (by decide +kernel) rfl, gd_t 11 (by decide +kernel) rfl, gd_t 1094 (by decide +kernel) rfl, by decide, by decide, by decide +kernel, by decide⟩, gd_t 1093 (by decide +kernel) rfl, gd_s 45 (by decide +kernel) rfl, rfl⟩
theorem s_X8_154 : mSv RX8 154 RX8 yX8_hasMeter cX8_hasMeter 2 (some .boolean) 1 := ⟨⟨gd_t 1095 (by decide +kernel) rfl, gd_t 11 (by decide +kernel) rfl, gd_t 1098 (by decide +kernel) rfl, by decide, by decide, by decide +kernel, by decide⟩, gd_t 1097 (by decide +kernel) rfl, gd_s 46 (by decide +kernel) rfl, rfl⟩
theorem s_X8_157 : mSv RX8 157 RX8 yX8_meterAt cX8_meterAt 3 (some .int) 1 := ⟨⟨gd_t 1099 (by decide +kernel) rfl, gd_t 11 (by decide +kernel) rfl, gd_t 1102 (by decide +kernel) rfl, by decide, by decide, by decide +kernel, by decide⟩, gd_t 1101 (by decide +kernel) rfl, gd_s 47 (by decide +kernel) rfl, rfl⟩
theorem s_L_148 : mSv RL 148 RX8 yX8_region cX8_region 2 (some .int) 1 := ⟨⟨gd_t 1103 (by decide +kernel) rfl, gd_t 11 (by decide +kernel) rfl, gd_t 1106 (by decide +kernel) rfl, by decide, by decide, by decide +kernel, by decide⟩, gd_t 1104 (by decide +kernel) rfl, gd_t 1105 (by decide +kernel) rfl, rfl⟩
theorem s_X8_163 : mSv RX8 163 RX8 yX8_regionOf cX8_regionOf 4 (some .int) 1 := ⟨⟨gd_t 1107 (by decide +kernel) rfl, gd_t 11 (by decide +kernel) rfl, gd_t 1110 (by decide +kernel) rfl, by decide, by decide, by decide +kernel, by decide⟩, gd_t 1109 (by decide +kernel) rfl, gd_s 48 (by decide +kernel) rfl, rfl⟩
theorem s_L_151 : mSv RL 151 RX8 yX8_meterOf cX8_meterOf 2 (some .int) 1 := ⟨⟨gd_t 1111 (by decide +kernel) rfl, gd_t 11 (by decide +kernel) rfl, gd_t 1114 (by decide +kernel) rfl, by decide, by decide, by decide +kernel, by decide⟩, gd_t 1112 (by decide +kernel) rfl, gd_t 1113 (by decide +kernel) rfl, rfl⟩
theorem s_L_154 : mSv RL 154 RX8 yX8_nextMeter cX8_nextMeter 2 (some .int) 1 := ⟨⟨gd_t 1115 (by decide +kernel) rfl, gd_t 11 (by decide +kernel) rfl, gd_t 1118 (by decide +kernel) rfl, by decide, by decide, by decide +kernel, by decide⟩, gd_t 1116 (by decide +kernel) rfl, gd_t 1117 (by decide +kernel) rfl, rfl⟩
theorem s_X8_169 : mSv RX8 169 RX8 yX8_nextOf cX8_nextOf 6 (some .int) 1 := ⟨⟨gd_t 1119 (by decide +kernel) rfl, gd_t 11 (by decide +kernel) rfl, gd_t 1122 (by decide +kernel) rfl, by decide, by decide, by decide +kernel, by decide⟩, gd_t 1121 (by decide +kernel) rfl, gd_s 49 (by decide +kernel) rfl, rfl⟩
theorem s_X8_166 : mSv RX8 166 RX8 yX8_inBranch cX8_inBranch 5 (some .int) 2 := ⟨⟨gd_t 1123 (by decide +kernel) rfl, gd_t 11 (by decide +kernel) rfl, gd_t 1126 (by decide +kernel) rfl, by decide, by decide, by decide +kernel, by decide⟩, gd_t 1125 (by decide +kernel) rfl, gd_s 50 (by decide +kernel) rfl, rfl⟩
theorem s_L_158 : mSv RL 158 RX8 yX8_suspects cX8_suspects 1 (some .int) 0 := ⟨⟨gd_t 1127 (by decide +kernel) rfl, gd_t 11 (by decide +kernel) rfl, gd_t 1130 (by decide +kernel) rfl, by decide, by decide, by decide +kernel, by decide⟩, gd_t 1128 (by decide +kernel) rfl, gd_t 1129 (by decide +kernel) rfl, rfl⟩
theorem s_X8_172 : mSv RX8 172 RX8 yX8_suspectMany cX8_suspectMany 3 (some .int) 0 := ⟨⟨gd_t 1131 (by decide +kernel) rfl, gd_t 11 (by decide +kernel) rfl, gd_t 1134 (by decide +kernel) rfl, by decide, by decide, by decide +kernel, by decide⟩, gd_t 1133 (by decide +kernel) rfl, gd_s 51 (by decide +kernel) rfl, rfl⟩
theorem s_L_162 : mSv RL 162 RX8 yX8_metersToFind cX8_metersToFind 4 (some .int) 0 := ⟨⟨gd_t 1135 (by decide +kernel) rfl, gd_t 11 (by decide +kernel) rfl, gd_t 1138 (by decide +kernel) rfl, by decide, by decide, by decide +kernel, by decide⟩, gd_t 1136 (by decide +kernel) rfl, gd_t 1137 (by decide +kernel) rfl, rfl⟩
theorem s_X8_175 : mSv RX8 175 RX8 yX8_firstNext cX8_firstNext 2 (some .int) 0 := ⟨⟨gd_t 1139 (by decide +kernel) rfl, gd_t 11 (by decide +kernel) rfl, gd_t 1142 (by decide +kernel) rfl, by decide, by decide, by decide +kernel, by decide⟩, gd_t 1141 (by decide +kernel) rfl, gd_s 52 (by decide +kernel) rfl, rfl⟩
theorem s_L_165 : mSv RL 165 RX8 yX8_supplyFor cX8_supplyFor 6 (some .int) 2 := ⟨⟨gd_t 1143 (by decide +kernel) rfl, gd_t 11 (by decide +kernel) rfl, gd_t 1146 (by decide +kernel) rfl, by decide, by decide, by decide +kernel, by decide⟩, gd_t 1144 (by decide +kernel) rfl, gd_t 1145 (by decide +kernel) rfl, rfl⟩
theorem s_L_169 : mSv RL 169 RX8 yX8_cheapestSupply cX8_cheapestSupply 6 (some .int) 0 := ⟨⟨gd_t 1147 (by decide +kernel) rfl, gd_t 11 (by decide +kernel) rfl, gd_t 1150 (by decide +kernel) rfl, by decide, by decide, by decide +kernel, by decide⟩, gd_t 1148 (by decide +kernel) rfl, gd_t 1149 (by decide +kernel) rfl, rfl⟩
theorem s_X8_178 : mSv RX8 178 RX8 yX8_isWarm cX8_isWarm 3 (some .boolean) 0 := ⟨⟨gd_t 1151 (by decide +kernel) rfl, gd_t 11 (by decide +kernel) rfl, gd_t 1154 (by decide +kernel) rfl, by decide, by decide, by decide +kernel, by decide⟩, gd_t 1153 (by decide +kernel) rfl, gd_s 53 (by decide +kernel) rfl, rfl⟩
theorem s_L_172 : mSv RL 172 RX8 yX8_saves cX8_saves 5 (some .int) 1 := ⟨⟨gd_t 1155 (by decide +kernel) rfl, gd_t 11 (by decide +kernel) rfl, gd_t 1158 (by decide +kernel) rfl, by decide, by decide, by decide +kernel, by decide⟩, gd_t 1156 (by decide +kernel) rfl, gd_t 1157 (by decide +kernel) rfl, rfl⟩
theorem s_L_177 : mSv RL 177 RX8 yX8_efficiency cX8_efficiency 2 (some .double) 0 := ⟨⟨gd_t 1159 (by decide +kernel) rfl, gd_t 11 (by decide +kernel) rfl, gd_t 1162 (by decide +kernel) rfl, by decide, by decide, by decide +kernel, by decide⟩, gd_t 1160 (by decide +kernel) rfl, gd_t 1161 (by decide +kernel) rfl, rfl⟩
theorem s_L_180 : mSv RL 180 RX8 yX8_append cX8_append 2 (some .int) 1 := ⟨⟨gd_t 1163 (by decide +kernel) rfl, gd_t 11 (by decide +kernel) rfl, gd_t 1166 (by decide +kernel) rfl, by decide, by decide, by decide +kernel, by decide⟩, gd_t 1164 (by decide +kernel) rfl, gd_t 1165 (by decide +kernel) rfl, rfl⟩
theorem s_L_184 : mSv RL 184 RX8 yX8_clearText cX8_clearText 2 (some .int) 0 := ⟨⟨gd_t 1167 (by decide +kernel) rfl, gd_t 11 (by decide +kernel) rfl, gd_t 1170 (by decide +kernel) rfl, by decide, by decide, by decide +kernel, by decide⟩, gd_t 1168 (by decide +kernel) rfl, gd_t 1169 (by decide +kernel) rfl, rfl⟩
theorem s_L_188 : mSv RL 188 RX8 yX8_parse cX8_parse 2 (some .int) 0 := ⟨⟨gd_t 1171 (by decide +kernel) rfl, gd_t 11 (by decide +kernel) rfl, gd_t 1174 (by decide +kernel) rfl, by decide, by decide, by decide +kernel, by decide⟩, gd_t 1172 (by decide +kernel) rfl, gd_t 1173 (by decide +kernel) rfl, rfl⟩
theorem s_X8_198 : mSv RX8 198 RX8 yX8_isNodeText cX8_isNodeText 6 (some .boolean) 0 := ⟨⟨gd_t 1175 (by decide +kernel) rfl, gd_t 11 (by decide +kernel) rfl, gd_t 1178 (by decide +kernel) rfl, by decide, by decide, by decide +kernel, by decide⟩, gd_t 1177 (by decide +kernel) rfl, gd_s 54 (by decide +kernel) rfl, rfl⟩
theorem s_X8_194 : mSv RX8 194 RX8 yX8_isNumber cX8_isNumber 6 (some .boolean) 4 := ⟨⟨gd_t 1179 (by decide +kernel) rfl, gd_t 11 (by decide +kernel) rfl, gd_t 1182 (by decide +kernel) rfl, by decide, by decide, by decide +kernel, by decide⟩, gd_t 1181 (by decide +kernel) rfl, gd_s 55 (by decide +kernel) rfl, rfl⟩
theorem s_X8_191 : mSv RX8 191 RX8 yX8_isDigit cX8_isDigit 1 (some .boolean) 0 := ⟨⟨gd_t 1183 (by decide +kernel) rfl, gd_t 11 (by decide +kernel) rfl, gd_t 1186 (by decide +kernel) rfl, by decide, by decide, by decide +kernel, by decide⟩, gd_t 1185 (by decide +kernel) rfl, gd_s 56 (by decide +kernel) rfl, rfl⟩
theorem s_L_192 : mSv RL 192 RX8 yX8_undo cX8_undo 2 (some .int) 0 := ⟨⟨gd_t 1187 (by decide +kernel) rfl, gd_t 11 (by decide +kernel) rfl, gd_t 1190 (by decide +kernel) rfl, by decide, by decide, by decide +kernel, by decide⟩, gd_t 1188 (by decide +kernel) rfl, gd_t 1189 (by decide +kernel) rfl, rfl⟩
theorem s_L_197 : mSv RL 197 RX8 yX8_digest cX8_digest 3 (some .long) 0 := ⟨⟨gd_t 1191 (by decide +kernel) rfl, gd_t 11 (by decide +kernel) rfl, gd_t 1194 (by decide +kernel) rfl, by decide, by decide, by decide +kernel, by decide⟩, gd_t 1192 (by decide +kernel) rfl, gd_t 1193 (by decide +kernel) rfl, rfl⟩
theorem s_X8_209 : mSv RX8 209 RX8 yX8_mix cX8_mix 2 none 1 := ⟨⟨gd_t 1196 (by decide +kernel) rfl, gd_t 11 (by decide +kernel) rfl, gd_t 1199 (by decide +kernel) rfl, by decide, by decide, by decide +kernel, by decide⟩, gd_t 1198 (by decide +kernel) rfl, gd_s 57 (by decide +kernel) rfl, rfl⟩
theorem s_X5_34 : mSn RX5 34 yX7_copyRow RX7 cX7_copyRow 2 none 2 := ⟨List.mem_of_getElem? (i := 6) (by decide +kernel), gd_t 1 (by decide +kernel) rfl, gd_t 321 (by decide +kernel) rfl, by decide, by decide, by decide +kernel, by decide, gd_t 320 (by decide +kernel) rfl⟩
theorem s_X3_40 : mSn RX3 40 yX7_copyRow RX7 cX7_copyRow 2 none 2 := ⟨List.mem_of_getElem? (i := 7) (by decide +kernel), gd_t 1 (by decide +kernel) rfl, gd_t 321 (by decide +kernel) rfl, by decide, by decide, by decide +kernel, by decide, gd_t 320 (by decide +kernel) rfl⟩
theorem s_X0_25 : mSn RX0 25 yX7_copyRow RX7 cX7_copyRow 2 none 2 := ⟨List.mem_of_getElem? (i := 8) (by decide +kernel), gd_t 1 (by decide +kernel) rfl, gd_t 321 (by decide +kernel) rfl, by decide, by decide, by decide +kernel, by decide, gd_t 320 (by decide +kernel) rfl⟩
end
section
/-! plain facts -/
theorem nI_inc (n : Nat) : nI n + Int32.ofInt 1 = nI (n + 1) := nI_1 n
theorem nI_dec (n : Nat) : nI (n + 1) + Int32.ofInt (-1) = nI n := by
  rw [← nI_1]
  generalize nI n = a
  have h : Int32.ofInt (-1) = -1 := by decide
  rw [h, Int32.add_assoc]
  simp
theorem nI_dec1 {n : Nat} (h : 0 < n) : nI n + Int32.ofInt (-1) = nI (n - 1) := by
  obtain ⟨k, rfl⟩ : ∃ k, n = k + 1 := ⟨n - 1, by omega⟩
  exact nI_dec k
theorem i32_lt {a b : Int32} : a < b ↔ a.toInt < b.toInt := Int32.lt_iff_toInt_lt
theorem i32_le {a b : Int32} : a ≤ b ↔ a.toInt ≤ b.toInt := Int32.le_iff_toInt_le
theorem i32_eq {a b : Int32} : a = b ↔ a.toInt = b.toInt := ⟨fun h => by rw [h], fun h => Int32.toInt_inj.mp h⟩
theorem i32_nlt {a b : Int32} : ¬ a < b ↔ b ≤ a := by rw [i32_lt, i32_le]; omega
theorem i32_nle {a b : Int32} : ¬ a ≤ b ↔ b < a := by rw [i32_lt, i32_le]; omega
/-- two rows that say the same below n -/
def mrow (M : Mem) (k : Nat) (f : Nat → Int32) : Mem := fun q => if q = k then f else M q
theorem mset_eq (M : Mem) (k i : Nat) (x : Int32) : mset M k i x = mrow M k (upd (M k) i x) := rfl
theorem mrow_at (M : Mem) (k : Nat) (f : Nat → Int32) : mrow M k f k = f := by simp [mrow]
theorem mrow_ne {M : Mem} {k q : Nat} (h : q ≠ k) (f : Nat → Int32) : mrow M k f q = M q := by simp [mrow, h]
theorem mrow_mrow (M : Mem) (k : Nat) (f f' : Nat → Int32) : mrow (mrow M k f) k f' = mrow M k f' := by
  funext q
  by_cases h : q = k <;> simp [mrow, h]
theorem mrow_self (M : Mem) (k : Nat) : mrow M k (M k) = M := by
  funext q
  by_cases h : q = k <;> simp [mrow, h]
theorem mset_row (M : Mem) (k i : Nat) (f : Nat → Int32) (x : Int32) : mset (mrow M k f) k i x = mrow M k (upd f i x) := by
  rw [mset_eq, mrow_at, mrow_mrow]
theorem upd_at (f : Nat → Int32) (i : Nat) (x : Int32) : upd f i x i = x := by simp [upd]
theorem upd_ne {f : Nat → Int32} {i j : Nat} (h : j ≠ i) (x : Int32) : upd f i x j = f j := by simp [upd, h]
/-- memory that differs only at places a to b -/
def offR (M M' : Mem) (a b : Nat) : Prop := ∀ q, q < a ∨ b < q → M' q = M q
theorem offR.rf (M : Mem) (a b : Nat) : offR M M a b := fun _ _ => rfl
theorem offR.row {M : Mem} {a b k : Nat} (f : Nat → Int32) (h1 : a ≤ k) (h2 : k ≤ b) : offR M (mrow M k f) a b := fun q hq => mrow_ne (by omega) f
theorem offR.tr {M M' M'' : Mem} {a b a' b' c d : Nat} (h : offR M M' a b) (h' : offR M' M'' a' b') (h1 : c ≤ a) (h2 : c ≤ a') (h3 : b ≤ d) (h4 : b' ≤ d) : offR M M'' c d := fun q hq => (h' q (by omega)).trans (h q (by omega))
/-- sums over the places 1, 2 .. below k -/
def sumP (f : Nat → Int32) : Nat → Int32
  | 0 => 0
  | k + 1 => sumP f k + (if k = 0 then 0 else f k)
theorem sumP_1 (f : Nat → Int32) : sumP f 1 = 0 := by simp [sumP]
theorem sumP_s (f : Nat → Int32) {k : Nat} (h : 0 < k) : sumP f (k + 1) = sumP f k + f k := by
  have : k ≠ 0 := by omega
  simp [sumP, this]
theorem sumP_cong {f f' : Nat → Int32} : ∀ {k : Nat}, (∀ j, 0 < j → j < k → f j = f' j) → sumP f k = sumP f' k
  | 0, _ => rfl
  | k + 1, h => by
    have r := sumP_cong (k := k) (fun j h1 h2 => h j h1 (by omega))
    rw [sumP, sumP, r]
    by_cases hk : k = 0
    · simp [hk]
    · simp [hk, h k (by omega) (by omega)]
/-- sums over all places below k -/
def sumA (f : Nat → Int32) : Nat → Int32
  | 0 => 0
  | k + 1 => sumA f k + f k
theorem sumA_cong {f f' : Nat → Int32} : ∀ {k : Nat}, (∀ j, j < k → f j = f' j) → sumA f k = sumA f' k
  | 0, _ => rfl
  | k + 1, h => by
    rw [sumA, sumA, sumA_cong (k := k) (fun j h2 => h j (by omega)), h k (by omega)]
def b2i (b : Bool) : Int32 := if b then 1 else 0
/-! what a state says: ((nodes, boilers), parents, scalars, columns of the nodes, columns of the boilers) -/
abbrev View : Type := (Nat × Nat) × (Nat → Nat) × (Nat → Int32) × (Nat → Nat → Int32) × (Nat → Nat → Int32)
def vN (V : View) : Nat := V.1.1
def vB (V : View) : Nat := V.1.2
def vP (V : View) : Nat → Nat := V.2.1
def vS (V : View) : Nat → Int32 := V.2.2.1
def vD (V : View) : Nat → Nat → Int32 := V.2.2.2.1
def vO (V : View) : Nat → Nat → Int32 := V.2.2.2.2
def inR (x : Int32) (a b : Int) : Prop := a ≤ x.toInt ∧ x.toInt ≤ b
/-- the tree: parents have lower numbers -/
def wfT (V : View) : Prop := 1 ≤ vN V ∧ vN V ≤ 16 ∧ vB V ≤ 4 ∧ (vD V 0 0 = -1 ∧ vD V 3 0 = 0 ∧ vD V 5 0 = 0 ∧ vD V 6 0 = 0) ∧ ∀ j, 0 < j → j < vN V → vD V 0 j = nI (vP V j) ∧ vP V j < j
/-- what a network's cells at B say; the boilers' at B; a state's at S -/
def cNet (M : Mem) (B : Nat) (V : View) : Prop := M B 8 = nI (vN V) ∧ ∀ w, w < 8 → ∀ j, j < vN V → M (B + 1 + w) j = vD V w j
def cBoi (M : Mem) (B : Nat) (V : View) : Prop := M B 3 = nI (vB V) ∧ ∀ w, w < 3 → ∀ j, j < vB V → M (B + 1 + w) j = vO V w j
theorem cNet.at {M : Mem} {B : Nat} {V : View} (h : cNet M B V) (w : Nat) (hw : w < 8) {j : Nat} (hj : j < vN V) : M (B + 1 + w) j = vD V w j := h.2 w hw j hj
theorem cBoi.at {M : Mem} {B : Nat} {V : View} (h : cBoi M B V) (w : Nat) (hw : w < 3) {j : Nat} (hj : j < vB V) : M (B + 1 + w) j = vO V w j := h.2 w hw j hj
theorem cNet.off {M M' : Mem} {B a b : Nat} {V : View} (h : cNet M B V) (ho : offR M M' a b) (hB : B + 8 < a ∨ b < B) : cNet M' B V := by
  refine ⟨by rw [ho B (by omega)]; exact h.1, fun w hw j hj => by rw [ho _ (by omega)]; exact h.2 w hw j hj⟩
theorem cBoi.off {M M' : Mem} {B a b : Nat} {V : View} (h : cBoi M B V) (ho : offR M M' a b) (hB : B + 3 < a ∨ b < B) : cBoi M' B V := by
  refine ⟨by rw [ho B (by omega)]; exact h.1, fun w hw j hj => by rw [ho _ (by omega)]; exact h.2 w hw j hj⟩
/-- objects at places that are variables -/
def isNet (B : Nat) : Prop := lay B = (1, [3, B + 3, B + 4, B + 5, B + 6, B + 7, B + 8, B + 9, B + 10, 0]) ∧ lay (B + 1) = (0, [16]) ∧ lay (B + 2) = (0, [16]) ∧ lay (B + 3) = (0, [16]) ∧ lay (B + 4) = (0, [16]) ∧ lay (B + 5) = (0, [16]) ∧ lay (B + 6) = (0, [16]) ∧ lay (B + 7) = (0, [16]) ∧ lay (B + 8) = (0, [16])
def isBoi (B : Nat) : Prop := lay B = (1, [0, B + 3, B + 4, B + 5, 0]) ∧ lay (B + 1) = (0, [4]) ∧ lay (B + 2) = (0, [4]) ∧ lay (B + 3) = (0, [4])
def isSta (S : Nat) : Prop := lay S = (1, [6, S + 3, S + 12, 0, 0, 0, 0, 0, 0, 0]) ∧ isNet (S + 1) ∧ isBoi (S + 10)
def isHour (B : Nat) : Prop := lay B = (1, [2, B + 3, B + 4, B + 5, B + 6, 0, 0, 0]) ∧ lay (B + 1) = (0, [16]) ∧ lay (B + 2) = (0, [16]) ∧ lay (B + 3) = (0, [16]) ∧ lay (B + 4) = (0, [4])
def isRegs (B : Nat) : Prop := lay B = (1, [5, B + 3, B + 4, B + 5, B + 6, B + 7, 0]) ∧ lay (B + 1) = (0, [16]) ∧ lay (B + 2) = (0, [16]) ∧ lay (B + 3) = (0, [16]) ∧ lay (B + 4) = (0, [16]) ∧ lay (B + 5) = (0, [16])
theorem isNet_2 : isNet 2 := ⟨rfl, rfl, rfl, rfl, rfl, rfl, rfl, rfl, rfl⟩
theorem isNet_97 : isNet 97 := ⟨rfl, rfl, rfl, rfl, rfl, rfl, rfl, rfl, rfl⟩
theorem isBoi_11 : isBoi 11 := ⟨rfl, rfl, rfl, rfl⟩
theorem isSta_1 : isSta 1 := ⟨rfl, ⟨rfl, rfl, rfl, rfl, rfl, rfl, rfl, rfl, rfl⟩, ⟨rfl, rfl, rfl, rfl⟩⟩
theorem isSta_17 : isSta 17 := ⟨rfl, ⟨rfl, rfl, rfl, rfl, rfl, rfl, rfl, rfl, rfl⟩, ⟨rfl, rfl, rfl, rfl⟩⟩
theorem isSta_31 : isSta 31 := ⟨rfl, ⟨rfl, rfl, rfl, rfl, rfl, rfl, rfl, rfl, rfl⟩, ⟨rfl, rfl, rfl, rfl⟩⟩
theorem isSta_45 : isSta 45 := ⟨rfl, ⟨rfl, rfl, rfl, rfl, rfl, rfl, rfl, rfl, rfl⟩, ⟨rfl, rfl, rfl, rfl⟩⟩
theorem isSta_59 : isSta 59 := ⟨rfl, ⟨rfl, rfl, rfl, rfl, rfl, rfl, rfl, rfl, rfl⟩, ⟨rfl, rfl, rfl, rfl⟩⟩
theorem isSta_of {i : Nat} (h : i < 4) : isSta (17 + 14 * i) := by
  have : i = 0 ∨ i = 1 ∨ i = 2 ∨ i = 3 := by omega
  rcases this with rfl | rfl | rfl | rfl
  · exact isSta_17
  · exact isSta_31
  · exact isSta_45
  · exact isSta_59
theorem isHour_75 : isHour 75 := ⟨rfl, rfl, rfl, rfl, rfl⟩
theorem isHour_86 : isHour 86 := ⟨rfl, rfl, rfl, rfl, rfl⟩
theorem isRegs_80 : isRegs 80 := ⟨rfl, rfl, rfl, rfl, rfl, rfl⟩
theorem isRegs_91 : isRegs 91 := ⟨rfl, rfl, rfl, rfl, rfl, rfl⟩
end
section
section MR2
variable {p : Program} {l : Launch} {e : Env} {R : Room} {s : State} {m : MethodId} {args : Array Value} {below : List Frame} {meth : Method} {c : Code} {G : mG} {nL kk nn : Nat} {Q : State → Prop} {M : Mem} {g : Glo} {L : List (Nat × Value)} {pc : Nat} {st : List Value} {cc : ByteArray} {own : String}
theorem r_abs {x v : Int32} {idx d mc ms : Nat} (C : mCx p s m args c cc nL own G) (hd : decode cc pc = .ok (.invokestatic idx, 3)) (hm : mMath own idx Lib.Math.abs.name Lib.Math.abs.code 1) (hst : (st.map fun v => v.category).sum ≤ 8) (h1 : kk ≤ mc) (h2 : nn ≤ ms) (hv : (if 0 ≤ x then x else 0 - x) = v) (k : At p l e (rmD d mc ms) s m args below meth c G nL kk nn Q M g L (pc + 3) (.int v :: st)) : At p l e (rmD d mc ms) s m args below meth c G nL kk nn Q M g L pc (.int x :: st) := by
  intro H locs ls hP hS hl
  obtain ⟨a1, a2, a3, a4⟩ := hm
  subst hv
  have ht := C.2.2.2.2.1
  exact va_mabs C.1 C.2.1 (by rw [C.2.2.1]; exact hl.1.symm) C.2.2.2.1 (ht _ a1) (ht _ a2) (ht _ a3) (ht _ a4) (by show 1 ≤ 60 + d; omega) (by show _ ≤ 1000 + 40 * d; omega) h1 h2 hd (k H locs ls hP hS hl)
theorem r_irem {x y : Int32} (C : mCx p s m args c cc nL own G) (hd : decode cc pc = .ok (.irem, 1)) (hy : ¬ y = 0) (k : At p l e R s m args below meth c G nL kk nn Q M g L (pc + 1) (.int (x - x / y * y) :: st)) : At p l e R s m args below meth c G nL kk nn Q M g L pc (.int y :: .int x :: st) :=
  fun H locs ls hP hS hl => lv_irem C.1 C.2.1 hd hy (k H locs ls hP hS hl)
theorem r_ishl {x y : Int32} (C : mCx p s m args c cc nL own G) (hd : decode cc pc = .ok (.ishl, 1)) (k : At p l e R s m args below meth c G nL kk nn Q M g L (pc + 1) (.int (x <<< (y &&& 31)) :: st)) : At p l e R s m args below meth c G nL kk nn Q M g L pc (.int y :: .int x :: st) :=
  fun H locs ls hP hS hl => lv_ishl C.1 C.2.1 hd (k H locs ls hP hS hl)
theorem r_ishr {x y : Int32} (C : mCx p s m args c cc nL own G) (hd : decode cc pc = .ok (.ishr, 1)) (k : At p l e R s m args below meth c G nL kk nn Q M g L (pc + 1) (.int (x >>> (y &&& 31)) :: st)) : At p l e R s m args below meth c G nL kk nn Q M g L pc (.int y :: .int x :: st) :=
  fun H locs ls hP hS hl => lv_ishr C.1 C.2.1 hd (k H locs ls hP hS hl)
theorem r_iushr {x y : Int32} (C : mCx p s m args c cc nL own G) (hd : decode cc pc = .ok (.iushr, 1)) (k : At p l e R s m args below meth c G nL kk nn Q M g L (pc + 1) (.int (x.toUInt32 >>> (y.toUInt32 &&& Int32.toUInt32 31)).toInt32 :: st)) : At p l e R s m args below meth c G nL kk nn Q M g L pc (.int y :: .int x :: st) :=
  fun H locs ls hP hS hl => lv_iushr C.1 C.2.1 hd rfl (k H locs ls hP hS hl)
theorem r_i2l {x : Int32} (C : mCx p s m args c cc nL own G) (hd : decode cc pc = .ok (.i2l, 1)) (k : At p l e R s m args below meth c G nL kk nn Q M g L (pc + 1) (.long x.toInt64 :: st)) : At p l e R s m args below meth c G nL kk nn Q M g L pc (.int x :: st) :=
  fun H locs ls hP hS hl => lv_i2l C.1 C.2.1 hd rfl (k H locs ls hP hS hl)
theorem r_ladd {x y : Int64} (C : mCx p s m args c cc nL own G) (hd : decode cc pc = .ok (.ladd, 1)) (k : At p l e R s m args below meth c G nL kk nn Q M g L (pc + 1) (.long (x + y) :: st)) : At p l e R s m args below meth c G nL kk nn Q M g L pc (.long y :: .long x :: st) :=
  fun H locs ls hP hS hl => lv_ladd C.1 C.2.1 hd (k H locs ls hP hS hl)
theorem r_lmul {x y : Int64} (C : mCx p s m args c cc nL own G) (hd : decode cc pc = .ok (.lmul, 1)) (k : At p l e R s m args below meth c G nL kk nn Q M g L (pc + 1) (.long (x * y) :: st)) : At p l e R s m args below meth c G nL kk nn Q M g L pc (.long y :: .long x :: st) :=
  fun H locs ls hP hS hl => lv_lmul C.1 C.2.1 hd (k H locs ls hP hS hl)
theorem r_ldc2 {v : Int64} {idx : Nat} (C : mCx p s m args c cc nL own G) (hd : decode cc pc = .ok (.ldc2_w idx, 3)) (hc : Cond.constantLong own idx v ∈ gd) (k : At p l e R s m args below meth c G nL kk nn Q M g L (pc + 3) (.long v :: st)) : At p l e R s m args below meth c G nL kk nn Q M g L pc st :=
  fun H locs ls hP hS hl => lv_ldc2 C.1 C.2.1 C.2.2.2.1 (C.2.2.2.2.1 _ hc) hd (k H locs ls hP hS hl)
theorem r_ldc {v : Int32} {idx : Nat} (C : mCx p s m args c cc nL own G) (hd : decode cc pc = .ok (.ldc idx, 2)) (hc : Cond.constant own idx v ∈ gd) (k : At p l e R s m args below meth c G nL kk nn Q M g L (pc + 2) (.int v :: st)) : At p l e R s m args below meth c G nL kk nn Q M g L pc st :=
  fun H locs ls hP hS hl => lv_ldc C.1 C.2.1 C.2.2.2.1 (C.2.2.2.2.1 _ hc) hd (k H locs ls hP hS hl)
theorem r_ldcw {v : Int32} {idx : Nat} (C : mCx p s m args c cc nL own G) (hd : decode cc pc = .ok (.ldc_w idx, 3)) (hc : Cond.constant own idx v ∈ gd) (k : At p l e R s m args below meth c G nL kk nn Q M g L (pc + 3) (.int v :: st)) : At p l e R s m args below meth c G nL kk nn Q M g L pc st :=
  fun H locs ls hP hS hl => lv_ldcw C.1 C.2.1 C.2.2.2.1 (C.2.2.2.2.1 _ hc) hd (k H locs ls hP hS hl)
theorem r_tableOut {dflt lo hi : Int} {offs : Array Int} {len : Nat} {x : Int32} {tgt : Nat} (C : mCx p s m args c cc nL own G) (hd : decode cc pc = .ok (.tableswitch dflt lo hi offs, len)) (h : x.toInt < lo ∨ hi < x.toInt) (ht : (pc : Int) + dflt = (tgt : Int)) (k : At p l e R s m args below meth c G nL kk nn Q M g L tgt st) : At p l e R s m args below meth c G nL kk nn Q M g L pc (.int x :: st) :=
  fun H locs ls hP hS hl => lv_tableOut C.1 C.2.1 hd h ht (k H locs ls hP hS hl)
theorem r_tableIn {dflt lo hi : Int} {offs : Array Int} {len : Nat} {x : Int32} {off : Int} {tgt : Nat} (C : mCx p s m args c cc nL own G) (hd : decode cc pc = .ok (.tableswitch dflt lo hi offs, len)) (h1 : ¬ x.toInt < lo) (h2 : ¬ hi < x.toInt) (ho : offs[(x.toInt - lo).toNat]? = some off) (ht : (pc : Int) + off = (tgt : Int)) (k : At p l e R s m args below meth c G nL kk nn Q M g L tgt st) : At p l e R s m args below meth c G nL kk nn Q M g L pc (.int x :: st) :=
  fun H locs ls hP hS hl => lv_tableIn C.1 C.2.1 hd h1 h2 ho ht (k H locs ls hP hS hl)
theorem r_ifnonnull {x : Nat} {off : Int} {tgt : Nat} (C : mCx p s m args c cc nL own G) (hd : decode cc pc = .ok (.ifnonnull off, 3)) (ht : (pc : Int) + off = (tgt : Int)) (k : At p l e R s m args below meth c G nL kk nn Q M g L tgt st) : At p l e R s m args below meth c G nL kk nn Q M g L pc (.ref x :: st) :=
  fun H locs ls hP hS hl => lv_ifnonnull C.1 C.2.1 hd ht (k H locs ls hP hS hl)
/-- System.arraycopy of two int rows at 0, both whole -/
def mCopy (own : String) (idx : Nat) : Prop := Cond.methodLink own idx arraycopyName ∈ gd ∧ Cond.native arraycopyName ∈ gd ∧ Cond.static arraycopyName ∈ gd ∧ Cond.initialized "java/lang/System" ∈ gd
theorem r_copy {q0 q1 n idx d mc ms : Nat} {z : Int32} (C : mCx p s m args c cc nL own G) (hd : decode cc pc = .ok (.invokestatic idx, 3)) (hm : mCopy own idx) (hq0 : lay q0 = (0, [n])) (hq1 : lay q1 = (0, [n])) (hn0 : n ≠ 0) (hz : z = nI n) (hn : n < 2 ^ 31) (hst : (st.map fun v => v.category).sum ≤ 8) (k : ∀ f : Nat → Int32, (∀ j, j < n → f j = M q0 j) → At p l e (rmD d mc ms) s m args below meth c G nL kk nn Q (mrow M q1 f) g L (pc + 3) st) : At p l e (rmD d mc ms) s m args below meth c G nL kk nn Q M g L pc (.int z :: .int 0 :: .ref (mA G q1) :: .int 0 :: .ref (mA G q0) :: st) := by
  intro H locs ls hP hS hl
  obtain ⟨a1, a2, a3, a4⟩ := hm
  subst hz
  have ht := C.2.2.2.2.1
  have e0 : (0 : Int32).toNatClampNeg = 0 := rfl
  have en : (nI n).toNatClampNeg = n := nI_clamp hn
  have hw : nativeFrameWords "java/lang/System" "arraycopy" 5 ≤ 500 := by decide +kernel
  refine va_copyi (D := mD G) (ty := .int) (sp := 0) (dp := 0) (n := nI n) C.1 C.2.1 (by rw [C.2.2.1]; exact hl.1.symm) C.2.2.2.1 (ht _ a1) (ht _ a2) (ht _ a3) (ht _ a4) C.2.2.2.2.2.1.1 hP (m_D C.2.2.2.2.2.2) hS q0 q1 0 0 (m_arr hq0 hn0) (m_arr hq1 hn0) rfl rfl rfl (by decide) (by decide) (nI_pos hn) (by rw [e0, en]; omega) (by rw [e0, en]; omega) (fun _ _ => rfl) (Nat.le_trans (by omega) (Nat.le_add_right 60 d)) (show (st.map fun v => v.category).sum + (nativeFrameWords "java/lang/System" "arraycopy" 5 + 11) ≤ 1000 + 40 * d by omega) hd (fun H locs hP _ hS => ?_)
  refine k (va_cpy (M q0) (M q1) (0 : Int32).toNatClampNeg (0 : Int32).toNatClampNeg (nI n).toNatClampNeg) (fun j hj => by rw [e0, en, pk_cpy_in (Nat.zero_le _) (by omega)]; congr 1; omega) H locs ls ?_ hS hl
  rw [← m_ws_set (G := G) (M := M) (M' := mrow M q1 (va_cpy (M q0) (M q1) (0 : Int32).toNatClampNeg (0 : Int32).toNatClampNeg (nI n).toNatClampNeg)) (g := g) (g' := g) (k := q1) (e := .inl (G.2.1.1, n, .inl (va_cpy (M q0) (M q1) (0 : Int32).toNatClampNeg (0 : Int32).toNatClampNeg (nI n).toNatClampNeg))) (fun z hz => ⟨mrow_ne hz _, rfl⟩)]
  · exact hP
  · simp only [m_ct, hq1, m_ctL, mrow_at]
end MR2
end
section
/-! the tree, flows, temperatures, returns, loads -/
theorem lt_of_nle {a b : Nat} (ha : a < 2 ^ 31) (h : ¬ nI b ≤ nI a) : a < b := by
  rcases Nat.lt_or_ge a b with q | q
  · exact q
  · exact absurd (nI_le q ha) h
theorem le_of_le {a b : Nat} (ha : a < 2 ^ 31) (hb : b < 2 ^ 31) (h : nI a ≤ nI b) : a ≤ b := (nI_leI ha hb).mp h
theorem pk_I {P : Int32 → Mem → Glo → Prop} {v : Int32} {M : Mem} {g : Glo} (h : P v M g) : ∀ (r : Int32) (M' : Mem) (g' : Glo), (r = v ∧ M' = M ∧ g' = g) → P r M' g' := by
  rintro _ _ _ ⟨rfl, rfl, rfl⟩
  exact h
theorem pk_L {P : Int64 → Mem → Glo → Prop} {v : Int64} {M : Mem} {g : Glo} (h : P v M g) : ∀ (r : Int64) (M' : Mem) (g' : Glo), (r = v ∧ M' = M ∧ g' = g) → P r M' g' := by
  rintro _ _ _ ⟨rfl, rfl, rfl⟩
  exact h
theorem pk_V {P : Mem → Glo → Prop} {M : Mem} {g : Glo} (h : P M g) : ∀ (M' : Mem) (g' : Glo), (M' = M ∧ g' = g) → P M' g' := by
  rintro _ _ ⟨rfl, rfl⟩
  exact h
theorem mset_ne {M : Mem} {k q i : Nat} {x : Int32} (h : q ≠ k) : mset M k i x q = M q := by simp [mset, h]
theorem mset_at (M : Mem) (k i : Nat) (x : Int32) : mset M k i x k = upd (M k) i x := by simp [mset]
theorem mset_row_c {M : Mem} {k k' i j : Nat} {f : Nat → Int32} {c x : Int32} (h : k ≠ k') : mset (mset (mrow M k f) k' i c) k j x = mset (mrow M k (upd f j x)) k' i c := by
  funext q
  by_cases h1 : q = k
  · subst h1; simp [mset, mrow, h]
  · by_cases h2 : q = k'
    · subst h2; simp [mset, mrow, h1]
    · simp [mset, mrow, h1, h2]
theorem mset_again (M : Mem) (k i : Nat) (x y : Int32) : mset (mset M k i x) k i y = mset M k i y := by
  funext q j
  by_cases h1 : q = k
  · subst h1
    by_cases h2 : j = i <;> simp [mset, upd, h2]
  · simp [mset, h1]
theorem offR.set {M : Mem} {a b k i : Nat} (x : Int32) (h1 : a ≤ k) (h2 : k ≤ b) : offR M (mset M k i x) a b := fun q hq => mset_ne (by omega)
def minI (x y : Int32) : Int32 := if y < x then y else x
def maxI (x y : Int32) : Int32 := if x < y then y else x
def addUp (p : Nat → Nat) : Nat → (Nat → Int32) → Nat → Int32
  | 0, f => f
  | k + 1, f => addUp p k (upd f (p (k + 1)) (f (p (k + 1)) + f (k + 1)))
theorem addUp_s (p : Nat → Nat) {k : Nat} (h : 0 < k) (f : Nat → Int32) : addUp p k f = addUp p (k - 1) (upd f (p k) (f (p k) + f k)) := by
  obtain ⟨j, rfl⟩ : ∃ j, k = j + 1 := ⟨k - 1, by omega⟩
  rfl
theorem addUp_cong {p : Nat → Nat} {n : Nat} : ∀ (k : Nat) (f f' : Nat → Int32), k < n → (∀ j, 0 < j → j ≤ k → p j < j) → (∀ j, j < n → f j = f' j) → ∀ j, j < n → addUp p k f j = addUp p k f' j
  | 0, _, _, _, _, h => h
  | k + 1, f, f', hk, hp, h => by
    refine addUp_cong k _ _ (by omega) (fun j h1 h2 => hp j h1 (by omega)) (fun j hj => ?_)
    have h1 := hp (k + 1) (by omega) (Nat.le_refl _)
    by_cases e : j = p (k + 1)
    · subst e
      rw [upd_at, upd_at, h _ hj, h _ hk]
    · rw [upd_ne e, upd_ne e, h j hj]
def flowF (V : View) : Nat → Int32 := addUp (vP V) (vN V - 1) (fun j => if j = 0 then 0 else vD V 3 j + vD V 5 j)
def behindF (above ground whole flow : Int32) : Int32 := if flow ≤ 0 then minI above ground else if above ≤ ground then above else above - minI (above - ground) ((above - ground) * whole / (1000 * flow))
def wStep (V : View) (j : Nat) (before : Int32) : Int32 := behindF before (vS V 1) (vD V 2 j * vD V 1 j) (flowF V j)
def wRow (V : View) (sup : Int32) : Nat → Nat → Int32
  | 0 => fun _ => sup
  | k + 1 => upd (wRow V sup k) (k + 1) (wStep V (k + 1) (wRow V sup k (vP V (k + 1))))
def warmF (V : View) (sup : Int32) (j : Nat) : Int32 := wRow V sup j j
theorem wRow_le (V : View) (sup : Int32) : ∀ (k j : Nat), j ≤ k → wRow V sup k j = warmF V sup j
  | 0, j, h => by
    have : j = 0 := by omega
    subst this; rfl
  | k + 1, j, h => by
    by_cases e : j = k + 1
    · subst e; rfl
    · rw [wRow, upd_ne e]
      exact wRow_le V sup k j (by omega)
theorem warmF_0 (V : View) (sup : Int32) : warmF V sup 0 = sup := rfl
theorem warmF_s (V : View) (sup : Int32) {j : Nat} (h : 0 < j) (hp : vP V j < j) : warmF V sup j = wStep V j (warmF V sup (vP V j)) := by
  obtain ⟨k, rfl⟩ : ∃ k, j = k + 1 := ⟨j - 1, by omega⟩
  show wRow V sup (k + 1) (k + 1) = _
  rw [wRow, upd_at, wRow_le V sup k _ (by omega)]
def rF (V : View) (sup : Int32) (j : Nat) : Int32 := minI (vD V 4 j) (warmF V sup j)
def backF (V : View) (sup : Int32) : Nat → Int32 := addUp (vP V) (vN V - 1) (fun j => if j = 0 then 0 else vD V 3 j * rF V sup j)
def needF (V : View) (sup : Int32) : Int32 := maxI 0 (flowF V 0 * sup - backF V sup 0)
/-! boilers -/
def cntA (p : Nat → Bool) : Nat → Nat
  | 0 => 0
  | k + 1 => cntA p k + (if p k then 1 else 0)
theorem cntA_le (p : Nat → Bool) : ∀ k, cntA p k ≤ k
  | 0 => Nat.le_refl 0
  | k + 1 => by
    have := cntA_le p k
    rw [cntA]
    split <;> omega
theorem cntA_lt {p : Nat → Bool} : ∀ {k j : Nat}, j < k → p j = false → cntA p k < k
  | k + 1, j, h, hp => by
    rw [cntA]
    by_cases e : j = k
    · subst e
      have := cntA_le p j
      simp [hp]; omega
    · have := cntA_lt (k := k) (j := j) (by omega) hp
      split <;> omega
theorem cntA_sub {p q : Nat → Bool} : ∀ {k : Nat}, (∀ j, j < k → p j = true → q j = true) → cntA p k ≤ cntA q k
  | 0, _ => Nat.le_refl 0
  | k + 1, h => by
    have r := cntA_sub (k := k) (fun j hj => h j (by omega))
    have hk := h k (by omega)
    rw [cntA, cntA]
    by_cases e : p k = true
    · simp [e, hk e]; omega
    · simp [e]; omega
theorem cntA_ssub {p q : Nat → Bool} : ∀ {k i : Nat}, (∀ j, j < k → p j = true → q j = true) → i < k → p i = false → q i = true → cntA p k < cntA q k
  | k + 1, i, h, hi, h1, h2 => by
    rw [cntA, cntA]
    by_cases e : i = k
    · subst e
      have r := cntA_sub (k := i) (fun j hj => h j (by omega))
      simp [h1, h2]; omega
    · have r := cntA_ssub (k := k) (i := i) (fun j hj => h j (by omega)) (by omega) h1 h2
      have hk := h k (by omega)
      by_cases e : p k = true
      · simp [e, hk e]; omega
      · simp [e]; omega
theorem cntA_cong {p q : Nat → Bool} : ∀ {k : Nat}, (∀ j, j < k → p j = q j) → cntA p k = cntA q k
  | 0, _ => rfl
  | k + 1, h => by rw [cntA, cntA, cntA_cong (k := k) (fun j hj => h j (by omega)), h k (by omega)]
def bef (V : View) (o b : Nat) : Bool := decide (vO V 2 o < vO V 2 b) || (decide (vO V 2 o = vO V 2 b) && decide (o < b))
def placeN (V : View) (b : Nat) : Nat := cntA (fun o => bef V o b) (vB V)
theorem bef_irr (V : View) (b : Nat) : bef V b b = false := by
  have h : ¬ vO V 2 b < vO V 2 b := by rw [i32_lt]; omega
  simp [bef, h]
theorem bef_tr (V : View) {a b c : Nat} (h1 : bef V a b = true) (h2 : bef V b c = true) : bef V a c = true := by
  simp only [bef, Bool.or_eq_true, Bool.and_eq_true, decide_eq_true_eq, i32_lt, i32_eq] at *
  omega
theorem bef_tot (V : View) {a b : Nat} (h : a ≠ b) : bef V a b = true ∨ bef V b a = true := by
  simp only [bef, Bool.or_eq_true, Bool.and_eq_true, decide_eq_true_eq, i32_lt, i32_eq] at *
  omega
theorem placeN_lt (V : View) {b : Nat} (h : b < vB V) : placeN V b < vB V := cntA_lt h (bef_irr V b)
theorem placeN_mono (V : View) {a b : Nat} (ha : a < vB V) (h : bef V a b = true) : placeN V a < placeN V b :=
  cntA_ssub (fun _ _ hj => bef_tr V hj h) ha (bef_irr V a) h
theorem placeN_inj (V : View) {a b : Nat} (ha : a < vB V) (hb : b < vB V) (h : placeN V a = placeN V b) : a = b := by
  rcases Nat.decEq a b with e | e
  · rcases bef_tot V e with q | q
    · have := placeN_mono V ha q; omega
    · have := placeN_mono V hb q; omega
  · exact e
theorem inj_onto : ∀ (n : Nat) (f : Nat → Nat), (∀ i, i < n → f i < n) → (∀ i j, i < n → j < n → f i = f j → i = j) → ∀ y, y < n → ∃ i, i < n ∧ f i = y
  | 0, _, _, _, y, hy => absurd hy (Nat.not_lt_zero y)
  | n + 1, f, hf, hi, y, hy => by
    -- g: f with the value n moved to where f n is
    by_cases hn : f n = n
    · by_cases e : y = n
      · exact ⟨n, by omega, by omega⟩
      · obtain ⟨i, h1, h2⟩ := inj_onto n f (fun i h => by
          have := hf i (by omega)
          have h3 : f i ≠ n := fun h4 => by have := hi i n (by omega) (by omega) (by omega); omega
          omega) (fun i j h1 h2 h3 => hi i j (by omega) (by omega) h3) y (by omega)
        exact ⟨i, by omega, h2⟩
    · have hfn := hf n (by omega)
      have key : ∀ y, y < n → ∃ i, i < n ∧ (if f i = n then f n else f i) = y := inj_onto n (fun i => if f i = n then f n else f i) (fun i h => by
          have := hf i (by omega)
          show (if f i = n then f n else f i) < n
          split <;> omega) (fun i j h1 h2 h3 => by
          have e3 : (if f i = n then f n else f i) = (if f j = n then f n else f j) := h3
          by_cases a : f i = n <;> by_cases b : f j = n
          · exact hi i j (by omega) (by omega) (by omega)
          · rw [if_pos a, if_neg b] at e3
            have := hi n j (by omega) (by omega) e3; omega
          · rw [if_neg a, if_pos b] at e3
            have := hi i n (by omega) (by omega) e3; omega
          · rw [if_neg a, if_neg b] at e3
            exact hi i j (by omega) (by omega) e3)
      by_cases e : y = n
      · obtain ⟨i, h1, h2⟩ := key (f n) (by omega)
        by_cases a : f i = n
        · exact ⟨i, by omega, by omega⟩
        · rw [if_neg a] at h2
          have := hi i n (by omega) (by omega) h2; omega
      · obtain ⟨i, h1, h2⟩ := key y (by omega)
        by_cases a : f i = n
        · rw [if_pos a] at h2
          exact ⟨n, by omega, h2⟩
        · rw [if_neg a] at h2
          exact ⟨i, by omega, h2⟩
theorem placeN_onto (V : View) {k : Nat} (h : k < vB V) : ∃ b, b < vB V ∧ placeN V b = k :=
  inj_onto (vB V) (placeN V) (fun _ hi => placeN_lt V hi) (fun _ _ hi hj e => placeN_inj V hi hj e) k h
/-- the first place at which p holds, or n -/
def fstA (p : Nat → Bool) : Nat → Nat → Nat
  | 0, k => k
  | n + 1, k => if p k then k else fstA p n (k + 1)
def boilAt (V : View) (k : Nat) : Nat := fstA (fun b => decide (placeN V b = k)) (vB V) 0
theorem fstA_spec {p : Nat → Bool} : ∀ (n k : Nat), (∃ b, k ≤ b ∧ b < k + n ∧ p b = true) → k ≤ fstA p n k ∧ fstA p n k < k + n ∧ p (fstA p n k) = true ∧ ∀ j, k ≤ j → j < fstA p n k → p j = false
  | 0, k, ⟨b, h1, h2, _⟩ => by omega
  | n + 1, k, ⟨b, h1, h2, h3⟩ => by
    by_cases e : p k = true
    · simp only [fstA, e, if_true]
      exact ⟨Nat.le_refl k, by omega, trivial, fun j a b => by omega⟩
    · have hb : b ≠ k := fun z => e (z ▸ h3)
      obtain ⟨a1, a2, a3, a4⟩ := fstA_spec n (k + 1) ⟨b, by omega, by omega, h3⟩
      simp only [fstA, e]
      exact ⟨by simp; omega, by simp; omega, by simpa using a3, fun j h5 h6 => by
        by_cases z : j = k
        · subst z; simpa using e
        · exact a4 j (by omega) (by simpa using h6)⟩
theorem boilAt_spec (V : View) {k : Nat} (h : k < vB V) : boilAt V k < vB V ∧ placeN V (boilAt V k) = k ∧ ∀ j, j < boilAt V k → ¬ placeN V j = k := by
  obtain ⟨b, h1, h2⟩ := placeN_onto V h
  obtain ⟨a1, a2, a3, a4⟩ := fstA_spec (p := fun b => decide (placeN V b = k)) (vB V) 0 ⟨b, by omega, by omega, by simp [h2]⟩
  exact ⟨by unfold boilAt; omega, by simpa [boilAt] using a3, fun j hj => by simpa using a4 j (by omega) hj⟩
theorem boilAt_place (V : View) {b : Nat} (h : b < vB V) : boilAt V (placeN V b) = b := by
  obtain ⟨h1, h2, -⟩ := boilAt_spec V (placeN_lt V h)
  exact placeN_inj V h1 h h2
def ldV (V : View) (left : Int32) (b : Nat) : Int32 := if 0 < minI (vO V 0 b) left ∧ minI (vO V 0 b) left < vO V 1 b then vO V 1 b else minI (vO V 0 b) left
def nxL (V : View) (left : Int32) (b : Nat) : Int32 := if 0 < minI (vO V 0 b) left ∧ minI (vO V 0 b) left < vO V 1 b then 0 else left - minI (vO V 0 b) left
def lfF (V : View) (nd : Int32) : Nat → Int32
  | 0 => nd
  | k + 1 => nxL V (lfF V nd k) (boilAt V k)
def csF (V : View) (nd : Int32) : Nat → Int32
  | 0 => 0
  | k + 1 => csF V nd k + ldV V (lfF V nd k) (boilAt V k) * vO V 2 (boilAt V k) / 1000
def unmetF (V : View) (nd : Int32) : Int32 := lfF V nd (vB V)
def costF (V : View) (nd : Int32) : Int32 := csF V nd (vB V)
def loadF (V : View) (nd : Int32) (b : Nat) : Int32 := ldV V (lfF V nd (placeN V b)) b
end
section
set_option maxRecDepth 20000 in
set_option maxHeartbeats 1000000 in
theorem c_X3_hasParent (l : Launch) (G : mG) (hG : mInj G) (M : Mem) (g : Glo) (V : View) (hT : wfT V) (hV : cNet M 2 V) (j : Nat) (h0 : 0 < j) (hj : j < vN V) : mcI l G yX3_hasParent cX3_hasParent 2 .boolean 1 [.ref (mA G 2), .int (nI j)] M g (fun r M' g' => r = 1 ∧ M' = M ∧ g' = g) := by
  refine mcI_of (L0 := [(0, .ref (mA G 2)), (1, .int (nI j))]) hG (by decide) (Nat.le_of_ble_eq_true rfl) rfl ?_
  intro p e s m args below meth c Q C hend
  obtain ⟨hn1, hn16, hb4, hd0, hpar⟩ := hT
  obtain ⟨hp1, hp2⟩ := hpar j h0 hj
  have hr : M 3 j = nI (vP V j) := (hV.at 0 (by decide) hj).trans hp1
  refine r_aload_n C dX3_hasParent_0 0 rfl ?_
  refine r_getr (q2 := 3) C dX3_hasParent_1 0 f_X3_9 rfl rfl ?_
  refine r_iload_n C dX3_hasParent_4 1 rfl ?_
  refine r_ialdN (j := j) (v := nI (vP V j)) C dX3_hasParent_5 rfl (rfl) (by omega) (by decide) (hr) ?_
  refine r_if_lt (tgt := 23) C dX3_hasParent_6 (by decide) (fun h => absurd h (nI_pos (by omega))) (fun _ => ?_)
  refine r_aload_n C dX3_hasParent_9 0 rfl ?_
  refine r_getr (q2 := 3) C dX3_hasParent_10 0 f_X3_9 rfl rfl ?_
  refine r_iload_n C dX3_hasParent_13 1 rfl ?_
  refine r_ialdN (j := j) (v := nI (vP V j)) C dX3_hasParent_14 rfl (rfl) (by omega) (by decide) (hr) ?_
  refine r_iload_n C dX3_hasParent_15 1 rfl ?_
  refine r_icmp_ge (tgt := 23) C dX3_hasParent_16 (by decide) (fun h => absurd h (nI_ge hp2 (by omega))) (fun _ => ?_)
  refine r_iconst (v := 1) C dX3_hasParent_19 rfl ?_
  refine r_goto (tgt := 24) C dX3_hasParent_20 (by decide) ?_
  exact hend _ _ _ _ _ dX3_hasParent_24 (rfl) (⟨rfl, rfl, rfl⟩)

set_option maxRecDepth 20000 in
set_option maxHeartbeats 1000000 in
theorem c_X3_childrenOf (l : Launch) (G : mG) (hG : mInj G) (M : Mem) (g : Glo) (V : View) (hT : wfT V) (hV : cNet M 2 V) (j : Nat) (hj : j < vN V) : mcI l G yX3_childrenOf cX3_childrenOf 4 .int 1 [.ref (mA G 2), .int (nI j)] M g (fun r M' g' => r = sumP (fun k => b2i (decide (vD V 0 k = nI j))) (vN V) ∧ M' = M ∧ g' = g) := by
  refine mcI_of (L0 := [(0, .ref (mA G 2)), (1, .int (nI j))]) hG (by decide) (Nat.le_of_ble_eq_true rfl) rfl ?_
  intro p e s m args below meth c Q C hend
  obtain ⟨hn1, hn16, hb4, hd0, hpar⟩ := hT
  have hlow : ∀ k, 0 < k → k < vN V → k ≤ j → b2i (decide (vD V 0 k = nI j)) = 0 := by
    intro k h1 h2 h3
    obtain ⟨a1, a2⟩ := hpar k h1 h2
    have : ¬ vD V 0 k = nI j := by rw [a1, nI_eq (by omega) (by omega)]; omega
    simp [b2i, this]
  have hz : ∀ k, k ≤ j + 1 → sumP (fun k => b2i (decide (vD V 0 k = nI j))) k = 0 := by
    intro k
    induction k with
    | zero => intro _; rfl
    | succ k ih =>
      intro hk
      rcases Nat.eq_zero_or_pos k with rfl | h0
      · exact sumP_1 _
      · rw [sumP_s _ h0, ih (by omega), hlow k h0 (by omega) (by omega)]; rfl
  refine r_iconst (v := 0) C dX3_childrenOf_0 rfl ?_
  refine r_istore_n (L' := [(2, .int 0), (0, .ref (mA G 2)), (1, .int (nI j))]) C dX3_childrenOf_1 (by decide) rfl ?_
  refine r_iload_n C dX3_childrenOf_2 2 rfl ?_
  refine r_iconst (v := 1) C dX3_childrenOf_3 rfl ?_
  refine r_iadd C dX3_childrenOf_4 ?_
  refine r_valI (y := nI (j + 1)) (nI_1 j) ?_
  refine r_istore_n (L' := [(3, .int (nI (j + 1))), (2, .int 0), (0, .ref (mA G 2)), (1, .int (nI j))]) C dX3_childrenOf_5 (by decide) rfl ?_
  have lp6 : ∀ (fu : Nat) (k : Nat) (a : Int32), (0 < k) → (k ≤ vN V) → (a = sumP (fun k => b2i (decide (vD V 0 k = nI j))) k) → (vN V - k) < fu → At p l e (rmD 1 0 0) s m args below meth c G 4 0 0 Q M g [(3, .int (nI k)), (2, .int a), (0, .ref (mA G 2)), (1, .int (nI j))] 6 [] := by
    intro fu
    induction fu with
    | zero => intro k a hk0 hkn ha hfu; exact absurd hfu (Nat.not_lt_zero _)
    | succ fu ih6 =>
      intro k a hk0 hkn ha hfu6
      refine r_iload_n C dX3_childrenOf_6 0 rfl ?_
      refine r_aload_n C dX3_childrenOf_7 2 rfl ?_
      refine r_geti C dX3_childrenOf_8 8 f_X3_36 rfl rfl ?_
      refine r_valI (y := nI (vN V)) (hV.1) ?_
      refine r_icmp_ge (tgt := 33) C dX3_childrenOf_11 (by decide) (fun c11 => ?_) (fun c11 => ?_)
      ·
        have hkn2 : k = vN V := by have := (nI_leI (by omega) (by omega)).mp c11; omega
        refine r_iload_n C dX3_childrenOf_33 1 rfl ?_
        exact hend _ _ _ _ _ dX3_childrenOf_34 (rfl) (⟨by rw [ha, hkn2], rfl, rfl⟩)
      ·
        have hlt : k < vN V := by rcases Nat.lt_or_ge k (vN V) with q | q; exact q; exact absurd (nI_le q (by omega)) c11
        refine r_aload_n C dX3_childrenOf_14 2 rfl ?_
        refine r_getr (q2 := 3) C dX3_childrenOf_15 0 f_X3_9 rfl rfl ?_
        refine r_iload_n C dX3_childrenOf_18 0 rfl ?_
        refine r_ialdN (j := k) (v := vD V 0 k) C dX3_childrenOf_19 rfl (rfl) (by omega) (by decide) (hV.at 0 (by decide) hlt) ?_
        refine r_iload_n C dX3_childrenOf_20 3 rfl ?_
        refine r_icmp_ne (tgt := 27) C dX3_childrenOf_21 (by decide) (fun c21 => ?_) (fun c21 => ?_)
        ·
          refine r_iinc (v := nI (k + 1)) (L' := [(3, .int (nI (k + 1))), (2, .int a), (0, .ref (mA G 2)), (1, .int (nI j))]) C dX3_childrenOf_27 0 rfl (nI_inc _) (by decide) rfl ?_
          refine r_goto (tgt := 6) C dX3_childrenOf_30 (by decide) ?_
          refine r_sub (L' := [(3, .int (nI (k + 1))), (2, .int a), (0, .ref (mA G 2)), (1, .int (nI j))]) [0, 1, 2, 3] rfl ?_
          exact ih6 (k + 1) a (by omega) (by omega) (by rw [ha, sumP_s _ hk0]; simp only [c21, b2i, decide_false]; simp) (by omega)
        ·
          refine r_iinc (v := a + 1) (L' := [(2, .int (a + 1)), (3, .int (nI k)), (0, .ref (mA G 2)), (1, .int (nI j))]) C dX3_childrenOf_24 1 rfl (rfl) (by decide) rfl ?_
          refine r_iinc (v := nI (k + 1)) (L' := [(3, .int (nI (k + 1))), (2, .int (a + 1)), (0, .ref (mA G 2)), (1, .int (nI j))]) C dX3_childrenOf_27 1 rfl (nI_inc _) (by decide) rfl ?_
          refine r_goto (tgt := 6) C dX3_childrenOf_30 (by decide) ?_
          refine r_sub (L' := [(3, .int (nI (k + 1))), (2, .int (a + 1)), (0, .ref (mA G 2)), (1, .int (nI j))]) [0, 1, 2, 3] rfl ?_
          exact ih6 (k + 1) (a + 1) (by omega) (by omega) (by rw [ha, sumP_s _ hk0]; simp only [c21, b2i, decide_true, if_true]) (by omega)
  refine r_sub (L' := [(3, .int (nI (j + 1))), (2, .int 0), (0, .ref (mA G 2)), (1, .int (nI j))]) [0, 1, 2, 3] rfl ?_
  exact lp6 _ (j + 1) 0 (by omega) (by omega) (hz _ (Nat.le_refl _)).symm (Nat.lt_succ_self _)

set_option maxRecDepth 20000 in
set_option maxHeartbeats 1000000 in
theorem c_X3_meters (l : Launch) (G : mG) (hG : mInj G) (M : Mem) (g : Glo) (V : View) (hT : wfT V) (hV : cNet M 2 V) : mcI l G yX3_meters cX3_meters 3 .int 1 [.ref (mA G 2)] M g (fun r M' g' => r = sumP (vD V 6) (vN V) ∧ M' = M ∧ g' = g) := by
  refine mcI_of (L0 := [(0, .ref (mA G 2))]) hG (by decide) (Nat.le_of_ble_eq_true rfl) rfl ?_
  intro p e s m args below meth c Q C hend
  obtain ⟨hn1, hn16, hb4, hd0, hpar⟩ := hT
  refine r_iconst (v := 0) C dX3_meters_0 rfl ?_
  refine r_istore_n (L' := [(1, .int 0), (0, .ref (mA G 2))]) C dX3_meters_1 (by decide) rfl ?_
  refine r_iconst (v := nI 1) C dX3_meters_2 rfl ?_
  refine r_istore_n (L' := [(2, .int (nI 1)), (1, .int 0), (0, .ref (mA G 2))]) C dX3_meters_3 (by decide) rfl ?_
  have lp4 : ∀ (fu : Nat) (k : Nat) (a : Int32), (0 < k) → (k ≤ vN V) → (a = sumP (vD V 6) k) → (vN V - k) < fu → At p l e (rmD 1 0 0) s m args below meth c G 3 0 0 Q M g [(2, .int (nI k)), (1, .int a), (0, .ref (mA G 2))] 4 [] := by
    intro fu
    induction fu with
    | zero => intro k a hk0 hkn ha hfu; exact absurd hfu (Nat.not_lt_zero _)
    | succ fu ih4 =>
      intro k a hk0 hkn ha hfu4
      refine r_iload_n C dX3_meters_4 0 rfl ?_
      refine r_aload_n C dX3_meters_5 2 rfl ?_
      refine r_geti C dX3_meters_6 8 f_X3_36 rfl rfl ?_
      refine r_valI (y := nI (vN V)) (hV.1) ?_
      refine r_icmp_ge (tgt := 27) C dX3_meters_9 (by decide) (fun c9 => ?_) (fun c9 => ?_)
      ·
        have hkn2 : k = vN V := by have := (nI_leI (by omega) (by omega)).mp c9; omega
        refine r_iload_n C dX3_meters_27 1 rfl ?_
        exact hend _ _ _ _ _ dX3_meters_28 (rfl) (⟨by rw [ha, hkn2], rfl, rfl⟩)
      ·
        have hlt : k < vN V := by rcases Nat.lt_or_ge k (vN V) with q | q; exact q; exact absurd (nI_le q (by omega)) c9
        refine r_iload_n C dX3_meters_12 1 rfl ?_
        refine r_aload_n C dX3_meters_13 2 rfl ?_
        refine r_getr (q2 := 9) C dX3_meters_14 6 f_X3_30 rfl rfl ?_
        refine r_iload_n C dX3_meters_17 0 rfl ?_
        refine r_ialdN (j := k) (v := vD V 6 k) C dX3_meters_18 rfl (rfl) (by omega) (by decide) (hV.at 6 (by decide) hlt) ?_
        refine r_iadd C dX3_meters_19 ?_
        refine r_istore_n (L' := [(1, .int (a + (vD V 6 k))), (2, .int (nI k)), (0, .ref (mA G 2))]) C dX3_meters_20 (by decide) rfl ?_
        refine r_iinc (v := nI (k + 1)) (L' := [(2, .int (nI (k + 1))), (1, .int (a + (vD V 6 k))), (0, .ref (mA G 2))]) C dX3_meters_21 1 rfl (nI_inc _) (by decide) rfl ?_
        refine r_goto (tgt := 4) C dX3_meters_24 (by decide) ?_
        refine r_sub (L' := [(2, .int (nI (k + 1))), (1, .int (a + (vD V 6 k))), (0, .ref (mA G 2))]) [0, 1, 2] rfl ?_
        exact ih4 (k + 1) (a + vD V 6 k) (by omega) (by omega) (by rw [ha, sumP_s _ hk0]) (by omega)
  refine r_sub (L' := [(2, .int (nI 1)), (1, .int 0), (0, .ref (mA G 2))]) [0, 1, 2] rfl ?_
  exact lp4 _ 1 0 (by omega) (by omega) (sumP_1 _).symm (Nat.lt_succ_self _)

set_option maxRecDepth 20000 in
set_option maxHeartbeats 1000000 in
theorem c_X3_accounts (l : Launch) (G : mG) (hG : mInj G) (M : Mem) (g : Glo) (V : View) (hT : wfT V) (hV : cNet M 2 V) : mcI l G yX3_accounts cX3_accounts 3 .int 1 [.ref (mA G 2)] M g (fun r M' g' => r = sumP (vD V 7) (vN V) ∧ M' = M ∧ g' = g) := by
  refine mcI_of (L0 := [(0, .ref (mA G 2))]) hG (by decide) (Nat.le_of_ble_eq_true rfl) rfl ?_
  intro p e s m args below meth c Q C hend
  obtain ⟨hn1, hn16, hb4, hd0, hpar⟩ := hT
  refine r_iconst (v := 0) C dX3_accounts_0 rfl ?_
  refine r_istore_n (L' := [(1, .int 0), (0, .ref (mA G 2))]) C dX3_accounts_1 (by decide) rfl ?_
  refine r_iconst (v := nI 1) C dX3_accounts_2 rfl ?_
  refine r_istore_n (L' := [(2, .int (nI 1)), (1, .int 0), (0, .ref (mA G 2))]) C dX3_accounts_3 (by decide) rfl ?_
  have lp4 : ∀ (fu : Nat) (k : Nat) (a : Int32), (0 < k) → (k ≤ vN V) → (a = sumP (vD V 7) k) → (vN V - k) < fu → At p l e (rmD 1 0 0) s m args below meth c G 3 0 0 Q M g [(2, .int (nI k)), (1, .int a), (0, .ref (mA G 2))] 4 [] := by
    intro fu
    induction fu with
    | zero => intro k a hk0 hkn ha hfu; exact absurd hfu (Nat.not_lt_zero _)
    | succ fu ih4 =>
      intro k a hk0 hkn ha hfu4
      refine r_iload_n C dX3_accounts_4 0 rfl ?_
      refine r_aload_n C dX3_accounts_5 2 rfl ?_
      refine r_geti C dX3_accounts_6 8 f_X3_36 rfl rfl ?_
      refine r_valI (y := nI (vN V)) (hV.1) ?_
      refine r_icmp_ge (tgt := 27) C dX3_accounts_9 (by decide) (fun c9 => ?_) (fun c9 => ?_)
      ·
        have hkn2 : k = vN V := by have := (nI_leI (by omega) (by omega)).mp c9; omega
        refine r_iload_n C dX3_accounts_27 1 rfl ?_
        exact hend _ _ _ _ _ dX3_accounts_28 (rfl) (⟨by rw [ha, hkn2], rfl, rfl⟩)
      ·
        have hlt : k < vN V := by rcases Nat.lt_or_ge k (vN V) with q | q; exact q; exact absurd (nI_le q (by omega)) c9
        refine r_iload_n C dX3_accounts_12 1 rfl ?_
        refine r_aload_n C dX3_accounts_13 2 rfl ?_
        refine r_getr (q2 := 10) C dX3_accounts_14 7 f_X3_33 rfl rfl ?_
        refine r_iload_n C dX3_accounts_17 0 rfl ?_
        refine r_ialdN (j := k) (v := vD V 7 k) C dX3_accounts_18 rfl (rfl) (by omega) (by decide) (hV.at 7 (by decide) hlt) ?_
        refine r_iadd C dX3_accounts_19 ?_
        refine r_istore_n (L' := [(1, .int (a + (vD V 7 k))), (2, .int (nI k)), (0, .ref (mA G 2))]) C dX3_accounts_20 (by decide) rfl ?_
        refine r_iinc (v := nI (k + 1)) (L' := [(2, .int (nI (k + 1))), (1, .int (a + (vD V 7 k))), (0, .ref (mA G 2))]) C dX3_accounts_21 1 rfl (nI_inc _) (by decide) rfl ?_
        refine r_goto (tgt := 4) C dX3_accounts_24 (by decide) ?_
        refine r_sub (L' := [(2, .int (nI (k + 1))), (1, .int (a + (vD V 7 k))), (0, .ref (mA G 2))]) [0, 1, 2] rfl ?_
        exact ih4 (k + 1) (a + vD V 7 k) (by omega) (by omega) (by rw [ha, sumP_s _ hk0]) (by omega)
  refine r_sub (L' := [(2, .int (nI 1)), (1, .int 0), (0, .ref (mA G 2))]) [0, 1, 2] rfl ?_
  exact lp4 _ 1 0 (by omega) (by omega) (sumP_1 _).symm (Nat.lt_succ_self _)

set_option maxRecDepth 20000 in
set_option maxHeartbeats 1000000 in
theorem c_X4_isDigit (l : Launch) (G : mG) (hG : mInj G) (M : Mem) (g : Glo) (x : Int32) : mcI l G yX4_isDigit cX4_isDigit 1 .boolean 1 [.int x] M g (fun r M' g' => r = b2i (decide (48 ≤ x ∧ x ≤ 57)) ∧ M' = M ∧ g' = g) := by
  refine mcI_of (L0 := [(0, .int x)]) hG (by decide) (Nat.le_of_ble_eq_true rfl) rfl ?_
  intro p e s m args below meth c Q C hend
  refine r_iload_n C dX4_isDigit_0 0 rfl ?_
  refine r_bipush (v := 48) C dX4_isDigit_1 rfl ?_
  refine r_icmp_lt (tgt := 16) C dX4_isDigit_3 (by decide) (fun c3 => ?_) (fun c3 => ?_)
  ·
    refine r_iconst (v := 0) C dX4_isDigit_16 rfl ?_
    exact hend _ _ _ _ _ dX4_isDigit_17 (rfl) (⟨by have : ¬ 48 ≤ x := i32_nle.mpr c3; simp [b2i, this], rfl, rfl⟩)
  ·
    refine r_iload_n C dX4_isDigit_6 0 rfl ?_
    refine r_bipush (v := 57) C dX4_isDigit_7 rfl ?_
    refine r_icmp_gt (tgt := 16) C dX4_isDigit_9 (by decide) (fun c9 => ?_) (fun c9 => ?_)
    ·
      refine r_iconst (v := 0) C dX4_isDigit_16 rfl ?_
      exact hend _ _ _ _ _ dX4_isDigit_17 (rfl) (⟨by have : ¬ x ≤ 57 := i32_nle.mpr c9; simp [b2i, this], rfl, rfl⟩)
    ·
      refine r_iconst (v := 1) C dX4_isDigit_12 rfl ?_
      refine r_goto (tgt := 17) C dX4_isDigit_13 (by decide) ?_
      exact hend _ _ _ _ _ dX4_isDigit_17 (rfl) (⟨by simp [b2i, i32_nlt.mp c3, i32_nlt.mp c9], rfl, rfl⟩)
end
section
set_option maxRecDepth 20000 in
set_option maxHeartbeats 1000000 in
theorem c_X0_placeOf (l : Launch) (G : mG) (hG : mInj G) (M : Mem) (g : Glo) (V : View) (hT : wfT V) (hV : cBoi M 11 V) (b : Nat) (hb : b < vB V) : mcI l G yX0_placeOf cX0_placeOf 4 .int 1 [.ref (mA G 11), .int (nI b)] M g (fun r M' g' => r = nI (placeN V b) ∧ M' = M ∧ g' = g) := by
  refine mcI_of (L0 := [(0, .ref (mA G 11)), (1, .int (nI b))]) hG (by decide) (Nat.le_of_ble_eq_true rfl) rfl ?_
  intro p e s m args below meth c Q C hend
  have hT0 := hT
  obtain ⟨hn1, hn16, hb4, ⟨hd0, hd3, hd5, hd6⟩, hpar⟩ := hT0
  refine r_iconst (v := nI 0) C dX0_placeOf_0 rfl ?_
  refine r_istore_n (L' := [(2, .int (nI 0)), (0, .ref (mA G 11)), (1, .int (nI b))]) C dX0_placeOf_1 (by decide) rfl ?_
  refine r_iconst (v := nI 0) C dX0_placeOf_2 rfl ?_
  refine r_istore_n (L' := [(3, .int (nI 0)), (2, .int (nI 0)), (0, .ref (mA G 11)), (1, .int (nI b))]) C dX0_placeOf_3 (by decide) rfl ?_
  have lp4 : ∀ (fu : Nat) (k : Nat) (a : Nat), (k ≤ vB V) → (a = cntA (fun o => bef V o b) k) → (vB V - k) < fu → At p l e (rmD 1 0 0) s m args below meth c G 4 0 0 Q M g [(3, .int (nI k)), (2, .int (nI a)), (0, .ref (mA G 11)), (1, .int (nI b))] 4 [] := by
    intro fu
    induction fu with
    | zero => intro k a hkn ha hfu; exact absurd hfu (Nat.not_lt_zero _)
    | succ fu ih4 =>
      intro k a hkn ha hfu4
      refine r_iload_n C dX0_placeOf_4 0 rfl ?_
      refine r_aload_n C dX0_placeOf_5 2 rfl ?_
      refine r_geti C dX0_placeOf_6 3 f_X0_21 rfl rfl ?_
      refine r_valI (y := nI (vB V)) (hV.1) ?_
      refine r_icmp_ge (tgt := 56) C dX0_placeOf_9 (by decide) (fun c9 => ?_) (fun c9 => ?_)
      ·
        have hkn2 : k = vB V := by have := le_of_le (by omega) (by omega) c9; omega
        refine r_iload_n C dX0_placeOf_56 1 rfl ?_
        exact hend _ _ _ _ _ dX0_placeOf_57 (rfl) (⟨by rw [ha, hkn2]; rfl, rfl, rfl⟩)
      ·
        have hlt : k < vB V := lt_of_nle (by omega) c9
        refine r_aload_n C dX0_placeOf_12 2 rfl ?_
        refine r_getr (q2 := 14) C dX0_placeOf_13 2 f_X0_18 rfl rfl ?_
        refine r_iload_n C dX0_placeOf_16 0 rfl ?_
        refine r_ialdN (j := k) (v := vO V 2 k) C dX0_placeOf_17 rfl (rfl) (by omega) (by decide) (hV.at 2 (by decide) hlt) ?_
        refine r_aload_n C dX0_placeOf_18 2 rfl ?_
        refine r_getr (q2 := 14) C dX0_placeOf_19 2 f_X0_18 rfl rfl ?_
        refine r_iload_n C dX0_placeOf_22 3 rfl ?_
        refine r_ialdN (j := b) (v := vO V 2 b) C dX0_placeOf_23 rfl (rfl) (by omega) (by decide) (hV.at 2 (by decide) hb) ?_
        refine r_icmp_lt (tgt := 47) C dX0_placeOf_24 (by decide) (fun c24 => ?_) (fun c24 => ?_)
        ·
          refine r_iinc (v := nI (a + 1)) (L' := [(2, .int (nI (a + 1))), (3, .int (nI k)), (0, .ref (mA G 11)), (1, .int (nI b))]) C dX0_placeOf_47 1 rfl (nI_inc _) (by decide) rfl ?_
          refine r_iinc (v := nI (k + 1)) (L' := [(3, .int (nI (k + 1))), (2, .int (nI (a + 1))), (0, .ref (mA G 11)), (1, .int (nI b))]) C dX0_placeOf_50 1 rfl (nI_inc _) (by decide) rfl ?_
          refine r_goto (tgt := 4) C dX0_placeOf_53 (by decide) ?_
          refine r_sub (L' := [(3, .int (nI (k + 1))), (2, .int (nI (a + 1))), (0, .ref (mA G 11)), (1, .int (nI b))]) [0, 1, 2, 3] rfl ?_
          exact ih4 (k + 1) (a + 1) (by omega) (by rw [cntA, ha]; simp [bef, c24]) (by omega)
        ·
          refine r_aload_n C dX0_placeOf_27 2 rfl ?_
          refine r_getr (q2 := 14) C dX0_placeOf_28 2 f_X0_18 rfl rfl ?_
          refine r_iload_n C dX0_placeOf_31 0 rfl ?_
          refine r_ialdN (j := k) (v := vO V 2 k) C dX0_placeOf_32 rfl (rfl) (by omega) (by decide) (hV.at 2 (by decide) hlt) ?_
          refine r_aload_n C dX0_placeOf_33 2 rfl ?_
          refine r_getr (q2 := 14) C dX0_placeOf_34 2 f_X0_18 rfl rfl ?_
          refine r_iload_n C dX0_placeOf_37 3 rfl ?_
          refine r_ialdN (j := b) (v := vO V 2 b) C dX0_placeOf_38 rfl (rfl) (by omega) (by decide) (hV.at 2 (by decide) hb) ?_
          refine r_icmp_ne (tgt := 50) C dX0_placeOf_39 (by decide) (fun c39 => ?_) (fun c39 => ?_)
          ·
            refine r_iinc (v := nI (k + 1)) (L' := [(3, .int (nI (k + 1))), (2, .int (nI a)), (0, .ref (mA G 11)), (1, .int (nI b))]) C dX0_placeOf_50 0 rfl (nI_inc _) (by decide) rfl ?_
            refine r_goto (tgt := 4) C dX0_placeOf_53 (by decide) ?_
            refine r_sub (L' := [(3, .int (nI (k + 1))), (2, .int (nI a)), (0, .ref (mA G 11)), (1, .int (nI b))]) [0, 1, 2, 3] rfl ?_
            exact ih4 (k + 1) a (by omega) (by rw [cntA, ha]; simp [bef, c24, c39]) (by omega)
          ·
            refine r_iload_n C dX0_placeOf_42 0 rfl ?_
            refine r_iload_n C dX0_placeOf_43 3 rfl ?_
            refine r_icmp_ge (tgt := 50) C dX0_placeOf_44 (by decide) (fun c44 => ?_) (fun c44 => ?_)
            ·
              refine r_iinc (v := nI (k + 1)) (L' := [(3, .int (nI (k + 1))), (2, .int (nI a)), (0, .ref (mA G 11)), (1, .int (nI b))]) C dX0_placeOf_50 0 rfl (nI_inc _) (by decide) rfl ?_
              refine r_goto (tgt := 4) C dX0_placeOf_53 (by decide) ?_
              refine r_sub (L' := [(3, .int (nI (k + 1))), (2, .int (nI a)), (0, .ref (mA G 11)), (1, .int (nI b))]) [0, 1, 2, 3] rfl ?_
              exact ih4 (k + 1) a (by omega) (by rw [cntA, ha]; have h9 : ¬ k < b := Nat.not_lt.mpr ((nI_leI (by omega) (by omega)).mp c44); simp [bef, c24, h9]) (by omega)
            ·
              refine r_iinc (v := nI (a + 1)) (L' := [(2, .int (nI (a + 1))), (3, .int (nI k)), (0, .ref (mA G 11)), (1, .int (nI b))]) C dX0_placeOf_47 1 rfl (nI_inc _) (by decide) rfl ?_
              refine r_iinc (v := nI (k + 1)) (L' := [(3, .int (nI (k + 1))), (2, .int (nI (a + 1))), (0, .ref (mA G 11)), (1, .int (nI b))]) C dX0_placeOf_50 1 rfl (nI_inc _) (by decide) rfl ?_
              refine r_goto (tgt := 4) C dX0_placeOf_53 (by decide) ?_
              refine r_sub (L' := [(3, .int (nI (k + 1))), (2, .int (nI (a + 1))), (0, .ref (mA G 11)), (1, .int (nI b))]) [0, 1, 2, 3] rfl ?_
              exact ih4 (k + 1) (a + 1) (by omega) (by rw [cntA, ha]; have h9 : k < b := lt_of_nle (by omega) c44; simp [bef, c24, c39, h9]) (by omega)
  refine r_sub (L' := [(3, .int (nI 0)), (2, .int (nI 0)), (0, .ref (mA G 11)), (1, .int (nI b))]) [0, 1, 2, 3] rfl ?_
  exact lp4 _ 0 0 (by omega) rfl (Nat.lt_succ_self _)

set_option maxRecDepth 20000 in
set_option maxHeartbeats 1000000 in
theorem c_X0_atPlace (l : Launch) (G : mG) (hG : mInj G) (M : Mem) (g : Glo) (V : View) (hT : wfT V) (hV : cBoi M 11 V) (x : Nat) (hx : x < vB V) : mcI l G yX0_atPlace cX0_atPlace 3 .int 2 [.ref (mA G 11), .int (nI x)] M g (fun r M' g' => r = nI (boilAt V x) ∧ M' = M ∧ g' = g) := by
  refine mcI_of (L0 := [(0, .ref (mA G 11)), (1, .int (nI x))]) hG (by decide) (Nat.le_of_ble_eq_true rfl) rfl ?_
  intro p e s m args below meth c Q C hend
  have hT0 := hT
  obtain ⟨hn1, hn16, hb4, ⟨hd0, hd3, hd5, hd6⟩, hpar⟩ := hT0
  obtain ⟨ha1, ha2, ha3⟩ := boilAt_spec V hx
  refine r_iconst (v := nI 0) C dX0_atPlace_0 rfl ?_
  refine r_istore_n (L' := [(2, .int (nI 0)), (0, .ref (mA G 11)), (1, .int (nI x))]) C dX0_atPlace_1 (by decide) rfl ?_
  have lp2 : ∀ (fu : Nat) (k : Nat), (k ≤ boilAt V x) → (vB V - k) < fu → At p l e (rmD 2 0 0) s m args below meth c G 3 0 0 Q M g [(2, .int (nI k)), (0, .ref (mA G 11)), (1, .int (nI x))] 2 [] := by
    intro fu
    induction fu with
    | zero => intro k hkn hfu; exact absurd hfu (Nat.not_lt_zero _)
    | succ fu ih2 =>
      intro k hkn hfu2
      refine r_iload_n C dX0_atPlace_2 0 rfl ?_
      refine r_aload_n C dX0_atPlace_3 1 rfl ?_
      refine r_geti C dX0_atPlace_4 3 f_X0_21 rfl rfl ?_
      refine r_valI (y := nI (vB V)) (hV.1) ?_
      refine r_icmp_ge (tgt := 27) C dX0_atPlace_7 (by decide) (fun h => absurd h ((nI_ge (by omega) (by omega) : ¬ nI (vB V) ≤ nI k))) (fun _ => ?_)
      refine r_aload_n C dX0_atPlace_10 1 rfl ?_
      refine r_iload_n C dX0_atPlace_11 0 rfl ?_
      refine r_callVI (As := [.int (nI k)]) (rest := []) C dX0_atPlace_12 s_X0_29 (c_X0_placeOf l G hG M g V hT hV k (by omega)) (by decide) rfl rfl rfl rfl (Nat.le_of_ble_eq_true rfl) (Nat.zero_le _) (Nat.zero_le _) (pk_I ?_)
      refine r_iload_n C dX0_atPlace_15 2 rfl ?_
      refine r_icmp_ne (tgt := 21) C dX0_atPlace_16 (by decide) (fun c16 => ?_) (fun c16 => ?_)
      ·
        refine r_iinc (v := nI (k + 1)) (L' := [(2, .int (nI (k + 1))), (0, .ref (mA G 11)), (1, .int (nI x))]) C dX0_atPlace_21 0 rfl (nI_inc _) (by decide) rfl ?_
        refine r_goto (tgt := 2) C dX0_atPlace_24 (by decide) ?_
        refine r_sub (L' := [(2, .int (nI (k + 1))), (0, .ref (mA G 11)), (1, .int (nI x))]) [0, 1, 2] rfl ?_
        exact ih2 (k + 1) (by have : k ≠ boilAt V x := (fun h => c16 (by rw [h, ha2])); omega) (by omega)
      ·
        refine r_iload_n C dX0_atPlace_19 0 rfl ?_
        exact hend _ _ _ _ _ dX0_atPlace_20 (rfl) (⟨congrArg nI (placeN_inj V (by omega) ha1 (((nI_eq (by have := placeN_lt V (b := k) (by omega); omega) (by omega)).mp c16).trans ha2.symm)), rfl, rfl⟩)
  refine r_sub (L' := [(2, .int (nI 0)), (0, .ref (mA G 11)), (1, .int (nI x))]) [0, 1, 2] rfl ?_
  exact lp2 _ 0 (by omega) (Nat.lt_succ_self _)

set_option maxRecDepth 20000 in
set_option maxHeartbeats 1000000 in
theorem c_X2_addUpTheTree (l : Launch) (G : mG) (hG : mInj G) (M : Mem) (g : Glo) (V : View) (hT : wfT V) (hV : cNet M 2 V) (r : Nat) (hr : lay r = (0, [16])) (hr9 : 70 < r) : mcV l G yX2_addUpTheTree cX2_addUpTheTree 3 2 [.ref (mA G 2), .ref (mA G r)] M g (fun M' g' => M' = mrow M r (addUp (vP V) (vN V - 1) (M r)) ∧ g' = g) := by
  refine mcV_of (L0 := [(0, .ref (mA G 2)), (1, .ref (mA G r))]) hG (by decide) (Nat.le_of_ble_eq_true rfl) rfl ?_
  intro p e s m args below meth c Q C hend
  have hT0 := hT
  obtain ⟨hn1, hn16, hb4, ⟨hd0, hd3, hd5, hd6⟩, hpar⟩ := hT0
  refine r_aload_n C dX2_addUpTheTree_0 0 rfl ?_
  refine r_geti C dX2_addUpTheTree_1 8 f_X2_65 rfl rfl ?_
  refine r_valI (y := nI (vN V)) (hV.1) ?_
  refine r_iconst (v := 1) C dX2_addUpTheTree_4 rfl ?_
  refine r_isub C dX2_addUpTheTree_5 ?_
  refine r_valI (y := nI (vN V - 1)) (pk_sub (by omega)) ?_
  refine r_istore_n (L' := [(2, .int (nI (vN V - 1))), (0, .ref (mA G 2)), (1, .ref (mA G r))]) C dX2_addUpTheTree_6 (by decide) rfl ?_
  have lp7 : ∀ (fu : Nat) (k : Nat) (f : Nat → Int32), (k < vN V) → (addUp (vP V) k f = addUp (vP V) (vN V - 1) (M r)) → k < fu → At p l e (rmD 2 0 0) s m args below meth c G 3 0 0 Q (mrow M r f) g [(2, .int (nI k)), (0, .ref (mA G 2)), (1, .ref (mA G r))] 7 [] := by
    intro fu
    induction fu with
    | zero => intro k f hkn hf hfu; exact absurd hfu (Nat.not_lt_zero _)
    | succ fu ih7 =>
      intro k f hkn hf hfu7
      have hV2 : cNet (mrow M r f) 2 V := hV.off (offR.row f (Nat.le_refl r) (Nat.le_refl r)) (by omega)
      refine r_iload_n C dX2_addUpTheTree_7 0 rfl ?_
      refine r_if_le (tgt := 39) C dX2_addUpTheTree_8 (by decide) (fun c8 => ?_) (fun c8 => ?_)
      ·
        have hk0 : k = 0 := by rcases Nat.eq_zero_or_pos k with q | q; exact q; exact absurd c8 (nI_nle q (by omega))
        exact hend _ _ _ _ dX2_addUpTheTree_39 (⟨by rw [← hf, hk0]; rfl, rfl⟩)
      ·
        have hk0 : 0 < k := by rcases Nat.eq_zero_or_pos k with q | q; exact absurd (by subst q; decide) c8; exact q
        have hpk := hpar k hk0 hkn
        refine r_aload_n C dX2_addUpTheTree_11 1 rfl ?_
        refine r_iload_n C dX2_addUpTheTree_12 0 rfl ?_
        refine r_callVI (As := [.int (nI k)]) (rest := []) C dX2_addUpTheTree_13 s_X2_122 (c_X3_hasParent l G hG (mrow M r f) g V hT hV2 k hk0 hkn) (by decide) rfl rfl rfl rfl (Nat.le_of_ble_eq_true rfl) (Nat.zero_le _) (Nat.zero_le _) (pk_I ?_)
        refine r_if_eq (tgt := 33) C dX2_addUpTheTree_16 (by decide) (fun h => absurd h (by decide)) (fun _ => ?_)
        refine r_aload_n C dX2_addUpTheTree_19 2 rfl ?_
        refine r_aload_n C dX2_addUpTheTree_20 1 rfl ?_
        refine r_getr (q2 := 3) C dX2_addUpTheTree_21 0 f_X2_126 rfl rfl ?_
        refine r_iload_n C dX2_addUpTheTree_24 0 rfl ?_
        refine r_ialdN (j := k) (v := nI (vP V k)) C dX2_addUpTheTree_25 rfl (rfl) (by omega) (by decide) ((hV2.at 0 (by decide) hkn).trans hpk.1) ?_
        refine r_dup2 C dX2_addUpTheTree_26 rfl rfl ?_
        refine r_ialdN (j := vP V k) (v := f (vP V k)) C dX2_addUpTheTree_27 (hr) (rfl) (by omega) (by decide) (by rw [mrow_at]) ?_
        refine r_aload_n C dX2_addUpTheTree_28 2 rfl ?_
        refine r_iload_n C dX2_addUpTheTree_29 0 rfl ?_
        refine r_ialdN (j := k) (v := f k) C dX2_addUpTheTree_30 (hr) (rfl) (by omega) (by decide) (by rw [mrow_at]) ?_
        refine r_iadd C dX2_addUpTheTree_31 ?_
        refine r_iastN (j := vP V k) C dX2_addUpTheTree_32 (hr) (rfl) (by omega) (by decide) ?_
        refine r_mem (M' := mrow M r (upd f (vP V k) (f (vP V k) + f k))) (mset_row _ _ _ _ _) ?_
        refine r_iinc (v := nI (k - 1)) (L' := [(2, .int (nI (k - 1))), (0, .ref (mA G 2)), (1, .ref (mA G r))]) C dX2_addUpTheTree_33 0 rfl (nI_dec1 (by omega)) (by decide) rfl ?_
        refine r_goto (tgt := 7) C dX2_addUpTheTree_36 (by decide) ?_
        refine r_sub (L' := [(2, .int (nI (k - 1))), (0, .ref (mA G 2)), (1, .ref (mA G r))]) [0, 1, 2] rfl ?_
        exact ih7 (k - 1) (upd f (vP V k) (f (vP V k) + f k)) (by omega) (by rw [← hf, addUp_s _ hk0]) (by omega)
  refine r_mem (M' := mrow M r (M r)) (mrow_self M r).symm ?_
  refine r_sub (L' := [(2, .int (nI (vN V - 1))), (0, .ref (mA G 2)), (1, .ref (mA G r))]) [0, 1, 2] rfl ?_
  exact lp7 _ (vN V - 1) (M r) (by omega) rfl (Nat.lt_succ_self _)

set_option maxRecDepth 20000 in
set_option maxHeartbeats 1000000 in
theorem c_X2_settleFlows (l : Launch) (G : mG) (hG : mInj G) (M : Mem) (g : Glo) (V : View) (hT : wfT V) (hV : cNet M 2 V) (H : Nat) (hH : isHour H) (hH9 : 70 < H) : mcV l G yX2_settleFlows cX2_settleFlows 3 3 [.ref (mA G H), .ref (mA G 2)] M g (fun M' g' => (∃ f, M' = mrow M (H + 1) f ∧ ∀ j, j < vN V → f j = flowF V j) ∧ g' = g) := by
  refine mcV_of (L0 := [(0, .ref (mA G H)), (1, .ref (mA G 2))]) hG (by decide) (Nat.le_of_ble_eq_true rfl) rfl ?_
  intro p e s m args below meth c Q C hend
  have hT0 := hT
  obtain ⟨hn1, hn16, hb4, ⟨hd0, hd3, hd5, hd6⟩, hpar⟩ := hT0
  refine r_iconst (v := nI 0) C dX2_settleFlows_0 rfl ?_
  refine r_istore_n (L' := [(2, .int (nI 0)), (0, .ref (mA G H)), (1, .ref (mA G 2))]) C dX2_settleFlows_1 (by decide) rfl ?_
  have lp2 : ∀ (fu : Nat) (k : Nat) (f : Nat → Int32), (k ≤ vN V) → (∀ j, j < k → f j = vD V 3 j + vD V 5 j) → (vN V - k) < fu → At p l e (rmD 3 0 0) s m args below meth c G 3 0 0 Q (mrow M (H + 1) f) g [(2, .int (nI k)), (0, .ref (mA G H)), (1, .ref (mA G 2))] 2 [] := by
    intro fu
    induction fu with
    | zero => intro k f hkn hf hfu; exact absurd hfu (Nat.not_lt_zero _)
    | succ fu ih2 =>
      intro k f hkn hf hfu2
      have hV2 : cNet (mrow M (H + 1) f) 2 V := hV.off (offR.row f (Nat.le_refl _) (Nat.le_refl _)) (by omega)
      refine r_iload_n C dX2_settleFlows_2 0 rfl ?_
      refine r_aload_n C dX2_settleFlows_3 2 rfl ?_
      refine r_geti C dX2_settleFlows_4 8 f_X2_65 rfl rfl ?_
      refine r_valI (y := nI (vN V)) (hV2.1) ?_
      refine r_icmp_ge (tgt := 35) C dX2_settleFlows_7 (by decide) (fun c7 => ?_) (fun c7 => ?_)
      ·
        have hkn2 : k = vN V := by have := le_of_le (by omega) (by omega) c7; omega
        refine r_aload_n C dX2_settleFlows_35 2 rfl ?_
        refine r_aload_n C dX2_settleFlows_36 1 rfl ?_
        refine r_getr (q2 := (H + 1)) C dX2_settleFlows_37 0 f_X2_9 (hH.1) rfl ?_
        refine r_callSV (As := [.ref (mA G 2), .ref (mA G (H + 1))]) (rest := []) C dX2_settleFlows_40 s_X2_76 (c_X2_addUpTheTree l G hG (mrow M (H + 1) f) g V hT hV2 (H + 1) hH.2.1 (by omega)) (by decide) rfl rfl (Nat.le_of_ble_eq_true rfl) (Nat.zero_le _) (Nat.zero_le _) (pk_V ?_)
        exact hend _ _ _ _ dX2_settleFlows_43 (⟨⟨_, mrow_mrow _ _ _ _, fun j hj => by rw [mrow_at]; exact addUp_cong (vN V - 1) _ _ (by omega) (fun j h1 h2 => (hpar j h1 (by omega)).2) (fun j hj => by by_cases e : j = 0; (subst e; rw [hf 0 (by omega), hd3, hd5]; rfl); rw [hf j (by omega), if_neg e]) j hj⟩, rfl⟩)
      ·
        have hlt : k < vN V := lt_of_nle (by omega) c7
        refine r_aload_n C dX2_settleFlows_10 1 rfl ?_
        refine r_getr (q2 := (H + 1)) C dX2_settleFlows_11 0 f_X2_9 (hH.1) rfl ?_
        refine r_iload_n C dX2_settleFlows_14 0 rfl ?_
        refine r_aload_n C dX2_settleFlows_15 2 rfl ?_
        refine r_getr (q2 := 6) C dX2_settleFlows_16 3 f_X2_70 rfl rfl ?_
        refine r_iload_n C dX2_settleFlows_19 0 rfl ?_
        refine r_ialdN (j := k) (v := vD V 3 k) C dX2_settleFlows_20 rfl (rfl) (by omega) (by decide) (hV2.at 3 (by decide) hlt) ?_
        refine r_aload_n C dX2_settleFlows_21 2 rfl ?_
        refine r_getr (q2 := 8) C dX2_settleFlows_22 5 f_X2_73 rfl rfl ?_
        refine r_iload_n C dX2_settleFlows_25 0 rfl ?_
        refine r_ialdN (j := k) (v := vD V 5 k) C dX2_settleFlows_26 rfl (rfl) (by omega) (by decide) (hV2.at 5 (by decide) hlt) ?_
        refine r_iadd C dX2_settleFlows_27 ?_
        refine r_iastN (j := k) C dX2_settleFlows_28 ((hH).2.1) (rfl) (by omega) (by decide) ?_
        refine r_mem (M' := mrow M (H + 1) (upd f k (vD V 3 k + vD V 5 k))) (mset_row _ _ _ _ _) ?_
        refine r_iinc (v := nI (k + 1)) (L' := [(2, .int (nI (k + 1))), (0, .ref (mA G H)), (1, .ref (mA G 2))]) C dX2_settleFlows_29 0 rfl (nI_inc _) (by decide) rfl ?_
        refine r_goto (tgt := 2) C dX2_settleFlows_32 (by decide) ?_
        refine r_sub (L' := [(2, .int (nI (k + 1))), (0, .ref (mA G H)), (1, .ref (mA G 2))]) [0, 1, 2] rfl ?_
        exact ih2 (k + 1) (upd f k (vD V 3 k + vD V 5 k)) (by omega) (fun j hj => by rcases Nat.lt_or_ge j k with q | q; rw [upd_ne (by omega)]; exact hf j q; (have e9 : j = k := by omega); subst e9; rw [upd_at]) (by omega)
  refine r_mem (M' := mrow M (H + 1) (M (H + 1))) (mrow_self _ _).symm ?_
  refine r_sub (L' := [(2, .int (nI 0)), (0, .ref (mA G H)), (1, .ref (mA G 2))]) [0, 1, 2] rfl ?_
  exact lp2 _ 0 (M (H + 1)) (by omega) (fun j hj => by omega) (Nat.lt_succ_self _)

set_option maxRecDepth 20000 in
set_option maxHeartbeats 1000000 in
theorem c_X2_warmthBehind (l : Launch) (G : mG) (hG : mInj G) (M : Mem) (g : Glo) (a b w f : Int32) (hz : ¬ f ≤ 0 → ¬ 1000 * f = 0) : mcI l G yX2_warmthBehind cX2_warmthBehind 5 .int 1 [.int a, .int b, .int w, .int f] M g (fun r M' g' => r = behindF a b w f ∧ M' = M ∧ g' = g) := by
  refine mcI_of (L0 := [(0, .int a), (1, .int b), (2, .int w), (3, .int f)]) hG (by decide) (Nat.le_of_ble_eq_true rfl) rfl ?_
  intro p e s m args below meth c Q C hend
  refine r_iload_n C dX2_warmthBehind_0 3 rfl ?_
  refine r_if_gt (tgt := 10) C dX2_warmthBehind_1 (by decide) (fun c1 => ?_) (fun c1 => ?_)
  ·
    refine r_iload_n C dX2_warmthBehind_10 0 rfl ?_
    refine r_iload_n C dX2_warmthBehind_11 1 rfl ?_
    refine r_icmp_gt (tgt := 17) C dX2_warmthBehind_12 (by decide) (fun c12 => ?_) (fun c12 => ?_)
    ·
      refine r_iload_n C dX2_warmthBehind_17 0 rfl ?_
      refine r_iload_n C dX2_warmthBehind_18 1 rfl ?_
      refine r_isub C dX2_warmthBehind_19 ?_
      refine r_istore (L' := [(4, .int (a - b)), (0, .int a), (1, .int b), (2, .int w), (3, .int f)]) C dX2_warmthBehind_20 (by decide) rfl ?_
      refine r_iload_n C dX2_warmthBehind_22 1 rfl ?_
      refine r_iload C dX2_warmthBehind_23 0 rfl ?_
      refine r_iload C dX2_warmthBehind_25 0 rfl ?_
      refine r_iload_n C dX2_warmthBehind_27 3 rfl ?_
      refine r_imul C dX2_warmthBehind_28 ?_
      refine r_sipush (v := 1000) C dX2_warmthBehind_29 rfl ?_
      refine r_iload_n C dX2_warmthBehind_32 4 rfl ?_
      refine r_imul C dX2_warmthBehind_33 ?_
      refine r_idiv C dX2_warmthBehind_34 (hz (i32_nle.mpr c1)) ?_
      refine r_min (v := minI (a - b) ((a - b) * w / (1000 * f))) C dX2_warmthBehind_35 s_X2_110 (Nat.le_of_ble_eq_true rfl) (Nat.zero_le _) (Nat.zero_le _) (rfl) ?_
      refine r_isub C dX2_warmthBehind_38 ?_
      exact hend _ _ _ _ _ dX2_warmthBehind_39 (rfl) (⟨by unfold behindF; rw [if_neg (i32_nle.mpr c1), if_neg (i32_nle.mpr c12)], rfl, rfl⟩)
    ·
      refine r_iload_n C dX2_warmthBehind_15 0 rfl ?_
      exact hend _ _ _ _ _ dX2_warmthBehind_16 (rfl) (⟨by unfold behindF; rw [if_neg (i32_nle.mpr c1), if_pos (i32_nlt.mp c12)], rfl, rfl⟩)
  ·
    refine r_iload_n C dX2_warmthBehind_4 0 rfl ?_
    refine r_iload_n C dX2_warmthBehind_5 1 rfl ?_
    refine r_min (v := minI a b) C dX2_warmthBehind_6 s_X2_110 (Nat.le_of_ble_eq_true rfl) (Nat.zero_le _) (Nat.zero_le _) (rfl) ?_
    exact hend _ _ _ _ _ dX2_warmthBehind_9 (rfl) (⟨by unfold behindF; rw [if_pos (i32_nlt.mp c1)], rfl, rfl⟩)

set_option maxRecDepth 20000 in
set_option maxHeartbeats 1000000 in
theorem c_X2_warmthAbove (l : Launch) (G : mG) (hG : mInj G) (M : Mem) (g : Glo) (V : View) (hT : wfT V) (hV : cNet M 2 V) (H : Nat) (hH : isHour H) (hH9 : 70 < H) (j : Nat) (h0 : 0 < j) (hj : j < vN V) : mcI l G yX2_warmthAbove cX2_warmthAbove 3 .int 2 [.ref (mA G H), .ref (mA G 2), .int (nI j)] M g (fun r M' g' => r = M (H + 2) (vP V j) ∧ M' = M ∧ g' = g) := by
  refine mcI_of (L0 := [(0, .ref (mA G H)), (1, .ref (mA G 2)), (2, .int (nI j))]) hG (by decide) (Nat.le_of_ble_eq_true rfl) rfl ?_
  intro p e s m args below meth c Q C hend
  have hT0 := hT
  obtain ⟨hn1, hn16, hb4, ⟨hd0, hd3, hd5, hd6⟩, hpar⟩ := hT0
  obtain ⟨hp1, hp2⟩ := hpar j h0 hj
  refine r_aload_n C dX2_warmthAbove_0 1 rfl ?_
  refine r_iload_n C dX2_warmthAbove_1 2 rfl ?_
  refine r_callVI (As := [.int (nI j)]) (rest := []) C dX2_warmthAbove_2 s_X2_122 (c_X3_hasParent l G hG M g V hT hV j h0 hj) (by decide) rfl rfl rfl rfl (Nat.le_of_ble_eq_true rfl) (Nat.zero_le _) (Nat.zero_le _) (pk_I ?_)
  refine r_if_eq (tgt := 22) C dX2_warmthAbove_5 (by decide) (fun h => absurd h (by decide)) (fun _ => ?_)
  refine r_aload_n C dX2_warmthAbove_8 0 rfl ?_
  refine r_getr (q2 := (H + 2)) C dX2_warmthAbove_9 1 f_X2_15 (hH.1) rfl ?_
  refine r_aload_n C dX2_warmthAbove_12 1 rfl ?_
  refine r_getr (q2 := 3) C dX2_warmthAbove_13 0 f_X2_126 rfl rfl ?_
  refine r_iload_n C dX2_warmthAbove_16 2 rfl ?_
  refine r_ialdN (j := j) (v := nI (vP V j)) C dX2_warmthAbove_17 rfl (rfl) (by omega) (by decide) ((hV.at 0 (by decide) hj).trans hp1) ?_
  refine r_ialdN (j := vP V j) (v := M (H + 2) (vP V j)) C dX2_warmthAbove_18 ((hH).2.2.1) (rfl) (by omega) (by decide) (rfl) ?_
  refine r_goto (tgt := 23) C dX2_warmthAbove_19 (by decide) ?_
  exact hend _ _ _ _ _ dX2_warmthAbove_23 (rfl) (⟨rfl, rfl, rfl⟩)

set_option maxRecDepth 20000 in
set_option maxHeartbeats 1000000 in
theorem c_X2_returnOf (l : Launch) (G : mG) (hG : mInj G) (M : Mem) (g : Glo) (V : View) (hT : wfT V) (hV : cNet M 2 V) (H : Nat) (hH : isHour H) (hH9 : 70 < H) (j : Nat) (hj : j < vN V) : mcI l G yX2_returnOf cX2_returnOf 3 .int 1 [.ref (mA G H), .ref (mA G 2), .int (nI j)] M g (fun r M' g' => r = minI (vD V 4 j) (M (H + 2) j) ∧ M' = M ∧ g' = g) := by
  refine mcI_of (L0 := [(0, .ref (mA G H)), (1, .ref (mA G 2)), (2, .int (nI j))]) hG (by decide) (Nat.le_of_ble_eq_true rfl) rfl ?_
  intro p e s m args below meth c Q C hend
  have hT0 := hT
  obtain ⟨hn1, hn16, hb4, ⟨hd0, hd3, hd5, hd6⟩, hpar⟩ := hT0
  refine r_aload_n C dX2_returnOf_0 1 rfl ?_
  refine r_getr (q2 := 7) C dX2_returnOf_1 4 f_X2_119 rfl rfl ?_
  refine r_iload_n C dX2_returnOf_4 2 rfl ?_
  refine r_ialdN (j := j) (v := vD V 4 j) C dX2_returnOf_5 rfl (rfl) (by omega) (by decide) (hV.at 4 (by decide) hj) ?_
  refine r_aload_n C dX2_returnOf_6 0 rfl ?_
  refine r_getr (q2 := (H + 2)) C dX2_returnOf_7 1 f_X2_15 (hH.1) rfl ?_
  refine r_iload_n C dX2_returnOf_10 2 rfl ?_
  refine r_ialdN (j := j) (v := M (H + 2) j) C dX2_returnOf_11 ((hH).2.2.1) (rfl) (by omega) (by decide) (rfl) ?_
  refine r_min (v := minI (vD V 4 j) (M (H + 2) j)) C dX2_returnOf_12 s_X2_110 (Nat.le_of_ble_eq_true rfl) (Nat.zero_le _) (Nat.zero_le _) (rfl) ?_
  exact hend _ _ _ _ _ dX2_returnOf_15 (rfl) (⟨rfl, rfl, rfl⟩)

set_option maxRecDepth 20000 in
set_option maxHeartbeats 1000000 in
theorem c_X2_settleWarmth (l : Launch) (G : mG) (hG : mInj G) (M : Mem) (g : Glo) (V : View) (hT : wfT V) (hV : cNet M 2 V) (H : Nat) (hH : isHour H) (hH9 : 70 < H) (sup : Int32) (hgd : M 1 3 = vS V 1) (hfl : ∀ j, j < vN V → M (H + 1) j = flowF V j) (hdv : ∀ j, 0 < j → j < vN V → ¬ flowF V j ≤ 0 → ¬ 1000 * flowF V j = 0) : mcV l G yX2_settleWarmth cX2_settleWarmth 6 3 [.ref (mA G H), .ref (mA G 1), .int sup] M g (fun M' g' => (∃ f, M' = mrow M (H + 2) f ∧ ∀ j, j < vN V → f j = warmF V sup j) ∧ g' = g) := by
  refine mcV_of (L0 := [(0, .ref (mA G H)), (1, .ref (mA G 1)), (2, .int sup)]) hG (by decide) (Nat.le_of_ble_eq_true rfl) rfl ?_
  intro p e s m args below meth c Q C hend
  have hT0 := hT
  obtain ⟨hn1, hn16, hb4, ⟨hd0, hd3, hd5, hd6⟩, hpar⟩ := hT0
  refine r_aload_n C dX2_settleWarmth_0 1 rfl ?_
  refine r_getr (q2 := 2) C dX2_settleWarmth_1 0 f_X2_34 rfl rfl ?_
  refine r_astore_n (L' := [(3, .ref (mA G 2)), (0, .ref (mA G H)), (1, .ref (mA G 1)), (2, .int sup)]) C dX2_settleWarmth_4 (by decide) rfl ?_
  refine r_aload_n C dX2_settleWarmth_5 1 rfl ?_
  refine r_getr (q2 := (H + 2)) C dX2_settleWarmth_6 1 f_X2_15 (hH.1) rfl ?_
  refine r_iconst (v := 0) C dX2_settleWarmth_9 rfl ?_
  refine r_iload_n C dX2_settleWarmth_10 3 rfl ?_
  refine r_iastN (j := 0) C dX2_settleWarmth_11 ((hH).2.2.1) (rfl) (by omega) (by decide) ?_
  refine r_mem (M' := mrow M (H + 2) (upd (M (H + 2)) 0 sup)) (rfl) ?_
  refine r_iconst (v := nI 1) C dX2_settleWarmth_12 rfl ?_
  refine r_istore (L' := [(4, .int (nI 1)), (3, .ref (mA G 2)), (0, .ref (mA G H)), (1, .ref (mA G 1)), (2, .int sup)]) C dX2_settleWarmth_13 (by decide) rfl ?_
  have lp15 : ∀ (fu : Nat) (k : Nat) (f : Nat → Int32), (0 < k) → (k ≤ vN V) → (∀ j, j < k → f j = warmF V sup j) → (vN V - k) < fu → At p l e (rmD 3 0 0) s m args below meth c G 6 0 0 Q (mrow M (H + 2) f) g [(4, .int (nI k)), (3, .ref (mA G 2)), (0, .ref (mA G H)), (1, .ref (mA G 1)), (2, .int sup)] 15 [] := by
    intro fu
    induction fu with
    | zero => intro k f hk0 hkn hf hfu; exact absurd hfu (Nat.not_lt_zero _)
    | succ fu ih15 =>
      intro k f hk0 hkn hf hfu15
      have hV2 : cNet (mrow M (H + 2) f) 2 V := hV.off (offR.row f (Nat.le_refl _) (Nat.le_refl _)) (by omega)
      refine r_iload C dX2_settleWarmth_15 0 rfl ?_
      refine r_aload_n C dX2_settleWarmth_17 1 rfl ?_
      refine r_geti C dX2_settleWarmth_18 8 f_X2_65 rfl rfl ?_
      refine r_valI (y := nI (vN V)) (hV2.1) ?_
      refine r_icmp_ge (tgt := 77) C dX2_settleWarmth_21 (by decide) (fun c21 => ?_) (fun c21 => ?_)
      ·
        have hkn2 : k = vN V := by have := le_of_le (by omega) (by omega) c21; omega
        exact hend _ _ _ _ dX2_settleWarmth_77 (⟨⟨_, rfl, fun j hj => hf j (by omega)⟩, rfl⟩)
      ·
        have hlt : k < vN V := lt_of_nle (by omega) c21
        refine r_aload_n C dX2_settleWarmth_24 1 rfl ?_
        refine r_getr (q2 := 5) C dX2_settleWarmth_25 2 f_X2_80 rfl rfl ?_
        refine r_iload C dX2_settleWarmth_28 0 rfl ?_
        refine r_ialdN (j := k) (v := vD V 2 k) C dX2_settleWarmth_30 rfl (rfl) (by omega) (by decide) (hV2.at 2 (by decide) hlt) ?_
        refine r_aload_n C dX2_settleWarmth_31 1 rfl ?_
        refine r_getr (q2 := 4) C dX2_settleWarmth_32 1 f_X2_83 rfl rfl ?_
        refine r_iload C dX2_settleWarmth_35 0 rfl ?_
        refine r_ialdN (j := k) (v := vD V 1 k) C dX2_settleWarmth_37 rfl (rfl) (by omega) (by decide) (hV2.at 1 (by decide) hlt) ?_
        refine r_imul C dX2_settleWarmth_38 ?_
        refine r_istore (L' := [(5, .int ((vD V 2 k) * (vD V 1 k))), (4, .int (nI k)), (3, .ref (mA G 2)), (0, .ref (mA G H)), (1, .ref (mA G 1)), (2, .int sup)]) C dX2_settleWarmth_39 (by decide) rfl ?_
        refine r_aload_n C dX2_settleWarmth_41 3 rfl ?_
        refine r_getr (q2 := (H + 2)) C dX2_settleWarmth_42 1 f_X2_15 (hH.1) rfl ?_
        refine r_iload C dX2_settleWarmth_45 1 rfl ?_
        refine r_aload_n C dX2_settleWarmth_47 3 rfl ?_
        refine r_aload_n C dX2_settleWarmth_48 2 rfl ?_
        refine r_iload C dX2_settleWarmth_49 1 rfl ?_
        refine r_callVI (As := [.ref (mA G 2), .int (nI k)]) (rest := [.int (nI k), .ref (mA G (H + 2))]) C dX2_settleWarmth_51 s_X2_86 (c_X2_warmthAbove l G hG (mrow M (H + 2) f) g V hT hV2 H hH hH9 k hk0 hlt) (by decide) (hH.1) rfl rfl rfl (Nat.le_of_ble_eq_true rfl) (Nat.zero_le _) (Nat.zero_le _) (pk_I ?_)
        refine r_valI (y := f (vP V k)) (by rw [mrow_at]) ?_
        refine r_aload_n C dX2_settleWarmth_54 4 rfl ?_
        refine r_geti C dX2_settleWarmth_55 3 f_X2_90 rfl rfl ?_
        refine r_valI (y := vS V 1) ((congrFun (mrow_ne (by omega) f) 3).trans hgd) ?_
        refine r_iload C dX2_settleWarmth_58 0 rfl ?_
        refine r_aload_n C dX2_settleWarmth_60 3 rfl ?_
        refine r_getr (q2 := (H + 1)) C dX2_settleWarmth_61 0 f_X2_9 (hH.1) rfl ?_
        refine r_iload C dX2_settleWarmth_64 1 rfl ?_
        refine r_ialdN (j := k) (v := flowF V k) C dX2_settleWarmth_66 ((hH).2.1) (rfl) (by omega) (by decide) ((congrFun (mrow_ne (by omega) f) k).trans (hfl k hlt)) ?_
        refine r_callSI (As := [.int (f (vP V k)), .int (vS V 1), .int ((vD V 2 k) * (vD V 1 k)), .int (flowF V k)]) (rest := [.int (nI k), .ref (mA G (H + 2))]) C dX2_settleWarmth_67 s_X2_93 (c_X2_warmthBehind l G hG (mrow M (H + 2) f) g (f (vP V k)) (vS V 1) (vD V 2 k * vD V 1 k) (flowF V k) (hdv k hk0 hlt)) (by decide) rfl rfl (Nat.le_of_ble_eq_true rfl) (Nat.zero_le _) (Nat.zero_le _) (pk_I ?_)
        refine r_iastN (j := k) C dX2_settleWarmth_70 ((hH).2.2.1) (rfl) (by omega) (by decide) ?_
        refine r_mem (M' := mrow M (H + 2) (upd f k (behindF (f (vP V k)) (vS V 1) (vD V 2 k * vD V 1 k) (flowF V k)))) (mset_row _ _ _ _ _) ?_
        refine r_iinc (v := nI (k + 1)) (L' := [(4, .int (nI (k + 1))), (5, .int ((vD V 2 k) * (vD V 1 k))), (3, .ref (mA G 2)), (0, .ref (mA G H)), (1, .ref (mA G 1)), (2, .int sup)]) C dX2_settleWarmth_71 1 rfl (nI_inc _) (by decide) rfl ?_
        refine r_goto (tgt := 15) C dX2_settleWarmth_74 (by decide) ?_
        refine r_sub (L' := [(4, .int (nI (k + 1))), (3, .ref (mA G 2)), (0, .ref (mA G H)), (1, .ref (mA G 1)), (2, .int sup)]) [0, 2, 3, 4, 5] rfl ?_
        exact ih15 (k + 1) _ (by omega) (by omega) (fun j hj => by rcases Nat.lt_or_ge j k with q | q; rw [upd_ne (by omega)]; exact hf j q; (have e9 : j = k := by omega); subst e9; rw [upd_at, warmF_s V sup hk0 (hpar j hk0 hlt).2, hf _ (hpar j hk0 hlt).2]; rfl) (by omega)
  refine r_sub (L' := [(4, .int (nI 1)), (3, .ref (mA G 2)), (0, .ref (mA G H)), (1, .ref (mA G 1)), (2, .int sup)]) [0, 1, 2, 3, 4] rfl ?_
  exact lp15 _ 1 (upd (M (H + 2)) 0 sup) (by omega) hn1 (fun j hj => by (have e9 : j = 0 := by omega); subst e9; rw [upd_at, warmF_0]) (Nat.lt_succ_self _)

set_option maxRecDepth 20000 in
set_option maxHeartbeats 1000000 in
theorem c_X2_settleReturns (l : Launch) (G : mG) (hG : mInj G) (M : Mem) (g : Glo) (V : View) (hT : wfT V) (hV : cNet M 2 V) (H : Nat) (hH : isHour H) (hH9 : 70 < H) (sup : Int32) (hw : ∀ j, j < vN V → M (H + 2) j = warmF V sup j) : mcV l G yX2_settleReturns cX2_settleReturns 3 3 [.ref (mA G H), .ref (mA G 2)] M g (fun M' g' => (∃ f, M' = mrow M (H + 3) f ∧ ∀ j, j < vN V → f j = backF V sup j) ∧ g' = g) := by
  refine mcV_of (L0 := [(0, .ref (mA G H)), (1, .ref (mA G 2))]) hG (by decide) (Nat.le_of_ble_eq_true rfl) rfl ?_
  intro p e s m args below meth c Q C hend
  have hT0 := hT
  obtain ⟨hn1, hn16, hb4, ⟨hd0, hd3, hd5, hd6⟩, hpar⟩ := hT0
  refine r_iconst (v := nI 0) C dX2_settleReturns_0 rfl ?_
  refine r_istore_n (L' := [(2, .int (nI 0)), (0, .ref (mA G H)), (1, .ref (mA G 2))]) C dX2_settleReturns_1 (by decide) rfl ?_
  have lp2 : ∀ (fu : Nat) (k : Nat) (f : Nat → Int32), (k ≤ vN V) → (∀ j, j < k → f j = vD V 3 j * rF V sup j) → (vN V - k) < fu → At p l e (rmD 3 0 0) s m args below meth c G 3 0 0 Q (mrow M (H + 3) f) g [(2, .int (nI k)), (0, .ref (mA G H)), (1, .ref (mA G 2))] 2 [] := by
    intro fu
    induction fu with
    | zero => intro k f hkn hf hfu; exact absurd hfu (Nat.not_lt_zero _)
    | succ fu ih2 =>
      intro k f hkn hf hfu2
      have hV2 : cNet (mrow M (H + 3) f) 2 V := hV.off (offR.row f (Nat.le_refl _) (Nat.le_refl _)) (by omega)
      refine r_iload_n C dX2_settleReturns_2 0 rfl ?_
      refine r_aload_n C dX2_settleReturns_3 2 rfl ?_
      refine r_geti C dX2_settleReturns_4 8 f_X2_65 rfl rfl ?_
      refine r_valI (y := nI (vN V)) (hV2.1) ?_
      refine r_icmp_ge (tgt := 35) C dX2_settleReturns_7 (by decide) (fun c7 => ?_) (fun c7 => ?_)
      ·
        have hkn2 : k = vN V := by have := le_of_le (by omega) (by omega) c7; omega
        refine r_aload_n C dX2_settleReturns_35 2 rfl ?_
        refine r_aload_n C dX2_settleReturns_36 1 rfl ?_
        refine r_getr (q2 := (H + 3)) C dX2_settleReturns_37 2 f_X2_18 (hH.1) rfl ?_
        refine r_callSV (As := [.ref (mA G 2), .ref (mA G (H + 3))]) (rest := []) C dX2_settleReturns_40 s_X2_76 (c_X2_addUpTheTree l G hG (mrow M (H + 3) f) g V hT hV2 (H + 3) hH.2.2.2.1 (by omega)) (by decide) rfl rfl (Nat.le_of_ble_eq_true rfl) (Nat.zero_le _) (Nat.zero_le _) (pk_V ?_)
        exact hend _ _ _ _ dX2_settleReturns_43 (⟨⟨_, mrow_mrow _ _ _ _, fun j hj => by rw [mrow_at]; exact addUp_cong (vN V - 1) _ _ (by omega) (fun j h1 h2 => (hpar j h1 (by omega)).2) (fun j hj => by by_cases e : j = 0; (subst e; rw [hf 0 (by omega), hd3, if_pos rfl, Int32.zero_mul]); rw [hf j (by omega), if_neg e]) j hj⟩, rfl⟩)
      ·
        have hlt : k < vN V := lt_of_nle (by omega) c7
        refine r_aload_n C dX2_settleReturns_10 1 rfl ?_
        refine r_getr (q2 := (H + 3)) C dX2_settleReturns_11 2 f_X2_18 (hH.1) rfl ?_
        refine r_iload_n C dX2_settleReturns_14 0 rfl ?_
        refine r_aload_n C dX2_settleReturns_15 2 rfl ?_
        refine r_getr (q2 := 6) C dX2_settleReturns_16 3 f_X2_70 rfl rfl ?_
        refine r_iload_n C dX2_settleReturns_19 0 rfl ?_
        refine r_ialdN (j := k) (v := vD V 3 k) C dX2_settleReturns_20 rfl (rfl) (by omega) (by decide) (hV2.at 3 (by decide) hlt) ?_
        refine r_aload_n C dX2_settleReturns_21 1 rfl ?_
        refine r_aload_n C dX2_settleReturns_22 2 rfl ?_
        refine r_iload_n C dX2_settleReturns_23 0 rfl ?_
        refine r_callVI (As := [.ref (mA G 2), .int (nI k)]) (rest := [.int (vD V 3 k), .int (nI k), .ref (mA G (H + 3))]) C dX2_settleReturns_24 s_X2_97 (c_X2_returnOf l G hG (mrow M (H + 3) f) g V hT hV2 H hH hH9 k hlt) (by decide) (hH.1) rfl rfl rfl (Nat.le_of_ble_eq_true rfl) (Nat.zero_le _) (Nat.zero_le _) (pk_I ?_)
        refine r_valI (y := rF V sup k) (by rw [mrow_ne (by omega), hw k hlt]; rfl) ?_
        refine r_imul C dX2_settleReturns_27 ?_
        refine r_iastN (j := k) C dX2_settleReturns_28 ((hH).2.2.2.1) (rfl) (by omega) (by decide) ?_
        refine r_mem (M' := mrow M (H + 3) (upd f k (vD V 3 k * rF V sup k))) (mset_row _ _ _ _ _) ?_
        refine r_iinc (v := nI (k + 1)) (L' := [(2, .int (nI (k + 1))), (0, .ref (mA G H)), (1, .ref (mA G 2))]) C dX2_settleReturns_29 0 rfl (nI_inc _) (by decide) rfl ?_
        refine r_goto (tgt := 2) C dX2_settleReturns_32 (by decide) ?_
        refine r_sub (L' := [(2, .int (nI (k + 1))), (0, .ref (mA G H)), (1, .ref (mA G 2))]) [0, 1, 2] rfl ?_
        exact ih2 (k + 1) (upd f k (vD V 3 k * rF V sup k)) (by omega) (fun j hj => by rcases Nat.lt_or_ge j k with q | q; rw [upd_ne (by omega)]; exact hf j q; (have e9 : j = k := by omega); subst e9; rw [upd_at]) (by omega)
  refine r_mem (M' := mrow M (H + 3) (M (H + 3))) (mrow_self _ _).symm ?_
  refine r_sub (L' := [(2, .int (nI 0)), (0, .ref (mA G H)), (1, .ref (mA G 2))]) [0, 1, 2] rfl ?_
  exact lp2 _ 0 (M (H + 3)) (by omega) (fun j hj => by omega) (Nat.lt_succ_self _)
end
