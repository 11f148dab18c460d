section
-- ===== PART A: goes FIRST, ahead of the names: the tables' words, and 'selects' of the private methods out of them =====
/-- a private method of a class that the tables say can be made, by its rows of tables_1 -/
def lw_okq (q : MethodName × Nat) : Prop := (q.1.cls ≠ "java/lang/invoke/MethodHandle" ∧ q.1.cls ≠ "java/lang/invoke/VarHandle") ∧ Cond.instantiable q.1.cls q.2 ∈ tables_1 ∧ Cond.privateMethod q.1 ∈ tables_1 ∧ Cond.instanceMethod q.1 ∈ tables_1
theorem lw_p0 : lw_okq (⟨"ReleaseSolver$Version", "readItem", "(ILjava/lang/String;I)V"⟩, 2) := ⟨⟨by decide +kernel, by decide +kernel⟩, List.mem_of_getElem? (i := 132) (by decide +kernel), List.mem_of_getElem? (i := 204) (by decide +kernel), List.mem_of_getElem? (i := 205) (by decide +kernel)⟩
theorem lw_p1 : lw_okq (⟨"ReleaseSolver", "append", "(I)V"⟩, 8) := ⟨⟨by decide +kernel, by decide +kernel⟩, List.mem_of_getElem? (i := 26) (by decide +kernel), List.mem_of_getElem? (i := 389) (by decide +kernel), List.mem_of_getElem? (i := 390) (by decide +kernel)⟩
theorem lw_p2 : lw_okq (⟨"ReleaseSolver", "takeText", "()Ljava/lang/String;"⟩, 8) := ⟨⟨by decide +kernel, by decide +kernel⟩, List.mem_of_getElem? (i := 26) (by decide +kernel), List.mem_of_getElem? (i := 477) (by decide +kernel), List.mem_of_getElem? (i := 478) (by decide +kernel)⟩
theorem lw_p3 : lw_okq (⟨"java/util/ArrayList", "add", "(Ljava/lang/Object;[Ljava/lang/Object;I)V"⟩, 3) := ⟨⟨by decide +kernel, by decide +kernel⟩, List.mem_of_getElem? (i := 69) (by decide +kernel), List.mem_of_getElem? (i := 576) (by decide +kernel), List.mem_of_getElem? (i := 577) (by decide +kernel)⟩
theorem lw_p4 : lw_okq (⟨"java/util/ArrayList", "grow", "()[Ljava/lang/Object;"⟩, 3) := ⟨⟨by decide +kernel, by decide +kernel⟩, List.mem_of_getElem? (i := 69) (by decide +kernel), List.mem_of_getElem? (i := 580) (by decide +kernel), List.mem_of_getElem? (i := 581) (by decide +kernel)⟩
theorem lw_p5 : lw_okq (⟨"java/util/ArrayList", "grow", "(I)[Ljava/lang/Object;"⟩, 3) := ⟨⟨by decide +kernel, by decide +kernel⟩, List.mem_of_getElem? (i := 69) (by decide +kernel), List.mem_of_getElem? (i := 584) (by decide +kernel), List.mem_of_getElem? (i := 585) (by decide +kernel)⟩
theorem lw_p6 : lw_okq (⟨"ReleaseSolver", "releaseAt", "(II)LReleaseSolver$Release;"⟩, 8) := ⟨⟨by decide +kernel, by decide +kernel⟩, List.mem_of_getElem? (i := 26) (by decide +kernel), List.mem_of_getElem? (i := 620) (by decide +kernel), List.mem_of_getElem? (i := 621) (by decide +kernel)⟩
theorem lw_p7 : lw_okq (⟨"java/util/ArrayList", "fastRemove", "([Ljava/lang/Object;I)V"⟩, 3) := ⟨⟨by decide +kernel, by decide +kernel⟩, List.mem_of_getElem? (i := 69) (by decide +kernel), List.mem_of_getElem? (i := 778) (by decide +kernel), List.mem_of_getElem? (i := 779) (by decide +kernel)⟩
theorem lw_p8 : lw_okq (⟨"ReleaseSolver$Search", "prepareOrder", "(ILReleaseSolver$Plugin;)V"⟩, 9) := ⟨⟨by decide +kernel, by decide +kernel⟩, List.mem_of_getElem? (i := 95) (by decide +kernel), List.mem_of_getElem? (i := 814) (by decide +kernel), List.mem_of_getElem? (i := 815) (by decide +kernel)⟩
theorem lw_p9 : lw_okq (⟨"ReleaseSolver$Search", "prepareNeeds", "([LReleaseSolver$Plugin;II)V"⟩, 9) := ⟨⟨by decide +kernel, by decide +kernel⟩, List.mem_of_getElem? (i := 95) (by decide +kernel), List.mem_of_getElem? (i := 823) (by decide +kernel), List.mem_of_getElem? (i := 824) (by decide +kernel)⟩
theorem lw_p10 : lw_okq (⟨"ReleaseSolver$Search", "keepOnly", "(IIII)V"⟩, 9) := ⟨⟨by decide +kernel, by decide +kernel⟩, List.mem_of_getElem? (i := 95) (by decide +kernel), List.mem_of_getElem? (i := 839) (by decide +kernel), List.mem_of_getElem? (i := 840) (by decide +kernel)⟩
theorem lw_p11 : lw_okq (⟨"ReleaseSolver$Search", "prepareUsable", "(ILReleaseSolver$Plugin;LReleaseSolver$Version;)V"⟩, 9) := ⟨⟨by decide +kernel, by decide +kernel⟩, List.mem_of_getElem? (i := 95) (by decide +kernel), List.mem_of_getElem? (i := 846) (by decide +kernel), List.mem_of_getElem? (i := 847) (by decide +kernel)⟩
theorem lw_p12 : lw_okq (⟨"ReleaseSolver$Search", "prepareAsks", "([LReleaseSolver$Plugin;Ljava/util/ArrayList;)V"⟩, 9) := ⟨⟨by decide +kernel, by decide +kernel⟩, List.mem_of_getElem? (i := 95) (by decide +kernel), List.mem_of_getElem? (i := 855) (by decide +kernel), List.mem_of_getElem? (i := 856) (by decide +kernel)⟩
theorem lw_p13 : lw_okq (⟨"ReleaseSolver$Search", "settle", "(I)Z"⟩, 9) := ⟨⟨by decide +kernel, by decide +kernel⟩, List.mem_of_getElem? (i := 95) (by decide +kernel), List.mem_of_getElem? (i := 865) (by decide +kernel), List.mem_of_getElem? (i := 866) (by decide +kernel)⟩
theorem lw_p14 : lw_okq (⟨"ReleaseSolver$Search", "tryOption", "(II)Z"⟩, 9) := ⟨⟨by decide +kernel, by decide +kernel⟩, List.mem_of_getElem? (i := 95) (by decide +kernel), List.mem_of_getElem? (i := 869) (by decide +kernel), List.mem_of_getElem? (i := 870) (by decide +kernel)⟩
theorem lw_p15 : lw_okq (⟨"ReleaseSolver$Search", "allMayBeLedTo", "([I)Z"⟩, 9) := ⟨⟨by decide +kernel, by decide +kernel⟩, List.mem_of_getElem? (i := 95) (by decide +kernel), List.mem_of_getElem? (i := 873) (by decide +kernel), List.mem_of_getElem? (i := 874) (by decide +kernel)⟩
def lw_privs_1 : List (MethodName × Nat) := [(⟨"ReleaseSolver$Version", "readItem", "(ILjava/lang/String;I)V"⟩, 2), (⟨"ReleaseSolver", "append", "(I)V"⟩, 8), (⟨"ReleaseSolver", "takeText", "()Ljava/lang/String;"⟩, 8), (⟨"java/util/ArrayList", "add", "(Ljava/lang/Object;[Ljava/lang/Object;I)V"⟩, 3), (⟨"java/util/ArrayList", "grow", "()[Ljava/lang/Object;"⟩, 3), (⟨"java/util/ArrayList", "grow", "(I)[Ljava/lang/Object;"⟩, 3), (⟨"ReleaseSolver", "releaseAt", "(II)LReleaseSolver$Release;"⟩, 8), (⟨"java/util/ArrayList", "fastRemove", "([Ljava/lang/Object;I)V"⟩, 3), (⟨"ReleaseSolver$Search", "prepareOrder", "(ILReleaseSolver$Plugin;)V"⟩, 9), (⟨"ReleaseSolver$Search", "prepareNeeds", "([LReleaseSolver$Plugin;II)V"⟩, 9), (⟨"ReleaseSolver$Search", "keepOnly", "(IIII)V"⟩, 9), (⟨"ReleaseSolver$Search", "prepareUsable", "(ILReleaseSolver$Plugin;LReleaseSolver$Version;)V"⟩, 9), (⟨"ReleaseSolver$Search", "prepareAsks", "([LReleaseSolver$Plugin;Ljava/util/ArrayList;)V"⟩, 9), (⟨"ReleaseSolver$Search", "settle", "(I)Z"⟩, 9), (⟨"ReleaseSolver$Search", "tryOption", "(II)Z"⟩, 9), (⟨"ReleaseSolver$Search", "allMayBeLedTo", "([I)Z"⟩, 9)]
theorem lw_r1 : ∀ q ∈ lw_privs_1, lw_okq q := List.forall_mem_cons.mpr ⟨lw_p0, List.forall_mem_cons.mpr ⟨lw_p1, List.forall_mem_cons.mpr ⟨lw_p2, List.forall_mem_cons.mpr ⟨lw_p3, List.forall_mem_cons.mpr ⟨lw_p4, List.forall_mem_cons.mpr ⟨lw_p5, List.forall_mem_cons.mpr ⟨lw_p6, List.forall_mem_cons.mpr ⟨lw_p7, List.forall_mem_cons.mpr ⟨lw_p8, List.forall_mem_cons.mpr ⟨lw_p9, List.forall_mem_cons.mpr ⟨lw_p10, List.forall_mem_cons.mpr ⟨lw_p11, List.forall_mem_cons.mpr ⟨lw_p12, List.forall_mem_cons.mpr ⟨lw_p13, List.forall_mem_cons.mpr ⟨lw_p14, List.forall_mem_cons.mpr ⟨lw_p15, fun _ h => absurd h List.not_mem_nil⟩⟩⟩⟩⟩⟩⟩⟩⟩⟩⟩⟩⟩⟩⟩⟩
theorem lw_p16 : lw_okq (⟨"ReleaseSolver$Search", "leadsFrom", "(I[I)I"⟩, 9) := ⟨⟨by decide +kernel, by decide +kernel⟩, List.mem_of_getElem? (i := 95) (by decide +kernel), List.mem_of_getElem? (i := 877) (by decide +kernel), List.mem_of_getElem? (i := 878) (by decide +kernel)⟩
theorem lw_p17 : lw_okq (⟨"ReleaseSolver", "keepSelection", "()I"⟩, 8) := ⟨⟨by decide +kernel, by decide +kernel⟩, List.mem_of_getElem? (i := 26) (by decide +kernel), List.mem_of_getElem? (i := 881) (by decide +kernel), List.mem_of_getElem? (i := 882) (by decide +kernel)⟩
theorem lw_p18 : lw_okq (⟨"ReleaseSolver", "blameAmong", "(I)I"⟩, 8) := ⟨⟨by decide +kernel, by decide +kernel⟩, List.mem_of_getElem? (i := 26) (by decide +kernel), List.mem_of_getElem? (i := 889) (by decide +kernel), List.mem_of_getElem? (i := 890) (by decide +kernel)⟩
theorem lw_p19 : lw_okq (⟨"ReleaseSolver", "isMet", "(LReleaseSolver$Ask;)Z"⟩, 8) := ⟨⟨by decide +kernel, by decide +kernel⟩, List.mem_of_getElem? (i := 26) (by decide +kernel), List.mem_of_getElem? (i := 907) (by decide +kernel), List.mem_of_getElem? (i := 908) (by decide +kernel)⟩
theorem lw_p20 : lw_okq (⟨"ReleaseSolver", "countReleases", "()I"⟩, 8) := ⟨⟨by decide +kernel, by decide +kernel⟩, List.mem_of_getElem? (i := 26) (by decide +kernel), List.mem_of_getElem? (i := 915) (by decide +kernel), List.mem_of_getElem? (i := 916) (by decide +kernel)⟩
theorem lw_p21 : lw_okq (⟨"ReleaseSolver", "countWithdrawn", "()I"⟩, 8) := ⟨⟨by decide +kernel, by decide +kernel⟩, List.mem_of_getElem? (i := 26) (by decide +kernel), List.mem_of_getElem? (i := 920) (by decide +kernel), List.mem_of_getElem? (i := 921) (by decide +kernel)⟩
theorem lw_p22 : lw_okq (⟨"ReleaseSolver", "countNeeds", "()I"⟩, 8) := ⟨⟨by decide +kernel, by decide +kernel⟩, List.mem_of_getElem? (i := 26) (by decide +kernel), List.mem_of_getElem? (i := 928) (by decide +kernel), List.mem_of_getElem? (i := 929) (by decide +kernel)⟩
theorem lw_p23 : lw_okq (⟨"ReleaseSolverModel", "put", "(I)I"⟩, 20) := ⟨⟨by decide +kernel, by decide +kernel⟩, List.mem_of_getElem? (i := 936) (by decide +kernel), List.mem_of_getElem? (i := 1020) (by decide +kernel), List.mem_of_getElem? (i := 1021) (by decide +kernel)⟩
theorem lw_p24 : lw_okq (⟨"ReleaseSolverModel", "version", "(III)Z"⟩, 20) := ⟨⟨by decide +kernel, by decide +kernel⟩, List.mem_of_getElem? (i := 936) (by decide +kernel), List.mem_of_getElem? (i := 1032) (by decide +kernel), List.mem_of_getElem? (i := 1033) (by decide +kernel)⟩
theorem lw_p25 : lw_okq (⟨"ReleaseSolverModel", "at", "(II)I"⟩, 20) := ⟨⟨by decide +kernel, by decide +kernel⟩, List.mem_of_getElem? (i := 936) (by decide +kernel), List.mem_of_getElem? (i := 1036) (by decide +kernel), List.mem_of_getElem? (i := 1037) (by decide +kernel)⟩
theorem lw_p26 : lw_okq (⟨"ReleaseSolverModel", "used", "(I)I"⟩, 20) := ⟨⟨by decide +kernel, by decide +kernel⟩, List.mem_of_getElem? (i := 936) (by decide +kernel), List.mem_of_getElem? (i := 1040) (by decide +kernel), List.mem_of_getElem? (i := 1041) (by decide +kernel)⟩
theorem lw_p27 : lw_okq (⟨"ReleaseSolverModel", "ordered", "(IIII)I"⟩, 20) := ⟨⟨by decide +kernel, by decide +kernel⟩, List.mem_of_getElem? (i := 936) (by decide +kernel), List.mem_of_getElem? (i := 1044) (by decide +kernel), List.mem_of_getElem? (i := 1045) (by decide +kernel)⟩
theorem lw_p28 : lw_okq (⟨"ReleaseSolverModel", "item", "(III)Z"⟩, 20) := ⟨⟨by decide +kernel, by decide +kernel⟩, List.mem_of_getElem? (i := 936) (by decide +kernel), List.mem_of_getElem? (i := 1048) (by decide +kernel), List.mem_of_getElem? (i := 1049) (by decide +kernel)⟩
theorem lw_p29 : lw_okq (⟨"ReleaseSolverModel", "rankOf", "(IZ)I"⟩, 20) := ⟨⟨by decide +kernel, by decide +kernel⟩, List.mem_of_getElem? (i := 936) (by decide +kernel), List.mem_of_getElem? (i := 1052) (by decide +kernel), List.mem_of_getElem? (i := 1053) (by decide +kernel)⟩
theorem lw_p30 : lw_okq (⟨"ReleaseSolverModel", "wordRank", "(III)I"⟩, 20) := ⟨⟨by decide +kernel, by decide +kernel⟩, List.mem_of_getElem? (i := 936) (by decide +kernel), List.mem_of_getElem? (i := 1056) (by decide +kernel), List.mem_of_getElem? (i := 1057) (by decide +kernel)⟩
theorem lw_p31 : lw_okq (⟨"ReleaseSolverModel", "word", "(III)J"⟩, 20) := ⟨⟨by decide +kernel, by decide +kernel⟩, List.mem_of_getElem? (i := 936) (by decide +kernel), List.mem_of_getElem? (i := 1060) (by decide +kernel), List.mem_of_getElem? (i := 1061) (by decide +kernel)⟩
def lw_privs_2 : List (MethodName × Nat) := [(⟨"ReleaseSolver$Search", "leadsFrom", "(I[I)I"⟩, 9), (⟨"ReleaseSolver", "keepSelection", "()I"⟩, 8), (⟨"ReleaseSolver", "blameAmong", "(I)I"⟩, 8), (⟨"ReleaseSolver", "isMet", "(LReleaseSolver$Ask;)Z"⟩, 8), (⟨"ReleaseSolver", "countReleases", "()I"⟩, 8), (⟨"ReleaseSolver", "countWithdrawn", "()I"⟩, 8), (⟨"ReleaseSolver", "countNeeds", "()I"⟩, 8), (⟨"ReleaseSolverModel", "put", "(I)I"⟩, 20), (⟨"ReleaseSolverModel", "version", "(III)Z"⟩, 20), (⟨"ReleaseSolverModel", "at", "(II)I"⟩, 20), (⟨"ReleaseSolverModel", "used", "(I)I"⟩, 20), (⟨"ReleaseSolverModel", "ordered", "(IIII)I"⟩, 20), (⟨"ReleaseSolverModel", "item", "(III)Z"⟩, 20), (⟨"ReleaseSolverModel", "rankOf", "(IZ)I"⟩, 20), (⟨"ReleaseSolverModel", "wordRank", "(III)I"⟩, 20), (⟨"ReleaseSolverModel", "word", "(III)J"⟩, 20)]
theorem lw_r2 : ∀ q ∈ lw_privs_2, lw_okq q := List.forall_mem_cons.mpr ⟨lw_p16, List.forall_mem_cons.mpr ⟨lw_p17, List.forall_mem_cons.mpr ⟨lw_p18, List.forall_mem_cons.mpr ⟨lw_p19, List.forall_mem_cons.mpr ⟨lw_p20, List.forall_mem_cons.mpr ⟨lw_p21, List.forall_mem_cons.mpr ⟨lw_p22, List.forall_mem_cons.mpr ⟨lw_p23, List.forall_mem_cons.mpr ⟨lw_p24, List.forall_mem_cons.mpr ⟨lw_p25, List.forall_mem_cons.mpr ⟨lw_p26, List.forall_mem_cons.mpr ⟨lw_p27, List.forall_mem_cons.mpr ⟨lw_p28, List.forall_mem_cons.mpr ⟨lw_p29, List.forall_mem_cons.mpr ⟨lw_p30, List.forall_mem_cons.mpr ⟨lw_p31, fun _ h => absurd h List.not_mem_nil⟩⟩⟩⟩⟩⟩⟩⟩⟩⟩⟩⟩⟩⟩⟩⟩
theorem lw_p32 : lw_okq (⟨"ReleaseSolverModel", "words", "(IIIIII)I"⟩, 20) := ⟨⟨by decide +kernel, by decide +kernel⟩, List.mem_of_getElem? (i := 936) (by decide +kernel), List.mem_of_getElem? (i := 1081) (by decide +kernel), List.mem_of_getElem? (i := 1082) (by decide +kernel)⟩
theorem lw_p33 : lw_okq (⟨"ReleaseSolverModel", "number", "(III)J"⟩, 20) := ⟨⟨by decide +kernel, by decide +kernel⟩, List.mem_of_getElem? (i := 936) (by decide +kernel), List.mem_of_getElem? (i := 1085) (by decide +kernel), List.mem_of_getElem? (i := 1086) (by decide +kernel)⟩
theorem lw_p34 : lw_okq (⟨"ReleaseSolverModel", "keep", "(I)V"⟩, 20) := ⟨⟨by decide +kernel, by decide +kernel⟩, List.mem_of_getElem? (i := 936) (by decide +kernel), List.mem_of_getElem? (i := 1091) (by decide +kernel), List.mem_of_getElem? (i := 1092) (by decide +kernel)⟩
theorem lw_p35 : lw_okq (⟨"ReleaseSolverModel", "none", "(II)Z"⟩, 20) := ⟨⟨by decide +kernel, by decide +kernel⟩, List.mem_of_getElem? (i := 936) (by decide +kernel), List.mem_of_getElem? (i := 1099) (by decide +kernel), List.mem_of_getElem? (i := 1100) (by decide +kernel)⟩
theorem lw_p36 : lw_okq (⟨"ReleaseSolverModel", "range", "(I)Z"⟩, 20) := ⟨⟨by decide +kernel, by decide +kernel⟩, List.mem_of_getElem? (i := 936) (by decide +kernel), List.mem_of_getElem? (i := 1103) (by decide +kernel), List.mem_of_getElem? (i := 1104) (by decide +kernel)⟩
theorem lw_p37 : lw_okq (⟨"ReleaseSolverModel", "comma", "(I)I"⟩, 20) := ⟨⟨by decide +kernel, by decide +kernel⟩, List.mem_of_getElem? (i := 936) (by decide +kernel), List.mem_of_getElem? (i := 1107) (by decide +kernel), List.mem_of_getElem? (i := 1108) (by decide +kernel)⟩
theorem lw_p38 : lw_okq (⟨"ReleaseSolverModel", "compareTexts", "(II)I"⟩, 20) := ⟨⟨by decide +kernel, by decide +kernel⟩, List.mem_of_getElem? (i := 936) (by decide +kernel), List.mem_of_getElem? (i := 1135) (by decide +kernel), List.mem_of_getElem? (i := 1136) (by decide +kernel)⟩
theorem lw_p39 : lw_okq (⟨"ReleaseSolverModel", "inside", "(II)Z"⟩, 20) := ⟨⟨by decide +kernel, by decide +kernel⟩, List.mem_of_getElem? (i := 936) (by decide +kernel), List.mem_of_getElem? (i := 1147) (by decide +kernel), List.mem_of_getElem? (i := 1148) (by decide +kernel)⟩
theorem lw_p40 : lw_okq (⟨"ReleaseSolverModel", "search", "()Z"⟩, 20) := ⟨⟨by decide +kernel, by decide +kernel⟩, List.mem_of_getElem? (i := 936) (by decide +kernel), List.mem_of_getElem? (i := 1155) (by decide +kernel), List.mem_of_getElem? (i := 1156) (by decide +kernel)⟩
theorem lw_p41 : lw_okq (⟨"ReleaseSolverModel", "ranked", "(II)I"⟩, 20) := ⟨⟨by decide +kernel, by decide +kernel⟩, List.mem_of_getElem? (i := 936) (by decide +kernel), List.mem_of_getElem? (i := 1159) (by decide +kernel), List.mem_of_getElem? (i := 1160) (by decide +kernel)⟩
theorem lw_p42 : lw_okq (⟨"ReleaseSolverModel", "good", "()Z"⟩, 20) := ⟨⟨by decide +kernel, by decide +kernel⟩, List.mem_of_getElem? (i := 936) (by decide +kernel), List.mem_of_getElem? (i := 1163) (by decide +kernel), List.mem_of_getElem? (i := 1164) (by decide +kernel)⟩
theorem lw_p43 : lw_okq (⟨"ReleaseSolverModel", "meets", "(II)Z"⟩, 20) := ⟨⟨by decide +kernel, by decide +kernel⟩, List.mem_of_getElem? (i := 936) (by decide +kernel), List.mem_of_getElem? (i := 1167) (by decide +kernel), List.mem_of_getElem? (i := 1168) (by decide +kernel)⟩
theorem lw_p44 : lw_okq (⟨"ReleaseSolverModel", "slot", "(I)I"⟩, 20) := ⟨⟨by decide +kernel, by decide +kernel⟩, List.mem_of_getElem? (i := 936) (by decide +kernel), List.mem_of_getElem? (i := 1171) (by decide +kernel), List.mem_of_getElem? (i := 1172) (by decide +kernel)⟩
theorem lw_p45 : lw_okq (⟨"ReleaseSolverModel", "releaseGood", "(I)Z"⟩, 20) := ⟨⟨by decide +kernel, by decide +kernel⟩, List.mem_of_getElem? (i := 936) (by decide +kernel), List.mem_of_getElem? (i := 1175) (by decide +kernel), List.mem_of_getElem? (i := 1176) (by decide +kernel)⟩
theorem lw_p46 : lw_okq (⟨"ReleaseSolverModel", "allLed", "()Z"⟩, 20) := ⟨⟨by decide +kernel, by decide +kernel⟩, List.mem_of_getElem? (i := 936) (by decide +kernel), List.mem_of_getElem? (i := 1179) (by decide +kernel), List.mem_of_getElem? (i := 1180) (by decide +kernel)⟩
theorem lw_p47 : lw_okq (⟨"ReleaseSolverModel", "findBlame", "()V"⟩, 20) := ⟨⟨by decide +kernel, by decide +kernel⟩, List.mem_of_getElem? (i := 936) (by decide +kernel), List.mem_of_getElem? (i := 1183) (by decide +kernel), List.mem_of_getElem? (i := 1184) (by decide +kernel)⟩
def lw_privs_3 : List (MethodName × Nat) := [(⟨"ReleaseSolverModel", "words", "(IIIIII)I"⟩, 20), (⟨"ReleaseSolverModel", "number", "(III)J"⟩, 20), (⟨"ReleaseSolverModel", "keep", "(I)V"⟩, 20), (⟨"ReleaseSolverModel", "none", "(II)Z"⟩, 20), (⟨"ReleaseSolverModel", "range", "(I)Z"⟩, 20), (⟨"ReleaseSolverModel", "comma", "(I)I"⟩, 20), (⟨"ReleaseSolverModel", "compareTexts", "(II)I"⟩, 20), (⟨"ReleaseSolverModel", "inside", "(II)Z"⟩, 20), (⟨"ReleaseSolverModel", "search", "()Z"⟩, 20), (⟨"ReleaseSolverModel", "ranked", "(II)I"⟩, 20), (⟨"ReleaseSolverModel", "good", "()Z"⟩, 20), (⟨"ReleaseSolverModel", "meets", "(II)Z"⟩, 20), (⟨"ReleaseSolverModel", "slot", "(I)I"⟩, 20), (⟨"ReleaseSolverModel", "releaseGood", "(I)Z"⟩, 20), (⟨"ReleaseSolverModel", "allLed", "()Z"⟩, 20), (⟨"ReleaseSolverModel", "findBlame", "()V"⟩, 20)]
theorem lw_r3 : ∀ q ∈ lw_privs_3, lw_okq q := List.forall_mem_cons.mpr ⟨lw_p32, List.forall_mem_cons.mpr ⟨lw_p33, List.forall_mem_cons.mpr ⟨lw_p34, List.forall_mem_cons.mpr ⟨lw_p35, List.forall_mem_cons.mpr ⟨lw_p36, List.forall_mem_cons.mpr ⟨lw_p37, List.forall_mem_cons.mpr ⟨lw_p38, List.forall_mem_cons.mpr ⟨lw_p39, List.forall_mem_cons.mpr ⟨lw_p40, List.forall_mem_cons.mpr ⟨lw_p41, List.forall_mem_cons.mpr ⟨lw_p42, List.forall_mem_cons.mpr ⟨lw_p43, List.forall_mem_cons.mpr ⟨lw_p44, List.forall_mem_cons.mpr ⟨lw_p45, List.forall_mem_cons.mpr ⟨lw_p46, List.forall_mem_cons.mpr ⟨lw_p47, fun _ h => absurd h List.not_mem_nil⟩⟩⟩⟩⟩⟩⟩⟩⟩⟩⟩⟩⟩⟩⟩⟩
def lw_privs : List (MethodName × Nat) := lw_privs_1 ++ (lw_privs_2 ++ (lw_privs_3))
def lw_tbl : List Cond := k2_sels lw_privs ++ tables_1
theorem lw_privs_ok : ∀ q ∈ lw_privs, lw_okq q := by
  show ∀ q ∈ lw_privs_1 ++ (lw_privs_2 ++ (lw_privs_3)), lw_okq q
  exact List.forall_mem_append.mpr ⟨lw_r1, List.forall_mem_append.mpr ⟨lw_r2, lw_r3⟩⟩
end
section
/-! NAMES: classes, fields, words, methods (by program) -/
def k_T0 : u_T := fun k => match k with
  | 0 => ("java/lang/String", "value", "[B", true)
  | 1 => ("java/lang/String", "coder", "B", true)
  | 2 => ("java/lang/String", "hash", "I", false)
  | _ => ("java/lang/String", "hashIsZero", "Z", false)
def k_y0 : Nat → FieldType := fun k => match k with
  | 0 => .array (.byte)
  | 1 => .byte
  | 2 => .int
  | _ => .boolean
def k_T1 : u_T := fun k => match k with
  | 0 => ("java/lang/AbstractStringBuilder", "value", "[B", false)
  | 1 => ("java/lang/AbstractStringBuilder", "coder", "B", false)
  | 2 => ("java/lang/AbstractStringBuilder", "maybeLatin1", "Z", false)
  | _ => ("java/lang/AbstractStringBuilder", "count", "I", false)
def k_y1 : Nat → FieldType := fun k => match k with
  | 0 => .array (.byte)
  | 1 => .byte
  | 2 => .boolean
  | _ => .int
def k_T2 : u_T := fun k => match k with
  | 0 => ("java/util/ArrayList", "elementData", "[Ljava/lang/Object;", false)
  | 1 => ("java/util/ArrayList", "size", "I", false)
  | _ => ("java/util/AbstractList", "modCount", "I", false)
def k_y2 : Nat → FieldType := fun k => match k with
  | 0 => .array (.object "java/lang/Object")
  | 1 => .int
  | _ => .int
def k_T3 : u_T := fun k => match k with
  | 0 => ("ReleaseSolverModel", "text", "[I", true)
  | 1 => ("ReleaseSolverModel", "length", "[I", true)
  | 2 => ("ReleaseSolverModel", "releases", "[I", true)
  | 3 => ("ReleaseSolverModel", "withdrawn", "[Z", true)
  | 4 => ("ReleaseSolverModel", "hosted", "[Z", true)
  | 5 => ("ReleaseSolverModel", "needs", "[I", true)
  | 6 => ("ReleaseSolverModel", "needed", "[I", true)
  | 7 => ("ReleaseSolverModel", "optional", "[Z", true)
  | 8 => ("ReleaseSolverModel", "asks", "I", false)
  | 9 => ("ReleaseSolverModel", "asked", "[I", true)
  | 10 => ("ReleaseSolverModel", "counts", "[Z", true)
  | 11 => ("ReleaseSolverModel", "now", "[I", true)
  | 12 => ("ReleaseSolverModel", "solved", "Z", false)
  | 13 => ("ReleaseSolverModel", "failed", "Z", false)
  | 14 => ("ReleaseSolverModel", "chosen", "[I", true)
  | 15 => ("ReleaseSolverModel", "blame", "[Z", true)
  | 16 => ("ReleaseSolverModel", "led", "[Z", true)
  | 17 => ("ReleaseSolverModel", "from", "I", false)
  | 18 => ("ReleaseSolverModel", "end", "I", false)
  | _ => ("ReleaseSolverModel", "worth", "[I", true)
def k_y3 : Nat → FieldType := fun k => match k with
  | 0 => .array (.int)
  | 1 => .array (.int)
  | 2 => .array (.int)
  | 3 => .array (.boolean)
  | 4 => .array (.boolean)
  | 5 => .array (.int)
  | 6 => .array (.int)
  | 7 => .array (.boolean)
  | 8 => .int
  | 9 => .array (.int)
  | 10 => .array (.boolean)
  | 11 => .array (.int)
  | 12 => .boolean
  | 13 => .boolean
  | 14 => .array (.int)
  | 15 => .array (.boolean)
  | 16 => .array (.boolean)
  | 17 => .int
  | 18 => .int
  | _ => .array (.int)
def k_T4 : u_T := fun k => match k with
  | 0 => ("ReleaseSolver$Search", "order", "[[I", true)
  | 1 => ("ReleaseSolver$Search", "usable", "[I", true)
  | 2 => ("ReleaseSolver$Search", "beside", "[[I", true)
  | 3 => ("ReleaseSolver$Search", "leads", "[I", true)
  | 4 => ("ReleaseSolver$Search", "askPlugins", "[I", true)
  | 5 => ("ReleaseSolver$Search", "askOptions", "[I", true)
  | 6 => ("ReleaseSolver$Search", "askCount", "I", false)
  | 7 => ("ReleaseSolver$Search", "asked", "I", false)
  | _ => ("ReleaseSolver$Search", "left", "[[I", true)
def k_y4 : Nat → FieldType := fun k => match k with
  | 0 => .array (.array (.int))
  | 1 => .array (.int)
  | 2 => .array (.array (.int))
  | 3 => .array (.int)
  | 4 => .array (.int)
  | 5 => .array (.int)
  | 6 => .int
  | 7 => .int
  | _ => .array (.array (.int))
def k_T5 : u_T := fun k => match k with
  | 0 => ("ReleaseSolver$Version", "ranks", "[I", true)
  | _ => ("ReleaseSolver$Version", "places", "[J", true)
def k_y5 : Nat → FieldType := fun k => match k with
  | 0 => .array (.int)
  | _ => .array (.long)
def k_T6 : u_T := fun k => match k with
  | 0 => ("ReleaseSolver$Plugin", "releases", "Ljava/util/ArrayList;", true)
  | _ => ("ReleaseSolver$Plugin", "falling", "[I", true)
def k_y6 : Nat → FieldType := fun k => match k with
  | 0 => .object "java/util/ArrayList"
  | _ => .array (.int)
def k_T7 : u_T := fun k => match k with
  | 0 => ("ReleaseSolver", "text", "Ljava/lang/StringBuilder;", true)
  | 1 => ("ReleaseSolver", "plugins", "[LReleaseSolver$Plugin;", true)
  | 2 => ("ReleaseSolver", "asks", "Ljava/util/ArrayList;", true)
  | 3 => ("ReleaseSolver", "search", "LReleaseSolver$Search;", true)
  | 4 => ("ReleaseSolver", "hostVersion", "LReleaseSolver$Version;", false)
  | 5 => ("ReleaseSolver", "solved", "Z", false)
  | 6 => ("ReleaseSolver", "selection", "[I", true)
  | _ => ("ReleaseSolver", "blame", "I", false)
def k_y7 : Nat → FieldType := fun k => match k with
  | 0 => .object "java/lang/StringBuilder"
  | 1 => .array (.object "ReleaseSolver$Plugin")
  | 2 => .object "java/util/ArrayList"
  | 3 => .object "ReleaseSolver$Search"
  | 4 => .object "ReleaseSolver$Version"
  | 5 => .boolean
  | 6 => .array (.int)
  | _ => .int
def k_T8 : u_T := fun k => match k with
  | 0 => ("ReleaseSolver$Release", "version", "LReleaseSolver$Version;", true)
  | 1 => ("ReleaseSolver$Release", "needs", "Ljava/util/ArrayList;", true)
  | 2 => ("ReleaseSolver$Release", "hostRange", "LReleaseSolver$Range;", false)
  | _ => ("ReleaseSolver$Release", "withdrawn", "Z", false)
def k_y8 : Nat → FieldType := fun k => match k with
  | 0 => .object "ReleaseSolver$Version"
  | 1 => .object "java/util/ArrayList"
  | 2 => .object "ReleaseSolver$Range"
  | _ => .boolean
def k_T9 : u_T := fun k => match k with
  | 0 => ("ReleaseSolver$Range", "lower", "LReleaseSolver$Version;", true)
  | 1 => ("ReleaseSolver$Range", "upper", "LReleaseSolver$Version;", true)
  | 2 => ("ReleaseSolver$Range", "withLower", "Z", true)
  | _ => ("ReleaseSolver$Range", "withUpper", "Z", true)
def k_y9 : Nat → FieldType := fun k => match k with
  | 0 => .object "ReleaseSolver$Version"
  | 1 => .object "ReleaseSolver$Version"
  | 2 => .boolean
  | _ => .boolean
def k_T10 : u_T := fun k => match k with
  | 0 => ("ReleaseSolver$Need", "plugin", "I", true)
  | 1 => ("ReleaseSolver$Need", "range", "LReleaseSolver$Range;", true)
  | _ => ("ReleaseSolver$Need", "optional", "Z", true)
def k_y10 : Nat → FieldType := fun k => match k with
  | 0 => .int
  | 1 => .object "ReleaseSolver$Range"
  | _ => .boolean
def k_T11 : u_T := fun k => match k with
  | 0 => ("ReleaseSolver$Ask", "plugin", "I", true)
  | _ => ("ReleaseSolver$Ask", "range", "LReleaseSolver$Range;", true)
def k_y11 : Nat → FieldType := fun k => match k with
  | 0 => .int
  | _ => .object "ReleaseSolver$Range"
abbrev rz_cl : List vw_C := [("java/lang/String", k_T0, 4), ("java/lang/StringBuilder", k_T1, 4), ("java/util/ArrayList", k_T2, 3), ("ReleaseSolverModel", k_T3, 20), ("ReleaseSolver$Search", k_T4, 9), ("ReleaseSolver$Version", k_T5, 2), ("ReleaseSolver$Plugin", k_T6, 2), ("ReleaseSolver", k_T7, 8), ("ReleaseSolver$Release", k_T8, 4), ("ReleaseSolver$Range", k_T9, 4), ("ReleaseSolver$Need", k_T10, 3), ("ReleaseSolver$Ask", k_T11, 2)]
def rz_bl : Nat → List Value := fun ci => match ci with
  | 0 => [.null, .int (Int32.ofInt 0), .int (Int32.ofInt 0), .int (Int32.ofInt 0)]
  | 1 => [.null, .int (Int32.ofInt 0), .int (Int32.ofInt 0), .int (Int32.ofInt 0)]
  | 2 => [.null, .int (Int32.ofInt 0), .int (Int32.ofInt 0)]
  | 3 => [.null, .null, .null, .null, .null, .null, .null, .null, .int (Int32.ofInt 0), .null, .null, .null, .int (Int32.ofInt 0), .int (Int32.ofInt 0), .null, .null, .null, .int (Int32.ofInt 0), .int (Int32.ofInt 0), .null]
  | 4 => [.null, .null, .null, .null, .null, .null, .int (Int32.ofInt 0), .int (Int32.ofInt 0), .null]
  | 5 => [.null, .null]
  | 6 => [.null, .null]
  | 7 => [.null, .null, .null, .null, .null, .int (Int32.ofInt 0), .null, .int (Int32.ofInt 0)]
  | 8 => [.null, .null, .null, .int (Int32.ofInt 0)]
  | 9 => [.null, .null, .int (Int32.ofInt 0), .int (Int32.ofInt 0)]
  | 10 => [.int (Int32.ofInt 0), .null, .int (Int32.ofInt 0)]
  | _ => [.int (Int32.ofInt 0), .null]
def rz_W : List Cond := lw_tbl.filter goodWord
theorem rz_mem (i : Nat) {w : Cond} (h : lw_tbl[i]? = some w) (hg : goodWord w = true) : w ∈ rz_W := List.mem_filter.mpr ⟨List.mem_of_getElem? h, hg⟩
theorem rz_good (w : Cond) (hw : w ∈ rz_W) : (w.onTables && w.keeps) = true ∨ ∃ ty, w = .arrayClass ty := good_of_word (List.mem_filter.mp hw).2
def rz_T (dA : Nat → ClassId) : List (ClassId × FieldType) := [(dA 0, .int), (dA 1, .boolean), (dA 2, .byte), (dA 3, .long), (dA 4, .object "java/lang/Object"), (dA 5, .object "ReleaseSolver$Plugin"), (dA 6, .array .int)]
def rz_NF : List (String × Nat × String × String × String × String) := [("ReleaseSolver$Search", 78, "ReleaseSolver$Plugin", "falling", "[I", "ReleaseSolver"), ("ReleaseSolver$Plugin", 32, "ReleaseSolver$Release", "version", "LReleaseSolver$Version;", "ReleaseSolver"), ("ReleaseSolver", 154, "ReleaseSolver$Release", "version", "LReleaseSolver$Version;", "ReleaseSolver"), ("ReleaseSolver", 118, "ReleaseSolver$Release", "needs", "Ljava/util/ArrayList;", "ReleaseSolver"), ("ReleaseSolver$Search", 91, "ReleaseSolver$Release", "needs", "Ljava/util/ArrayList;", "ReleaseSolver"), ("ReleaseSolver$Plugin", 56, "ReleaseSolver$Release", "needs", "Ljava/util/ArrayList;", "ReleaseSolver"), ("ReleaseSolver", 138, "ReleaseSolver$Release", "hostRange", "LReleaseSolver$Range;", "ReleaseSolver"), ("ReleaseSolver", 142, "ReleaseSolver$Release", "withdrawn", "Z", "ReleaseSolver"), ("ReleaseSolver$Plugin", 52, "ReleaseSolver$Release", "withdrawn", "Z", "ReleaseSolver"), ("ReleaseSolver$Search", 106, "ReleaseSolver$Need", "plugin", "I", "ReleaseSolver"), ("ReleaseSolver$Search", 109, "ReleaseSolver$Need", "range", "LReleaseSolver$Range;", "ReleaseSolver"), ("ReleaseSolver$Search", 117, "ReleaseSolver$Need", "optional", "Z", "ReleaseSolver"), ("ReleaseSolver$Search", 140, "ReleaseSolver$Ask", "plugin", "I", "ReleaseSolver"), ("ReleaseSolver", 222, "ReleaseSolver$Ask", "plugin", "I", "ReleaseSolver"), ("ReleaseSolver$Search", 141, "ReleaseSolver$Ask", "range", "LReleaseSolver$Range;", "ReleaseSolver"), ("ReleaseSolver", 225, "ReleaseSolver$Ask", "range", "LReleaseSolver$Range;", "ReleaseSolver")]
def rz_NM : List (String × Nat × MethodName × String) := [("ReleaseSolver", 31, ⟨"ReleaseSolver$Search", "<init>", "()V"⟩, "ReleaseSolver"), ("ReleaseSolver$Version", 52, ⟨"ReleaseSolver", "isSeparator", "(I)Z"⟩, "ReleaseSolver"), ("ReleaseSolver$Version", 58, ⟨"ReleaseSolver", "isDigit", "(I)Z"⟩, "ReleaseSolver"), ("ReleaseSolver$Version", 61, ⟨"ReleaseSolver", "isLetter", "(I)Z"⟩, "ReleaseSolver"), ("ReleaseSolver", 59, ⟨"ReleaseSolver$Plugin", "<init>", "()V"⟩, "ReleaseSolver"), ("ReleaseSolver$Search", 70, ⟨"ReleaseSolver", "hasBit", "(II)Z"⟩, "ReleaseSolver")]
def rz_NC : List (String × String) := [("[B", "java/lang/Cloneable"), ("ReleaseSolver$Release", "ReleaseSolver$Release"), ("ReleaseSolver$Need", "ReleaseSolver$Need"), ("ReleaseSolver$Ask", "ReleaseSolver$Ask"), ("ReleaseSolver", "java/lang/Object"), ("ReleaseSolver$Search", "java/lang/Object"), ("ReleaseSolver$Version", "java/lang/Object"), ("java/lang/String", "java/lang/Object"), ("ReleaseSolver$Plugin", "java/lang/Object"), ("ReleaseSolverModel", "java/lang/Object"), ("ReleaseSolver$Release", "java/lang/Object"), ("ReleaseSolver$Range", "java/lang/Object"), ("ReleaseSolver$Need", "java/lang/Object"), ("ReleaseSolver$Ask", "java/lang/Object")]
def rz_NA : List String := ["java/lang/Object", "ReleaseSolver$Plugin"]
/-- statics at the start: texts are of bytes; the empty list's array; a formatter, or null -/
def rz_Z (ad : Nat → Nat) : List (String × String × String × Value) := [("java/lang/String", "COMPACT_STRINGS", "Z", .int (Int32.ofInt 1)), ("java/util/ArrayList", "DEFAULTCAPACITY_EMPTY_ELEMENTDATA", "[Ljava/lang/Object;", .ref (ad 0)), ("jdk/internal/util/Preconditions", "SIOOBE_FORMATTER", "Ljava/util/function/BiFunction;", if ad 1 = 0 then .null else .ref (ad 2))]
def rz_S (ad : Nat → Nat) : List (String × Nat × String × Nat) := [("ReleaseSolver", 38, "1", ad 10), ("java/lang/StringLatin1", 151, "", ad 11), ("java/lang/StringUTF16", 295, "", ad 12), ("ReleaseSolver$Version", 83, "alpha", ad 13), ("ReleaseSolver$Version", 89, "a", ad 14), ("ReleaseSolver$Version", 91, "beta", ad 15), ("ReleaseSolver$Version", 93, "b", ad 16), ("ReleaseSolver$Version", 95, "milestone", ad 17), ("ReleaseSolver$Version", 97, "m", ad 18), ("ReleaseSolver$Version", 99, "rc", ad 19), ("ReleaseSolver$Version", 101, "cr", ad 20), ("ReleaseSolver$Version", 103, "snapshot", ad 21), ("ReleaseSolver$Version", 105, "ga", ad 22), ("ReleaseSolver$Version", 107, "final", ad 23), ("ReleaseSolver$Version", 109, "release", ad 24), ("ReleaseSolver$Version", 111, "sp", ad 25)]
theorem rz_lays (ci : Nat) (q : vw_C) (hq : rz_cl[ci]? = some q) : ∀ w ∈ u_ws q.1 q.2.1 q.2.2, w ∈ rz_W := by
  match ci, hq with
  | 0, hq =>
    cases hq
    have h : ∀ k, k < 4 → u_lay "java/lang/String" k_T0 k ∈ rz_W := by
      intro k hk
      match k, hk with
      | 0, _ => exact (rz_mem 300 (by decide +kernel) rfl)
      | 1, _ => exact (rz_mem 302 (by decide +kernel) rfl)
      | 2, _ => exact (rz_mem 304 (by decide +kernel) rfl)
      | 3, _ => exact (rz_mem 306 (by decide +kernel) rfl)
      | k + 4, hk => exact absurd hk (by omega)
    intro w hw
    obtain ⟨k, hk, rfl⟩ := List.mem_map.mp hw
    exact h k (List.mem_range.mp hk)
  | 1, hq =>
    cases hq
    have h : ∀ k, k < 4 → u_lay "java/lang/StringBuilder" k_T1 k ∈ rz_W := by
      intro k hk
      match k, hk with
      | 0, _ => exact (rz_mem 104 (by decide +kernel) rfl)
      | 1, _ => exact (rz_mem 106 (by decide +kernel) rfl)
      | 2, _ => exact (rz_mem 108 (by decide +kernel) rfl)
      | 3, _ => exact (rz_mem 110 (by decide +kernel) rfl)
      | k + 4, hk => exact absurd hk (by omega)
    intro w hw
    obtain ⟨k, hk, rfl⟩ := List.mem_map.mp hw
    exact h k (List.mem_range.mp hk)
  | 2, hq =>
    cases hq
    have h : ∀ k, k < 3 → u_lay "java/util/ArrayList" k_T2 k ∈ rz_W := by
      intro k hk
      match k, hk with
      | 0, _ => exact (rz_mem 135 (by decide +kernel) rfl)
      | 1, _ => exact (rz_mem 137 (by decide +kernel) rfl)
      | 2, _ => exact (rz_mem 139 (by decide +kernel) rfl)
      | k + 3, hk => exact absurd hk (by omega)
    intro w hw
    obtain ⟨k, hk, rfl⟩ := List.mem_map.mp hw
    exact h k (List.mem_range.mp hk)
  | 3, hq =>
    cases hq
    have h : ∀ k, k < 20 → u_lay "ReleaseSolverModel" k_T3 k ∈ rz_W := by
      intro k hk
      match k, hk with
      | 0, _ => exact (rz_mem 1009 (by decide +kernel) rfl)
      | 1, _ => exact (rz_mem 1011 (by decide +kernel) rfl)
      | 2, _ => exact (rz_mem 1013 (by decide +kernel) rfl)
      | 3, _ => exact (rz_mem 1015 (by decide +kernel) rfl)
      | 4, _ => exact (rz_mem 1017 (by decide +kernel) rfl)
      | 5, _ => exact (rz_mem 1019 (by decide +kernel) rfl)
      | 6, _ => exact (rz_mem 1021 (by decide +kernel) rfl)
      | 7, _ => exact (rz_mem 1023 (by decide +kernel) rfl)
      | 8, _ => exact (rz_mem 1025 (by decide +kernel) rfl)
      | 9, _ => exact (rz_mem 1027 (by decide +kernel) rfl)
      | 10, _ => exact (rz_mem 1029 (by decide +kernel) rfl)
      | 11, _ => exact (rz_mem 1031 (by decide +kernel) rfl)
      | 12, _ => exact (rz_mem 1033 (by decide +kernel) rfl)
      | 13, _ => exact (rz_mem 1035 (by decide +kernel) rfl)
      | 14, _ => exact (rz_mem 1037 (by decide +kernel) rfl)
      | 15, _ => exact (rz_mem 1039 (by decide +kernel) rfl)
      | 16, _ => exact (rz_mem 1041 (by decide +kernel) rfl)
      | 17, _ => exact (rz_mem 1043 (by decide +kernel) rfl)
      | 18, _ => exact (rz_mem 1045 (by decide +kernel) rfl)
      | 19, _ => exact (rz_mem 1047 (by decide +kernel) rfl)
      | k + 20, hk => exact absurd hk (by omega)
    intro w hw
    obtain ⟨k, hk, rfl⟩ := List.mem_map.mp hw
    exact h k (List.mem_range.mp hk)
  | 4, hq =>
    cases hq
    have h : ∀ k, k < 9 → u_lay "ReleaseSolver$Search" k_T4 k ∈ rz_W := by
      intro k hk
      match k, hk with
      | 0, _ => exact (rz_mem 159 (by decide +kernel) rfl)
      | 1, _ => exact (rz_mem 161 (by decide +kernel) rfl)
      | 2, _ => exact (rz_mem 163 (by decide +kernel) rfl)
      | 3, _ => exact (rz_mem 165 (by decide +kernel) rfl)
      | 4, _ => exact (rz_mem 167 (by decide +kernel) rfl)
      | 5, _ => exact (rz_mem 169 (by decide +kernel) rfl)
      | 6, _ => exact (rz_mem 171 (by decide +kernel) rfl)
      | 7, _ => exact (rz_mem 173 (by decide +kernel) rfl)
      | 8, _ => exact (rz_mem 175 (by decide +kernel) rfl)
      | k + 9, hk => exact absurd hk (by omega)
    intro w hw
    obtain ⟨k, hk, rfl⟩ := List.mem_map.mp hw
    exact h k (List.mem_range.mp hk)
  | 5, hq =>
    cases hq
    have h : ∀ k, k < 2 → u_lay "ReleaseSolver$Version" k_T5 k ∈ rz_W := by
      intro k hk
      match k, hk with
      | 0, _ => exact (rz_mem 370 (by decide +kernel) rfl)
      | 1, _ => exact (rz_mem 372 (by decide +kernel) rfl)
      | k + 2, hk => exact absurd hk (by omega)
    intro w hw
    obtain ⟨k, hk, rfl⟩ := List.mem_map.mp hw
    exact h k (List.mem_range.mp hk)
  | 6, hq =>
    cases hq
    have h : ∀ k, k < 2 → u_lay "ReleaseSolver$Plugin" k_T6 k ∈ rz_W := by
      intro k hk
      match k, hk with
      | 0, _ => exact (rz_mem 385 (by decide +kernel) rfl)
      | 1, _ => exact (rz_mem 387 (by decide +kernel) rfl)
      | k + 2, hk => exact absurd hk (by omega)
    intro w hw
    obtain ⟨k, hk, rfl⟩ := List.mem_map.mp hw
    exact h k (List.mem_range.mp hk)
  | 7, hq =>
    cases hq
    have h : ∀ k, k < 8 → u_lay "ReleaseSolver" k_T7 k ∈ rz_W := by
      intro k hk
      match k, hk with
      | 0, _ => exact (rz_mem 399 (by decide +kernel) rfl)
      | 1, _ => exact (rz_mem 401 (by decide +kernel) rfl)
      | 2, _ => exact (rz_mem 403 (by decide +kernel) rfl)
      | 3, _ => exact (rz_mem 405 (by decide +kernel) rfl)
      | 4, _ => exact (rz_mem 407 (by decide +kernel) rfl)
      | 5, _ => exact (rz_mem 409 (by decide +kernel) rfl)
      | 6, _ => exact (rz_mem 411 (by decide +kernel) rfl)
      | 7, _ => exact (rz_mem 413 (by decide +kernel) rfl)
      | k + 8, hk => exact absurd hk (by omega)
    intro w hw
    obtain ⟨k, hk, rfl⟩ := List.mem_map.mp hw
    exact h k (List.mem_range.mp hk)
  | 8, hq =>
    cases hq
    have h : ∀ k, k < 4 → u_lay "ReleaseSolver$Release" k_T8 k ∈ rz_W := by
      intro k hk
      match k, hk with
      | 0, _ => exact (rz_mem 606 (by decide +kernel) rfl)
      | 1, _ => exact (rz_mem 608 (by decide +kernel) rfl)
      | 2, _ => exact (rz_mem 610 (by decide +kernel) rfl)
      | 3, _ => exact (rz_mem 612 (by decide +kernel) rfl)
      | k + 4, hk => exact absurd hk (by omega)
    intro w hw
    obtain ⟨k, hk, rfl⟩ := List.mem_map.mp hw
    exact h k (List.mem_range.mp hk)
  | 9, hq =>
    cases hq
    have h : ∀ k, k < 4 → u_lay "ReleaseSolver$Range" k_T9 k ∈ rz_W := by
      intro k hk
      match k, hk with
      | 0, _ => exact (rz_mem 691 (by decide +kernel) rfl)
      | 1, _ => exact (rz_mem 693 (by decide +kernel) rfl)
      | 2, _ => exact (rz_mem 695 (by decide +kernel) rfl)
      | 3, _ => exact (rz_mem 697 (by decide +kernel) rfl)
      | k + 4, hk => exact absurd hk (by omega)
    intro w hw
    obtain ⟨k, hk, rfl⟩ := List.mem_map.mp hw
    exact h k (List.mem_range.mp hk)
  | 10, hq =>
    cases hq
    have h : ∀ k, k < 3 → u_lay "ReleaseSolver$Need" k_T10 k ∈ rz_W := by
      intro k hk
      match k, hk with
      | 0, _ => exact (rz_mem 775 (by decide +kernel) rfl)
      | 1, _ => exact (rz_mem 777 (by decide +kernel) rfl)
      | 2, _ => exact (rz_mem 779 (by decide +kernel) rfl)
      | k + 3, hk => exact absurd hk (by omega)
    intro w hw
    obtain ⟨k, hk, rfl⟩ := List.mem_map.mp hw
    exact h k (List.mem_range.mp hk)
  | 11, hq =>
    cases hq
    have h : ∀ k, k < 2 → u_lay "ReleaseSolver$Ask" k_T11 k ∈ rz_W := by
      intro k hk
      match k, hk with
      | 0, _ => exact (rz_mem 812 (by decide +kernel) rfl)
      | 1, _ => exact (rz_mem 814 (by decide +kernel) rfl)
      | k + 2, hk => exact absurd hk (by omega)
    intro w hw
    obtain ⟨k, hk, rfl⟩ := List.mem_map.mp hw
    exact h k (List.mem_range.mp hk)
  | n + 12, hq => simp [rz_cl] at hq
theorem rz_tys (ci : Nat) (q : vw_C) (hq : rz_cl[ci]? = some q) : (∃ ty0 : Nat → FieldType, ∀ k, k < q.2.2 → parseFieldDescriptor (q.2.1 k).2.2.1 = some (ty0 k)) ∧ ∀ a, a < q.2.2 → ∀ b, b < q.2.2 → a ≠ b → (q.2.1 a).2.1 ≠ (q.2.1 b).2.1 := by
  match ci, hq with
  | 0, hq =>
    cases hq
    exact ⟨⟨k_y0, by decide +kernel⟩, by decide +kernel⟩
  | 1, hq =>
    cases hq
    exact ⟨⟨k_y1, by decide +kernel⟩, by decide +kernel⟩
  | 2, hq =>
    cases hq
    exact ⟨⟨k_y2, by decide +kernel⟩, by decide +kernel⟩
  | 3, hq =>
    cases hq
    exact ⟨⟨k_y3, by decide +kernel⟩, by decide +kernel⟩
  | 4, hq =>
    cases hq
    exact ⟨⟨k_y4, by decide +kernel⟩, by decide +kernel⟩
  | 5, hq =>
    cases hq
    exact ⟨⟨k_y5, by decide +kernel⟩, by decide +kernel⟩
  | 6, hq =>
    cases hq
    exact ⟨⟨k_y6, by decide +kernel⟩, by decide +kernel⟩
  | 7, hq =>
    cases hq
    exact ⟨⟨k_y7, by decide +kernel⟩, by decide +kernel⟩
  | 8, hq =>
    cases hq
    exact ⟨⟨k_y8, by decide +kernel⟩, by decide +kernel⟩
  | 9, hq =>
    cases hq
    exact ⟨⟨k_y9, by decide +kernel⟩, by decide +kernel⟩
  | 10, hq =>
    cases hq
    exact ⟨⟨k_y10, by decide +kernel⟩, by decide +kernel⟩
  | 11, hq =>
    cases hq
    exact ⟨⟨k_y11, by decide +kernel⟩, by decide +kernel⟩
  | n + 12, hq => simp [rz_cl] at hq
theorem rz_born (ci : Nat) (q : vw_C) (hq : rz_cl[ci]? = some q) : ∃ ty0 : Nat → FieldType, (∀ k, k < q.2.2 → parseFieldDescriptor (q.2.1 k).2.2.1 = some (ty0 k)) ∧ (∀ j, j < q.2.2 → defaultValue (ty0 j) = vp_V (rz_bl ci) j) ∧ Cond.instantiable q.1 q.2.2 ∈ rz_W ∧ Cond.initialized q.1 ∈ rz_W := by
  match ci, hq with
  | 0, hq =>
    cases hq
    exact ⟨k_y0, by decide +kernel, by decide +kernel, (rz_mem 271 (by decide +kernel) rfl), (rz_mem 52 (by decide +kernel) rfl)⟩
  | 1, hq =>
    cases hq
    exact ⟨k_y1, by decide +kernel, by decide +kernel, (rz_mem 82 (by decide +kernel) rfl), (rz_mem 51 (by decide +kernel) rfl)⟩
  | 2, hq =>
    cases hq
    exact ⟨k_y2, by decide +kernel, by decide +kernel, (rz_mem 117 (by decide +kernel) rfl), (rz_mem 56 (by decide +kernel) rfl)⟩
  | 3, hq =>
    cases hq
    exact ⟨k_y3, by decide +kernel, by decide +kernel, (rz_mem 984 (by decide +kernel) rfl), (rz_mem 65 (by decide +kernel) rfl)⟩
  | 4, hq =>
    cases hq
    exact ⟨k_y4, by decide +kernel, by decide +kernel, (rz_mem 143 (by decide +kernel) rfl), (rz_mem 57 (by decide +kernel) rfl)⟩
  | 5, hq =>
    cases hq
    exact ⟨k_y5, by decide +kernel, by decide +kernel, (rz_mem 180 (by decide +kernel) rfl), (rz_mem 58 (by decide +kernel) rfl)⟩
  | 6, hq =>
    cases hq
    exact ⟨k_y6, by decide +kernel, by decide +kernel, (rz_mem 375 (by decide +kernel) rfl), (rz_mem 64 (by decide +kernel) rfl)⟩
  | 7, hq =>
    cases hq
    exact ⟨k_y7, by decide +kernel, by decide +kernel, (rz_mem 74 (by decide +kernel) rfl), (rz_mem 49 (by decide +kernel) rfl)⟩
  | 8, hq =>
    cases hq
    exact ⟨k_y8, by decide +kernel, by decide +kernel, (rz_mem 587 (by decide +kernel) rfl), (rz_mem 68 (by decide +kernel) rfl)⟩
  | 9, hq =>
    cases hq
    exact ⟨k_y9, by decide +kernel, by decide +kernel, (rz_mem 680 (by decide +kernel) rfl), (rz_mem 69 (by decide +kernel) rfl)⟩
  | 10, hq =>
    cases hq
    exact ⟨k_y10, by decide +kernel, by decide +kernel, (rz_mem 764 (by decide +kernel) rfl), (rz_mem 71 (by decide +kernel) rfl)⟩
  | 11, hq =>
    cases hq
    exact ⟨k_y11, by decide +kernel, by decide +kernel, (rz_mem 801 (by decide +kernel) rfl), (rz_mem 72 (by decide +kernel) rfl)⟩
  | n + 12, hq => simp [rz_cl] at hq
abbrev rz_X : Type := ByteArray × String × Nat × Option FieldType × String
abbrev x_Rs_init : rz_X := (prog_1_method_1_code, "ReleaseSolver", 2, none, "<init>")
abbrev y_Rs_init : MethodName := ⟨"ReleaseSolver", "<init>", "()V"⟩
abbrev x_Oj_init : rz_X := (object_method_1_code, "java/lang/Object", 1, none, "<init>")
abbrev y_Oj_init : MethodName := ⟨"java/lang/Object", "<init>", "()V"⟩
abbrev x_Sb_init : rz_X := (prog_18_method_1_code, "java/lang/StringBuilder", 1, none, "<init>")
abbrev y_Sb_init : MethodName := ⟨"java/lang/StringBuilder", "<init>", "()V"⟩
abbrev x_Ab_init : rz_X := (prog_12_method_2_code, "java/lang/AbstractStringBuilder", 2, none, "<init>")
abbrev y_Ab_init : MethodName := ⟨"java/lang/AbstractStringBuilder", "<init>", "(I)V"⟩
abbrev x_S2_newBytesFor : rz_X := (prog_20_method_2_code, "java/lang/StringUTF16", 1, some (.array (.byte)), "newBytesFor")
abbrev y_S2_newBytesFor : MethodName := ⟨"java/lang/StringUTF16", "newBytesFor", "(I)[B"⟩
abbrev x_S2_newBytesLength : rz_X := (prog_20_method_3_code, "java/lang/StringUTF16", 1, some (.int), "newBytesLength")
abbrev y_S2_newBytesLength : MethodName := ⟨"java/lang/StringUTF16", "newBytesLength", "(I)I"⟩
abbrev x_Al_init : rz_X := (prog_24_method_2_code, "java/util/ArrayList", 1, none, "<init>")
abbrev y_Al_init : MethodName := ⟨"java/util/ArrayList", "<init>", "()V"⟩
abbrev x_Ax_init : rz_X := (prog_23_method_1_code, "java/util/AbstractList", 1, none, "<init>")
abbrev y_Ax_init : MethodName := ⟨"java/util/AbstractList", "<init>", "()V"⟩
abbrev x_Ac_init : rz_X := (prog_22_method_1_code, "java/util/AbstractCollection", 1, none, "<init>")
abbrev y_Ac_init : MethodName := ⟨"java/util/AbstractCollection", "<init>", "()V"⟩
abbrev x_Se_init : rz_X := (prog_7_method_1_code, "ReleaseSolver$Search", 1, none, "<init>")
abbrev y_Se_init : MethodName := ⟨"ReleaseSolver$Search", "<init>", "()V"⟩
abbrev x_Ve_init : rz_X := (prog_8_method_1_code, "ReleaseSolver$Version", 4, none, "<init>")
abbrev y_Ve_init : MethodName := ⟨"ReleaseSolver$Version", "<init>", "(Ljava/lang/String;)V"⟩
abbrev x_Ar_fill : rz_X := (prog_25_method_103_code, "java/util/Arrays", 4, none, "fill")
abbrev y_Ar_fill : MethodName := ⟨"java/util/Arrays", "fill", "([II)V"⟩
abbrev x_St_length : rz_X := (prog_17_method_54_code, "java/lang/String", 1, some (.int), "length")
abbrev y_St_length : MethodName := ⟨"java/lang/String", "length", "()I"⟩
abbrev x_St_coder : rz_X := (prog_17_method_152_code, "java/lang/String", 1, some (.byte), "coder")
abbrev y_St_coder : MethodName := ⟨"java/lang/String", "coder", "()B"⟩
abbrev x_Ve_startsItem : rz_X := (prog_8_method_6_code, "ReleaseSolver$Version", 3, some (.boolean), "startsItem")
abbrev y_Ve_startsItem : MethodName := ⟨"ReleaseSolver$Version", "startsItem", "(Ljava/lang/String;I)Z"⟩
abbrev x_St_charAt : rz_X := (prog_17_method_56_code, "java/lang/String", 2, some (.char), "charAt")
abbrev y_St_charAt : MethodName := ⟨"java/lang/String", "charAt", "(I)C"⟩
abbrev x_St_isLatin1 : rz_X := (prog_17_method_154_code, "java/lang/String", 1, some (.boolean), "isLatin1")
abbrev y_St_isLatin1 : MethodName := ⟨"java/lang/String", "isLatin1", "()Z"⟩
abbrev x_S1_charAt : rz_X := (prog_19_method_2_code, "java/lang/StringLatin1", 2, some (.char), "charAt")
abbrev y_S1_charAt : MethodName := ⟨"java/lang/StringLatin1", "charAt", "([BI)C"⟩
abbrev x_St_checkIndex : rz_X := (prog_17_method_155_code, "java/lang/String", 2, none, "checkIndex")
abbrev y_St_checkIndex : MethodName := ⟨"java/lang/String", "checkIndex", "(II)V"⟩
abbrev x_Pr_checkIndex : rz_X := (prog_32_method_11_code, "jdk/internal/util/Preconditions", 3, some (.int), "checkIndex")
abbrev y_Pr_checkIndex : MethodName := ⟨"jdk/internal/util/Preconditions", "checkIndex", "(IILjava/util/function/BiFunction;)I"⟩
abbrev x_S2_charAt : rz_X := (prog_20_method_83_code, "java/lang/StringUTF16", 2, some (.char), "charAt")
abbrev y_S2_charAt : MethodName := ⟨"java/lang/StringUTF16", "charAt", "([BI)C"⟩
abbrev x_S2_checkIndex : rz_X := (prog_20_method_91_code, "java/lang/StringUTF16", 2, none, "checkIndex")
abbrev y_S2_checkIndex : MethodName := ⟨"java/lang/StringUTF16", "checkIndex", "(I[B)V"⟩
abbrev x_S2_length : rz_X := (prog_20_method_6_code, "java/lang/StringUTF16", 1, some (.int), "length")
abbrev y_S2_length : MethodName := ⟨"java/lang/StringUTF16", "length", "([B)I"⟩
abbrev x_S2_getChar : rz_X := (prog_20_method_5_code, "java/lang/StringUTF16", 2, some (.char), "getChar")
abbrev y_S2_getChar : MethodName := ⟨"java/lang/StringUTF16", "getChar", "([BI)C"⟩
abbrev x_Rs_isSeparator : rz_X := (prog_1_method_22_code, "ReleaseSolver", 1, some (.boolean), "isSeparator")
abbrev y_Rs_isSeparator : MethodName := ⟨"ReleaseSolver", "isSeparator", "(I)Z"⟩
abbrev x_Ve_isOneKind : rz_X := (prog_8_method_7_code, "ReleaseSolver$Version", 2, some (.boolean), "isOneKind")
abbrev y_Ve_isOneKind : MethodName := ⟨"ReleaseSolver$Version", "isOneKind", "(CC)Z"⟩
abbrev x_Rs_isDigit : rz_X := (prog_1_method_21_code, "ReleaseSolver", 1, some (.boolean), "isDigit")
abbrev y_Rs_isDigit : MethodName := ⟨"ReleaseSolver", "isDigit", "(I)Z"⟩
abbrev x_Rs_isLetter : rz_X := (prog_1_method_20_code, "ReleaseSolver", 1, some (.boolean), "isLetter")
abbrev y_Rs_isLetter : MethodName := ⟨"ReleaseSolver", "isLetter", "(I)Z"⟩
abbrev x_Ve_readItem : rz_X := (prog_8_method_8_code, "ReleaseSolver$Version", 7, none, "readItem")
abbrev y_Ve_readItem : MethodName := ⟨"ReleaseSolver$Version", "readItem", "(ILjava/lang/String;I)V"⟩
abbrev x_St_substring : rz_X := (prog_17_method_92_code, "java/lang/String", 5, some (.object "java/lang/String"), "substring")
abbrev y_St_substring : MethodName := ⟨"java/lang/String", "substring", "(II)Ljava/lang/String;"⟩
abbrev x_St_checkBoundsBeginEnd : rz_X := (prog_17_method_158_code, "java/lang/String", 3, none, "checkBoundsBeginEnd")
abbrev y_St_checkBoundsBeginEnd : MethodName := ⟨"java/lang/String", "checkBoundsBeginEnd", "(III)V"⟩
abbrev x_Pr_checkFromToIndex : rz_X := (prog_32_method_12_code, "jdk/internal/util/Preconditions", 4, some (.int), "checkFromToIndex")
abbrev y_Pr_checkFromToIndex : MethodName := ⟨"jdk/internal/util/Preconditions", "checkFromToIndex", "(IIILjava/util/function/BiFunction;)I"⟩
abbrev x_S1_newString : rz_X := (prog_19_method_47_code, "java/lang/StringLatin1", 3, some (.object "java/lang/String"), "newString")
abbrev y_S1_newString : MethodName := ⟨"java/lang/StringLatin1", "newString", "([BII)Ljava/lang/String;"⟩
abbrev x_Ar_copyOfRange : rz_X := (prog_25_method_132_code, "java/util/Arrays", 3, some (.array (.byte)), "copyOfRange")
abbrev y_Ar_copyOfRange : MethodName := ⟨"java/util/Arrays", "copyOfRange", "([BII)[B"⟩
abbrev x_Ar_copyOfRangeByte : rz_X := (prog_25_method_133_code, "java/util/Arrays", 5, some (.array (.byte)), "copyOfRangeByte")
abbrev y_Ar_copyOfRangeByte : MethodName := ⟨"java/util/Arrays", "copyOfRangeByte", "([BII)[B"⟩
abbrev x_Ar_checkLength : rz_X := (prog_25_method_131_code, "java/util/Arrays", 2, none, "checkLength")
abbrev y_Ar_checkLength : MethodName := ⟨"java/util/Arrays", "checkLength", "(II)V"⟩
abbrev x_Mt_min : rz_X := (prog_16_method_69_code, "java/lang/Math", 2, some (.int), "min")
abbrev y_Mt_min : MethodName := ⟨"java/lang/Math", "min", "(II)I"⟩
abbrev x_St_init : rz_X := (prog_17_method_151_code, "java/lang/String", 3, none, "<init>")
abbrev y_St_init : MethodName := ⟨"java/lang/String", "<init>", "([BB)V"⟩
abbrev x_S2_newString : rz_X := (prog_20_method_69_code, "java/lang/StringUTF16", 5, some (.object "java/lang/String"), "newString")
abbrev y_S2_newString : MethodName := ⟨"java/lang/StringUTF16", "newString", "([BII)Ljava/lang/String;"⟩
abbrev x_S2_compress : rz_X := (prog_20_method_17_code, "java/lang/StringUTF16", 6, some (.array (.byte)), "compress")
abbrev y_S2_compress : MethodName := ⟨"java/lang/StringUTF16", "compress", "([BII)[B"⟩
abbrev x_S2_compress2 : rz_X := (prog_20_method_22_code, "java/lang/StringUTF16", 7, some (.int), "compress")
abbrev y_S2_compress2 : MethodName := ⟨"java/lang/StringUTF16", "compress", "([BI[BII)I"⟩
abbrev x_S2_checkBoundsOffCount : rz_X := (prog_20_method_94_code, "java/lang/StringUTF16", 3, none, "checkBoundsOffCount")
abbrev y_S2_checkBoundsOffCount : MethodName := ⟨"java/lang/StringUTF16", "checkBoundsOffCount", "(II[B)V"⟩
abbrev x_St_checkBoundsOffCount : rz_X := (prog_17_method_157_code, "java/lang/String", 3, some (.int), "checkBoundsOffCount")
abbrev y_St_checkBoundsOffCount : MethodName := ⟨"java/lang/String", "checkBoundsOffCount", "(III)I"⟩
abbrev x_Pr_checkFromIndexSize : rz_X := (prog_32_method_13_code, "jdk/internal/util/Preconditions", 4, some (.int), "checkFromIndexSize")
abbrev y_Pr_checkFromIndexSize : MethodName := ⟨"jdk/internal/util/Preconditions", "checkFromIndexSize", "(IIILjava/util/function/BiFunction;)I"⟩
abbrev x_S2_coderFromArrayLen : rz_X := (prog_20_method_15_code, "java/lang/StringUTF16", 2, some (.byte), "coderFromArrayLen")
abbrev y_S2_coderFromArrayLen : MethodName := ⟨"java/lang/StringUTF16", "coderFromArrayLen", "([BI)B"⟩
abbrev x_Ve_numberOf : rz_X := (prog_8_method_10_code, "ReleaseSolver$Version", 4, some (.long), "numberOf")
abbrev y_Ve_numberOf : MethodName := ⟨"ReleaseSolver$Version", "numberOf", "(Ljava/lang/String;)J"⟩
abbrev x_Ve_rankOfWord : rz_X := (prog_8_method_9_code, "ReleaseSolver$Version", 2, some (.int), "rankOfWord")
abbrev y_Ve_rankOfWord : MethodName := ⟨"ReleaseSolver$Version", "rankOfWord", "(Ljava/lang/String;Z)I"⟩
abbrev x_St_equals : rz_X := (prog_17_method_66_code, "java/lang/String", 3, some (.boolean), "equals")
abbrev y_St_equals : MethodName := ⟨"java/lang/String", "equals", "(Ljava/lang/Object;)Z"⟩
abbrev x_S1_equals : rz_X := (prog_19_method_13_code, "java/lang/StringLatin1", 3, some (.boolean), "equals")
abbrev y_S1_equals : MethodName := ⟨"java/lang/StringLatin1", "equals", "([B[B)Z"⟩
abbrev x_Ve_dictionaryPlace : rz_X := (prog_8_method_11_code, "ReleaseSolver$Version", 5, some (.long), "dictionaryPlace")
abbrev y_Ve_dictionaryPlace : MethodName := ⟨"ReleaseSolver$Version", "dictionaryPlace", "(Ljava/lang/String;)J"⟩
abbrev x_Pl_init : rz_X := (prog_4_method_1_code, "ReleaseSolver$Plugin", 1, none, "<init>")
abbrev y_Pl_init : MethodName := ⟨"ReleaseSolver$Plugin", "<init>", "()V"⟩
abbrev x_Rs_write : rz_X := (prog_1_method_2_code, "ReleaseSolver", 5, some (.int), "write")
abbrev y_Rs_write : MethodName := ⟨"ReleaseSolver", "write", "(IIII)I"⟩
abbrev x_Rs_isWritable : rz_X := (prog_1_method_19_code, "ReleaseSolver", 1, some (.boolean), "isWritable")
abbrev y_Rs_isWritable : MethodName := ⟨"ReleaseSolver", "isWritable", "(I)Z"⟩
abbrev x_Sb_length : rz_X := (prog_18_method_93_code, "java/lang/StringBuilder", 1, some (.int), "length")
abbrev y_Sb_length : MethodName := ⟨"java/lang/StringBuilder", "length", "()I"⟩
abbrev x_Ab_length : rz_X := (prog_12_method_6_code, "java/lang/AbstractStringBuilder", 1, some (.int), "length")
abbrev y_Ab_length : MethodName := ⟨"java/lang/AbstractStringBuilder", "length", "()I"⟩
abbrev x_Rs_lengthOf : rz_X := (prog_1_method_24_code, "ReleaseSolver", 1, some (.int), "lengthOf")
abbrev y_Rs_lengthOf : MethodName := ⟨"ReleaseSolver", "lengthOf", "(I)I"⟩
abbrev x_Rs_append : rz_X := (prog_1_method_25_code, "ReleaseSolver", 2, none, "append")
abbrev y_Rs_append : MethodName := ⟨"ReleaseSolver", "append", "(I)V"⟩
abbrev x_Sb_append : rz_X := (prog_18_method_14_code, "java/lang/StringBuilder", 2, some (.object "java/lang/StringBuilder"), "append")
abbrev y_Sb_append : MethodName := ⟨"java/lang/StringBuilder", "append", "(C)Ljava/lang/StringBuilder;"⟩
abbrev x_Ab_append : rz_X := (prog_12_method_31_code, "java/lang/AbstractStringBuilder", 2, some (.object "java/lang/AbstractStringBuilder"), "append")
abbrev y_Ab_append : MethodName := ⟨"java/lang/AbstractStringBuilder", "append", "(C)Ljava/lang/AbstractStringBuilder;"⟩
abbrev x_Ab_ensureCapacityInternal : rz_X := (prog_12_method_9_code, "java/lang/AbstractStringBuilder", 3, none, "ensureCapacityInternal")
abbrev y_Ab_ensureCapacityInternal : MethodName := ⟨"java/lang/AbstractStringBuilder", "ensureCapacityInternal", "(I)V"⟩
abbrev x_Ab_newCapacity : rz_X := (prog_12_method_10_code, "java/lang/AbstractStringBuilder", 6, some (.int), "newCapacity")
abbrev y_Ab_newCapacity : MethodName := ⟨"java/lang/AbstractStringBuilder", "newCapacity", "(I)I"⟩
abbrev x_As_newLength : rz_X := (prog_31_method_27_code, "jdk/internal/util/ArraysSupport", 4, some (.int), "newLength")
abbrev y_As_newLength : MethodName := ⟨"jdk/internal/util/ArraysSupport", "newLength", "(III)I"⟩
abbrev x_Mt_max : rz_X := (prog_16_method_65_code, "java/lang/Math", 2, some (.int), "max")
abbrev y_Mt_max : MethodName := ⟨"java/lang/Math", "max", "(II)I"⟩
abbrev x_As_hugeLength : rz_X := (prog_31_method_28_code, "jdk/internal/util/ArraysSupport", 3, some (.int), "hugeLength")
abbrev y_As_hugeLength : MethodName := ⟨"jdk/internal/util/ArraysSupport", "hugeLength", "(II)I"⟩
abbrev x_Ar_copyOf : rz_X := (prog_25_method_121_code, "java/util/Arrays", 3, some (.array (.byte)), "copyOf")
abbrev y_Ar_copyOf : MethodName := ⟨"java/util/Arrays", "copyOf", "([BI)[B"⟩
abbrev x_Ab_isLatin1 : rz_X := (prog_12_method_68_code, "java/lang/AbstractStringBuilder", 1, some (.boolean), "isLatin1")
abbrev y_Ab_isLatin1 : MethodName := ⟨"java/lang/AbstractStringBuilder", "isLatin1", "()Z"⟩
abbrev x_S1_canEncode : rz_X := (prog_19_method_3_code, "java/lang/StringLatin1", 1, some (.boolean), "canEncode")
abbrev y_S1_canEncode : MethodName := ⟨"java/lang/StringLatin1", "canEncode", "(C)Z"⟩
abbrev x_Ab_inflate : rz_X := (prog_12_method_11_code, "java/lang/AbstractStringBuilder", 2, none, "inflate")
abbrev y_Ab_inflate : MethodName := ⟨"java/lang/AbstractStringBuilder", "inflate", "()V"⟩
abbrev x_S1_inflate : rz_X := (prog_19_method_50_code, "java/lang/StringLatin1", 5, none, "inflate")
abbrev y_S1_inflate : MethodName := ⟨"java/lang/StringLatin1", "inflate", "([BI[BII)V"⟩
abbrev x_S2_inflate : rz_X := (prog_20_method_86_code, "java/lang/StringUTF16", 6, none, "inflate")
abbrev y_S2_inflate : MethodName := ⟨"java/lang/StringUTF16", "inflate", "([BI[BII)V"⟩
abbrev x_S2_putChar : rz_X := (prog_20_method_4_code, "java/lang/StringUTF16", 3, none, "putChar")
abbrev y_S2_putChar : MethodName := ⟨"java/lang/StringUTF16", "putChar", "([BII)V"⟩
abbrev x_S2_putCharSB : rz_X := (prog_20_method_71_code, "java/lang/StringUTF16", 3, none, "putCharSB")
abbrev y_S2_putCharSB : MethodName := ⟨"java/lang/StringUTF16", "putCharSB", "([BII)V"⟩
abbrev x_Rs_wipe : rz_X := (prog_1_method_3_code, "ReleaseSolver", 2, some (.int), "wipe")
abbrev y_Rs_wipe : MethodName := ⟨"ReleaseSolver", "wipe", "()I"⟩
abbrev x_Sb_setLength : rz_X := (prog_18_method_89_code, "java/lang/StringBuilder", 2, none, "setLength")
abbrev y_Sb_setLength : MethodName := ⟨"java/lang/StringBuilder", "setLength", "(I)V"⟩
abbrev x_Ab_setLength : rz_X := (prog_12_method_13_code, "java/lang/AbstractStringBuilder", 2, none, "setLength")
abbrev y_Ab_setLength : MethodName := ⟨"java/lang/AbstractStringBuilder", "setLength", "(I)V"⟩
abbrev x_S1_fillNull : rz_X := (prog_19_method_48_code, "java/lang/StringLatin1", 3, none, "fillNull")
abbrev y_S1_fillNull : MethodName := ⟨"java/lang/StringLatin1", "fillNull", "([BII)V"⟩
abbrev x_Ar_fill2 : rz_X := (prog_25_method_110_code, "java/util/Arrays", 5, none, "fill")
abbrev y_Ar_fill2 : MethodName := ⟨"java/util/Arrays", "fill", "([BIIB)V"⟩
abbrev x_Ar_rangeCheck : rz_X := (prog_25_method_30_code, "java/util/Arrays", 3, none, "rangeCheck")
abbrev y_Ar_rangeCheck : MethodName := ⟨"java/util/Arrays", "rangeCheck", "(III)V"⟩
abbrev x_S2_fillNull : rz_X := (prog_20_method_70_code, "java/lang/StringUTF16", 3, none, "fillNull")
abbrev y_S2_fillNull : MethodName := ⟨"java/lang/StringUTF16", "fillNull", "([BII)V"⟩
abbrev x_Rs_release : rz_X := (prog_1_method_4_code, "ReleaseSolver", 3, some (.int), "release")
abbrev y_Rs_release : MethodName := ⟨"ReleaseSolver", "release", "(I)I"⟩
abbrev x_Rs_isPlugin : rz_X := (prog_1_method_27_code, "ReleaseSolver", 1, some (.boolean), "isPlugin")
abbrev y_Rs_isPlugin : MethodName := ⟨"ReleaseSolver", "isPlugin", "(I)Z"⟩
abbrev x_Rs_takeText : rz_X := (prog_1_method_26_code, "ReleaseSolver", 2, some (.object "java/lang/String"), "takeText")
abbrev y_Rs_takeText : MethodName := ⟨"ReleaseSolver", "takeText", "()Ljava/lang/String;"⟩
abbrev x_Sb_toString : rz_X := (prog_18_method_42_code, "java/lang/StringBuilder", 1, some (.object "java/lang/String"), "toString")
abbrev y_Sb_toString : MethodName := ⟨"java/lang/StringBuilder", "toString", "()Ljava/lang/String;"⟩
abbrev x_St_init2 : rz_X := (prog_17_method_53_code, "java/lang/String", 2, none, "<init>")
abbrev y_St_init2 : MethodName := ⟨"java/lang/String", "<init>", "(Ljava/lang/StringBuilder;)V"⟩
abbrev x_St_init3 : rz_X := (prog_17_method_150_code, "java/lang/String", 5, none, "<init>")
abbrev y_St_init3 : MethodName := ⟨"java/lang/String", "<init>", "(Ljava/lang/AbstractStringBuilder;Ljava/lang/Void;)V"⟩
abbrev x_Ab_getValue : rz_X := (prog_12_method_64_code, "java/lang/AbstractStringBuilder", 1, some (.array (.byte)), "getValue")
abbrev y_Ab_getValue : MethodName := ⟨"java/lang/AbstractStringBuilder", "getValue", "()[B"⟩
abbrev x_Ve_read : rz_X := (prog_8_method_2_code, "ReleaseSolver$Version", 1, some (.object "ReleaseSolver$Version"), "read")
abbrev y_Ve_read : MethodName := ⟨"ReleaseSolver$Version", "read", "(Ljava/lang/String;)LReleaseSolver$Version;"⟩
abbrev x_Ve_isVersion : rz_X := (prog_8_method_3_code, "ReleaseSolver$Version", 7, some (.boolean), "isVersion")
abbrev y_Ve_isVersion : MethodName := ⟨"ReleaseSolver$Version", "isVersion", "(Ljava/lang/String;)Z"⟩
abbrev x_St_isEmpty : rz_X := (prog_17_method_55_code, "java/lang/String", 1, some (.boolean), "isEmpty")
abbrev y_St_isEmpty : MethodName := ⟨"java/lang/String", "isEmpty", "()Z"⟩
abbrev x_Pl_hasVersion : rz_X := (prog_4_method_4_code, "ReleaseSolver$Plugin", 3, some (.boolean), "hasVersion")
abbrev y_Pl_hasVersion : MethodName := ⟨"ReleaseSolver$Plugin", "hasVersion", "(LReleaseSolver$Version;)Z"⟩
abbrev x_Al_size : rz_X := (prog_24_method_8_code, "java/util/ArrayList", 1, some (.int), "size")
abbrev y_Al_size : MethodName := ⟨"java/util/ArrayList", "size", "()I"⟩
abbrev x_Al_get : rz_X := (prog_24_method_20_code, "java/util/ArrayList", 2, some (.object "java/lang/Object"), "get")
abbrev y_Al_get : MethodName := ⟨"java/util/ArrayList", "get", "(I)Ljava/lang/Object;"⟩
abbrev x_Ob_checkIndex : rz_X := (prog_28_method_17_code, "java/util/Objects", 2, some (.int), "checkIndex")
abbrev y_Ob_checkIndex : MethodName := ⟨"java/util/Objects", "checkIndex", "(II)I"⟩
abbrev x_Al_elementData : rz_X := (prog_24_method_18_code, "java/util/ArrayList", 2, some (.object "java/lang/Object"), "elementData")
abbrev y_Al_elementData : MethodName := ⟨"java/util/ArrayList", "elementData", "(I)Ljava/lang/Object;"⟩
abbrev x_Ve_comparedTo : rz_X := (prog_8_method_5_code, "ReleaseSolver$Version", 3, some (.int), "comparedTo")
abbrev y_Ve_comparedTo : MethodName := ⟨"ReleaseSolver$Version", "comparedTo", "(LReleaseSolver$Version;)I"⟩
abbrev x_Rl_init : rz_X := (prog_6_method_1_code, "ReleaseSolver$Release", 2, none, "<init>")
abbrev y_Rl_init : MethodName := ⟨"ReleaseSolver$Release", "<init>", "(LReleaseSolver$Version;)V"⟩
abbrev x_Pl_add : rz_X := (prog_4_method_5_code, "ReleaseSolver$Plugin", 5, some (.int), "add")
abbrev y_Pl_add : MethodName := ⟨"ReleaseSolver$Plugin", "add", "(LReleaseSolver$Release;)I"⟩
abbrev x_Al_add : rz_X := (prog_24_method_25_code, "java/util/ArrayList", 2, some (.boolean), "add")
abbrev y_Al_add : MethodName := ⟨"java/util/ArrayList", "add", "(Ljava/lang/Object;)Z"⟩
abbrev x_Al_add2 : rz_X := (prog_24_method_24_code, "java/util/ArrayList", 4, none, "add")
abbrev y_Al_add2 : MethodName := ⟨"java/util/ArrayList", "add", "(Ljava/lang/Object;[Ljava/lang/Object;I)V"⟩
abbrev x_Al_grow : rz_X := (prog_24_method_7_code, "java/util/ArrayList", 1, some (.array (.object "java/lang/Object")), "grow")
abbrev y_Al_grow : MethodName := ⟨"java/util/ArrayList", "grow", "()[Ljava/lang/Object;"⟩
abbrev x_Al_grow2 : rz_X := (prog_24_method_6_code, "java/util/ArrayList", 4, some (.array (.object "java/lang/Object")), "grow")
abbrev y_Al_grow2 : MethodName := ⟨"java/util/ArrayList", "grow", "(I)[Ljava/lang/Object;"⟩
abbrev x_Ar_copyOf2 : rz_X := (prog_25_method_119_code, "java/util/Arrays", 2, some (.array (.object "java/lang/Object")), "copyOf")
abbrev y_Ar_copyOf2 : MethodName := ⟨"java/util/Arrays", "copyOf", "([Ljava/lang/Object;I)[Ljava/lang/Object;"⟩
abbrev x_Ar_copyOf3 : rz_X := (prog_25_method_120_code, "java/util/Arrays", 4, some (.array (.object "java/lang/Object")), "copyOf")
abbrev y_Ar_copyOf3 : MethodName := ⟨"java/util/Arrays", "copyOf", "([Ljava/lang/Object;ILjava/lang/Class;)[Ljava/lang/Object;"⟩
abbrev x_Rs_need : rz_X := (prog_1_method_5_code, "ReleaseSolver", 7, some (.int), "need")
abbrev y_Rs_need : MethodName := ⟨"ReleaseSolver", "need", "(IIIZ)I"⟩
abbrev x_Rs_releaseAt : rz_X := (prog_1_method_28_code, "ReleaseSolver", 3, some (.object "ReleaseSolver$Release"), "releaseAt")
abbrev y_Rs_releaseAt : MethodName := ⟨"ReleaseSolver", "releaseAt", "(II)LReleaseSolver$Release;"⟩
abbrev x_Pl_at : rz_X := (prog_4_method_3_code, "ReleaseSolver$Plugin", 2, some (.object "ReleaseSolver$Release"), "at")
abbrev y_Pl_at : MethodName := ⟨"ReleaseSolver$Plugin", "at", "(I)LReleaseSolver$Release;"⟩
abbrev x_Rg_read : rz_X := (prog_5_method_2_code, "ReleaseSolver$Range", 5, some (.object "ReleaseSolver$Range"), "read")
abbrev y_Rg_read : MethodName := ⟨"ReleaseSolver$Range", "read", "(Ljava/lang/String;)LReleaseSolver$Range;"⟩
abbrev x_Rg_init : rz_X := (prog_5_method_1_code, "ReleaseSolver$Range", 5, none, "<init>")
abbrev y_Rg_init : MethodName := ⟨"ReleaseSolver$Range", "<init>", "(LReleaseSolver$Version;ZLReleaseSolver$Version;Z)V"⟩
abbrev x_St_indexOf : rz_X := (prog_17_method_79_code, "java/lang/String", 2, some (.int), "indexOf")
abbrev y_St_indexOf : MethodName := ⟨"java/lang/String", "indexOf", "(I)I"⟩
abbrev x_St_indexOf2 : rz_X := (prog_17_method_80_code, "java/lang/String", 3, some (.int), "indexOf")
abbrev y_St_indexOf2 : MethodName := ⟨"java/lang/String", "indexOf", "(II)I"⟩
abbrev x_S1_indexOf : rz_X := (prog_19_method_22_code, "java/lang/StringLatin1", 4, some (.int), "indexOf")
abbrev y_S1_indexOf : MethodName := ⟨"java/lang/StringLatin1", "indexOf", "([BIII)I"⟩
abbrev x_S1_canEncode2 : rz_X := (prog_19_method_4_code, "java/lang/StringLatin1", 1, some (.boolean), "canEncode")
abbrev y_S1_canEncode2 : MethodName := ⟨"java/lang/StringLatin1", "canEncode", "(I)Z"⟩
abbrev x_S1_indexOfChar : rz_X := (prog_19_method_23_code, "java/lang/StringLatin1", 6, some (.int), "indexOfChar")
abbrev y_S1_indexOfChar : MethodName := ⟨"java/lang/StringLatin1", "indexOfChar", "([BIII)I"⟩
abbrev x_S2_indexOf : rz_X := (prog_20_method_40_code, "java/lang/StringUTF16", 4, some (.int), "indexOf")
abbrev y_S2_indexOf : MethodName := ⟨"java/lang/StringUTF16", "indexOf", "([BIII)I"⟩
abbrev x_S2_indexOfChar : rz_X := (prog_20_method_47_code, "java/lang/StringUTF16", 4, some (.int), "indexOfChar")
abbrev y_S2_indexOfChar : MethodName := ⟨"java/lang/StringUTF16", "indexOfChar", "([BIII)I"⟩
abbrev x_S2_checkBoundsBeginEnd : rz_X := (prog_20_method_93_code, "java/lang/StringUTF16", 3, none, "checkBoundsBeginEnd")
abbrev y_S2_checkBoundsBeginEnd : MethodName := ⟨"java/lang/StringUTF16", "checkBoundsBeginEnd", "(II[B)V"⟩
abbrev x_S2_indexOfCharUnsafe : rz_X := (prog_20_method_48_code, "java/lang/StringUTF16", 5, some (.int), "indexOfCharUnsafe")
abbrev y_S2_indexOfCharUnsafe : MethodName := ⟨"java/lang/StringUTF16", "indexOfCharUnsafe", "([BIII)I"⟩
abbrev x_S2_indexOfSupplementary : rz_X := (prog_20_method_49_code, "java/lang/StringUTF16", 7, some (.int), "indexOfSupplementary")
abbrev y_S2_indexOfSupplementary : MethodName := ⟨"java/lang/StringUTF16", "indexOfSupplementary", "([BIII)I"⟩
abbrev x_Ch_isValidCodePoint : rz_X := (prog_13_method_11_code, "java/lang/Character", 2, some (.boolean), "isValidCodePoint")
abbrev y_Ch_isValidCodePoint : MethodName := ⟨"java/lang/Character", "isValidCodePoint", "(I)Z"⟩
abbrev x_Ch_highSurrogate : rz_X := (prog_13_method_28_code, "java/lang/Character", 1, some (.char), "highSurrogate")
abbrev y_Ch_highSurrogate : MethodName := ⟨"java/lang/Character", "highSurrogate", "(I)C"⟩
abbrev x_Ch_lowSurrogate : rz_X := (prog_13_method_29_code, "java/lang/Character", 1, some (.char), "lowSurrogate")
abbrev y_Ch_lowSurrogate : MethodName := ⟨"java/lang/Character", "lowSurrogate", "(I)C"⟩
abbrev x_Rg_readBounds : rz_X := (prog_5_method_5_code, "ReleaseSolver$Range", 8, some (.object "ReleaseSolver$Range"), "readBounds")
abbrev y_Rg_readBounds : MethodName := ⟨"ReleaseSolver$Range", "readBounds", "(Ljava/lang/String;ZZ)LReleaseSolver$Range;"⟩
abbrev x_Rg_isBound : rz_X := (prog_5_method_6_code, "ReleaseSolver$Range", 1, some (.boolean), "isBound")
abbrev y_Rg_isBound : MethodName := ⟨"ReleaseSolver$Range", "isBound", "(Ljava/lang/String;)Z"⟩
abbrev x_Rg_readExact : rz_X := (prog_5_method_4_code, "ReleaseSolver$Range", 2, some (.object "ReleaseSolver$Range"), "readExact")
abbrev y_Rg_readExact : MethodName := ⟨"ReleaseSolver$Range", "readExact", "(Ljava/lang/String;)LReleaseSolver$Range;"⟩
abbrev x_Nd_init : rz_X := (prog_3_method_1_code, "ReleaseSolver$Need", 4, none, "<init>")
abbrev y_Nd_init : MethodName := ⟨"ReleaseSolver$Need", "<init>", "(ILReleaseSolver$Range;Z)V"⟩
abbrev x_Rs_needHost : rz_X := (prog_1_method_6_code, "ReleaseSolver", 6, some (.int), "needHost")
abbrev y_Rs_needHost : MethodName := ⟨"ReleaseSolver", "needHost", "(II)I"⟩
abbrev x_Rs_withdraw : rz_X := (prog_1_method_7_code, "ReleaseSolver", 5, some (.int), "withdraw")
abbrev y_Rs_withdraw : MethodName := ⟨"ReleaseSolver", "withdraw", "(IIZ)I"⟩
abbrev x_Rs_host : rz_X := (prog_1_method_8_code, "ReleaseSolver", 2, some (.int), "host")
abbrev y_Rs_host : MethodName := ⟨"ReleaseSolver", "host", "()I"⟩
abbrev x_Rs_ask : rz_X := (prog_1_method_9_code, "ReleaseSolver", 3, some (.int), "ask")
abbrev y_Rs_ask : MethodName := ⟨"ReleaseSolver", "ask", "(I)I"⟩
abbrev x_Ak_init : rz_X := (prog_2_method_1_code, "ReleaseSolver$Ask", 3, none, "<init>")
abbrev y_Ak_init : MethodName := ⟨"ReleaseSolver$Ask", "<init>", "(ILReleaseSolver$Range;)V"⟩
abbrev x_Rs_unask : rz_X := (prog_1_method_10_code, "ReleaseSolver", 2, some (.int), "unask")
abbrev y_Rs_unask : MethodName := ⟨"ReleaseSolver", "unask", "(I)I"⟩
abbrev x_Al_remove : rz_X := (prog_24_method_29_code, "java/util/ArrayList", 4, some (.object "java/lang/Object"), "remove")
abbrev y_Al_remove : MethodName := ⟨"java/util/ArrayList", "remove", "(I)Ljava/lang/Object;"⟩
abbrev x_Al_fastRemove : rz_X := (prog_24_method_39_code, "java/util/ArrayList", 4, none, "fastRemove")
abbrev y_Al_fastRemove : MethodName := ⟨"java/util/ArrayList", "fastRemove", "([Ljava/lang/Object;I)V"⟩
abbrev x_Rs_compare : rz_X := (prog_1_method_11_code, "ReleaseSolver", 7, some (.int), "compare")
abbrev y_Rs_compare : MethodName := ⟨"ReleaseSolver", "compare", "(IIII)I"⟩
abbrev x_Rs_rank : rz_X := (prog_1_method_12_code, "ReleaseSolver", 3, some (.int), "rank")
abbrev y_Rs_rank : MethodName := ⟨"ReleaseSolver", "rank", "(I)I"⟩
abbrev x_Ve_rankOf : rz_X := (prog_8_method_4_code, "ReleaseSolver$Version", 2, some (.int), "rankOf")
abbrev y_Ve_rankOf : MethodName := ⟨"ReleaseSolver$Version", "rankOf", "(I)I"⟩
abbrev x_Rs_within : rz_X := (prog_1_method_13_code, "ReleaseSolver", 5, some (.int), "within")
abbrev y_Rs_within : MethodName := ⟨"ReleaseSolver", "within", "(II)I"⟩
abbrev x_Rg_holds : rz_X := (prog_5_method_3_code, "ReleaseSolver$Range", 2, some (.boolean), "holds")
abbrev y_Rg_holds : MethodName := ⟨"ReleaseSolver$Range", "holds", "(LReleaseSolver$Version;)Z"⟩
abbrev x_Rs_solve : rz_X := (prog_1_method_14_code, "ReleaseSolver", 2, some (.int), "solve")
abbrev y_Rs_solve : MethodName := ⟨"ReleaseSolver", "solve", "()I"⟩
abbrev x_Se_prepare : rz_X := (prog_7_method_2_code, "ReleaseSolver$Search", 6, none, "prepare")
abbrev y_Se_prepare : MethodName := ⟨"ReleaseSolver$Search", "prepare", "([LReleaseSolver$Plugin;LReleaseSolver$Version;Ljava/util/ArrayList;)V"⟩
abbrev x_Se_prepareOrder : rz_X := (prog_7_method_6_code, "ReleaseSolver$Search", 3, none, "prepareOrder")
abbrev y_Se_prepareOrder : MethodName := ⟨"ReleaseSolver$Search", "prepareOrder", "(ILReleaseSolver$Plugin;)V"⟩
abbrev x_Pl_size : rz_X := (prog_4_method_2_code, "ReleaseSolver$Plugin", 1, some (.int), "size")
abbrev y_Pl_size : MethodName := ⟨"ReleaseSolver$Plugin", "size", "()I"⟩
abbrev x_Se_prepareNeeds : rz_X := (prog_7_method_7_code, "ReleaseSolver$Search", 8, none, "prepareNeeds")
abbrev y_Se_prepareNeeds : MethodName := ⟨"ReleaseSolver$Search", "prepareNeeds", "([LReleaseSolver$Plugin;II)V"⟩
abbrev x_Pl_releasesIn : rz_X := (prog_4_method_6_code, "ReleaseSolver$Plugin", 4, some (.int), "releasesIn")
abbrev y_Pl_releasesIn : MethodName := ⟨"ReleaseSolver$Plugin", "releasesIn", "(LReleaseSolver$Range;)I"⟩
abbrev x_Se_row : rz_X := (prog_7_method_5_code, "ReleaseSolver$Search", 2, some (.int), "row")
abbrev y_Se_row : MethodName := ⟨"ReleaseSolver$Search", "row", "(II)I"⟩
abbrev x_Se_keepOnly : rz_X := (prog_7_method_8_code, "ReleaseSolver$Search", 6, none, "keepOnly")
abbrev y_Se_keepOnly : MethodName := ⟨"ReleaseSolver$Search", "keepOnly", "(IIII)V"⟩
abbrev x_Rs_hasBit : rz_X := (prog_1_method_23_code, "ReleaseSolver", 2, some (.boolean), "hasBit")
abbrev y_Rs_hasBit : MethodName := ⟨"ReleaseSolver", "hasBit", "(II)Z"⟩
abbrev x_Se_prepareUsable : rz_X := (prog_7_method_9_code, "ReleaseSolver$Search", 7, none, "prepareUsable")
abbrev y_Se_prepareUsable : MethodName := ⟨"ReleaseSolver$Search", "prepareUsable", "(ILReleaseSolver$Plugin;LReleaseSolver$Version;)V"⟩
abbrev x_Rl_isUsableOn : rz_X := (prog_6_method_2_code, "ReleaseSolver$Release", 2, some (.boolean), "isUsableOn")
abbrev y_Rl_isUsableOn : MethodName := ⟨"ReleaseSolver$Release", "isUsableOn", "(LReleaseSolver$Version;)Z"⟩
abbrev x_Se_prepareAsks : rz_X := (prog_7_method_10_code, "ReleaseSolver$Search", 5, none, "prepareAsks")
abbrev y_Se_prepareAsks : MethodName := ⟨"ReleaseSolver$Search", "prepareAsks", "([LReleaseSolver$Plugin;Ljava/util/ArrayList;)V"⟩
abbrev x_Se_finds : rz_X := (prog_7_method_3_code, "ReleaseSolver$Search", 3, some (.boolean), "finds")
abbrev y_Se_finds : MethodName := ⟨"ReleaseSolver$Search", "finds", "(I)Z"⟩
abbrev x_Se_settle : rz_X := (prog_7_method_11_code, "ReleaseSolver$Search", 3, some (.boolean), "settle")
abbrev y_Se_settle : MethodName := ⟨"ReleaseSolver$Search", "settle", "(I)Z"⟩
abbrev x_Se_tryOption : rz_X := (prog_7_method_12_code, "ReleaseSolver$Search", 7, some (.boolean), "tryOption")
abbrev y_Se_tryOption : MethodName := ⟨"ReleaseSolver$Search", "tryOption", "(II)Z"⟩
abbrev x_Se_allMayBeLedTo : rz_X := (prog_7_method_13_code, "ReleaseSolver$Search", 5, some (.boolean), "allMayBeLedTo")
abbrev y_Se_allMayBeLedTo : MethodName := ⟨"ReleaseSolver$Search", "allMayBeLedTo", "([I)Z"⟩
abbrev x_Se_leadsFrom : rz_X := (prog_7_method_14_code, "ReleaseSolver$Search", 6, some (.int), "leadsFrom")
abbrev y_Se_leadsFrom : MethodName := ⟨"ReleaseSolver$Search", "leadsFrom", "(I[I)I"⟩
abbrev x_Rs_keepSelection : rz_X := (prog_1_method_29_code, "ReleaseSolver", 3, some (.int), "keepSelection")
abbrev y_Rs_keepSelection : MethodName := ⟨"ReleaseSolver", "keepSelection", "()I"⟩
abbrev x_Se_found : rz_X := (prog_7_method_4_code, "ReleaseSolver$Search", 3, some (.int), "found")
abbrev y_Se_found : MethodName := ⟨"ReleaseSolver$Search", "found", "(I)I"⟩
abbrev x_Rs_blameAmong : rz_X := (prog_1_method_30_code, "ReleaseSolver", 5, some (.int), "blameAmong")
abbrev y_Rs_blameAmong : MethodName := ⟨"ReleaseSolver", "blameAmong", "(I)I"⟩
abbrev x_Rs_chosen : rz_X := (prog_1_method_15_code, "ReleaseSolver", 2, some (.int), "chosen")
abbrev y_Rs_chosen : MethodName := ⟨"ReleaseSolver", "chosen", "(I)I"⟩
abbrev x_Rs_blamed : rz_X := (prog_1_method_16_code, "ReleaseSolver", 2, some (.boolean), "blamed")
abbrev y_Rs_blamed : MethodName := ⟨"ReleaseSolver", "blamed", "(I)Z"⟩
abbrev x_Rs_unmet : rz_X := (prog_1_method_17_code, "ReleaseSolver", 3, some (.int), "unmet")
abbrev y_Rs_unmet : MethodName := ⟨"ReleaseSolver", "unmet", "()I"⟩
abbrev x_Rs_isMet : rz_X := (prog_1_method_31_code, "ReleaseSolver", 3, some (.boolean), "isMet")
abbrev y_Rs_isMet : MethodName := ⟨"ReleaseSolver", "isMet", "(LReleaseSolver$Ask;)Z"⟩
abbrev x_Rs_count : rz_X := (prog_1_method_18_code, "ReleaseSolver", 2, some (.int), "count")
abbrev y_Rs_count : MethodName := ⟨"ReleaseSolver", "count", "(I)I"⟩
abbrev x_Rs_countReleases : rz_X := (prog_1_method_32_code, "ReleaseSolver", 6, some (.int), "countReleases")
abbrev y_Rs_countReleases : MethodName := ⟨"ReleaseSolver", "countReleases", "()I"⟩
abbrev x_Rs_countWithdrawn : rz_X := (prog_1_method_33_code, "ReleaseSolver", 6, some (.int), "countWithdrawn")
abbrev y_Rs_countWithdrawn : MethodName := ⟨"ReleaseSolver", "countWithdrawn", "()I"⟩
abbrev x_Pl_withdrawnReleases : rz_X := (prog_4_method_7_code, "ReleaseSolver$Plugin", 3, some (.int), "withdrawnReleases")
abbrev y_Pl_withdrawnReleases : MethodName := ⟨"ReleaseSolver$Plugin", "withdrawnReleases", "()I"⟩
abbrev x_Rs_countNeeds : rz_X := (prog_1_method_34_code, "ReleaseSolver", 6, some (.int), "countNeeds")
abbrev y_Rs_countNeeds : MethodName := ⟨"ReleaseSolver", "countNeeds", "()I"⟩
abbrev x_Pl_needsOfReleases : rz_X := (prog_4_method_8_code, "ReleaseSolver$Plugin", 3, some (.int), "needsOfReleases")
abbrev y_Pl_needsOfReleases : MethodName := ⟨"ReleaseSolver$Plugin", "needsOfReleases", "()I"⟩
abbrev x_Md_init : rz_X := (prog_10_method_1_code, "ReleaseSolverModel", 1, none, "<init>")
abbrev y_Md_init : MethodName := ⟨"ReleaseSolverModel", "<init>", "()V"⟩
abbrev x_Md_write : rz_X := (prog_10_method_8_code, "ReleaseSolverModel", 6, some (.int), "write")
abbrev y_Md_write : MethodName := ⟨"ReleaseSolverModel", "write", "(IIII)I"⟩
abbrev x_Md_may : rz_X := (prog_10_method_5_code, "ReleaseSolverModel", 1, some (.boolean), "may")
abbrev y_Md_may : MethodName := ⟨"ReleaseSolverModel", "may", "(I)Z"⟩
abbrev x_Md_digit : rz_X := (prog_10_method_3_code, "ReleaseSolverModel", 1, some (.boolean), "digit")
abbrev y_Md_digit : MethodName := ⟨"ReleaseSolverModel", "digit", "(I)Z"⟩
abbrev x_Md_in : rz_X := (prog_10_method_2_code, "ReleaseSolverModel", 3, some (.boolean), "in")
abbrev y_Md_in : MethodName := ⟨"ReleaseSolverModel", "in", "(III)Z"⟩
abbrev x_Md_letter : rz_X := (prog_10_method_4_code, "ReleaseSolverModel", 1, some (.boolean), "letter")
abbrev y_Md_letter : MethodName := ⟨"ReleaseSolverModel", "letter", "(I)Z"⟩
abbrev x_Md_put : rz_X := (prog_10_method_7_code, "ReleaseSolverModel", 2, some (.int), "put")
abbrev y_Md_put : MethodName := ⟨"ReleaseSolverModel", "put", "(I)I"⟩
abbrev x_Md_wipe : rz_X := (prog_10_method_9_code, "ReleaseSolverModel", 2, some (.int), "wipe")
abbrev y_Md_wipe : MethodName := ⟨"ReleaseSolverModel", "wipe", "()I"⟩
abbrev x_Md_release : rz_X := (prog_10_method_25_code, "ReleaseSolverModel", 3, some (.int), "release")
abbrev y_Md_release : MethodName := ⟨"ReleaseSolverModel", "release", "(I)I"⟩
abbrev x_Md_version : rz_X := (prog_10_method_11_code, "ReleaseSolverModel", 9, some (.boolean), "version")
abbrev y_Md_version : MethodName := ⟨"ReleaseSolverModel", "version", "(III)Z"⟩
abbrev x_Md_at : rz_X := (prog_10_method_6_code, "ReleaseSolverModel", 3, some (.int), "at")
abbrev y_Md_at : MethodName := ⟨"ReleaseSolverModel", "at", "(II)I"⟩
abbrev x_Md_used : rz_X := (prog_10_method_24_code, "ReleaseSolverModel", 2, some (.int), "used")
abbrev y_Md_used : MethodName := ⟨"ReleaseSolverModel", "used", "(I)I"⟩
abbrev x_Md_ordered : rz_X := (prog_10_method_19_code, "ReleaseSolverModel", 19, some (.int), "ordered")
abbrev y_Md_ordered : MethodName := ⟨"ReleaseSolverModel", "ordered", "(IIII)I"⟩
abbrev x_Md_item : rz_X := (prog_10_method_12_code, "ReleaseSolverModel", 4, some (.boolean), "item")
abbrev y_Md_item : MethodName := ⟨"ReleaseSolverModel", "item", "(III)Z"⟩
abbrev x_Md_rankOf : rz_X := (prog_10_method_16_code, "ReleaseSolverModel", 4, some (.int), "rankOf")
abbrev y_Md_rankOf : MethodName := ⟨"ReleaseSolverModel", "rankOf", "(IZ)I"⟩
abbrev x_Md_wordRank : rz_X := (prog_10_method_15_code, "ReleaseSolverModel", 7, some (.int), "wordRank")
abbrev y_Md_wordRank : MethodName := ⟨"ReleaseSolverModel", "wordRank", "(III)I"⟩
abbrev x_Md_word : rz_X := (prog_10_method_13_code, "ReleaseSolverModel", 7, some (.long), "word")
abbrev y_Md_word : MethodName := ⟨"ReleaseSolverModel", "word", "(III)J"⟩
abbrev x_Md_spelt : rz_X := (prog_10_method_14_code, "ReleaseSolverModel", 7, some (.long), "spelt")
abbrev y_Md_spelt : MethodName := ⟨"ReleaseSolverModel", "spelt", "(IIIII)J"⟩
abbrev x_Md_words : rz_X := (prog_10_method_18_code, "ReleaseSolverModel", 10, some (.int), "words")
abbrev y_Md_words : MethodName := ⟨"ReleaseSolverModel", "words", "(IIIIII)I"⟩
abbrev x_Md_number : rz_X := (prog_10_method_17_code, "ReleaseSolverModel", 7, some (.long), "number")
abbrev y_Md_number : MethodName := ⟨"ReleaseSolverModel", "number", "(III)J"⟩
abbrev x_Md_keep : rz_X := (prog_10_method_10_code, "ReleaseSolverModel", 3, none, "keep")
abbrev y_Md_keep : MethodName := ⟨"ReleaseSolverModel", "keep", "(I)V"⟩
abbrev x_Md_need : rz_X := (prog_10_method_26_code, "ReleaseSolverModel", 7, some (.int), "need")
abbrev y_Md_need : MethodName := ⟨"ReleaseSolverModel", "need", "(IIIZ)I"⟩
abbrev x_Md_none : rz_X := (prog_10_method_23_code, "ReleaseSolverModel", 3, some (.boolean), "none")
abbrev y_Md_none : MethodName := ⟨"ReleaseSolverModel", "none", "(II)Z"⟩
abbrev x_Md_range : rz_X := (prog_10_method_21_code, "ReleaseSolverModel", 6, some (.boolean), "range")
abbrev y_Md_range : MethodName := ⟨"ReleaseSolverModel", "range", "(I)Z"⟩
abbrev x_Md_comma : rz_X := (prog_10_method_20_code, "ReleaseSolverModel", 3, some (.int), "comma")
abbrev y_Md_comma : MethodName := ⟨"ReleaseSolverModel", "comma", "(I)I"⟩
abbrev x_Md_needHost : rz_X := (prog_10_method_27_code, "ReleaseSolverModel", 4, some (.int), "needHost")
abbrev y_Md_needHost : MethodName := ⟨"ReleaseSolverModel", "needHost", "(II)I"⟩
abbrev x_Md_withdraw : rz_X := (prog_10_method_28_code, "ReleaseSolverModel", 4, some (.int), "withdraw")
abbrev y_Md_withdraw : MethodName := ⟨"ReleaseSolverModel", "withdraw", "(IIZ)I"⟩
abbrev x_Md_host : rz_X := (prog_10_method_29_code, "ReleaseSolverModel", 1, some (.int), "host")
abbrev y_Md_host : MethodName := ⟨"ReleaseSolverModel", "host", "()I"⟩
abbrev x_Md_ask : rz_X := (prog_10_method_30_code, "ReleaseSolverModel", 2, some (.int), "ask")
abbrev y_Md_ask : MethodName := ⟨"ReleaseSolverModel", "ask", "(I)I"⟩
abbrev x_Md_unask : rz_X := (prog_10_method_31_code, "ReleaseSolverModel", 4, some (.int), "unask")
abbrev y_Md_unask : MethodName := ⟨"ReleaseSolverModel", "unask", "(I)I"⟩
abbrev x_Md_compare : rz_X := (prog_10_method_32_code, "ReleaseSolverModel", 6, some (.int), "compare")
abbrev y_Md_compare : MethodName := ⟨"ReleaseSolverModel", "compare", "(IIII)I"⟩
abbrev x_Md_compareTexts : rz_X := (prog_10_method_33_code, "ReleaseSolverModel", 3, some (.int), "compareTexts")
abbrev y_Md_compareTexts : MethodName := ⟨"ReleaseSolverModel", "compareTexts", "(II)I"⟩
abbrev x_Md_rank : rz_X := (prog_10_method_34_code, "ReleaseSolverModel", 5, some (.int), "rank")
abbrev y_Md_rank : MethodName := ⟨"ReleaseSolverModel", "rank", "(I)I"⟩
abbrev x_Md_within : rz_X := (prog_10_method_35_code, "ReleaseSolverModel", 3, some (.int), "within")
abbrev y_Md_within : MethodName := ⟨"ReleaseSolverModel", "within", "(II)I"⟩
abbrev x_Md_inside : rz_X := (prog_10_method_22_code, "ReleaseSolverModel", 8, some (.boolean), "inside")
abbrev y_Md_inside : MethodName := ⟨"ReleaseSolverModel", "inside", "(II)Z"⟩
abbrev x_Md_solve : rz_X := (prog_10_method_44_code, "ReleaseSolverModel", 4, some (.int), "solve")
abbrev y_Md_solve : MethodName := ⟨"ReleaseSolverModel", "solve", "()I"⟩
abbrev x_Md_search : rz_X := (prog_10_method_42_code, "ReleaseSolverModel", 6, some (.boolean), "search")
abbrev y_Md_search : MethodName := ⟨"ReleaseSolverModel", "search", "()Z"⟩
abbrev x_Md_ranked : rz_X := (prog_10_method_36_code, "ReleaseSolverModel", 6, some (.int), "ranked")
abbrev y_Md_ranked : MethodName := ⟨"ReleaseSolverModel", "ranked", "(II)I"⟩
abbrev x_Md_good : rz_X := (prog_10_method_41_code, "ReleaseSolverModel", 2, some (.boolean), "good")
abbrev y_Md_good : MethodName := ⟨"ReleaseSolverModel", "good", "()Z"⟩
abbrev x_Md_meets : rz_X := (prog_10_method_38_code, "ReleaseSolverModel", 3, some (.boolean), "meets")
abbrev y_Md_meets : MethodName := ⟨"ReleaseSolverModel", "meets", "(II)Z"⟩
abbrev x_Md_slot : rz_X := (prog_10_method_37_code, "ReleaseSolverModel", 2, some (.int), "slot")
abbrev y_Md_slot : MethodName := ⟨"ReleaseSolverModel", "slot", "(I)I"⟩
abbrev x_Md_releaseGood : rz_X := (prog_10_method_39_code, "ReleaseSolverModel", 5, some (.boolean), "releaseGood")
abbrev y_Md_releaseGood : MethodName := ⟨"ReleaseSolverModel", "releaseGood", "(I)Z"⟩
abbrev x_Md_allLed : rz_X := (prog_10_method_40_code, "ReleaseSolverModel", 4, some (.boolean), "allLed")
abbrev y_Md_allLed : MethodName := ⟨"ReleaseSolverModel", "allLed", "()Z"⟩
abbrev x_Md_findBlame : rz_X := (prog_10_method_43_code, "ReleaseSolverModel", 2, none, "findBlame")
abbrev y_Md_findBlame : MethodName := ⟨"ReleaseSolverModel", "findBlame", "()V"⟩
abbrev x_Md_chosen : rz_X := (prog_10_method_45_code, "ReleaseSolverModel", 2, some (.int), "chosen")
abbrev y_Md_chosen : MethodName := ⟨"ReleaseSolverModel", "chosen", "(I)I"⟩
abbrev x_Md_blamed : rz_X := (prog_10_method_46_code, "ReleaseSolverModel", 2, some (.boolean), "blamed")
abbrev y_Md_blamed : MethodName := ⟨"ReleaseSolverModel", "blamed", "(I)Z"⟩
abbrev x_Md_unmet : rz_X := (prog_10_method_47_code, "ReleaseSolverModel", 3, some (.int), "unmet")
abbrev y_Md_unmet : MethodName := ⟨"ReleaseSolverModel", "unmet", "()I"⟩
abbrev x_Md_count : rz_X := (prog_10_method_48_code, "ReleaseSolverModel", 7, some (.int), "count")
abbrev y_Md_count : MethodName := ⟨"ReleaseSolverModel", "count", "(I)I"⟩
end
section
/-! CORE: Java's numbers as integers; the heap as a map with tags; a walk that hides the machine -/
abbrev vi (x : Int) : Value := Value.int (Int32.ofInt x)
abbrev vl (x : Int) : Value := Value.long (Int64.ofInt x)
def bi (b : Bool) : Int := if b = true then 1 else 0
theorem bi_t : bi true = 1 := rfl
theorem bi_f : bi false = 0 := rfl
theorem bi_in (b : Bool) : 0 ≤ bi b ∧ bi b ≤ 1 := by cases b <;> decide
theorem bi_eq0 (b : Bool) : bi b = 0 ↔ b = false := by cases b <;> decide
/-- tables: data of the classes, array classes, where the world begins, what lay there before, its addresses -/
abbrev rz_G : Type := va_G × (Nat → ClassId) × Nat × (Nat → Option (Nat × va_E)) × (Nat → Nat)
/-- the heap: an address, a tag (what for, whose), a cell; tag (0, t) is of old, read only -/
abbrev rz_H : Type := Nat → Option ((Nat × Nat) × va_E)
abbrev rz_K : Type := Launch × Program × Env × State × MethodId × Array Value × List Frame × Method × Code
abbrev rz_A (Γ : rz_G) : Nat → Prop := fun q => Γ.2.2.1 ≤ q
def rz_up (h : rz_H) (a : Nat) (x : (Nat × Nat) × va_E) : rz_H := fun b => if b = a then some x else h b
theorem rz_up_s (h : rz_H) (a : Nat) (x : (Nat × Nat) × va_E) : rz_up h a x a = some x := by simp [rz_up]
theorem rz_up_n {h : rz_H} {a b : Nat} {x : (Nat × Nat) × va_E} (hn : b ≠ a) : rz_up h a x b = h b := by simp [rz_up, hn]
/-- cells of other tags stay -/
theorem rz_up_t {h : rz_H} {a b : Nat} {x : (Nat × Nat) × va_E} {ta tb : Nat × Nat} {ea eb : va_E} (ha : h a = some (ta, ea)) (hb : h b = some (tb, eb)) (hn : tb ≠ ta) : rz_up h a x b = some (tb, eb) := by
  rw [rz_up_n (fun e => hn (by rw [e, ha] at hb; cases hb; rfl)), hb]
/-- a new cell: all others stay -/
theorem rz_up_f {h : rz_H} {a b : Nat} {x y : (Nat × Nat) × va_E} (ha : h a = none) (hb : h b = some y) : rz_up h a x b = some y := by
  rw [rz_up_n (fun e => by rw [e, ha] at hb; cases hb), hb]
/-- what lay there before: objects whose first fields are known, arrays of numbers or of references -/
def rz_fz (Γ : rz_G) (t a : Nat) (e : va_E) (U : State) : Prop := match e with
  | .inr o => ∃ r : vw_C, rz_cl[o.1]? = some r ∧ va_O r.1 a (rz_A Γ) U U.heap ∧ ∀ k v, o.2[k]? = some v → va_OF (r.2.1 k).1 (r.2.1 k).2.1 (r.2.1 k).2.2.1 v a (rz_A Γ) U U.heap
  | .inl (_, n, .inl f) => ∃ ty, (rz_T Γ.2.1)[t]? = some ty ∧ va_T ty.2 a n (fun j => .int (f j)) (rz_A Γ) U U.heap
  | .inl (_, n, .inr (.inr (.inr (.inr f)))) => ∃ ty, (rz_T Γ.2.1)[t]? = some ty ∧ va_T ty.2 a n (fun j => va_rf (f j)) (rz_A Γ) U U.heap
  | _ => False
theorem rz_fz.moved {Γ : rz_G} {t a : Nat} {e : va_E} {s U : State} (hvm : s.vm.Alike U.vm) (hk : ∀ q : Nat, q < s.heap.size → ¬ rz_A Γ q → U.heap[q]? = s.heap[q]?) (h : rz_fz Γ t a e s) : rz_fz Γ t a e U := by
  obtain ⟨cA, n, f | f | f | f | f⟩ | o := e
  · obtain ⟨ty, h1, h2⟩ := h
    exact ⟨ty, h1, (va_T.moved hvm h2).kept hk⟩
  · exact h
  · exact h
  · exact h
  · obtain ⟨ty, h1, h2⟩ := h
    exact ⟨ty, h1, (va_T.moved hvm h2).kept hk⟩
  · obtain ⟨r, h1, h2, h3⟩ := h
    exact ⟨r, h1, (va_O.moved hvm h2).kept hk, fun k v hv => (va_OF.moved hvm (h3 k v hv)).kept hk⟩
theorem rz_fz.out {Γ : rz_G} {t a : Nat} {e : va_E} {U : State} (h : rz_fz Γ t a e U) : ¬ rz_A Γ a := by
  obtain ⟨cA, n, f | f | f | f | f⟩ | o := e
  · obtain ⟨ty, h1, cell, -, -, -, -, -, -, h2⟩ := h
    exact h2
  · exact h.elim
  · exact h.elim
  · exact h.elim
  · obtain ⟨ty, h1, cell, -, -, -, -, -, -, h2⟩ := h
    exact h2
  · obtain ⟨r, h1, ⟨cell, -, -, -, h2⟩, h3⟩ := h
    exact h2
/-- what a method may count on: tables, words, statics, constants -/
def rz_E (Γ : rz_G) (U : State) : Prop :=
  va_K Γ.1 rz_cl (rz_T Γ.2.1) U ∧ Γ.2.2.1 ≤ U.heap.size ∧ (∀ w ∈ rz_W, ∀ a : Array Value, w.before a U = true) ∧
  ((∀ q ∈ rz_NF, va_Nw (.fieldLinkNest q.1 q.2.1 q.2.2.1 q.2.2.2.1 q.2.2.2.2.1 q.2.2.2.2.2) U) ∧ (∀ q ∈ rz_NM, va_Nw (.methodLinkNest q.1 q.2.1 q.2.2.1 q.2.2.2) U) ∧ (∀ q ∈ rz_NC, va_Nw (.castable q.1 q.2) U) ∧ ∀ q ∈ rz_NA, va_AO q U) ∧
  (∀ a t e, Γ.2.2.2.1 a = some (t, e) → rz_fz Γ t a e U) ∧ (∀ q ∈ rz_Z Γ.2.2.2.2, va_Z q.1 q.2.1 q.2.2.1 q.2.2.2 (rz_A Γ) U U.heap) ∧ ∀ q ∈ rz_S Γ.2.2.2.2, vk_R q.1 q.2.1 q.2.2.1 q.2.2.2 U
theorem rz_E.moved {Γ : rz_G} {s U : State} (hE : rz_E Γ s) (hz : s.heap.size ≤ U.heap.size) (hk : ∀ q : Nat, q < s.heap.size → ¬ rz_A Γ q → U.heap[q]? = s.heap[q]?) (hW : s.WarmedH U.vm) : rz_E Γ U := by
  obtain ⟨h1, h2, h3, ⟨h4, h5, h6, h7⟩, h8, h9, h10⟩ := hE
  refine ⟨va_K.moved hW.alike h1, Nat.le_trans h2 hz, fun w hw a => word_at hW (rz_good w hw) (h3 w hw a), ⟨fun q hq => va_Nw.warmF hW (h4 q hq), fun q hq => va_Nw.warmM hW (h5 q hq), fun q hq => va_Nw.warmC hW (h6 q hq), fun q hq => va_AO.moved hW.alike (h7 q hq)⟩,
    fun a t e he => (h8 a t e he).moved hW.alike hk, fun q hq => (va_Z.moved hW.alike (h9 q hq)).kept hk, fun q hq => vk_R.warm hW (h10 q hq)⟩
/-- the machine's heap holds the map -/
def rz_O (Γ : rz_G) (h : rz_H) (H : Heap) : Prop := ∃ ws : va_W, va_P Γ.1 rz_cl ws H ∧ va_D (rz_A Γ) ws ∧ ∀ (a : Nat) (t : Nat × Nat) (e : va_E), h a = some (t, e) → (t.1 ≠ 0 ∧ ∃ k : Nat, ws[k]? = some (a, e)) ∨ (t.1 = 0 ∧ Γ.2.2.2.1 a = some (t.2, e))
theorem rz_O.set {Γ : rz_G} {h : rz_H} {ws : va_W} {k a : Nat} {t : Nat × Nat} {e e' : va_E} {H1 : Heap} (hws : ∀ (a : Nat) (t : Nat × Nat) (e : va_E), h a = some (t, e) → (t.1 ≠ 0 ∧ ∃ k : Nat, ws[k]? = some (a, e)) ∨ (t.1 = 0 ∧ Γ.2.2.2.1 a = some (t.2, e)))
    (hk : ws[k]? = some (a, e)) (ht : t.1 ≠ 0) (hP1 : va_P Γ.1 rz_cl (ws.set k (a, e')) H1) (hD1 : va_D (rz_A Γ) (ws.set k (a, e'))) : rz_O Γ (rz_up h a (t, e')) H1 := by
  refine ⟨_, hP1, hD1, fun b tb eb hb => ?_⟩
  have hl := (List.getElem?_eq_some_iff.mp hk).1
  by_cases hba : b = a
  · subst hba
    rw [rz_up_s] at hb
    cases hb
    exact Or.inl ⟨ht, k, List.getElem?_set_self hl⟩
  · rw [rz_up_n hba] at hb
    rcases hws b tb eb hb with ⟨h1, j, hj⟩ | h1
    · refine Or.inl ⟨h1, j, ?_⟩
      rw [List.getElem?_set_ne (fun e => hba (by rw [e, hj] at hk; cases hk; rfl))]
      exact hj
    · exact Or.inr h1
theorem rz_O.push {Γ : rz_G} {h : rz_H} {ws : va_W} {q : Nat} {t : Nat × Nat} {e : va_E} {s : State} {H1 : Heap} (hE : rz_E Γ s) (hws : ∀ (a : Nat) (t : Nat × Nat) (e : va_E), h a = some (t, e) → (t.1 ≠ 0 ∧ ∃ k : Nat, ws[k]? = some (a, e)) ∨ (t.1 = 0 ∧ Γ.2.2.2.1 a = some (t.2, e)))
    (ht : t.1 ≠ 0) (hP1 : va_P Γ.1 rz_cl (ws ++ [(q, e)]) H1) (hD1 : va_D (rz_A Γ) (ws ++ [(q, e)])) : h q = none ∧ rz_O Γ (rz_up h q (t, e)) H1 := by
  have hq : (ws ++ [(q, e)])[ws.length]? = some (q, e) := by simp
  have hn : h q = none := by
    cases hx : h q with
    | none => rfl
    | some x =>
      obtain ⟨tx, ex⟩ := x
      rcases hws q tx ex hx with ⟨-, j, hj⟩ | ⟨-, h2⟩
      · have hl := (List.getElem?_eq_some_iff.mp hj).1
        have hj2 : (ws ++ [(q, e)])[j]? = some (q, ex) := by rw [List.getElem?_append_left hl]; exact hj
        have := hD1.1 j ws.length _ _ hj2 hq rfl
        omega
      · exact absurd (hD1.2 _ _ hq) (hE.2.2.2.2.1 q _ _ h2).out
  refine ⟨hn, _, hP1, hD1, fun b tb eb hb => ?_⟩
  by_cases hba : b = q
  · subst hba
    rw [rz_up_s] at hb
    cases hb
    exact Or.inl ⟨ht, _, hq⟩
  · rw [rz_up_n hba] at hb
    rcases hws b tb eb hb with ⟨h1, j, hj⟩ | h1
    · exact Or.inl ⟨h1, j, by rw [List.getElem?_append_left (List.getElem?_eq_some_iff.mp hj).1]; exact hj⟩
    · exact Or.inr h1
/-- a contract's end -/
def rz_Q (Γ : rz_G) (post : Option Value → rz_H → Prop) : Array Value → State → Outcome → State → Prop := fun _ st oc t => (∃ (v : Option Value) (h' : rz_H), oc = .returned v ∧ post v h' ∧ rz_O Γ h' t.heap) ∧ va_F (rz_A Γ) st t
/-- a contract: y with these arguments, over this heap -/
def Ct (l : Launch) (Γ : rz_G) (X : rz_X) (y : MethodName) (rm : Room) (args : List Value) (h : rz_H) (post : Option Value → rz_H → Prop) : Prop :=
  Met l y [.code y X.1 X.2.2.1 X.2.2.2.1] rm (va_Pc args (fun U => rz_E Γ U ∧ rz_O Γ h U.heap)) (rz_Q Γ post) rm.cells rm.slots (rz_A Γ)
def rz_C (Γ : rz_G) (X : rz_X) (K : rz_K) : Prop := K.2.1.tables.exec = Jvm.exec ∧ K.2.2.2.2.2.2.2.2.code = X.1 ∧ K.2.2.2.2.2.2.2.2.maxLocals = X.2.2.1 ∧ K.2.2.2.1.vm.findClass X.2.1 = some K.2.2.2.2.1.cls ∧ K.2.2.2.2.2.2.2.1.sig.returnType = X.2.2.2.1 ∧ K.2.2.2.2.2.2.2.1.locks = false ∧ K.2.2.2.2.2.2.2.1.name = X.2.2.2.2 ∧ rz_E Γ K.2.2.2.1
def Wk (Γ : rz_G) (X : rz_X) (rm : Room) (post : Option Value → rz_H → Prop) (K : rz_K) (cells slots pc : Nat) (L : List (Nat × Value)) (st : List Value) (h : rz_H) : Prop :=
  rz_C Γ X K → ∀ (H : Heap) (locs : List Loc) (ls : Array Slot), rz_O Γ h H → va_S (rz_A Γ) K.2.2.2.1.heap H locs → lv_has ls X.2.2.1 L →
    W K.2.1 K.1 K.2.2.1 rm K.2.2.2.1 K.2.2.2.2.1 K.2.2.2.2.2.1 K.2.2.2.2.2.2.1 K.2.2.2.2.2.2.2.1 K.2.2.2.2.2.2.2.2 H locs cells slots (MQ K.2.2.2.2.2.2.1 (rz_Q Γ post) K.2.2.2.2.2.1 K.2.2.2.1 rm.cells rm.slots (rz_A Γ)) (F0 K.2.2.2.2.1 pc ls st)
/-- a contract out of a walk of the body -/
theorem rz_met {l : Launch} {Γ : rz_G} {X : rz_X} {y : MethodName} {rm : Room} {args : List Value} {h : rz_H} {post : Option Value → rz_H → Prop} (hy : plainName y.cls = true) (hX : X.2.1 = y.cls) (hN : X.2.2.2.2 = y.name) (hl : (lg_sl args).length ≤ X.2.2.1)
    (body : ∀ K : rz_K, K.1 = l → Wk Γ X rm post K 0 0 0 (lv_args 0 args) [] h) : Ct l Γ X y rm args h post := by
  refine Met.ofW (cc := X.1) (maxL := X.2.2.1) (ret := X.2.2.2.1) hy rfl ?_
  intro p e s m args' below meth c s₁ B hml hv
  obtain ⟨rfl, hE, hO⟩ := hv
  have hown : s.vm.findClass y.cls = some m.cls := findClass_of_methodNamed B.named
  have hnm : meth.name = y.name := (name_of_methodNamed B.named B.method).1
  rw [lg_entry_eq]
  exact body (l, p, e, s, m, args.toArray, below, meth, c) rfl ⟨B.exec, B.bytes, hml, by rw [hX]; exact hown, B.returns, B.notSynchronized, by rw [hN]; exact hnm, hE⟩ s.heap [] _ hO va_S.rf (lv_entry args hl)
/-- more room than is needed -/
theorem Wk.widen {Γ : rz_G} {X : rz_X} {rm : Room} {post : Option Value → rz_H → Prop} {K : rz_K} {cells slots pc : Nat} {L : List (Nat × Value)} {st : List Value} {h : rz_H} {k n : Nat} (h1 : cells ≤ k) (h2 : slots ≤ n) (kk : Wk Γ X rm post K k n pc L st h) : Wk Γ X rm post K cells slots pc L st h :=
  fun C H locs ls hO hS hl => W.widen h1 h2 (kk C H locs ls hO hS hl)
theorem rz_top {Γ : rz_G} {X : rz_X} {rm : Room} {post : Option Value → rz_H → Prop} {K : rz_K} {cells slots pc : Nat} {L : List (Nat × Value)} {st : List Value} {h : rz_H} {x : Int} (k : ∀ y : Int, y = x → Wk Γ X rm post K cells slots pc L (vi y :: st) h) : Wk Γ X rm post K cells slots pc L (vi x :: st) h := k x rfl
theorem rz_topl {Γ : rz_G} {X : rz_X} {rm : Room} {post : Option Value → rz_H → Prop} {K : rz_K} {cells slots pc : Nat} {L : List (Nat × Value)} {st : List Value} {h : rz_H} {x : Int} (k : ∀ y : Int, y = x → Wk Γ X rm post K cells slots pc L (vl y :: st) h) : Wk Γ X rm post K cells slots pc L (vl x :: st) h := k x rfl
/-! numbers -/
theorem rz_ti {a : Int} (r : -2147483648 ≤ a ∧ a ≤ 2147483647) : (Int32.ofInt a).toInt = a := Int32.toInt_ofInt_of_le (by omega) (by omega)
theorem rz_tl {a : Int} (r : -9223372036854775808 ≤ a ∧ a ≤ 9223372036854775807) : (Int64.ofInt a).toInt = a := Int64.toInt_ofInt_of_le (by omega) (by omega)
theorem rz_lt {a b : Int} (ra : -2147483648 ≤ a ∧ a ≤ 2147483647) (rb : -2147483648 ≤ b ∧ b ≤ 2147483647) : Int32.ofInt a < Int32.ofInt b ↔ a < b := by rw [Int32.lt_iff_toInt_lt, rz_ti ra, rz_ti rb]
theorem rz_le {a b : Int} (ra : -2147483648 ≤ a ∧ a ≤ 2147483647) (rb : -2147483648 ≤ b ∧ b ≤ 2147483647) : Int32.ofInt a ≤ Int32.ofInt b ↔ a ≤ b := by rw [Int32.le_iff_toInt_le, rz_ti ra, rz_ti rb]
theorem rz_eq {a b : Int} (ra : -2147483648 ≤ a ∧ a ≤ 2147483647) (rb : -2147483648 ≤ b ∧ b ≤ 2147483647) : Int32.ofInt a = Int32.ofInt b ↔ a = b := by rw [← Int32.toInt_inj, rz_ti ra, rz_ti rb]
theorem rz_0 : (0 : Int32) = Int32.ofInt 0 := rfl
theorem rz_in {i : Int} {n : Nat} (hi : 0 ≤ i ∧ i < n ∧ i ≤ 2147483647) : vp_in (Int32.ofInt i) n := vp_in_iff.mpr (by rw [rz_ti (by omega)]; omega)
theorem rz_cl_i {i : Int} (hi : 0 ≤ i ∧ i ≤ 2147483647) : (Int32.ofInt i).toNatClampNeg = i.toNat := by rw [← Int32.toNat_toInt, rz_ti (by omega)]
theorem rz_of (x : Int32) : ∃ a : Int, (-2147483648 ≤ a ∧ a ≤ 2147483647) ∧ x = Int32.ofInt a := ⟨x.toInt, by have h1 := x.toInt_lt; have h2 := x.le_toInt; omega, (Int32.ofInt_toInt x).symm⟩
/-! rows: constants -/
theorem rz_iconst {Γ : rz_G} {X : rz_X} {rm : Room} {post : Option Value → rz_H → Prop} {K : rz_K} {cells slots pc : Nat} {L : List (Nat × Value)} {st : List Value} {h : rz_H} {n : Int} (hd : decode X.1 pc = .ok (.iconst n, 1)) (k : Wk Γ X rm post K cells slots (pc + 1) L (vi n :: st) h) : Wk Γ X rm post K cells slots pc L st h :=
  fun C H locs ls hO hS hl => lv_iconst C.1 C.2.1 hd rfl (k C H locs ls hO hS hl)
theorem rz_bipush {Γ : rz_G} {X : rz_X} {rm : Room} {post : Option Value → rz_H → Prop} {K : rz_K} {cells slots pc : Nat} {L : List (Nat × Value)} {st : List Value} {h : rz_H} {n v : Int} (hd : decode X.1 pc = .ok (.bipush n, 2)) (hv : (Int8.ofInt n).toInt32 = Int32.ofInt v) (k : Wk Γ X rm post K cells slots (pc + 2) L (vi v :: st) h) : Wk Γ X rm post K cells slots pc L st h :=
  fun C H locs ls hO hS hl => lv_bipush C.1 C.2.1 hd hv (k C H locs ls hO hS hl)
theorem rz_sipush {Γ : rz_G} {X : rz_X} {rm : Room} {post : Option Value → rz_H → Prop} {K : rz_K} {cells slots pc : Nat} {L : List (Nat × Value)} {st : List Value} {h : rz_H} {n v : Int} (hd : decode X.1 pc = .ok (.sipush n, 3)) (hv : (Int16.ofInt n).toInt32 = Int32.ofInt v) (k : Wk Γ X rm post K cells slots (pc + 3) L (vi v :: st) h) : Wk Γ X rm post K cells slots pc L st h :=
  fun C H locs ls hO hS hl => lv_sipush C.1 C.2.1 hd hv (k C H locs ls hO hS hl)
theorem rz_lconst {Γ : rz_G} {X : rz_X} {rm : Room} {post : Option Value → rz_H → Prop} {K : rz_K} {cells slots pc : Nat} {L : List (Nat × Value)} {st : List Value} {h : rz_H} {n : Fin 2} {v : Int} (hd : decode X.1 pc = .ok (.lconst n, 1)) (hv : Int64.ofNat (n : Nat) = Int64.ofInt v) (k : Wk Γ X rm post K cells slots (pc + 1) L (vl v :: st) h) : Wk Γ X rm post K cells slots pc L st h :=
  fun C H locs ls hO hS hl => lv_lconst C.1 C.2.1 hd hv (k C H locs ls hO hS hl)
theorem rz_null {Γ : rz_G} {X : rz_X} {rm : Room} {post : Option Value → rz_H → Prop} {K : rz_K} {cells slots pc : Nat} {L : List (Nat × Value)} {st : List Value} {h : rz_H} (hd : decode X.1 pc = .ok (.aconst_null, 1)) (k : Wk Γ X rm post K cells slots (pc + 1) L (.null :: st) h) : Wk Γ X rm post K cells slots pc L st h :=
  fun C H locs ls hO hS hl => lv_null C.1 C.2.1 hd (k C H locs ls hO hS hl)
theorem rz_ldc {Γ : rz_G} {X : rz_X} {rm : Room} {post : Option Value → rz_H → Prop} {K : rz_K} {cells slots pc : Nat} {L : List (Nat × Value)} {st : List Value} {h : rz_H} {index : Nat} {v : Int} (hw : Cond.constant X.2.1 index (Int32.ofInt v) ∈ rz_W) (hd : decode X.1 pc = .ok (.ldc index, 2)) (k : Wk Γ X rm post K cells slots (pc + 2) L (vi v :: st) h) : Wk Γ X rm post K cells slots pc L st h :=
  fun C H locs ls hO hS hl => lv_ldc C.1 C.2.1 C.2.2.2.1 (C.2.2.2.2.2.2.2.2.2.1 _ hw _) hd (k C H locs ls hO hS hl)
theorem rz_ldc2 {Γ : rz_G} {X : rz_X} {rm : Room} {post : Option Value → rz_H → Prop} {K : rz_K} {cells slots pc : Nat} {L : List (Nat × Value)} {st : List Value} {h : rz_H} {index : Nat} {v : Int} (hw : Cond.constantLong X.2.1 index (Int64.ofInt v) ∈ rz_W) (hd : decode X.1 pc = .ok (.ldc2_w index, 3)) (k : Wk Γ X rm post K cells slots (pc + 3) L (vl v :: st) h) : Wk Γ X rm post K cells slots pc L st h :=
  fun C H locs ls hO hS hl => lv_ldc2 C.1 C.2.1 C.2.2.2.1 (C.2.2.2.2.2.2.2.2.2.1 _ hw _) hd (k C H locs ls hO hS hl)
theorem rz_ldcS {Γ : rz_G} {X : rz_X} {rm : Room} {post : Option Value → rz_H → Prop} {K : rz_K} {cells slots pc : Nat} {L : List (Nat × Value)} {st : List Value} {h : rz_H} {index q : Nat} {tx : String} (hw : (X.2.1, index, tx, q) ∈ rz_S Γ.2.2.2.2) (hd : decode X.1 pc = .ok (.ldc index, 2)) (k : Wk Γ X rm post K cells slots (pc + 2) L (.ref q :: st) h) : Wk Γ X rm post K cells slots pc L st h :=
  fun C H locs ls hO hS hl => va_ldcS C.1 C.2.1 C.2.2.2.1 (C.2.2.2.2.2.2.2.2.2.2.2.2.2 _ hw) hd (k C H locs ls hO hS hl)
/-! rows: locals -/
theorem rz_iload_n {Γ : rz_G} {X : rz_X} {rm : Room} {post : Option Value → rz_H → Prop} {K : rz_K} {cells slots pc : Nat} {L : List (Nat × Value)} {st : List Value} {h : rz_H} {j : Fin 4} {i : Nat} {x : Int} (k : Nat) (hd : decode X.1 pc = .ok (.iload_n j, 1)) (hi : (j : Nat) = i) (hk : L[k]? = some (i, vi x)) (kk : Wk Γ X rm post K cells slots (pc + 1) L (vi x :: st) h) : Wk Γ X rm post K cells slots pc L st h :=
  fun C H locs ls hO hS hl => lv_iload_n C.1 C.2.1 hd hi (lv_at hl k hk) (kk C H locs ls hO hS hl)
theorem rz_iload {Γ : rz_G} {X : rz_X} {rm : Room} {post : Option Value → rz_H → Prop} {K : rz_K} {cells slots pc : Nat} {L : List (Nat × Value)} {st : List Value} {h : rz_H} {i : Nat} {x : Int} (k : Nat) (hd : decode X.1 pc = .ok (.iload i, 2)) (hk : L[k]? = some (i, vi x)) (kk : Wk Γ X rm post K cells slots (pc + 2) L (vi x :: st) h) : Wk Γ X rm post K cells slots pc L st h :=
  fun C H locs ls hO hS hl => lv_iload C.1 C.2.1 hd (lv_at hl k hk) (kk C H locs ls hO hS hl)
theorem rz_istore_n {Γ : rz_G} {X : rz_X} {rm : Room} {post : Option Value → rz_H → Prop} {K : rz_K} {cells slots pc : Nat} {L : List (Nat × Value)} {st : List Value} {h : rz_H} {j : Fin 4} {i : Nat} {x : Int} (L' : List (Nat × Value)) (hd : decode X.1 pc = .ok (.istore_n j, 1)) (hi : (j : Nat) = i) (hn : i < X.2.2.1) (hL : (i, vi x) :: L.filter (fun q => !(q.1 == i) && !(q.1 + 1 == i && q.2.category == 2)) = L') (kk : Wk Γ X rm post K cells slots (pc + 1) L' st h) : Wk Γ X rm post K cells slots pc L (vi x :: st) h :=
  fun C H locs ls hO hS hl => lv_istore_n C.1 C.2.1 hd hi hl hn hL (fun ls' hl' => kk C H locs ls' hO hS hl')
theorem rz_istore {Γ : rz_G} {X : rz_X} {rm : Room} {post : Option Value → rz_H → Prop} {K : rz_K} {cells slots pc : Nat} {L : List (Nat × Value)} {st : List Value} {h : rz_H} {i : Nat} {x : Int} (L' : List (Nat × Value)) (hd : decode X.1 pc = .ok (.istore i, 2)) (hn : i < X.2.2.1) (hL : (i, vi x) :: L.filter (fun q => !(q.1 == i) && !(q.1 + 1 == i && q.2.category == 2)) = L') (kk : Wk Γ X rm post K cells slots (pc + 2) L' st h) : Wk Γ X rm post K cells slots pc L (vi x :: st) h :=
  fun C H locs ls hO hS hl => lv_istore C.1 C.2.1 hd hl hn hL (fun ls' hl' => kk C H locs ls' hO hS hl')
theorem rz_lload_n {Γ : rz_G} {X : rz_X} {rm : Room} {post : Option Value → rz_H → Prop} {K : rz_K} {cells slots pc : Nat} {L : List (Nat × Value)} {st : List Value} {h : rz_H} {j : Fin 4} {i : Nat} {x : Int} (k : Nat) (hd : decode X.1 pc = .ok (.lload_n j, 1)) (hi : (j : Nat) = i) (hk : L[k]? = some (i, vl x)) (kk : Wk Γ X rm post K cells slots (pc + 1) L (vl x :: st) h) : Wk Γ X rm post K cells slots pc L st h :=
  fun C H locs ls hO hS hl => lv_lload_n C.1 C.2.1 hd hi (lv_at hl k hk) (kk C H locs ls hO hS hl)
theorem rz_lload {Γ : rz_G} {X : rz_X} {rm : Room} {post : Option Value → rz_H → Prop} {K : rz_K} {cells slots pc : Nat} {L : List (Nat × Value)} {st : List Value} {h : rz_H} {i : Nat} {x : Int} (k : Nat) (hd : decode X.1 pc = .ok (.lload i, 2)) (hk : L[k]? = some (i, vl x)) (kk : Wk Γ X rm post K cells slots (pc + 2) L (vl x :: st) h) : Wk Γ X rm post K cells slots pc L st h :=
  fun C H locs ls hO hS hl => lv_lload C.1 C.2.1 hd (lv_at hl k hk) (kk C H locs ls hO hS hl)
theorem rz_lstore_n {Γ : rz_G} {X : rz_X} {rm : Room} {post : Option Value → rz_H → Prop} {K : rz_K} {cells slots pc : Nat} {L : List (Nat × Value)} {st : List Value} {h : rz_H} {j : Fin 4} {i : Nat} {x : Int} (L' : List (Nat × Value)) (hd : decode X.1 pc = .ok (.lstore_n j, 1)) (hi : (j : Nat) = i) (hn : i + 1 < X.2.2.1) (hL : (i, vl x) :: L.filter (fun q => !(q.1 == i) && (!(q.1 == i + 1) && !(q.1 + 1 == i && q.2.category == 2))) = L') (kk : Wk Γ X rm post K cells slots (pc + 1) L' st h) : Wk Γ X rm post K cells slots pc L (vl x :: st) h :=
  fun C H locs ls hO hS hl => lv_lstore_n C.1 C.2.1 hd hi hl hn hL (fun ls' hl' => kk C H locs ls' hO hS hl')
theorem rz_lstore {Γ : rz_G} {X : rz_X} {rm : Room} {post : Option Value → rz_H → Prop} {K : rz_K} {cells slots pc : Nat} {L : List (Nat × Value)} {st : List Value} {h : rz_H} {i : Nat} {x : Int} (L' : List (Nat × Value)) (hd : decode X.1 pc = .ok (.lstore i, 2)) (hn : i + 1 < X.2.2.1) (hL : (i, vl x) :: L.filter (fun q => !(q.1 == i) && (!(q.1 == i + 1) && !(q.1 + 1 == i && q.2.category == 2))) = L') (kk : Wk Γ X rm post K cells slots (pc + 2) L' st h) : Wk Γ X rm post K cells slots pc L (vl x :: st) h :=
  fun C H locs ls hO hS hl => lv_lstore C.1 C.2.1 hd hl hn hL (fun ls' hl' => kk C H locs ls' hO hS hl')
theorem rz_aload_n {Γ : rz_G} {X : rz_X} {rm : Room} {post : Option Value → rz_H → Prop} {K : rz_K} {cells slots pc : Nat} {L : List (Nat × Value)} {st : List Value} {h : rz_H} {j : Fin 4} {i : Nat} {x : Nat} (k : Nat) (hd : decode X.1 pc = .ok (.aload_n j, 1)) (hi : (j : Nat) = i) (hk : L[k]? = some (i, .ref x)) (kk : Wk Γ X rm post K cells slots (pc + 1) L (.ref x :: st) h) : Wk Γ X rm post K cells slots pc L st h :=
  fun C H locs ls hO hS hl => lv_aload_n C.1 C.2.1 hd hi (lv_at hl k hk) (kk C H locs ls hO hS hl)
theorem rz_aload {Γ : rz_G} {X : rz_X} {rm : Room} {post : Option Value → rz_H → Prop} {K : rz_K} {cells slots pc : Nat} {L : List (Nat × Value)} {st : List Value} {h : rz_H} {i : Nat} {x : Nat} (k : Nat) (hd : decode X.1 pc = .ok (.aload i, 2)) (hk : L[k]? = some (i, .ref x)) (kk : Wk Γ X rm post K cells slots (pc + 2) L (.ref x :: st) h) : Wk Γ X rm post K cells slots pc L st h :=
  fun C H locs ls hO hS hl => lv_aload C.1 C.2.1 hd (lv_at hl k hk) (kk C H locs ls hO hS hl)
theorem rz_astore_n {Γ : rz_G} {X : rz_X} {rm : Room} {post : Option Value → rz_H → Prop} {K : rz_K} {cells slots pc : Nat} {L : List (Nat × Value)} {st : List Value} {h : rz_H} {j : Fin 4} {i : Nat} {x : Nat} (L' : List (Nat × Value)) (hd : decode X.1 pc = .ok (.astore_n j, 1)) (hi : (j : Nat) = i) (hn : i < X.2.2.1) (hL : (i, .ref x) :: L.filter (fun q => !(q.1 == i) && !(q.1 + 1 == i && q.2.category == 2)) = L') (kk : Wk Γ X rm post K cells slots (pc + 1) L' st h) : Wk Γ X rm post K cells slots pc L (.ref x :: st) h :=
  fun C H locs ls hO hS hl => lv_astore_n C.1 C.2.1 hd hi hl hn hL (fun ls' hl' => kk C H locs ls' hO hS hl')
theorem rz_astore {Γ : rz_G} {X : rz_X} {rm : Room} {post : Option Value → rz_H → Prop} {K : rz_K} {cells slots pc : Nat} {L : List (Nat × Value)} {st : List Value} {h : rz_H} {i : Nat} {x : Nat} (L' : List (Nat × Value)) (hd : decode X.1 pc = .ok (.astore i, 2)) (hn : i < X.2.2.1) (hL : (i, .ref x) :: L.filter (fun q => !(q.1 == i) && !(q.1 + 1 == i && q.2.category == 2)) = L') (kk : Wk Γ X rm post K cells slots (pc + 2) L' st h) : Wk Γ X rm post K cells slots pc L (.ref x :: st) h :=
  fun C H locs ls hO hS hl => lv_astore C.1 C.2.1 hd hl hn hL (fun ls' hl' => kk C H locs ls' hO hS hl')
theorem rz_aload_nN {Γ : rz_G} {X : rz_X} {rm : Room} {post : Option Value → rz_H → Prop} {K : rz_K} {cells slots pc : Nat} {L : List (Nat × Value)} {st : List Value} {h : rz_H} {j : Fin 4} {i : Nat} (k : Nat) (hd : decode X.1 pc = .ok (.aload_n j, 1)) (hi : (j : Nat) = i) (hk : L[k]? = some (i, .null)) (kk : Wk Γ X rm post K cells slots (pc + 1) L (.null :: st) h) : Wk Γ X rm post K cells slots pc L st h :=
  fun C H locs ls hO hS hl => lv_aload_nN C.1 C.2.1 hd hi (lv_at hl k hk) (kk C H locs ls hO hS hl)
theorem rz_astore_nN {Γ : rz_G} {X : rz_X} {rm : Room} {post : Option Value → rz_H → Prop} {K : rz_K} {cells slots pc : Nat} {L : List (Nat × Value)} {st : List Value} {h : rz_H} {j : Fin 4} {i : Nat} (L' : List (Nat × Value)) (hd : decode X.1 pc = .ok (.astore_n j, 1)) (hi : (j : Nat) = i) (hn : i < X.2.2.1) (hL : (i, Value.null) :: L.filter (fun q => !(q.1 == i) && !(q.1 + 1 == i && q.2.category == 2)) = L') (kk : Wk Γ X rm post K cells slots (pc + 1) L' st h) : Wk Γ X rm post K cells slots pc L (.null :: st) h :=
  fun C H locs ls hO hS hl => lv_astore_nN C.1 C.2.1 hd hi hl hn hL (fun ls' hl' => kk C H locs ls' hO hS hl')
theorem rz_iinc {Γ : rz_G} {X : rz_X} {rm : Room} {post : Option Value → rz_H → Prop} {K : rz_K} {cells slots pc : Nat} {L : List (Nat × Value)} {st : List Value} {h : rz_H} {i : Nat} {n x : Int} (v : Int) (k : Nat) (L' : List (Nat × Value)) (hd : decode X.1 pc = .ok (.iinc i n, 3)) (hk : L[k]? = some (i, vi x)) (hv : v = x + n) (hn : i < X.2.2.1) (hL : (i, vi v) :: L.filter (fun q => !(q.1 == i) && !(q.1 + 1 == i && q.2.category == 2)) = L') (kk : Wk Γ X rm post K cells slots (pc + 3) L' st h) : Wk Γ X rm post K cells slots pc L st h := by
  intro C H locs ls hO hS hl
  exact lv_iinc C.1 C.2.1 hd hl hk (v := Int32.ofInt v) (by rw [hv, Int32.ofInt_add]) hn hL (fun ls' hl' => kk C H locs ls' hO hS hl')
/-! rows: arithmetic -/
theorem rz_iadd {Γ : rz_G} {X : rz_X} {rm : Room} {post : Option Value → rz_H → Prop} {K : rz_K} {cells slots pc : Nat} {L : List (Nat × Value)} {st : List Value} {h : rz_H} {a b : Int} (hd : decode X.1 pc = .ok (.iadd, 1)) (k : Wk Γ X rm post K cells slots (pc + 1) L (vi (a + b) :: st) h) : Wk Γ X rm post K cells slots pc L (vi b :: vi a :: st) h := by
  intro C H locs ls hO hS hl
  refine lv_iadd C.1 C.2.1 hd ?_
  rw [← Int32.ofInt_add]
  exact k C H locs ls hO hS hl
theorem rz_isub {Γ : rz_G} {X : rz_X} {rm : Room} {post : Option Value → rz_H → Prop} {K : rz_K} {cells slots pc : Nat} {L : List (Nat × Value)} {st : List Value} {h : rz_H} {a b : Int} (hd : decode X.1 pc = .ok (.isub, 1)) (k : Wk Γ X rm post K cells slots (pc + 1) L (vi (a - b) :: st) h) : Wk Γ X rm post K cells slots pc L (vi b :: vi a :: st) h := by
  intro C H locs ls hO hS hl
  refine lv_isub C.1 C.2.1 hd ?_
  rw [← Int32.ofInt_sub]
  exact k C H locs ls hO hS hl
theorem rz_imul {Γ : rz_G} {X : rz_X} {rm : Room} {post : Option Value → rz_H → Prop} {K : rz_K} {cells slots pc : Nat} {L : List (Nat × Value)} {st : List Value} {h : rz_H} {a b : Int} (hd : decode X.1 pc = .ok (.imul, 1)) (k : Wk Γ X rm post K cells slots (pc + 1) L (vi (a * b) :: st) h) : Wk Γ X rm post K cells slots pc L (vi b :: vi a :: st) h := by
  intro C H locs ls hO hS hl
  refine lv_imul C.1 C.2.1 hd ?_
  rw [← Int32.ofInt_mul]
  exact k C H locs ls hO hS hl
theorem rz_ladd {Γ : rz_G} {X : rz_X} {rm : Room} {post : Option Value → rz_H → Prop} {K : rz_K} {cells slots pc : Nat} {L : List (Nat × Value)} {st : List Value} {h : rz_H} {a b : Int} (hd : decode X.1 pc = .ok (.ladd, 1)) (k : Wk Γ X rm post K cells slots (pc + 1) L (vl (a + b) :: st) h) : Wk Γ X rm post K cells slots pc L (vl b :: vl a :: st) h := by
  intro C H locs ls hO hS hl
  refine lv_ladd C.1 C.2.1 hd ?_
  rw [← Int64.ofInt_add]
  exact k C H locs ls hO hS hl
theorem rz_lsub {Γ : rz_G} {X : rz_X} {rm : Room} {post : Option Value → rz_H → Prop} {K : rz_K} {cells slots pc : Nat} {L : List (Nat × Value)} {st : List Value} {h : rz_H} {a b : Int} (hd : decode X.1 pc = .ok (.lsub, 1)) (k : Wk Γ X rm post K cells slots (pc + 1) L (vl (a - b) :: st) h) : Wk Γ X rm post K cells slots pc L (vl b :: vl a :: st) h := by
  intro C H locs ls hO hS hl
  refine lv_lsub C.1 C.2.1 hd ?_
  rw [← Int64.ofInt_sub]
  exact k C H locs ls hO hS hl
theorem rz_lmul {Γ : rz_G} {X : rz_X} {rm : Room} {post : Option Value → rz_H → Prop} {K : rz_K} {cells slots pc : Nat} {L : List (Nat × Value)} {st : List Value} {h : rz_H} {a b : Int} (hd : decode X.1 pc = .ok (.lmul, 1)) (k : Wk Γ X rm post K cells slots (pc + 1) L (vl (a * b) :: st) h) : Wk Γ X rm post K cells slots pc L (vl b :: vl a :: st) h := by
  intro C H locs ls hO hS hl
  refine lv_lmul C.1 C.2.1 hd ?_
  rw [← Int64.ofInt_mul]
  exact k C H locs ls hO hS hl
theorem rz_div0 {a b : Int} (ra : 0 ≤ a ∧ a ≤ 2147483647) (rb : 0 < b ∧ b ≤ 2147483647) : Int32.ofInt a / Int32.ofInt b = Int32.ofInt (a / b) := by
  rw [← Int32.toInt_inj, Int32.toInt_div, rz_ti (by omega), rz_ti (by omega), Int.tdiv_eq_ediv_of_nonneg ra.1]
  have h1 : 0 ≤ a / b := Int.ediv_nonneg ra.1 (by omega)
  have h2 : a / b ≤ a := Int.ediv_le_self b ra.1
  rw [rz_ti (by omega)]
  exact Int.bmod_eq_of_le (by omega) (by omega)
theorem rz_ne0 {b : Int} (rb : 0 < b ∧ b ≤ 2147483647) : ¬ Int32.ofInt b = 0 := by
  rw [rz_0, rz_eq (by omega) (by omega)]
  omega
theorem rz_idiv {Γ : rz_G} {X : rz_X} {rm : Room} {post : Option Value → rz_H → Prop} {K : rz_K} {cells slots pc : Nat} {L : List (Nat × Value)} {st : List Value} {h : rz_H} {a b : Int} (ra : 0 ≤ a ∧ a ≤ 2147483647) (rb : 0 < b ∧ b ≤ 2147483647) (hd : decode X.1 pc = .ok (.idiv, 1)) (k : Wk Γ X rm post K cells slots (pc + 1) L (vi (a / b) :: st) h) : Wk Γ X rm post K cells slots pc L (vi b :: vi a :: st) h := by
  intro C H locs ls hO hS hl
  refine lv_idiv C.1 C.2.1 hd (rz_ne0 rb) ?_
  rw [rz_div0 ra rb]
  exact k C H locs ls hO hS hl
theorem rz_irem {Γ : rz_G} {X : rz_X} {rm : Room} {post : Option Value → rz_H → Prop} {K : rz_K} {cells slots pc : Nat} {L : List (Nat × Value)} {st : List Value} {h : rz_H} {a b : Int} (ra : 0 ≤ a ∧ a ≤ 2147483647) (rb : 0 < b ∧ b ≤ 2147483647) (hd : decode X.1 pc = .ok (.irem, 1)) (k : Wk Γ X rm post K cells slots (pc + 1) L (vi (a % b) :: st) h) : Wk Γ X rm post K cells slots pc L (vi b :: vi a :: st) h := by
  intro C H locs ls hO hS hl
  refine lv_irem C.1 C.2.1 hd (rz_ne0 rb) ?_
  rw [rz_div0 ra rb, ← Int32.ofInt_mul, ← Int32.ofInt_sub, show a - a / b * b = a % b from by rw [Int.emod_def, Int.mul_comm]]
  exact k C H locs ls hO hS hl
theorem rz_i2l {Γ : rz_G} {X : rz_X} {rm : Room} {post : Option Value → rz_H → Prop} {K : rz_K} {cells slots pc : Nat} {L : List (Nat × Value)} {st : List Value} {h : rz_H} {a : Int} (ra : -2147483648 ≤ a ∧ a ≤ 2147483647) (hd : decode X.1 pc = .ok (.i2l, 1)) (k : Wk Γ X rm post K cells slots (pc + 1) L (vl a :: st) h) : Wk Γ X rm post K cells slots pc L (vi a :: st) h :=
  fun C H locs ls hO hS hl => lv_i2l C.1 C.2.1 hd (v := Int64.ofInt a) (by rw [← Int64.toInt_inj, Int32.toInt_toInt64, rz_ti ra, rz_tl (by omega)]) (k C H locs ls hO hS hl)
theorem rz_l2i {Γ : rz_G} {X : rz_X} {rm : Room} {post : Option Value → rz_H → Prop} {K : rz_K} {cells slots pc : Nat} {L : List (Nat × Value)} {st : List Value} {h : rz_H} {a : Int} (hd : decode X.1 pc = .ok (.l2i, 1)) (k : Wk Γ X rm post K cells slots (pc + 1) L (vi a :: st) h) : Wk Γ X rm post K cells slots pc L (vl a :: st) h :=
  fun C H locs ls hO hS hl => lv_l2i C.1 C.2.1 hd (v := Int32.ofInt a) Int64.toInt32_ofInt (k C H locs ls hO hS hl)
theorem rz_i2c {Γ : rz_G} {X : rz_X} {rm : Room} {post : Option Value → rz_H → Prop} {K : rz_K} {cells slots pc : Nat} {L : List (Nat × Value)} {st : List Value} {h : rz_H} {a : Int} (ra : 0 ≤ a ∧ a ≤ 65535) (hd : decode X.1 pc = .ok (.i2c, 1)) (k : Wk Γ X rm post K cells slots (pc + 1) L (vi a :: st) h) : Wk Γ X rm post K cells slots pc L (vi a :: st) h := by
  intro C H locs ls hO hS hl
  refine lv_i2c C.1 C.2.1 hd (v := Int32.ofInt a) ?_ (k C H locs ls hO hS hl)
  obtain ⟨n, rfl⟩ : ∃ n : Nat, a = n := ⟨a.toNat, by omega⟩
  rw [pk_char, Int32.ofInt_eq_ofNat]
  show nI ((nI n).toBitVec.toNat % 65536) = nI n
  rw [pk_tn (by omega), Nat.mod_eq_of_lt (by omega)]
def rz_cmp (a b : Int) : Int := if b < a then 1 else if a = b then 0 else -1
theorem rz_lcmp {Γ : rz_G} {X : rz_X} {rm : Room} {post : Option Value → rz_H → Prop} {K : rz_K} {cells slots pc : Nat} {L : List (Nat × Value)} {st : List Value} {h : rz_H} {a b : Int} (ra : -9223372036854775808 ≤ a ∧ a ≤ 9223372036854775807) (rb : -9223372036854775808 ≤ b ∧ b ≤ 9223372036854775807) (hd : decode X.1 pc = .ok (.lcmp, 1)) (k : Wk Γ X rm post K cells slots (pc + 1) L (vi (rz_cmp a b) :: st) h) : Wk Γ X rm post K cells slots pc L (vl b :: vl a :: st) h := by
  intro C H locs ls hO hS hl
  refine W.lcmp C.1 C.2.1 hd ?_
  have e : lg_cmp (Int64.ofInt a) (Int64.ofInt b) = Int32.ofInt (rz_cmp a b) := by
    have h1 : (Int64.ofInt a > Int64.ofInt b) ↔ b < a := by rw [gt_iff_lt, Int64.lt_iff_toInt_lt, rz_tl ra, rz_tl rb]
    have h2 : (Int64.ofInt a = Int64.ofInt b) ↔ a = b := by rw [← Int64.toInt_inj, rz_tl ra, rz_tl rb]
    unfold lg_cmp rz_cmp
    by_cases q1 : b < a
    · rw [if_pos (h1.mpr q1), if_pos q1]
      rfl
    · rw [if_neg (fun z => q1 (h1.mp z)), if_neg q1]
      by_cases q2 : a = b
      · rw [if_pos (h2.mpr q2), if_pos q2]
        rfl
      · rw [if_neg (fun z => q2 (h2.mp z)), if_neg q2]
        rfl
  rw [e]
  exact k C H locs ls hO hS hl
theorem rz_dup {Γ : rz_G} {X : rz_X} {rm : Room} {post : Option Value → rz_H → Prop} {K : rz_K} {cells slots pc : Nat} {L : List (Nat × Value)} {st : List Value} {h : rz_H} {v : Value} (hd : decode X.1 pc = .ok (.dup, 1)) (hc : v.category = 1) (k : Wk Γ X rm post K cells slots (pc + 1) L (v :: v :: st) h) : Wk Γ X rm post K cells slots pc L (v :: st) h :=
  fun C H locs ls hO hS hl => lv_dup C.1 C.2.1 hd hc (k C H locs ls hO hS hl)
theorem rz_dup_x1 {Γ : rz_G} {X : rz_X} {rm : Room} {post : Option Value → rz_H → Prop} {K : rz_K} {cells slots pc : Nat} {L : List (Nat × Value)} {st : List Value} {h : rz_H} {v w : Value} (hd : decode X.1 pc = .ok (.dup_x1, 1)) (hc : v.category = 1) (hw : w.category = 1) (k : Wk Γ X rm post K cells slots (pc + 1) L (v :: w :: v :: st) h) : Wk Γ X rm post K cells slots pc L (v :: w :: st) h :=
  fun C H locs ls hO hS hl => lv_dup_x1 C.1 C.2.1 hd hc hw (k C H locs ls hO hS hl)
theorem rz_dup2 {Γ : rz_G} {X : rz_X} {rm : Room} {post : Option Value → rz_H → Prop} {K : rz_K} {cells slots pc : Nat} {L : List (Nat × Value)} {st : List Value} {h : rz_H} {v w : Value} (hd : decode X.1 pc = .ok (.dup2, 1)) (hc : v.category = 1) (hw : w.category = 1) (k : Wk Γ X rm post K cells slots (pc + 1) L (v :: w :: v :: w :: st) h) : Wk Γ X rm post K cells slots pc L (v :: w :: st) h :=
  fun C H locs ls hO hS hl => lv_dup2_11 C.1 C.2.1 hd hc hw (k C H locs ls hO hS hl)
theorem rz_pop {Γ : rz_G} {X : rz_X} {rm : Room} {post : Option Value → rz_H → Prop} {K : rz_K} {cells slots pc : Nat} {L : List (Nat × Value)} {st : List Value} {h : rz_H} {v : Value} (hd : decode X.1 pc = .ok (.pop, 1)) (hc : v.category = 1) (k : Wk Γ X rm post K cells slots (pc + 1) L st h) : Wk Γ X rm post K cells slots pc L (v :: st) h :=
  fun C H locs ls hO hS hl => lv_pop C.1 C.2.1 hd hc (k C H locs ls hO hS hl)
theorem rz_goto {Γ : rz_G} {X : rz_X} {rm : Room} {post : Option Value → rz_H → Prop} {K : rz_K} {cells slots pc : Nat} {L : List (Nat × Value)} {st : List Value} {h : rz_H} {off : Int} (tgt : Nat) (hd : decode X.1 pc = .ok (.goto off, 3)) (ht : (pc : Int) + off = (tgt : Int)) (k : Wk Γ X rm post K cells slots tgt L st h) : Wk Γ X rm post K cells slots pc L st h :=
  fun C H locs ls hO hS hl => lv_goto C.1 C.2.1 hd ht (k C H locs ls hO hS hl)
/-! rows: branches -/
theorem rz_icmp_eq {Γ : rz_G} {X : rz_X} {rm : Room} {post : Option Value → rz_H → Prop} {K : rz_K} {cells slots pc : Nat} {L : List (Nat × Value)} {st : List Value} {h : rz_H} {a b off : Int} (tgt : Nat) (hd : decode X.1 pc = .ok (.if_icmp .eq off, 3)) (ht : (pc : Int) + off = (tgt : Int)) (ra : -2147483648 ≤ a ∧ a ≤ 2147483647) (rb : -2147483648 ≤ b ∧ b ≤ 2147483647) (kt : a = b → Wk Γ X rm post K cells slots tgt L st h) (kf : ¬ a = b → Wk Γ X rm post K cells slots (pc + 3) L st h) : Wk Γ X rm post K cells slots pc L (vi b :: vi a :: st) h :=
  fun C H locs ls hO hS hl => lv_icmp_eq C.1 C.2.1 hd ht (fun q => kt ((rz_eq ra rb).mp q) C H locs ls hO hS hl) (fun q => kf (fun z => q ((rz_eq ra rb).mpr z)) C H locs ls hO hS hl)
theorem rz_icmp_ne {Γ : rz_G} {X : rz_X} {rm : Room} {post : Option Value → rz_H → Prop} {K : rz_K} {cells slots pc : Nat} {L : List (Nat × Value)} {st : List Value} {h : rz_H} {a b off : Int} (tgt : Nat) (hd : decode X.1 pc = .ok (.if_icmp .ne off, 3)) (ht : (pc : Int) + off = (tgt : Int)) (ra : -2147483648 ≤ a ∧ a ≤ 2147483647) (rb : -2147483648 ≤ b ∧ b ≤ 2147483647) (kt : ¬ a = b → Wk Γ X rm post K cells slots tgt L st h) (kf : a = b → Wk Γ X rm post K cells slots (pc + 3) L st h) : Wk Γ X rm post K cells slots pc L (vi b :: vi a :: st) h :=
  fun C H locs ls hO hS hl => lv_icmp_ne C.1 C.2.1 hd ht (fun q => kt (fun z => q ((rz_eq ra rb).mpr z)) C H locs ls hO hS hl) (fun q => kf ((rz_eq ra rb).mp q) C H locs ls hO hS hl)
theorem rz_icmp_lt {Γ : rz_G} {X : rz_X} {rm : Room} {post : Option Value → rz_H → Prop} {K : rz_K} {cells slots pc : Nat} {L : List (Nat × Value)} {st : List Value} {h : rz_H} {a b off : Int} (tgt : Nat) (hd : decode X.1 pc = .ok (.if_icmp .lt off, 3)) (ht : (pc : Int) + off = (tgt : Int)) (ra : -2147483648 ≤ a ∧ a ≤ 2147483647) (rb : -2147483648 ≤ b ∧ b ≤ 2147483647) (kt : a < b → Wk Γ X rm post K cells slots tgt L st h) (kf : ¬ a < b → Wk Γ X rm post K cells slots (pc + 3) L st h) : Wk Γ X rm post K cells slots pc L (vi b :: vi a :: st) h :=
  fun C H locs ls hO hS hl => lv_icmp_lt C.1 C.2.1 hd ht (fun q => kt ((rz_lt ra rb).mp q) C H locs ls hO hS hl) (fun q => kf (fun z => q ((rz_lt ra rb).mpr z)) C H locs ls hO hS hl)
theorem rz_icmp_ge {Γ : rz_G} {X : rz_X} {rm : Room} {post : Option Value → rz_H → Prop} {K : rz_K} {cells slots pc : Nat} {L : List (Nat × Value)} {st : List Value} {h : rz_H} {a b off : Int} (tgt : Nat) (hd : decode X.1 pc = .ok (.if_icmp .ge off, 3)) (ht : (pc : Int) + off = (tgt : Int)) (ra : -2147483648 ≤ a ∧ a ≤ 2147483647) (rb : -2147483648 ≤ b ∧ b ≤ 2147483647) (kt : b ≤ a → Wk Γ X rm post K cells slots tgt L st h) (kf : ¬ b ≤ a → Wk Γ X rm post K cells slots (pc + 3) L st h) : Wk Γ X rm post K cells slots pc L (vi b :: vi a :: st) h :=
  fun C H locs ls hO hS hl => lv_icmp_ge C.1 C.2.1 hd ht (fun q => kt ((rz_le rb ra).mp q) C H locs ls hO hS hl) (fun q => kf (fun z => q ((rz_le rb ra).mpr z)) C H locs ls hO hS hl)
theorem rz_icmp_gt {Γ : rz_G} {X : rz_X} {rm : Room} {post : Option Value → rz_H → Prop} {K : rz_K} {cells slots pc : Nat} {L : List (Nat × Value)} {st : List Value} {h : rz_H} {a b off : Int} (tgt : Nat) (hd : decode X.1 pc = .ok (.if_icmp .gt off, 3)) (ht : (pc : Int) + off = (tgt : Int)) (ra : -2147483648 ≤ a ∧ a ≤ 2147483647) (rb : -2147483648 ≤ b ∧ b ≤ 2147483647) (kt : b < a → Wk Γ X rm post K cells slots tgt L st h) (kf : ¬ b < a → Wk Γ X rm post K cells slots (pc + 3) L st h) : Wk Γ X rm post K cells slots pc L (vi b :: vi a :: st) h :=
  fun C H locs ls hO hS hl => lv_icmp_gt C.1 C.2.1 hd ht (fun q => kt ((rz_lt rb ra).mp q) C H locs ls hO hS hl) (fun q => kf (fun z => q ((rz_lt rb ra).mpr z)) C H locs ls hO hS hl)
theorem rz_icmp_le {Γ : rz_G} {X : rz_X} {rm : Room} {post : Option Value → rz_H → Prop} {K : rz_K} {cells slots pc : Nat} {L : List (Nat × Value)} {st : List Value} {h : rz_H} {a b off : Int} (tgt : Nat) (hd : decode X.1 pc = .ok (.if_icmp .le off, 3)) (ht : (pc : Int) + off = (tgt : Int)) (ra : -2147483648 ≤ a ∧ a ≤ 2147483647) (rb : -2147483648 ≤ b ∧ b ≤ 2147483647) (kt : a ≤ b → Wk Γ X rm post K cells slots tgt L st h) (kf : ¬ a ≤ b → Wk Γ X rm post K cells slots (pc + 3) L st h) : Wk Γ X rm post K cells slots pc L (vi b :: vi a :: st) h :=
  fun C H locs ls hO hS hl => lv_icmp_le C.1 C.2.1 hd ht (fun q => kt ((rz_le ra rb).mp q) C H locs ls hO hS hl) (fun q => kf (fun z => q ((rz_le ra rb).mpr z)) C H locs ls hO hS hl)
theorem rz_if_eq {Γ : rz_G} {X : rz_X} {rm : Room} {post : Option Value → rz_H → Prop} {K : rz_K} {cells slots pc : Nat} {L : List (Nat × Value)} {st : List Value} {h : rz_H} {a off : Int} (tgt : Nat) (hd : decode X.1 pc = .ok (.ifCond .eq off, 3)) (ht : (pc : Int) + off = (tgt : Int)) (ra : -2147483648 ≤ a ∧ a ≤ 2147483647) (kt : a = 0 → Wk Γ X rm post K cells slots tgt L st h) (kf : ¬ a = 0 → Wk Γ X rm post K cells slots (pc + 3) L st h) : Wk Γ X rm post K cells slots pc L (vi a :: st) h :=
  fun C H locs ls hO hS hl => lv_if_eq C.1 C.2.1 hd ht (fun q => kt ((rz_eq ra ⟨by decide, by decide⟩).mp q) C H locs ls hO hS hl) (fun q => kf (fun z => q ((rz_eq ra ⟨by decide, by decide⟩).mpr z)) C H locs ls hO hS hl)
theorem rz_if_ne {Γ : rz_G} {X : rz_X} {rm : Room} {post : Option Value → rz_H → Prop} {K : rz_K} {cells slots pc : Nat} {L : List (Nat × Value)} {st : List Value} {h : rz_H} {a off : Int} (tgt : Nat) (hd : decode X.1 pc = .ok (.ifCond .ne off, 3)) (ht : (pc : Int) + off = (tgt : Int)) (ra : -2147483648 ≤ a ∧ a ≤ 2147483647) (kt : ¬ a = 0 → Wk Γ X rm post K cells slots tgt L st h) (kf : a = 0 → Wk Γ X rm post K cells slots (pc + 3) L st h) : Wk Γ X rm post K cells slots pc L (vi a :: st) h :=
  fun C H locs ls hO hS hl => lv_if_ne C.1 C.2.1 hd ht (fun q => kt (fun z => q ((rz_eq ra ⟨by decide, by decide⟩).mpr z)) C H locs ls hO hS hl) (fun q => kf ((rz_eq ra ⟨by decide, by decide⟩).mp q) C H locs ls hO hS hl)
theorem rz_if_lt {Γ : rz_G} {X : rz_X} {rm : Room} {post : Option Value → rz_H → Prop} {K : rz_K} {cells slots pc : Nat} {L : List (Nat × Value)} {st : List Value} {h : rz_H} {a off : Int} (tgt : Nat) (hd : decode X.1 pc = .ok (.ifCond .lt off, 3)) (ht : (pc : Int) + off = (tgt : Int)) (ra : -2147483648 ≤ a ∧ a ≤ 2147483647) (kt : a < 0 → Wk Γ X rm post K cells slots tgt L st h) (kf : ¬ a < 0 → Wk Γ X rm post K cells slots (pc + 3) L st h) : Wk Γ X rm post K cells slots pc L (vi a :: st) h :=
  fun C H locs ls hO hS hl => lv_if_lt C.1 C.2.1 hd ht (fun q => kt ((rz_lt ra ⟨by decide, by decide⟩).mp q) C H locs ls hO hS hl) (fun q => kf (fun z => q ((rz_lt ra ⟨by decide, by decide⟩).mpr z)) C H locs ls hO hS hl)
theorem rz_if_ge {Γ : rz_G} {X : rz_X} {rm : Room} {post : Option Value → rz_H → Prop} {K : rz_K} {cells slots pc : Nat} {L : List (Nat × Value)} {st : List Value} {h : rz_H} {a off : Int} (tgt : Nat) (hd : decode X.1 pc = .ok (.ifCond .ge off, 3)) (ht : (pc : Int) + off = (tgt : Int)) (ra : -2147483648 ≤ a ∧ a ≤ 2147483647) (kt : 0 ≤ a → Wk Γ X rm post K cells slots tgt L st h) (kf : ¬ 0 ≤ a → Wk Γ X rm post K cells slots (pc + 3) L st h) : Wk Γ X rm post K cells slots pc L (vi a :: st) h :=
  fun C H locs ls hO hS hl => lv_if_ge C.1 C.2.1 hd ht (fun q => kt ((rz_le ⟨by decide, by decide⟩ ra).mp q) C H locs ls hO hS hl) (fun q => kf (fun z => q ((rz_le ⟨by decide, by decide⟩ ra).mpr z)) C H locs ls hO hS hl)
theorem rz_if_gt {Γ : rz_G} {X : rz_X} {rm : Room} {post : Option Value → rz_H → Prop} {K : rz_K} {cells slots pc : Nat} {L : List (Nat × Value)} {st : List Value} {h : rz_H} {a off : Int} (tgt : Nat) (hd : decode X.1 pc = .ok (.ifCond .gt off, 3)) (ht : (pc : Int) + off = (tgt : Int)) (ra : -2147483648 ≤ a ∧ a ≤ 2147483647) (kt : 0 < a → Wk Γ X rm post K cells slots tgt L st h) (kf : ¬ 0 < a → Wk Γ X rm post K cells slots (pc + 3) L st h) : Wk Γ X rm post K cells slots pc L (vi a :: st) h :=
  fun C H locs ls hO hS hl => lv_if_gt C.1 C.2.1 hd ht (fun q => kt ((rz_lt ⟨by decide, by decide⟩ ra).mp q) C H locs ls hO hS hl) (fun q => kf (fun z => q ((rz_lt ⟨by decide, by decide⟩ ra).mpr z)) C H locs ls hO hS hl)
theorem rz_if_le {Γ : rz_G} {X : rz_X} {rm : Room} {post : Option Value → rz_H → Prop} {K : rz_K} {cells slots pc : Nat} {L : List (Nat × Value)} {st : List Value} {h : rz_H} {a off : Int} (tgt : Nat) (hd : decode X.1 pc = .ok (.ifCond .le off, 3)) (ht : (pc : Int) + off = (tgt : Int)) (ra : -2147483648 ≤ a ∧ a ≤ 2147483647) (kt : a ≤ 0 → Wk Γ X rm post K cells slots tgt L st h) (kf : ¬ a ≤ 0 → Wk Γ X rm post K cells slots (pc + 3) L st h) : Wk Γ X rm post K cells slots pc L (vi a :: st) h :=
  fun C H locs ls hO hS hl => lv_if_le C.1 C.2.1 hd ht (fun q => kt ((rz_le ra ⟨by decide, by decide⟩).mp q) C H locs ls hO hS hl) (fun q => kf (fun z => q ((rz_le ra ⟨by decide, by decide⟩).mpr z)) C H locs ls hO hS hl)
theorem rz_ifnullN {Γ : rz_G} {X : rz_X} {rm : Room} {post : Option Value → rz_H → Prop} {K : rz_K} {cells slots pc : Nat} {L : List (Nat × Value)} {st : List Value} {h : rz_H} {off : Int} (tgt : Nat) (hd : decode X.1 pc = .ok (.ifnull off, 3)) (ht : (pc : Int) + off = (tgt : Int)) (k : Wk Γ X rm post K cells slots tgt L st h) : Wk Γ X rm post K cells slots pc L (.null :: st) h :=
  fun C H locs ls hO hS hl => lv_ifnullN C.1 C.2.1 hd ht (k C H locs ls hO hS hl)
theorem rz_ifnullR {Γ : rz_G} {X : rz_X} {rm : Room} {post : Option Value → rz_H → Prop} {K : rz_K} {cells slots pc : Nat} {L : List (Nat × Value)} {st : List Value} {h : rz_H} {off : Int} {a : Nat} (hd : decode X.1 pc = .ok (.ifnull off, 3)) (k : Wk Γ X rm post K cells slots (pc + 3) L st h) : Wk Γ X rm post K cells slots pc L (.ref a :: st) h :=
  fun C H locs ls hO hS hl => lv_ifnull C.1 C.2.1 hd (k C H locs ls hO hS hl)
theorem rz_ifnonnullN {Γ : rz_G} {X : rz_X} {rm : Room} {post : Option Value → rz_H → Prop} {K : rz_K} {cells slots pc : Nat} {L : List (Nat × Value)} {st : List Value} {h : rz_H} {off : Int} (hd : decode X.1 pc = .ok (.ifnonnull off, 3)) (k : Wk Γ X rm post K cells slots (pc + 3) L st h) : Wk Γ X rm post K cells slots pc L (.null :: st) h :=
  fun C H locs ls hO hS hl => lv_ifnonnullN C.1 C.2.1 hd (k C H locs ls hO hS hl)
theorem rz_ifnonnullR {Γ : rz_G} {X : rz_X} {rm : Room} {post : Option Value → rz_H → Prop} {K : rz_K} {cells slots pc : Nat} {L : List (Nat × Value)} {st : List Value} {h : rz_H} {off : Int} {a : Nat} (tgt : Nat) (hd : decode X.1 pc = .ok (.ifnonnull off, 3)) (ht : (pc : Int) + off = (tgt : Int)) (k : Wk Γ X rm post K cells slots tgt L st h) : Wk Γ X rm post K cells slots pc L (.ref a :: st) h :=
  fun C H locs ls hO hS hl => lv_ifnonnull C.1 C.2.1 hd ht (k C H locs ls hO hS hl)
theorem bi_r (b : Bool) : -2147483648 ≤ bi b ∧ bi b ≤ 2147483647 := by cases b <;> decide
theorem rz_if_eqB {Γ : rz_G} {X : rz_X} {rm : Room} {post : Option Value → rz_H → Prop} {K : rz_K} {cells slots pc : Nat} {L : List (Nat × Value)} {st : List Value} {h : rz_H} {b : Bool} {off : Int} (tgt : Nat) (hd : decode X.1 pc = .ok (.ifCond .eq off, 3)) (ht : (pc : Int) + off = (tgt : Int)) (kt : b = false → Wk Γ X rm post K cells slots tgt L st h) (kf : b = true → Wk Γ X rm post K cells slots (pc + 3) L st h) : Wk Γ X rm post K cells slots pc L (vi (bi b) :: st) h :=
  rz_if_eq tgt hd ht (bi_r b) (fun q => kt ((bi_eq0 b).mp q)) (fun q => kf (by cases b with | true => rfl | false => exact absurd rfl q))
theorem rz_if_neB {Γ : rz_G} {X : rz_X} {rm : Room} {post : Option Value → rz_H → Prop} {K : rz_K} {cells slots pc : Nat} {L : List (Nat × Value)} {st : List Value} {h : rz_H} {b : Bool} {off : Int} (tgt : Nat) (hd : decode X.1 pc = .ok (.ifCond .ne off, 3)) (ht : (pc : Int) + off = (tgt : Int)) (kt : b = true → Wk Γ X rm post K cells slots tgt L st h) (kf : b = false → Wk Γ X rm post K cells slots (pc + 3) L st h) : Wk Γ X rm post K cells slots pc L (vi (bi b) :: st) h :=
  rz_if_ne tgt hd ht (bi_r b) (fun q => kt (by cases b with | true => rfl | false => exact absurd rfl q)) (fun q => kf ((bi_eq0 b).mp q))
/-! rows: ends -/
theorem rz_ireturn {Γ : rz_G} {X : rz_X} {rm : Room} {post : Option Value → rz_H → Prop} {K : rz_K} {cells slots pc : Nat} {L : List (Nat × Value)} {st : List Value} {h : rz_H} {x : Int} (hr : X.2.2.2.1 = some .int) (hd : decode X.1 pc = .ok (.ireturn, 1)) (hc : cells ≤ rm.cells ∧ slots ≤ rm.slots) (hp : post (some (vi x)) h) : Wk Γ X rm post K cells slots pc L [vi x] h :=
  fun C H locs ls hO hS hl => W.widen hc.1 hc.2 (W.iret C.1 C.2.1 (C.2.2.2.2.1.trans hr) (fun t ht hW => ⟨⟨_, _, rfl, hp, by rw [ht]; exact hO⟩, hS.F ht⟩) hS.2.2 hd (hlocks := C.2.2.2.2.2.1))
theorem rz_zreturn {Γ : rz_G} {X : rz_X} {rm : Room} {post : Option Value → rz_H → Prop} {K : rz_K} {cells slots pc : Nat} {L : List (Nat × Value)} {st : List Value} {h : rz_H} {x : Int} {ty : FieldType} (hr : X.2.2.2.1 = some ty) (hn : narrow ty (vi x) = vi x) (hd : decode X.1 pc = .ok (.ireturn, 1)) (hc : cells ≤ rm.cells ∧ slots ≤ rm.slots) (hp : post (some (vi x)) h) : Wk Γ X rm post K cells slots pc L [vi x] h :=
  fun C H locs ls hO hS hl => W.widen hc.1 hc.2 (W.zret C.1 C.2.1 (C.2.2.2.2.1.trans hr) hn (fun t ht hW => ⟨⟨_, _, rfl, hp, by rw [ht]; exact hO⟩, hS.F ht⟩) hS.2.2 hd (hlocks := C.2.2.2.2.2.1))
theorem rz_lreturn {Γ : rz_G} {X : rz_X} {rm : Room} {post : Option Value → rz_H → Prop} {K : rz_K} {cells slots pc : Nat} {L : List (Nat × Value)} {st : List Value} {h : rz_H} {x : Int} (hr : X.2.2.2.1 = some .long) (hd : decode X.1 pc = .ok (.lreturn, 1)) (hc : cells ≤ rm.cells ∧ slots ≤ rm.slots) (hp : post (some (vl x)) h) : Wk Γ X rm post K cells slots pc L [vl x] h :=
  fun C H locs ls hO hS hl => W.widen hc.1 hc.2 (W.lret C.1 C.2.1 (C.2.2.2.2.1.trans hr) (fun t ht hW => ⟨⟨_, _, rfl, hp, by rw [ht]; exact hO⟩, hS.F ht⟩) hS.2.2 hd (hlocks := C.2.2.2.2.2.1))
theorem rz_return {Γ : rz_G} {X : rz_X} {rm : Room} {post : Option Value → rz_H → Prop} {K : rz_K} {cells slots pc : Nat} {L : List (Nat × Value)} {st : List Value} {h : rz_H} (hr : X.2.2.2.1 = none) (hd : decode X.1 pc = .ok (.return_, 1)) (hc : cells ≤ rm.cells ∧ slots ≤ rm.slots) (hp : post none h) : Wk Γ X rm post K cells slots pc L [] h :=
  fun C H locs ls hO hS hl => W.widen hc.1 hc.2 (W.vret C.1 C.2.1 (C.2.2.2.2.1.trans hr) (fun t ht hW => ⟨⟨_, _, rfl, hp, by rw [ht]; exact hO⟩, hS.F ht⟩) hS.2.2 hd (hlocks := C.2.2.2.2.2.1))
theorem rz_areturn {Γ : rz_G} {X : rz_X} {rm : Room} {post : Option Value → rz_H → Prop} {K : rz_K} {cells slots pc : Nat} {L : List (Nat × Value)} {st : List Value} {h : rz_H} {r : Option Nat} {rt : FieldType} (hr : X.2.2.2.1 = some rt) (hrt : (∃ n, rt = .object n) ∨ ∃ t, rt = .array t) (hd : decode X.1 pc = .ok (.areturn, 1)) (hc : cells ≤ rm.cells ∧ slots ≤ rm.slots) (hp : post (some (va_rf r)) h) : Wk Γ X rm post K cells slots pc L [va_rf r] h :=
  fun C H locs ls hO hS hl => W.widen hc.1 hc.2 (W.aret C.1 C.2.1 (C.2.2.2.2.1.trans hr) hrt (by cases r with | none => exact Or.inl rfl | some a => exact Or.inr ⟨a, rfl⟩) (fun t ht hW => ⟨⟨_, _, rfl, hp, by rw [ht]; exact hO⟩, hS.F ht⟩) hS.2.2 hd (hlocks := C.2.2.2.2.2.1))
/-! forms of a contract's end -/
def pI (P : Int → rz_H → Prop) : Option Value → rz_H → Prop := fun v h' => ∃ r : Int, v = some (vi r) ∧ P r h'
def pL (P : Int → rz_H → Prop) : Option Value → rz_H → Prop := fun v h' => ∃ r : Int, v = some (vl r) ∧ P r h'
def pV (P : rz_H → Prop) : Option Value → rz_H → Prop := fun v h' => v = none ∧ P h'
def pR (P : Nat → rz_H → Prop) : Option Value → rz_H → Prop := fun v h' => ∃ a : Nat, v = some (.ref a) ∧ P a h'
def pO (P : Option Nat → rz_H → Prop) : Option Value → rz_H → Prop := fun v h' => ∃ a : Option Nat, v = some (va_rf a) ∧ P a h'
/-- an answer, and the heap as it was -/
abbrev pE (x : Int) (h : rz_H) : Option Value → rz_H → Prop := pI (fun r h' => r = x ∧ h' = h)
abbrev pEL (x : Int) (h : rz_H) : Option Value → rz_H → Prop := pL (fun r h' => r = x ∧ h' = h)
theorem nz_b (b : Bool) : narrow .boolean (vi (bi b)) = vi (bi b) := by cases b <;> rfl
theorem bi1 {b : Bool} (h : b = true) : (1 : Int) = bi b := by rw [h]; rfl
theorem bi0 {b : Bool} (h : b = false) : (0 : Int) = bi b := by rw [h]; rfl
theorem kI {Γ : rz_G} {X : rz_X} {rm : Room} {post : Option Value → rz_H → Prop} {K : rz_K} {cells slots pc : Nat} {L : List (Nat × Value)} {st : List Value} {h : rz_H} {P : Int → rz_H → Prop} (k : ∀ (r : Int) (h' : rz_H), P r h' → Wk Γ X rm post K cells slots pc L (vi r :: st) h') : ∀ (v : Option Value) (h' : rz_H), pI P v h' → Wk Γ X rm post K cells slots pc L (v.toList ++ st) h' := by
  rintro v h' ⟨r, rfl, hp⟩
  exact k r h' hp
theorem kL {Γ : rz_G} {X : rz_X} {rm : Room} {post : Option Value → rz_H → Prop} {K : rz_K} {cells slots pc : Nat} {L : List (Nat × Value)} {st : List Value} {h : rz_H} {P : Int → rz_H → Prop} (k : ∀ (r : Int) (h' : rz_H), P r h' → Wk Γ X rm post K cells slots pc L (vl r :: st) h') : ∀ (v : Option Value) (h' : rz_H), pL P v h' → Wk Γ X rm post K cells slots pc L (v.toList ++ st) h' := by
  rintro v h' ⟨r, rfl, hp⟩
  exact k r h' hp
theorem kE {Γ : rz_G} {X : rz_X} {rm : Room} {post : Option Value → rz_H → Prop} {K : rz_K} {cells slots pc : Nat} {L : List (Nat × Value)} {st : List Value} {h : rz_H} {x : Int} {h0 : rz_H} (k : Wk Γ X rm post K cells slots pc L (vi x :: st) h0) : ∀ (v : Option Value) (h' : rz_H), pE x h0 v h' → Wk Γ X rm post K cells slots pc L (v.toList ++ st) h' := by
  rintro v h' ⟨r, rfl, rfl, rfl⟩
  exact k
theorem kEL {Γ : rz_G} {X : rz_X} {rm : Room} {post : Option Value → rz_H → Prop} {K : rz_K} {cells slots pc : Nat} {L : List (Nat × Value)} {st : List Value} {h : rz_H} {x : Int} {h0 : rz_H} (k : Wk Γ X rm post K cells slots pc L (vl x :: st) h0) : ∀ (v : Option Value) (h' : rz_H), pEL x h0 v h' → Wk Γ X rm post K cells slots pc L (v.toList ++ st) h' := by
  rintro v h' ⟨r, rfl, rfl, rfl⟩
  exact k
theorem kV {Γ : rz_G} {X : rz_X} {rm : Room} {post : Option Value → rz_H → Prop} {K : rz_K} {cells slots pc : Nat} {L : List (Nat × Value)} {st : List Value} {h : rz_H} {P : rz_H → Prop} (k : ∀ h' : rz_H, P h' → Wk Γ X rm post K cells slots pc L st h') : ∀ (v : Option Value) (h' : rz_H), pV P v h' → Wk Γ X rm post K cells slots pc L (v.toList ++ st) h' := by
  rintro v h' ⟨rfl, hp⟩
  exact k h' hp
theorem kR {Γ : rz_G} {X : rz_X} {rm : Room} {post : Option Value → rz_H → Prop} {K : rz_K} {cells slots pc : Nat} {L : List (Nat × Value)} {st : List Value} {h : rz_H} {P : Nat → rz_H → Prop} (k : ∀ (a : Nat) (h' : rz_H), P a h' → Wk Γ X rm post K cells slots pc L (.ref a :: st) h') : ∀ (v : Option Value) (h' : rz_H), pR P v h' → Wk Γ X rm post K cells slots pc L (v.toList ++ st) h' := by
  rintro v h' ⟨a, rfl, hp⟩
  exact k a h' hp
theorem rz_nm {Γ : rz_G} {X : rz_X} {rm : Room} {post : Option Value → rz_H → Prop} {K : rz_K} {cells slots pc : Nat} {L : List (Nat × Value)} {st : List Value} {h : rz_H} (k : ∀ h2 : rz_H, h2 = h → Wk Γ X rm post K cells slots pc L st h2) : Wk Γ X rm post K cells slots pc L st h := k h rfl
end
section
/-! CORE 2: fields, arrays, new cells, calls -/
/-- a field of class number ci, place k, as the method's class spells it -/
def rz_lnk (own : String) (idx ci k : Nat) : Prop := ∃ (q : vw_C) (ref : String), rz_cl[ci]? = some q ∧ k < q.2.2 ∧ ((Cond.fieldLink own idx ref (q.2.1 k).2.1 (q.2.1 k).2.2.1 ∈ rz_W) ∨ ∃ host, (own, idx, ref, (q.2.1 k).2.1, (q.2.1 k).2.2.1, host) ∈ rz_NF) ∧ (ref = (q.2.1 k).1 ∨ Cond.sameField ref (q.2.1 k).1 (q.2.1 k).2.1 (q.2.1 k).2.2.1 ∈ rz_W)
/-- .. that may be written here -/
def rz_lnkP (own nm : String) (idx ci k : Nat) (ty : FieldType) : Prop := ∃ (q : vw_C) (ref : String), rz_cl[ci]? = some q ∧ k < q.2.2 ∧ ((Cond.fieldLink own idx ref (q.2.1 k).2.1 (q.2.1 k).2.2.1 ∈ rz_W ∧ ((q.2.1 k).2.2.2 = false ∨ ((q.2.1 k).2.2.2 = true ∧ nm = "<init>" ∧ (q.2.1 k).1 = own))) ∨ ((q.2.1 k).2.2.2 = false ∧ ∃ host, (own, idx, ref, (q.2.1 k).2.1, (q.2.1 k).2.2.1, host) ∈ rz_NF)) ∧ (ref = (q.2.1 k).1 ∨ Cond.sameField ref (q.2.1 k).1 (q.2.1 k).2.1 (q.2.1 k).2.2.1 ∈ rz_W) ∧ parseFieldDescriptor (q.2.1 k).2.2.1 = some ty
theorem rz_cell {Γ : rz_G} {h : rz_H} {s : State} {H : Heap} {locs : List Loc} {a ci : Nat} {t : Nat × Nat} {fs : List Value} {q : vw_C} (hE : rz_E Γ s) (hO : rz_O Γ h H) (hS : va_S (rz_A Γ) s.heap H locs) (ha : h a = some (t, .inr (ci, fs))) (hc : rz_cl[ci]? = some q) : ∃ cell : Cell, H[a]? = some cell ∧ cell.vm.isStatics = false ∧ s.vm.findClass q.1 = some cell.cls := by
  obtain ⟨ws, hP, hD, hws⟩ := hO
  rcases hws a t _ ha with ⟨-, q0, hq0⟩ | ⟨-, hz⟩
  · exact va_recv hE.1 hP hc hq0
  · obtain ⟨r, h1, h2, h3⟩ := hE.2.2.2.2.1 a _ _ hz
    cases h1.symm.trans hc
    obtain ⟨cell, g1, g2, g3, -⟩ := h2.kept hS.2.1
    exact ⟨cell, g1, g2, g3⟩
theorem rz_getf {Γ : rz_G} {X : rz_X} {rm : Room} {post : Option Value → rz_H → Prop} {K : rz_K} {cells slots pc : Nat} {L : List (Nat × Value)} {st : List Value} {h : rz_H} {idx ci k a : Nat} {t : Nat × Nat} {fs : List Value} {v : Value} (hf : rz_lnk X.2.1 idx ci k) (ha : h a = some (t, .inr (ci, fs))) (hv : fs[k]? = some v) (hd : decode X.1 pc = .ok (.getfield idx, 3)) (kk : Wk Γ X rm post K cells slots (pc + 3) L (v :: st) h) : Wk Γ X rm post K cells slots pc L (.ref a :: st) h := by
  intro C H locs ls hO hS hl
  have kk' := kk C H locs ls hO hS hl
  obtain ⟨hx, hb, hml, hown, hr, hlk, hnm, hE⟩ := C
  have hW := hE.2.2.1
  obtain ⟨⟨Cn, T, N⟩, ref, hc, hkN, hlink, hsame⟩ := hf
  have hs' : ∀ x, K.2.2.2.1.fieldFound? (T k).1 (T k).2.1 (T k).2.2.1 = some x → K.2.2.2.1.fieldFound? ref (T k).2.1 (T k).2.2.1 = some x := by
    rcases hsame with h1 | h1
    · intro x hx
      rw [h1]
      exact hx
    · exact fun x hx => u_same (hW _ h1 #[]) x hx
  obtain ⟨ws, hP, hD, hws⟩ := hO
  rcases hws a t _ ha with ⟨-, q0, hq0⟩ | ⟨-, hz⟩
  · rcases hlink with hlink | ⟨host, hlink⟩
    · exact va_get hx hb (fun w hw => hW w hw _) (rz_lays ci _ hc) hown hE.1 hP q0 hq0 hc k hkN (hW _ hlink _) hs' hv hd kk'
    · exact va_getN hx hb (fun w hw => hW w hw _) (rz_lays ci _ hc) hown hE.1 hP q0 hq0 hc k hkN (va_Nw.use rfl (hE.2.2.2.1.1 _ hlink)) hs' hv hd kk'
  · obtain ⟨r, h1, h2, h3⟩ := hE.2.2.2.2.1 a _ _ hz
    cases h1.symm.trans hc
    rcases hlink with hlink | ⟨host, hlink⟩
    · exact vk_getf hx hb (h3 k v hv) hS hown (hW _ hlink _) hs' hd kk'
    · obtain ⟨cf, kf, fi, f, cell, g1, g2, g3, g4, g5, g6⟩ := (h3 k v hv).kept hS.2.1
      exact va_Wgetf hx hb hown (va_Nw.use rfl (hE.2.2.2.1.1 _ hlink)) (hs' _ g1) g2 g3 g4 (v := v) g5 rfl rfl hd kk'
theorem rz_putf {Γ : rz_G} {X : rz_X} {rm : Room} {post : Option Value → rz_H → Prop} {K : rz_K} {cells slots pc : Nat} {L : List (Nat × Value)} {st : List Value} {h : rz_H} {idx ci k a : Nat} {t : Nat × Nat} {fs : List Value} {v : Value} {ty : FieldType} (hf : rz_lnkP X.2.1 X.2.2.2.2 idx ci k ty) (ha : h a = some (t, .inr (ci, fs))) (ht : t.1 ≠ 0) (hn : narrow ty v = v) (hfit : fits ty v = true) (hl0 : k < fs.length) (hd : decode X.1 pc = .ok (.putfield idx, 3)) (kk : Wk Γ X rm post K cells slots (pc + 3) L st (rz_up h a (t, .inr (ci, fs.set k v)))) : Wk Γ X rm post K cells slots pc L (v :: .ref a :: st) h := by
  intro C H locs ls hO hS hl
  have kk' := kk C
  obtain ⟨hx, hb, hml, hown, hr, hlk, hnm, hE⟩ := C
  have hW := hE.2.2.1
  obtain ⟨⟨Cn, T, N⟩, ref, hc, hkN, hlink, hsame, hpd⟩ := hf
  have hs' : ∀ x, K.2.2.2.1.fieldFound? (T k).1 (T k).2.1 (T k).2.2.1 = some x → K.2.2.2.1.fieldFound? ref (T k).2.1 (T k).2.2.1 = some x := by
    rcases hsame with h1 | h1
    · intro x hx
      rw [h1]
      exact hx
    · exact fun x hx => u_same (hW _ h1 #[]) x hx
  obtain ⟨⟨ty0, hty⟩, hnn⟩ := rz_tys ci _ hc
  obtain ⟨ws, hP, hD, hws⟩ := hO
  rcases hws a t _ ha with ⟨-, q0, hq0⟩ | ⟨h0, -⟩
  · rcases hlink with ⟨hlink, hfin | ⟨hfin, hi, hdc⟩⟩ | ⟨hfin, host, hlink⟩
    · exact va_put hx hb (fun w hw => hW w hw _) (rz_lays ci _ hc) ty0 hty hnn hown hE.1 hP hD hS q0 hq0 hc k hkN (hW _ hlink _) hs' hfin hpd hn hfit hl0 hd (fun H1 locs1 hP1 hD1 hS1 => kk' H1 locs1 ls (rz_O.set hws hq0 ht hP1 hD1) hS1 hl)
    · exact va_putF hx hb (fun w hw => hW w hw _) (rz_lays ci _ hc) ty0 hty hnn hown hE.1 hP hD hS q0 hq0 hc k hkN (hW _ hlink _) hs' hfin (hnm.trans hi) hdc hpd hn hfit hl0 hd (fun H1 locs1 hP1 hD1 hS1 => kk' H1 locs1 ls (rz_O.set hws hq0 ht hP1 hD1) hS1 hl)
    · exact va_putN hx hb (fun w hw => hW w hw _) (rz_lays ci _ hc) ty0 hty hnn hown hE.1 hP hD hS q0 hq0 hc k hkN (va_Nw.use rfl (hE.2.2.2.1.1 _ hlink)) hs' hfin hpd hn hfit hl0 hd (fun H1 locs1 hP1 hD1 hS1 => kk' H1 locs1 ls (rz_O.set hws hq0 ht hP1 hD1) hS1 hl)
  · exact absurd h0 ht
theorem rz_gets {Γ : rz_G} {X : rz_X} {rm : Room} {post : Option Value → rz_H → Prop} {K : rz_K} {cells slots pc : Nat} {L : List (Nat × Value)} {st : List Value} {h : rz_H} {idx : Nat} {C0 n d ref : String} {v : Value} (hz : (C0, n, d, v) ∈ rz_Z Γ.2.2.2.2) (hw : Cond.fieldLink X.2.1 idx ref n d ∈ rz_W) (hsame : ref = C0 ∨ Cond.sameField ref C0 n d ∈ rz_W) (hd : decode X.1 pc = .ok (.getstatic idx, 3)) (kk : Wk Γ X rm post K cells slots (pc + 3) L (v :: st) h) : Wk Γ X rm post K cells slots pc L st h := by
  intro C H locs ls hO hS hl
  have kk' := kk C H locs ls hO hS hl
  obtain ⟨hx, hb, hml, hown, hr, hlk, hnm, hE⟩ := C
  refine va_gets hx hb (hE.2.2.2.2.2.1 _ hz) hS hown (hE.2.2.1 _ hw _) ?_ hd kk'
  rcases hsame with h1 | h1
  · intro x hx
    rw [h1]
    exact hx
  · exact fun x hx => u_same (hE.2.2.1 _ h1 #[]) x hx
/-! arrays -/
abbrev aI (Γ : rz_G) (k n : Nat) (g : Int → Int) : va_E := .inl (Γ.2.1 k, n, .inl (fun j : Nat => Int32.ofInt (g (j : Int))))
abbrev aL (Γ : rz_G) (n : Nat) (g : Int → Int) : va_E := .inl (Γ.2.1 3, n, .inr (.inl (fun j : Nat => Int64.ofInt (g (j : Int)))))
abbrev aR (Γ : rz_G) (k n : Nat) (f : Int → Option Nat) : va_E := .inl (Γ.2.1 k, n, .inr (.inr (.inr (.inr (fun j : Nat => f (j : Int))))))
def rz_u {α : Type} (g : Int → α) (i : Int) (v : α) : Int → α := fun j => if j = i then v else g j
theorem rz_u_s {α : Type} (g : Int → α) (i : Int) (v : α) : rz_u g i v i = v := by simp [rz_u]
theorem rz_u_n {α : Type} {g : Int → α} {i j : Int} {v : α} (hn : j ≠ i) : rz_u g i v j = g j := by simp [rz_u, hn]
theorem rz_upd {g : Int → Int} {i v : Int} {x : Int32} (hi : 0 ≤ i ∧ i ≤ 2147483647) (hx : x = Int32.ofInt v) : upd (fun j : Nat => Int32.ofInt (g (j : Int))) (Int32.ofInt i).toNatClampNeg x = fun j : Nat => Int32.ofInt (rz_u g i v (j : Int)) := by
  funext j
  rw [rz_cl_i hi]
  by_cases hj : (j : Int) = i
  · rw [hj, rz_u_s, show j = i.toNat by omega, pk_us, hx]
  · rw [rz_u_n hj, pk_un (by omega)]
theorem rz_updL {g : Int → Int} {i v : Int} (hi : 0 ≤ i ∧ i ≤ 2147483647) : vp_updL (fun j : Nat => Int64.ofInt (g (j : Int))) (Int32.ofInt i).toNatClampNeg (Int64.ofInt v) = fun j : Nat => Int64.ofInt (rz_u g i v (j : Int)) := by
  funext j
  rw [rz_cl_i hi]
  by_cases hj : (j : Int) = i
  · rw [hj, rz_u_s, show j = i.toNat by omega, pk_uLs]
  · rw [rz_u_n hj, pk_uLn (by omega)]
theorem rz_updQ {f : Int → Option Nat} {i : Int} {v : Option Nat} (hi : 0 ≤ i ∧ i ≤ 2147483647) : va_up (fun j : Nat => f (j : Int)) (Int32.ofInt i).toNatClampNeg v = fun j : Nat => rz_u f i v (j : Int) := by
  funext j
  rw [rz_cl_i hi]
  by_cases hj : (j : Int) = i
  · rw [hj, rz_u_s, show j = i.toNat by omega, va_up_self]
  · rw [rz_u_n hj, va_up_ne _ _ (by omega)]
theorem rz_ixn {i : Int} (hi : 0 ≤ i ∧ i ≤ 2147483647) : (((Int32.ofInt i).toNatClampNeg : Nat) : Int) = i := by rw [rz_cl_i hi]; omega
theorem rz_iaload {Γ : rz_G} {X : rz_X} {rm : Room} {post : Option Value → rz_H → Prop} {K : rz_K} {cells slots pc : Nat} {L : List (Nat × Value)} {st : List Value} {h : rz_H} {a n : Nat} {t : Nat × Nat} {g : Int → Int} {i : Int} (ha : h a = some (t, aI Γ 0 n g)) (ht : t.1 ≠ 0) (hi : 0 ≤ i ∧ i < n ∧ i ≤ 2147483647) (hd : decode X.1 pc = .ok (.iaload, 1)) (kk : Wk Γ X rm post K cells slots (pc + 1) L (vi (g i) :: st) h) : Wk Γ X rm post K cells slots pc L (vi i :: .ref a :: st) h := by
  intro C H locs ls hO hS hl
  have kk' := kk C H locs ls hO hS hl
  have hE := C.2.2.2.2.2.2.2
  obtain ⟨ws, hP, hD, hws⟩ := hO
  rcases hws a t _ ha with ⟨-, q0, hq0⟩ | ⟨h0, -⟩
  · refine va_iald C.1 C.2.1 hE.1 hP q0 0 hq0 rfl (rz_in hi) hd ?_
    rw [rz_ixn ⟨hi.1, hi.2.2⟩]
    exact kk'
  · exact absurd h0 ht
theorem rz_zaload {Γ : rz_G} {X : rz_X} {rm : Room} {post : Option Value → rz_H → Prop} {K : rz_K} {cells slots pc : Nat} {L : List (Nat × Value)} {st : List Value} {h : rz_H} {a n : Nat} {t : Nat × Nat} {g : Int → Int} {i : Int} (ha : h a = some (t, aI Γ 1 n g)) (ht : t.1 ≠ 0) (hi : 0 ≤ i ∧ i < n ∧ i ≤ 2147483647) (hd : decode X.1 pc = .ok (.baload, 1)) (kk : Wk Γ X rm post K cells slots (pc + 1) L (vi (g i) :: st) h) : Wk Γ X rm post K cells slots pc L (vi i :: .ref a :: st) h := by
  intro C H locs ls hO hS hl
  have kk' := kk C H locs ls hO hS hl
  have hE := C.2.2.2.2.2.2.2
  obtain ⟨ws, hP, hD, hws⟩ := hO
  rcases hws a t _ ha with ⟨-, q0, hq0⟩ | ⟨h0, -⟩
  · refine va_zald C.1 C.2.1 hE.1 hP q0 1 hq0 rfl (rz_in hi) hd ?_
    rw [rz_ixn ⟨hi.1, hi.2.2⟩]
    exact kk'
  · exact absurd h0 ht
theorem rz_laload {Γ : rz_G} {X : rz_X} {rm : Room} {post : Option Value → rz_H → Prop} {K : rz_K} {cells slots pc : Nat} {L : List (Nat × Value)} {st : List Value} {h : rz_H} {a n : Nat} {t : Nat × Nat} {g : Int → Int} {i : Int} (ha : h a = some (t, aL Γ n g)) (ht : t.1 ≠ 0) (hi : 0 ≤ i ∧ i < n ∧ i ≤ 2147483647) (hd : decode X.1 pc = .ok (.laload, 1)) (kk : Wk Γ X rm post K cells slots (pc + 1) L (vl (g i) :: st) h) : Wk Γ X rm post K cells slots pc L (vi i :: .ref a :: st) h := by
  intro C H locs ls hO hS hl
  have kk' := kk C H locs ls hO hS hl
  have hE := C.2.2.2.2.2.2.2
  obtain ⟨ws, hP, hD, hws⟩ := hO
  rcases hws a t _ ha with ⟨-, q0, hq0⟩ | ⟨h0, -⟩
  · refine va_lald C.1 C.2.1 hE.1 hP q0 3 hq0 rfl (rz_in hi) hd ?_
    rw [rz_ixn ⟨hi.1, hi.2.2⟩]
    exact kk'
  · exact absurd h0 ht
theorem rz_baload {Γ : rz_G} {X : rz_X} {rm : Room} {post : Option Value → rz_H → Prop} {K : rz_K} {cells slots pc : Nat} {L : List (Nat × Value)} {st : List Value} {h : rz_H} {a n : Nat} {t : Nat × Nat} {g : Int → Int} {i : Int} (ha : h a = some (t, aI Γ 2 n g)) (ht : t.1 = 0 → t.2 = 2) (hi : 0 ≤ i ∧ i < n ∧ i ≤ 2147483647) (hd : decode X.1 pc = .ok (.baload, 1)) (kk : Wk Γ X rm post K cells slots (pc + 1) L (vi (g i) :: st) h) : Wk Γ X rm post K cells slots pc L (vi i :: .ref a :: st) h := by
  intro C H locs ls hO hS hl
  have kk' := kk C H locs ls hO hS hl
  have hE := C.2.2.2.2.2.2.2
  obtain ⟨ws, hP, hD, hws⟩ := hO
  rcases hws a t _ ha with ⟨-, q0, hq0⟩ | ⟨h0, hz⟩
  · refine va_bald C.1 C.2.1 hE.1 hP q0 2 hq0 rfl (rz_in hi) hd ?_
    rw [rz_ixn ⟨hi.1, hi.2.2⟩]
    exact kk'
  · obtain ⟨ty, h1, h2⟩ := hE.2.2.2.2.1 a _ _ hz
    rw [ht h0] at h1
    cases h1
    exact va_tb C.1 C.2.1 h2 hS (rz_in hi) (v := vi (g i)) (by show Value.int (Int32.ofInt (g (((Int32.ofInt i).toNatClampNeg : Nat) : Int))) = _; rw [rz_ixn ⟨hi.1, hi.2.2⟩]) hd kk'
theorem rz_aaload {Γ : rz_G} {X : rz_X} {rm : Room} {post : Option Value → rz_H → Prop} {K : rz_K} {cells slots pc : Nat} {L : List (Nat × Value)} {st : List Value} {h : rz_H} {a n k : Nat} {C0 : String} {t : Nat × Nat} {f : Int → Option Nat} {i : Int} (ha : h a = some (t, aR Γ k n f)) (hk : (rz_T Γ.2.1)[k]? = some (Γ.2.1 k, .object C0)) (ht : t.1 ≠ 0) (hi : 0 ≤ i ∧ i < n ∧ i ≤ 2147483647) (hd : decode X.1 pc = .ok (.aaload, 1)) (kk : Wk Γ X rm post K cells slots (pc + 1) L (va_rf (f i) :: st) h) : Wk Γ X rm post K cells slots pc L (vi i :: .ref a :: st) h := by
  intro C H locs ls hO hS hl
  have kk' := kk C H locs ls hO hS hl
  have hE := C.2.2.2.2.2.2.2
  obtain ⟨ws, hP, hD, hws⟩ := hO
  rcases hws a t _ ha with ⟨-, q0, hq0⟩ | ⟨h0, -⟩
  · refine va_aldq C.1 C.2.1 hE.1 hP q0 k hq0 hk (rz_in hi) hd ?_
    rw [rz_ixn ⟨hi.1, hi.2.2⟩]
    exact kk'
  · exact absurd h0 ht
theorem rz_iastore {Γ : rz_G} {X : rz_X} {rm : Room} {post : Option Value → rz_H → Prop} {K : rz_K} {cells slots pc : Nat} {L : List (Nat × Value)} {st : List Value} {h : rz_H} {a n : Nat} {t : Nat × Nat} {g : Int → Int} {i v : Int} (ha : h a = some (t, aI Γ 0 n g)) (ht : t.1 ≠ 0) (hi : 0 ≤ i ∧ i < n ∧ i ≤ 2147483647) (hd : decode X.1 pc = .ok (.iastore, 1)) (kk : Wk Γ X rm post K cells slots (pc + 1) L st (rz_up h a (t, aI Γ 0 n (rz_u g i v)))) : Wk Γ X rm post K cells slots pc L (vi v :: vi i :: .ref a :: st) h := by
  intro C H locs ls hO hS hl
  have hE := C.2.2.2.2.2.2.2
  obtain ⟨ws, hP, hD, hws⟩ := hO
  rcases hws a t _ ha with ⟨-, q0, hq0⟩ | ⟨h0, -⟩
  · refine va_iast C.1 C.2.1 hE.1 hP hD hS q0 0 hq0 rfl (rz_in hi) hd (fun H1 locs1 hP1 hD1 hS1 => ?_)
    rw [rz_upd (v := v) ⟨hi.1, hi.2.2⟩ rfl] at hP1 hD1
    exact kk C H1 locs1 ls (rz_O.set hws hq0 ht hP1 hD1) hS1 hl
  · exact absurd h0 ht
theorem rz_zastore {Γ : rz_G} {X : rz_X} {rm : Room} {post : Option Value → rz_H → Prop} {K : rz_K} {cells slots pc : Nat} {L : List (Nat × Value)} {st : List Value} {h : rz_H} {a n : Nat} {t : Nat × Nat} {g : Int → Int} {i v : Int} (ha : h a = some (t, aI Γ 1 n g)) (ht : t.1 ≠ 0) (hi : 0 ≤ i ∧ i < n ∧ i ≤ 2147483647) (hv : v = 0 ∨ v = 1) (hd : decode X.1 pc = .ok (.bastore, 1)) (kk : Wk Γ X rm post K cells slots (pc + 1) L st (rz_up h a (t, aI Γ 1 n (rz_u g i v)))) : Wk Γ X rm post K cells slots pc L (vi v :: vi i :: .ref a :: st) h := by
  intro C H locs ls hO hS hl
  have hE := C.2.2.2.2.2.2.2
  obtain ⟨ws, hP, hD, hws⟩ := hO
  rcases hws a t _ ha with ⟨-, q0, hq0⟩ | ⟨h0, -⟩
  · refine va_zast C.1 C.2.1 hE.1 hP hD hS q0 1 hq0 rfl (rz_in hi) hd (fun H1 locs1 hP1 hD1 hS1 => ?_)
    rw [rz_upd (v := v) ⟨hi.1, hi.2.2⟩ (by rcases hv with rfl | rfl <;> rfl)] at hP1 hD1
    exact kk C H1 locs1 ls (rz_O.set hws hq0 ht hP1 hD1) hS1 hl
  · exact absurd h0 ht
theorem rz_nb {v : Int} (hv : -128 ≤ v ∧ v ≤ 127) : vp_nar .byte (Int32.ofInt v) = Int32.ofInt v := by
  rw [vp_nar_byte, ← Int32.toInt_inj, Int8.toInt_toInt32, rz_ti (by omega), Int32.toInt_toInt8, rz_ti (by omega)]
  exact Int.bmod_eq_of_le (by omega) (by omega)
theorem rz_bastore {Γ : rz_G} {X : rz_X} {rm : Room} {post : Option Value → rz_H → Prop} {K : rz_K} {cells slots pc : Nat} {L : List (Nat × Value)} {st : List Value} {h : rz_H} {a n : Nat} {t : Nat × Nat} {g : Int → Int} {i v : Int} (ha : h a = some (t, aI Γ 2 n g)) (ht : t.1 ≠ 0) (hi : 0 ≤ i ∧ i < n ∧ i ≤ 2147483647) (hv : -128 ≤ v ∧ v ≤ 127) (hd : decode X.1 pc = .ok (.bastore, 1)) (kk : Wk Γ X rm post K cells slots (pc + 1) L st (rz_up h a (t, aI Γ 2 n (rz_u g i v)))) : Wk Γ X rm post K cells slots pc L (vi v :: vi i :: .ref a :: st) h := by
  intro C H locs ls hO hS hl
  have hE := C.2.2.2.2.2.2.2
  obtain ⟨ws, hP, hD, hws⟩ := hO
  rcases hws a t _ ha with ⟨-, q0, hq0⟩ | ⟨h0, -⟩
  · refine va_bast C.1 C.2.1 hE.1 hP hD hS q0 2 hq0 rfl (rz_in hi) hd (fun H1 locs1 hP1 hD1 hS1 => ?_)
    rw [rz_upd (v := v) ⟨hi.1, hi.2.2⟩ (rz_nb hv)] at hP1 hD1
    exact kk C H1 locs1 ls (rz_O.set hws hq0 ht hP1 hD1) hS1 hl
  · exact absurd h0 ht
theorem rz_lastore {Γ : rz_G} {X : rz_X} {rm : Room} {post : Option Value → rz_H → Prop} {K : rz_K} {cells slots pc : Nat} {L : List (Nat × Value)} {st : List Value} {h : rz_H} {a n : Nat} {t : Nat × Nat} {g : Int → Int} {i v : Int} (ha : h a = some (t, aL Γ n g)) (ht : t.1 ≠ 0) (hi : 0 ≤ i ∧ i < n ∧ i ≤ 2147483647) (hd : decode X.1 pc = .ok (.lastore, 1)) (kk : Wk Γ X rm post K cells slots (pc + 1) L st (rz_up h a (t, aL Γ n (rz_u g i v)))) : Wk Γ X rm post K cells slots pc L (vl v :: vi i :: .ref a :: st) h := by
  intro C H locs ls hO hS hl
  have hE := C.2.2.2.2.2.2.2
  obtain ⟨ws, hP, hD, hws⟩ := hO
  rcases hws a t _ ha with ⟨-, q0, hq0⟩ | ⟨h0, -⟩
  · refine va_last C.1 C.2.1 hE.1 hP hD hS q0 3 hq0 rfl (rz_in hi) hd (fun H1 locs1 hP1 hD1 hS1 => ?_)
    rw [rz_updL (v := v) ⟨hi.1, hi.2.2⟩] at hP1 hD1
    exact kk C H1 locs1 ls (rz_O.set hws hq0 ht hP1 hD1) hS1 hl
  · exact absurd h0 ht
theorem rz_alen {Γ : rz_G} {X : rz_X} {rm : Room} {post : Option Value → rz_H → Prop} {K : rz_K} {cells slots pc : Nat} {L : List (Nat × Value)} {st : List Value} {h : rz_H} {a k : Nat} {t : Nat × Nat} {x : vp_A} {ty : FieldType} {v : Int} (ha : h a = some (t, .inl (Γ.2.1 k, x))) (ht : t.1 ≠ 0) (hk : (rz_T Γ.2.1)[k]? = some (Γ.2.1 k, ty)) (hv : v = (x.1 : Int)) (hd : decode X.1 pc = .ok (.arraylength, 1)) (kk : Wk Γ X rm post K cells slots (pc + 1) L (vi v :: st) h) : Wk Γ X rm post K cells slots pc L (.ref a :: st) h := by
  intro C H locs ls hO hS hl
  have kk' := kk C H locs ls hO hS hl
  have hE := C.2.2.2.2.2.2.2
  obtain ⟨ws, hP, hD, hws⟩ := hO
  rcases hws a t _ ha with ⟨-, q0, hq0⟩ | ⟨h0, -⟩
  · exact va_alen C.1 C.2.1 hE.1 hP q0 k hq0 hk (by rw [hv, Int32.ofInt_eq_ofNat]) hd kk'
  · exact absurd h0 ht
theorem rz_alenF {Γ : rz_G} {X : rz_X} {rm : Room} {post : Option Value → rz_H → Prop} {K : rz_K} {cells slots pc : Nat} {L : List (Nat × Value)} {st : List Value} {h : rz_H} {a k n : Nat} {g : Int → Int} {v : Int} (ha : h a = some ((0, k), aI Γ k n g)) (hv : v = (n : Int)) (hd : decode X.1 pc = .ok (.arraylength, 1)) (kk : Wk Γ X rm post K cells slots (pc + 1) L (vi v :: st) h) : Wk Γ X rm post K cells slots pc L (.ref a :: st) h := by
  intro C H locs ls hO hS hl
  have kk' := kk C H locs ls hO hS hl
  have hE := C.2.2.2.2.2.2.2
  obtain ⟨ws, hP, hD, hws⟩ := hO
  rcases hws a _ _ ha with ⟨h0, -⟩ | ⟨-, hz⟩
  · exact absurd rfl h0
  · obtain ⟨ty, h1, h2⟩ := hE.2.2.2.2.1 a _ _ hz
    exact va_tlen C.1 C.2.1 h2 hS (by rw [hv, Int32.ofInt_eq_ofNat]) hd kk'
theorem rz_alenQ {Γ : rz_G} {X : rz_X} {rm : Room} {post : Option Value → rz_H → Prop} {K : rz_K} {cells slots pc : Nat} {L : List (Nat × Value)} {st : List Value} {h : rz_H} {a k n : Nat} {f : Int → Option Nat} {v : Int} (ha : h a = some ((0, k), aR Γ k n f)) (hv : v = (n : Int)) (hd : decode X.1 pc = .ok (.arraylength, 1)) (kk : Wk Γ X rm post K cells slots (pc + 1) L (vi v :: st) h) : Wk Γ X rm post K cells slots pc L (.ref a :: st) h := by
  intro C H locs ls hO hS hl
  have kk' := kk C H locs ls hO hS hl
  have hE := C.2.2.2.2.2.2.2
  obtain ⟨ws, hP, hD, hws⟩ := hO
  rcases hws a _ _ ha with ⟨h0, -⟩ | ⟨-, hz⟩
  · exact absurd rfl h0
  · obtain ⟨ty, h1, h2⟩ := hE.2.2.2.2.1 a _ _ hz
    exact va_tlen C.1 C.2.1 h2 hS (by rw [hv, Int32.ofInt_eq_ofNat]) hd kk'
/-- what a new array of a type holds -/
theorem rz_newa {Γ : rz_G} {X : rz_X} {rm : Room} {post : Option Value → rz_H → Prop} {K : rz_K} {cells slots pc : Nat} {L : List (Nat × Value)} {st : List Value} {h : rz_H} {atype : ArrayType} {k : Nat} {ty : FieldType} {a0 : vp_A} {n : Int} (N : Nat) (t : Nat × Nat) (ht : t.1 ≠ 0) (hty : newarray.typeOf atype = ty) (hk : (rz_T Γ.2.1)[k]? = some (Γ.2.1 k, ty)) (hR : ∀ (U : State) (cA : ClassId), va_RA U cA ty → U.vm.findClass ("[" ++ ty.toString) = some cA) (ha0 : ∀ cA : ClassId, vp_cell cA a0 = arrV cA N (fun _ => defaultValue ty)) (hw : Cond.arrayClass ty ∈ rz_W) (hn : n = (N : Int)) (hN : N ≤ 10000000) (hby : componentBytes ty ≤ 8) (hc : cells + 1 ≤ rm.cells ∧ slots + N ≤ rm.slots) (hd : decode X.1 pc = .ok (.newarray atype, 2))
    (kk : ∀ q : Nat, h q = none → Wk Γ X rm post K (cells + 1) (slots + N) (pc + 2) L (.ref q :: st) (rz_up h q (t, .inl (Γ.2.1 k, a0)))) : Wk Γ X rm post K cells slots pc L (vi n :: st) h := by
  intro C H locs ls hO hS hl
  have hE := C.2.2.2.2.2.2.2
  obtain ⟨ws, hP, hD, hws⟩ := hO
  subst hty
  refine va_newa C.1 C.2.1 (hE.2.2.1 _ hw _) rfl hE.1 hP hD hS (fun q hq => Nat.le_trans hE.2.1 hq) (a0 := a0) ha0 (n := Int32.ofInt n) (by rw [rz_0, rz_lt (by omega) (by omega)]; omega) (by rw [rz_cl_i (by omega)]; omega) (Nat.le_trans (Nat.mul_le_mul hN hby) (by decide)) hc.1 hc.2 hd (fun q cA H1 hK1 hP1 hD1 hS1 => ?_)
  have e1 := hR _ _ (hE.1.2 k _ hk).2
  have e2 := hR _ _ (hK1.2 (rz_T Γ.2.1).length (cA, newarray.typeOf atype) (by rw [List.getElem?_append_right (Nat.le_refl _), Nat.sub_self]; rfl)).2
  have e3 : cA = Γ.2.1 k := Option.some.inj (e2.symm.trans e1)
  subst e3
  obtain ⟨hq, hO1⟩ := rz_O.push hE hws ht hP1 hD1
  exact kk q hq C H1 locs ls hO1 hS1 hl
theorem rz_anew {Γ : rz_G} {X : rz_X} {rm : Room} {post : Option Value → rz_H → Prop} {K : rz_K} {cells slots pc : Nat} {L : List (Nat × Value)} {st : List Value} {h : rz_H} {idx k : Nat} {C0 : String} {n : Int} (N : Nat) (t : Nat × Nat) (ht : t.1 ≠ 0) (hk : (rz_T Γ.2.1)[k]? = some (Γ.2.1 k, .object C0)) (hw : Cond.classLink X.2.1 idx C0 ∈ rz_W) (ho : C0 ∈ rz_NA) (hn : n = (N : Int)) (hN : N ≤ 10000000) (hc : cells + 1 ≤ rm.cells ∧ slots + N ≤ rm.slots) (hd : decode X.1 pc = .ok (.anewarray idx, 3))
    (kk : ∀ q : Nat, h q = none → Wk Γ X rm post K (cells + 1) (slots + N) (pc + 3) L (.ref q :: st) (rz_up h q (t, aR Γ k N (fun _ => none)))) : Wk Γ X rm post K cells slots pc L (vi n :: st) h := by
  intro C H locs ls hO hS hl
  have hE := C.2.2.2.2.2.2.2
  obtain ⟨ws, hP, hD, hws⟩ := hO
  refine va_newq C.1 C.2.1 C.2.2.2.1 (hE.2.2.1 _ hw _) (hE.2.2.2.1.2.2.2 _ ho) hE.1 hP hD hS (fun q hq => Nat.le_trans hE.2.1 hq) (n := Int32.ofInt n) (N' := N) (by rw [rz_0, rz_lt (by omega) (by omega)]; omega) (by rw [rz_cl_i (by omega)]; omega) (by omega) hc.1 hc.2 hd (fun q cA H1 hK1 hP1 hD1 hS1 => ?_)
  obtain ⟨-, -, -, -, -, e1⟩ := (hE.1.2 k _ hk).2
  obtain ⟨-, -, -, -, -, e2⟩ := (hK1.2 (rz_T Γ.2.1).length (cA, .object C0) (by rw [List.getElem?_append_right (Nat.le_refl _), Nat.sub_self]; rfl)).2
  have e3 : cA = Γ.2.1 k := Option.some.inj (e2.symm.trans e1)
  subst e3
  obtain ⟨hq, hO1⟩ := rz_O.push hE hws ht hP1 hD1
  exact kk q hq C H1 locs ls hO1 hS1 hl
/-- an object is made: its fields are blank -/
theorem rz_new {Γ : rz_G} {X : rz_X} {rm : Room} {post : Option Value → rz_H → Prop} {K : rz_K} {cells slots pc : Nat} {L : List (Nat × Value)} {st : List Value} {h : rz_H} {idx ci : Nat} {q0 : vw_C} {fs : List Value} (t : Nat × Nat) (ht : t.1 ≠ 0) (hc : rz_cl[ci]? = some q0) (hfs : rz_bl ci = fs) (hw : Cond.classLink X.2.1 idx q0.1 ∈ rz_W) (hcs : cells + 1 ≤ rm.cells ∧ slots + q0.2.2 ≤ rm.slots) (hd : decode X.1 pc = .ok (.new idx, 3))
    (kk : ∀ q : Nat, h q = none → Wk Γ X rm post K (cells + 1) (slots + q0.2.2) (pc + 3) L (.ref q :: st) (rz_up h q (t, .inr (ci, fs)))) : Wk Γ X rm post K cells slots pc L st h := by
  intro C H locs ls hO hS hl
  have hE := C.2.2.2.2.2.2.2
  have hW := hE.2.2.1
  obtain ⟨ws, hP, hD, hws⟩ := hO
  obtain ⟨ty0, hty, hdf, hi1, hi2⟩ := rz_born ci _ hc
  subst hfs
  obtain ⟨Cn, T, N⟩ := q0
  refine va_new C.1 C.2.1 (fun w hw => hW w hw _) (rz_lays ci _ hc) ty0 hty C.2.2.2.1 (hW _ hw _) (hW _ hi1 _) (hW _ hi2 _) hE.1 hP hD hS (fun q hq => Nat.le_trans hE.2.1 hq) hc hdf hcs.1 hcs.2 hd (fun q H1 hP1 hD1 hS1 => ?_)
  obtain ⟨hq, hO1⟩ := rz_O.push hE hws ht hP1 hD1
  exact kk q hq C H1 locs ls hO1 hS1 hl
theorem rz_cast {Γ : rz_G} {X : rz_X} {rm : Room} {post : Option Value → rz_H → Prop} {K : rz_K} {cells slots pc : Nat} {L : List (Nat × Value)} {st : List Value} {h : rz_H} {idx a ci : Nat} {t : Nat × Nat} {fs : List Value} {q0 : vw_C} (ha : h a = some (t, .inr (ci, fs))) (hc : rz_cl[ci]? = some q0) (hw : Cond.classLink X.2.1 idx q0.1 ∈ rz_W) (hd : decode X.1 pc = .ok (.checkcast idx, 3)) (kk : Wk Γ X rm post K cells slots (pc + 3) L (.ref a :: st) h) : Wk Γ X rm post K cells slots pc L (.ref a :: st) h :=
  fun C H locs ls hO hS hl => va_castE C.1 C.2.1 C.2.2.2.1 (C.2.2.2.2.2.2.2.2.2.1 _ hw _) (rz_cell C.2.2.2.2.2.2.2 hO hS ha hc) hd (kk C H locs ls hO hS hl)
theorem rz_inst {Γ : rz_G} {X : rz_X} {rm : Room} {post : Option Value → rz_H → Prop} {K : rz_K} {cells slots pc : Nat} {L : List (Nat × Value)} {st : List Value} {h : rz_H} {idx a ci : Nat} {t : Nat × Nat} {fs : List Value} {q0 : vw_C} (ha : h a = some (t, .inr (ci, fs))) (hc : rz_cl[ci]? = some q0) (hw : Cond.classLink X.2.1 idx q0.1 ∈ rz_W) (hd : decode X.1 pc = .ok (.instanceof idx, 3)) (kk : Wk Γ X rm post K cells slots (pc + 3) L (vi 1 :: st) h) : Wk Γ X rm post K cells slots pc L (.ref a :: st) h :=
  fun C H locs ls hO hS hl => va_instE C.1 C.2.1 C.2.2.2.1 (C.2.2.2.2.2.2.2.2.2.1 _ hw _) (rz_cell C.2.2.2.2.2.2.2 hO hS ha hc) hd (kk C H locs ls hO hS hl)
theorem rz_objInit {Γ : rz_G} {X : rz_X} {rm : Room} {post : Option Value → rz_H → Prop} {K : rz_K} {cells slots pc : Nat} {L : List (Nat × Value)} {st : List Value} {h : rz_H} {idx a : Nat} (hw : Cond.methodLink X.2.1 idx objectInit ∈ rz_W) (hi : Cond.instanceMethod objectInit ∈ rz_W) (hcd : Cond.code objectInit ⟨#[0xb1]⟩ 1 none ∈ rz_W) (hs : (st.map fun v => v.category).sum + 12 ≤ rm.locals) (hfr : 1 ≤ rm.frames) (hd : decode X.1 pc = .ok (.invokespecial idx, 3)) (kk : Wk Γ X rm post K cells slots (pc + 3) L st h) : Wk Γ X rm post K cells slots pc L (.ref a :: st) h := by
  intro C H locs ls hO hS hl
  have kk' := kk C H locs ls hO hS hl
  obtain ⟨hx, hb, hml, hown, hr, hlk, hnm, hE⟩ := C
  refine W.objInit hx hb hown (hE.2.2.1 _ hw _) (hE.2.2.1 _ hi _) (hE.2.2.1 _ hcd _) rfl (by rw [hml]; exact hl.1) rfl hd hfr ?_ kk'
  show 2 * 0 + _ + 12 ≤ _
  omega
/-! calls -/
theorem rz_go {Γ : rz_G} {X : rz_X} {rm : Room} {post : Option Value → rz_H → Prop} {K : rz_K} {cells slots pc : Nat} {L : List (Nat × Value)} {rest st0 : List Value} {a : Array Value} {mc ms : Nat} {post' : Option Value → rz_H → Prop} {H : Heap} {locs : List Loc} {ls : Array Slot} (C : rz_C Γ X K) (hl : lv_has ls X.2.2.1 L)
    (hr : va_Run K.2.1 K.1 K.2.2.1 rm K.2.2.2.1 K.2.2.2.2.1 K.2.2.2.2.2.1 K.2.2.2.2.2.2.1 K.2.2.2.2.2.2.2.1 K.2.2.2.2.2.2.2.2 H locs cells slots mc ms (F0 K.2.2.2.2.1 pc ls st0) rest (rz_Q Γ post' a) (rz_A Γ)) (hS : va_S (rz_A Γ) K.2.2.2.1.heap H locs)
    (kk : ∀ (v : Option Value) (h' : rz_H), post' v h' → Wk Γ X rm post K (cells + mc) (slots + ms) (pc + 3) L (v.toList ++ rest) h') :
    W K.2.1 K.1 K.2.2.1 rm K.2.2.2.1 K.2.2.2.2.1 K.2.2.2.2.2.1 K.2.2.2.2.2.2.1 K.2.2.2.2.2.2.2.1 K.2.2.2.2.2.2.2.2 H locs cells slots (MQ K.2.2.2.2.2.2.1 (rz_Q Γ post) K.2.2.2.2.2.1 K.2.2.2.1 rm.cells rm.slots (rz_A Γ)) (F0 K.2.2.2.2.1 pc ls st0) := by
  intro T hT X0
  obtain ⟨v, st₀, t, T', Ls, h0, X', hL, e1, e2, ⟨⟨v', h', hv, hp, ho⟩, hz, hk⟩, sts⟩ := hr T hT X0
  cases hv
  rw [h0] at hz hk
  obtain ⟨t2, a1, b1⟩ := kk v h' hp C T'.heap (locs ++ Ls) ls (by rw [e1]; exact ho)
    ⟨Nat.le_trans hS.1 (by rw [e1]; exact hz), fun q h1 h2 => by rw [e1, hk q (Nat.lt_of_lt_of_le h1 hS.1) h2]; exact hS.2.1 q h1 h2, fun q hq => by
      rcases List.mem_append.mp hq with h | h
      · exact hS.2.2 q h
      · exact hL q h⟩ hl T' rfl X'
  exact ⟨t2, sts t2 a1, b1⟩
theorem rz_blind {Γ : rz_G} {args : List Value} {h : rz_H} : FrameBlind (va_Pc args (fun U => rz_E Γ U ∧ rz_O Γ h U.heap)) := fun a U g mk q => ⟨q.1, rz_E.moved q.2.1 (Nat.le_refl _) (fun _ _ _ => rfl) (State.WarmedH.refl U), q.2.2⟩
theorem rz_pre {Γ : rz_G} {As : List Value} {h : rz_H} {s : State} {H : Heap} {locs : List Loc} (hE : rz_E Γ s) (hO : rz_O Γ h H) (hS : va_S (rz_A Γ) s.heap H locs) : ∀ U : State, U.heap = H → s.WarmedH U.vm → va_Pc As (fun U => rz_E Γ U ∧ rz_O Γ h U.heap) As.toArray U :=
  fun U hU hW => ⟨rfl, rz_E.moved hE (by rw [hU]; exact hS.1) (fun q h1 h2 => by rw [hU]; exact hS.2.1 q h1 h2) hW, by rw [hU]; exact hO⟩
theorem rz_len {y : MethodName} {n : Nat} (hd : (parseMethodDescriptor y.desc).map (fun d => d.parameters.length) = some n) : ∀ sig, parseMethodDescriptor y.desc = some sig → n = sig.parameters.length := fun sig h => by
  rw [h] at hd
  exact (Option.some.inj hd).symm
def rz_mB (y : MethodName) (Xc : rz_X) (n : Nat) : Prop := Cond.initialized y.cls ∈ rz_W ∧ Cond.code y Xc.1 Xc.2.2.1 Xc.2.2.2.1 ∈ rz_W ∧ (y.cls ≠ "java/lang/invoke/MethodHandle" ∧ y.cls ≠ "java/lang/invoke/VarHandle") ∧ (parseMethodDescriptor y.desc).map (fun d => d.parameters.length) = some n
def rz_mL (own : String) (idx : Nat) (y : MethodName) : Prop := Cond.methodLink own idx y ∈ rz_W ∨ ∃ host, (own, idx, y, host) ∈ rz_NM
def rz_mV (own : String) (idx : Nat) (C : String) (y : MethodName) (Xc : rz_X) (n : Nat) : Prop := rz_mL own idx y ∧ Cond.instanceMethod y ∈ rz_W ∧ Cond.selects C y y ∈ rz_W ∧ rz_mB y Xc n
def rz_mS (own : String) (idx : Nat) (y : MethodName) (Xc : rz_X) (n : Nat) : Prop := rz_mL own idx y ∧ Cond.static y ∈ rz_W ∧ rz_mB y Xc n
def rz_mI (own : String) (idx : Nat) (y : MethodName) (Xc : rz_X) (n : Nat) : Prop := rz_mL own idx y ∧ Cond.instanceMethod y ∈ rz_W ∧ y.name = "<init>" ∧ Xc.2.2.2.1 = none ∧ rz_mB y Xc n
theorem rz_callV {Γ : rz_G} {X : rz_X} {rm : Room} {post : Option Value → rz_H → Prop} {K : rz_K} {cells slots pc : Nat} {L : List (Nat × Value)} {st : List Value} {h : rz_H} {Xc : rz_X} {y : MethodName} {rmc : Room} {post' : Option Value → rz_H → Prop} {idx n : Nat} {st0 : List Value} {Cn : String} {As : List Value} {b ci : Nat} {tb : Nat × Nat} {fs : List Value} {q0 : vw_C} (hM : Ct K.1 Γ Xc y rmc (.ref b :: As) h post') (hm : rz_mV X.2.1 idx Cn y Xc n) (ha : h b = some (tb, .inr (ci, fs))) (hc : rz_cl[ci]? = some q0) (hC : q0.1 = Cn) (hn : As.length = n) (hst : st0 = As.reverse ++ .ref b :: st) (hcat : (st.map fun v => v.category).sum ≤ 8) (hR : rmc.frames + 1 ≤ rm.frames ∧ 8 + (Xc.2.2.1 + 11) + rmc.locals ≤ rm.locals) (hf : cells + rmc.cells ≤ rm.cells ∧ slots + rmc.slots ≤ rm.slots) (hd : decode X.1 pc = .ok (.invokevirtual idx, 3))
    (kk : ∀ (v : Option Value) (h' : rz_H), post' v h' → Wk Γ X rm post K (cells + rmc.cells) (slots + rmc.slots) (pc + 3) L (v.toList ++ st) h') : Wk Γ X rm post K cells slots pc L st0 h := by
  obtain ⟨hlink, hin, hse, hini, hcd, hmh, hdl⟩ := hm
  subst hC
  intro C H locs ls hO hS hl
  have C0 := C
  obtain ⟨hx, hb, hml, hown, hr, hlk, hnm, hE⟩ := C
  have hW := hE.2.2.1
  have hcw := hW _ hcd K.2.2.2.2.2.1
  have hws : ∀ w ∈ [Cond.code y Xc.1 Xc.2.2.1 Xc.2.2.2.1], ∀ (a' : Array Value) (U : State), K.2.2.2.1.WarmedH U.vm → w.before a' U = true := fun w hw a' U hWm => by
    rw [List.mem_singleton.mp hw]
    exact word_at hWm (rz_good _ hcd) hcw
  have hp : PreV K.2.2.2.1 H q0.1 b (va_Pc (.ref b :: As) (fun U => rz_E Γ U ∧ rz_O Γ h U.heap)) As := ⟨rz_blind, rz_cell hE hO hS ha hc, rz_pre hE hO hS⟩
  refine rz_go (a := (Value.ref b :: As).toArray) C0 hl ?_ hS kk
  rcases hlink with hlink | ⟨host, hlink⟩
  · exact va_runV (Ts := rz_W) ⟨hx, hb, hml, hown, fun w hw => hW w hw _⟩ hM ⟨⟨rfl, rfl, hR.1, hR.2, hws, List.mem_singleton.mpr rfl, hcw, hW _ hini _, hmh, rz_len hdl, hW _ hlink _⟩, hW _ hin _, hW _ hse _⟩ hp rfl hn hl.1 hst (lv_room hcat) hd hf
  · exact va_runVN (Ts := rz_W) ⟨hx, hb, hml, hown, fun w hw => hW w hw _⟩ hM ⟨⟨⟨rfl, rfl, hR.1, hR.2, hws, List.mem_singleton.mpr rfl⟩, hcw, hW _ hini _, hmh, rz_len hdl, va_Nw.use rfl (hE.2.2.2.1.2.1 _ hlink)⟩, hW _ hin _, hW _ hse _⟩ hp rfl hn hl.1 hst (lv_room hcat) hd hf
theorem rz_callS {Γ : rz_G} {X : rz_X} {rm : Room} {post : Option Value → rz_H → Prop} {K : rz_K} {cells slots pc : Nat} {L : List (Nat × Value)} {st : List Value} {h : rz_H} {Xc : rz_X} {y : MethodName} {rmc : Room} {post' : Option Value → rz_H → Prop} {idx n : Nat} {st0 : List Value} {As : List Value} (hM : Ct K.1 Γ Xc y rmc As h post') (hm : rz_mS X.2.1 idx y Xc n) (hn : As.length = n) (hst : st0 = As.reverse ++ st) (hcat : (st.map fun v => v.category).sum ≤ 8) (hR : rmc.frames + 1 ≤ rm.frames ∧ 8 + (Xc.2.2.1 + 11) + rmc.locals ≤ rm.locals) (hf : cells + rmc.cells ≤ rm.cells ∧ slots + rmc.slots ≤ rm.slots) (hd : decode X.1 pc = .ok (.invokestatic idx, 3))
    (kk : ∀ (v : Option Value) (h' : rz_H), post' v h' → Wk Γ X rm post K (cells + rmc.cells) (slots + rmc.slots) (pc + 3) L (v.toList ++ st) h') : Wk Γ X rm post K cells slots pc L st0 h := by
  obtain ⟨hlink, hin, hini, hcd, hmh, hdl⟩ := hm
  intro C H locs ls hO hS hl
  have C0 := C
  obtain ⟨hx, hb, hml, hown, hr, hlk, hnm, hE⟩ := C
  have hW := hE.2.2.1
  have hcw := hW _ hcd K.2.2.2.2.2.1
  have hws : ∀ w ∈ [Cond.code y Xc.1 Xc.2.2.1 Xc.2.2.2.1], ∀ (a' : Array Value) (U : State), K.2.2.2.1.WarmedH U.vm → w.before a' U = true := fun w hw a' U hWm => by
    rw [List.mem_singleton.mp hw]
    exact word_at hWm (rz_good _ hcd) hcw
  have hp : PreS K.2.2.2.1 H (va_Pc As (fun U => rz_E Γ U ∧ rz_O Γ h U.heap)) As := ⟨rz_blind, rz_pre hE hO hS⟩
  refine rz_go (a := As.toArray) C0 hl ?_ hS kk
  rcases hlink with hlink | ⟨host, hlink⟩
  · exact va_runS (Ts := rz_W) ⟨hx, hb, hml, hown, fun w hw => hW w hw _⟩ hM ⟨⟨rfl, rfl, hR.1, hR.2, hws, List.mem_singleton.mpr rfl, hcw, hW _ hini _, hmh, rz_len hdl, hW _ hlink _⟩, hW _ hin _⟩ hp rfl hn hl.1 hst (lv_room hcat) hd hf
  · exact va_runSN (Ts := rz_W) ⟨hx, hb, hml, hown, fun w hw => hW w hw _⟩ hM ⟨⟨⟨rfl, rfl, hR.1, hR.2, hws, List.mem_singleton.mpr rfl⟩, hcw, hW _ hini _, hmh, rz_len hdl, va_Nw.use rfl (hE.2.2.2.1.2.1 _ hlink)⟩, hW _ hin _, trivial⟩ hp rfl hn hl.1 hst (lv_room hcat) hd hf
theorem rz_callI {Γ : rz_G} {X : rz_X} {rm : Room} {post : Option Value → rz_H → Prop} {K : rz_K} {cells slots pc : Nat} {L : List (Nat × Value)} {st : List Value} {h : rz_H} {Xc : rz_X} {y : MethodName} {rmc : Room} {post' : Option Value → rz_H → Prop} {idx n : Nat} {st0 : List Value} {As : List Value} {b : Nat} (hM : Ct K.1 Γ Xc y rmc (.ref b :: As) h post') (hm : rz_mI X.2.1 idx y Xc n) (hn : As.length = n) (hst : st0 = As.reverse ++ .ref b :: st) (hcat : (st.map fun v => v.category).sum ≤ 8) (hR : rmc.frames + 1 ≤ rm.frames ∧ 8 + (Xc.2.2.1 + 11) + rmc.locals ≤ rm.locals) (hf : cells + rmc.cells ≤ rm.cells ∧ slots + rmc.slots ≤ rm.slots) (hd : decode X.1 pc = .ok (.invokespecial idx, 3))
    (kk : ∀ (v : Option Value) (h' : rz_H), post' v h' → Wk Γ X rm post K (cells + rmc.cells) (slots + rmc.slots) (pc + 3) L (v.toList ++ st) h') : Wk Γ X rm post K cells slots pc L st0 h := by
  obtain ⟨hlink, hin, hy1, hret, hini, hcd, hmh, hdl⟩ := hm
  obtain ⟨c1, o1, n1, r1, m1⟩ := Xc
  dsimp only at hret
  subst hret
  intro C H locs ls hO hS hl
  have C0 := C
  obtain ⟨hx, hb, hml, hown, hr, hlk, hnm, hE⟩ := C
  have hW := hE.2.2.1
  have hcw := hW _ hcd K.2.2.2.2.2.1
  have hws : ∀ w ∈ [Cond.code y c1 n1 none], ∀ (a' : Array Value) (U : State), K.2.2.2.1.WarmedH U.vm → w.before a' U = true := fun w hw a' U hWm => by
    rw [List.mem_singleton.mp hw]
    exact word_at hWm (rz_good _ hcd) hcw
  have hp : PreS K.2.2.2.1 H (va_Pc (.ref b :: As) (fun U => rz_E Γ U ∧ rz_O Γ h U.heap)) (.ref b :: As) := ⟨rz_blind, rz_pre hE hO hS⟩
  refine rz_go (a := (Value.ref b :: As).toArray) C0 hl ?_ hS kk
  rcases hlink with hlink | ⟨host, hlink⟩
  · exact va_runI (Ts := rz_W) ⟨hx, hb, hml, hown, fun w hw => hW w hw _⟩ hM ⟨⟨rfl, rfl, hR.1, hR.2, hws, List.mem_singleton.mpr rfl, hcw, hW _ hini _, hmh, rz_len hdl, hW _ hlink _⟩, hy1, hW _ hin _⟩ hp rfl hn hl.1 hst (lv_room hcat) hd hf
  · exact va_runIN (Ts := rz_W) ⟨hx, hb, hml, hown, fun w hw => hW w hw _⟩ hM ⟨⟨⟨rfl, rfl, hR.1, hR.2, hws, List.mem_singleton.mpr rfl⟩, hcw, hW _ hini _, hmh, rz_len hdl, va_Nw.use rfl (hE.2.2.2.1.2.1 _ hlink)⟩, hy1, hW _ hin _⟩ hp rfl hn hl.1 hst (lv_room hcat) hd hf
end
