section
-- ===== PART A: goes FIRST, ahead of the names: the tables' words, and 'selects' of the private methods out of them =====
/-- a private method of a class that the tables say can be made, by its rows of tables_1 -/
def lw_okq (q : MethodName × Nat) : Prop := (q.1.cls ≠ "java/lang/invoke/MethodHandle" ∧ q.1.cls ≠ "java/lang/invoke/VarHandle") ∧ Cond.instantiable q.1.cls q.2 ∈ tables_1 ∧ Cond.privateMethod q.1 ∈ tables_1 ∧ Cond.instanceMethod q.1 ∈ tables_1
theorem lw_p0 : lw_okq (⟨"ReleaseSolver$Version", "readItem", "(ILjava/lang/String;I)V"⟩, 2) := ⟨⟨by decide +kernel, by decide +kernel⟩, List.mem_of_getElem? (i := 132) (by decide +kernel), List.mem_of_getElem? (i := 204) (by decide +kernel), List.mem_of_getElem? (i := 205) (by decide +kernel)⟩
theorem lw_p1 : lw_okq (⟨"ReleaseSolver", "append", "(I)V"⟩, 8) := ⟨⟨by decide +kernel, by decide +kernel⟩, List.mem_of_getElem? (i := 26) (by decide +kernel), List.mem_of_getElem? (i := 389) (by decide +kernel), List.mem_of_getElem? (i := 390) (by decide +kernel)⟩
theorem lw_p2 : lw_okq (⟨"ReleaseSolver", "takeText", "()Ljava/lang/String;"⟩, 8) := ⟨⟨by decide +kernel, by decide +kernel⟩, List.mem_of_getElem? (i := 26) (by decide +kernel), List.mem_of_getElem? (i := 477) (by decide +kernel), List.mem_of_getElem? (i := 478) (by decide +kernel)⟩
theorem lw_p3 : lw_okq (⟨"java/util/ArrayList", "add", "(Ljava/lang/Object;[Ljava/lang/Object;I)V"⟩, 3) := ⟨⟨by decide +kernel, by decide +kernel⟩, List.mem_of_getElem? (i := 69) (by decide +kernel), List.mem_of_getElem? (i := 576) (by decide +kernel), List.mem_of_getElem? (i := 577) (by decide +kernel)⟩
theorem lw_p4 : lw_okq (⟨"java/util/ArrayList", "grow", "()[Ljava/lang/Object;"⟩, 3) := ⟨⟨by decide +kernel, by decide +kernel⟩, List.mem_of_getElem? (i := 69) (by decide +kernel), List.mem_of_getElem? (i := 580) (by decide +kernel), List.mem_of_getElem? (i := 581) (by decide +kernel)⟩
theorem lw_p5 : lw_okq (⟨"java/util/ArrayList", "grow", "(I)[Ljava/lang/Object;"⟩, 3) := ⟨⟨by decide +kernel, by decide +kernel⟩, List.mem_of_getElem? (i := 69) (by decide +kernel), List.mem_of_getElem? (i := 584) (by decide +kernel), List.mem_of_getElem? (i := 585) (by decide +kernel)⟩
theorem lw_p6 : lw_okq (⟨"ReleaseSolver", "releaseAt", "(II)LReleaseSolver$Release;"⟩, 8) := ⟨⟨by decide +kernel, by decide +kernel⟩, List.mem_of_getElem? (i := 26) (by decide +kernel), List.mem_of_getElem? (i := 620) (by decide +kernel), List.mem_of_getElem? (i := 621) (by decide +kernel)⟩
theorem lw_p7 : lw_okq (⟨"java/util/ArrayList", "fastRemove", "([Ljava/lang/Object;I)V"⟩, 3) := ⟨⟨by decide +kernel, by decide +kernel⟩, List.mem_of_getElem? (i := 69) (by decide +kernel), List.mem_of_getElem? (i := 778) (by decide +kernel), List.mem_of_getElem? (i := 779) (by decide +kernel)⟩
theorem lw_p8 : lw_okq (⟨"ReleaseSolver$Search", "prepareOrder", "(ILReleaseSolver$Plugin;)V"⟩, 9) := ⟨⟨by decide +kernel, by decide +kernel⟩, List.mem_of_getElem? (i := 95) (by decide +kernel), List.mem_of_getElem? (i := 814) (by decide +kernel), List.mem_of_getElem? (i := 815) (by decide +kernel)⟩
theorem lw_p9 : lw_okq (⟨"ReleaseSolver$Search", "prepareNeeds", "([LReleaseSolver$Plugin;II)V"⟩, 9) := ⟨⟨by decide +kernel, by decide +kernel⟩, List.mem_of_getElem? (i := 95) (by decide +kernel), List.mem_of_getElem? (i := 823) (by decide +kernel), List.mem_of_getElem? (i := 824) (by decide +kernel)⟩
theorem lw_p10 : lw_okq (⟨"ReleaseSolver$Search", "keepOnly", "(IIII)V"⟩, 9) := ⟨⟨by decide +kernel, by decide +kernel⟩, List.mem_of_getElem? (i := 95) (by decide +kernel), List.mem_of_getElem? (i := 839) (by decide +kernel), List.mem_of_getElem? (i := 840) (by decide +kernel)⟩
theorem lw_p11 : lw_okq (⟨"ReleaseSolver$Search", "prepareUsable", "(ILReleaseSolver$Plugin;LReleaseSolver$Version;)V"⟩, 9) := ⟨⟨by decide +kernel, by decide +kernel⟩, List.mem_of_getElem? (i := 95) (by decide +kernel), List.mem_of_getElem? (i := 846) (by decide +kernel), List.mem_of_getElem? (i := 847) (by decide +kernel)⟩
theorem lw_p12 : lw_okq (⟨"ReleaseSolver$Search", "prepareAsks", "([LReleaseSolver$Plugin;Ljava/util/ArrayList;)V"⟩, 9) := ⟨⟨by decide +kernel, by decide +kernel⟩, List.mem_of_getElem? (i := 95) (by decide +kernel), List.mem_of_getElem? (i := 855) (by decide +kernel), List.mem_of_getElem? (i := 856) (by decide +kernel)⟩
theorem lw_p13 : lw_okq (⟨"ReleaseSolver$Search", "settle", "(I)Z"⟩, 9) := ⟨⟨by decide +kernel, by decide +kernel⟩, List.mem_of_getElem? (i := 95) (by decide +kernel), List.mem_of_getElem? (i := 865) (by decide +kernel), List.mem_of_getElem? (i := 866) (by decide +kernel)⟩
theorem lw_p14 : lw_okq (⟨"ReleaseSolver$Search", "tryOption", "(II)Z"⟩, 9) := ⟨⟨by decide +kernel, by decide +kernel⟩, List.mem_of_getElem? (i := 95) (by decide +kernel), List.mem_of_getElem? (i := 869) (by decide +kernel), List.mem_of_getElem? (i := 870) (by decide +kernel)⟩
theorem lw_p15 : lw_okq (⟨"ReleaseSolver$Search", "allMayBeLedTo", "([I)Z"⟩, 9) := ⟨⟨by decide +kernel, by decide +kernel⟩, List.mem_of_getElem? (i := 95) (by decide +kernel), List.mem_of_getElem? (i := 873) (by decide +kernel), List.mem_of_getElem? (i := 874) (by decide +kernel)⟩
def lw_privs_1 : List (MethodName × Nat) := [(⟨"ReleaseSolver$Version", "readItem", "(ILjava/lang/String;I)V"⟩, 2), (⟨"ReleaseSolver", "append", "(I)V"⟩, 8), (⟨"ReleaseSolver", "takeText", "()Ljava/lang/String;"⟩, 8), (⟨"java/util/ArrayList", "add", "(Ljava/lang/Object;[Ljava/lang/Object;I)V"⟩, 3), (⟨"java/util/ArrayList", "grow", "()[Ljava/lang/Object;"⟩, 3), (⟨"java/util/ArrayList", "grow", "(I)[Ljava/lang/Object;"⟩, 3), (⟨"ReleaseSolver", "releaseAt", "(II)LReleaseSolver$Release;"⟩, 8), (⟨"java/util/ArrayList", "fastRemove", "([Ljava/lang/Object;I)V"⟩, 3), (⟨"ReleaseSolver$Search", "prepareOrder", "(ILReleaseSolver$Plugin;)V"⟩, 9), (⟨"ReleaseSolver$Search", "prepareNeeds", "([LReleaseSolver$Plugin;II)V"⟩, 9), (⟨"ReleaseSolver$Search", "keepOnly", "(IIII)V"⟩, 9), (⟨"ReleaseSolver$Search", "prepareUsable", "(ILReleaseSolver$Plugin;LReleaseSolver$Version;)V"⟩, 9), (⟨"ReleaseSolver$Search", "prepareAsks", "([LReleaseSolver$Plugin;Ljava/util/ArrayList;)V"⟩, 9), (⟨"ReleaseSolver$Search", "settle", "(I)Z"⟩, 9), (⟨"ReleaseSolver$Search", "tryOption", "(II)Z"⟩, 9), (⟨"ReleaseSolver$Search", "allMayBeLedTo", "([I)Z"⟩, 9)]
theorem lw_r1 : ∀ q ∈ lw_privs_1, lw_okq q := List.forall_mem_cons.mpr ⟨lw_p0, List.forall_mem_cons.mpr ⟨lw_p1, List.forall_mem_cons.mpr ⟨lw_p2, List.forall_mem_cons.mpr ⟨lw_p3, List.forall_mem_cons.mpr ⟨lw_p4, List.forall_mem_cons.mpr ⟨lw_p5, List.forall_mem_cons.mpr ⟨lw_p6, List.forall_mem_cons.mpr ⟨lw_p7, List.forall_mem_cons.mpr ⟨lw_p8, List.forall_mem_cons.mpr ⟨lw_p9, List.forall_mem_cons.mpr ⟨lw_p10, List.forall_mem_cons.mpr ⟨lw_p11, List.forall_mem_cons.mpr ⟨lw_p12, List.forall_mem_cons.mpr ⟨lw_p13, List.forall_mem_cons.mpr ⟨lw_p14, List.forall_mem_cons.mpr ⟨lw_p15, fun _ h => absurd h List.not_mem_nil⟩⟩⟩⟩⟩⟩⟩⟩⟩⟩⟩⟩⟩⟩⟩⟩
theorem lw_p16 : lw_okq (⟨"ReleaseSolver$Search", "leadsFrom", "(I[I)I"⟩, 9) := ⟨⟨by decide +kernel, by decide +kernel⟩, List.mem_of_getElem? (i := 95) (by decide +kernel), List.mem_of_getElem? (i := 877) (by decide +kernel), List.mem_of_getElem? (i := 878) (by decide +kernel)⟩
theorem lw_p17 : lw_okq (⟨"ReleaseSolver", "keepSelection", "()I"⟩, 8) := ⟨⟨by decide +kernel, by decide +kernel⟩, List.mem_of_getElem? (i := 26) (by decide +kernel), List.mem_of_getElem? (i := 881) (by decide +kernel), List.mem_of_getElem? (i := 882) (by decide +kernel)⟩
theorem lw_p18 : lw_okq (⟨"ReleaseSolver", "blameAmong", "(I)I"⟩, 8) := ⟨⟨by decide +kernel, by decide +kernel⟩, List.mem_of_getElem? (i := 26) (by decide +kernel), List.mem_of_getElem? (i := 889) (by decide +kernel), List.mem_of_getElem? (i := 890) (by decide +kernel)⟩
theorem lw_p19 : lw_okq (⟨"ReleaseSolver", "isMet", "(LReleaseSolver$Ask;)Z"⟩, 8) := ⟨⟨by decide +kernel, by decide +kernel⟩, List.mem_of_getElem? (i := 26) (by decide +kernel), List.mem_of_getElem? (i := 907) (by decide +kernel), List.mem_of_getElem? (i := 908) (by decide +kernel)⟩
theorem lw_p20 : lw_okq (⟨"ReleaseSolver", "countReleases", "()I"⟩, 8) := ⟨⟨by decide +kernel, by decide +kernel⟩, List.mem_of_getElem? (i := 26) (by decide +kernel), List.mem_of_getElem? (i := 915) (by decide +kernel), List.mem_of_getElem? (i := 916) (by decide +kernel)⟩
theorem lw_p21 : lw_okq (⟨"ReleaseSolver", "countWithdrawn", "()I"⟩, 8) := ⟨⟨by decide +kernel, by decide +kernel⟩, List.mem_of_getElem? (i := 26) (by decide +kernel), List.mem_of_getElem? (i := 920) (by decide +kernel), List.mem_of_getElem? (i := 921) (by decide +kernel)⟩
theorem lw_p22 : lw_okq (⟨"ReleaseSolver", "countNeeds", "()I"⟩, 8) := ⟨⟨by decide +kernel, by decide +kernel⟩, List.mem_of_getElem? (i := 26) (by decide +kernel), List.mem_of_getElem? (i := 928) (by decide +kernel), List.mem_of_getElem? (i := 929) (by decide +kernel)⟩
theorem lw_p23 : lw_okq (⟨"ReleaseSolverModel", "put", "(I)I"⟩, 20) := ⟨⟨by decide +kernel, by decide +kernel⟩, List.mem_of_getElem? (i := 936) (by decide +kernel), List.mem_of_getElem? (i := 1020) (by decide +kernel), List.mem_of_getElem? (i := 1021) (by decide +kernel)⟩
theorem lw_p24 : lw_okq (⟨"ReleaseSolverModel", "version", "(III)Z"⟩, 20) := ⟨⟨by decide +kernel, by decide +kernel⟩, List.mem_of_getElem? (i := 936) (by decide +kernel), List.mem_of_getElem? (i := 1032) (by decide +kernel), List.mem_of_getElem? (i := 1033) (by decide +kernel)⟩
theorem lw_p25 : lw_okq (⟨"ReleaseSolverModel", "at", "(II)I"⟩, 20) := ⟨⟨by decide +kernel, by decide +kernel⟩, List.mem_of_getElem? (i := 936) (by decide +kernel), List.mem_of_getElem? (i := 1036) (by decide +kernel), List.mem_of_getElem? (i := 1037) (by decide +kernel)⟩
theorem lw_p26 : lw_okq (⟨"ReleaseSolverModel", "used", "(I)I"⟩, 20) := ⟨⟨by decide +kernel, by decide +kernel⟩, List.mem_of_getElem? (i := 936) (by decide +kernel), List.mem_of_getElem? (i := 1040) (by decide +kernel), List.mem_of_getElem? (i := 1041) (by decide +kernel)⟩
theorem lw_p27 : lw_okq (⟨"ReleaseSolverModel", "ordered", "(IIII)I"⟩, 20) := ⟨⟨by decide +kernel, by decide +kernel⟩, List.mem_of_getElem? (i := 936) (by decide +kernel), List.mem_of_getElem? (i := 1044) (by decide +kernel), List.mem_of_getElem? (i := 1045) (by decide +kernel)⟩
theorem lw_p28 : lw_okq (⟨"ReleaseSolverModel", "item", "(III)Z"⟩, 20) := ⟨⟨by decide +kernel, by decide +kernel⟩, List.mem_of_getElem? (i := 936) (by decide +kernel), List.mem_of_getElem? (i := 1048) (by decide +kernel), List.mem_of_getElem? (i := 1049) (by decide +kernel)⟩
theorem lw_p29 : lw_okq (⟨"ReleaseSolverModel", "rankOf", "(IZ)I"⟩, 20) := ⟨⟨by decide +kernel, by decide +kernel⟩, List.mem_of_getElem? (i := 936) (by decide +kernel), List.mem_of_getElem? (i := 1052) (by decide +kernel), List.mem_of_getElem? (i := 1053) (by decide +kernel)⟩
theorem lw_p30 : lw_okq (⟨"ReleaseSolverModel", "wordRank", "(III)I"⟩, 20) := ⟨⟨by decide +kernel, by decide +kernel⟩, List.mem_of_getElem? (i := 936) (by decide +kernel), List.mem_of_getElem? (i := 1056) (by decide +kernel), List.mem_of_getElem? (i := 1057) (by decide +kernel)⟩
theorem lw_p31 : lw_okq (⟨"ReleaseSolverModel", "word", "(III)J"⟩, 20) := ⟨⟨by decide +kernel, by decide +kernel⟩, List.mem_of_getElem? (i := 936) (by decide +kernel), List.mem_of_getElem? (i := 1060) (by decide +kernel), List.mem_of_getElem? (i := 1061) (by decide +kernel)⟩
def lw_privs_2 : List (MethodName × Nat) := [(⟨"ReleaseSolver$Search", "leadsFrom", "(I[I)I"⟩, 9), (⟨"ReleaseSolver", "keepSelection", "()I"⟩, 8), (⟨"ReleaseSolver", "blameAmong", "(I)I"⟩, 8), (⟨"ReleaseSolver", "isMet", "(LReleaseSolver$Ask;)Z"⟩, 8), (⟨"ReleaseSolver", "countReleases", "()I"⟩, 8), (⟨"ReleaseSolver", "countWithdrawn", "()I"⟩, 8), (⟨"ReleaseSolver", "countNeeds", "()I"⟩, 8), (⟨"ReleaseSolverModel", "put", "(I)I"⟩, 20), (⟨"ReleaseSolverModel", "version", "(III)Z"⟩, 20), (⟨"ReleaseSolverModel", "at", "(II)I"⟩, 20), (⟨"ReleaseSolverModel", "used", "(I)I"⟩, 20), (⟨"ReleaseSolverModel", "ordered", "(IIII)I"⟩, 20), (⟨"ReleaseSolverModel", "item", "(III)Z"⟩, 20), (⟨"ReleaseSolverModel", "rankOf", "(IZ)I"⟩, 20), (⟨"ReleaseSolverModel", "wordRank", "(III)I"⟩, 20), (⟨"ReleaseSolverModel", "word", "(III)J"⟩, 20)]
theorem lw_r2 : ∀ q ∈ lw_privs_2, lw_okq q := List.forall_mem_cons.mpr ⟨lw_p16, List.forall_mem_cons.mpr ⟨lw_p17, List.forall_mem_cons.mpr ⟨lw_p18, List.forall_mem_cons.mpr ⟨lw_p19, List.forall_mem_cons.mpr ⟨lw_p20, List.forall_mem_cons.mpr ⟨lw_p21, List.forall_mem_cons.mpr ⟨lw_p22, List.forall_mem_cons.mpr ⟨lw_p23, List.forall_mem_cons.mpr ⟨lw_p24, List.forall_mem_cons.mpr ⟨lw_p25, List.forall_mem_cons.mpr ⟨lw_p26, List.forall_mem_cons.mpr ⟨lw_p27, List.forall_mem_cons.mpr ⟨lw_p28, List.forall_mem_cons.mpr ⟨lw_p29, List.forall_mem_cons.mpr ⟨lw_p30, List.forall_mem_cons.mpr ⟨lw_p31, fun _ h => absurd h List.not_mem_nil⟩⟩⟩⟩⟩⟩⟩⟩⟩⟩⟩⟩⟩⟩⟩⟩
theorem lw_p32 : lw_okq (⟨"ReleaseSolverModel", "words", "(IIIIII)I"⟩, 20) := ⟨⟨by decide +kernel, by decide +kernel⟩, List.mem_of_getElem? (i := 936) (by decide +kernel), List.mem_of_getElem? (i := 1081) (by decide +kernel), List.mem_of_getElem? (i := 1082) (by decide +kernel)⟩
theorem lw_p33 : lw_okq (⟨"ReleaseSolverModel", "number", "(III)J"⟩, 20) := ⟨⟨by decide +kernel, by decide +kernel⟩, List.mem_of_getElem? (i := 936) (by decide +kernel), List.mem_of_getElem? (i := 1085) (by decide +kernel), List.mem_of_getElem? (i := 1086) (by decide +kernel)⟩
theorem lw_p34 : lw_okq (⟨"ReleaseSolverModel", "keep", "(I)V"⟩, 20) := ⟨⟨by decide +kernel, by decide +kernel⟩, List.mem_of_getElem? (i := 936) (by decide +kernel), List.mem_of_getElem? (i := 1091) (by decide +kernel), List.mem_of_getElem? (i := 1092) (by decide +kernel)⟩
theorem lw_p35 : lw_okq (⟨"ReleaseSolverModel", "none", "(II)Z"⟩, 20) := ⟨⟨by decide +kernel, by decide +kernel⟩, List.mem_of_getElem? (i := 936) (by decide +kernel), List.mem_of_getElem? (i := 1099) (by decide +kernel), List.mem_of_getElem? (i := 1100) (by decide +kernel)⟩
theorem lw_p36 : lw_okq (⟨"ReleaseSolverModel", "range", "(I)Z"⟩, 20) := ⟨⟨by decide +kernel, by decide +kernel⟩, List.mem_of_getElem? (i := 936) (by decide +kernel), List.mem_of_getElem? (i := 1103) (by decide +kernel), List.mem_of_getElem? (i := 1104) (by decide +kernel)⟩
theorem lw_p37 : lw_okq (⟨"ReleaseSolverModel", "comma", "(I)I"⟩, 20) := ⟨⟨by decide +kernel, by decide +kernel⟩, List.mem_of_getElem? (i := 936) (by decide +kernel), List.mem_of_getElem? (i := 1107) (by decide +kernel), List.mem_of_getElem? (i := 1108) (by decide +kernel)⟩
theorem lw_p38 : lw_okq (⟨"ReleaseSolverModel", "compareTexts", "(II)I"⟩, 20) := ⟨⟨by decide +kernel, by decide +kernel⟩, List.mem_of_getElem? (i := 936) (by decide +kernel), List.mem_of_getElem? (i := 1135) (by decide +kernel), List.mem_of_getElem? (i := 1136) (by decide +kernel)⟩
theorem lw_p39 : lw_okq (⟨"ReleaseSolverModel", "inside", "(II)Z"⟩, 20) := ⟨⟨by decide +kernel, by decide +kernel⟩, List.mem_of_getElem? (i := 936) (by decide +kernel), List.mem_of_getElem? (i := 1147) (by decide +kernel), List.mem_of_getElem? (i := 1148) (by decide +kernel)⟩
theorem lw_p40 : lw_okq (⟨"ReleaseSolverModel", "search", "()Z"⟩, 20) := ⟨⟨by decide +kernel, by decide +kernel⟩, List.mem_of_getElem? (i := 936) (by decide +kernel), List.mem_of_getElem? (i := 1155) (by decide +kernel), List.mem_of_getElem? (i := 1156) (by decide +kernel)⟩
theorem lw_p41 : lw_okq (⟨"ReleaseSolverModel", "ranked", "(II)I"⟩, 20) := ⟨⟨by decide +kernel, by decide +kernel⟩, List.mem_of_getElem? (i := 936) (by decide +kernel), List.mem_of_getElem? (i := 1159) (by decide +kernel), List.mem_of_getElem? (i := 1160) (by decide +kernel)⟩
theorem lw_p42 : lw_okq (⟨"ReleaseSolverModel", "good", "()Z"⟩, 20) := ⟨⟨by decide +kernel, by decide +kernel⟩, List.mem_of_getElem? (i := 936) (by decide +kernel), List.mem_of_getElem? (i := 1163) (by decide +kernel), List.mem_of_getElem? (i := 1164) (by decide +kernel)⟩
theorem lw_p43 : lw_okq (⟨"ReleaseSolverModel", "meets", "(II)Z"⟩, 20) := ⟨⟨by decide +kernel, by decide +kernel⟩, List.mem_of_getElem? (i := 936) (by decide +kernel), List.mem_of_getElem? (i := 1167) (by decide +kernel), List.mem_of_getElem? (i := 1168) (by decide +kernel)⟩
theorem lw_p44 : lw_okq (⟨"ReleaseSolverModel", "slot", "(I)I"⟩, 20) := ⟨⟨by decide +kernel, by decide +kernel⟩, List.mem_of_getElem? (i := 936) (by decide +kernel), List.mem_of_getElem? (i := 1171) (by decide +kernel), List.mem_of_getElem? (i := 1172) (by decide +kernel)⟩
theorem lw_p45 : lw_okq (⟨"ReleaseSolverModel", "releaseGood", "(I)Z"⟩, 20) := ⟨⟨by decide +kernel, by decide +kernel⟩, List.mem_of_getElem? (i := 936) (by decide +kernel), List.mem_of_getElem? (i := 1175) (by decide +kernel), List.mem_of_getElem? (i := 1176) (by decide +kernel)⟩
theorem lw_p46 : lw_okq (⟨"ReleaseSolverModel", "allLed", "()Z"⟩, 20) := ⟨⟨by decide +kernel, by decide +kernel⟩, List.mem_of_getElem? (i := 936) (by decide +kernel), List.mem_of_getElem? (i := 1179) (by decide +kernel), List.mem_of_getElem? (i := 1180) (by decide +kernel)⟩
theorem lw_p47 : lw_okq (⟨"ReleaseSolverModel", "findBlame", "()V"⟩, 20) := ⟨⟨by decide +kernel, by decide +kernel⟩, List.mem_of_getElem? (i := 936) (by decide +kernel), List.mem_of_getElem? (i := 1183) (by decide +kernel), List.mem_of_getElem? (i := 1184) (by decide +kernel)⟩
def lw_privs_3 : List (MethodName × Nat) := [(⟨"ReleaseSolverModel", "words", "(IIIIII)I"⟩, 20), (⟨"ReleaseSolverModel", "number", "(III)J"⟩, 20), (⟨"ReleaseSolverModel", "keep", "(I)V"⟩, 20), (⟨"ReleaseSolverModel", "none", "(II)Z"⟩, 20), (⟨"ReleaseSolverModel", "range", "(I)Z"⟩, 20), (⟨"ReleaseSolverModel", "comma", "(I)I"⟩, 20), (⟨"ReleaseSolverModel", "compareTexts", "(II)I"⟩, 20), (⟨"ReleaseSolverModel", "inside", "(II)Z"⟩, 20), (⟨"ReleaseSolverModel", "search", "()Z"⟩, 20), (⟨"ReleaseSolverModel", "ranked", "(II)I"⟩, 20), (⟨"ReleaseSolverModel", "good", "()Z"⟩, 20), (⟨"ReleaseSolverModel", "meets", "(II)Z"⟩, 20), (⟨"ReleaseSolverModel", "slot", "(I)I"⟩, 20), (⟨"ReleaseSolverModel", "releaseGood", "(I)Z"⟩, 20), (⟨"ReleaseSolverModel", "allLed", "()Z"⟩, 20), (⟨"ReleaseSolverModel", "findBlame", "()V"⟩, 20)]
theorem lw_r3 : ∀ q ∈ lw_privs_3, lw_okq q := List.forall_mem_cons.mpr ⟨lw_p32, List.forall_mem_cons.mpr ⟨lw_p33, List.forall_mem_cons.mpr ⟨lw_p34, List.forall_mem_cons.mpr ⟨lw_p35, List.forall_mem_cons.mpr ⟨lw_p36, List.forall_mem_cons.mpr ⟨lw_p37, List.forall_mem_cons.mpr ⟨lw_p38, List.forall_mem_cons.mpr ⟨lw_p39, List.forall_mem_cons.mpr ⟨lw_p40, List.forall_mem_cons.mpr ⟨lw_p41, List.forall_mem_cons.mpr ⟨lw_p42, List.forall_mem_cons.mpr ⟨lw_p43, List.forall_mem_cons.mpr ⟨lw_p44, List.forall_mem_cons.mpr ⟨lw_p45, List.forall_mem_cons.mpr ⟨lw_p46, List.forall_mem_cons.mpr ⟨lw_p47, fun _ h => absurd h List.not_mem_nil⟩⟩⟩⟩⟩⟩⟩⟩⟩⟩⟩⟩⟩⟩⟩⟩
def lw_privs : List (MethodName × Nat) := lw_privs_1 ++ (lw_privs_2 ++ (lw_privs_3))
def lw_tbl : List Cond := k2_sels lw_privs ++ tables_1
theorem lw_privs_ok : ∀ q ∈ lw_privs, lw_okq q := by
  show ∀ q ∈ lw_privs_1 ++ (lw_privs_2 ++ (lw_privs_3)), lw_okq q
  exact List.forall_mem_append.mpr ⟨lw_r1, List.forall_mem_append.mpr ⟨lw_r2, lw_r3⟩⟩
end
section
/-! NAMES: classes, fields, words, methods (by program) -/
def k_T0 : u_T := fun k => match k with
  | 0 => ("java/lang/String", "value", "[B", true)
  | 1 => ("java/lang/String", "coder", "B", true)
  | 2 => ("java/lang/String", "hash", "I", false)
  | _ => ("java/lang/String", "hashIsZero", "Z", false)
def k_y0 : Nat → FieldType := fun k => match k with
  | 0 => .array (.byte)
  | 1 => .byte
  | 2 => .int
  | _ => .boolean
def k_T1 : u_T := fun k => match k with
  | 0 => ("java/lang/AbstractStringBuilder", "value", "[B", false)
  | 1 => ("java/lang/AbstractStringBuilder", "coder", "B", false)
  | 2 => ("java/lang/AbstractStringBuilder", "maybeLatin1", "Z", false)
  | _ => ("java/lang/AbstractStringBuilder", "count", "I", false)
def k_y1 : Nat → FieldType := fun k => match k with
  | 0 => .array (.byte)
  | 1 => .byte
  | 2 => .boolean
  | _ => .int
def k_T2 : u_T := fun k => match k with
  | 0 => ("java/util/ArrayList", "elementData", "[Ljava/lang/Object;", false)
  | 1 => ("java/util/ArrayList", "size", "I", false)
  | _ => ("java/util/AbstractList", "modCount", "I", false)
def k_y2 : Nat → FieldType := fun k => match k with
  | 0 => .array (.object "java/lang/Object")
  | 1 => .int
  | _ => .int
def k_T3 : u_T := fun k => match k with
  | 0 => ("ReleaseSolverModel", "text", "[I", true)
  | 1 => ("ReleaseSolverModel", "length", "[I", true)
  | 2 => ("ReleaseSolverModel", "releases", "[I", true)
  | 3 => ("ReleaseSolverModel", "withdrawn", "[Z", true)
  | 4 => ("ReleaseSolverModel", "hosted", "[Z", true)
  | 5 => ("ReleaseSolverModel", "needs", "[I", true)
  | 6 => ("ReleaseSolverModel", "needed", "[I", true)
  | 7 => ("ReleaseSolverModel", "optional", "[Z", true)
  | 8 => ("ReleaseSolverModel", "asks", "I", false)
  | 9 => ("ReleaseSolverModel", "asked", "[I", true)
  | 10 => ("ReleaseSolverModel", "counts", "[Z", true)
  | 11 => ("ReleaseSolverModel", "now", "[I", true)
  | 12 => ("ReleaseSolverModel", "solved", "Z", false)
  | 13 => ("ReleaseSolverModel", "failed", "Z", false)
  | 14 => ("ReleaseSolverModel", "chosen", "[I", true)
  | 15 => ("ReleaseSolverModel", "blame", "[Z", true)
  | 16 => ("ReleaseSolverModel", "led", "[Z", true)
  | 17 => ("ReleaseSolverModel", "from", "I", false)
  | 18 => ("ReleaseSolverModel", "end", "I", false)
  | _ => ("ReleaseSolverModel", "worth", "[I", true)
def k_y3 : Nat → FieldType := fun k => match k with
  | 0 => .array (.int)
  | 1 => .array (.int)
  | 2 => .array (.int)
  | 3 => .array (.boolean)
  | 4 => .array (.boolean)
  | 5 => .array (.int)
  | 6 => .array (.int)
  | 7 => .array (.boolean)
  | 8 => .int
  | 9 => .array (.int)
  | 10 => .array (.boolean)
  | 11 => .array (.int)
  | 12 => .boolean
  | 13 => .boolean
  | 14 => .array (.int)
  | 15 => .array (.boolean)
  | 16 => .array (.boolean)
  | 17 => .int
  | 18 => .int
  | _ => .array (.int)
def k_T4 : u_T := fun k => match k with
  | 0 => ("ReleaseSolver$Search", "order", "[[I", true)
  | 1 => ("ReleaseSolver$Search", "usable", "[I", true)
  | 2 => ("ReleaseSolver$Search", "beside", "[[I", true)
  | 3 => ("ReleaseSolver$Search", "leads", "[I", true)
  | 4 => ("ReleaseSolver$Search", "askPlugins", "[I", true)
  | 5 => ("ReleaseSolver$Search", "askOptions", "[I", true)
  | 6 => ("ReleaseSolver$Search", "askCount", "I", false)
  | 7 => ("ReleaseSolver$Search", "asked", "I", false)
  | _ => ("ReleaseSolver$Search", "left", "[[I", true)
def k_y4 : Nat → FieldType := fun k => match k with
  | 0 => .array (.array (.int))
  | 1 => .array (.int)
  | 2 => .array (.array (.int))
  | 3 => .array (.int)
  | 4 => .array (.int)
  | 5 => .array (.int)
  | 6 => .int
  | 7 => .int
  | _ => .array (.array (.int))
def k_T5 : u_T := fun k => match k with
  | 0 => ("ReleaseSolver$Version", "ranks", "[I", true)
  | _ => ("ReleaseSolver$Version", "places", "[J", true)
def k_y5 : Nat → FieldType := fun k => match k with
  | 0 => .array (.int)
  | _ => .array (.long)
def k_T6 : u_T := fun k => match k with
  | 0 => ("ReleaseSolver$Plugin", "releases", "Ljava/util/ArrayList;", true)
  | _ => ("ReleaseSolver$Plugin", "falling", "[I", true)
def k_y6 : Nat → FieldType := fun k => match k with
  | 0 => .object "java/util/ArrayList"
  | _ => .array (.int)
def k_T7 : u_T := fun k => match k with
  | 0 => ("ReleaseSolver", "text", "Ljava/lang/StringBuilder;", true)
  | 1 => ("ReleaseSolver", "plugins", "[LReleaseSolver$Plugin;", true)
  | 2 => ("ReleaseSolver", "asks", "Ljava/util/ArrayList;", true)
  | 3 => ("ReleaseSolver", "search", "LReleaseSolver$Search;", true)
  | 4 => ("ReleaseSolver", "hostVersion", "LReleaseSolver$Version;", false)
  | 5 => ("ReleaseSolver", "solved", "Z", false)
  | 6 => ("ReleaseSolver", "selection", "[I", true)
  | _ => ("ReleaseSolver", "blame", "I", false)
def k_y7 : Nat → FieldType := fun k => match k with
  | 0 => .object "java/lang/StringBuilder"
  | 1 => .array (.object "ReleaseSolver$Plugin")
  | 2 => .object "java/util/ArrayList"
  | 3 => .object "ReleaseSolver$Search"
  | 4 => .object "ReleaseSolver$Version"
  | 5 => .boolean
  | 6 => .array (.int)
  | _ => .int
def k_T8 : u_T := fun k => match k with
  | 0 => ("ReleaseSolver$Release", "version", "LReleaseSolver$Version;", true)
  | 1 => ("ReleaseSolver$Release", "needs", "Ljava/util/ArrayList;", true)
  | 2 => ("ReleaseSolver$Release", "hostRange", "LReleaseSolver$Range;", false)
  | _ => ("ReleaseSolver$Release", "withdrawn", "Z", false)
def k_y8 : Nat → FieldType := fun k => match k with
  | 0 => .object "ReleaseSolver$Version"
  | 1 => .object "java/util/ArrayList"
  | 2 => .object "ReleaseSolver$Range"
  | _ => .boolean
def k_T9 : u_T := fun k => match k with
  | 0 => ("ReleaseSolver$Range", "lower", "LReleaseSolver$Version;", true)
  | 1 => ("ReleaseSolver$Range", "upper", "LReleaseSolver$Version;", true)
  | 2 => ("ReleaseSolver$Range", "withLower", "Z", true)
  | _ => ("ReleaseSolver$Range", "withUpper", "Z", true)
def k_y9 : Nat → FieldType := fun k => match k with
  | 0 => .object "ReleaseSolver$Version"
  | 1 => .object "ReleaseSolver$Version"
  | 2 => .boolean
  | _ => .boolean
def k_T10 : u_T := fun k => match k with
  | 0 => ("ReleaseSolver$Need", "plugin", "I", true)
  | 1 => ("ReleaseSolver$Need", "range", "LReleaseSolver$Range;", true)
  | _ => ("ReleaseSolver$Need", "optional", "Z", true)
def k_y10 : Nat → FieldType := fun k => match k with
  | 0 => .int
  | 1 => .object "ReleaseSolver$Range"
  | _ => .boolean
def k_T11 : u_T := fun k => match k with
  | 0 => ("ReleaseSolver$Ask", "plugin", "I", true)
  | _ => ("ReleaseSolver$Ask", "range", "LReleaseSolver$Range;", true)
def k_y11 : Nat → FieldType := fun k => match k with
  | 0 => .int
  | _ => .object "ReleaseSolver$Range"
abbrev rz_cl : List vw_C := [("java/lang/String", k_T0, 4), ("java/lang/StringBuilder", k_T1, 4), ("java/util/ArrayList", k_T2, 3), ("ReleaseSolverModel", k_T3, 20), ("ReleaseSolver$Search", k_T4, 9), ("ReleaseSolver$Version", k_T5, 2), ("ReleaseSolver$Plugin", k_T6, 2), ("ReleaseSolver", k_T7, 8), ("ReleaseSolver$Release", k_T8, 4), ("ReleaseSolver$Range", k_T9, 4), ("ReleaseSolver$Need", k_T10, 3), ("ReleaseSolver$Ask", k_T11, 2)]
def rz_bl : Nat → List Value := fun ci => match ci with
  | 0 => [.null, .int (Int32.ofInt 0), .int (Int32.ofInt 0), .int (Int32.ofInt 0)]
  | 1 => [.null, .int (Int32.ofInt 0), .int (Int32.ofInt 0), .int (Int32.ofInt 0)]
  | 2 => [.null, .int (Int32.ofInt 0), .int (Int32.ofInt 0)]
  | 3 => [.null, .null, .null, .null, .null, .null, .null, .null, .int (Int32.ofInt 0), .null, .null, .null, .int (Int32.ofInt 0), .int (Int32.ofInt 0), .null, .null, .null, .int (Int32.ofInt 0), .int (Int32.ofInt 0), .null]
  | 4 => [.null, .null, .null, .null, .null, .null, .int (Int32.ofInt 0), .int (Int32.ofInt 0), .null]
  | 5 => [.null, .null]
  | 6 => [.null, .null]
  | 7 => [.null, .null, .null, .null, .null, .int (Int32.ofInt 0), .null, .int (Int32.ofInt 0)]
  | 8 => [.null, .null, .null, .int (Int32.ofInt 0)]
  | 9 => [.null, .null, .int (Int32.ofInt 0), .int (Int32.ofInt 0)]
  | 10 => [.int (Int32.ofInt 0), .null, .int (Int32.ofInt 0)]
  | _ => [.int (Int32.ofInt 0), .null]
def rz_W : List Cond := lw_tbl.filter goodWord
theorem rz_mem (i : Nat) {w : Cond} (h : lw_tbl[i]? = some w) (hg : goodWord w = true) : w ∈ rz_W := List.mem_filter.mpr ⟨List.mem_of_getElem? h, hg⟩
theorem rz_good (w : Cond) (hw : w ∈ rz_W) : (w.onTables && w.keeps) = true ∨ ∃ ty, w = .arrayClass ty := good_of_word (List.mem_filter.mp hw).2
def rz_T (dA : Nat → ClassId) : List (ClassId × FieldType) := [(dA 0, .int), (dA 1, .boolean), (dA 2, .byte), (dA 3, .long), (dA 4, .object "java/lang/Object"), (dA 5, .object "ReleaseSolver$Plugin"), (dA 6, .array .int)]
def rz_NF : List (String × Nat × String × String × String × String) := [("ReleaseSolver$Search", 78, "ReleaseSolver$Plugin", "falling", "[I", "ReleaseSolver"), ("ReleaseSolver$Plugin", 32, "ReleaseSolver$Release", "version", "LReleaseSolver$Version;", "ReleaseSolver"), ("ReleaseSolver", 154, "ReleaseSolver$Release", "version", "LReleaseSolver$Version;", "ReleaseSolver"), ("ReleaseSolver", 118, "ReleaseSolver$Release", "needs", "Ljava/util/ArrayList;", "ReleaseSolver"), ("ReleaseSolver$Search", 91, "ReleaseSolver$Release", "needs", "Ljava/util/ArrayList;", "ReleaseSolver"), ("ReleaseSolver$Plugin", 56, "ReleaseSolver$Release", "needs", "Ljava/util/ArrayList;", "ReleaseSolver"), ("ReleaseSolver", 138, "ReleaseSolver$Release", "hostRange", "LReleaseSolver$Range;", "ReleaseSolver"), ("ReleaseSolver", 142, "ReleaseSolver$Release", "withdrawn", "Z", "ReleaseSolver"), ("ReleaseSolver$Plugin", 52, "ReleaseSolver$Release", "withdrawn", "Z", "ReleaseSolver"), ("ReleaseSolver$Search", 106, "ReleaseSolver$Need", "plugin", "I", "ReleaseSolver"), ("ReleaseSolver$Search", 109, "ReleaseSolver$Need", "range", "LReleaseSolver$Range;", "ReleaseSolver"), ("ReleaseSolver$Search", 117, "ReleaseSolver$Need", "optional", "Z", "ReleaseSolver"), ("ReleaseSolver$Search", 140, "ReleaseSolver$Ask", "plugin", "I", "ReleaseSolver"), ("ReleaseSolver", 222, "ReleaseSolver$Ask", "plugin", "I", "ReleaseSolver"), ("ReleaseSolver$Search", 141, "ReleaseSolver$Ask", "range", "LReleaseSolver$Range;", "ReleaseSolver"), ("ReleaseSolver", 225, "ReleaseSolver$Ask", "range", "LReleaseSolver$Range;", "ReleaseSolver")]
def rz_NM : List (String × Nat × MethodName × String) := [("ReleaseSolver", 31, ⟨"ReleaseSolver$Search", "<init>", "()V"⟩, "ReleaseSolver"), ("ReleaseSolver$Version", 52, ⟨"ReleaseSolver", "isSeparator", "(I)Z"⟩, "ReleaseSolver"), ("ReleaseSolver$Version", 58, ⟨"ReleaseSolver", "isDigit", "(I)Z"⟩, "ReleaseSolver"), ("ReleaseSolver$Version", 61, ⟨"ReleaseSolver", "isLetter", "(I)Z"⟩, "ReleaseSolver"), ("ReleaseSolver", 59, ⟨"ReleaseSolver$Plugin", "<init>", "()V"⟩, "ReleaseSolver"), ("ReleaseSolver$Search", 70, ⟨"ReleaseSolver", "hasBit", "(II)Z"⟩, "ReleaseSolver")]
def rz_NC : List (String × String) := [("[B", "java/lang/Cloneable"), ("ReleaseSolver$Release", "ReleaseSolver$Release"), ("ReleaseSolver$Need", "ReleaseSolver$Need"), ("ReleaseSolver$Ask", "ReleaseSolver$Ask"), ("ReleaseSolver", "java/lang/Object"), ("ReleaseSolver$Search", "java/lang/Object"), ("ReleaseSolver$Version", "java/lang/Object"), ("java/lang/String", "java/lang/Object"), ("ReleaseSolver$Plugin", "java/lang/Object"), ("ReleaseSolverModel", "java/lang/Object"), ("ReleaseSolver$Release", "java/lang/Object"), ("ReleaseSolver$Range", "java/lang/Object"), ("ReleaseSolver$Need", "java/lang/Object"), ("ReleaseSolver$Ask", "java/lang/Object")]
def rz_NA : List String := ["java/lang/Object", "ReleaseSolver$Plugin"]
/-- statics at the start: texts are of bytes; the empty list's array; a formatter, or null -/
def rz_Z (ad : Nat → Nat) : List (String × String × String × Value) := [("java/lang/String", "COMPACT_STRINGS", "Z", .int (Int32.ofInt 1)), ("java/util/ArrayList", "DEFAULTCAPACITY_EMPTY_ELEMENTDATA", "[Ljava/lang/Object;", .ref (ad 0)), ("jdk/internal/util/Preconditions", "SIOOBE_FORMATTER", "Ljava/util/function/BiFunction;", if ad 1 = 0 then .null else .ref (ad 2))]
def rz_S (ad : Nat → Nat) : List (String × Nat × String × Nat) := [("ReleaseSolver", 38, "1", ad 10), ("java/lang/StringLatin1", 151, "", ad 11), ("java/lang/StringUTF16", 295, "", ad 12), ("ReleaseSolver$Version", 83, "alpha", ad 13), ("ReleaseSolver$Version", 89, "a", ad 14), ("ReleaseSolver$Version", 91, "beta", ad 15), ("ReleaseSolver$Version", 93, "b", ad 16), ("ReleaseSolver$Version", 95, "milestone", ad 17), ("ReleaseSolver$Version", 97, "m", ad 18), ("ReleaseSolver$Version", 99, "rc", ad 19), ("ReleaseSolver$Version", 101, "cr", ad 20), ("ReleaseSolver$Version", 103, "snapshot", ad 21), ("ReleaseSolver$Version", 105, "ga", ad 22), ("ReleaseSolver$Version", 107, "final", ad 23), ("ReleaseSolver$Version", 109, "release", ad 24), ("ReleaseSolver$Version", 111, "sp", ad 25)]
theorem rz_lays (ci : Nat) (q : vw_C) (hq : rz_cl[ci]? = some q) : ∀ w ∈ u_ws q.1 q.2.1 q.2.2, w ∈ rz_W := by
  match ci, hq with
  | 0, hq =>
    cases hq
    have h : ∀ k, k < 4 → u_lay "java/lang/String" k_T0 k ∈ rz_W := by
      intro k hk
      match k, hk with
      | 0, _ => exact (rz_mem 300 (by decide +kernel) rfl)
      | 1, _ => exact (rz_mem 302 (by decide +kernel) rfl)
      | 2, _ => exact (rz_mem 304 (by decide +kernel) rfl)
      | 3, _ => exact (rz_mem 306 (by decide +kernel) rfl)
      | k + 4, hk => exact absurd hk (by omega)
    intro w hw
    obtain ⟨k, hk, rfl⟩ := List.mem_map.mp hw
    exact h k (List.mem_range.mp hk)
  | 1, hq =>
    cases hq
    have h : ∀ k, k < 4 → u_lay "java/lang/StringBuilder" k_T1 k ∈ rz_W := by
      intro k hk
      match k, hk with
      | 0, _ => exact (rz_mem 104 (by decide +kernel) rfl)
      | 1, _ => exact (rz_mem 106 (by decide +kernel) rfl)
      | 2, _ => exact (rz_mem 108 (by decide +kernel) rfl)
      | 3, _ => exact (rz_mem 110 (by decide +kernel) rfl)
      | k + 4, hk => exact absurd hk (by omega)
    intro w hw
    obtain ⟨k, hk, rfl⟩ := List.mem_map.mp hw
    exact h k (List.mem_range.mp hk)
  | 2, hq =>
    cases hq
    have h : ∀ k, k < 3 → u_lay "java/util/ArrayList" k_T2 k ∈ rz_W := by
      intro k hk
      match k, hk with
      | 0, _ => exact (rz_mem 135 (by decide +kernel) rfl)
      | 1, _ => exact (rz_mem 137 (by decide +kernel) rfl)
      | 2, _ => exact (rz_mem 139 (by decide +kernel) rfl)
      | k + 3, hk => exact absurd hk (by omega)
    intro w hw
    obtain ⟨k, hk, rfl⟩ := List.mem_map.mp hw
    exact h k (List.mem_range.mp hk)
  | 3, hq =>
    cases hq
    have h : ∀ k, k < 20 → u_lay "ReleaseSolverModel" k_T3 k ∈ rz_W := by
      intro k hk
      match k, hk with
      | 0, _ => exact (rz_mem 1009 (by decide +kernel) rfl)
      | 1, _ => exact (rz_mem 1011 (by decide +kernel) rfl)
      | 2, _ => exact (rz_mem 1013 (by decide +kernel) rfl)
      | 3, _ => exact (rz_mem 1015 (by decide +kernel) rfl)
      | 4, _ => exact (rz_mem 1017 (by decide +kernel) rfl)
      | 5, _ => exact (rz_mem 1019 (by decide +kernel) rfl)
      | 6, _ => exact (rz_mem 1021 (by decide +kernel) rfl)
      | 7, _ => exact (rz_mem 1023 (by decide +kernel) rfl)
      | 8, _ => exact (rz_mem 1025 (by decide +kernel) rfl)
      | 9, _ => exact (rz_mem 1027 (by decide +kernel) rfl)
      | 10, _ => exact (rz_mem 1029 (by decide +kernel) rfl)
      | 11, _ => exact (rz_mem 1031 (by decide +kernel) rfl)
      | 12, _ => exact (rz_mem 1033 (by decide +kernel) rfl)
      | 13, _ => exact (rz_mem 1035 (by decide +kernel) rfl)
      | 14, _ => exact (rz_mem 1037 (by decide +kernel) rfl)
      | 15, _ => exact (rz_mem 1039 (by decide +kernel) rfl)
      | 16, _ => exact (rz_mem 1041 (by decide +kernel) rfl)
      | 17, _ => exact (rz_mem 1043 (by decide +kernel) rfl)
      | 18, _ => exact (rz_mem 1045 (by decide +kernel) rfl)
      | 19, _ => exact (rz_mem 1047 (by decide +kernel) rfl)
      | k + 20, hk => exact absurd hk (by omega)
    intro w hw
    obtain ⟨k, hk, rfl⟩ := List.mem_map.mp hw
    exact h k (List.mem_range.mp hk)
  | 4, hq =>
    cases hq
    have h : ∀ k, k < 9 → u_lay "ReleaseSolver$Search" k_T4 k ∈ rz_W := by
      intro k hk
      match k, hk with
      | 0, _ => exact (rz_mem 159 (by decide +kernel) rfl)
      | 1, _ => exact (rz_mem 161 (by decide +kernel) rfl)
      | 2, _ => exact (rz_mem 163 (by decide +kernel) rfl)
      | 3, _ => exact (rz_mem 165 (by decide +kernel) rfl)
      | 4, _ => exact (rz_mem 167 (by decide +kernel) rfl)
      | 5, _ => exact (rz_mem 169 (by decide +kernel) rfl)
      | 6, _ => exact (rz_mem 171 (by decide +kernel) rfl)
      | 7, _ => exact (rz_mem 173 (by decide +kernel) rfl)
      | 8, _ => exact (rz_mem 175 (by decide +kernel) rfl)
      | k + 9, hk => exact absurd hk (by omega)
    intro w hw
    obtain ⟨k, hk, rfl⟩ := List.mem_map.mp hw
    exact h k (List.mem_range.mp hk)
  | 5, hq =>
    cases hq
    have h : ∀ k, k < 2 → u_lay "ReleaseSolver$Version" k_T5 k ∈ rz_W := by
      intro k hk
      match k, hk with
      | 0, _ => exact (rz_mem 370 (by decide +kernel) rfl)
      | 1, _ => exact (rz_mem 372 (by decide +kernel) rfl)
      | k + 2, hk => exact absurd hk (by omega)
    intro w hw
    obtain ⟨k, hk, rfl⟩ := List.mem_map.mp hw
    exact h k (List.mem_range.mp hk)
  | 6, hq =>
    cases hq
    have h : ∀ k, k < 2 → u_lay "ReleaseSolver$Plugin" k_T6 k ∈ rz_W := by
      intro k hk
      match k, hk with
      | 0, _ => exact (rz_mem 385 (by decide +kernel) rfl)
      | 1, _ => exact (rz_mem 387 (by decide +kernel) rfl)
      | k + 2, hk => exact absurd hk (by omega)
    intro w hw
    obtain ⟨k, hk, rfl⟩ := List.mem_map.mp hw
    exact h k (List.mem_range.mp hk)
  | 7, hq =>
    cases hq
    have h : ∀ k, k < 8 → u_lay "ReleaseSolver" k_T7 k ∈ rz_W := by
      intro k hk
      match k, hk with
      | 0, _ => exact (rz_mem 399 (by decide +kernel) rfl)
      | 1, _ => exact (rz_mem 401 (by decide +kernel) rfl)
      | 2, _ => exact (rz_mem 403 (by decide +kernel) rfl)
      | 3, _ => exact (rz_mem 405 (by decide +kernel) rfl)
      | 4, _ => exact (rz_mem 407 (by decide +kernel) rfl)
      | 5, _ => exact (rz_mem 409 (by decide +kernel) rfl)
      | 6, _ => exact (rz_mem 411 (by decide +kernel) rfl)
      | 7, _ => exact (rz_mem 413 (by decide +kernel) rfl)
      | k + 8, hk => exact absurd hk (by omega)
    intro w hw
    obtain ⟨k, hk, rfl⟩ := List.mem_map.mp hw
    exact h k (List.mem_range.mp hk)
  | 8, hq =>
    cases hq
    have h : ∀ k, k < 4 → u_lay "ReleaseSolver$Release" k_T8 k ∈ rz_W := by
      intro k hk
      match k, hk with
      | 0, _ => exact (rz_mem 606 (by decide +kernel) rfl)
      | 1, _ => exact (rz_mem 608 (by decide +kernel) rfl)
      | 2, _ => exact (rz_mem 610 (by decide +kernel) rfl)
      | 3, _ => exact (rz_mem 612 (by decide +kernel) rfl)
      | k + 4, hk => exact absurd hk (by omega)
    intro w hw
    obtain ⟨k, hk, rfl⟩ := List.mem_map.mp hw
    exact h k (List.mem_range.mp hk)
  | 9, hq =>
    cases hq
    have h : ∀ k, k < 4 → u_lay "ReleaseSolver$Range" k_T9 k ∈ rz_W := by
      intro k hk
      match k, hk with
      | 0, _ => exact (rz_mem 691 (by decide +kernel) rfl)
      | 1, _ => exact (rz_mem 693 (by decide +kernel) rfl)
      | 2, _ => exact (rz_mem 695 (by decide +kernel) rfl)
      | 3, _ => exact (rz_mem 697 (by decide +kernel) rfl)
      | k + 4, hk => exact absurd hk (by omega)
    intro w hw
    obtain ⟨k, hk, rfl⟩ := List.mem_map.mp hw
    exact h k (List.mem_range.mp hk)
  | 10, hq =>
    cases hq
    have h : ∀ k, k < 3 → u_lay "ReleaseSolver$Need" k_T10 k ∈ rz_W := by
      intro k hk
      match k, hk with
      | 0, _ => exact (rz_mem 775 (by decide +kernel) rfl)
      | 1, _ => exact (rz_mem 777 (by decide +kernel) rfl)
      | 2, _ => exact (rz_mem 779 (by decide +kernel) rfl)
      | k + 3, hk => exact absurd hk (by omega)
    intro w hw
    obtain ⟨k, hk, rfl⟩ := List.mem_map.mp hw
    exact h k (List.mem_range.mp hk)
  | 11, hq =>
    cases hq
    have h : ∀ k, k < 2 → u_lay "ReleaseSolver$Ask" k_T11 k ∈ rz_W := by
      intro k hk
      match k, hk with
      | 0, _ => exact (rz_mem 812 (by decide +kernel) rfl)
      | 1, _ => exact (rz_mem 814 (by decide +kernel) rfl)
      | k + 2, hk => exact absurd hk (by omega)
    intro w hw
    obtain ⟨k, hk, rfl⟩ := List.mem_map.mp hw
    exact h k (List.mem_range.mp hk)
  | n + 12, hq => simp [rz_cl] at hq
theorem rz_tys (ci : Nat) (q : vw_C) (hq : rz_cl[ci]? = some q) : (∃ ty0 : Nat → FieldType, ∀ k, k < q.2.2 → parseFieldDescriptor (q.2.1 k).2.2.1 = some (ty0 k)) ∧ ∀ a, a < q.2.2 → ∀ b, b < q.2.2 → a ≠ b → (q.2.1 a).2.1 ≠ (q.2.1 b).2.1 := by
  match ci, hq with
  | 0, hq =>
    cases hq
    exact ⟨⟨k_y0, by decide +kernel⟩, by decide +kernel⟩
  | 1, hq =>
    cases hq
    exact ⟨⟨k_y1, by decide +kernel⟩, by decide +kernel⟩
  | 2, hq =>
    cases hq
    exact ⟨⟨k_y2, by decide +kernel⟩, by decide +kernel⟩
  | 3, hq =>
    cases hq
    exact ⟨⟨k_y3, by decide +kernel⟩, by decide +kernel⟩
  | 4, hq =>
    cases hq
    exact ⟨⟨k_y4, by decide +kernel⟩, by decide +kernel⟩
  | 5, hq =>
    cases hq
    exact ⟨⟨k_y5, by decide +kernel⟩, by decide +kernel⟩
  | 6, hq =>
    cases hq
    exact ⟨⟨k_y6, by decide +kernel⟩, by decide +kernel⟩
  | 7, hq =>
    cases hq
    exact ⟨⟨k_y7, by decide +kernel⟩, by decide +kernel⟩
  | 8, hq =>
    cases hq
    exact ⟨⟨k_y8, by decide +kernel⟩, by decide +kernel⟩
  | 9, hq =>
    cases hq
    exact ⟨⟨k_y9, by decide +kernel⟩, by decide +kernel⟩
  | 10, hq =>
    cases hq
    exact ⟨⟨k_y10, by decide +kernel⟩, by decide +kernel⟩
  | 11, hq =>
    cases hq
    exact ⟨⟨k_y11, by decide +kernel⟩, by decide +kernel⟩
  | n + 12, hq => simp [rz_cl] at hq
theorem rz_born (ci : Nat) (q : vw_C) (hq : rz_cl[ci]? = some q) : ∃ ty0 : Nat → FieldType, (∀ k, k < q.2.2 → parseFieldDescriptor (q.2.1 k).2.2.1 = some (ty0 k)) ∧ (∀ j, j < q.2.2 → defaultValue (ty0 j) = vp_V (rz_bl ci) j) ∧ Cond.instantiable q.1 q.2.2 ∈ rz_W ∧ Cond.initialized q.1 ∈ rz_W := by
  match ci, hq with
  | 0, hq =>
    cases hq
    exact ⟨k_y0, by decide +kernel, by decide +kernel, (rz_mem 271 (by decide +kernel) rfl), (rz_mem 52 (by decide +kernel) rfl)⟩
  | 1, hq =>
    cases hq
    exact ⟨k_y1, by decide +kernel, by decide +kernel, (rz_mem 82 (by decide +kernel) rfl), (rz_mem 51 (by decide +kernel) rfl)⟩
  | 2, hq =>
    cases hq
    exact ⟨k_y2, by decide +kernel, by decide +kernel, (rz_mem 117 (by decide +kernel) rfl), (rz_mem 56 (by decide +kernel) rfl)⟩
  | 3, hq =>
    cases hq
    exact ⟨k_y3, by decide +kernel, by decide +kernel, (rz_mem 984 (by decide +kernel) rfl), (rz_mem 65 (by decide +kernel) rfl)⟩
  | 4, hq =>
    cases hq
    exact ⟨k_y4, by decide +kernel, by decide +kernel, (rz_mem 143 (by decide +kernel) rfl), (rz_mem 57 (by decide +kernel) rfl)⟩
  | 5, hq =>
    cases hq
    exact ⟨k_y5, by decide +kernel, by decide +kernel, (rz_mem 180 (by decide +kernel) rfl), (rz_mem 58 (by decide +kernel) rfl)⟩
  | 6, hq =>
    cases hq
    exact ⟨k_y6, by decide +kernel, by decide +kernel, (rz_mem 375 (by decide +kernel) rfl), (rz_mem 64 (by decide +kernel) rfl)⟩
  | 7, hq =>
    cases hq
    exact ⟨k_y7, by decide +kernel, by decide +kernel, (rz_mem 74 (by decide +kernel) rfl), (rz_mem 49 (by decide +kernel) rfl)⟩
  | 8, hq =>
    cases hq
    exact ⟨k_y8, by decide +kernel, by decide +kernel, (rz_mem 587 (by decide +kernel) rfl), (rz_mem 68 (by decide +kernel) rfl)⟩
  | 9, hq =>
    cases hq
    exact ⟨k_y9, by decide +kernel, by decide +kernel, (rz_mem 680 (by decide +kernel) rfl), (rz_mem 69 (by decide +kernel) rfl)⟩
  | 10, hq =>
    cases hq
    exact ⟨k_y10, by decide +kernel, by decide +kernel, (rz_mem 764 (by decide +kernel) rfl), (rz_mem 71 (by decide +kernel) rfl)⟩
  | 11, hq =>
    cases hq
    exact ⟨k_y11, by decide +kernel, by decide +kernel, (rz_mem 801 (by decide +kernel) rfl), (rz_mem 72 (by decide +kernel) rfl)⟩
  | n + 12, hq => simp [rz_cl] at hq
abbrev rz_X : Type := ByteArray × String × Nat × Option FieldType × String
abbrev x_Rs_init : rz_X := (prog_1_method_1_code, "ReleaseSolver", 2, none, "<init>")
abbrev y_Rs_init : MethodName := ⟨"ReleaseSolver", "<init>", "()V"⟩
abbrev x_Oj_init : rz_X := (object_method_1_code, "java/lang/Object", 1, none, "<init>")
abbrev y_Oj_init : MethodName := ⟨"java/lang/Object", "<init>", "()V"⟩
abbrev x_Sb_init : rz_X := (prog_18_method_1_code, "java/lang/StringBuilder", 1, none, "<init>")
abbrev y_Sb_init : MethodName := ⟨"java/lang/StringBuilder", "<init>", "()V"⟩
abbrev x_Ab_init : rz_X := (prog_12_method_2_code, "java/lang/AbstractStringBuilder", 2, none, "<init>")
abbrev y_Ab_init : MethodName := ⟨"java/lang/AbstractStringBuilder", "<init>", "(I)V"⟩
abbrev x_S2_newBytesFor : rz_X := (prog_20_method_2_code, "java/lang/StringUTF16", 1, some (.array (.byte)), "newBytesFor")
abbrev y_S2_newBytesFor : MethodName := ⟨"java/lang/StringUTF16", "newBytesFor", "(I)[B"⟩
abbrev x_S2_newBytesLength : rz_X := (prog_20_method_3_code, "java/lang/StringUTF16", 1, some (.int), "newBytesLength")
abbrev y_S2_newBytesLength : MethodName := ⟨"java/lang/StringUTF16", "newBytesLength", "(I)I"⟩
abbrev x_Al_init : rz_X := (prog_24_method_2_code, "java/util/ArrayList", 1, none, "<init>")
abbrev y_Al_init : MethodName := ⟨"java/util/ArrayList", "<init>", "()V"⟩
abbrev x_Ax_init : rz_X := (prog_23_method_1_code, "java/util/AbstractList", 1, none, "<init>")
abbrev y_Ax_init : MethodName := ⟨"java/util/AbstractList", "<init>", "()V"⟩
abbrev x_Ac_init : rz_X := (prog_22_method_1_code, "java/util/AbstractCollection", 1, none, "<init>")
abbrev y_Ac_init : MethodName := ⟨"java/util/AbstractCollection", "<init>", "()V"⟩
abbrev x_Se_init : rz_X := (prog_7_method_1_code, "ReleaseSolver$Search", 1, none, "<init>")
abbrev y_Se_init : MethodName := ⟨"ReleaseSolver$Search", "<init>", "()V"⟩
abbrev x_Ve_init : rz_X := (prog_8_method_1_code, "ReleaseSolver$Version", 4, none, "<init>")
abbrev y_Ve_init : MethodName := ⟨"ReleaseSolver$Version", "<init>", "(Ljava/lang/String;)V"⟩
abbrev x_Ar_fill : rz_X := (prog_25_method_103_code, "java/util/Arrays", 4, none, "fill")
abbrev y_Ar_fill : MethodName := ⟨"java/util/Arrays", "fill", "([II)V"⟩
abbrev x_St_length : rz_X := (prog_17_method_54_code, "java/lang/String", 1, some (.int), "length")
abbrev y_St_length : MethodName := ⟨"java/lang/String", "length", "()I"⟩
abbrev x_St_coder : rz_X := (prog_17_method_152_code, "java/lang/String", 1, some (.byte), "coder")
abbrev y_St_coder : MethodName := ⟨"java/lang/String", "coder", "()B"⟩
abbrev x_Ve_startsItem : rz_X := (prog_8_method_6_code, "ReleaseSolver$Version", 3, some (.boolean), "startsItem")
abbrev y_Ve_startsItem : MethodName := ⟨"ReleaseSolver$Version", "startsItem", "(Ljava/lang/String;I)Z"⟩
abbrev x_St_charAt : rz_X := (prog_17_method_56_code, "java/lang/String", 2, some (.char), "charAt")
abbrev y_St_charAt : MethodName := ⟨"java/lang/String", "charAt", "(I)C"⟩
abbrev x_St_isLatin1 : rz_X := (prog_17_method_154_code, "java/lang/String", 1, some (.boolean), "isLatin1")
abbrev y_St_isLatin1 : MethodName := ⟨"java/lang/String", "isLatin1", "()Z"⟩
abbrev x_S1_charAt : rz_X := (prog_19_method_2_code, "java/lang/StringLatin1", 2, some (.char), "charAt")
abbrev y_S1_charAt : MethodName := ⟨"java/lang/StringLatin1", "charAt", "([BI)C"⟩
abbrev x_St_checkIndex : rz_X := (prog_17_method_155_code, "java/lang/String", 2, none, "checkIndex")
abbrev y_St_checkIndex : MethodName := ⟨"java/lang/String", "checkIndex", "(II)V"⟩
abbrev x_Pr_checkIndex : rz_X := (prog_32_method_11_code, "jdk/internal/util/Preconditions", 3, some (.int), "checkIndex")
abbrev y_Pr_checkIndex : MethodName := ⟨"jdk/internal/util/Preconditions", "checkIndex", "(IILjava/util/function/BiFunction;)I"⟩
abbrev x_S2_charAt : rz_X := (prog_20_method_83_code, "java/lang/StringUTF16", 2, some (.char), "charAt")
abbrev y_S2_charAt : MethodName := ⟨"java/lang/StringUTF16", "charAt", "([BI)C"⟩
abbrev x_S2_checkIndex : rz_X := (prog_20_method_91_code, "java/lang/StringUTF16", 2, none, "checkIndex")
abbrev y_S2_checkIndex : MethodName := ⟨"java/lang/StringUTF16", "checkIndex", "(I[B)V"⟩
abbrev x_S2_length : rz_X := (prog_20_method_6_code, "java/lang/StringUTF16", 1, some (.int), "length")
abbrev y_S2_length : MethodName := ⟨"java/lang/StringUTF16", "length", "([B)I"⟩
abbrev x_S2_getChar : rz_X := (prog_20_method_5_code, "java/lang/StringUTF16", 2, some (.char), "getChar")
abbrev y_S2_getChar : MethodName := ⟨"java/lang/StringUTF16", "getChar", "([BI)C"⟩
abbrev x_Rs_isSeparator : rz_X := (prog_1_method_22_code, "ReleaseSolver", 1, some (.boolean), "isSeparator")
abbrev y_Rs_isSeparator : MethodName := ⟨"ReleaseSolver", "isSeparator", "(I)Z"⟩
abbrev x_Ve_isOneKind : rz_X := (prog_8_method_7_code, "ReleaseSolver$Version", 2, some (.boolean), "isOneKind")
abbrev y_Ve_isOneKind : MethodName := ⟨"ReleaseSolver$Version", "isOneKind", "(CC)Z"⟩
abbrev x_Rs_isDigit : rz_X := (prog_1_method_21_code, "ReleaseSolver", 1, some (.boolean), "isDigit")
abbrev y_Rs_isDigit : MethodName := ⟨"ReleaseSolver", "isDigit", "(I)Z"⟩
abbrev x_Rs_isLetter : rz_X := (prog_1_method_20_code, "ReleaseSolver", 1, some (.boolean), "isLetter")
abbrev y_Rs_isLetter : MethodName := ⟨"ReleaseSolver", "isLetter", "(I)Z"⟩
abbrev x_Ve_readItem : rz_X := (prog_8_method_8_code, "ReleaseSolver$Version", 7, none, "readItem")
abbrev y_Ve_readItem : MethodName := ⟨"ReleaseSolver$Version", "readItem", "(ILjava/lang/String;I)V"⟩
abbrev x_St_substring : rz_X := (prog_17_method_92_code, "java/lang/String", 5, some (.object "java/lang/String"), "substring")
abbrev y_St_substring : MethodName := ⟨"java/lang/String", "substring", "(II)Ljava/lang/String;"⟩
abbrev x_St_checkBoundsBeginEnd : rz_X := (prog_17_method_158_code, "java/lang/String", 3, none, "checkBoundsBeginEnd")
abbrev y_St_checkBoundsBeginEnd : MethodName := ⟨"java/lang/String", "checkBoundsBeginEnd", "(III)V"⟩
abbrev x_Pr_checkFromToIndex : rz_X := (prog_32_method_12_code, "jdk/internal/util/Preconditions", 4, some (.int), "checkFromToIndex")
abbrev y_Pr_checkFromToIndex : MethodName := ⟨"jdk/internal/util/Preconditions", "checkFromToIndex", "(IIILjava/util/function/BiFunction;)I"⟩
abbrev x_S1_newString : rz_X := (prog_19_method_47_code, "java/lang/StringLatin1", 3, some (.object "java/lang/String"), "newString")
abbrev y_S1_newString : MethodName := ⟨"java/lang/StringLatin1", "newString", "([BII)Ljava/lang/String;"⟩
abbrev x_Ar_copyOfRange : rz_X := (prog_25_method_132_code, "java/util/Arrays", 3, some (.array (.byte)), "copyOfRange")
abbrev y_Ar_copyOfRange : MethodName := ⟨"java/util/Arrays", "copyOfRange", "([BII)[B"⟩
abbrev x_Ar_copyOfRangeByte : rz_X := (prog_25_method_133_code, "java/util/Arrays", 5, some (.array (.byte)), "copyOfRangeByte")
abbrev y_Ar_copyOfRangeByte : MethodName := ⟨"java/util/Arrays", "copyOfRangeByte", "([BII)[B"⟩
abbrev x_Ar_checkLength : rz_X := (prog_25_method_131_code, "java/util/Arrays", 2, none, "checkLength")
abbrev y_Ar_checkLength : MethodName := ⟨"java/util/Arrays", "checkLength", "(II)V"⟩
abbrev x_Mt_min : rz_X := (prog_16_method_69_code, "java/lang/Math", 2, some (.int), "min")
abbrev y_Mt_min : MethodName := ⟨"java/lang/Math", "min", "(II)I"⟩
abbrev x_St_init : rz_X := (prog_17_method_151_code, "java/lang/String", 3, none, "<init>")
abbrev y_St_init : MethodName := ⟨"java/lang/String", "<init>", "([BB)V"⟩
abbrev x_S2_newString : rz_X := (prog_20_method_69_code, "java/lang/StringUTF16", 5, some (.object "java/lang/String"), "newString")
abbrev y_S2_newString : MethodName := ⟨"java/lang/StringUTF16", "newString", "([BII)Ljava/lang/String;"⟩
abbrev x_S2_compress : rz_X := (prog_20_method_17_code, "java/lang/StringUTF16", 6, some (.array (.byte)), "compress")
abbrev y_S2_compress : MethodName := ⟨"java/lang/StringUTF16", "compress", "([BII)[B"⟩
abbrev x_S2_compress2 : rz_X := (prog_20_method_22_code, "java/lang/StringUTF16", 7, some (.int), "compress")
abbrev y_S2_compress2 : MethodName := ⟨"java/lang/StringUTF16", "compress", "([BI[BII)I"⟩
abbrev x_S2_checkBoundsOffCount : rz_X := (prog_20_method_94_code, "java/lang/StringUTF16", 3, none, "checkBoundsOffCount")
abbrev y_S2_checkBoundsOffCount : MethodName := ⟨"java/lang/StringUTF16", "checkBoundsOffCount", "(II[B)V"⟩
abbrev x_St_checkBoundsOffCount : rz_X := (prog_17_method_157_code, "java/lang/String", 3, some (.int), "checkBoundsOffCount")
abbrev y_St_checkBoundsOffCount : MethodName := ⟨"java/lang/String", "checkBoundsOffCount", "(III)I"⟩
abbrev x_Pr_checkFromIndexSize : rz_X := (prog_32_method_13_code, "jdk/internal/util/Preconditions", 4, some (.int), "checkFromIndexSize")
abbrev y_Pr_checkFromIndexSize : MethodName := ⟨"jdk/internal/util/Preconditions", "checkFromIndexSize", "(IIILjava/util/function/BiFunction;)I"⟩
abbrev x_S2_coderFromArrayLen : rz_X := (prog_20_method_15_code, "java/lang/StringUTF16", 2, some (.byte), "coderFromArrayLen")
abbrev y_S2_coderFromArrayLen : MethodName := ⟨"java/lang/StringUTF16", "coderFromArrayLen", "([BI)B"⟩
abbrev x_Ve_numberOf : rz_X := (prog_8_method_10_code, "ReleaseSolver$Version", 4, some (.long), "numberOf")
abbrev y_Ve_numberOf : MethodName := ⟨"ReleaseSolver$Version", "numberOf", "(Ljava/lang/String;)J"⟩
abbrev x_Ve_rankOfWord : rz_X := (prog_8_method_9_code, "ReleaseSolver$Version", 2, some (.int), "rankOfWord")
abbrev y_Ve_rankOfWord : MethodName := ⟨"ReleaseSolver$Version", "rankOfWord", "(Ljava/lang/String;Z)I"⟩
abbrev x_St_equals : rz_X := (prog_17_method_66_code, "java/lang/String", 3, some (.boolean), "equals")
abbrev y_St_equals : MethodName := ⟨"java/lang/String", "equals", "(Ljava/lang/Object;)Z"⟩
abbrev x_S1_equals : rz_X := (prog_19_method_13_code, "java/lang/StringLatin1", 3, some (.boolean), "equals")
abbrev y_S1_equals : MethodName := ⟨"java/lang/StringLatin1", "equals", "([B[B)Z"⟩
abbrev x_Ve_dictionaryPlace : rz_X := (prog_8_method_11_code, "ReleaseSolver$Version", 5, some (.long), "dictionaryPlace")
abbrev y_Ve_dictionaryPlace : MethodName := ⟨"ReleaseSolver$Version", "dictionaryPlace", "(Ljava/lang/String;)J"⟩
abbrev x_Pl_init : rz_X := (prog_4_method_1_code, "ReleaseSolver$Plugin", 1, none, "<init>")
abbrev y_Pl_init : MethodName := ⟨"ReleaseSolver$Plugin", "<init>", "()V"⟩
abbrev x_Rs_write : rz_X := (prog_1_method_2_code, "ReleaseSolver", 5, some (.int), "write")
abbrev y_Rs_write : MethodName := ⟨"ReleaseSolver", "write", "(IIII)I"⟩
abbrev x_Rs_isWritable : rz_X := (prog_1_method_19_code, "ReleaseSolver", 1, some (.boolean), "isWritable")
abbrev y_Rs_isWritable : MethodName := ⟨"ReleaseSolver", "isWritable", "(I)Z"⟩
abbrev x_Sb_length : rz_X := (prog_18_method_93_code, "java/lang/StringBuilder", 1, some (.int), "length")
abbrev y_Sb_length : MethodName := ⟨"java/lang/StringBuilder", "length", "()I"⟩
abbrev x_Ab_length : rz_X := (prog_12_method_6_code, "java/lang/AbstractStringBuilder", 1, some (.int), "length")
abbrev y_Ab_length : MethodName := ⟨"java/lang/AbstractStringBuilder", "length", "()I"⟩
abbrev x_Rs_lengthOf : rz_X := (prog_1_method_24_code, "ReleaseSolver", 1, some (.int), "lengthOf")
abbrev y_Rs_lengthOf : MethodName := ⟨"ReleaseSolver", "lengthOf", "(I)I"⟩
abbrev x_Rs_append : rz_X := (prog_1_method_25_code, "ReleaseSolver", 2, none, "append")
abbrev y_Rs_append : MethodName := ⟨"ReleaseSolver", "append", "(I)V"⟩
abbrev x_Sb_append : rz_X := (prog_18_method_14_code, "java/lang/StringBuilder", 2, some (.object "java/lang/StringBuilder"), "append")
abbrev y_Sb_append : MethodName := ⟨"java/lang/StringBuilder", "append", "(C)Ljava/lang/StringBuilder;"⟩
abbrev x_Ab_append : rz_X := (prog_12_method_31_code, "java/lang/AbstractStringBuilder", 2, some (.object "java/lang/AbstractStringBuilder"), "append")
abbrev y_Ab_append : MethodName := ⟨"java/lang/AbstractStringBuilder", "append", "(C)Ljava/lang/AbstractStringBuilder;"⟩
abbrev x_Ab_ensureCapacityInternal : rz_X := (prog_12_method_9_code, "java/lang/AbstractStringBuilder", 3, none, "ensureCapacityInternal")
abbrev y_Ab_ensureCapacityInternal : MethodName := ⟨"java/lang/AbstractStringBuilder", "ensureCapacityInternal", "(I)V"⟩
abbrev x_Ab_newCapacity : rz_X := (prog_12_method_10_code, "java/lang/AbstractStringBuilder", 6, some (.int), "newCapacity")
abbrev y_Ab_newCapacity : MethodName := ⟨"java/lang/AbstractStringBuilder", "newCapacity", "(I)I"⟩
abbrev x_As_newLength : rz_X := (prog_31_method_27_code, "jdk/internal/util/ArraysSupport", 4, some (.int), "newLength")
abbrev y_As_newLength : MethodName := ⟨"jdk/internal/util/ArraysSupport", "newLength", "(III)I"⟩
abbrev x_Mt_max : rz_X := (prog_16_method_65_code, "java/lang/Math", 2, some (.int), "max")
abbrev y_Mt_max : MethodName := ⟨"java/lang/Math", "max", "(II)I"⟩
abbrev x_As_hugeLength : rz_X := (prog_31_method_28_code, "jdk/internal/util/ArraysSupport", 3, some (.int), "hugeLength")
abbrev y_As_hugeLength : MethodName := ⟨"jdk/internal/util/ArraysSupport", "hugeLength", "(II)I"⟩
abbrev x_Ar_copyOf : rz_X := (prog_25_method_121_code, "java/util/Arrays", 3, some (.array (.byte)), "copyOf")
abbrev y_Ar_copyOf : MethodName := ⟨"java/util/Arrays", "copyOf", "([BI)[B"⟩
abbrev x_Ab_isLatin1 : rz_X := (prog_12_method_68_code, "java/lang/AbstractStringBuilder", 1, some (.boolean), "isLatin1")
abbrev y_Ab_isLatin1 : MethodName := ⟨"java/lang/AbstractStringBuilder", "isLatin1", "()Z"⟩
abbrev x_S1_canEncode : rz_X := (prog_19_method_3_code, "java/lang/StringLatin1", 1, some (.boolean), "canEncode")
abbrev y_S1_canEncode : MethodName := ⟨"java/lang/StringLatin1", "canEncode", "(C)Z"⟩
abbrev x_Ab_inflate : rz_X := (prog_12_method_11_code, "java/lang/AbstractStringBuilder", 2, none, "inflate")
abbrev y_Ab_inflate : MethodName := ⟨"java/lang/AbstractStringBuilder", "inflate", "()V"⟩
abbrev x_S1_inflate : rz_X := (prog_19_method_50_code, "java/lang/StringLatin1", 5, none, "inflate")
abbrev y_S1_inflate : MethodName := ⟨"java/lang/StringLatin1", "inflate", "([BI[BII)V"⟩
abbrev x_S2_inflate : rz_X := (prog_20_method_86_code, "java/lang/StringUTF16", 6, none, "inflate")
abbrev y_S2_inflate : MethodName := ⟨"java/lang/StringUTF16", "inflate", "([BI[BII)V"⟩
abbrev x_S2_putChar : rz_X := (prog_20_method_4_code, "java/lang/StringUTF16", 3, none, "putChar")
abbrev y_S2_putChar : MethodName := ⟨"java/lang/StringUTF16", "putChar", "([BII)V"⟩
abbrev x_S2_putCharSB : rz_X := (prog_20_method_71_code, "java/lang/StringUTF16", 3, none, "putCharSB")
abbrev y_S2_putCharSB : MethodName := ⟨"java/lang/StringUTF16", "putCharSB", "([BII)V"⟩
abbrev x_Rs_wipe : rz_X := (prog_1_method_3_code, "ReleaseSolver", 2, some (.int), "wipe")
abbrev y_Rs_wipe : MethodName := ⟨"ReleaseSolver", "wipe", "()I"⟩
abbrev x_Sb_setLength : rz_X := (prog_18_method_89_code, "java/lang/StringBuilder", 2, none, "setLength")
abbrev y_Sb_setLength : MethodName := ⟨"java/lang/StringBuilder", "setLength", "(I)V"⟩
abbrev x_Ab_setLength : rz_X := (prog_12_method_13_code, "java/lang/AbstractStringBuilder", 2, none, "setLength")
abbrev y_Ab_setLength : MethodName := ⟨"java/lang/AbstractStringBuilder", "setLength", "(I)V"⟩
abbrev x_S1_fillNull : rz_X := (prog_19_method_48_code, "java/lang/StringLatin1", 3, none, "fillNull")
abbrev y_S1_fillNull : MethodName := ⟨"java/lang/StringLatin1", "fillNull", "([BII)V"⟩
abbrev x_Ar_fill2 : rz_X := (prog_25_method_110_code, "java/util/Arrays", 5, none, "fill")
abbrev y_Ar_fill2 : MethodName := ⟨"java/util/Arrays", "fill", "([BIIB)V"⟩
abbrev x_Ar_rangeCheck : rz_X := (prog_25_method_30_code, "java/util/Arrays", 3, none, "rangeCheck")
abbrev y_Ar_rangeCheck : MethodName := ⟨"java/util/Arrays", "rangeCheck", "(III)V"⟩
abbrev x_S2_fillNull : rz_X := (prog_20_method_70_code, "java/lang/StringUTF16", 3, none, "fillNull")
abbrev y_S2_fillNull : MethodName := ⟨"java/lang/StringUTF16", "fillNull", "([BII)V"⟩
abbrev x_Rs_release : rz_X := (prog_1_method_4_code, "ReleaseSolver", 3, some (.int), "release")
abbrev y_Rs_release : MethodName := ⟨"ReleaseSolver", "release", "(I)I"⟩
abbrev x_Rs_isPlugin : rz_X := (prog_1_method_27_code, "ReleaseSolver", 1, some (.boolean), "isPlugin")
abbrev y_Rs_isPlugin : MethodName := ⟨"ReleaseSolver", "isPlugin", "(I)Z"⟩
abbrev x_Rs_takeText : rz_X := (prog_1_method_26_code, "ReleaseSolver", 2, some (.object "java/lang/String"), "takeText")
abbrev y_Rs_takeText : MethodName := ⟨"ReleaseSolver", "takeText", "()Ljava/lang/String;"⟩
abbrev x_Sb_toString : rz_X := (prog_18_method_42_code, "java/lang/StringBuilder", 1, some (.object "java/lang/String"), "toString")
abbrev y_Sb_toString : MethodName := ⟨"java/lang/StringBuilder", "toString", "()Ljava/lang/String;"⟩
abbrev x_St_init2 : rz_X := (prog_17_method_53_code, "java/lang/String", 2, none, "<init>")
abbrev y_St_init2 : MethodName := ⟨"java/lang/String", "<init>", "(Ljava/lang/StringBuilder;)V"⟩
abbrev x_St_init3 : rz_X := (prog_17_method_150_code, "java/lang/String", 5, none, "<init>")
abbrev y_St_init3 : MethodName := ⟨"java/lang/String", "<init>", "(Ljava/lang/AbstractStringBuilder;Ljava/lang/Void;)V"⟩
abbrev x_Ab_getValue : rz_X := (prog_12_method_64_code, "java/lang/AbstractStringBuilder", 1, some (.array (.byte)), "getValue")
abbrev y_Ab_getValue : MethodName := ⟨"java/lang/AbstractStringBuilder", "getValue", "()[B"⟩
abbrev x_Ve_read : rz_X := (prog_8_method_2_code, "ReleaseSolver$Version", 1, some (.object "ReleaseSolver$Version"), "read")
abbrev y_Ve_read : MethodName := ⟨"ReleaseSolver$Version", "read", "(Ljava/lang/String;)LReleaseSolver$Version;"⟩
abbrev x_Ve_isVersion : rz_X := (prog_8_method_3_code, "ReleaseSolver$Version", 7, some (.boolean), "isVersion")
abbrev y_Ve_isVersion : MethodName := ⟨"ReleaseSolver$Version", "isVersion", "(Ljava/lang/String;)Z"⟩
abbrev x_St_isEmpty : rz_X := (prog_17_method_55_code, "java/lang/String", 1, some (.boolean), "isEmpty")
abbrev y_St_isEmpty : MethodName := ⟨"java/lang/String", "isEmpty", "()Z"⟩
abbrev x_Pl_hasVersion : rz_X := (prog_4_method_4_code, "ReleaseSolver$Plugin", 3, some (.boolean), "hasVersion")
abbrev y_Pl_hasVersion : MethodName := ⟨"ReleaseSolver$Plugin", "hasVersion", "(LReleaseSolver$Version;)Z"⟩
abbrev x_Al_size : rz_X := (prog_24_method_8_code, "java/util/ArrayList", 1, some (.int), "size")
abbrev y_Al_size : MethodName := ⟨"java/util/ArrayList", "size", "()I"⟩
abbrev x_Al_get : rz_X := (prog_24_method_20_code, "java/util/ArrayList", 2, some (.object "java/lang/Object"), "get")
abbrev y_Al_get : MethodName := ⟨"java/util/ArrayList", "get", "(I)Ljava/lang/Object;"⟩
abbrev x_Ob_checkIndex : rz_X := (prog_28_method_17_code, "java/util/Objects", 2, some (.int), "checkIndex")
abbrev y_Ob_checkIndex : MethodName := ⟨"java/util/Objects", "checkIndex", "(II)I"⟩
abbrev x_Al_elementData : rz_X := (prog_24_method_18_code, "java/util/ArrayList", 2, some (.object "java/lang/Object"), "elementData")
abbrev y_Al_elementData : MethodName := ⟨"java/util/ArrayList", "elementData", "(I)Ljava/lang/Object;"⟩
abbrev x_Ve_comparedTo : rz_X := (prog_8_method_5_code, "ReleaseSolver$Version", 3, some (.int), "comparedTo")
abbrev y_Ve_comparedTo : MethodName := ⟨"ReleaseSolver$Version", "comparedTo", "(LReleaseSolver$Version;)I"⟩
abbrev x_Rl_init : rz_X := (prog_6_method_1_code, "ReleaseSolver$Release", 2, none, "<init>")
abbrev y_Rl_init : MethodName := ⟨"ReleaseSolver$Release", "<init>", "(LReleaseSolver$Version;)V"⟩
abbrev x_Pl_add : rz_X := (prog_4_method_5_code, "ReleaseSolver$Plugin", 5, some (.int), "add")
abbrev y_Pl_add : MethodName := ⟨"ReleaseSolver$Plugin", "add", "(LReleaseSolver$Release;)I"⟩
abbrev x_Al_add : rz_X := (prog_24_method_25_code, "java/util/ArrayList", 2, some (.boolean), "add")
abbrev y_Al_add : MethodName := ⟨"java/util/ArrayList", "add", "(Ljava/lang/Object;)Z"⟩
abbrev x_Al_add2 : rz_X := (prog_24_method_24_code, "java/util/ArrayList", 4, none, "add")
abbrev y_Al_add2 : MethodName := ⟨"java/util/ArrayList", "add", "(Ljava/lang/Object;[Ljava/lang/Object;I)V"⟩
abbrev x_Al_grow : rz_X := (prog_24_method_7_code, "java/util/ArrayList", 1, some (.array (.object "java/lang/Object")), "grow")
abbrev y_Al_grow : MethodName := ⟨"java/util/ArrayList", "grow", "()[Ljava/lang/Object;"⟩
abbrev x_Al_grow2 : rz_X := (prog_24_method_6_code, "java/util/ArrayList", 4, some (.array (.object "java/lang/Object")), "grow")
abbrev y_Al_grow2 : MethodName := ⟨"java/util/ArrayList", "grow", "(I)[Ljava/lang/Object;"⟩
abbrev x_Ar_copyOf2 : rz_X := (prog_25_method_119_code, "java/util/Arrays", 2, some (.array (.object "java/lang/Object")), "copyOf")
abbrev y_Ar_copyOf2 : MethodName := ⟨"java/util/Arrays", "copyOf", "([Ljava/lang/Object;I)[Ljava/lang/Object;"⟩
abbrev x_Ar_copyOf3 : rz_X := (prog_25_method_120_code, "java/util/Arrays", 4, some (.array (.object "java/lang/Object")), "copyOf")
abbrev y_Ar_copyOf3 : MethodName := ⟨"java/util/Arrays", "copyOf", "([Ljava/lang/Object;ILjava/lang/Class;)[Ljava/lang/Object;"⟩
abbrev x_Rs_need : rz_X := (prog_1_method_5_code, "ReleaseSolver", 7, some (.int), "need")
abbrev y_Rs_need : MethodName := ⟨"ReleaseSolver", "need", "(IIIZ)I"⟩
abbrev x_Rs_releaseAt : rz_X := (prog_1_method_28_code, "ReleaseSolver", 3, some (.object "ReleaseSolver$Release"), "releaseAt")
abbrev y_Rs_releaseAt : MethodName := ⟨"ReleaseSolver", "releaseAt", "(II)LReleaseSolver$Release;"⟩
abbrev x_Pl_at : rz_X := (prog_4_method_3_code, "ReleaseSolver$Plugin", 2, some (.object "ReleaseSolver$Release"), "at")
abbrev y_Pl_at : MethodName := ⟨"ReleaseSolver$Plugin", "at", "(I)LReleaseSolver$Release;"⟩
abbrev x_Rg_read : rz_X := (prog_5_method_2_code, "ReleaseSolver$Range", 5, some (.object "ReleaseSolver$Range"), "read")
abbrev y_Rg_read : MethodName := ⟨"ReleaseSolver$Range", "read", "(Ljava/lang/String;)LReleaseSolver$Range;"⟩
abbrev x_Rg_init : rz_X := (prog_5_method_1_code, "ReleaseSolver$Range", 5, none, "<init>")
abbrev y_Rg_init : MethodName := ⟨"ReleaseSolver$Range", "<init>", "(LReleaseSolver$Version;ZLReleaseSolver$Version;Z)V"⟩
abbrev x_St_indexOf : rz_X := (prog_17_method_79_code, "java/lang/String", 2, some (.int), "indexOf")
abbrev y_St_indexOf : MethodName := ⟨"java/lang/String", "indexOf", "(I)I"⟩
abbrev x_St_indexOf2 : rz_X := (prog_17_method_80_code, "java/lang/String", 3, some (.int), "indexOf")
abbrev y_St_indexOf2 : MethodName := ⟨"java/lang/String", "indexOf", "(II)I"⟩
abbrev x_S1_indexOf : rz_X := (prog_19_method_22_code, "java/lang/StringLatin1", 4, some (.int), "indexOf")
abbrev y_S1_indexOf : MethodName := ⟨"java/lang/StringLatin1", "indexOf", "([BIII)I"⟩
abbrev x_S1_canEncode2 : rz_X := (prog_19_method_4_code, "java/lang/StringLatin1", 1, some (.boolean), "canEncode")
abbrev y_S1_canEncode2 : MethodName := ⟨"java/lang/StringLatin1", "canEncode", "(I)Z"⟩
abbrev x_S1_indexOfChar : rz_X := (prog_19_method_23_code, "java/lang/StringLatin1", 6, some (.int), "indexOfChar")
abbrev y_S1_indexOfChar : MethodName := ⟨"java/lang/StringLatin1", "indexOfChar", "([BIII)I"⟩
abbrev x_S2_indexOf : rz_X := (prog_20_method_40_code, "java/lang/StringUTF16", 4, some (.int), "indexOf")
abbrev y_S2_indexOf : MethodName := ⟨"java/lang/StringUTF16", "indexOf", "([BIII)I"⟩
abbrev x_S2_indexOfChar : rz_X := (prog_20_method_47_code, "java/lang/StringUTF16", 4, some (.int), "indexOfChar")
abbrev y_S2_indexOfChar : MethodName := ⟨"java/lang/StringUTF16", "indexOfChar", "([BIII)I"⟩
abbrev x_S2_checkBoundsBeginEnd : rz_X := (prog_20_method_93_code, "java/lang/StringUTF16", 3, none, "checkBoundsBeginEnd")
abbrev y_S2_checkBoundsBeginEnd : MethodName := ⟨"java/lang/StringUTF16", "checkBoundsBeginEnd", "(II[B)V"⟩
abbrev x_S2_indexOfCharUnsafe : rz_X := (prog_20_method_48_code, "java/lang/StringUTF16", 5, some (.int), "indexOfCharUnsafe")
abbrev y_S2_indexOfCharUnsafe : MethodName := ⟨"java/lang/StringUTF16", "indexOfCharUnsafe", "([BIII)I"⟩
abbrev x_S2_indexOfSupplementary : rz_X := (prog_20_method_49_code, "java/lang/StringUTF16", 7, some (.int), "indexOfSupplementary")
abbrev y_S2_indexOfSupplementary : MethodName := ⟨"java/lang/StringUTF16", "indexOfSupplementary", "([BIII)I"⟩
abbrev x_Ch_isValidCodePoint : rz_X := (prog_13_method_11_code, "java/lang/Character", 2, some (.boolean), "isValidCodePoint")
abbrev y_Ch_isValidCodePoint : MethodName := ⟨"java/lang/Character", "isValidCodePoint", "(I)Z"⟩
abbrev x_Ch_highSurrogate : rz_X := (prog_13_method_28_code, "java/lang/Character", 1, some (.char), "highSurrogate")
abbrev y_Ch_highSurrogate : MethodName := ⟨"java/lang/Character", "highSurrogate", "(I)C"⟩
abbrev x_Ch_lowSurrogate : rz_X := (prog_13_method_29_code, "java/lang/Character", 1, some (.char), "lowSurrogate")
abbrev y_Ch_lowSurrogate : MethodName := ⟨"java/lang/Character", "lowSurrogate", "(I)C"⟩
abbrev x_Rg_readBounds : rz_X := (prog_5_method_5_code, "ReleaseSolver$Range", 8, some (.object "ReleaseSolver$Range"), "readBounds")
abbrev y_Rg_readBounds : MethodName := ⟨"ReleaseSolver$Range", "readBounds", "(Ljava/lang/String;ZZ)LReleaseSolver$Range;"⟩
abbrev x_Rg_isBound : rz_X := (prog_5_method_6_code, "ReleaseSolver$Range", 1, some (.boolean), "isBound")
abbrev y_Rg_isBound : MethodName := ⟨"ReleaseSolver$Range", "isBound", "(Ljava/lang/String;)Z"⟩
abbrev x_Rg_readExact : rz_X := (prog_5_method_4_code, "ReleaseSolver$Range", 2, some (.object "ReleaseSolver$Range"), "readExact")
abbrev y_Rg_readExact : MethodName := ⟨"ReleaseSolver$Range", "readExact", "(Ljava/lang/String;)LReleaseSolver$Range;"⟩
abbrev x_Nd_init : rz_X := (prog_3_method_1_code, "ReleaseSolver$Need", 4, none, "<init>")
abbrev y_Nd_init : MethodName := ⟨"ReleaseSolver$Need", "<init>", "(ILReleaseSolver$Range;Z)V"⟩
abbrev x_Rs_needHost : rz_X := (prog_1_method_6_code, "ReleaseSolver", 6, some (.int), "needHost")
abbrev y_Rs_needHost : MethodName := ⟨"ReleaseSolver", "needHost", "(II)I"⟩
abbrev x_Rs_withdraw : rz_X := (prog_1_method_7_code, "ReleaseSolver", 5, some (.int), "withdraw")
abbrev y_Rs_withdraw : MethodName := ⟨"ReleaseSolver", "withdraw", "(IIZ)I"⟩
abbrev x_Rs_host : rz_X := (prog_1_method_8_code, "ReleaseSolver", 2, some (.int), "host")
abbrev y_Rs_host : MethodName := ⟨"ReleaseSolver", "host", "()I"⟩
abbrev x_Rs_ask : rz_X := (prog_1_method_9_code, "ReleaseSolver", 3, some (.int), "ask")
abbrev y_Rs_ask : MethodName := ⟨"ReleaseSolver", "ask", "(I)I"⟩
abbrev x_Ak_init : rz_X := (prog_2_method_1_code, "ReleaseSolver$Ask", 3, none, "<init>")
abbrev y_Ak_init : MethodName := ⟨"ReleaseSolver$Ask", "<init>", "(ILReleaseSolver$Range;)V"⟩
abbrev x_Rs_unask : rz_X := (prog_1_method_10_code, "ReleaseSolver", 2, some (.int), "unask")
abbrev y_Rs_unask : MethodName := ⟨"ReleaseSolver", "unask", "(I)I"⟩
abbrev x_Al_remove : rz_X := (prog_24_method_29_code, "java/util/ArrayList", 4, some (.object "java/lang/Object"), "remove")
abbrev y_Al_remove : MethodName := ⟨"java/util/ArrayList", "remove", "(I)Ljava/lang/Object;"⟩
abbrev x_Al_fastRemove : rz_X := (prog_24_method_39_code, "java/util/ArrayList", 4, none, "fastRemove")
abbrev y_Al_fastRemove : MethodName := ⟨"java/util/ArrayList", "fastRemove", "([Ljava/lang/Object;I)V"⟩
abbrev x_Rs_compare : rz_X := (prog_1_method_11_code, "ReleaseSolver", 7, some (.int), "compare")
abbrev y_Rs_compare : MethodName := ⟨"ReleaseSolver", "compare", "(IIII)I"⟩
abbrev x_Rs_rank : rz_X := (prog_1_method_12_code, "ReleaseSolver", 3, some (.int), "rank")
abbrev y_Rs_rank : MethodName := ⟨"ReleaseSolver", "rank", "(I)I"⟩
abbrev x_Ve_rankOf : rz_X := (prog_8_method_4_code, "ReleaseSolver$Version", 2, some (.int), "rankOf")
abbrev y_Ve_rankOf : MethodName := ⟨"ReleaseSolver$Version", "rankOf", "(I)I"⟩
abbrev x_Rs_within : rz_X := (prog_1_method_13_code, "ReleaseSolver", 5, some (.int), "within")
abbrev y_Rs_within : MethodName := ⟨"ReleaseSolver", "within", "(II)I"⟩
abbrev x_Rg_holds : rz_X := (prog_5_method_3_code, "ReleaseSolver$Range", 2, some (.boolean), "holds")
abbrev y_Rg_holds : MethodName := ⟨"ReleaseSolver$Range", "holds", "(LReleaseSolver$Version;)Z"⟩
abbrev x_Rs_solve : rz_X := (prog_1_method_14_code, "ReleaseSolver", 2, some (.int), "solve")
abbrev y_Rs_solve : MethodName := ⟨"ReleaseSolver", "solve", "()I"⟩
abbrev x_Se_prepare : rz_X := (prog_7_method_2_code, "ReleaseSolver$Search", 6, none, "prepare")
abbrev y_Se_prepare : MethodName := ⟨"ReleaseSolver$Search", "prepare", "([LReleaseSolver$Plugin;LReleaseSolver$Version;Ljava/util/ArrayList;)V"⟩
abbrev x_Se_prepareOrder : rz_X := (prog_7_method_6_code, "ReleaseSolver$Search", 3, none, "prepareOrder")
abbrev y_Se_prepareOrder : MethodName := ⟨"ReleaseSolver$Search", "prepareOrder", "(ILReleaseSolver$Plugin;)V"⟩
abbrev x_Pl_size : rz_X := (prog_4_method_2_code, "ReleaseSolver$Plugin", 1, some (.int), "size")
abbrev y_Pl_size : MethodName := ⟨"ReleaseSolver$Plugin", "size", "()I"⟩
abbrev x_Se_prepareNeeds : rz_X := (prog_7_method_7_code, "ReleaseSolver$Search", 8, none, "prepareNeeds")
abbrev y_Se_prepareNeeds : MethodName := ⟨"ReleaseSolver$Search", "prepareNeeds", "([LReleaseSolver$Plugin;II)V"⟩
abbrev x_Pl_releasesIn : rz_X := (prog_4_method_6_code, "ReleaseSolver$Plugin", 4, some (.int), "releasesIn")
abbrev y_Pl_releasesIn : MethodName := ⟨"ReleaseSolver$Plugin", "releasesIn", "(LReleaseSolver$Range;)I"⟩
abbrev x_Se_row : rz_X := (prog_7_method_5_code, "ReleaseSolver$Search", 2, some (.int), "row")
abbrev y_Se_row : MethodName := ⟨"ReleaseSolver$Search", "row", "(II)I"⟩
abbrev x_Se_keepOnly : rz_X := (prog_7_method_8_code, "ReleaseSolver$Search", 6, none, "keepOnly")
abbrev y_Se_keepOnly : MethodName := ⟨"ReleaseSolver$Search", "keepOnly", "(IIII)V"⟩
abbrev x_Rs_hasBit : rz_X := (prog_1_method_23_code, "ReleaseSolver", 2, some (.boolean), "hasBit")
abbrev y_Rs_hasBit : MethodName := ⟨"ReleaseSolver", "hasBit", "(II)Z"⟩
abbrev x_Se_prepareUsable : rz_X := (prog_7_method_9_code, "ReleaseSolver$Search", 7, none, "prepareUsable")
abbrev y_Se_prepareUsable : MethodName := ⟨"ReleaseSolver$Search", "prepareUsable", "(ILReleaseSolver$Plugin;LReleaseSolver$Version;)V"⟩
abbrev x_Rl_isUsableOn : rz_X := (prog_6_method_2_code, "ReleaseSolver$Release", 2, some (.boolean), "isUsableOn")
abbrev y_Rl_isUsableOn : MethodName := ⟨"ReleaseSolver$Release", "isUsableOn", "(LReleaseSolver$Version;)Z"⟩
abbrev x_Se_prepareAsks : rz_X := (prog_7_method_10_code, "ReleaseSolver$Search", 5, none, "prepareAsks")
abbrev y_Se_prepareAsks : MethodName := ⟨"ReleaseSolver$Search", "prepareAsks", "([LReleaseSolver$Plugin;Ljava/util/ArrayList;)V"⟩
abbrev x_Se_finds : rz_X := (prog_7_method_3_code, "ReleaseSolver$Search", 3, some (.boolean), "finds")
abbrev y_Se_finds : MethodName := ⟨"ReleaseSolver$Search", "finds", "(I)Z"⟩
abbrev x_Se_settle : rz_X := (prog_7_method_11_code, "ReleaseSolver$Search", 3, some (.boolean), "settle")
abbrev y_Se_settle : MethodName := ⟨"ReleaseSolver$Search", "settle", "(I)Z"⟩
abbrev x_Se_tryOption : rz_X := (prog_7_method_12_code, "ReleaseSolver$Search", 7, some (.boolean), "tryOption")
abbrev y_Se_tryOption : MethodName := ⟨"ReleaseSolver$Search", "tryOption", "(II)Z"⟩
abbrev x_Se_allMayBeLedTo : rz_X := (prog_7_method_13_code, "ReleaseSolver$Search", 5, some (.boolean), "allMayBeLedTo")
abbrev y_Se_allMayBeLedTo : MethodName := ⟨"ReleaseSolver$Search", "allMayBeLedTo", "([I)Z"⟩
abbrev x_Se_leadsFrom : rz_X := (prog_7_method_14_code, "ReleaseSolver$Search", 6, some (.int), "leadsFrom")
abbrev y_Se_leadsFrom : MethodName := ⟨"ReleaseSolver$Search", "leadsFrom", "(I[I)I"⟩
abbrev x_Rs_keepSelection : rz_X := (prog_1_method_29_code, "ReleaseSolver", 3, some (.int), "keepSelection")
abbrev y_Rs_keepSelection : MethodName := ⟨"ReleaseSolver", "keepSelection", "()I"⟩
abbrev x_Se_found : rz_X := (prog_7_method_4_code, "ReleaseSolver$Search", 3, some (.int), "found")
abbrev y_Se_found : MethodName := ⟨"ReleaseSolver$Search", "found", "(I)I"⟩
abbrev x_Rs_blameAmong : rz_X := (prog_1_method_30_code, "ReleaseSolver", 5, some (.int), "blameAmong")
abbrev y_Rs_blameAmong : MethodName := ⟨"ReleaseSolver", "blameAmong", "(I)I"⟩
abbrev x_Rs_chosen : rz_X := (prog_1_method_15_code, "ReleaseSolver", 2, some (.int), "chosen")
abbrev y_Rs_chosen : MethodName := ⟨"ReleaseSolver", "chosen", "(I)I"⟩
abbrev x_Rs_blamed : rz_X := (prog_1_method_16_code, "ReleaseSolver", 2, some (.boolean), "blamed")
abbrev y_Rs_blamed : MethodName := ⟨"ReleaseSolver", "blamed", "(I)Z"⟩
abbrev x_Rs_unmet : rz_X := (prog_1_method_17_code, "ReleaseSolver", 3, some (.int), "unmet")
abbrev y_Rs_unmet : MethodName := ⟨"ReleaseSolver", "unmet", "()I"⟩
abbrev x_Rs_isMet : rz_X := (prog_1_method_31_code, "ReleaseSolver", 3, some (.boolean), "isMet")
abbrev y_Rs_isMet : MethodName := ⟨"ReleaseSolver", "isMet", "(LReleaseSolver$Ask;)Z"⟩
abbrev x_Rs_count : rz_X := (prog_1_method_18_code, "ReleaseSolver", 2, some (.int), "count")
abbrev y_Rs_count : MethodName := ⟨"ReleaseSolver", "count", "(I)I"⟩
abbrev x_Rs_countReleases : rz_X := (prog_1_method_32_code, "ReleaseSolver", 6, some (.int), "countReleases")
abbrev y_Rs_countReleases : MethodName := ⟨"ReleaseSolver", "countReleases", "()I"⟩
abbrev x_Rs_countWithdrawn : rz_X := (prog_1_method_33_code, "ReleaseSolver", 6, some (.int), "countWithdrawn")
abbrev y_Rs_countWithdrawn : MethodName := ⟨"ReleaseSolver", "countWithdrawn", "()I"⟩
abbrev x_Pl_withdrawnReleases : rz_X := (prog_4_method_7_code, "ReleaseSolver$Plugin", 3, some (.int), "withdrawnReleases")
abbrev y_Pl_withdrawnReleases : MethodName := ⟨"ReleaseSolver$Plugin", "withdrawnReleases", "()I"⟩
abbrev x_Rs_countNeeds : rz_X := (prog_1_method_34_code, "ReleaseSolver", 6, some (.int), "countNeeds")
abbrev y_Rs_countNeeds : MethodName := ⟨"ReleaseSolver", "countNeeds", "()I"⟩
abbrev x_Pl_needsOfReleases : rz_X := (prog_4_method_8_code, "ReleaseSolver$Plugin", 3, some (.int), "needsOfReleases")
abbrev y_Pl_needsOfReleases : MethodName := ⟨"ReleaseSolver$Plugin", "needsOfReleases", "()I"⟩
abbrev x_Md_init : rz_X := (prog_10_method_1_code, "ReleaseSolverModel", 1, none, "<init>")
abbrev y_Md_init : MethodName := ⟨"ReleaseSolverModel", "<init>", "()V"⟩
abbrev x_Md_write : rz_X := (prog_10_method_8_code, "ReleaseSolverModel", 6, some (.int), "write")
abbrev y_Md_write : MethodName := ⟨"ReleaseSolverModel", "write", "(IIII)I"⟩
abbrev x_Md_may : rz_X := (prog_10_method_5_code, "ReleaseSolverModel", 1, some (.boolean), "may")
abbrev y_Md_may : MethodName := ⟨"ReleaseSolverModel", "may", "(I)Z"⟩
abbrev x_Md_digit : rz_X := (prog_10_method_3_code, "ReleaseSolverModel", 1, some (.boolean), "digit")
abbrev y_Md_digit : MethodName := ⟨"ReleaseSolverModel", "digit", "(I)Z"⟩
abbrev x_Md_in : rz_X := (prog_10_method_2_code, "ReleaseSolverModel", 3, some (.boolean), "in")
abbrev y_Md_in : MethodName := ⟨"ReleaseSolverModel", "in", "(III)Z"⟩
abbrev x_Md_letter : rz_X := (prog_10_method_4_code, "ReleaseSolverModel", 1, some (.boolean), "letter")
abbrev y_Md_letter : MethodName := ⟨"ReleaseSolverModel", "letter", "(I)Z"⟩
abbrev x_Md_put : rz_X := (prog_10_method_7_code, "ReleaseSolverModel", 2, some (.int), "put")
abbrev y_Md_put : MethodName := ⟨"ReleaseSolverModel", "put", "(I)I"⟩
abbrev x_Md_wipe : rz_X := (prog_10_method_9_code, "ReleaseSolverModel", 2, some (.int), "wipe")
abbrev y_Md_wipe : MethodName := ⟨"ReleaseSolverModel", "wipe", "()I"⟩
abbrev x_Md_release : rz_X := (prog_10_method_25_code, "ReleaseSolverModel", 3, some (.int), "release")
abbrev y_Md_release : MethodName := ⟨"ReleaseSolverModel", "release", "(I)I"⟩
abbrev x_Md_version : rz_X := (prog_10_method_11_code, "ReleaseSolverModel", 9, some (.boolean), "version")
abbrev y_Md_version : MethodName := ⟨"ReleaseSolverModel", "version", "(III)Z"⟩
abbrev x_Md_at : rz_X := (prog_10_method_6_code, "ReleaseSolverModel", 3, some (.int), "at")
abbrev y_Md_at : MethodName := ⟨"ReleaseSolverModel", "at", "(II)I"⟩
abbrev x_Md_used : rz_X := (prog_10_method_24_code, "ReleaseSolverModel", 2, some (.int), "used")
abbrev y_Md_used : MethodName := ⟨"ReleaseSolverModel", "used", "(I)I"⟩
abbrev x_Md_ordered : rz_X := (prog_10_method_19_code, "ReleaseSolverModel", 19, some (.int), "ordered")
abbrev y_Md_ordered : MethodName := ⟨"ReleaseSolverModel", "ordered", "(IIII)I"⟩
abbrev x_Md_item : rz_X := (prog_10_method_12_code, "ReleaseSolverModel", 4, some (.boolean), "item")
abbrev y_Md_item : MethodName := ⟨"ReleaseSolverModel", "item", "(III)Z"⟩
abbrev x_Md_rankOf : rz_X := (prog_10_method_16_code, "ReleaseSolverModel", 4, some (.int), "rankOf")
abbrev y_Md_rankOf : MethodName := ⟨"ReleaseSolverModel", "rankOf", "(IZ)I"⟩
abbrev x_Md_wordRank : rz_X := (prog_10_method_15_code, "ReleaseSolverModel", 7, some (.int), "wordRank")
abbrev y_Md_wordRank : MethodName := ⟨"ReleaseSolverModel", "wordRank", "(III)I"⟩
abbrev x_Md_word : rz_X := (prog_10_method_13_code, "ReleaseSolverModel", 7, some (.long), "word")
abbrev y_Md_word : MethodName := ⟨"ReleaseSolverModel", "word", "(III)J"⟩
abbrev x_Md_spelt : rz_X := (prog_10_method_14_code, "ReleaseSolverModel", 7, some (.long), "spelt")
abbrev y_Md_spelt : MethodName := ⟨"ReleaseSolverModel", "spelt", "(IIIII)J"⟩
abbrev x_Md_words : rz_X := (prog_10_method_18_code, "ReleaseSolverModel", 10, some (.int), "words")
abbrev y_Md_words : MethodName := ⟨"ReleaseSolverModel", "words", "(IIIIII)I"⟩
abbrev x_Md_number : rz_X := (prog_10_method_17_code, "ReleaseSolverModel", 7, some (.long), "number")
abbrev y_Md_number : MethodName := ⟨"ReleaseSolverModel", "number", "(III)J"⟩
abbrev x_Md_keep : rz_X := (prog_10_method_10_code, "ReleaseSolverModel", 3, none, "keep")
abbrev y_Md_keep : MethodName := ⟨"ReleaseSolverModel", "keep", "(I)V"⟩
abbrev x_Md_need : rz_X := (prog_10_method_26_code, "ReleaseSolverModel", 7, some (.int), "need")
abbrev y_Md_need : MethodName := ⟨"ReleaseSolverModel", "need", "(IIIZ)I"⟩
abbrev x_Md_none : rz_X := (prog_10_method_23_code, "ReleaseSolverModel", 3, some (.boolean), "none")
abbrev y_Md_none : MethodName := ⟨"ReleaseSolverModel", "none", "(II)Z"⟩
abbrev x_Md_range : rz_X := (prog_10_method_21_code, "ReleaseSolverModel", 6, some (.boolean), "range")
abbrev y_Md_range : MethodName := ⟨"ReleaseSolverModel", "range", "(I)Z"⟩
abbrev x_Md_comma : rz_X := (prog_10_method_20_code, "ReleaseSolverModel", 3, some (.int), "comma")
abbrev y_Md_comma : MethodName := ⟨"ReleaseSolverModel", "comma", "(I)I"⟩
abbrev x_Md_needHost : rz_X := (prog_10_method_27_code, "ReleaseSolverModel", 4, some (.int), "needHost")
abbrev y_Md_needHost : MethodName := ⟨"ReleaseSolverModel", "needHost", "(II)I"⟩
abbrev x_Md_withdraw : rz_X := (prog_10_method_28_code, "ReleaseSolverModel", 4, some (.int), "withdraw")
abbrev y_Md_withdraw : MethodName := ⟨"ReleaseSolverModel", "withdraw", "(IIZ)I"⟩
abbrev x_Md_host : rz_X := (prog_10_method_29_code, "ReleaseSolverModel", 1, some (.int), "host")
abbrev y_Md_host : MethodName := ⟨"ReleaseSolverModel", "host", "()I"⟩
abbrev x_Md_ask : rz_X := (prog_10_method_30_code, "ReleaseSolverModel", 2, some (.int), "ask")
abbrev y_Md_ask : MethodName := ⟨"ReleaseSolverModel", "ask", "(I)I"⟩
abbrev x_Md_unask : rz_X := (prog_10_method_31_code, "ReleaseSolverModel", 4, some (.int), "unask")
abbrev y_Md_unask : MethodName := ⟨"ReleaseSolverModel", "unask", "(I)I"⟩
abbrev x_Md_compare : rz_X := (prog_10_method_32_code, "ReleaseSolverModel", 6, some (.int), "compare")
abbrev y_Md_compare : MethodName := ⟨"ReleaseSolverModel", "compare", "(IIII)I"⟩
abbrev x_Md_compareTexts : rz_X := (prog_10_method_33_code, "ReleaseSolverModel", 3, some (.int), "compareTexts")
abbrev y_Md_compareTexts : MethodName := ⟨"ReleaseSolverModel", "compareTexts", "(II)I"⟩
abbrev x_Md_rank : rz_X := (prog_10_method_34_code, "ReleaseSolverModel", 5, some (.int), "rank")
abbrev y_Md_rank : MethodName := ⟨"ReleaseSolverModel", "rank", "(I)I"⟩
abbrev x_Md_within : rz_X := (prog_10_method_35_code, "ReleaseSolverModel", 3, some (.int), "within")
abbrev y_Md_within : MethodName := ⟨"ReleaseSolverModel", "within", "(II)I"⟩
abbrev x_Md_inside : rz_X := (prog_10_method_22_code, "ReleaseSolverModel", 8, some (.boolean), "inside")
abbrev y_Md_inside : MethodName := ⟨"ReleaseSolverModel", "inside", "(II)Z"⟩
abbrev x_Md_solve : rz_X := (prog_10_method_44_code, "ReleaseSolverModel", 4, some (.int), "solve")
abbrev y_Md_solve : MethodName := ⟨"ReleaseSolverModel", "solve", "()I"⟩
abbrev x_Md_search : rz_X := (prog_10_method_42_code, "ReleaseSolverModel", 6, some (.boolean), "search")
abbrev y_Md_search : MethodName := ⟨"ReleaseSolverModel", "search", "()Z"⟩
abbrev x_Md_ranked : rz_X := (prog_10_method_36_code, "ReleaseSolverModel", 6, some (.int), "ranked")
abbrev y_Md_ranked : MethodName := ⟨"ReleaseSolverModel", "ranked", "(II)I"⟩
abbrev x_Md_good : rz_X := (prog_10_method_41_code, "ReleaseSolverModel", 2, some (.boolean), "good")
abbrev y_Md_good : MethodName := ⟨"ReleaseSolverModel", "good", "()Z"⟩
abbrev x_Md_meets : rz_X := (prog_10_method_38_code, "ReleaseSolverModel", 3, some (.boolean), "meets")
abbrev y_Md_meets : MethodName := ⟨"ReleaseSolverModel", "meets", "(II)Z"⟩
abbrev x_Md_slot : rz_X := (prog_10_method_37_code, "ReleaseSolverModel", 2, some (.int), "slot")
abbrev y_Md_slot : MethodName := ⟨"ReleaseSolverModel", "slot", "(I)I"⟩
abbrev x_Md_releaseGood : rz_X := (prog_10_method_39_code, "ReleaseSolverModel", 5, some (.boolean), "releaseGood")
abbrev y_Md_releaseGood : MethodName := ⟨"ReleaseSolverModel", "releaseGood", "(I)Z"⟩
abbrev x_Md_allLed : rz_X := (prog_10_method_40_code, "ReleaseSolverModel", 4, some (.boolean), "allLed")
abbrev y_Md_allLed : MethodName := ⟨"ReleaseSolverModel", "allLed", "()Z"⟩
abbrev x_Md_findBlame : rz_X := (prog_10_method_43_code, "ReleaseSolverModel", 2, none, "findBlame")
abbrev y_Md_findBlame : MethodName := ⟨"ReleaseSolverModel", "findBlame", "()V"⟩
abbrev x_Md_chosen : rz_X := (prog_10_method_45_code, "ReleaseSolverModel", 2, some (.int), "chosen")
abbrev y_Md_chosen : MethodName := ⟨"ReleaseSolverModel", "chosen", "(I)I"⟩
abbrev x_Md_blamed : rz_X := (prog_10_method_46_code, "ReleaseSolverModel", 2, some (.boolean), "blamed")
abbrev y_Md_blamed : MethodName := ⟨"ReleaseSolverModel", "blamed", "(I)Z"⟩
abbrev x_Md_unmet : rz_X := (prog_10_method_47_code, "ReleaseSolverModel", 3, some (.int), "unmet")
abbrev y_Md_unmet : MethodName := ⟨"ReleaseSolverModel", "unmet", "()I"⟩
abbrev x_Md_count : rz_X := (prog_10_method_48_code, "ReleaseSolverModel", 7, some (.int), "count")
abbrev y_Md_count : MethodName := ⟨"ReleaseSolverModel", "count", "(I)I"⟩
end
section
/-! CORE: Java's numbers as integers; the heap as a map with tags; a walk that hides the machine -/
abbrev vi (x : Int) : Value := Value.int (Int32.ofInt x)
abbrev vl (x : Int) : Value := Value.long (Int64.ofInt x)
def bi (b : Bool) : Int := if b = true then 1 else 0
theorem bi_t : bi true = 1 := rfl
theorem bi_f : bi false = 0 := rfl
theorem bi_in (b : Bool) : 0 ≤ bi b ∧ bi b ≤ 1 := by cases b <;> decide
theorem bi_eq0 (b : Bool) : bi b = 0 ↔ b = false := by cases b <;> decide
/-- tables: data of the classes, array classes, where the world begins, what lay there before, its addresses -/
abbrev rz_G : Type := va_G × (Nat → ClassId) × Nat × (Nat → Option (Nat × va_E)) × (Nat → Nat)
/-- the heap: an address, a tag (what for, whose), a cell; tag (0, t) is of old, read only -/
abbrev rz_H : Type := Nat → Option ((Nat × Nat) × va_E)
abbrev rz_K : Type := Launch × Program × Env × State × MethodId × Array Value × List Frame × Method × Code
abbrev rz_A (Γ : rz_G) : Nat → Prop := fun q => Γ.2.2.1 ≤ q
def rz_up (h : rz_H) (a : Nat) (x : (Nat × Nat) × va_E) : rz_H := fun b => if b = a then some x else h b
theorem rz_up_s (h : rz_H) (a : Nat) (x : (Nat × Nat) × va_E) : rz_up h a x a = some x := by simp [rz_up]
theorem rz_up_n {h : rz_H} {a b : Nat} {x : (Nat × Nat) × va_E} (hn : b ≠ a) : rz_up h a x b = h b := by simp [rz_up, hn]
/-- cells of other tags stay -/
theorem rz_up_t {h : rz_H} {a b : Nat} {x : (Nat × Nat) × va_E} {ta tb : Nat × Nat} {ea eb : va_E} (ha : h a = some (ta, ea)) (hb : h b = some (tb, eb)) (hn : tb ≠ ta) : rz_up h a x b = some (tb, eb) := by
  rw [rz_up_n (fun e => hn (by rw [e, ha] at hb; cases hb; rfl)), hb]
/-- a new cell: all others stay -/
theorem rz_up_f {h : rz_H} {a b : Nat} {x y : (Nat × Nat) × va_E} (ha : h a = none) (hb : h b = some y) : rz_up h a x b = some y := by
  rw [rz_up_n (fun e => by rw [e, ha] at hb; cases hb), hb]
/-- what lay there before: objects whose first fields are known, arrays of numbers or of references -/
def rz_fz (Γ : rz_G) (t a : Nat) (e : va_E) (U : State) : Prop := match e with
  | .inr o => ∃ r : vw_C, rz_cl[o.1]? = some r ∧ va_O r.1 a (rz_A Γ) U U.heap ∧ ∀ k v, o.2[k]? = some v → va_OF (r.2.1 k).1 (r.2.1 k).2.1 (r.2.1 k).2.2.1 v a (rz_A Γ) U U.heap
  | .inl (_, n, .inl f) => ∃ ty, (rz_T Γ.2.1)[t]? = some ty ∧ va_T ty.2 a n (fun j => .int (f j)) (rz_A Γ) U U.heap
  | .inl (_, n, .inr (.inr (.inr (.inr f)))) => ∃ ty, (rz_T Γ.2.1)[t]? = some ty ∧ va_T ty.2 a n (fun j => va_rf (f j)) (rz_A Γ) U U.heap
  | _ => False
theorem rz_fz.moved {Γ : rz_G} {t a : Nat} {e : va_E} {s U : State} (hvm : s.vm.Alike U.vm) (hk : ∀ q : Nat, q < s.heap.size → ¬ rz_A Γ q → U.heap[q]? = s.heap[q]?) (h : rz_fz Γ t a e s) : rz_fz Γ t a e U := by
  obtain ⟨cA, n, f | f | f | f | f⟩ | o := e
  · obtain ⟨ty, h1, h2⟩ := h
    exact ⟨ty, h1, (va_T.moved hvm h2).kept hk⟩
  · exact h
  · exact h
  · exact h
  · obtain ⟨ty, h1, h2⟩ := h
    exact ⟨ty, h1, (va_T.moved hvm h2).kept hk⟩
  · obtain ⟨r, h1, h2, h3⟩ := h
    exact ⟨r, h1, (va_O.moved hvm h2).kept hk, fun k v hv => (va_OF.moved hvm (h3 k v hv)).kept hk⟩
theorem rz_fz.out {Γ : rz_G} {t a : Nat} {e : va_E} {U : State} (h : rz_fz Γ t a e U) : ¬ rz_A Γ a := by
  obtain ⟨cA, n, f | f | f | f | f⟩ | o := e
  · obtain ⟨ty, h1, cell, -, -, -, -, -, -, h2⟩ := h
    exact h2
  · exact h.elim
  · exact h.elim
  · exact h.elim
  · obtain ⟨ty, h1, cell, -, -, -, -, -, -, h2⟩ := h
    exact h2
  · obtain ⟨r, h1, ⟨cell, -, -, -, h2⟩, h3⟩ := h
    exact h2
/-- what a method may count on: tables, words, statics, constants -/
def rz_E (Γ : rz_G) (U : State) : Prop :=
  va_K Γ.1 rz_cl (rz_T Γ.2.1) U ∧ Γ.2.2.1 ≤ U.heap.size ∧ (∀ w ∈ rz_W, ∀ a : Array Value, w.before a U = true) ∧
  ((∀ q ∈ rz_NF, va_Nw (.fieldLinkNest q.1 q.2.1 q.2.2.1 q.2.2.2.1 q.2.2.2.2.1 q.2.2.2.2.2) U) ∧ (∀ q ∈ rz_NM, va_Nw (.methodLinkNest q.1 q.2.1 q.2.2.1 q.2.2.2) U) ∧ (∀ q ∈ rz_NC, va_Nw (.castable q.1 q.2) U) ∧ ∀ q ∈ rz_NA, va_AO q U) ∧
  (∀ a t e, Γ.2.2.2.1 a = some (t, e) → rz_fz Γ t a e U) ∧ (∀ q ∈ rz_Z Γ.2.2.2.2, va_Z q.1 q.2.1 q.2.2.1 q.2.2.2 (rz_A Γ) U U.heap) ∧ ∀ q ∈ rz_S Γ.2.2.2.2, vk_R q.1 q.2.1 q.2.2.1 q.2.2.2 U
theorem rz_E.moved {Γ : rz_G} {s U : State} (hE : rz_E Γ s) (hz : s.heap.size ≤ U.heap.size) (hk : ∀ q : Nat, q < s.heap.size → ¬ rz_A Γ q → U.heap[q]? = s.heap[q]?) (hW : s.WarmedH U.vm) : rz_E Γ U := by
  obtain ⟨h1, h2, h3, ⟨h4, h5, h6, h7⟩, h8, h9, h10⟩ := hE
  refine ⟨va_K.moved hW.alike h1, Nat.le_trans h2 hz, fun w hw a => word_at hW (rz_good w hw) (h3 w hw a), ⟨fun q hq => va_Nw.warmF hW (h4 q hq), fun q hq => va_Nw.warmM hW (h5 q hq), fun q hq => va_Nw.warmC hW (h6 q hq), fun q hq => va_AO.moved hW.alike (h7 q hq)⟩,
    fun a t e he => (h8 a t e he).moved hW.alike hk, fun q hq => (va_Z.moved hW.alike (h9 q hq)).kept hk, fun q hq => vk_R.warm hW (h10 q hq)⟩
/-- the machine's heap holds the map -/
def rz_O (Γ : rz_G) (h : rz_H) (H : Heap) : Prop := ∃ ws : va_W, va_P Γ.1 rz_cl ws H ∧ va_D (rz_A Γ) ws ∧ ∀ (a : Nat) (t : Nat × Nat) (e : va_E), h a = some (t, e) → (t.1 ≠ 0 ∧ ∃ k : Nat, ws[k]? = some (a, e)) ∨ (t.1 = 0 ∧ Γ.2.2.2.1 a = some (t.2, e))
theorem rz_O.set {Γ : rz_G} {h : rz_H} {ws : va_W} {k a : Nat} {t : Nat × Nat} {e e' : va_E} {H1 : Heap} (hws : ∀ (a : Nat) (t : Nat × Nat) (e : va_E), h a = some (t, e) → (t.1 ≠ 0 ∧ ∃ k : Nat, ws[k]? = some (a, e)) ∨ (t.1 = 0 ∧ Γ.2.2.2.1 a = some (t.2, e)))
    (hk : ws[k]? = some (a, e)) (ht : t.1 ≠ 0) (hP1 : va_P Γ.1 rz_cl (ws.set k (a, e')) H1) (hD1 : va_D (rz_A Γ) (ws.set k (a, e'))) : rz_O Γ (rz_up h a (t, e')) H1 := by
  refine ⟨_, hP1, hD1, fun b tb eb hb => ?_⟩
  have hl := (List.getElem?_eq_some_iff.mp hk).1
  by_cases hba : b = a
  · subst hba
    rw [rz_up_s] at hb
    cases hb
    exact Or.inl ⟨ht, k, List.getElem?_set_self hl⟩
  · rw [rz_up_n hba] at hb
    rcases hws b tb eb hb with ⟨h1, j, hj⟩ | h1
    · refine Or.inl ⟨h1, j, ?_⟩
      rw [List.getElem?_set_ne (fun e => hba (by rw [e, hj] at hk; cases hk; rfl))]
      exact hj
    · exact Or.inr h1
theorem rz_O.push {Γ : rz_G} {h : rz_H} {ws : va_W} {q : Nat} {t : Nat × Nat} {e : va_E} {s : State} {H1 : Heap} (hE : rz_E Γ s) (hws : ∀ (a : Nat) (t : Nat × Nat) (e : va_E), h a = some (t, e) → (t.1 ≠ 0 ∧ ∃ k : Nat, ws[k]? = some (a, e)) ∨ (t.1 = 0 ∧ Γ.2.2.2.1 a = some (t.2, e)))
    (ht : t.1 ≠ 0) (hP1 : va_P Γ.1 rz_cl (ws ++ [(q, e)]) H1) (hD1 : va_D (rz_A Γ) (ws ++ [(q, e)])) : h q = none ∧ rz_O Γ (rz_up h q (t, e)) H1 := by
  have hq : (ws ++ [(q, e)])[ws.length]? = some (q, e) := by simp
  have hn : h q = none := by
    cases hx : h q with
    | none => rfl
    | some x =>
      obtain ⟨tx, ex⟩ := x
      rcases hws q tx ex hx with ⟨-, j, hj⟩ | ⟨-, h2⟩
      · have hl := (List.getElem?_eq_some_iff.mp hj).1
        have hj2 : (ws ++ [(q, e)])[j]? = some (q, ex) := by rw [List.getElem?_append_left hl]; exact hj
        have := hD1.1 j ws.length _ _ hj2 hq rfl
        omega
      · exact absurd (hD1.2 _ _ hq) (hE.2.2.2.2.1 q _ _ h2).out
  refine ⟨hn, _, hP1, hD1, fun b tb eb hb => ?_⟩
  by_cases hba : b = q
  · subst hba
    rw [rz_up_s] at hb
    cases hb
    exact Or.inl ⟨ht, _, hq⟩
  · rw [rz_up_n hba] at hb
    rcases hws b tb eb hb with ⟨h1, j, hj⟩ | h1
    · exact Or.inl ⟨h1, j, by rw [List.getElem?_append_left (List.getElem?_eq_some_iff.mp hj).1]; exact hj⟩
    · exact Or.inr h1
/-- a contract's end -/
def rz_Q (Γ : rz_G) (post : Option Value → rz_H → Prop) : Array Value → State → Outcome → State → Prop := fun _ st oc t => (∃ (v : Option Value) (h' : rz_H), oc = .returned v ∧ post v h' ∧ rz_O Γ h' t.heap) ∧ va_F (rz_A Γ) st t
/-- a contract: y with these arguments, over this heap -/
def Ct (l : Launch) (Γ : rz_G) (X : rz_X) (y : MethodName) (rm : Room) (args : List Value) (h : rz_H) (post : Option Value → rz_H → Prop) : Prop :=
  Met l y [.code y X.1 X.2.2.1 X.2.2.2.1] rm (va_Pc args (fun U => rz_E Γ U ∧ rz_O Γ h U.heap)) (rz_Q Γ post) rm.cells rm.slots (rz_A Γ)
def rz_C (Γ : rz_G) (X : rz_X) (K : rz_K) : Prop := K.2.1.tables.exec = Jvm.exec ∧ K.2.2.2.2.2.2.2.2.code = X.1 ∧ K.2.2.2.2.2.2.2.2.maxLocals = X.2.2.1 ∧ K.2.2.2.1.vm.findClass X.2.1 = some K.2.2.2.2.1.cls ∧ K.2.2.2.2.2.2.2.1.sig.returnType = X.2.2.2.1 ∧ K.2.2.2.2.2.2.2.1.locks = false ∧ K.2.2.2.2.2.2.2.1.name = X.2.2.2.2 ∧ rz_E Γ K.2.2.2.1
def Wk (Γ : rz_G) (X : rz_X) (rm : Room) (post : Option Value → rz_H → Prop) (K : rz_K) (cells slots pc : Nat) (L : List (Nat × Value)) (st : List Value) (h : rz_H) : Prop :=
  rz_C Γ X K → ∀ (H : Heap) (locs : List Loc) (ls : Array Slot), rz_O Γ h H → va_S (rz_A Γ) K.2.2.2.1.heap H locs → lv_has ls X.2.2.1 L →
    W K.2.1 K.1 K.2.2.1 rm K.2.2.2.1 K.2.2.2.2.1 K.2.2.2.2.2.1 K.2.2.2.2.2.2.1 K.2.2.2.2.2.2.2.1 K.2.2.2.2.2.2.2.2 H locs cells slots (MQ K.2.2.2.2.2.2.1 (rz_Q Γ post) K.2.2.2.2.2.1 K.2.2.2.1 rm.cells rm.slots (rz_A Γ)) (F0 K.2.2.2.2.1 pc ls st)
/-- a contract out of a walk of the body -/
theorem rz_met {l : Launch} {Γ : rz_G} {X : rz_X} {y : MethodName} {rm : Room} {args : List Value} {h : rz_H} {post : Option Value → rz_H → Prop} (hy : plainName y.cls = true) (hX : X.2.1 = y.cls) (hN : X.2.2.2.2 = y.name) (hl : (lg_sl args).length ≤ X.2.2.1)
    (body : ∀ K : rz_K, K.1 = l → Wk Γ X rm post K 0 0 0 (lv_args 0 args) [] h) : Ct l Γ X y rm args h post := by
  refine Met.ofW (cc := X.1) (maxL := X.2.2.1) (ret := X.2.2.2.1) hy rfl ?_
  intro p e s m args' below meth c s₁ B hml hv
  obtain ⟨rfl, hE, hO⟩ := hv
  have hown : s.vm.findClass y.cls = some m.cls := findClass_of_methodNamed B.named
  have hnm : meth.name = y.name := (name_of_methodNamed B.named B.method).1
  rw [lg_entry_eq]
  exact body (l, p, e, s, m, args.toArray, below, meth, c) rfl ⟨B.exec, B.bytes, hml, by rw [hX]; exact hown, B.returns, B.notSynchronized, by rw [hN]; exact hnm, hE⟩ s.heap [] _ hO va_S.rf (lv_entry args hl)
/-- more room than is needed -/
theorem Wk.widen {Γ : rz_G} {X : rz_X} {rm : Room} {post : Option Value → rz_H → Prop} {K : rz_K} {cells slots pc : Nat} {L : List (Nat × Value)} {st : List Value} {h : rz_H} {k n : Nat} (h1 : cells ≤ k) (h2 : slots ≤ n) (kk : Wk Γ X rm post K k n pc L st h) : Wk Γ X rm post K cells slots pc L st h :=
  fun C H locs ls hO hS hl => W.widen h1 h2 (kk C H locs ls hO hS hl)
theorem rz_top {Γ : rz_G} {X : rz_X} {rm : Room} {post : Option Value → rz_H → Prop} {K : rz_K} {cells slots pc : Nat} {L : List (Nat × Value)} {st : List Value} {h : rz_H} {x : Int} (k : ∀ y : Int, y = x → Wk Γ X rm post K cells slots pc L (vi y :: st) h) : Wk Γ X rm post K cells slots pc L (vi x :: st) h := k x rfl
theorem rz_topl {Γ : rz_G} {X : rz_X} {rm : Room} {post : Option Value → rz_H → Prop} {K : rz_K} {cells slots pc : Nat} {L : List (Nat × Value)} {st : List Value} {h : rz_H} {x : Int} (k : ∀ y : Int, y = x → Wk Γ X rm post K cells slots pc L (vl y :: st) h) : Wk Γ X rm post K cells slots pc L (vl x :: st) h := k x rfl
/-! numbers -/
theorem rz_ti {a : Int} (r : -2147483648 ≤ a ∧ a ≤ 2147483647) : (Int32.ofInt a).toInt = a := Int32.toInt_ofInt_of_le (by omega) (by omega)
theorem rz_tl {a : Int} (r : -9223372036854775808 ≤ a ∧ a ≤ 9223372036854775807) : (Int64.ofInt a).toInt = a := Int64.toInt_ofInt_of_le (by omega) (by omega)
theorem rz_lt {a b : Int} (ra : -2147483648 ≤ a ∧ a ≤ 2147483647) (rb : -2147483648 ≤ b ∧ b ≤ 2147483647) : Int32.ofInt a < Int32.ofInt b ↔ a < b := by rw [Int32.lt_iff_toInt_lt, rz_ti ra, rz_ti rb]
theorem rz_le {a b : Int} (ra : -2147483648 ≤ a ∧ a ≤ 2147483647) (rb : -2147483648 ≤ b ∧ b ≤ 2147483647) : Int32.ofInt a ≤ Int32.ofInt b ↔ a ≤ b := by rw [Int32.le_iff_toInt_le, rz_ti ra, rz_ti rb]
theorem rz_eq {a b : Int} (ra : -2147483648 ≤ a ∧ a ≤ 2147483647) (rb : -2147483648 ≤ b ∧ b ≤ 2147483647) : Int32.ofInt a = Int32.ofInt b ↔ a = b := by rw [← Int32.toInt_inj, rz_ti ra, rz_ti rb]
theorem rz_0 : (0 : Int32) = Int32.ofInt 0 := rfl
theorem rz_in {i : Int} {n : Nat} (hi : 0 ≤ i ∧ i < n ∧ i ≤ 2147483647) : vp_in (Int32.ofInt i) n := vp_in_iff.mpr (by rw [rz_ti (by omega)]; omega)
theorem rz_cl_i {i : Int} (hi : 0 ≤ i ∧ i ≤ 2147483647) : (Int32.ofInt i).toNatClampNeg = i.toNat := by rw [← Int32.toNat_toInt, rz_ti (by omega)]
theorem rz_of (x : Int32) : ∃ a : Int, (-2147483648 ≤ a ∧ a ≤ 2147483647) ∧ x = Int32.ofInt a := ⟨x.toInt, by have h1 := x.toInt_lt; have h2 := x.le_toInt; omega, (Int32.ofInt_toInt x).symm⟩
/-! rows: constants -/
theorem rz_iconst {Γ : rz_G} {X : rz_X} {rm : Room} {post : Option Value → rz_H → Prop} {K : rz_K} {cells slots pc : Nat} {L : List (Nat × Value)} {st : List Value} {h : rz_H} {n : Int} (hd : decode X.1 pc = .ok (.iconst n, 1)) (k : Wk Γ X rm post K cells slots (pc + 1) L (vi n :: st) h) : Wk Γ X rm post K cells slots pc L st h :=
  fun C H locs ls hO hS hl => lv_iconst C.1 C.2.1 hd rfl (k C H locs ls hO hS hl)
theorem rz_bipush {Γ : rz_G} {X : rz_X} {rm : Room} {post : Option Value → rz_H → Prop} {K : rz_K} {cells slots pc : Nat} {L : List (Nat × Value)} {st : List Value} {h : rz_H} {n v : Int} (hd : decode X.1 pc = .ok (.bipush n, 2)) (hv : (Int8.ofInt n).toInt32 = Int32.ofInt v) (k : Wk Γ X rm post K cells slots (pc + 2) L (vi v :: st) h) : Wk Γ X rm post K cells slots pc L st h :=
  fun C H locs ls hO hS hl => lv_bipush C.1 C.2.1 hd hv (k C H locs ls hO hS hl)
theorem rz_sipush {Γ : rz_G} {X : rz_X} {rm : Room} {post : Option Value → rz_H → Prop} {K : rz_K} {cells slots pc : Nat} {L : List (Nat × Value)} {st : List Value} {h : rz_H} {n v : Int} (hd : decode X.1 pc = .ok (.sipush n, 3)) (hv : (Int16.ofInt n).toInt32 = Int32.ofInt v) (k : Wk Γ X rm post K cells slots (pc + 3) L (vi v :: st) h) : Wk Γ X rm post K cells slots pc L st h :=
  fun C H locs ls hO hS hl => lv_sipush C.1 C.2.1 hd hv (k C H locs ls hO hS hl)
theorem rz_lconst {Γ : rz_G} {X : rz_X} {rm : Room} {post : Option Value → rz_H → Prop} {K : rz_K} {cells slots pc : Nat} {L : List (Nat × Value)} {st : List Value} {h : rz_H} {n : Fin 2} {v : Int} (hd : decode X.1 pc = .ok (.lconst n, 1)) (hv : Int64.ofNat (n : Nat) = Int64.ofInt v) (k : Wk Γ X rm post K cells slots (pc + 1) L (vl v :: st) h) : Wk Γ X rm post K cells slots pc L st h :=
  fun C H locs ls hO hS hl => lv_lconst C.1 C.2.1 hd hv (k C H locs ls hO hS hl)
theorem rz_null {Γ : rz_G} {X : rz_X} {rm : Room} {post : Option Value → rz_H → Prop} {K : rz_K} {cells slots pc : Nat} {L : List (Nat × Value)} {st : List Value} {h : rz_H} (hd : decode X.1 pc = .ok (.aconst_null, 1)) (k : Wk Γ X rm post K cells slots (pc + 1) L (.null :: st) h) : Wk Γ X rm post K cells slots pc L st h :=
  fun C H locs ls hO hS hl => lv_null C.1 C.2.1 hd (k C H locs ls hO hS hl)
theorem rz_ldc {Γ : rz_G} {X : rz_X} {rm : Room} {post : Option Value → rz_H → Prop} {K : rz_K} {cells slots pc : Nat} {L : List (Nat × Value)} {st : List Value} {h : rz_H} {index : Nat} {v : Int} (hw : Cond.constant X.2.1 index (Int32.ofInt v) ∈ rz_W) (hd : decode X.1 pc = .ok (.ldc index, 2)) (k : Wk Γ X rm post K cells slots (pc + 2) L (vi v :: st) h) : Wk Γ X rm post K cells slots pc L st h :=
  fun C H locs ls hO hS hl => lv_ldc C.1 C.2.1 C.2.2.2.1 (C.2.2.2.2.2.2.2.2.2.1 _ hw _) hd (k C H locs ls hO hS hl)
theorem rz_ldc2 {Γ : rz_G} {X : rz_X} {rm : Room} {post : Option Value → rz_H → Prop} {K : rz_K} {cells slots pc : Nat} {L : List (Nat × Value)} {st : List Value} {h : rz_H} {index : Nat} {v : Int} (hw : Cond.constantLong X.2.1 index (Int64.ofInt v) ∈ rz_W) (hd : decode X.1 pc = .ok (.ldc2_w index, 3)) (k : Wk Γ X rm post K cells slots (pc + 3) L (vl v :: st) h) : Wk Γ X rm post K cells slots pc L st h :=
  fun C H locs ls hO hS hl => lv_ldc2 C.1 C.2.1 C.2.2.2.1 (C.2.2.2.2.2.2.2.2.2.1 _ hw _) hd (k C H locs ls hO hS hl)
theorem rz_ldcS {Γ : rz_G} {X : rz_X} {rm : Room} {post : Option Value → rz_H → Prop} {K : rz_K} {cells slots pc : Nat} {L : List (Nat × Value)} {st : List Value} {h : rz_H} {index q : Nat} {tx : String} (hw : (X.2.1, index, tx, q) ∈ rz_S Γ.2.2.2.2) (hd : decode X.1 pc = .ok (.ldc index, 2)) (k : Wk Γ X rm post K cells slots (pc + 2) L (.ref q :: st) h) : Wk Γ X rm post K cells slots pc L st h :=
  fun C H locs ls hO hS hl => va_ldcS C.1 C.2.1 C.2.2.2.1 (C.2.2.2.2.2.2.2.2.2.2.2.2.2 _ hw) hd (k C H locs ls hO hS hl)
/-! rows: locals -/
theorem rz_iload_n {Γ : rz_G} {X : rz_X} {rm : Room} {post : Option Value → rz_H → Prop} {K : rz_K} {cells slots pc : Nat} {L : List (Nat × Value)} {st : List Value} {h : rz_H} {j : Fin 4} {i : Nat} {x : Int} (k : Nat) (hd : decode X.1 pc = .ok (.iload_n j, 1)) (hi : (j : Nat) = i) (hk : L[k]? = some (i, vi x)) (kk : Wk Γ X rm post K cells slots (pc + 1) L (vi x :: st) h) : Wk Γ X rm post K cells slots pc L st h :=
  fun C H locs ls hO hS hl => lv_iload_n C.1 C.2.1 hd hi (lv_at hl k hk) (kk C H locs ls hO hS hl)
theorem rz_iload {Γ : rz_G} {X : rz_X} {rm : Room} {post : Option Value → rz_H → Prop} {K : rz_K} {cells slots pc : Nat} {L : List (Nat × Value)} {st : List Value} {h : rz_H} {i : Nat} {x : Int} (k : Nat) (hd : decode X.1 pc = .ok (.iload i, 2)) (hk : L[k]? = some (i, vi x)) (kk : Wk Γ X rm post K cells slots (pc + 2) L (vi x :: st) h) : Wk Γ X rm post K cells slots pc L st h :=
  fun C H locs ls hO hS hl => lv_iload C.1 C.2.1 hd (lv_at hl k hk) (kk C H locs ls hO hS hl)
theorem rz_istore_n {Γ : rz_G} {X : rz_X} {rm : Room} {post : Option Value → rz_H → Prop} {K : rz_K} {cells slots pc : Nat} {L : List (Nat × Value)} {st : List Value} {h : rz_H} {j : Fin 4} {i : Nat} {x : Int} (L' : List (Nat × Value)) (hd : decode X.1 pc = .ok (.istore_n j, 1)) (hi : (j : Nat) = i) (hn : i < X.2.2.1) (hL : (i, vi x) :: L.filter (fun q => !(q.1 == i) && !(q.1 + 1 == i && q.2.category == 2)) = L') (kk : Wk Γ X rm post K cells slots (pc + 1) L' st h) : Wk Γ X rm post K cells slots pc L (vi x :: st) h :=
  fun C H locs ls hO hS hl => lv_istore_n C.1 C.2.1 hd hi hl hn hL (fun ls' hl' => kk C H locs ls' hO hS hl')
theorem rz_istore {Γ : rz_G} {X : rz_X} {rm : Room} {post : Option Value → rz_H → Prop} {K : rz_K} {cells slots pc : Nat} {L : List (Nat × Value)} {st : List Value} {h : rz_H} {i : Nat} {x : Int} (L' : List (Nat × Value)) (hd : decode X.1 pc = .ok (.istore i, 2)) (hn : i < X.2.2.1) (hL : (i, vi x) :: L.filter (fun q => !(q.1 == i) && !(q.1 + 1 == i && q.2.category == 2)) = L') (kk : Wk Γ X rm post K cells slots (pc + 2) L' st h) : Wk Γ X rm post K cells slots pc L (vi x :: st) h :=
  fun C H locs ls hO hS hl => lv_istore C.1 C.2.1 hd hl hn hL (fun ls' hl' => kk C H locs ls' hO hS hl')
theorem rz_lload_n {Γ : rz_G} {X : rz_X} {rm : Room} {post : Option Value → rz_H → Prop} {K : rz_K} {cells slots pc : Nat} {L : List (Nat × Value)} {st : List Value} {h : rz_H} {j : Fin 4} {i : Nat} {x : Int} (k : Nat) (hd : decode X.1 pc = .ok (.lload_n j, 1)) (hi : (j : Nat) = i) (hk : L[k]? = some (i, vl x)) (kk : Wk Γ X rm post K cells slots (pc + 1) L (vl x :: st) h) : Wk Γ X rm post K cells slots pc L st h :=
  fun C H locs ls hO hS hl => lv_lload_n C.1 C.2.1 hd hi (lv_at hl k hk) (kk C H locs ls hO hS hl)
theorem rz_lload {Γ : rz_G} {X : rz_X} {rm : Room} {post : Option Value → rz_H → Prop} {K : rz_K} {cells slots pc : Nat} {L : List (Nat × Value)} {st : List Value} {h : rz_H} {i : Nat} {x : Int} (k : Nat) (hd : decode X.1 pc = .ok (.lload i, 2)) (hk : L[k]? = some (i, vl x)) (kk : Wk Γ X rm post K cells slots (pc + 2) L (vl x :: st) h) : Wk Γ X rm post K cells slots pc L st h :=
  fun C H locs ls hO hS hl => lv_lload C.1 C.2.1 hd (lv_at hl k hk) (kk C H locs ls hO hS hl)
theorem rz_lstore_n {Γ : rz_G} {X : rz_X} {rm : Room} {post : Option Value → rz_H → Prop} {K : rz_K} {cells slots pc : Nat} {L : List (Nat × Value)} {st : List Value} {h : rz_H} {j : Fin 4} {i : Nat} {x : Int} (L' : List (Nat × Value)) (hd : decode X.1 pc = .ok (.lstore_n j, 1)) (hi : (j : Nat) = i) (hn : i + 1 < X.2.2.1) (hL : (i, vl x) :: L.filter (fun q => !(q.1 == i) && (!(q.1 == i + 1) && !(q.1 + 1 == i && q.2.category == 2))) = L') (kk : Wk Γ X rm post K cells slots (pc + 1) L' st h) : Wk Γ X rm post K cells slots pc L (vl x :: st) h :=
  fun C H locs ls hO hS hl => lv_lstore_n C.1 C.2.1 hd hi hl hn hL (fun ls' hl' => kk C H locs ls' hO hS hl')
theorem rz_lstore {Γ : rz_G} {X : rz_X} {rm : Room} {post : Option Value → rz_H → Prop} {K : rz_K} {cells slots pc : Nat} {L : List (Nat × Value)} {st : List Value} {h : rz_H} {i : Nat} {x : Int} (L' : List (Nat × Value)) (hd : decode X.1 pc = .ok (.lstore i, 2)) (hn : i + 1 < X.2.2.1) (hL : (i, vl x) :: L.filter (fun q => !(q.1 == i) && (!(q.1 == i + 1) && !(q.1 + 1 == i && q.2.category == 2))) = L') (kk : Wk Γ X rm post K cells slots (pc + 2) L' st h) : Wk Γ X rm post K cells slots pc L (vl x :: st) h :=
  fun C H locs ls hO hS hl => lv_lstore C.1 C.2.1 hd hl hn hL (fun ls' hl' => kk C H locs ls' hO hS hl')
theorem rz_aload_n {Γ : rz_G} {X : rz_X} {rm : Room} {post : Option Value → rz_H → Prop} {K : rz_K} {cells slots pc : Nat} {L : List (Nat × Value)} {st : List Value} {h : rz_H} {j : Fin 4} {i : Nat} {x : Nat} (k : Nat) (hd : decode X.1 pc = .ok (.aload_n j, 1)) (hi : (j : Nat) = i) (hk : L[k]? = some (i, .ref x)) (kk : Wk Γ X rm post K cells slots (pc + 1) L (.ref x :: st) h) : Wk Γ X rm post K cells slots pc L st h :=
  fun C H locs ls hO hS hl => lv_aload_n C.1 C.2.1 hd hi (lv_at hl k hk) (kk C H locs ls hO hS hl)
theorem rz_aload {Γ : rz_G} {X : rz_X} {rm : Room} {post : Option Value → rz_H → Prop} {K : rz_K} {cells slots pc : Nat} {L : List (Nat × Value)} {st : List Value} {h : rz_H} {i : Nat} {x : Nat} (k : Nat) (hd : decode X.1 pc = .ok (.aload i, 2)) (hk : L[k]? = some (i, .ref x)) (kk : Wk Γ X rm post K cells slots (pc + 2) L (.ref x :: st) h) : Wk Γ X rm post K cells slots pc L st h :=
  fun C H locs ls hO hS hl => lv_aload C.1 C.2.1 hd (lv_at hl k hk) (kk C H locs ls hO hS hl)
theorem rz_astore_n {Γ : rz_G} {X : rz_X} {rm : Room} {post : Option Value → rz_H → Prop} {K : rz_K} {cells slots pc : Nat} {L : List (Nat × Value)} {st : List Value} {h : rz_H} {j : Fin 4} {i : Nat} {x : Nat} (L' : List (Nat × Value)) (hd : decode X.1 pc = .ok (.astore_n j, 1)) (hi : (j : Nat) = i) (hn : i < X.2.2.1) (hL : (i, .ref x) :: L.filter (fun q => !(q.1 == i) && !(q.1 + 1 == i && q.2.category == 2)) = L') (kk : Wk Γ X rm post K cells slots (pc + 1) L' st h) : Wk Γ X rm post K cells slots pc L (.ref x :: st) h :=
  fun C H locs ls hO hS hl => lv_astore_n C.1 C.2.1 hd hi hl hn hL (fun ls' hl' => kk C H locs ls' hO hS hl')
theorem rz_astore {Γ : rz_G} {X : rz_X} {rm : Room} {post : Option Value → rz_H → Prop} {K : rz_K} {cells slots pc : Nat} {L : List (Nat × Value)} {st : List Value} {h : rz_H} {i : Nat} {x : Nat} (L' : List (Nat × Value)) (hd : decode X.1 pc = .ok (.astore i, 2)) (hn : i < X.2.2.1) (hL : (i, .ref x) :: L.filter (fun q => !(q.1 == i) && !(q.1 + 1 == i && q.2.category == 2)) = L') (kk : Wk Γ X rm post K cells slots (pc + 2) L' st h) : Wk Γ X rm post K cells slots pc L (.ref x :: st) h :=
  fun C H locs ls hO hS hl => lv_astore C.1 C.2.1 hd hl hn hL (fun ls' hl' => kk C H locs ls' hO hS hl')
theorem rz_aload_nN {Γ : rz_G} {X : rz_X} {rm : Room} {post : Option Value → rz_H → Prop} {K : rz_K} {cells slots pc : Nat} {L : List (Nat × Value)} {st : List Value} {h : rz_H} {j : Fin 4} {i : Nat} (k : Nat) (hd : decode X.1 pc = .ok (.aload_n j, 1)) (hi : (j : Nat) = i) (hk : L[k]? = some (i, .null)) (kk : Wk Γ X rm post K cells slots (pc + 1) L (.null :: st) h) : Wk Γ X rm post K cells slots pc L st h :=
  fun C H locs ls hO hS hl => lv_aload_nN C.1 C.2.1 hd hi (lv_at hl k hk) (kk C H locs ls hO hS hl)
theorem rz_astore_nN {Γ : rz_G} {X : rz_X} {rm : Room} {post : Option Value → rz_H → Prop} {K : rz_K} {cells slots pc : Nat} {L : List (Nat × Value)} {st : List Value} {h : rz_H} {j : Fin 4} {i : Nat} (L' : List (Nat × Value)) (hd : decode X.1 pc = .ok (.astore_n j, 1)) (hi : (j : Nat) = i) (hn : i < X.2.2.1) (hL : (i, Value.null) :: L.filter (fun q => !(q.1 == i) && !(q.1 + 1 == i && q.2.category == 2)) = L') (kk : Wk Γ X rm post K cells slots (pc + 1) L' st h) : Wk Γ X rm post K cells slots pc L (.null :: st) h :=
  fun C H locs ls hO hS hl => lv_astore_nN C.1 C.2.1 hd hi hl hn hL (fun ls' hl' => kk C H locs ls' hO hS hl')
theorem rz_iinc {Γ : rz_G} {X : rz_X} {rm : Room} {post : Option Value → rz_H → Prop} {K : rz_K} {cells slots pc : Nat} {L : List (Nat × Value)} {st : List Value} {h : rz_H} {i : Nat} {n x : Int} (v : Int) (k : Nat) (L' : List (Nat × Value)) (hd : decode X.1 pc = .ok (.iinc i n, 3)) (hk : L[k]? = some (i, vi x)) (hv : v = x + n) (hn : i < X.2.2.1) (hL : (i, vi v) :: L.filter (fun q => !(q.1 == i) && !(q.1 + 1 == i && q.2.category == 2)) = L') (kk : Wk Γ X rm post K cells slots (pc + 3) L' st h) : Wk Γ X rm post K cells slots pc L st h := by
  intro C H locs ls hO hS hl
  exact lv_iinc C.1 C.2.1 hd hl hk (v := Int32.ofInt v) (by rw [hv, Int32.ofInt_add]) hn hL (fun ls' hl' => kk C H locs ls' hO hS hl')
/-! rows: arithmetic -/
theorem rz_iadd {Γ : rz_G} {X : rz_X} {rm : Room} {post : Option Value → rz_H → Prop} {K : rz_K} {cells slots pc : Nat} {L : List (Nat × Value)} {st : List Value} {h : rz_H} {a b : Int} (hd : decode X.1 pc = .ok (.iadd, 1)) (k : Wk Γ X rm post K cells slots (pc + 1) L (vi (a + b) :: st) h) : Wk Γ X rm post K cells slots pc L (vi b :: vi a :: st) h := by
  intro C H locs ls hO hS hl
  refine lv_iadd C.1 C.2.1 hd ?_
  rw [← Int32.ofInt_add]
  exact k C H locs ls hO hS hl
theorem rz_isub {Γ : rz_G} {X : rz_X} {rm : Room} {post : Option Value → rz_H → Prop} {K : rz_K} {cells slots pc : Nat} {L : List (Nat × Value)} {st : List Value} {h : rz_H} {a b : Int} (hd : decode X.1 pc = .ok (.isub, 1)) (k : Wk Γ X rm post K cells slots (pc + 1) L (vi (a - b) :: st) h) : Wk Γ X rm post K cells slots pc L (vi b :: vi a :: st) h := by
  intro C H locs ls hO hS hl
  refine lv_isub C.1 C.2.1 hd ?_
  rw [← Int32.ofInt_sub]
  exact k C H locs ls hO hS hl
theorem rz_imul {Γ : rz_G} {X : rz_X} {rm : Room} {post : Option Value → rz_H → Prop} {K : rz_K} {cells slots pc : Nat} {L : List (Nat × Value)} {st : List Value} {h : rz_H} {a b : Int} (hd : decode X.1 pc = .ok (.imul, 1)) (k : Wk Γ X rm post K cells slots (pc + 1) L (vi (a * b) :: st) h) : Wk Γ X rm post K cells slots pc L (vi b :: vi a :: st) h := by
  intro C H locs ls hO hS hl
  refine lv_imul C.1 C.2.1 hd ?_
  rw [← Int32.ofInt_mul]
  exact k C H locs ls hO hS hl
theorem rz_ladd {Γ : rz_G} {X : rz_X} {rm : Room} {post : Option Value → rz_H → Prop} {K : rz_K} {cells slots pc : Nat} {L : List (Nat × Value)} {st : List Value} {h : rz_H} {a b : Int} (hd : decode X.1 pc = .ok (.ladd, 1)) (k : Wk Γ X rm post K cells slots (pc + 1) L (vl (a + b) :: st) h) : Wk Γ X rm post K cells slots pc L (vl b :: vl a :: st) h := by
  intro C H locs ls hO hS hl
  refine lv_ladd C.1 C.2.1 hd ?_
  rw [← Int64.ofInt_add]
  exact k C H locs ls hO hS hl
theorem rz_lsub {Γ : rz_G} {X : rz_X} {rm : Room} {post : Option Value → rz_H → Prop} {K : rz_K} {cells slots pc : Nat} {L : List (Nat × Value)} {st : List Value} {h : rz_H} {a b : Int} (hd : decode X.1 pc = .ok (.lsub, 1)) (k : Wk Γ X rm post K cells slots (pc + 1) L (vl (a - b) :: st) h) : Wk Γ X rm post K cells slots pc L (vl b :: vl a :: st) h := by
  intro C H locs ls hO hS hl
  refine lv_lsub C.1 C.2.1 hd ?_
  rw [← Int64.ofInt_sub]
  exact k C H locs ls hO hS hl
theorem rz_lmul {Γ : rz_G} {X : rz_X} {rm : Room} {post : Option Value → rz_H → Prop} {K : rz_K} {cells slots pc : Nat} {L : List (Nat × Value)} {st : List Value} {h : rz_H} {a b : Int} (hd : decode X.1 pc = .ok (.lmul, 1)) (k : Wk Γ X rm post K cells slots (pc + 1) L (vl (a * b) :: st) h) : Wk Γ X rm post K cells slots pc L (vl b :: vl a :: st) h := by
  intro C H locs ls hO hS hl
  refine lv_lmul C.1 C.2.1 hd ?_
  rw [← Int64.ofInt_mul]
  exact k C H locs ls hO hS hl
theorem rz_div0 {a b : Int} (ra : 0 ≤ a ∧ a ≤ 2147483647) (rb : 0 < b ∧ b ≤ 2147483647) : Int32.ofInt a / Int32.ofInt b = Int32.ofInt (a / b) := by
  rw [← Int32.toInt_inj, Int32.toInt_div, rz_ti (by omega), rz_ti (by omega), Int.tdiv_eq_ediv_of_nonneg ra.1]
  have h1 : 0 ≤ a / b := Int.ediv_nonneg ra.1 (by omega)
  have h2 : a / b ≤ a := Int.ediv_le_self b ra.1
  rw [rz_ti (by omega)]
  exact Int.bmod_eq_of_le (by omega) (by omega)
theorem rz_ne0 {b : Int} (rb : 0 < b ∧ b ≤ 2147483647) : ¬ Int32.ofInt b = 0 := by
  rw [rz_0, rz_eq (by omega) (by omega)]
  omega
theorem rz_idiv {Γ : rz_G} {X : rz_X} {rm : Room} {post : Option Value → rz_H → Prop} {K : rz_K} {cells slots pc : Nat} {L : List (Nat × Value)} {st : List Value} {h : rz_H} {a b : Int} (ra : 0 ≤ a ∧ a ≤ 2147483647) (rb : 0 < b ∧ b ≤ 2147483647) (hd : decode X.1 pc = .ok (.idiv, 1)) (k : Wk Γ X rm post K cells slots (pc + 1) L (vi (a / b) :: st) h) : Wk Γ X rm post K cells slots pc L (vi b :: vi a :: st) h := by
  intro C H locs ls hO hS hl
  refine lv_idiv C.1 C.2.1 hd (rz_ne0 rb) ?_
  rw [rz_div0 ra rb]
  exact k C H locs ls hO hS hl
theorem rz_irem {Γ : rz_G} {X : rz_X} {rm : Room} {post : Option Value → rz_H → Prop} {K : rz_K} {cells slots pc : Nat} {L : List (Nat × Value)} {st : List Value} {h : rz_H} {a b : Int} (ra : 0 ≤ a ∧ a ≤ 2147483647) (rb : 0 < b ∧ b ≤ 2147483647) (hd : decode X.1 pc = .ok (.irem, 1)) (k : Wk Γ X rm post K cells slots (pc + 1) L (vi (a % b) :: st) h) : Wk Γ X rm post K cells slots pc L (vi b :: vi a :: st) h := by
  intro C H locs ls hO hS hl
  refine lv_irem C.1 C.2.1 hd (rz_ne0 rb) ?_
  rw [rz_div0 ra rb, ← Int32.ofInt_mul, ← Int32.ofInt_sub, show a - a / b * b = a % b from by rw [Int.emod_def, Int.mul_comm]]
  exact k C H locs ls hO hS hl
theorem rz_i2l {Γ : rz_G} {X : rz_X} {rm : Room} {post : Option Value → rz_H → Prop} {K : rz_K} {cells slots pc : Nat} {L : List (Nat × Value)} {st : List Value} {h : rz_H} {a : Int} (ra : -2147483648 ≤ a ∧ a ≤ 2147483647) (hd : decode X.1 pc = .ok (.i2l, 1)) (k : Wk Γ X rm post K cells slots (pc + 1) L (vl a :: st) h) : Wk Γ X rm post K cells slots pc L (vi a :: st) h :=
  fun C H locs ls hO hS hl => lv_i2l C.1 C.2.1 hd (v := Int64.ofInt a) (by rw [← Int64.toInt_inj, Int32.toInt_toInt64, rz_ti ra, rz_tl (by omega)]) (k C H locs ls hO hS hl)
theorem rz_l2i {Γ : rz_G} {X : rz_X} {rm : Room} {post : Option Value → rz_H → Prop} {K : rz_K} {cells slots pc : Nat} {L : List (Nat × Value)} {st : List Value} {h : rz_H} {a : Int} (hd : decode X.1 pc = .ok (.l2i, 1)) (k : Wk Γ X rm post K cells slots (pc + 1) L (vi a :: st) h) : Wk Γ X rm post K cells slots pc L (vl a :: st) h :=
  fun C H locs ls hO hS hl => lv_l2i C.1 C.2.1 hd (v := Int32.ofInt a) Int64.toInt32_ofInt (k C H locs ls hO hS hl)
theorem rz_i2c {Γ : rz_G} {X : rz_X} {rm : Room} {post : Option Value → rz_H → Prop} {K : rz_K} {cells slots pc : Nat} {L : List (Nat × Value)} {st : List Value} {h : rz_H} {a : Int} (ra : 0 ≤ a ∧ a ≤ 65535) (hd : decode X.1 pc = .ok (.i2c, 1)) (k : Wk Γ X rm post K cells slots (pc + 1) L (vi a :: st) h) : Wk Γ X rm post K cells slots pc L (vi a :: st) h := by
  intro C H locs ls hO hS hl
  refine lv_i2c C.1 C.2.1 hd (v := Int32.ofInt a) ?_ (k C H locs ls hO hS hl)
  obtain ⟨n, rfl⟩ : ∃ n : Nat, a = n := ⟨a.toNat, by omega⟩
  rw [pk_char, Int32.ofInt_eq_ofNat]
  show nI ((nI n).toBitVec.toNat % 65536) = nI n
  rw [pk_tn (by omega), Nat.mod_eq_of_lt (by omega)]
def rz_cmp (a b : Int) : Int := if b < a then 1 else if a = b then 0 else -1
theorem rz_lcmp {Γ : rz_G} {X : rz_X} {rm : Room} {post : Option Value → rz_H → Prop} {K : rz_K} {cells slots pc : Nat} {L : List (Nat × Value)} {st : List Value} {h : rz_H} {a b : Int} (ra : -9223372036854775808 ≤ a ∧ a ≤ 9223372036854775807) (rb : -9223372036854775808 ≤ b ∧ b ≤ 9223372036854775807) (hd : decode X.1 pc = .ok (.lcmp, 1)) (k : Wk Γ X rm post K cells slots (pc + 1) L (vi (rz_cmp a b) :: st) h) : Wk Γ X rm post K cells slots pc L (vl b :: vl a :: st) h := by
  intro C H locs ls hO hS hl
  refine W.lcmp C.1 C.2.1 hd ?_
  have e : lg_cmp (Int64.ofInt a) (Int64.ofInt b) = Int32.ofInt (rz_cmp a b) := by
    have h1 : (Int64.ofInt a > Int64.ofInt b) ↔ b < a := by rw [gt_iff_lt, Int64.lt_iff_toInt_lt, rz_tl ra, rz_tl rb]
    have h2 : (Int64.ofInt a = Int64.ofInt b) ↔ a = b := by rw [← Int64.toInt_inj, rz_tl ra, rz_tl rb]
    unfold lg_cmp rz_cmp
    by_cases q1 : b < a
    · rw [if_pos (h1.mpr q1), if_pos q1]
      rfl
    · rw [if_neg (fun z => q1 (h1.mp z)), if_neg q1]
      by_cases q2 : a = b
      · rw [if_pos (h2.mpr q2), if_pos q2]
        rfl
      · rw [if_neg (fun z => q2 (h2.mp z)), if_neg q2]
        rfl
  rw [e]
  exact k C H locs ls hO hS hl
theorem rz_dup {Γ : rz_G} {X : rz_X} {rm : Room} {post : Option Value → rz_H → Prop} {K : rz_K} {cells slots pc : Nat} {L : List (Nat × Value)} {st : List Value} {h : rz_H} {v : Value} (hd : decode X.1 pc = .ok (.dup, 1)) (hc : v.category = 1) (k : Wk Γ X rm post K cells slots (pc + 1) L (v :: v :: st) h) : Wk Γ X rm post K cells slots pc L (v :: st) h :=
  fun C H locs ls hO hS hl => lv_dup C.1 C.2.1 hd hc (k C H locs ls hO hS hl)
theorem rz_dup_x1 {Γ : rz_G} {X : rz_X} {rm : Room} {post : Option Value → rz_H → Prop} {K : rz_K} {cells slots pc : Nat} {L : List (Nat × Value)} {st : List Value} {h : rz_H} {v w : Value} (hd : decode X.1 pc = .ok (.dup_x1, 1)) (hc : v.category = 1) (hw : w.category = 1) (k : Wk Γ X rm post K cells slots (pc + 1) L (v :: w :: v :: st) h) : Wk Γ X rm post K cells slots pc L (v :: w :: st) h :=
  fun C H locs ls hO hS hl => lv_dup_x1 C.1 C.2.1 hd hc hw (k C H locs ls hO hS hl)
theorem rz_dup2 {Γ : rz_G} {X : rz_X} {rm : Room} {post : Option Value → rz_H → Prop} {K : rz_K} {cells slots pc : Nat} {L : List (Nat × Value)} {st : List Value} {h : rz_H} {v w : Value} (hd : decode X.1 pc = .ok (.dup2, 1)) (hc : v.category = 1) (hw : w.category = 1) (k : Wk Γ X rm post K cells slots (pc + 1) L (v :: w :: v :: w :: st) h) : Wk Γ X rm post K cells slots pc L (v :: w :: st) h :=
  fun C H locs ls hO hS hl => lv_dup2_11 C.1 C.2.1 hd hc hw (k C H locs ls hO hS hl)
theorem rz_pop {Γ : rz_G} {X : rz_X} {rm : Room} {post : Option Value → rz_H → Prop} {K : rz_K} {cells slots pc : Nat} {L : List (Nat × Value)} {st : List Value} {h : rz_H} {v : Value} (hd : decode X.1 pc = .ok (.pop, 1)) (hc : v.category = 1) (k : Wk Γ X rm post K cells slots (pc + 1) L st h) : Wk Γ X rm post K cells slots pc L (v :: st) h :=
  fun C H locs ls hO hS hl => lv_pop C.1 C.2.1 hd hc (k C H locs ls hO hS hl)
theorem rz_goto {Γ : rz_G} {X : rz_X} {rm : Room} {post : Option Value → rz_H → Prop} {K : rz_K} {cells slots pc : Nat} {L : List (Nat × Value)} {st : List Value} {h : rz_H} {off : Int} (tgt : Nat) (hd : decode X.1 pc = .ok (.goto off, 3)) (ht : (pc : Int) + off = (tgt : Int)) (k : Wk Γ X rm post K cells slots tgt L st h) : Wk Γ X rm post K cells slots pc L st h :=
  fun C H locs ls hO hS hl => lv_goto C.1 C.2.1 hd ht (k C H locs ls hO hS hl)
/-! rows: branches -/
theorem rz_icmp_eq {Γ : rz_G} {X : rz_X} {rm : Room} {post : Option Value → rz_H → Prop} {K : rz_K} {cells slots pc : Nat} {L : List (Nat × Value)} {st : List Value} {h : rz_H} {a b off : Int} (tgt : Nat) (hd : decode X.1 pc = .ok (.if_icmp .eq off, 3)) (ht : (pc : Int) + off = (tgt : Int)) (ra : -2147483648 ≤ a ∧ a ≤ 2147483647) (rb : -2147483648 ≤ b ∧ b ≤ 2147483647) (kt : a = b → Wk Γ X rm post K cells slots tgt L st h) (kf : ¬ a = b → Wk Γ X rm post K cells slots (pc + 3) L st h) : Wk Γ X rm post K cells slots pc L (vi b :: vi a :: st) h :=
  fun C H locs ls hO hS hl => lv_icmp_eq C.1 C.2.1 hd ht (fun q => kt ((rz_eq ra rb).mp q) C H locs ls hO hS hl) (fun q => kf (fun z => q ((rz_eq ra rb).mpr z)) C H locs ls hO hS hl)
theorem rz_icmp_ne {Γ : rz_G} {X : rz_X} {rm : Room} {post : Option Value → rz_H → Prop} {K : rz_K} {cells slots pc : Nat} {L : List (Nat × Value)} {st : List Value} {h : rz_H} {a b off : Int} (tgt : Nat) (hd : decode X.1 pc = .ok (.if_icmp .ne off, 3)) (ht : (pc : Int) + off = (tgt : Int)) (ra : -2147483648 ≤ a ∧ a ≤ 2147483647) (rb : -2147483648 ≤ b ∧ b ≤ 2147483647) (kt : ¬ a = b → Wk Γ X rm post K cells slots tgt L st h) (kf : a = b → Wk Γ X rm post K cells slots (pc + 3) L st h) : Wk Γ X rm post K cells slots pc L (vi b :: vi a :: st) h :=
  fun C H locs ls hO hS hl => lv_icmp_ne C.1 C.2.1 hd ht (fun q => kt (fun z => q ((rz_eq ra rb).mpr z)) C H locs ls hO hS hl) (fun q => kf ((rz_eq ra rb).mp q) C H locs ls hO hS hl)
theorem rz_icmp_lt {Γ : rz_G} {X : rz_X} {rm : Room} {post : Option Value → rz_H → Prop} {K : rz_K} {cells slots pc : Nat} {L : List (Nat × Value)} {st : List Value} {h : rz_H} {a b off : Int} (tgt : Nat) (hd : decode X.1 pc = .ok (.if_icmp .lt off, 3)) (ht : (pc : Int) + off = (tgt : Int)) (ra : -2147483648 ≤ a ∧ a ≤ 2147483647) (rb : -2147483648 ≤ b ∧ b ≤ 2147483647) (kt : a < b → Wk Γ X rm post K cells slots tgt L st h) (kf : ¬ a < b → Wk Γ X rm post K cells slots (pc + 3) L st h) : Wk Γ X rm post K cells slots pc L (vi b :: vi a :: st) h :=
  fun C H locs ls hO hS hl => lv_icmp_lt C.1 C.2.1 hd ht (fun q => kt ((rz_lt ra rb).mp q) C H locs ls hO hS hl) (fun q => kf (fun z => q ((rz_lt ra rb).mpr z)) C H locs ls hO hS hl)
theorem rz_icmp_ge {Γ : rz_G} {X : rz_X} {rm : Room} {post : Option Value → rz_H → Prop} {K : rz_K} {cells slots pc : Nat} {L : List (Nat × Value)} {st : List Value} {h : rz_H} {a b off : Int} (tgt : Nat) (hd : decode X.1 pc = .ok (.if_icmp .ge off, 3)) (ht : (pc : Int) + off = (tgt : Int)) (ra : -2147483648 ≤ a ∧ a ≤ 2147483647) (rb : -2147483648 ≤ b ∧ b ≤ 2147483647) (kt : b ≤ a → Wk Γ X rm post K cells slots tgt L st h) (kf : ¬ b ≤ a → Wk Γ X rm post K cells slots (pc + 3) L st h) : Wk Γ X rm post K cells slots pc L (vi b :: vi a :: st) h :=
  fun C H locs ls hO hS hl => lv_icmp_ge C.1 C.2.1 hd ht (fun q => kt ((rz_le rb ra).mp q) C H locs ls hO hS hl) (fun q => kf (fun z => q ((rz_le rb ra).mpr z)) C H locs ls hO hS hl)
theorem rz_icmp_gt {Γ : rz_G} {X : rz_X} {rm : Room} {post : Option Value → rz_H → Prop} {K : rz_K} {cells slots pc : Nat} {L : List (Nat × Value)} {st : List Value} {h : rz_H} {a b off : Int} (tgt : Nat) (hd : decode X.1 pc = .ok (.if_icmp .gt off, 3)) (ht : (pc : Int) + off = (tgt : Int)) (ra : -2147483648 ≤ a ∧ a ≤ 2147483647) (rb : -2147483648 ≤ b ∧ b ≤ 2147483647) (kt : b < a → Wk Γ X rm post K cells slots tgt L st h) (kf : ¬ b < a → Wk Γ X rm post K cells slots (pc + 3) L st h) : Wk Γ X rm post K cells slots pc L (vi b :: vi a :: st) h :=
  fun C H locs ls hO hS hl => lv_icmp_gt C.1 C.2.1 hd ht (fun q => kt ((rz_lt rb ra).mp q) C H locs ls hO hS hl) (fun q => kf (fun z => q ((rz_lt rb ra).mpr z)) C H locs ls hO hS hl)
theorem rz_icmp_le {Γ : rz_G} {X : rz_X} {rm : Room} {post : Option Value → rz_H → Prop} {K : rz_K} {cells slots pc : Nat} {L : List (Nat × Value)} {st : List Value} {h : rz_H} {a b off : Int} (tgt : Nat) (hd : decode X.1 pc = .ok (.if_icmp .le off, 3)) (ht : (pc : Int) + off = (tgt : Int)) (ra : -2147483648 ≤ a ∧ a ≤ 2147483647) (rb : -2147483648 ≤ b ∧ b ≤ 2147483647) (kt : a ≤ b → Wk Γ X rm post K cells slots tgt L st h) (kf : ¬ a ≤ b → Wk Γ X rm post K cells slots (pc + 3) L st h) : Wk Γ X rm post K cells slots pc L (vi b :: vi a :: st) h :=
  fun C H locs ls hO hS hl => lv_icmp_le C.1 C.2.1 hd ht (fun q => kt ((rz_le ra rb).mp q) C H locs ls hO hS hl) (fun q => kf (fun z => q ((rz_le ra rb).mpr z)) C H locs ls hO hS hl)
theorem rz_if_eq {Γ : rz_G} {X : rz_X} {rm : Room} {post : Option Value → rz_H → Prop} {K : rz_K} {cells slots pc : Nat} {L : List (Nat × Value)} {st : List Value} {h : rz_H} {a off : Int} (tgt : Nat) (hd : decode X.1 pc = .ok (.ifCond .eq off, 3)) (ht : (pc : Int) + off = (tgt : Int)) (ra : -2147483648 ≤ a ∧ a ≤ 2147483647) (kt : a = 0 → Wk Γ X rm post K cells slots tgt L st h) (kf : ¬ a = 0 → Wk Γ X rm post K cells slots (pc + 3) L st h) : Wk Γ X rm post K cells slots pc L (vi a :: st) h :=
  fun C H locs ls hO hS hl => lv_if_eq C.1 C.2.1 hd ht (fun q => kt ((rz_eq ra ⟨by decide, by decide⟩).mp q) C H locs ls hO hS hl) (fun q => kf (fun z => q ((rz_eq ra ⟨by decide, by decide⟩).mpr z)) C H locs ls hO hS hl)
theorem rz_if_ne {Γ : rz_G} {X : rz_X} {rm : Room} {post : Option Value → rz_H → Prop} {K : rz_K} {cells slots pc : Nat} {L : List (Nat × Value)} {st : List Value} {h : rz_H} {a off : Int} (tgt : Nat) (hd : decode X.1 pc = .ok (.ifCond .ne off, 3)) (ht : (pc : Int) + off = (tgt : Int)) (ra : -2147483648 ≤ a ∧ a ≤ 2147483647) (kt : ¬ a = 0 → Wk Γ X rm post K cells slots tgt L st h) (kf : a = 0 → Wk Γ X rm post K cells slots (pc + 3) L st h) : Wk Γ X rm post K cells slots pc L (vi a :: st) h :=
  fun C H locs ls hO hS hl => lv_if_ne C.1 C.2.1 hd ht (fun q => kt (fun z => q ((rz_eq ra ⟨by decide, by decide⟩).mpr z)) C H locs ls hO hS hl) (fun q => kf ((rz_eq ra ⟨by decide, by decide⟩).mp q) C H locs ls hO hS hl)
theorem rz_if_lt {Γ : rz_G} {X : rz_X} {rm : Room} {post : Option Value → rz_H → Prop} {K : rz_K} {cells slots pc : Nat} {L : List (Nat × Value)} {st : List Value} {h : rz_H} {a off : Int} (tgt : Nat) (hd : decode X.1 pc = .ok (.ifCond .lt off, 3)) (ht : (pc : Int) + off = (tgt : Int)) (ra : -2147483648 ≤ a ∧ a ≤ 2147483647) (kt : a < 0 → Wk Γ X rm post K cells slots tgt L st h) (kf : ¬ a < 0 → Wk Γ X rm post K cells slots (pc + 3) L st h) : Wk Γ X rm post K cells slots pc L (vi a :: st) h :=
  fun C H locs ls hO hS hl => lv_if_lt C.1 C.2.1 hd ht (fun q => kt ((rz_lt ra ⟨by decide, by decide⟩).mp q) C H locs ls hO hS hl) (fun q => kf (fun z => q ((rz_lt ra ⟨by decide, by decide⟩).mpr z)) C H locs ls hO hS hl)
theorem rz_if_ge {Γ : rz_G} {X : rz_X} {rm : Room} {post : Option Value → rz_H → Prop} {K : rz_K} {cells slots pc : Nat} {L : List (Nat × Value)} {st : List Value} {h : rz_H} {a off : Int} (tgt : Nat) (hd : decode X.1 pc = .ok (.ifCond .ge off, 3)) (ht : (pc : Int) + off = (tgt : Int)) (ra : -2147483648 ≤ a ∧ a ≤ 2147483647) (kt : 0 ≤ a → Wk Γ X rm post K cells slots tgt L st h) (kf : ¬ 0 ≤ a → Wk Γ X rm post K cells slots (pc + 3) L st h) : Wk Γ X rm post K cells slots pc L (vi a :: st) h :=
  fun C H locs ls hO hS hl => lv_if_ge C.1 C.2.1 hd ht (fun q => kt ((rz_le ⟨by decide, by decide⟩ ra).mp q) C H locs ls hO hS hl) (fun q => kf (fun z => q ((rz_le ⟨by decide, by decide⟩ ra).mpr z)) C H locs ls hO hS hl)
theorem rz_if_gt {Γ : rz_G} {X : rz_X} {rm : Room} {post : Option Value → rz_H → Prop} {K : rz_K} {cells slots pc : Nat} {L : List (Nat × Value)} {st : List Value} {h : rz_H} {a off : Int} (tgt : Nat) (hd : decode X.1 pc = .ok (.ifCond .gt off, 3)) (ht : (pc : Int) + off = (tgt : Int)) (ra : -2147483648 ≤ a ∧ a ≤ 2147483647) (kt : 0 < a → Wk Γ X rm post K cells slots tgt L st h) (kf : ¬ 0 < a → Wk Γ X rm post K cells slots (pc + 3) L st h) : Wk Γ X rm post K cells slots pc L (vi a :: st) h :=
  fun C H locs ls hO hS hl => lv_if_gt C.1 C.2.1 hd ht (fun q => kt ((rz_lt ⟨by decide, by decide⟩ ra).mp q) C H locs ls hO hS hl) (fun q => kf (fun z => q ((rz_lt ⟨by decide, by decide⟩ ra).mpr z)) C H locs ls hO hS hl)
theorem rz_if_le {Γ : rz_G} {X : rz_X} {rm : Room} {post : Option Value → rz_H → Prop} {K : rz_K} {cells slots pc : Nat} {L : List (Nat × Value)} {st : List Value} {h : rz_H} {a off : Int} (tgt : Nat) (hd : decode X.1 pc = .ok (.ifCond .le off, 3)) (ht : (pc : Int) + off = (tgt : Int)) (ra : -2147483648 ≤ a ∧ a ≤ 2147483647) (kt : a ≤ 0 → Wk Γ X rm post K cells slots tgt L st h) (kf : ¬ a ≤ 0 → Wk Γ X rm post K cells slots (pc + 3) L st h) : Wk Γ X rm post K cells slots pc L (vi a :: st) h :=
  fun C H locs ls hO hS hl => lv_if_le C.1 C.2.1 hd ht (fun q => kt ((rz_le ra ⟨by decide, by decide⟩).mp q) C H locs ls hO hS hl) (fun q => kf (fun z => q ((rz_le ra ⟨by decide, by decide⟩).mpr z)) C H locs ls hO hS hl)
theorem rz_ifnullN {Γ : rz_G} {X : rz_X} {rm : Room} {post : Option Value → rz_H → Prop} {K : rz_K} {cells slots pc : Nat} {L : List (Nat × Value)} {st : List Value} {h : rz_H} {off : Int} (tgt : Nat) (hd : decode X.1 pc = .ok (.ifnull off, 3)) (ht : (pc : Int) + off = (tgt : Int)) (k : Wk Γ X rm post K cells slots tgt L st h) : Wk Γ X rm post K cells slots pc L (.null :: st) h :=
  fun C H locs ls hO hS hl => lv_ifnullN C.1 C.2.1 hd ht (k C H locs ls hO hS hl)
theorem rz_ifnullR {Γ : rz_G} {X : rz_X} {rm : Room} {post : Option Value → rz_H → Prop} {K : rz_K} {cells slots pc : Nat} {L : List (Nat × Value)} {st : List Value} {h : rz_H} {off : Int} {a : Nat} (hd : decode X.1 pc = .ok (.ifnull off, 3)) (k : Wk Γ X rm post K cells slots (pc + 3) L st h) : Wk Γ X rm post K cells slots pc L (.ref a :: st) h :=
  fun C H locs ls hO hS hl => lv_ifnull C.1 C.2.1 hd (k C H locs ls hO hS hl)
theorem rz_ifnonnullN {Γ : rz_G} {X : rz_X} {rm : Room} {post : Option Value → rz_H → Prop} {K : rz_K} {cells slots pc : Nat} {L : List (Nat × Value)} {st : List Value} {h : rz_H} {off : Int} (hd : decode X.1 pc = .ok (.ifnonnull off, 3)) (k : Wk Γ X rm post K cells slots (pc + 3) L st h) : Wk Γ X rm post K cells slots pc L (.null :: st) h :=
  fun C H locs ls hO hS hl => lv_ifnonnullN C.1 C.2.1 hd (k C H locs ls hO hS hl)
theorem rz_ifnonnullR {Γ : rz_G} {X : rz_X} {rm : Room} {post : Option Value → rz_H → Prop} {K : rz_K} {cells slots pc : Nat} {L : List (Nat × Value)} {st : List Value} {h : rz_H} {off : Int} {a : Nat} (tgt : Nat) (hd : decode X.1 pc = .ok (.ifnonnull off, 3)) (ht : (pc : Int) + off = (tgt : Int)) (k : Wk Γ X rm post K cells slots tgt L st h) : Wk Γ X rm post K cells slots pc L (.ref a :: st) h :=
  fun C H locs ls hO hS hl => lv_ifnonnull C.1 C.2.1 hd ht (k C H locs ls hO hS hl)
theorem bi_r (b : Bool) : -2147483648 ≤ bi b ∧ bi b ≤ 2147483647 := by cases b <;> decide
theorem rz_if_eqB {Γ : rz_G} {X : rz_X} {rm : Room} {post : Option Value → rz_H → Prop} {K : rz_K} {cells slots pc : Nat} {L : List (Nat × Value)} {st : List Value} {h : rz_H} {b : Bool} {off : Int} (tgt : Nat) (hd : decode X.1 pc = .ok (.ifCond .eq off, 3)) (ht : (pc : Int) + off = (tgt : Int)) (kt : b = false → Wk Γ X rm post K cells slots tgt L st h) (kf : b = true → Wk Γ X rm post K cells slots (pc + 3) L st h) : Wk Γ X rm post K cells slots pc L (vi (bi b) :: st) h :=
  rz_if_eq tgt hd ht (bi_r b) (fun q => kt ((bi_eq0 b).mp q)) (fun q => kf (by cases b with | true => rfl | false => exact absurd rfl q))
theorem rz_if_neB {Γ : rz_G} {X : rz_X} {rm : Room} {post : Option Value → rz_H → Prop} {K : rz_K} {cells slots pc : Nat} {L : List (Nat × Value)} {st : List Value} {h : rz_H} {b : Bool} {off : Int} (tgt : Nat) (hd : decode X.1 pc = .ok (.ifCond .ne off, 3)) (ht : (pc : Int) + off = (tgt : Int)) (kt : b = true → Wk Γ X rm post K cells slots tgt L st h) (kf : b = false → Wk Γ X rm post K cells slots (pc + 3) L st h) : Wk Γ X rm post K cells slots pc L (vi (bi b) :: st) h :=
  rz_if_ne tgt hd ht (bi_r b) (fun q => kt (by cases b with | true => rfl | false => exact absurd rfl q)) (fun q => kf ((bi_eq0 b).mp q))
/-! rows: ends -/
theorem rz_ireturn {Γ : rz_G} {X : rz_X} {rm : Room} {post : Option Value → rz_H → Prop} {K : rz_K} {cells slots pc : Nat} {L : List (Nat × Value)} {st : List Value} {h : rz_H} {x : Int} (hr : X.2.2.2.1 = some .int) (hd : decode X.1 pc = .ok (.ireturn, 1)) (hc : cells ≤ rm.cells ∧ slots ≤ rm.slots) (hp : post (some (vi x)) h) : Wk Γ X rm post K cells slots pc L [vi x] h :=
  fun C H locs ls hO hS hl => W.widen hc.1 hc.2 (W.iret C.1 C.2.1 (C.2.2.2.2.1.trans hr) (fun t ht hW => ⟨⟨_, _, rfl, hp, by rw [ht]; exact hO⟩, hS.F ht⟩) hS.2.2 hd (hlocks := C.2.2.2.2.2.1))
theorem rz_zreturn {Γ : rz_G} {X : rz_X} {rm : Room} {post : Option Value → rz_H → Prop} {K : rz_K} {cells slots pc : Nat} {L : List (Nat × Value)} {st : List Value} {h : rz_H} {x : Int} {ty : FieldType} (hr : X.2.2.2.1 = some ty) (hn : narrow ty (vi x) = vi x) (hd : decode X.1 pc = .ok (.ireturn, 1)) (hc : cells ≤ rm.cells ∧ slots ≤ rm.slots) (hp : post (some (vi x)) h) : Wk Γ X rm post K cells slots pc L [vi x] h :=
  fun C H locs ls hO hS hl => W.widen hc.1 hc.2 (W.zret C.1 C.2.1 (C.2.2.2.2.1.trans hr) hn (fun t ht hW => ⟨⟨_, _, rfl, hp, by rw [ht]; exact hO⟩, hS.F ht⟩) hS.2.2 hd (hlocks := C.2.2.2.2.2.1))
theorem rz_lreturn {Γ : rz_G} {X : rz_X} {rm : Room} {post : Option Value → rz_H → Prop} {K : rz_K} {cells slots pc : Nat} {L : List (Nat × Value)} {st : List Value} {h : rz_H} {x : Int} (hr : X.2.2.2.1 = some .long) (hd : decode X.1 pc = .ok (.lreturn, 1)) (hc : cells ≤ rm.cells ∧ slots ≤ rm.slots) (hp : post (some (vl x)) h) : Wk Γ X rm post K cells slots pc L [vl x] h :=
  fun C H locs ls hO hS hl => W.widen hc.1 hc.2 (W.lret C.1 C.2.1 (C.2.2.2.2.1.trans hr) (fun t ht hW => ⟨⟨_, _, rfl, hp, by rw [ht]; exact hO⟩, hS.F ht⟩) hS.2.2 hd (hlocks := C.2.2.2.2.2.1))
theorem rz_return {Γ : rz_G} {X : rz_X} {rm : Room} {post : Option Value → rz_H → Prop} {K : rz_K} {cells slots pc : Nat} {L : List (Nat × Value)} {st : List Value} {h : rz_H} (hr : X.2.2.2.1 = none) (hd : decode X.1 pc = .ok (.return_, 1)) (hc : cells ≤ rm.cells ∧ slots ≤ rm.slots) (hp : post none h) : Wk Γ X rm post K cells slots pc L [] h :=
  fun C H locs ls hO hS hl => W.widen hc.1 hc.2 (W.vret C.1 C.2.1 (C.2.2.2.2.1.trans hr) (fun t ht hW => ⟨⟨_, _, rfl, hp, by rw [ht]; exact hO⟩, hS.F ht⟩) hS.2.2 hd (hlocks := C.2.2.2.2.2.1))
theorem rz_areturn {Γ : rz_G} {X : rz_X} {rm : Room} {post : Option Value → rz_H → Prop} {K : rz_K} {cells slots pc : Nat} {L : List (Nat × Value)} {st : List Value} {h : rz_H} {r : Option Nat} {rt : FieldType} (hr : X.2.2.2.1 = some rt) (hrt : (∃ n, rt = .object n) ∨ ∃ t, rt = .array t) (hd : decode X.1 pc = .ok (.areturn, 1)) (hc : cells ≤ rm.cells ∧ slots ≤ rm.slots) (hp : post (some (va_rf r)) h) : Wk Γ X rm post K cells slots pc L [va_rf r] h :=
  fun C H locs ls hO hS hl => W.widen hc.1 hc.2 (W.aret C.1 C.2.1 (C.2.2.2.2.1.trans hr) hrt (by cases r with | none => exact Or.inl rfl | some a => exact Or.inr ⟨a, rfl⟩) (fun t ht hW => ⟨⟨_, _, rfl, hp, by rw [ht]; exact hO⟩, hS.F ht⟩) hS.2.2 hd (hlocks := C.2.2.2.2.2.1))
/-! forms of a contract's end -/
def pI (P : Int → rz_H → Prop) : Option Value → rz_H → Prop := fun v h' => ∃ r : Int, v = some (vi r) ∧ P r h'
def pL (P : Int → rz_H → Prop) : Option Value → rz_H → Prop := fun v h' => ∃ r : Int, v = some (vl r) ∧ P r h'
def pV (P : rz_H → Prop) : Option Value → rz_H → Prop := fun v h' => v = none ∧ P h'
def pR (P : Nat → rz_H → Prop) : Option Value → rz_H → Prop := fun v h' => ∃ a : Nat, v = some (.ref a) ∧ P a h'
def pO (P : Option Nat → rz_H → Prop) : Option Value → rz_H → Prop := fun v h' => ∃ a : Option Nat, v = some (va_rf a) ∧ P a h'
/-- an answer, and the heap as it was -/
abbrev pE (x : Int) (h : rz_H) : Option Value → rz_H → Prop := pI (fun r h' => r = x ∧ h' = h)
abbrev pEL (x : Int) (h : rz_H) : Option Value → rz_H → Prop := pL (fun r h' => r = x ∧ h' = h)
theorem nz_b (b : Bool) : narrow .boolean (vi (bi b)) = vi (bi b) := by cases b <;> rfl
theorem bi1 {b : Bool} (h : b = true) : (1 : Int) = bi b := by rw [h]; rfl
theorem bi0 {b : Bool} (h : b = false) : (0 : Int) = bi b := by rw [h]; rfl
theorem kI {Γ : rz_G} {X : rz_X} {rm : Room} {post : Option Value → rz_H → Prop} {K : rz_K} {cells slots pc : Nat} {L : List (Nat × Value)} {st : List Value} {h : rz_H} {P : Int → rz_H → Prop} (k : ∀ (r : Int) (h' : rz_H), P r h' → Wk Γ X rm post K cells slots pc L (vi r :: st) h') : ∀ (v : Option Value) (h' : rz_H), pI P v h' → Wk Γ X rm post K cells slots pc L (v.toList ++ st) h' := by
  rintro v h' ⟨r, rfl, hp⟩
  exact k r h' hp
theorem kL {Γ : rz_G} {X : rz_X} {rm : Room} {post : Option Value → rz_H → Prop} {K : rz_K} {cells slots pc : Nat} {L : List (Nat × Value)} {st : List Value} {h : rz_H} {P : Int → rz_H → Prop} (k : ∀ (r : Int) (h' : rz_H), P r h' → Wk Γ X rm post K cells slots pc L (vl r :: st) h') : ∀ (v : Option Value) (h' : rz_H), pL P v h' → Wk Γ X rm post K cells slots pc L (v.toList ++ st) h' := by
  rintro v h' ⟨r, rfl, hp⟩
  exact k r h' hp
theorem kE {Γ : rz_G} {X : rz_X} {rm : Room} {post : Option Value → rz_H → Prop} {K : rz_K} {cells slots pc : Nat} {L : List (Nat × Value)} {st : List Value} {h : rz_H} {x : Int} {h0 : rz_H} (k : Wk Γ X rm post K cells slots pc L (vi x :: st) h0) : ∀ (v : Option Value) (h' : rz_H), pE x h0 v h' → Wk Γ X rm post K cells slots pc L (v.toList ++ st) h' := by
  rintro v h' ⟨r, rfl, rfl, rfl⟩
  exact k
theorem kEL {Γ : rz_G} {X : rz_X} {rm : Room} {post : Option Value → rz_H → Prop} {K : rz_K} {cells slots pc : Nat} {L : List (Nat × Value)} {st : List Value} {h : rz_H} {x : Int} {h0 : rz_H} (k : Wk Γ X rm post K cells slots pc L (vl x :: st) h0) : ∀ (v : Option Value) (h' : rz_H), pEL x h0 v h' → Wk Γ X rm post K cells slots pc L (v.toList ++ st) h' := by
  rintro v h' ⟨r, rfl, rfl, rfl⟩
  exact k
theorem kV {Γ : rz_G} {X : rz_X} {rm : Room} {post : Option Value → rz_H → Prop} {K : rz_K} {cells slots pc : Nat} {L : List (Nat × Value)} {st : List Value} {h : rz_H} {P : rz_H → Prop} (k : ∀ h' : rz_H, P h' → Wk Γ X rm post K cells slots pc L st h') : ∀ (v : Option Value) (h' : rz_H), pV P v h' → Wk Γ X rm post K cells slots pc L (v.toList ++ st) h' := by
  rintro v h' ⟨rfl, hp⟩
  exact k h' hp
theorem kR {Γ : rz_G} {X : rz_X} {rm : Room} {post : Option Value → rz_H → Prop} {K : rz_K} {cells slots pc : Nat} {L : List (Nat × Value)} {st : List Value} {h : rz_H} {P : Nat → rz_H → Prop} (k : ∀ (a : Nat) (h' : rz_H), P a h' → Wk Γ X rm post K cells slots pc L (.ref a :: st) h') : ∀ (v : Option Value) (h' : rz_H), pR P v h' → Wk Γ X rm post K cells slots pc L (v.toList ++ st) h' := by
  rintro v h' ⟨a, rfl, hp⟩
  exact k a h' hp
theorem rz_nm {Γ : rz_G} {X : rz_X} {rm : Room} {post : Option Value → rz_H → Prop} {K : rz_K} {cells slots pc : Nat} {L : List (Nat × Value)} {st : List Value} {h : rz_H} (k : ∀ h2 : rz_H, h2 = h → Wk Γ X rm post K cells slots pc L st h2) : Wk Γ X rm post K cells slots pc L st h := k h rfl
end
section
/-! CORE 2: fields, arrays, new cells, calls -/
/-- a field of class number ci, place k, as the method's class spells it -/
def rz_lnk (own : String) (idx ci k : Nat) : Prop := ∃ (q : vw_C) (ref : String), rz_cl[ci]? = some q ∧ k < q.2.2 ∧ ((Cond.fieldLink own idx ref (q.2.1 k).2.1 (q.2.1 k).2.2.1 ∈ rz_W) ∨ ∃ host, (own, idx, ref, (q.2.1 k).2.1, (q.2.1 k).2.2.1, host) ∈ rz_NF) ∧ (ref = (q.2.1 k).1 ∨ Cond.sameField ref (q.2.1 k).1 (q.2.1 k).2.1 (q.2.1 k).2.2.1 ∈ rz_W)
/-- .. that may be written here -/
def rz_lnkP (own nm : String) (idx ci k : Nat) (ty : FieldType) : Prop := ∃ (q : vw_C) (ref : String), rz_cl[ci]? = some q ∧ k < q.2.2 ∧ ((Cond.fieldLink own idx ref (q.2.1 k).2.1 (q.2.1 k).2.2.1 ∈ rz_W ∧ ((q.2.1 k).2.2.2 = false ∨ ((q.2.1 k).2.2.2 = true ∧ nm = "<init>" ∧ (q.2.1 k).1 = own))) ∨ ((q.2.1 k).2.2.2 = false ∧ ∃ host, (own, idx, ref, (q.2.1 k).2.1, (q.2.1 k).2.2.1, host) ∈ rz_NF)) ∧ (ref = (q.2.1 k).1 ∨ Cond.sameField ref (q.2.1 k).1 (q.2.1 k).2.1 (q.2.1 k).2.2.1 ∈ rz_W) ∧ parseFieldDescriptor (q.2.1 k).2.2.1 = some ty
theorem rz_cell {Γ : rz_G} {h : rz_H} {s : State} {H : Heap} {locs : List Loc} {a ci : Nat} {t : Nat × Nat} {fs : List Value} {q : vw_C} (hE : rz_E Γ s) (hO : rz_O Γ h H) (hS : va_S (rz_A Γ) s.heap H locs) (ha : h a = some (t, .inr (ci, fs))) (hc : rz_cl[ci]? = some q) : ∃ cell : Cell, H[a]? = some cell ∧ cell.vm.isStatics = false ∧ s.vm.findClass q.1 = some cell.cls := by
  obtain ⟨ws, hP, hD, hws⟩ := hO
  rcases hws a t _ ha with ⟨-, q0, hq0⟩ | ⟨-, hz⟩
  · exact va_recv hE.1 hP hc hq0
  · obtain ⟨r, h1, h2, h3⟩ := hE.2.2.2.2.1 a _ _ hz
    cases h1.symm.trans hc
    obtain ⟨cell, g1, g2, g3, -⟩ := h2.kept hS.2.1
    exact ⟨cell, g1, g2, g3⟩
theorem rz_getf {Γ : rz_G} {X : rz_X} {rm : Room} {post : Option Value → rz_H → Prop} {K : rz_K} {cells slots pc : Nat} {L : List (Nat × Value)} {st : List Value} {h : rz_H} {idx ci k a : Nat} {t : Nat × Nat} {fs : List Value} {v : Value} (hf : rz_lnk X.2.1 idx ci k) (ha : h a = some (t, .inr (ci, fs))) (hv : fs[k]? = some v) (hd : decode X.1 pc = .ok (.getfield idx, 3)) (kk : Wk Γ X rm post K cells slots (pc + 3) L (v :: st) h) : Wk Γ X rm post K cells slots pc L (.ref a :: st) h := by
  intro C H locs ls hO hS hl
  have kk' := kk C H locs ls hO hS hl
  obtain ⟨hx, hb, hml, hown, hr, hlk, hnm, hE⟩ := C
  have hW := hE.2.2.1
  obtain ⟨⟨Cn, T, N⟩, ref, hc, hkN, hlink, hsame⟩ := hf
  have hs' : ∀ x, K.2.2.2.1.fieldFound? (T k).1 (T k).2.1 (T k).2.2.1 = some x → K.2.2.2.1.fieldFound? ref (T k).2.1 (T k).2.2.1 = some x := by
    rcases hsame with h1 | h1
    · intro x hx
      rw [h1]
      exact hx
    · exact fun x hx => u_same (hW _ h1 #[]) x hx
  obtain ⟨ws, hP, hD, hws⟩ := hO
  rcases hws a t _ ha with ⟨-, q0, hq0⟩ | ⟨-, hz⟩
  · rcases hlink with hlink | ⟨host, hlink⟩
    · exact va_get hx hb (fun w hw => hW w hw _) (rz_lays ci _ hc) hown hE.1 hP q0 hq0 hc k hkN (hW _ hlink _) hs' hv hd kk'
    · exact va_getN hx hb (fun w hw => hW w hw _) (rz_lays ci _ hc) hown hE.1 hP q0 hq0 hc k hkN (va_Nw.use rfl (hE.2.2.2.1.1 _ hlink)) hs' hv hd kk'
  · obtain ⟨r, h1, h2, h3⟩ := hE.2.2.2.2.1 a _ _ hz
    cases h1.symm.trans hc
    rcases hlink with hlink | ⟨host, hlink⟩
    · exact vk_getf hx hb (h3 k v hv) hS hown (hW _ hlink _) hs' hd kk'
    · obtain ⟨cf, kf, fi, f, cell, g1, g2, g3, g4, g5, g6⟩ := (h3 k v hv).kept hS.2.1
      exact va_Wgetf hx hb hown (va_Nw.use rfl (hE.2.2.2.1.1 _ hlink)) (hs' _ g1) g2 g3 g4 (v := v) g5 rfl rfl hd kk'
theorem rz_putf {Γ : rz_G} {X : rz_X} {rm : Room} {post : Option Value → rz_H → Prop} {K : rz_K} {cells slots pc : Nat} {L : List (Nat × Value)} {st : List Value} {h : rz_H} {idx ci k a : Nat} {t : Nat × Nat} {fs : List Value} {v : Value} {ty : FieldType} (hf : rz_lnkP X.2.1 X.2.2.2.2 idx ci k ty) (ha : h a = some (t, .inr (ci, fs))) (ht : t.1 ≠ 0) (hn : narrow ty v = v) (hfit : fits ty v = true) (hl0 : k < fs.length) (hd : decode X.1 pc = .ok (.putfield idx, 3)) (kk : Wk Γ X rm post K cells slots (pc + 3) L st (rz_up h a (t, .inr (ci, fs.set k v)))) : Wk Γ X rm post K cells slots pc L (v :: .ref a :: st) h := by
  intro C H locs ls hO hS hl
  have kk' := kk C
  obtain ⟨hx, hb, hml, hown, hr, hlk, hnm, hE⟩ := C
  have hW := hE.2.2.1
  obtain ⟨⟨Cn, T, N⟩, ref, hc, hkN, hlink, hsame, hpd⟩ := hf
  have hs' : ∀ x, K.2.2.2.1.fieldFound? (T k).1 (T k).2.1 (T k).2.2.1 = some x → K.2.2.2.1.fieldFound? ref (T k).2.1 (T k).2.2.1 = some x := by
    rcases hsame with h1 | h1
    · intro x hx
      rw [h1]
      exact hx
    · exact fun x hx => u_same (hW _ h1 #[]) x hx
  obtain ⟨⟨ty0, hty⟩, hnn⟩ := rz_tys ci _ hc
  obtain ⟨ws, hP, hD, hws⟩ := hO
  rcases hws a t _ ha with ⟨-, q0, hq0⟩ | ⟨h0, -⟩
  · rcases hlink with ⟨hlink, hfin | ⟨hfin, hi, hdc⟩⟩ | ⟨hfin, host, hlink⟩
    · exact va_put hx hb (fun w hw => hW w hw _) (rz_lays ci _ hc) ty0 hty hnn hown hE.1 hP hD hS q0 hq0 hc k hkN (hW _ hlink _) hs' hfin hpd hn hfit hl0 hd (fun H1 locs1 hP1 hD1 hS1 => kk' H1 locs1 ls (rz_O.set hws hq0 ht hP1 hD1) hS1 hl)
    · exact va_putF hx hb (fun w hw => hW w hw _) (rz_lays ci _ hc) ty0 hty hnn hown hE.1 hP hD hS q0 hq0 hc k hkN (hW _ hlink _) hs' hfin (hnm.trans hi) hdc hpd hn hfit hl0 hd (fun H1 locs1 hP1 hD1 hS1 => kk' H1 locs1 ls (rz_O.set hws hq0 ht hP1 hD1) hS1 hl)
    · exact va_putN hx hb (fun w hw => hW w hw _) (rz_lays ci _ hc) ty0 hty hnn hown hE.1 hP hD hS q0 hq0 hc k hkN (va_Nw.use rfl (hE.2.2.2.1.1 _ hlink)) hs' hfin hpd hn hfit hl0 hd (fun H1 locs1 hP1 hD1 hS1 => kk' H1 locs1 ls (rz_O.set hws hq0 ht hP1 hD1) hS1 hl)
  · exact absurd h0 ht
theorem rz_gets {Γ : rz_G} {X : rz_X} {rm : Room} {post : Option Value → rz_H → Prop} {K : rz_K} {cells slots pc : Nat} {L : List (Nat × Value)} {st : List Value} {h : rz_H} {idx : Nat} {C0 n d ref : String} {v : Value} (hz : (C0, n, d, v) ∈ rz_Z Γ.2.2.2.2) (hw : Cond.fieldLink X.2.1 idx ref n d ∈ rz_W) (hsame : ref = C0 ∨ Cond.sameField ref C0 n d ∈ rz_W) (hd : decode X.1 pc = .ok (.getstatic idx, 3)) (kk : Wk Γ X rm post K cells slots (pc + 3) L (v :: st) h) : Wk Γ X rm post K cells slots pc L st h := by
  intro C H locs ls hO hS hl
  have kk' := kk C H locs ls hO hS hl
  obtain ⟨hx, hb, hml, hown, hr, hlk, hnm, hE⟩ := C
  refine va_gets hx hb (hE.2.2.2.2.2.1 _ hz) hS hown (hE.2.2.1 _ hw _) ?_ hd kk'
  rcases hsame with h1 | h1
  · intro x hx
    rw [h1]
    exact hx
  · exact fun x hx => u_same (hE.2.2.1 _ h1 #[]) x hx
/-! arrays -/
abbrev aI (Γ : rz_G) (k n : Nat) (g : Int → Int) : va_E := .inl (Γ.2.1 k, n, .inl (fun j : Nat => Int32.ofInt (g (j : Int))))
abbrev aL (Γ : rz_G) (n : Nat) (g : Int → Int) : va_E := .inl (Γ.2.1 3, n, .inr (.inl (fun j : Nat => Int64.ofInt (g (j : Int)))))
abbrev aR (Γ : rz_G) (k n : Nat) (f : Int → Option Nat) : va_E := .inl (Γ.2.1 k, n, .inr (.inr (.inr (.inr (fun j : Nat => f (j : Int))))))
def rz_u {α : Type} (g : Int → α) (i : Int) (v : α) : Int → α := fun j => if j = i then v else g j
theorem rz_u_s {α : Type} (g : Int → α) (i : Int) (v : α) : rz_u g i v i = v := by simp [rz_u]
theorem rz_u_n {α : Type} {g : Int → α} {i j : Int} {v : α} (hn : j ≠ i) : rz_u g i v j = g j := by simp [rz_u, hn]
theorem rz_upd {g : Int → Int} {i v : Int} {x : Int32} (hi : 0 ≤ i ∧ i ≤ 2147483647) (hx : x = Int32.ofInt v) : upd (fun j : Nat => Int32.ofInt (g (j : Int))) (Int32.ofInt i).toNatClampNeg x = fun j : Nat => Int32.ofInt (rz_u g i v (j : Int)) := by
  funext j
  rw [rz_cl_i hi]
  by_cases hj : (j : Int) = i
  · rw [hj, rz_u_s, show j = i.toNat by omega, pk_us, hx]
  · rw [rz_u_n hj, pk_un (by omega)]
theorem rz_updL {g : Int → Int} {i v : Int} (hi : 0 ≤ i ∧ i ≤ 2147483647) : vp_updL (fun j : Nat => Int64.ofInt (g (j : Int))) (Int32.ofInt i).toNatClampNeg (Int64.ofInt v) = fun j : Nat => Int64.ofInt (rz_u g i v (j : Int)) := by
  funext j
  rw [rz_cl_i hi]
  by_cases hj : (j : Int) = i
  · rw [hj, rz_u_s, show j = i.toNat by omega, pk_uLs]
  · rw [rz_u_n hj, pk_uLn (by omega)]
theorem rz_updQ {f : Int → Option Nat} {i : Int} {v : Option Nat} (hi : 0 ≤ i ∧ i ≤ 2147483647) : va_up (fun j : Nat => f (j : Int)) (Int32.ofInt i).toNatClampNeg v = fun j : Nat => rz_u f i v (j : Int) := by
  funext j
  rw [rz_cl_i hi]
  by_cases hj : (j : Int) = i
  · rw [hj, rz_u_s, show j = i.toNat by omega, va_up_self]
  · rw [rz_u_n hj, va_up_ne _ _ (by omega)]
theorem rz_ixn {i : Int} (hi : 0 ≤ i ∧ i ≤ 2147483647) : (((Int32.ofInt i).toNatClampNeg : Nat) : Int) = i := by rw [rz_cl_i hi]; omega
theorem rz_iaload {Γ : rz_G} {X : rz_X} {rm : Room} {post : Option Value → rz_H → Prop} {K : rz_K} {cells slots pc : Nat} {L : List (Nat × Value)} {st : List Value} {h : rz_H} {a n : Nat} {t : Nat × Nat} {g : Int → Int} {i : Int} (ha : h a = some (t, aI Γ 0 n g)) (ht : t.1 ≠ 0) (hi : 0 ≤ i ∧ i < n ∧ i ≤ 2147483647) (hd : decode X.1 pc = .ok (.iaload, 1)) (kk : Wk Γ X rm post K cells slots (pc + 1) L (vi (g i) :: st) h) : Wk Γ X rm post K cells slots pc L (vi i :: .ref a :: st) h := by
  intro C H locs ls hO hS hl
  have kk' := kk C H locs ls hO hS hl
  have hE := C.2.2.2.2.2.2.2
  obtain ⟨ws, hP, hD, hws⟩ := hO
  rcases hws a t _ ha with ⟨-, q0, hq0⟩ | ⟨h0, -⟩
  · refine va_iald C.1 C.2.1 hE.1 hP q0 0 hq0 rfl (rz_in hi) hd ?_
    rw [rz_ixn ⟨hi.1, hi.2.2⟩]
    exact kk'
  · exact absurd h0 ht
theorem rz_zaload {Γ : rz_G} {X : rz_X} {rm : Room} {post : Option Value → rz_H → Prop} {K : rz_K} {cells slots pc : Nat} {L : List (Nat × Value)} {st : List Value} {h : rz_H} {a n : Nat} {t : Nat × Nat} {g : Int → Int} {i : Int} (ha : h a = some (t, aI Γ 1 n g)) (ht : t.1 ≠ 0) (hi : 0 ≤ i ∧ i < n ∧ i ≤ 2147483647) (hd : decode X.1 pc = .ok (.baload, 1)) (kk : Wk Γ X rm post K cells slots (pc + 1) L (vi (g i) :: st) h) : Wk Γ X rm post K cells slots pc L (vi i :: .ref a :: st) h := by
  intro C H locs ls hO hS hl
  have kk' := kk C H locs ls hO hS hl
  have hE := C.2.2.2.2.2.2.2
  obtain ⟨ws, hP, hD, hws⟩ := hO
  rcases hws a t _ ha with ⟨-, q0, hq0⟩ | ⟨h0, -⟩
  · refine va_zald C.1 C.2.1 hE.1 hP q0 1 hq0 rfl (rz_in hi) hd ?_
    rw [rz_ixn ⟨hi.1, hi.2.2⟩]
    exact kk'
  · exact absurd h0 ht
theorem rz_laload {Γ : rz_G} {X : rz_X} {rm : Room} {post : Option Value → rz_H → Prop} {K : rz_K} {cells slots pc : Nat} {L : List (Nat × Value)} {st : List Value} {h : rz_H} {a n : Nat} {t : Nat × Nat} {g : Int → Int} {i : Int} (ha : h a = some (t, aL Γ n g)) (ht : t.1 ≠ 0) (hi : 0 ≤ i ∧ i < n ∧ i ≤ 2147483647) (hd : decode X.1 pc = .ok (.laload, 1)) (kk : Wk Γ X rm post K cells slots (pc + 1) L (vl (g i) :: st) h) : Wk Γ X rm post K cells slots pc L (vi i :: .ref a :: st) h := by
  intro C H locs ls hO hS hl
  have kk' := kk C H locs ls hO hS hl
  have hE := C.2.2.2.2.2.2.2
  obtain ⟨ws, hP, hD, hws⟩ := hO
  rcases hws a t _ ha with ⟨-, q0, hq0⟩ | ⟨h0, -⟩
  · refine va_lald C.1 C.2.1 hE.1 hP q0 3 hq0 rfl (rz_in hi) hd ?_
    rw [rz_ixn ⟨hi.1, hi.2.2⟩]
    exact kk'
  · exact absurd h0 ht
theorem rz_baload {Γ : rz_G} {X : rz_X} {rm : Room} {post : Option Value → rz_H → Prop} {K : rz_K} {cells slots pc : Nat} {L : List (Nat × Value)} {st : List Value} {h : rz_H} {a n : Nat} {t : Nat × Nat} {g : Int → Int} {i : Int} (ha : h a = some (t, aI Γ 2 n g)) (ht : t.1 = 0 → t.2 = 2) (hi : 0 ≤ i ∧ i < n ∧ i ≤ 2147483647) (hd : decode X.1 pc = .ok (.baload, 1)) (kk : Wk Γ X rm post K cells slots (pc + 1) L (vi (g i) :: st) h) : Wk Γ X rm post K cells slots pc L (vi i :: .ref a :: st) h := by
  intro C H locs ls hO hS hl
  have kk' := kk C H locs ls hO hS hl
  have hE := C.2.2.2.2.2.2.2
  obtain ⟨ws, hP, hD, hws⟩ := hO
  rcases hws a t _ ha with ⟨-, q0, hq0⟩ | ⟨h0, hz⟩
  · refine va_bald C.1 C.2.1 hE.1 hP q0 2 hq0 rfl (rz_in hi) hd ?_
    rw [rz_ixn ⟨hi.1, hi.2.2⟩]
    exact kk'
  · obtain ⟨ty, h1, h2⟩ := hE.2.2.2.2.1 a _ _ hz
    rw [ht h0] at h1
    cases h1
    exact va_tb C.1 C.2.1 h2 hS (rz_in hi) (v := vi (g i)) (by show Value.int (Int32.ofInt (g (((Int32.ofInt i).toNatClampNeg : Nat) : Int))) = _; rw [rz_ixn ⟨hi.1, hi.2.2⟩]) hd kk'
theorem rz_aaload {Γ : rz_G} {X : rz_X} {rm : Room} {post : Option Value → rz_H → Prop} {K : rz_K} {cells slots pc : Nat} {L : List (Nat × Value)} {st : List Value} {h : rz_H} {a n k : Nat} {C0 : String} {t : Nat × Nat} {f : Int → Option Nat} {i : Int} (ha : h a = some (t, aR Γ k n f)) (hk : (rz_T Γ.2.1)[k]? = some (Γ.2.1 k, .object C0)) (ht : t.1 ≠ 0) (hi : 0 ≤ i ∧ i < n ∧ i ≤ 2147483647) (hd : decode X.1 pc = .ok (.aaload, 1)) (kk : Wk Γ X rm post K cells slots (pc + 1) L (va_rf (f i) :: st) h) : Wk Γ X rm post K cells slots pc L (vi i :: .ref a :: st) h := by
  intro C H locs ls hO hS hl
  have kk' := kk C H locs ls hO hS hl
  have hE := C.2.2.2.2.2.2.2
  obtain ⟨ws, hP, hD, hws⟩ := hO
  rcases hws a t _ ha with ⟨-, q0, hq0⟩ | ⟨h0, -⟩
  · refine va_aldq C.1 C.2.1 hE.1 hP q0 k hq0 hk (rz_in hi) hd ?_
    rw [rz_ixn ⟨hi.1, hi.2.2⟩]
    exact kk'
  · exact absurd h0 ht
theorem rz_iastore {Γ : rz_G} {X : rz_X} {rm : Room} {post : Option Value → rz_H → Prop} {K : rz_K} {cells slots pc : Nat} {L : List (Nat × Value)} {st : List Value} {h : rz_H} {a n : Nat} {t : Nat × Nat} {g : Int → Int} {i v : Int} (ha : h a = some (t, aI Γ 0 n g)) (ht : t.1 ≠ 0) (hi : 0 ≤ i ∧ i < n ∧ i ≤ 2147483647) (hd : decode X.1 pc = .ok (.iastore, 1)) (kk : Wk Γ X rm post K cells slots (pc + 1) L st (rz_up h a (t, aI Γ 0 n (rz_u g i v)))) : Wk Γ X rm post K cells slots pc L (vi v :: vi i :: .ref a :: st) h := by
  intro C H locs ls hO hS hl
  have hE := C.2.2.2.2.2.2.2
  obtain ⟨ws, hP, hD, hws⟩ := hO
  rcases hws a t _ ha with ⟨-, q0, hq0⟩ | ⟨h0, -⟩
  · refine va_iast C.1 C.2.1 hE.1 hP hD hS q0 0 hq0 rfl (rz_in hi) hd (fun H1 locs1 hP1 hD1 hS1 => ?_)
    rw [rz_upd (v := v) ⟨hi.1, hi.2.2⟩ rfl] at hP1 hD1
    exact kk C H1 locs1 ls (rz_O.set hws hq0 ht hP1 hD1) hS1 hl
  · exact absurd h0 ht
theorem rz_zastore {Γ : rz_G} {X : rz_X} {rm : Room} {post : Option Value → rz_H → Prop} {K : rz_K} {cells slots pc : Nat} {L : List (Nat × Value)} {st : List Value} {h : rz_H} {a n : Nat} {t : Nat × Nat} {g : Int → Int} {i v : Int} (ha : h a = some (t, aI Γ 1 n g)) (ht : t.1 ≠ 0) (hi : 0 ≤ i ∧ i < n ∧ i ≤ 2147483647) (hv : v = 0 ∨ v = 1) (hd : decode X.1 pc = .ok (.bastore, 1)) (kk : Wk Γ X rm post K cells slots (pc + 1) L st (rz_up h a (t, aI Γ 1 n (rz_u g i v)))) : Wk Γ X rm post K cells slots pc L (vi v :: vi i :: .ref a :: st) h := by
  intro C H locs ls hO hS hl
  have hE := C.2.2.2.2.2.2.2
  obtain ⟨ws, hP, hD, hws⟩ := hO
  rcases hws a t _ ha with ⟨-, q0, hq0⟩ | ⟨h0, -⟩
  · refine va_zast C.1 C.2.1 hE.1 hP hD hS q0 1 hq0 rfl (rz_in hi) hd (fun H1 locs1 hP1 hD1 hS1 => ?_)
    rw [rz_upd (v := v) ⟨hi.1, hi.2.2⟩ (by rcases hv with rfl | rfl <;> rfl)] at hP1 hD1
    exact kk C H1 locs1 ls (rz_O.set hws hq0 ht hP1 hD1) hS1 hl
  · exact absurd h0 ht
theorem rz_nb {v : Int} (hv : -128 ≤ v ∧ v ≤ 127) : vp_nar .byte (Int32.ofInt v) = Int32.ofInt v := by
  rw [vp_nar_byte, ← Int32.toInt_inj, Int8.toInt_toInt32, rz_ti (by omega), Int32.toInt_toInt8, rz_ti (by omega)]
  exact Int.bmod_eq_of_le (by omega) (by omega)
theorem rz_bastore {Γ : rz_G} {X : rz_X} {rm : Room} {post : Option Value → rz_H → Prop} {K : rz_K} {cells slots pc : Nat} {L : List (Nat × Value)} {st : List Value} {h : rz_H} {a n : Nat} {t : Nat × Nat} {g : Int → Int} {i v : Int} (ha : h a = some (t, aI Γ 2 n g)) (ht : t.1 ≠ 0) (hi : 0 ≤ i ∧ i < n ∧ i ≤ 2147483647) (hv : -128 ≤ v ∧ v ≤ 127) (hd : decode X.1 pc = .ok (.bastore, 1)) (kk : Wk Γ X rm post K cells slots (pc + 1) L st (rz_up h a (t, aI Γ 2 n (rz_u g i v)))) : Wk Γ X rm post K cells slots pc L (vi v :: vi i :: .ref a :: st) h := by
  intro C H locs ls hO hS hl
  have hE := C.2.2.2.2.2.2.2
  obtain ⟨ws, hP, hD, hws⟩ := hO
  rcases hws a t _ ha with ⟨-, q0, hq0⟩ | ⟨h0, -⟩
  · refine va_bast C.1 C.2.1 hE.1 hP hD hS q0 2 hq0 rfl (rz_in hi) hd (fun H1 locs1 hP1 hD1 hS1 => ?_)
    rw [rz_upd (v := v) ⟨hi.1, hi.2.2⟩ (rz_nb hv)] at hP1 hD1
    exact kk C H1 locs1 ls (rz_O.set hws hq0 ht hP1 hD1) hS1 hl
  · exact absurd h0 ht
theorem rz_lastore {Γ : rz_G} {X : rz_X} {rm : Room} {post : Option Value → rz_H → Prop} {K : rz_K} {cells slots pc : Nat} {L : List (Nat × Value)} {st : List Value} {h : rz_H} {a n : Nat} {t : Nat × Nat} {g : Int → Int} {i v : Int} (ha : h a = some (t, aL Γ n g)) (ht : t.1 ≠ 0) (hi : 0 ≤ i ∧ i < n ∧ i ≤ 2147483647) (hd : decode X.1 pc = .ok (.lastore, 1)) (kk : Wk Γ X rm post K cells slots (pc + 1) L st (rz_up h a (t, aL Γ n (rz_u g i v)))) : Wk Γ X rm post K cells slots pc L (vl v :: vi i :: .ref a :: st) h := by
  intro C H locs ls hO hS hl
  have hE := C.2.2.2.2.2.2.2
  obtain ⟨ws, hP, hD, hws⟩ := hO
  rcases hws a t _ ha with ⟨-, q0, hq0⟩ | ⟨h0, -⟩
  · refine va_last C.1 C.2.1 hE.1 hP hD hS q0 3 hq0 rfl (rz_in hi) hd (fun H1 locs1 hP1 hD1 hS1 => ?_)
    rw [rz_updL (v := v) ⟨hi.1, hi.2.2⟩] at hP1 hD1
    exact kk C H1 locs1 ls (rz_O.set hws hq0 ht hP1 hD1) hS1 hl
  · exact absurd h0 ht
theorem rz_alen {Γ : rz_G} {X : rz_X} {rm : Room} {post : Option Value → rz_H → Prop} {K : rz_K} {cells slots pc : Nat} {L : List (Nat × Value)} {st : List Value} {h : rz_H} {a k : Nat} {t : Nat × Nat} {x : vp_A} {ty : FieldType} {v : Int} (ha : h a = some (t, .inl (Γ.2.1 k, x))) (ht : t.1 ≠ 0) (hk : (rz_T Γ.2.1)[k]? = some (Γ.2.1 k, ty)) (hv : v = (x.1 : Int)) (hd : decode X.1 pc = .ok (.arraylength, 1)) (kk : Wk Γ X rm post K cells slots (pc + 1) L (vi v :: st) h) : Wk Γ X rm post K cells slots pc L (.ref a :: st) h := by
  intro C H locs ls hO hS hl
  have kk' := kk C H locs ls hO hS hl
  have hE := C.2.2.2.2.2.2.2
  obtain ⟨ws, hP, hD, hws⟩ := hO
  rcases hws a t _ ha with ⟨-, q0, hq0⟩ | ⟨h0, -⟩
  · exact va_alen C.1 C.2.1 hE.1 hP q0 k hq0 hk (by rw [hv, Int32.ofInt_eq_ofNat]) hd kk'
  · exact absurd h0 ht
theorem rz_alenF {Γ : rz_G} {X : rz_X} {rm : Room} {post : Option Value → rz_H → Prop} {K : rz_K} {cells slots pc : Nat} {L : List (Nat × Value)} {st : List Value} {h : rz_H} {a k n : Nat} {g : Int → Int} {v : Int} (ha : h a = some ((0, k), aI Γ k n g)) (hv : v = (n : Int)) (hd : decode X.1 pc = .ok (.arraylength, 1)) (kk : Wk Γ X rm post K cells slots (pc + 1) L (vi v :: st) h) : Wk Γ X rm post K cells slots pc L (.ref a :: st) h := by
  intro C H locs ls hO hS hl
  have kk' := kk C H locs ls hO hS hl
  have hE := C.2.2.2.2.2.2.2
  obtain ⟨ws, hP, hD, hws⟩ := hO
  rcases hws a _ _ ha with ⟨h0, -⟩ | ⟨-, hz⟩
  · exact absurd rfl h0
  · obtain ⟨ty, h1, h2⟩ := hE.2.2.2.2.1 a _ _ hz
    exact va_tlen C.1 C.2.1 h2 hS (by rw [hv, Int32.ofInt_eq_ofNat]) hd kk'
theorem rz_alenQ {Γ : rz_G} {X : rz_X} {rm : Room} {post : Option Value → rz_H → Prop} {K : rz_K} {cells slots pc : Nat} {L : List (Nat × Value)} {st : List Value} {h : rz_H} {a k n : Nat} {f : Int → Option Nat} {v : Int} (ha : h a = some ((0, k), aR Γ k n f)) (hv : v = (n : Int)) (hd : decode X.1 pc = .ok (.arraylength, 1)) (kk : Wk Γ X rm post K cells slots (pc + 1) L (vi v :: st) h) : Wk Γ X rm post K cells slots pc L (.ref a :: st) h := by
  intro C H locs ls hO hS hl
  have kk' := kk C H locs ls hO hS hl
  have hE := C.2.2.2.2.2.2.2
  obtain ⟨ws, hP, hD, hws⟩ := hO
  rcases hws a _ _ ha with ⟨h0, -⟩ | ⟨-, hz⟩
  · exact absurd rfl h0
  · obtain ⟨ty, h1, h2⟩ := hE.2.2.2.2.1 a _ _ hz
    exact va_tlen C.1 C.2.1 h2 hS (by rw [hv, Int32.ofInt_eq_ofNat]) hd kk'
/-- what a new array of a type holds -/
theorem rz_newa {Γ : rz_G} {X : rz_X} {rm : Room} {post : Option Value → rz_H → Prop} {K : rz_K} {cells slots pc : Nat} {L : List (Nat × Value)} {st : List Value} {h : rz_H} {atype : ArrayType} {k : Nat} {ty : FieldType} {a0 : vp_A} {n : Int} (N : Nat) (t : Nat × Nat) (ht : t.1 ≠ 0) (hty : newarray.typeOf atype = ty) (hk : (rz_T Γ.2.1)[k]? = some (Γ.2.1 k, ty)) (hR : ∀ (U : State) (cA : ClassId), va_RA U cA ty → U.vm.findClass ("[" ++ ty.toString) = some cA) (ha0 : ∀ cA : ClassId, vp_cell cA a0 = arrV cA N (fun _ => defaultValue ty)) (hw : Cond.arrayClass ty ∈ rz_W) (hn : n = (N : Int)) (hN : N ≤ 10000000) (hby : componentBytes ty ≤ 8) (hc : cells + 1 ≤ rm.cells ∧ slots + N ≤ rm.slots) (hd : decode X.1 pc = .ok (.newarray atype, 2))
    (kk : ∀ q : Nat, h q = none → Wk Γ X rm post K (cells + 1) (slots + N) (pc + 2) L (.ref q :: st) (rz_up h q (t, .inl (Γ.2.1 k, a0)))) : Wk Γ X rm post K cells slots pc L (vi n :: st) h := by
  intro C H locs ls hO hS hl
  have hE := C.2.2.2.2.2.2.2
  obtain ⟨ws, hP, hD, hws⟩ := hO
  subst hty
  refine va_newa C.1 C.2.1 (hE.2.2.1 _ hw _) rfl hE.1 hP hD hS (fun q hq => Nat.le_trans hE.2.1 hq) (a0 := a0) ha0 (n := Int32.ofInt n) (by rw [rz_0, rz_lt (by omega) (by omega)]; omega) (by rw [rz_cl_i (by omega)]; omega) (Nat.le_trans (Nat.mul_le_mul hN hby) (by decide)) hc.1 hc.2 hd (fun q cA H1 hK1 hP1 hD1 hS1 => ?_)
  have e1 := hR _ _ (hE.1.2 k _ hk).2
  have e2 := hR _ _ (hK1.2 (rz_T Γ.2.1).length (cA, newarray.typeOf atype) (by rw [List.getElem?_append_right (Nat.le_refl _), Nat.sub_self]; rfl)).2
  have e3 : cA = Γ.2.1 k := Option.some.inj (e2.symm.trans e1)
  subst e3
  obtain ⟨hq, hO1⟩ := rz_O.push hE hws ht hP1 hD1
  exact kk q hq C H1 locs ls hO1 hS1 hl
theorem rz_anew {Γ : rz_G} {X : rz_X} {rm : Room} {post : Option Value → rz_H → Prop} {K : rz_K} {cells slots pc : Nat} {L : List (Nat × Value)} {st : List Value} {h : rz_H} {idx k : Nat} {C0 : String} {n : Int} (N : Nat) (t : Nat × Nat) (ht : t.1 ≠ 0) (hk : (rz_T Γ.2.1)[k]? = some (Γ.2.1 k, .object C0)) (hw : Cond.classLink X.2.1 idx C0 ∈ rz_W) (ho : C0 ∈ rz_NA) (hn : n = (N : Int)) (hN : N ≤ 10000000) (hc : cells + 1 ≤ rm.cells ∧ slots + N ≤ rm.slots) (hd : decode X.1 pc = .ok (.anewarray idx, 3))
    (kk : ∀ q : Nat, h q = none → Wk Γ X rm post K (cells + 1) (slots + N) (pc + 3) L (.ref q :: st) (rz_up h q (t, aR Γ k N (fun _ => none)))) : Wk Γ X rm post K cells slots pc L (vi n :: st) h := by
  intro C H locs ls hO hS hl
  have hE := C.2.2.2.2.2.2.2
  obtain ⟨ws, hP, hD, hws⟩ := hO
  refine va_newq C.1 C.2.1 C.2.2.2.1 (hE.2.2.1 _ hw _) (hE.2.2.2.1.2.2.2 _ ho) hE.1 hP hD hS (fun q hq => Nat.le_trans hE.2.1 hq) (n := Int32.ofInt n) (N' := N) (by rw [rz_0, rz_lt (by omega) (by omega)]; omega) (by rw [rz_cl_i (by omega)]; omega) (by omega) hc.1 hc.2 hd (fun q cA H1 hK1 hP1 hD1 hS1 => ?_)
  obtain ⟨-, -, -, -, -, e1⟩ := (hE.1.2 k _ hk).2
  obtain ⟨-, -, -, -, -, e2⟩ := (hK1.2 (rz_T Γ.2.1).length (cA, .object C0) (by rw [List.getElem?_append_right (Nat.le_refl _), Nat.sub_self]; rfl)).2
  have e3 : cA = Γ.2.1 k := Option.some.inj (e2.symm.trans e1)
  subst e3
  obtain ⟨hq, hO1⟩ := rz_O.push hE hws ht hP1 hD1
  exact kk q hq C H1 locs ls hO1 hS1 hl
/-- an object is made: its fields are blank -/
theorem rz_new {Γ : rz_G} {X : rz_X} {rm : Room} {post : Option Value → rz_H → Prop} {K : rz_K} {cells slots pc : Nat} {L : List (Nat × Value)} {st : List Value} {h : rz_H} {idx ci : Nat} {q0 : vw_C} {fs : List Value} (t : Nat × Nat) (ht : t.1 ≠ 0) (hc : rz_cl[ci]? = some q0) (hfs : rz_bl ci = fs) (hw : Cond.classLink X.2.1 idx q0.1 ∈ rz_W) (hcs : cells + 1 ≤ rm.cells ∧ slots + q0.2.2 ≤ rm.slots) (hd : decode X.1 pc = .ok (.new idx, 3))
    (kk : ∀ q : Nat, h q = none → Wk Γ X rm post K (cells + 1) (slots + q0.2.2) (pc + 3) L (.ref q :: st) (rz_up h q (t, .inr (ci, fs)))) : Wk Γ X rm post K cells slots pc L st h := by
  intro C H locs ls hO hS hl
  have hE := C.2.2.2.2.2.2.2
  have hW := hE.2.2.1
  obtain ⟨ws, hP, hD, hws⟩ := hO
  obtain ⟨ty0, hty, hdf, hi1, hi2⟩ := rz_born ci _ hc
  subst hfs
  obtain ⟨Cn, T, N⟩ := q0
  refine va_new C.1 C.2.1 (fun w hw => hW w hw _) (rz_lays ci _ hc) ty0 hty C.2.2.2.1 (hW _ hw _) (hW _ hi1 _) (hW _ hi2 _) hE.1 hP hD hS (fun q hq => Nat.le_trans hE.2.1 hq) hc hdf hcs.1 hcs.2 hd (fun q H1 hP1 hD1 hS1 => ?_)
  obtain ⟨hq, hO1⟩ := rz_O.push hE hws ht hP1 hD1
  exact kk q hq C H1 locs ls hO1 hS1 hl
theorem rz_cast {Γ : rz_G} {X : rz_X} {rm : Room} {post : Option Value → rz_H → Prop} {K : rz_K} {cells slots pc : Nat} {L : List (Nat × Value)} {st : List Value} {h : rz_H} {idx a ci : Nat} {t : Nat × Nat} {fs : List Value} {q0 : vw_C} (ha : h a = some (t, .inr (ci, fs))) (hc : rz_cl[ci]? = some q0) (hw : Cond.classLink X.2.1 idx q0.1 ∈ rz_W) (hd : decode X.1 pc = .ok (.checkcast idx, 3)) (kk : Wk Γ X rm post K cells slots (pc + 3) L (.ref a :: st) h) : Wk Γ X rm post K cells slots pc L (.ref a :: st) h :=
  fun C H locs ls hO hS hl => va_castE C.1 C.2.1 C.2.2.2.1 (C.2.2.2.2.2.2.2.2.2.1 _ hw _) (rz_cell C.2.2.2.2.2.2.2 hO hS ha hc) hd (kk C H locs ls hO hS hl)
theorem rz_inst {Γ : rz_G} {X : rz_X} {rm : Room} {post : Option Value → rz_H → Prop} {K : rz_K} {cells slots pc : Nat} {L : List (Nat × Value)} {st : List Value} {h : rz_H} {idx a ci : Nat} {t : Nat × Nat} {fs : List Value} {q0 : vw_C} (ha : h a = some (t, .inr (ci, fs))) (hc : rz_cl[ci]? = some q0) (hw : Cond.classLink X.2.1 idx q0.1 ∈ rz_W) (hd : decode X.1 pc = .ok (.instanceof idx, 3)) (kk : Wk Γ X rm post K cells slots (pc + 3) L (vi 1 :: st) h) : Wk Γ X rm post K cells slots pc L (.ref a :: st) h :=
  fun C H locs ls hO hS hl => va_instE C.1 C.2.1 C.2.2.2.1 (C.2.2.2.2.2.2.2.2.2.1 _ hw _) (rz_cell C.2.2.2.2.2.2.2 hO hS ha hc) hd (kk C H locs ls hO hS hl)
theorem rz_objInit {Γ : rz_G} {X : rz_X} {rm : Room} {post : Option Value → rz_H → Prop} {K : rz_K} {cells slots pc : Nat} {L : List (Nat × Value)} {st : List Value} {h : rz_H} {idx a : Nat} (hw : Cond.methodLink X.2.1 idx objectInit ∈ rz_W) (hi : Cond.instanceMethod objectInit ∈ rz_W) (hcd : Cond.code objectInit ⟨#[0xb1]⟩ 1 none ∈ rz_W) (hs : (st.map fun v => v.category).sum + 12 ≤ rm.locals) (hfr : 1 ≤ rm.frames) (hd : decode X.1 pc = .ok (.invokespecial idx, 3)) (kk : Wk Γ X rm post K cells slots (pc + 3) L st h) : Wk Γ X rm post K cells slots pc L (.ref a :: st) h := by
  intro C H locs ls hO hS hl
  have kk' := kk C H locs ls hO hS hl
  obtain ⟨hx, hb, hml, hown, hr, hlk, hnm, hE⟩ := C
  refine W.objInit hx hb hown (hE.2.2.1 _ hw _) (hE.2.2.1 _ hi _) (hE.2.2.1 _ hcd _) rfl (by rw [hml]; exact hl.1) rfl hd hfr ?_ kk'
  show 2 * 0 + _ + 12 ≤ _
  omega
/-! calls -/
theorem rz_go {Γ : rz_G} {X : rz_X} {rm : Room} {post : Option Value → rz_H → Prop} {K : rz_K} {cells slots pc : Nat} {L : List (Nat × Value)} {rest st0 : List Value} {a : Array Value} {mc ms : Nat} {post' : Option Value → rz_H → Prop} {H : Heap} {locs : List Loc} {ls : Array Slot} (C : rz_C Γ X K) (hl : lv_has ls X.2.2.1 L)
    (hr : va_Run K.2.1 K.1 K.2.2.1 rm K.2.2.2.1 K.2.2.2.2.1 K.2.2.2.2.2.1 K.2.2.2.2.2.2.1 K.2.2.2.2.2.2.2.1 K.2.2.2.2.2.2.2.2 H locs cells slots mc ms (F0 K.2.2.2.2.1 pc ls st0) rest (rz_Q Γ post' a) (rz_A Γ)) (hS : va_S (rz_A Γ) K.2.2.2.1.heap H locs)
    (kk : ∀ (v : Option Value) (h' : rz_H), post' v h' → Wk Γ X rm post K (cells + mc) (slots + ms) (pc + 3) L (v.toList ++ rest) h') :
    W K.2.1 K.1 K.2.2.1 rm K.2.2.2.1 K.2.2.2.2.1 K.2.2.2.2.2.1 K.2.2.2.2.2.2.1 K.2.2.2.2.2.2.2.1 K.2.2.2.2.2.2.2.2 H locs cells slots (MQ K.2.2.2.2.2.2.1 (rz_Q Γ post) K.2.2.2.2.2.1 K.2.2.2.1 rm.cells rm.slots (rz_A Γ)) (F0 K.2.2.2.2.1 pc ls st0) := by
  intro T hT X0
  obtain ⟨v, st₀, t, T', Ls, h0, X', hL, e1, e2, ⟨⟨v', h', hv, hp, ho⟩, hz, hk⟩, sts⟩ := hr T hT X0
  cases hv
  rw [h0] at hz hk
  obtain ⟨t2, a1, b1⟩ := kk v h' hp C T'.heap (locs ++ Ls) ls (by rw [e1]; exact ho)
    ⟨Nat.le_trans hS.1 (by rw [e1]; exact hz), fun q h1 h2 => by rw [e1, hk q (Nat.lt_of_lt_of_le h1 hS.1) h2]; exact hS.2.1 q h1 h2, fun q hq => by
      rcases List.mem_append.mp hq with h | h
      · exact hS.2.2 q h
      · exact hL q h⟩ hl T' rfl X'
  exact ⟨t2, sts t2 a1, b1⟩
theorem rz_blind {Γ : rz_G} {args : List Value} {h : rz_H} : FrameBlind (va_Pc args (fun U => rz_E Γ U ∧ rz_O Γ h U.heap)) := fun a U g mk q => ⟨q.1, rz_E.moved q.2.1 (Nat.le_refl _) (fun _ _ _ => rfl) (State.WarmedH.refl U), q.2.2⟩
theorem rz_pre {Γ : rz_G} {As : List Value} {h : rz_H} {s : State} {H : Heap} {locs : List Loc} (hE : rz_E Γ s) (hO : rz_O Γ h H) (hS : va_S (rz_A Γ) s.heap H locs) : ∀ U : State, U.heap = H → s.WarmedH U.vm → va_Pc As (fun U => rz_E Γ U ∧ rz_O Γ h U.heap) As.toArray U :=
  fun U hU hW => ⟨rfl, rz_E.moved hE (by rw [hU]; exact hS.1) (fun q h1 h2 => by rw [hU]; exact hS.2.1 q h1 h2) hW, by rw [hU]; exact hO⟩
theorem rz_len {y : MethodName} {n : Nat} (hd : (parseMethodDescriptor y.desc).map (fun d => d.parameters.length) = some n) : ∀ sig, parseMethodDescriptor y.desc = some sig → n = sig.parameters.length := fun sig h => by
  rw [h] at hd
  exact (Option.some.inj hd).symm
def rz_mB (y : MethodName) (Xc : rz_X) (n : Nat) : Prop := Cond.initialized y.cls ∈ rz_W ∧ Cond.code y Xc.1 Xc.2.2.1 Xc.2.2.2.1 ∈ rz_W ∧ (y.cls ≠ "java/lang/invoke/MethodHandle" ∧ y.cls ≠ "java/lang/invoke/VarHandle") ∧ (parseMethodDescriptor y.desc).map (fun d => d.parameters.length) = some n
def rz_mL (own : String) (idx : Nat) (y : MethodName) : Prop := Cond.methodLink own idx y ∈ rz_W ∨ ∃ host, (own, idx, y, host) ∈ rz_NM
def rz_mV (own : String) (idx : Nat) (C : String) (y : MethodName) (Xc : rz_X) (n : Nat) : Prop := rz_mL own idx y ∧ Cond.instanceMethod y ∈ rz_W ∧ Cond.selects C y y ∈ rz_W ∧ rz_mB y Xc n
def rz_mS (own : String) (idx : Nat) (y : MethodName) (Xc : rz_X) (n : Nat) : Prop := rz_mL own idx y ∧ Cond.static y ∈ rz_W ∧ rz_mB y Xc n
def rz_mI (own : String) (idx : Nat) (y : MethodName) (Xc : rz_X) (n : Nat) : Prop := rz_mL own idx y ∧ Cond.instanceMethod y ∈ rz_W ∧ y.name = "<init>" ∧ Xc.2.2.2.1 = none ∧ rz_mB y Xc n
theorem rz_callV {Γ : rz_G} {X : rz_X} {rm : Room} {post : Option Value → rz_H → Prop} {K : rz_K} {cells slots pc : Nat} {L : List (Nat × Value)} {st : List Value} {h : rz_H} {Xc : rz_X} {y : MethodName} {rmc : Room} {post' : Option Value → rz_H → Prop} {idx n : Nat} {st0 : List Value} {Cn : String} {As : List Value} {b ci : Nat} {tb : Nat × Nat} {fs : List Value} {q0 : vw_C} (hM : Ct K.1 Γ Xc y rmc (.ref b :: As) h post') (hm : rz_mV X.2.1 idx Cn y Xc n) (ha : h b = some (tb, .inr (ci, fs))) (hc : rz_cl[ci]? = some q0) (hC : q0.1 = Cn) (hn : As.length = n) (hst : st0 = As.reverse ++ .ref b :: st) (hcat : (st.map fun v => v.category).sum ≤ 8) (hR : rmc.frames + 1 ≤ rm.frames ∧ 8 + (Xc.2.2.1 + 11) + rmc.locals ≤ rm.locals) (hf : cells + rmc.cells ≤ rm.cells ∧ slots + rmc.slots ≤ rm.slots) (hd : decode X.1 pc = .ok (.invokevirtual idx, 3))
    (kk : ∀ (v : Option Value) (h' : rz_H), post' v h' → Wk Γ X rm post K (cells + rmc.cells) (slots + rmc.slots) (pc + 3) L (v.toList ++ st) h') : Wk Γ X rm post K cells slots pc L st0 h := by
  obtain ⟨hlink, hin, hse, hini, hcd, hmh, hdl⟩ := hm
  subst hC
  intro C H locs ls hO hS hl
  have C0 := C
  obtain ⟨hx, hb, hml, hown, hr, hlk, hnm, hE⟩ := C
  have hW := hE.2.2.1
  have hcw := hW _ hcd K.2.2.2.2.2.1
  have hws : ∀ w ∈ [Cond.code y Xc.1 Xc.2.2.1 Xc.2.2.2.1], ∀ (a' : Array Value) (U : State), K.2.2.2.1.WarmedH U.vm → w.before a' U = true := fun w hw a' U hWm => by
    rw [List.mem_singleton.mp hw]
    exact word_at hWm (rz_good _ hcd) hcw
  have hp : PreV K.2.2.2.1 H q0.1 b (va_Pc (.ref b :: As) (fun U => rz_E Γ U ∧ rz_O Γ h U.heap)) As := ⟨rz_blind, rz_cell hE hO hS ha hc, rz_pre hE hO hS⟩
  refine rz_go (a := (Value.ref b :: As).toArray) C0 hl ?_ hS kk
  rcases hlink with hlink | ⟨host, hlink⟩
  · exact va_runV (Ts := rz_W) ⟨hx, hb, hml, hown, fun w hw => hW w hw _⟩ hM ⟨⟨rfl, rfl, hR.1, hR.2, hws, List.mem_singleton.mpr rfl, hcw, hW _ hini _, hmh, rz_len hdl, hW _ hlink _⟩, hW _ hin _, hW _ hse _⟩ hp rfl hn hl.1 hst (lv_room hcat) hd hf
  · exact va_runVN (Ts := rz_W) ⟨hx, hb, hml, hown, fun w hw => hW w hw _⟩ hM ⟨⟨⟨rfl, rfl, hR.1, hR.2, hws, List.mem_singleton.mpr rfl⟩, hcw, hW _ hini _, hmh, rz_len hdl, va_Nw.use rfl (hE.2.2.2.1.2.1 _ hlink)⟩, hW _ hin _, hW _ hse _⟩ hp rfl hn hl.1 hst (lv_room hcat) hd hf
theorem rz_callS {Γ : rz_G} {X : rz_X} {rm : Room} {post : Option Value → rz_H → Prop} {K : rz_K} {cells slots pc : Nat} {L : List (Nat × Value)} {st : List Value} {h : rz_H} {Xc : rz_X} {y : MethodName} {rmc : Room} {post' : Option Value → rz_H → Prop} {idx n : Nat} {st0 : List Value} {As : List Value} (hM : Ct K.1 Γ Xc y rmc As h post') (hm : rz_mS X.2.1 idx y Xc n) (hn : As.length = n) (hst : st0 = As.reverse ++ st) (hcat : (st.map fun v => v.category).sum ≤ 8) (hR : rmc.frames + 1 ≤ rm.frames ∧ 8 + (Xc.2.2.1 + 11) + rmc.locals ≤ rm.locals) (hf : cells + rmc.cells ≤ rm.cells ∧ slots + rmc.slots ≤ rm.slots) (hd : decode X.1 pc = .ok (.invokestatic idx, 3))
    (kk : ∀ (v : Option Value) (h' : rz_H), post' v h' → Wk Γ X rm post K (cells + rmc.cells) (slots + rmc.slots) (pc + 3) L (v.toList ++ st) h') : Wk Γ X rm post K cells slots pc L st0 h := by
  obtain ⟨hlink, hin, hini, hcd, hmh, hdl⟩ := hm
  intro C H locs ls hO hS hl
  have C0 := C
  obtain ⟨hx, hb, hml, hown, hr, hlk, hnm, hE⟩ := C
  have hW := hE.2.2.1
  have hcw := hW _ hcd K.2.2.2.2.2.1
  have hws : ∀ w ∈ [Cond.code y Xc.1 Xc.2.2.1 Xc.2.2.2.1], ∀ (a' : Array Value) (U : State), K.2.2.2.1.WarmedH U.vm → w.before a' U = true := fun w hw a' U hWm => by
    rw [List.mem_singleton.mp hw]
    exact word_at hWm (rz_good _ hcd) hcw
  have hp : PreS K.2.2.2.1 H (va_Pc As (fun U => rz_E Γ U ∧ rz_O Γ h U.heap)) As := ⟨rz_blind, rz_pre hE hO hS⟩
  refine rz_go (a := As.toArray) C0 hl ?_ hS kk
  rcases hlink with hlink | ⟨host, hlink⟩
  · exact va_runS (Ts := rz_W) ⟨hx, hb, hml, hown, fun w hw => hW w hw _⟩ hM ⟨⟨rfl, rfl, hR.1, hR.2, hws, List.mem_singleton.mpr rfl, hcw, hW _ hini _, hmh, rz_len hdl, hW _ hlink _⟩, hW _ hin _⟩ hp rfl hn hl.1 hst (lv_room hcat) hd hf
  · exact va_runSN (Ts := rz_W) ⟨hx, hb, hml, hown, fun w hw => hW w hw _⟩ hM ⟨⟨⟨rfl, rfl, hR.1, hR.2, hws, List.mem_singleton.mpr rfl⟩, hcw, hW _ hini _, hmh, rz_len hdl, va_Nw.use rfl (hE.2.2.2.1.2.1 _ hlink)⟩, hW _ hin _, trivial⟩ hp rfl hn hl.1 hst (lv_room hcat) hd hf
theorem rz_callI {Γ : rz_G} {X : rz_X} {rm : Room} {post : Option Value → rz_H → Prop} {K : rz_K} {cells slots pc : Nat} {L : List (Nat × Value)} {st : List Value} {h : rz_H} {Xc : rz_X} {y : MethodName} {rmc : Room} {post' : Option Value → rz_H → Prop} {idx n : Nat} {st0 : List Value} {As : List Value} {b : Nat} (hM : Ct K.1 Γ Xc y rmc (.ref b :: As) h post') (hm : rz_mI X.2.1 idx y Xc n) (hn : As.length = n) (hst : st0 = As.reverse ++ .ref b :: st) (hcat : (st.map fun v => v.category).sum ≤ 8) (hR : rmc.frames + 1 ≤ rm.frames ∧ 8 + (Xc.2.2.1 + 11) + rmc.locals ≤ rm.locals) (hf : cells + rmc.cells ≤ rm.cells ∧ slots + rmc.slots ≤ rm.slots) (hd : decode X.1 pc = .ok (.invokespecial idx, 3))
    (kk : ∀ (v : Option Value) (h' : rz_H), post' v h' → Wk Γ X rm post K (cells + rmc.cells) (slots + rmc.slots) (pc + 3) L (v.toList ++ st) h') : Wk Γ X rm post K cells slots pc L st0 h := by
  obtain ⟨hlink, hin, hy1, hret, hini, hcd, hmh, hdl⟩ := hm
  obtain ⟨c1, o1, n1, r1, m1⟩ := Xc
  dsimp only at hret
  subst hret
  intro C H locs ls hO hS hl
  have C0 := C
  obtain ⟨hx, hb, hml, hown, hr, hlk, hnm, hE⟩ := C
  have hW := hE.2.2.1
  have hcw := hW _ hcd K.2.2.2.2.2.1
  have hws : ∀ w ∈ [Cond.code y c1 n1 none], ∀ (a' : Array Value) (U : State), K.2.2.2.1.WarmedH U.vm → w.before a' U = true := fun w hw a' U hWm => by
    rw [List.mem_singleton.mp hw]
    exact word_at hWm (rz_good _ hcd) hcw
  have hp : PreS K.2.2.2.1 H (va_Pc (.ref b :: As) (fun U => rz_E Γ U ∧ rz_O Γ h U.heap)) (.ref b :: As) := ⟨rz_blind, rz_pre hE hO hS⟩
  refine rz_go (a := (Value.ref b :: As).toArray) C0 hl ?_ hS kk
  rcases hlink with hlink | ⟨host, hlink⟩
  · exact va_runI (Ts := rz_W) ⟨hx, hb, hml, hown, fun w hw => hW w hw _⟩ hM ⟨⟨rfl, rfl, hR.1, hR.2, hws, List.mem_singleton.mpr rfl, hcw, hW _ hini _, hmh, rz_len hdl, hW _ hlink _⟩, hy1, hW _ hin _⟩ hp rfl hn hl.1 hst (lv_room hcat) hd hf
  · exact va_runIN (Ts := rz_W) ⟨hx, hb, hml, hown, fun w hw => hW w hw _⟩ hM ⟨⟨⟨rfl, rfl, hR.1, hR.2, hws, List.mem_singleton.mpr rfl⟩, hcw, hW _ hini _, hmh, rz_len hdl, va_Nw.use rfl (hE.2.2.2.1.2.1 _ hlink)⟩, hy1, hW _ hin _⟩ hp rfl hn hl.1 hst (lv_room hcat) hd hf
end
section
/-! links of the reference -/
theorem f_Md_7 : rz_lnk "ReleaseSolverModel" 7 3 0 := ⟨("ReleaseSolverModel", k_T3, 20), "ReleaseSolverModel", rfl, by decide, Or.inl (rz_mem 989 (by decide +kernel) rfl), Or.inl rfl⟩
theorem fp_Md_7 : rz_lnkP "ReleaseSolverModel" "<init>" 7 3 0 (.array (.int)) := ⟨("ReleaseSolverModel", k_T3, 20), "ReleaseSolverModel", rfl, by decide, Or.inl ⟨(rz_mem 989 (by decide +kernel) rfl), Or.inr ⟨rfl, rfl, rfl⟩⟩, Or.inl rfl, by decide +kernel⟩
theorem f_Md_13 : rz_lnk "ReleaseSolverModel" 13 3 1 := ⟨("ReleaseSolverModel", k_T3, 20), "ReleaseSolverModel", rfl, by decide, Or.inl (rz_mem 990 (by decide +kernel) rfl), Or.inl rfl⟩
theorem fp_Md_13 : rz_lnkP "ReleaseSolverModel" "<init>" 13 3 1 (.array (.int)) := ⟨("ReleaseSolverModel", k_T3, 20), "ReleaseSolverModel", rfl, by decide, Or.inl ⟨(rz_mem 990 (by decide +kernel) rfl), Or.inr ⟨rfl, rfl, rfl⟩⟩, Or.inl rfl, by decide +kernel⟩
theorem f_Md_16 : rz_lnk "ReleaseSolverModel" 16 3 2 := ⟨("ReleaseSolverModel", k_T3, 20), "ReleaseSolverModel", rfl, by decide, Or.inl (rz_mem 991 (by decide +kernel) rfl), Or.inl rfl⟩
theorem fp_Md_16 : rz_lnkP "ReleaseSolverModel" "<init>" 16 3 2 (.array (.int)) := ⟨("ReleaseSolverModel", k_T3, 20), "ReleaseSolverModel", rfl, by decide, Or.inl ⟨(rz_mem 991 (by decide +kernel) rfl), Or.inr ⟨rfl, rfl, rfl⟩⟩, Or.inl rfl, by decide +kernel⟩
theorem f_Md_19 : rz_lnk "ReleaseSolverModel" 19 3 3 := ⟨("ReleaseSolverModel", k_T3, 20), "ReleaseSolverModel", rfl, by decide, Or.inl (rz_mem 992 (by decide +kernel) rfl), Or.inl rfl⟩
theorem fp_Md_19 : rz_lnkP "ReleaseSolverModel" "<init>" 19 3 3 (.array (.boolean)) := ⟨("ReleaseSolverModel", k_T3, 20), "ReleaseSolverModel", rfl, by decide, Or.inl ⟨(rz_mem 992 (by decide +kernel) rfl), Or.inr ⟨rfl, rfl, rfl⟩⟩, Or.inl rfl, by decide +kernel⟩
theorem f_Md_23 : rz_lnk "ReleaseSolverModel" 23 3 4 := ⟨("ReleaseSolverModel", k_T3, 20), "ReleaseSolverModel", rfl, by decide, Or.inl (rz_mem 993 (by decide +kernel) rfl), Or.inl rfl⟩
theorem fp_Md_23 : rz_lnkP "ReleaseSolverModel" "<init>" 23 3 4 (.array (.boolean)) := ⟨("ReleaseSolverModel", k_T3, 20), "ReleaseSolverModel", rfl, by decide, Or.inl ⟨(rz_mem 993 (by decide +kernel) rfl), Or.inr ⟨rfl, rfl, rfl⟩⟩, Or.inl rfl, by decide +kernel⟩
theorem f_Md_26 : rz_lnk "ReleaseSolverModel" 26 3 5 := ⟨("ReleaseSolverModel", k_T3, 20), "ReleaseSolverModel", rfl, by decide, Or.inl (rz_mem 994 (by decide +kernel) rfl), Or.inl rfl⟩
theorem fp_Md_26 : rz_lnkP "ReleaseSolverModel" "<init>" 26 3 5 (.array (.int)) := ⟨("ReleaseSolverModel", k_T3, 20), "ReleaseSolverModel", rfl, by decide, Or.inl ⟨(rz_mem 994 (by decide +kernel) rfl), Or.inr ⟨rfl, rfl, rfl⟩⟩, Or.inl rfl, by decide +kernel⟩
theorem f_Md_29 : rz_lnk "ReleaseSolverModel" 29 3 6 := ⟨("ReleaseSolverModel", k_T3, 20), "ReleaseSolverModel", rfl, by decide, Or.inl (rz_mem 995 (by decide +kernel) rfl), Or.inl rfl⟩
theorem fp_Md_29 : rz_lnkP "ReleaseSolverModel" "<init>" 29 3 6 (.array (.int)) := ⟨("ReleaseSolverModel", k_T3, 20), "ReleaseSolverModel", rfl, by decide, Or.inl ⟨(rz_mem 995 (by decide +kernel) rfl), Or.inr ⟨rfl, rfl, rfl⟩⟩, Or.inl rfl, by decide +kernel⟩
theorem f_Md_32 : rz_lnk "ReleaseSolverModel" 32 3 7 := ⟨("ReleaseSolverModel", k_T3, 20), "ReleaseSolverModel", rfl, by decide, Or.inl (rz_mem 996 (by decide +kernel) rfl), Or.inl rfl⟩
theorem fp_Md_32 : rz_lnkP "ReleaseSolverModel" "<init>" 32 3 7 (.array (.boolean)) := ⟨("ReleaseSolverModel", k_T3, 20), "ReleaseSolverModel", rfl, by decide, Or.inl ⟨(rz_mem 996 (by decide +kernel) rfl), Or.inr ⟨rfl, rfl, rfl⟩⟩, Or.inl rfl, by decide +kernel⟩
theorem f_Md_35 : rz_lnk "ReleaseSolverModel" 35 3 9 := ⟨("ReleaseSolverModel", k_T3, 20), "ReleaseSolverModel", rfl, by decide, Or.inl (rz_mem 998 (by decide +kernel) rfl), Or.inl rfl⟩
theorem fp_Md_35 : rz_lnkP "ReleaseSolverModel" "<init>" 35 3 9 (.array (.int)) := ⟨("ReleaseSolverModel", k_T3, 20), "ReleaseSolverModel", rfl, by decide, Or.inl ⟨(rz_mem 998 (by decide +kernel) rfl), Or.inr ⟨rfl, rfl, rfl⟩⟩, Or.inl rfl, by decide +kernel⟩
theorem f_Md_38 : rz_lnk "ReleaseSolverModel" 38 3 10 := ⟨("ReleaseSolverModel", k_T3, 20), "ReleaseSolverModel", rfl, by decide, Or.inl (rz_mem 999 (by decide +kernel) rfl), Or.inl rfl⟩
theorem fp_Md_38 : rz_lnkP "ReleaseSolverModel" "<init>" 38 3 10 (.array (.boolean)) := ⟨("ReleaseSolverModel", k_T3, 20), "ReleaseSolverModel", rfl, by decide, Or.inl ⟨(rz_mem 999 (by decide +kernel) rfl), Or.inr ⟨rfl, rfl, rfl⟩⟩, Or.inl rfl, by decide +kernel⟩
theorem f_Md_41 : rz_lnk "ReleaseSolverModel" 41 3 11 := ⟨("ReleaseSolverModel", k_T3, 20), "ReleaseSolverModel", rfl, by decide, Or.inl (rz_mem 1000 (by decide +kernel) rfl), Or.inl rfl⟩
theorem fp_Md_41 : rz_lnkP "ReleaseSolverModel" "<init>" 41 3 11 (.array (.int)) := ⟨("ReleaseSolverModel", k_T3, 20), "ReleaseSolverModel", rfl, by decide, Or.inl ⟨(rz_mem 1000 (by decide +kernel) rfl), Or.inr ⟨rfl, rfl, rfl⟩⟩, Or.inl rfl, by decide +kernel⟩
theorem f_Md_44 : rz_lnk "ReleaseSolverModel" 44 3 14 := ⟨("ReleaseSolverModel", k_T3, 20), "ReleaseSolverModel", rfl, by decide, Or.inl (rz_mem 1003 (by decide +kernel) rfl), Or.inl rfl⟩
theorem fp_Md_44 : rz_lnkP "ReleaseSolverModel" "<init>" 44 3 14 (.array (.int)) := ⟨("ReleaseSolverModel", k_T3, 20), "ReleaseSolverModel", rfl, by decide, Or.inl ⟨(rz_mem 1003 (by decide +kernel) rfl), Or.inr ⟨rfl, rfl, rfl⟩⟩, Or.inl rfl, by decide +kernel⟩
theorem f_Md_47 : rz_lnk "ReleaseSolverModel" 47 3 15 := ⟨("ReleaseSolverModel", k_T3, 20), "ReleaseSolverModel", rfl, by decide, Or.inl (rz_mem 1004 (by decide +kernel) rfl), Or.inl rfl⟩
theorem fp_Md_47 : rz_lnkP "ReleaseSolverModel" "<init>" 47 3 15 (.array (.boolean)) := ⟨("ReleaseSolverModel", k_T3, 20), "ReleaseSolverModel", rfl, by decide, Or.inl ⟨(rz_mem 1004 (by decide +kernel) rfl), Or.inr ⟨rfl, rfl, rfl⟩⟩, Or.inl rfl, by decide +kernel⟩
theorem f_Md_50 : rz_lnk "ReleaseSolverModel" 50 3 16 := ⟨("ReleaseSolverModel", k_T3, 20), "ReleaseSolverModel", rfl, by decide, Or.inl (rz_mem 1005 (by decide +kernel) rfl), Or.inl rfl⟩
theorem fp_Md_50 : rz_lnkP "ReleaseSolverModel" "<init>" 50 3 16 (.array (.boolean)) := ⟨("ReleaseSolverModel", k_T3, 20), "ReleaseSolverModel", rfl, by decide, Or.inl ⟨(rz_mem 1005 (by decide +kernel) rfl), Or.inr ⟨rfl, rfl, rfl⟩⟩, Or.inl rfl, by decide +kernel⟩
theorem f_Md_53 : rz_lnk "ReleaseSolverModel" 53 3 19 := ⟨("ReleaseSolverModel", k_T3, 20), "ReleaseSolverModel", rfl, by decide, Or.inl (rz_mem 1008 (by decide +kernel) rfl), Or.inl rfl⟩
theorem fp_Md_53 : rz_lnkP "ReleaseSolverModel" "<init>" 53 3 19 (.array (.int)) := ⟨("ReleaseSolverModel", k_T3, 20), "ReleaseSolverModel", rfl, by decide, Or.inl ⟨(rz_mem 1008 (by decide +kernel) rfl), Or.inr ⟨rfl, rfl, rfl⟩⟩, Or.inl rfl, by decide +kernel⟩
theorem f_Md_78 : rz_lnk "ReleaseSolverModel" 78 3 17 := ⟨("ReleaseSolverModel", k_T3, 20), "ReleaseSolverModel", rfl, by decide, Or.inl (rz_mem 1006 (by decide +kernel) rfl), Or.inl rfl⟩
theorem fp_Md_78 (nm : String) : rz_lnkP "ReleaseSolverModel" nm 78 3 17 (.int) := ⟨("ReleaseSolverModel", k_T3, 20), "ReleaseSolverModel", rfl, by decide, Or.inl ⟨(rz_mem 1006 (by decide +kernel) rfl), Or.inl rfl⟩, Or.inl rfl, by decide +kernel⟩
theorem f_Md_82 : rz_lnk "ReleaseSolverModel" 82 3 18 := ⟨("ReleaseSolverModel", k_T3, 20), "ReleaseSolverModel", rfl, by decide, Or.inl (rz_mem 1007 (by decide +kernel) rfl), Or.inl rfl⟩
theorem fp_Md_82 (nm : String) : rz_lnkP "ReleaseSolverModel" nm 82 3 18 (.int) := ⟨("ReleaseSolverModel", k_T3, 20), "ReleaseSolverModel", rfl, by decide, Or.inl ⟨(rz_mem 1007 (by decide +kernel) rfl), Or.inl rfl⟩, Or.inl rfl, by decide +kernel⟩
theorem f_Md_167 : rz_lnk "ReleaseSolverModel" 167 3 8 := ⟨("ReleaseSolverModel", k_T3, 20), "ReleaseSolverModel", rfl, by decide, Or.inl (rz_mem 997 (by decide +kernel) rfl), Or.inl rfl⟩
theorem fp_Md_167 (nm : String) : rz_lnkP "ReleaseSolverModel" nm 167 3 8 (.int) := ⟨("ReleaseSolverModel", k_T3, 20), "ReleaseSolverModel", rfl, by decide, Or.inl ⟨(rz_mem 997 (by decide +kernel) rfl), Or.inl rfl⟩, Or.inl rfl, by decide +kernel⟩
theorem f_Md_198 : rz_lnk "ReleaseSolverModel" 198 3 12 := ⟨("ReleaseSolverModel", k_T3, 20), "ReleaseSolverModel", rfl, by decide, Or.inl (rz_mem 1001 (by decide +kernel) rfl), Or.inl rfl⟩
theorem fp_Md_198 (nm : String) : rz_lnkP "ReleaseSolverModel" nm 198 3 12 (.boolean) := ⟨("ReleaseSolverModel", k_T3, 20), "ReleaseSolverModel", rfl, by decide, Or.inl ⟨(rz_mem 1001 (by decide +kernel) rfl), Or.inl rfl⟩, Or.inl rfl, by decide +kernel⟩
theorem f_Md_202 : rz_lnk "ReleaseSolverModel" 202 3 13 := ⟨("ReleaseSolverModel", k_T3, 20), "ReleaseSolverModel", rfl, by decide, Or.inl (rz_mem 1002 (by decide +kernel) rfl), Or.inl rfl⟩
theorem fp_Md_202 (nm : String) : rz_lnkP "ReleaseSolverModel" nm 202 3 13 (.boolean) := ⟨("ReleaseSolverModel", k_T3, 20), "ReleaseSolverModel", rfl, by decide, Or.inl ⟨(rz_mem 1002 (by decide +kernel) rfl), Or.inl rfl⟩, Or.inl rfl, by decide +kernel⟩
theorem m_Md_56 : rz_mS "ReleaseSolverModel" 56 y_Md_in x_Md_in 3 := ⟨Or.inl (rz_mem 1061 (by decide +kernel) rfl), (rz_mem 1062 (by decide +kernel) rfl), ⟨(rz_mem 65 (by decide +kernel) rfl), (rz_mem 1063 (by decide +kernel) rfl), ⟨by decide, by decide⟩, by decide +kernel⟩⟩
theorem m_Md_60 : rz_mS "ReleaseSolverModel" 60 y_Md_digit x_Md_digit 1 := ⟨Or.inl (rz_mem 1058 (by decide +kernel) rfl), (rz_mem 1059 (by decide +kernel) rfl), ⟨(rz_mem 65 (by decide +kernel) rfl), (rz_mem 1060 (by decide +kernel) rfl), ⟨by decide, by decide⟩, by decide +kernel⟩⟩
theorem m_Md_64 : rz_mS "ReleaseSolverModel" 64 y_Md_letter x_Md_letter 1 := ⟨Or.inl (rz_mem 1064 (by decide +kernel) rfl), (rz_mem 1065 (by decide +kernel) rfl), ⟨(rz_mem 65 (by decide +kernel) rfl), (rz_mem 1066 (by decide +kernel) rfl), ⟨by decide, by decide⟩, by decide +kernel⟩⟩
theorem m_Md_67 : rz_mS "ReleaseSolverModel" 67 y_Md_may x_Md_may 1 := ⟨Or.inl (rz_mem 1055 (by decide +kernel) rfl), (rz_mem 1056 (by decide +kernel) rfl), ⟨(rz_mem 65 (by decide +kernel) rfl), (rz_mem 1057 (by decide +kernel) rfl), ⟨by decide, by decide⟩, by decide +kernel⟩⟩
theorem m_Md_70 : rz_mV "ReleaseSolverModel" 70 "ReleaseSolverModel" y_Md_put x_Md_put 1 := ⟨Or.inl (rz_mem 1067 (by decide +kernel) rfl), (rz_mem 1069 (by decide +kernel) rfl), (rz_mem 23 (by decide +kernel) rfl), ⟨(rz_mem 65 (by decide +kernel) rfl), (rz_mem 1070 (by decide +kernel) rfl), ⟨by decide, by decide⟩, by decide +kernel⟩⟩
theorem m_Md_74 : rz_mV "ReleaseSolverModel" 74 "ReleaseSolverModel" y_Md_at x_Md_at 2 := ⟨Or.inl (rz_mem 1083 (by decide +kernel) rfl), (rz_mem 1085 (by decide +kernel) rfl), (rz_mem 25 (by decide +kernel) rfl), ⟨(rz_mem 65 (by decide +kernel) rfl), (rz_mem 1086 (by decide +kernel) rfl), ⟨by decide, by decide⟩, by decide +kernel⟩⟩
theorem m_Md_91 : rz_mV "ReleaseSolverModel" 91 "ReleaseSolverModel" y_Md_word x_Md_word 3 := ⟨Or.inl (rz_mem 1107 (by decide +kernel) rfl), (rz_mem 1109 (by decide +kernel) rfl), (rz_mem 31 (by decide +kernel) rfl), ⟨(rz_mem 65 (by decide +kernel) rfl), (rz_mem 1110 (by decide +kernel) rfl), ⟨by decide, by decide⟩, by decide +kernel⟩⟩
theorem m_Md_95 : rz_mS "ReleaseSolverModel" 95 y_Md_spelt x_Md_spelt 5 := ⟨Or.inl (rz_mem 1114 (by decide +kernel) rfl), (rz_mem 1115 (by decide +kernel) rfl), ⟨(rz_mem 65 (by decide +kernel) rfl), (rz_mem 1116 (by decide +kernel) rfl), ⟨by decide, by decide⟩, by decide +kernel⟩⟩
theorem m_Md_121 : rz_mV "ReleaseSolverModel" 121 "ReleaseSolverModel" y_Md_wordRank x_Md_wordRank 3 := ⟨Or.inl (rz_mem 1103 (by decide +kernel) rfl), (rz_mem 1105 (by decide +kernel) rfl), (rz_mem 30 (by decide +kernel) rfl), ⟨(rz_mem 65 (by decide +kernel) rfl), (rz_mem 1106 (by decide +kernel) rfl), ⟨by decide, by decide⟩, by decide +kernel⟩⟩
theorem m_Md_129 : rz_mV "ReleaseSolverModel" 129 "ReleaseSolverModel" y_Md_item x_Md_item 3 := ⟨Or.inl (rz_mem 1095 (by decide +kernel) rfl), (rz_mem 1097 (by decide +kernel) rfl), (rz_mem 28 (by decide +kernel) rfl), ⟨(rz_mem 65 (by decide +kernel) rfl), (rz_mem 1098 (by decide +kernel) rfl), ⟨by decide, by decide⟩, by decide +kernel⟩⟩
theorem m_Md_132 : rz_mV "ReleaseSolverModel" 132 "ReleaseSolverModel" y_Md_rankOf x_Md_rankOf 2 := ⟨Or.inl (rz_mem 1099 (by decide +kernel) rfl), (rz_mem 1101 (by decide +kernel) rfl), (rz_mem 29 (by decide +kernel) rfl), ⟨(rz_mem 65 (by decide +kernel) rfl), (rz_mem 1102 (by decide +kernel) rfl), ⟨by decide, by decide⟩, by decide +kernel⟩⟩
theorem m_Md_136 : rz_mV "ReleaseSolverModel" 136 "ReleaseSolverModel" y_Md_words x_Md_words 6 := ⟨Or.inl (rz_mem 1128 (by decide +kernel) rfl), (rz_mem 1130 (by decide +kernel) rfl), (rz_mem 32 (by decide +kernel) rfl), ⟨(rz_mem 65 (by decide +kernel) rfl), (rz_mem 1131 (by decide +kernel) rfl), ⟨by decide, by decide⟩, by decide +kernel⟩⟩
theorem m_Md_140 : rz_mV "ReleaseSolverModel" 140 "ReleaseSolverModel" y_Md_number x_Md_number 3 := ⟨Or.inl (rz_mem 1132 (by decide +kernel) rfl), (rz_mem 1134 (by decide +kernel) rfl), (rz_mem 33 (by decide +kernel) rfl), ⟨(rz_mem 65 (by decide +kernel) rfl), (rz_mem 1135 (by decide +kernel) rfl), ⟨by decide, by decide⟩, by decide +kernel⟩⟩
theorem m_Md_143 : rz_mV "ReleaseSolverModel" 143 "ReleaseSolverModel" y_Md_version x_Md_version 3 := ⟨Or.inl (rz_mem 1079 (by decide +kernel) rfl), (rz_mem 1081 (by decide +kernel) rfl), (rz_mem 24 (by decide +kernel) rfl), ⟨(rz_mem 65 (by decide +kernel) rfl), (rz_mem 1082 (by decide +kernel) rfl), ⟨by decide, by decide⟩, by decide +kernel⟩⟩
theorem m_Md_146 : rz_mV "ReleaseSolverModel" 146 "ReleaseSolverModel" y_Md_comma x_Md_comma 1 := ⟨Or.inl (rz_mem 1154 (by decide +kernel) rfl), (rz_mem 1156 (by decide +kernel) rfl), (rz_mem 37 (by decide +kernel) rfl), ⟨(rz_mem 65 (by decide +kernel) rfl), (rz_mem 1157 (by decide +kernel) rfl), ⟨by decide, by decide⟩, by decide +kernel⟩⟩
theorem m_Md_149 : rz_mV "ReleaseSolverModel" 149 "ReleaseSolverModel" y_Md_ordered x_Md_ordered 4 := ⟨Or.inl (rz_mem 1091 (by decide +kernel) rfl), (rz_mem 1093 (by decide +kernel) rfl), (rz_mem 27 (by decide +kernel) rfl), ⟨(rz_mem 65 (by decide +kernel) rfl), (rz_mem 1094 (by decide +kernel) rfl), ⟨by decide, by decide⟩, by decide +kernel⟩⟩
theorem m_Md_153 : rz_mV "ReleaseSolverModel" 153 "ReleaseSolverModel" y_Md_used x_Md_used 1 := ⟨Or.inl (rz_mem 1087 (by decide +kernel) rfl), (rz_mem 1089 (by decide +kernel) rfl), (rz_mem 26 (by decide +kernel) rfl), ⟨(rz_mem 65 (by decide +kernel) rfl), (rz_mem 1090 (by decide +kernel) rfl), ⟨by decide, by decide⟩, by decide +kernel⟩⟩
theorem m_Md_156 : rz_mV "ReleaseSolverModel" 156 "ReleaseSolverModel" y_Md_keep x_Md_keep 1 := ⟨Or.inl (rz_mem 1138 (by decide +kernel) rfl), (rz_mem 1140 (by decide +kernel) rfl), (rz_mem 34 (by decide +kernel) rfl), ⟨(rz_mem 65 (by decide +kernel) rfl), (rz_mem 1141 (by decide +kernel) rfl), ⟨by decide, by decide⟩, by decide +kernel⟩⟩
theorem m_Md_160 : rz_mV "ReleaseSolverModel" 160 "ReleaseSolverModel" y_Md_none x_Md_none 2 := ⟨Or.inl (rz_mem 1146 (by decide +kernel) rfl), (rz_mem 1148 (by decide +kernel) rfl), (rz_mem 35 (by decide +kernel) rfl), ⟨(rz_mem 65 (by decide +kernel) rfl), (rz_mem 1149 (by decide +kernel) rfl), ⟨by decide, by decide⟩, by decide +kernel⟩⟩
theorem m_Md_164 : rz_mV "ReleaseSolverModel" 164 "ReleaseSolverModel" y_Md_range x_Md_range 1 := ⟨Or.inl (rz_mem 1150 (by decide +kernel) rfl), (rz_mem 1152 (by decide +kernel) rfl), (rz_mem 36 (by decide +kernel) rfl), ⟨(rz_mem 65 (by decide +kernel) rfl), (rz_mem 1153 (by decide +kernel) rfl), ⟨by decide, by decide⟩, by decide +kernel⟩⟩
theorem m_Md_170 : rz_mV "ReleaseSolverModel" 170 "ReleaseSolverModel" y_Md_compareTexts x_Md_compareTexts 2 := ⟨Or.inl (rz_mem 1182 (by decide +kernel) rfl), (rz_mem 1184 (by decide +kernel) rfl), (rz_mem 38 (by decide +kernel) rfl), ⟨(rz_mem 65 (by decide +kernel) rfl), (rz_mem 1185 (by decide +kernel) rfl), ⟨by decide, by decide⟩, by decide +kernel⟩⟩
theorem m_Md_173 : rz_mV "ReleaseSolverModel" 173 "ReleaseSolverModel" y_Md_inside x_Md_inside 2 := ⟨Or.inl (rz_mem 1194 (by decide +kernel) rfl), (rz_mem 1196 (by decide +kernel) rfl), (rz_mem 39 (by decide +kernel) rfl), ⟨(rz_mem 65 (by decide +kernel) rfl), (rz_mem 1197 (by decide +kernel) rfl), ⟨by decide, by decide⟩, by decide +kernel⟩⟩
theorem m_Md_176 : rz_mV "ReleaseSolverModel" 176 "ReleaseSolverModel" y_Md_slot x_Md_slot 1 := ⟨Or.inl (rz_mem 1218 (by decide +kernel) rfl), (rz_mem 1220 (by decide +kernel) rfl), (rz_mem 44 (by decide +kernel) rfl), ⟨(rz_mem 65 (by decide +kernel) rfl), (rz_mem 1221 (by decide +kernel) rfl), ⟨by decide, by decide⟩, by decide +kernel⟩⟩
theorem m_Md_179 : rz_mV "ReleaseSolverModel" 179 "ReleaseSolverModel" y_Md_meets x_Md_meets 2 := ⟨Or.inl (rz_mem 1214 (by decide +kernel) rfl), (rz_mem 1216 (by decide +kernel) rfl), (rz_mem 43 (by decide +kernel) rfl), ⟨(rz_mem 65 (by decide +kernel) rfl), (rz_mem 1217 (by decide +kernel) rfl), ⟨by decide, by decide⟩, by decide +kernel⟩⟩
theorem m_Md_182 : rz_mV "ReleaseSolverModel" 182 "ReleaseSolverModel" y_Md_releaseGood x_Md_releaseGood 1 := ⟨Or.inl (rz_mem 1222 (by decide +kernel) rfl), (rz_mem 1224 (by decide +kernel) rfl), (rz_mem 45 (by decide +kernel) rfl), ⟨(rz_mem 65 (by decide +kernel) rfl), (rz_mem 1225 (by decide +kernel) rfl), ⟨by decide, by decide⟩, by decide +kernel⟩⟩
theorem m_Md_185 : rz_mV "ReleaseSolverModel" 185 "ReleaseSolverModel" y_Md_allLed x_Md_allLed 0 := ⟨Or.inl (rz_mem 1226 (by decide +kernel) rfl), (rz_mem 1228 (by decide +kernel) rfl), (rz_mem 46 (by decide +kernel) rfl), ⟨(rz_mem 65 (by decide +kernel) rfl), (rz_mem 1229 (by decide +kernel) rfl), ⟨by decide, by decide⟩, by decide +kernel⟩⟩
theorem m_Md_189 : rz_mV "ReleaseSolverModel" 189 "ReleaseSolverModel" y_Md_ranked x_Md_ranked 2 := ⟨Or.inl (rz_mem 1206 (by decide +kernel) rfl), (rz_mem 1208 (by decide +kernel) rfl), (rz_mem 41 (by decide +kernel) rfl), ⟨(rz_mem 65 (by decide +kernel) rfl), (rz_mem 1209 (by decide +kernel) rfl), ⟨by decide, by decide⟩, by decide +kernel⟩⟩
theorem m_Md_192 : rz_mV "ReleaseSolverModel" 192 "ReleaseSolverModel" y_Md_good x_Md_good 0 := ⟨Or.inl (rz_mem 1210 (by decide +kernel) rfl), (rz_mem 1212 (by decide +kernel) rfl), (rz_mem 42 (by decide +kernel) rfl), ⟨(rz_mem 65 (by decide +kernel) rfl), (rz_mem 1213 (by decide +kernel) rfl), ⟨by decide, by decide⟩, by decide +kernel⟩⟩
theorem m_Md_195 : rz_mV "ReleaseSolverModel" 195 "ReleaseSolverModel" y_Md_search x_Md_search 0 := ⟨Or.inl (rz_mem 1202 (by decide +kernel) rfl), (rz_mem 1204 (by decide +kernel) rfl), (rz_mem 40 (by decide +kernel) rfl), ⟨(rz_mem 65 (by decide +kernel) rfl), (rz_mem 1205 (by decide +kernel) rfl), ⟨by decide, by decide⟩, by decide +kernel⟩⟩
theorem m_Md_205 : rz_mV "ReleaseSolverModel" 205 "ReleaseSolverModel" y_Md_findBlame x_Md_findBlame 0 := ⟨Or.inl (rz_mem 1230 (by decide +kernel) rfl), (rz_mem 1232 (by decide +kernel) rfl), (rz_mem 47 (by decide +kernel) rfl), ⟨(rz_mem 65 (by decide +kernel) rfl), (rz_mem 1233 (by decide +kernel) rfl), ⟨by decide, by decide⟩, by decide +kernel⟩⟩
theorem k_Md_85 : Cond.constantLong "ReleaseSolverModel" 85 (Int64.ofInt (-1)) ∈ rz_W := (rz_mem 1111 (by decide +kernel) rfl)
theorem k_Md_87 : Cond.constantLong "ReleaseSolverModel" 87 (Int64.ofInt 32) ∈ rz_W := (rz_mem 1112 (by decide +kernel) rfl)
theorem k_Md_89 : Cond.constantLong "ReleaseSolverModel" 89 (Int64.ofInt 96) ∈ rz_W := (rz_mem 1113 (by decide +kernel) rfl)
theorem k_Md_99 : Cond.constantLong "ReleaseSolverModel" 99 (Int64.ofInt 20) ∈ rz_W := (rz_mem 1117 (by decide +kernel) rfl)
theorem k_Md_101 : Cond.constantLong "ReleaseSolverModel" 101 (Int64.ofInt 32768) ∈ rz_W := (rz_mem 1118 (by decide +kernel) rfl)
theorem k_Md_103 : Cond.constantLong "ReleaseSolverModel" 103 (Int64.ofInt 15360) ∈ rz_W := (rz_mem 1119 (by decide +kernel) rfl)
theorem k_Md_105 : Cond.constantLong "ReleaseSolverModel" 105 (Int64.ofInt 448) ∈ rz_W := (rz_mem 1120 (by decide +kernel) rfl)
theorem k_Md_107 : Cond.constantLong "ReleaseSolverModel" 107 (Int64.ofInt 5) ∈ rz_W := (rz_mem 1121 (by decide +kernel) rfl)
theorem k_Md_109 : Cond.constantLong "ReleaseSolverModel" 109 (Int64.ofInt 8192) ∈ rz_W := (rz_mem 1122 (by decide +kernel) rfl)
theorem k_Md_111 : Cond.constantLong "ReleaseSolverModel" 111 (Int64.ofInt 480) ∈ rz_W := (rz_mem 1123 (by decide +kernel) rfl)
theorem k_Md_113 : Cond.constantLong "ReleaseSolverModel" 113 (Int64.ofInt 1024) ∈ rz_W := (rz_mem 1124 (by decide +kernel) rfl)
theorem k_Md_115 : Cond.constantLong "ReleaseSolverModel" 115 (Int64.ofInt 608) ∈ rz_W := (rz_mem 1125 (by decide +kernel) rfl)
theorem k_Md_117 : Cond.constantLong "ReleaseSolverModel" 117 (Int64.ofInt 2) ∈ rz_W := (rz_mem 1126 (by decide +kernel) rfl)
theorem k_Md_119 : Cond.constantLong "ReleaseSolverModel" 119 (Int64.ofInt 13) ∈ rz_W := (rz_mem 1127 (by decide +kernel) rfl)
theorem k_Md_125 : Cond.constantLong "ReleaseSolverModel" 125 (Int64.ofInt 10) ∈ rz_W := (rz_mem 1136 (by decide +kernel) rfl)
theorem k_Md_127 : Cond.constantLong "ReleaseSolverModel" 127 (Int64.ofInt 48) ∈ rz_W := (rz_mem 1137 (by decide +kernel) rfl)
end
section
theorem d_Md_init_0 : decode prog_10_method_1_code 0 = .ok (.aload_n 0, 1) := by decide +kernel
theorem d_Md_init_1 : decode prog_10_method_1_code 1 = .ok (.invokespecial 1, 3) := by decide +kernel
theorem d_Md_init_4 : decode prog_10_method_1_code 4 = .ok (.aload_n 0, 1) := by decide +kernel
theorem d_Md_init_5 : decode prog_10_method_1_code 5 = .ok (.sipush 3024, 3) := by decide +kernel
theorem d_Md_init_8 : decode prog_10_method_1_code 8 = .ok (.newarray .int, 2) := by decide +kernel
theorem d_Md_init_10 : decode prog_10_method_1_code 10 = .ok (.putfield 7, 3) := by decide +kernel
theorem d_Md_init_13 : decode prog_10_method_1_code 13 = .ok (.aload_n 0, 1) := by decide +kernel
theorem d_Md_init_14 : decode prog_10_method_1_code 14 = .ok (.bipush 126, 2) := by decide +kernel
theorem d_Md_init_16 : decode prog_10_method_1_code 16 = .ok (.newarray .int, 2) := by decide +kernel
theorem d_Md_init_18 : decode prog_10_method_1_code 18 = .ok (.putfield 13, 3) := by decide +kernel
theorem d_Md_init_21 : decode prog_10_method_1_code 21 = .ok (.aload_n 0, 1) := by decide +kernel
theorem d_Md_init_22 : decode prog_10_method_1_code 22 = .ok (.bipush 6, 2) := by decide +kernel
theorem d_Md_init_24 : decode prog_10_method_1_code 24 = .ok (.newarray .int, 2) := by decide +kernel
theorem d_Md_init_26 : decode prog_10_method_1_code 26 = .ok (.putfield 16, 3) := by decide +kernel
theorem d_Md_init_29 : decode prog_10_method_1_code 29 = .ok (.aload_n 0, 1) := by decide +kernel
theorem d_Md_init_30 : decode prog_10_method_1_code 30 = .ok (.bipush 24, 2) := by decide +kernel
theorem d_Md_init_32 : decode prog_10_method_1_code 32 = .ok (.newarray .boolean, 2) := by decide +kernel
theorem d_Md_init_34 : decode prog_10_method_1_code 34 = .ok (.putfield 19, 3) := by decide +kernel
theorem d_Md_init_37 : decode prog_10_method_1_code 37 = .ok (.aload_n 0, 1) := by decide +kernel
theorem d_Md_init_38 : decode prog_10_method_1_code 38 = .ok (.bipush 24, 2) := by decide +kernel
theorem d_Md_init_40 : decode prog_10_method_1_code 40 = .ok (.newarray .boolean, 2) := by decide +kernel
theorem d_Md_init_42 : decode prog_10_method_1_code 42 = .ok (.putfield 23, 3) := by decide +kernel
theorem d_Md_init_45 : decode prog_10_method_1_code 45 = .ok (.aload_n 0, 1) := by decide +kernel
theorem d_Md_init_46 : decode prog_10_method_1_code 46 = .ok (.bipush 24, 2) := by decide +kernel
theorem d_Md_init_48 : decode prog_10_method_1_code 48 = .ok (.newarray .int, 2) := by decide +kernel
theorem d_Md_init_50 : decode prog_10_method_1_code 50 = .ok (.putfield 26, 3) := by decide +kernel
theorem d_Md_init_53 : decode prog_10_method_1_code 53 = .ok (.aload_n 0, 1) := by decide +kernel
theorem d_Md_init_54 : decode prog_10_method_1_code 54 = .ok (.bipush 72, 2) := by decide +kernel
theorem d_Md_init_56 : decode prog_10_method_1_code 56 = .ok (.newarray .int, 2) := by decide +kernel
theorem d_Md_init_58 : decode prog_10_method_1_code 58 = .ok (.putfield 29, 3) := by decide +kernel
theorem d_Md_init_61 : decode prog_10_method_1_code 61 = .ok (.aload_n 0, 1) := by decide +kernel
theorem d_Md_init_62 : decode prog_10_method_1_code 62 = .ok (.bipush 72, 2) := by decide +kernel
theorem d_Md_init_64 : decode prog_10_method_1_code 64 = .ok (.newarray .boolean, 2) := by decide +kernel
theorem d_Md_init_66 : decode prog_10_method_1_code 66 = .ok (.putfield 32, 3) := by decide +kernel
theorem d_Md_init_69 : decode prog_10_method_1_code 69 = .ok (.aload_n 0, 1) := by decide +kernel
theorem d_Md_init_70 : decode prog_10_method_1_code 70 = .ok (.iconst 4, 1) := by decide +kernel
theorem d_Md_init_71 : decode prog_10_method_1_code 71 = .ok (.newarray .int, 2) := by decide +kernel
theorem d_Md_init_73 : decode prog_10_method_1_code 73 = .ok (.putfield 35, 3) := by decide +kernel
theorem d_Md_init_76 : decode prog_10_method_1_code 76 = .ok (.aload_n 0, 1) := by decide +kernel
theorem d_Md_init_77 : decode prog_10_method_1_code 77 = .ok (.iconst 4, 1) := by decide +kernel
theorem d_Md_init_78 : decode prog_10_method_1_code 78 = .ok (.newarray .boolean, 2) := by decide +kernel
theorem d_Md_init_80 : decode prog_10_method_1_code 80 = .ok (.putfield 38, 3) := by decide +kernel
theorem d_Md_init_83 : decode prog_10_method_1_code 83 = .ok (.aload_n 0, 1) := by decide +kernel
theorem d_Md_init_84 : decode prog_10_method_1_code 84 = .ok (.bipush 6, 2) := by decide +kernel
theorem d_Md_init_86 : decode prog_10_method_1_code 86 = .ok (.newarray .int, 2) := by decide +kernel
theorem d_Md_init_88 : decode prog_10_method_1_code 88 = .ok (.putfield 41, 3) := by decide +kernel
theorem d_Md_init_91 : decode prog_10_method_1_code 91 = .ok (.aload_n 0, 1) := by decide +kernel
theorem d_Md_init_92 : decode prog_10_method_1_code 92 = .ok (.bipush 6, 2) := by decide +kernel
theorem d_Md_init_94 : decode prog_10_method_1_code 94 = .ok (.newarray .int, 2) := by decide +kernel
theorem d_Md_init_96 : decode prog_10_method_1_code 96 = .ok (.putfield 44, 3) := by decide +kernel
theorem d_Md_init_99 : decode prog_10_method_1_code 99 = .ok (.aload_n 0, 1) := by decide +kernel
theorem d_Md_init_100 : decode prog_10_method_1_code 100 = .ok (.iconst 4, 1) := by decide +kernel
theorem d_Md_init_101 : decode prog_10_method_1_code 101 = .ok (.newarray .boolean, 2) := by decide +kernel
theorem d_Md_init_103 : decode prog_10_method_1_code 103 = .ok (.putfield 47, 3) := by decide +kernel
theorem d_Md_init_106 : decode prog_10_method_1_code 106 = .ok (.aload_n 0, 1) := by decide +kernel
theorem d_Md_init_107 : decode prog_10_method_1_code 107 = .ok (.bipush 6, 2) := by decide +kernel
theorem d_Md_init_109 : decode prog_10_method_1_code 109 = .ok (.newarray .boolean, 2) := by decide +kernel
theorem d_Md_init_111 : decode prog_10_method_1_code 111 = .ok (.putfield 50, 3) := by decide +kernel
theorem d_Md_init_114 : decode prog_10_method_1_code 114 = .ok (.aload_n 0, 1) := by decide +kernel
theorem d_Md_init_115 : decode prog_10_method_1_code 115 = .ok (.bipush 30, 2) := by decide +kernel
theorem d_Md_init_117 : decode prog_10_method_1_code 117 = .ok (.newarray .int, 2) := by decide +kernel
theorem d_Md_init_119 : decode prog_10_method_1_code 119 = .ok (.putfield 53, 3) := by decide +kernel
theorem d_Md_init_122 : decode prog_10_method_1_code 122 = .ok (.aload_n 0, 1) := by decide +kernel
theorem d_Md_init_123 : decode prog_10_method_1_code 123 = .ok (.getfield 7, 3) := by decide +kernel
theorem d_Md_init_126 : decode prog_10_method_1_code 126 = .ok (.bipush 24, 2) := by decide +kernel
theorem d_Md_init_128 : decode prog_10_method_1_code 128 = .ok (.bipush 49, 2) := by decide +kernel
theorem d_Md_init_130 : decode prog_10_method_1_code 130 = .ok (.iastore, 1) := by decide +kernel
theorem d_Md_init_131 : decode prog_10_method_1_code 131 = .ok (.aload_n 0, 1) := by decide +kernel
theorem d_Md_init_132 : decode prog_10_method_1_code 132 = .ok (.getfield 13, 3) := by decide +kernel
theorem d_Md_init_135 : decode prog_10_method_1_code 135 = .ok (.iconst 1, 1) := by decide +kernel
theorem d_Md_init_136 : decode prog_10_method_1_code 136 = .ok (.iconst 1, 1) := by decide +kernel
theorem d_Md_init_137 : decode prog_10_method_1_code 137 = .ok (.iastore, 1) := by decide +kernel
theorem d_Md_init_138 : decode prog_10_method_1_code 138 = .ok (.return_, 1) := by decide +kernel
theorem d_Md_write_0 : decode prog_10_method_8_code 0 = .ok (.iload_n 1, 1) := by decide +kernel
theorem d_Md_write_1 : decode prog_10_method_8_code 1 = .ok (.ifCond .eq 10, 3) := by decide +kernel
theorem d_Md_write_4 : decode prog_10_method_8_code 4 = .ok (.iload_n 1, 1) := by decide +kernel
theorem d_Md_write_5 : decode prog_10_method_8_code 5 = .ok (.invokestatic 67, 3) := by decide +kernel
theorem d_Md_write_8 : decode prog_10_method_8_code 8 = .ok (.ifCond .eq 38, 3) := by decide +kernel
theorem d_Md_write_11 : decode prog_10_method_8_code 11 = .ok (.iload_n 2, 1) := by decide +kernel
theorem d_Md_write_12 : decode prog_10_method_8_code 12 = .ok (.ifCond .eq 10, 3) := by decide +kernel
theorem d_Md_write_15 : decode prog_10_method_8_code 15 = .ok (.iload_n 2, 1) := by decide +kernel
theorem d_Md_write_16 : decode prog_10_method_8_code 16 = .ok (.invokestatic 67, 3) := by decide +kernel
theorem d_Md_write_19 : decode prog_10_method_8_code 19 = .ok (.ifCond .eq 27, 3) := by decide +kernel
theorem d_Md_write_22 : decode prog_10_method_8_code 22 = .ok (.iload_n 3, 1) := by decide +kernel
theorem d_Md_write_23 : decode prog_10_method_8_code 23 = .ok (.ifCond .eq 10, 3) := by decide +kernel
theorem d_Md_write_26 : decode prog_10_method_8_code 26 = .ok (.iload_n 3, 1) := by decide +kernel
theorem d_Md_write_27 : decode prog_10_method_8_code 27 = .ok (.invokestatic 67, 3) := by decide +kernel
theorem d_Md_write_30 : decode prog_10_method_8_code 30 = .ok (.ifCond .eq 16, 3) := by decide +kernel
theorem d_Md_write_33 : decode prog_10_method_8_code 33 = .ok (.iload 4, 2) := by decide +kernel
theorem d_Md_write_35 : decode prog_10_method_8_code 35 = .ok (.ifCond .eq 13, 3) := by decide +kernel
theorem d_Md_write_38 : decode prog_10_method_8_code 38 = .ok (.iload 4, 2) := by decide +kernel
theorem d_Md_write_40 : decode prog_10_method_8_code 40 = .ok (.invokestatic 67, 3) := by decide +kernel
theorem d_Md_write_43 : decode prog_10_method_8_code 43 = .ok (.ifCond .ne 5, 3) := by decide +kernel
theorem d_Md_write_46 : decode prog_10_method_8_code 46 = .ok (.iconst (-1), 1) := by decide +kernel
theorem d_Md_write_47 : decode prog_10_method_8_code 47 = .ok (.ireturn, 1) := by decide +kernel
theorem d_Md_write_48 : decode prog_10_method_8_code 48 = .ok (.iload_n 1, 1) := by decide +kernel
theorem d_Md_write_49 : decode prog_10_method_8_code 49 = .ok (.ifCond .ne 7, 3) := by decide +kernel
theorem d_Md_write_52 : decode prog_10_method_8_code 52 = .ok (.iconst 0, 1) := by decide +kernel
theorem d_Md_write_53 : decode prog_10_method_8_code 53 = .ok (.goto 4, 3) := by decide +kernel
theorem d_Md_write_56 : decode prog_10_method_8_code 56 = .ok (.iconst 1, 1) := by decide +kernel
theorem d_Md_write_57 : decode prog_10_method_8_code 57 = .ok (.iload_n 2, 1) := by decide +kernel
theorem d_Md_write_58 : decode prog_10_method_8_code 58 = .ok (.ifCond .ne 7, 3) := by decide +kernel
theorem d_Md_write_61 : decode prog_10_method_8_code 61 = .ok (.iconst 0, 1) := by decide +kernel
theorem d_Md_write_62 : decode prog_10_method_8_code 62 = .ok (.goto 4, 3) := by decide +kernel
theorem d_Md_write_65 : decode prog_10_method_8_code 65 = .ok (.iconst 1, 1) := by decide +kernel
theorem d_Md_write_66 : decode prog_10_method_8_code 66 = .ok (.iadd, 1) := by decide +kernel
theorem d_Md_write_67 : decode prog_10_method_8_code 67 = .ok (.iload_n 3, 1) := by decide +kernel
theorem d_Md_write_68 : decode prog_10_method_8_code 68 = .ok (.ifCond .ne 7, 3) := by decide +kernel
theorem d_Md_write_71 : decode prog_10_method_8_code 71 = .ok (.iconst 0, 1) := by decide +kernel
theorem d_Md_write_72 : decode prog_10_method_8_code 72 = .ok (.goto 4, 3) := by decide +kernel
theorem d_Md_write_75 : decode prog_10_method_8_code 75 = .ok (.iconst 1, 1) := by decide +kernel
theorem d_Md_write_76 : decode prog_10_method_8_code 76 = .ok (.iadd, 1) := by decide +kernel
theorem d_Md_write_77 : decode prog_10_method_8_code 77 = .ok (.iload 4, 2) := by decide +kernel
theorem d_Md_write_79 : decode prog_10_method_8_code 79 = .ok (.ifCond .ne 7, 3) := by decide +kernel
theorem d_Md_write_82 : decode prog_10_method_8_code 82 = .ok (.iconst 0, 1) := by decide +kernel
theorem d_Md_write_83 : decode prog_10_method_8_code 83 = .ok (.goto 4, 3) := by decide +kernel
theorem d_Md_write_86 : decode prog_10_method_8_code 86 = .ok (.iconst 1, 1) := by decide +kernel
theorem d_Md_write_87 : decode prog_10_method_8_code 87 = .ok (.iadd, 1) := by decide +kernel
theorem d_Md_write_88 : decode prog_10_method_8_code 88 = .ok (.istore 5, 2) := by decide +kernel
theorem d_Md_write_90 : decode prog_10_method_8_code 90 = .ok (.aload_n 0, 1) := by decide +kernel
theorem d_Md_write_91 : decode prog_10_method_8_code 91 = .ok (.getfield 13, 3) := by decide +kernel
theorem d_Md_write_94 : decode prog_10_method_8_code 94 = .ok (.iconst 0, 1) := by decide +kernel
theorem d_Md_write_95 : decode prog_10_method_8_code 95 = .ok (.iaload, 1) := by decide +kernel
theorem d_Md_write_96 : decode prog_10_method_8_code 96 = .ok (.iload 5, 2) := by decide +kernel
theorem d_Md_write_98 : decode prog_10_method_8_code 98 = .ok (.iadd, 1) := by decide +kernel
theorem d_Md_write_99 : decode prog_10_method_8_code 99 = .ok (.bipush 24, 2) := by decide +kernel
theorem d_Md_write_101 : decode prog_10_method_8_code 101 = .ok (.if_icmp .le 6, 3) := by decide +kernel
theorem d_Md_write_104 : decode prog_10_method_8_code 104 = .ok (.bipush (-2), 2) := by decide +kernel
theorem d_Md_write_106 : decode prog_10_method_8_code 106 = .ok (.ireturn, 1) := by decide +kernel
theorem d_Md_write_107 : decode prog_10_method_8_code 107 = .ok (.aload_n 0, 1) := by decide +kernel
theorem d_Md_write_108 : decode prog_10_method_8_code 108 = .ok (.iload_n 1, 1) := by decide +kernel
theorem d_Md_write_109 : decode prog_10_method_8_code 109 = .ok (.invokevirtual 70, 3) := by decide +kernel
theorem d_Md_write_112 : decode prog_10_method_8_code 112 = .ok (.istore 5, 2) := by decide +kernel
theorem d_Md_write_114 : decode prog_10_method_8_code 114 = .ok (.aload_n 0, 1) := by decide +kernel
theorem d_Md_write_115 : decode prog_10_method_8_code 115 = .ok (.iload_n 2, 1) := by decide +kernel
theorem d_Md_write_116 : decode prog_10_method_8_code 116 = .ok (.invokevirtual 70, 3) := by decide +kernel
theorem d_Md_write_119 : decode prog_10_method_8_code 119 = .ok (.istore 5, 2) := by decide +kernel
theorem d_Md_write_121 : decode prog_10_method_8_code 121 = .ok (.aload_n 0, 1) := by decide +kernel
theorem d_Md_write_122 : decode prog_10_method_8_code 122 = .ok (.iload_n 3, 1) := by decide +kernel
theorem d_Md_write_123 : decode prog_10_method_8_code 123 = .ok (.invokevirtual 70, 3) := by decide +kernel
theorem d_Md_write_126 : decode prog_10_method_8_code 126 = .ok (.istore 5, 2) := by decide +kernel
theorem d_Md_write_128 : decode prog_10_method_8_code 128 = .ok (.aload_n 0, 1) := by decide +kernel
theorem d_Md_write_129 : decode prog_10_method_8_code 129 = .ok (.iload 4, 2) := by decide +kernel
theorem d_Md_write_131 : decode prog_10_method_8_code 131 = .ok (.invokevirtual 70, 3) := by decide +kernel
theorem d_Md_write_134 : decode prog_10_method_8_code 134 = .ok (.istore 5, 2) := by decide +kernel
theorem d_Md_write_136 : decode prog_10_method_8_code 136 = .ok (.aload_n 0, 1) := by decide +kernel
theorem d_Md_write_137 : decode prog_10_method_8_code 137 = .ok (.getfield 13, 3) := by decide +kernel
theorem d_Md_write_140 : decode prog_10_method_8_code 140 = .ok (.iconst 0, 1) := by decide +kernel
theorem d_Md_write_141 : decode prog_10_method_8_code 141 = .ok (.iaload, 1) := by decide +kernel
theorem d_Md_write_142 : decode prog_10_method_8_code 142 = .ok (.ireturn, 1) := by decide +kernel
theorem d_Md_may_0 : decode prog_10_method_5_code 0 = .ok (.iload_n 0, 1) := by decide +kernel
theorem d_Md_may_1 : decode prog_10_method_5_code 1 = .ok (.invokestatic 60, 3) := by decide +kernel
theorem d_Md_may_4 : decode prog_10_method_5_code 4 = .ok (.ifCond .ne 44, 3) := by decide +kernel
theorem d_Md_may_7 : decode prog_10_method_5_code 7 = .ok (.iload_n 0, 1) := by decide +kernel
theorem d_Md_may_8 : decode prog_10_method_5_code 8 = .ok (.invokestatic 64, 3) := by decide +kernel
theorem d_Md_may_11 : decode prog_10_method_5_code 11 = .ok (.ifCond .ne 37, 3) := by decide +kernel
theorem d_Md_may_14 : decode prog_10_method_5_code 14 = .ok (.iload_n 0, 1) := by decide +kernel
theorem d_Md_may_15 : decode prog_10_method_5_code 15 = .ok (.bipush 40, 2) := by decide +kernel
theorem d_Md_may_17 : decode prog_10_method_5_code 17 = .ok (.bipush 41, 2) := by decide +kernel
theorem d_Md_may_19 : decode prog_10_method_5_code 19 = .ok (.invokestatic 56, 3) := by decide +kernel
theorem d_Md_may_22 : decode prog_10_method_5_code 22 = .ok (.ifCond .ne 26, 3) := by decide +kernel
theorem d_Md_may_25 : decode prog_10_method_5_code 25 = .ok (.iload_n 0, 1) := by decide +kernel
theorem d_Md_may_26 : decode prog_10_method_5_code 26 = .ok (.bipush 44, 2) := by decide +kernel
theorem d_Md_may_28 : decode prog_10_method_5_code 28 = .ok (.bipush 46, 2) := by decide +kernel
theorem d_Md_may_30 : decode prog_10_method_5_code 30 = .ok (.invokestatic 56, 3) := by decide +kernel
theorem d_Md_may_33 : decode prog_10_method_5_code 33 = .ok (.ifCond .ne 15, 3) := by decide +kernel
theorem d_Md_may_36 : decode prog_10_method_5_code 36 = .ok (.iload_n 0, 1) := by decide +kernel
theorem d_Md_may_37 : decode prog_10_method_5_code 37 = .ok (.bipush 91, 2) := by decide +kernel
theorem d_Md_may_39 : decode prog_10_method_5_code 39 = .ok (.if_icmp .eq 9, 3) := by decide +kernel
theorem d_Md_may_42 : decode prog_10_method_5_code 42 = .ok (.iload_n 0, 1) := by decide +kernel
theorem d_Md_may_43 : decode prog_10_method_5_code 43 = .ok (.bipush 93, 2) := by decide +kernel
theorem d_Md_may_45 : decode prog_10_method_5_code 45 = .ok (.if_icmp .ne 7, 3) := by decide +kernel
theorem d_Md_may_48 : decode prog_10_method_5_code 48 = .ok (.iconst 1, 1) := by decide +kernel
theorem d_Md_may_49 : decode prog_10_method_5_code 49 = .ok (.goto 4, 3) := by decide +kernel
theorem d_Md_may_52 : decode prog_10_method_5_code 52 = .ok (.iconst 0, 1) := by decide +kernel
theorem d_Md_may_53 : decode prog_10_method_5_code 53 = .ok (.ireturn, 1) := by decide +kernel
theorem d_Md_digit_0 : decode prog_10_method_3_code 0 = .ok (.iload_n 0, 1) := by decide +kernel
theorem d_Md_digit_1 : decode prog_10_method_3_code 1 = .ok (.bipush 48, 2) := by decide +kernel
theorem d_Md_digit_3 : decode prog_10_method_3_code 3 = .ok (.bipush 57, 2) := by decide +kernel
theorem d_Md_digit_5 : decode prog_10_method_3_code 5 = .ok (.invokestatic 56, 3) := by decide +kernel
theorem d_Md_digit_8 : decode prog_10_method_3_code 8 = .ok (.ireturn, 1) := by decide +kernel
theorem d_Md_in_0 : decode prog_10_method_2_code 0 = .ok (.iload_n 0, 1) := by decide +kernel
theorem d_Md_in_1 : decode prog_10_method_2_code 1 = .ok (.iload_n 1, 1) := by decide +kernel
theorem d_Md_in_2 : decode prog_10_method_2_code 2 = .ok (.if_icmp .lt 12, 3) := by decide +kernel
theorem d_Md_in_5 : decode prog_10_method_2_code 5 = .ok (.iload_n 0, 1) := by decide +kernel
theorem d_Md_in_6 : decode prog_10_method_2_code 6 = .ok (.iload_n 2, 1) := by decide +kernel
theorem d_Md_in_7 : decode prog_10_method_2_code 7 = .ok (.if_icmp .gt 7, 3) := by decide +kernel
theorem d_Md_in_10 : decode prog_10_method_2_code 10 = .ok (.iconst 1, 1) := by decide +kernel
theorem d_Md_in_11 : decode prog_10_method_2_code 11 = .ok (.goto 4, 3) := by decide +kernel
theorem d_Md_in_14 : decode prog_10_method_2_code 14 = .ok (.iconst 0, 1) := by decide +kernel
theorem d_Md_in_15 : decode prog_10_method_2_code 15 = .ok (.ireturn, 1) := by decide +kernel
theorem d_Md_letter_0 : decode prog_10_method_4_code 0 = .ok (.iload_n 0, 1) := by decide +kernel
theorem d_Md_letter_1 : decode prog_10_method_4_code 1 = .ok (.bipush 97, 2) := by decide +kernel
theorem d_Md_letter_3 : decode prog_10_method_4_code 3 = .ok (.bipush 122, 2) := by decide +kernel
theorem d_Md_letter_5 : decode prog_10_method_4_code 5 = .ok (.invokestatic 56, 3) := by decide +kernel
theorem d_Md_letter_8 : decode prog_10_method_4_code 8 = .ok (.ireturn, 1) := by decide +kernel
theorem d_Md_put_0 : decode prog_10_method_7_code 0 = .ok (.iload_n 1, 1) := by decide +kernel
theorem d_Md_put_1 : decode prog_10_method_7_code 1 = .ok (.ifCond .ne 5, 3) := by decide +kernel
theorem d_Md_put_4 : decode prog_10_method_7_code 4 = .ok (.iconst 0, 1) := by decide +kernel
theorem d_Md_put_5 : decode prog_10_method_7_code 5 = .ok (.ireturn, 1) := by decide +kernel
theorem d_Md_put_6 : decode prog_10_method_7_code 6 = .ok (.aload_n 0, 1) := by decide +kernel
theorem d_Md_put_7 : decode prog_10_method_7_code 7 = .ok (.getfield 7, 3) := by decide +kernel
theorem d_Md_put_10 : decode prog_10_method_7_code 10 = .ok (.aload_n 0, 1) := by decide +kernel
theorem d_Md_put_11 : decode prog_10_method_7_code 11 = .ok (.getfield 13, 3) := by decide +kernel
theorem d_Md_put_14 : decode prog_10_method_7_code 14 = .ok (.iconst 0, 1) := by decide +kernel
theorem d_Md_put_15 : decode prog_10_method_7_code 15 = .ok (.iaload, 1) := by decide +kernel
theorem d_Md_put_16 : decode prog_10_method_7_code 16 = .ok (.iload_n 1, 1) := by decide +kernel
theorem d_Md_put_17 : decode prog_10_method_7_code 17 = .ok (.iastore, 1) := by decide +kernel
theorem d_Md_put_18 : decode prog_10_method_7_code 18 = .ok (.aload_n 0, 1) := by decide +kernel
theorem d_Md_put_19 : decode prog_10_method_7_code 19 = .ok (.getfield 13, 3) := by decide +kernel
theorem d_Md_put_22 : decode prog_10_method_7_code 22 = .ok (.iconst 0, 1) := by decide +kernel
theorem d_Md_put_23 : decode prog_10_method_7_code 23 = .ok (.dup2, 1) := by decide +kernel
theorem d_Md_put_24 : decode prog_10_method_7_code 24 = .ok (.iaload, 1) := by decide +kernel
theorem d_Md_put_25 : decode prog_10_method_7_code 25 = .ok (.iconst 1, 1) := by decide +kernel
theorem d_Md_put_26 : decode prog_10_method_7_code 26 = .ok (.iadd, 1) := by decide +kernel
theorem d_Md_put_27 : decode prog_10_method_7_code 27 = .ok (.iastore, 1) := by decide +kernel
theorem d_Md_put_28 : decode prog_10_method_7_code 28 = .ok (.iconst 1, 1) := by decide +kernel
theorem d_Md_put_29 : decode prog_10_method_7_code 29 = .ok (.ireturn, 1) := by decide +kernel
theorem d_Md_wipe_0 : decode prog_10_method_9_code 0 = .ok (.aload_n 0, 1) := by decide +kernel
theorem d_Md_wipe_1 : decode prog_10_method_9_code 1 = .ok (.getfield 13, 3) := by decide +kernel
theorem d_Md_wipe_4 : decode prog_10_method_9_code 4 = .ok (.iconst 0, 1) := by decide +kernel
theorem d_Md_wipe_5 : decode prog_10_method_9_code 5 = .ok (.iaload, 1) := by decide +kernel
theorem d_Md_wipe_6 : decode prog_10_method_9_code 6 = .ok (.istore_n 1, 1) := by decide +kernel
theorem d_Md_wipe_7 : decode prog_10_method_9_code 7 = .ok (.aload_n 0, 1) := by decide +kernel
theorem d_Md_wipe_8 : decode prog_10_method_9_code 8 = .ok (.getfield 13, 3) := by decide +kernel
theorem d_Md_wipe_11 : decode prog_10_method_9_code 11 = .ok (.iconst 0, 1) := by decide +kernel
theorem d_Md_wipe_12 : decode prog_10_method_9_code 12 = .ok (.iconst 0, 1) := by decide +kernel
theorem d_Md_wipe_13 : decode prog_10_method_9_code 13 = .ok (.iastore, 1) := by decide +kernel
theorem d_Md_wipe_14 : decode prog_10_method_9_code 14 = .ok (.iload_n 1, 1) := by decide +kernel
theorem d_Md_wipe_15 : decode prog_10_method_9_code 15 = .ok (.ireturn, 1) := by decide +kernel
theorem d_Md_release_0 : decode prog_10_method_25_code 0 = .ok (.iload_n 1, 1) := by decide +kernel
theorem d_Md_release_1 : decode prog_10_method_25_code 1 = .ok (.iconst 0, 1) := by decide +kernel
theorem d_Md_release_2 : decode prog_10_method_25_code 2 = .ok (.iconst 5, 1) := by decide +kernel
theorem d_Md_release_3 : decode prog_10_method_25_code 3 = .ok (.invokestatic 56, 3) := by decide +kernel
theorem d_Md_release_6 : decode prog_10_method_25_code 6 = .ok (.ifCond .ne 5, 3) := by decide +kernel
theorem d_Md_release_9 : decode prog_10_method_25_code 9 = .ok (.iconst (-1), 1) := by decide +kernel
theorem d_Md_release_10 : decode prog_10_method_25_code 10 = .ok (.ireturn, 1) := by decide +kernel
theorem d_Md_release_11 : decode prog_10_method_25_code 11 = .ok (.aload_n 0, 1) := by decide +kernel
theorem d_Md_release_12 : decode prog_10_method_25_code 12 = .ok (.iconst 0, 1) := by decide +kernel
theorem d_Md_release_13 : decode prog_10_method_25_code 13 = .ok (.iconst 0, 1) := by decide +kernel
theorem d_Md_release_14 : decode prog_10_method_25_code 14 = .ok (.aload_n 0, 1) := by decide +kernel
theorem d_Md_release_15 : decode prog_10_method_25_code 15 = .ok (.getfield 13, 3) := by decide +kernel
theorem d_Md_release_18 : decode prog_10_method_25_code 18 = .ok (.iconst 0, 1) := by decide +kernel
theorem d_Md_release_19 : decode prog_10_method_25_code 19 = .ok (.iaload, 1) := by decide +kernel
theorem d_Md_release_20 : decode prog_10_method_25_code 20 = .ok (.invokevirtual 143, 3) := by decide +kernel
theorem d_Md_release_23 : decode prog_10_method_25_code 23 = .ok (.ifCond .ne 10, 3) := by decide +kernel
theorem d_Md_release_26 : decode prog_10_method_25_code 26 = .ok (.aload_n 0, 1) := by decide +kernel
theorem d_Md_release_27 : decode prog_10_method_25_code 27 = .ok (.bipush (-3), 2) := by decide +kernel
theorem d_Md_release_29 : decode prog_10_method_25_code 29 = .ok (.invokevirtual 153, 3) := by decide +kernel
theorem d_Md_release_32 : decode prog_10_method_25_code 32 = .ok (.ireturn, 1) := by decide +kernel
theorem d_Md_release_33 : decode prog_10_method_25_code 33 = .ok (.iconst 0, 1) := by decide +kernel
theorem d_Md_release_34 : decode prog_10_method_25_code 34 = .ok (.istore_n 2, 1) := by decide +kernel
theorem d_Md_release_35 : decode prog_10_method_25_code 35 = .ok (.iload_n 2, 1) := by decide +kernel
theorem d_Md_release_36 : decode prog_10_method_25_code 36 = .ok (.aload_n 0, 1) := by decide +kernel
theorem d_Md_release_37 : decode prog_10_method_25_code 37 = .ok (.getfield 16, 3) := by decide +kernel
theorem d_Md_release_40 : decode prog_10_method_25_code 40 = .ok (.iload_n 1, 1) := by decide +kernel
theorem d_Md_release_41 : decode prog_10_method_25_code 41 = .ok (.iaload, 1) := by decide +kernel
theorem d_Md_release_42 : decode prog_10_method_25_code 42 = .ok (.if_icmp .ge 39, 3) := by decide +kernel
theorem d_Md_release_45 : decode prog_10_method_25_code 45 = .ok (.aload_n 0, 1) := by decide +kernel
theorem d_Md_release_46 : decode prog_10_method_25_code 46 = .ok (.bipush 6, 2) := by decide +kernel
theorem d_Md_release_48 : decode prog_10_method_25_code 48 = .ok (.iconst 4, 1) := by decide +kernel
theorem d_Md_release_49 : decode prog_10_method_25_code 49 = .ok (.iload_n 1, 1) := by decide +kernel
theorem d_Md_release_50 : decode prog_10_method_25_code 50 = .ok (.imul, 1) := by decide +kernel
theorem d_Md_release_51 : decode prog_10_method_25_code 51 = .ok (.iadd, 1) := by decide +kernel
theorem d_Md_release_52 : decode prog_10_method_25_code 52 = .ok (.iload_n 2, 1) := by decide +kernel
theorem d_Md_release_53 : decode prog_10_method_25_code 53 = .ok (.iadd, 1) := by decide +kernel
theorem d_Md_release_54 : decode prog_10_method_25_code 54 = .ok (.iconst 0, 1) := by decide +kernel
theorem d_Md_release_55 : decode prog_10_method_25_code 55 = .ok (.iconst 0, 1) := by decide +kernel
theorem d_Md_release_56 : decode prog_10_method_25_code 56 = .ok (.aload_n 0, 1) := by decide +kernel
theorem d_Md_release_57 : decode prog_10_method_25_code 57 = .ok (.getfield 13, 3) := by decide +kernel
theorem d_Md_release_60 : decode prog_10_method_25_code 60 = .ok (.iconst 0, 1) := by decide +kernel
theorem d_Md_release_61 : decode prog_10_method_25_code 61 = .ok (.iaload, 1) := by decide +kernel
theorem d_Md_release_62 : decode prog_10_method_25_code 62 = .ok (.invokevirtual 149, 3) := by decide +kernel
theorem d_Md_release_65 : decode prog_10_method_25_code 65 = .ok (.ifCond .ne 10, 3) := by decide +kernel
theorem d_Md_release_68 : decode prog_10_method_25_code 68 = .ok (.aload_n 0, 1) := by decide +kernel
theorem d_Md_release_69 : decode prog_10_method_25_code 69 = .ok (.bipush (-5), 2) := by decide +kernel
theorem d_Md_release_71 : decode prog_10_method_25_code 71 = .ok (.invokevirtual 153, 3) := by decide +kernel
theorem d_Md_release_74 : decode prog_10_method_25_code 74 = .ok (.ireturn, 1) := by decide +kernel
theorem d_Md_release_75 : decode prog_10_method_25_code 75 = .ok (.iinc 2 1, 3) := by decide +kernel
theorem d_Md_release_78 : decode prog_10_method_25_code 78 = .ok (.goto (-43), 3) := by decide +kernel
theorem d_Md_release_81 : decode prog_10_method_25_code 81 = .ok (.aload_n 0, 1) := by decide +kernel
theorem d_Md_release_82 : decode prog_10_method_25_code 82 = .ok (.getfield 16, 3) := by decide +kernel
theorem d_Md_release_85 : decode prog_10_method_25_code 85 = .ok (.iload_n 1, 1) := by decide +kernel
theorem d_Md_release_86 : decode prog_10_method_25_code 86 = .ok (.iaload, 1) := by decide +kernel
theorem d_Md_release_87 : decode prog_10_method_25_code 87 = .ok (.iconst 4, 1) := by decide +kernel
theorem d_Md_release_88 : decode prog_10_method_25_code 88 = .ok (.if_icmp .ne 10, 3) := by decide +kernel
theorem d_Md_release_91 : decode prog_10_method_25_code 91 = .ok (.aload_n 0, 1) := by decide +kernel
theorem d_Md_release_92 : decode prog_10_method_25_code 92 = .ok (.bipush (-2), 2) := by decide +kernel
theorem d_Md_release_94 : decode prog_10_method_25_code 94 = .ok (.invokevirtual 153, 3) := by decide +kernel
theorem d_Md_release_97 : decode prog_10_method_25_code 97 = .ok (.ireturn, 1) := by decide +kernel
theorem d_Md_release_98 : decode prog_10_method_25_code 98 = .ok (.aload_n 0, 1) := by decide +kernel
theorem d_Md_release_99 : decode prog_10_method_25_code 99 = .ok (.bipush 6, 2) := by decide +kernel
theorem d_Md_release_101 : decode prog_10_method_25_code 101 = .ok (.iconst 4, 1) := by decide +kernel
theorem d_Md_release_102 : decode prog_10_method_25_code 102 = .ok (.iload_n 1, 1) := by decide +kernel
theorem d_Md_release_103 : decode prog_10_method_25_code 103 = .ok (.imul, 1) := by decide +kernel
theorem d_Md_release_104 : decode prog_10_method_25_code 104 = .ok (.iadd, 1) := by decide +kernel
theorem d_Md_release_105 : decode prog_10_method_25_code 105 = .ok (.aload_n 0, 1) := by decide +kernel
theorem d_Md_release_106 : decode prog_10_method_25_code 106 = .ok (.getfield 16, 3) := by decide +kernel
theorem d_Md_release_109 : decode prog_10_method_25_code 109 = .ok (.iload_n 1, 1) := by decide +kernel
theorem d_Md_release_110 : decode prog_10_method_25_code 110 = .ok (.iaload, 1) := by decide +kernel
theorem d_Md_release_111 : decode prog_10_method_25_code 111 = .ok (.iadd, 1) := by decide +kernel
theorem d_Md_release_112 : decode prog_10_method_25_code 112 = .ok (.invokevirtual 156, 3) := by decide +kernel
theorem d_Md_release_115 : decode prog_10_method_25_code 115 = .ok (.aload_n 0, 1) := by decide +kernel
theorem d_Md_release_116 : decode prog_10_method_25_code 116 = .ok (.getfield 16, 3) := by decide +kernel
theorem d_Md_release_119 : decode prog_10_method_25_code 119 = .ok (.iload_n 1, 1) := by decide +kernel
theorem d_Md_release_120 : decode prog_10_method_25_code 120 = .ok (.dup2, 1) := by decide +kernel
theorem d_Md_release_121 : decode prog_10_method_25_code 121 = .ok (.iaload, 1) := by decide +kernel
theorem d_Md_release_122 : decode prog_10_method_25_code 122 = .ok (.iconst 1, 1) := by decide +kernel
theorem d_Md_release_123 : decode prog_10_method_25_code 123 = .ok (.iadd, 1) := by decide +kernel
theorem d_Md_release_124 : decode prog_10_method_25_code 124 = .ok (.iastore, 1) := by decide +kernel
theorem d_Md_release_125 : decode prog_10_method_25_code 125 = .ok (.aload_n 0, 1) := by decide +kernel
theorem d_Md_release_126 : decode prog_10_method_25_code 126 = .ok (.aload_n 0, 1) := by decide +kernel
theorem d_Md_release_127 : decode prog_10_method_25_code 127 = .ok (.getfield 16, 3) := by decide +kernel
theorem d_Md_release_130 : decode prog_10_method_25_code 130 = .ok (.iload_n 1, 1) := by decide +kernel
theorem d_Md_release_131 : decode prog_10_method_25_code 131 = .ok (.iaload, 1) := by decide +kernel
theorem d_Md_release_132 : decode prog_10_method_25_code 132 = .ok (.iconst 1, 1) := by decide +kernel
theorem d_Md_release_133 : decode prog_10_method_25_code 133 = .ok (.isub, 1) := by decide +kernel
theorem d_Md_release_134 : decode prog_10_method_25_code 134 = .ok (.invokevirtual 153, 3) := by decide +kernel
theorem d_Md_release_137 : decode prog_10_method_25_code 137 = .ok (.ireturn, 1) := by decide +kernel
theorem d_Md_version_0 : decode prog_10_method_11_code 0 = .ok (.iload_n 3, 1) := by decide +kernel
theorem d_Md_version_1 : decode prog_10_method_11_code 1 = .ok (.iload_n 2, 1) := by decide +kernel
theorem d_Md_version_2 : decode prog_10_method_11_code 2 = .ok (.isub, 1) := by decide +kernel
theorem d_Md_version_3 : decode prog_10_method_11_code 3 = .ok (.iconst 1, 1) := by decide +kernel
theorem d_Md_version_4 : decode prog_10_method_11_code 4 = .ok (.bipush 12, 2) := by decide +kernel
theorem d_Md_version_6 : decode prog_10_method_11_code 6 = .ok (.invokestatic 56, 3) := by decide +kernel
theorem d_Md_version_9 : decode prog_10_method_11_code 9 = .ok (.ifCond .ne 5, 3) := by decide +kernel
theorem d_Md_version_12 : decode prog_10_method_11_code 12 = .ok (.iconst 0, 1) := by decide +kernel
theorem d_Md_version_13 : decode prog_10_method_11_code 13 = .ok (.ireturn, 1) := by decide +kernel
theorem d_Md_version_14 : decode prog_10_method_11_code 14 = .ok (.iconst 0, 1) := by decide +kernel
theorem d_Md_version_15 : decode prog_10_method_11_code 15 = .ok (.istore 4, 2) := by decide +kernel
theorem d_Md_version_17 : decode prog_10_method_11_code 17 = .ok (.iconst 1, 1) := by decide +kernel
theorem d_Md_version_18 : decode prog_10_method_11_code 18 = .ok (.istore 5, 2) := by decide +kernel
theorem d_Md_version_20 : decode prog_10_method_11_code 20 = .ok (.iload_n 2, 1) := by decide +kernel
theorem d_Md_version_21 : decode prog_10_method_11_code 21 = .ok (.istore 6, 2) := by decide +kernel
theorem d_Md_version_23 : decode prog_10_method_11_code 23 = .ok (.iload 6, 2) := by decide +kernel
theorem d_Md_version_25 : decode prog_10_method_11_code 25 = .ok (.iload_n 3, 1) := by decide +kernel
theorem d_Md_version_26 : decode prog_10_method_11_code 26 = .ok (.if_icmp .ge 103, 3) := by decide +kernel
theorem d_Md_version_29 : decode prog_10_method_11_code 29 = .ok (.aload_n 0, 1) := by decide +kernel
theorem d_Md_version_30 : decode prog_10_method_11_code 30 = .ok (.iload_n 1, 1) := by decide +kernel
theorem d_Md_version_31 : decode prog_10_method_11_code 31 = .ok (.iload 6, 2) := by decide +kernel
theorem d_Md_version_33 : decode prog_10_method_11_code 33 = .ok (.invokevirtual 74, 3) := by decide +kernel
theorem d_Md_version_36 : decode prog_10_method_11_code 36 = .ok (.istore 7, 2) := by decide +kernel
theorem d_Md_version_38 : decode prog_10_method_11_code 38 = .ok (.iload 7, 2) := by decide +kernel
theorem d_Md_version_40 : decode prog_10_method_11_code 40 = .ok (.bipush 46, 2) := by decide +kernel
theorem d_Md_version_42 : decode prog_10_method_11_code 42 = .ok (.if_icmp .eq 10, 3) := by decide +kernel
theorem d_Md_version_45 : decode prog_10_method_11_code 45 = .ok (.iload 7, 2) := by decide +kernel
theorem d_Md_version_47 : decode prog_10_method_11_code 47 = .ok (.bipush 45, 2) := by decide +kernel
theorem d_Md_version_49 : decode prog_10_method_11_code 49 = .ok (.if_icmp .ne 7, 3) := by decide +kernel
theorem d_Md_version_52 : decode prog_10_method_11_code 52 = .ok (.iconst 1, 1) := by decide +kernel
theorem d_Md_version_53 : decode prog_10_method_11_code 53 = .ok (.goto 4, 3) := by decide +kernel
theorem d_Md_version_56 : decode prog_10_method_11_code 56 = .ok (.iconst 0, 1) := by decide +kernel
theorem d_Md_version_57 : decode prog_10_method_11_code 57 = .ok (.istore 8, 2) := by decide +kernel
theorem d_Md_version_59 : decode prog_10_method_11_code 59 = .ok (.iload 8, 2) := by decide +kernel
theorem d_Md_version_61 : decode prog_10_method_11_code 61 = .ok (.ifCond .ne 19, 3) := by decide +kernel
theorem d_Md_version_64 : decode prog_10_method_11_code 64 = .ok (.iload 7, 2) := by decide +kernel
theorem d_Md_version_66 : decode prog_10_method_11_code 66 = .ok (.invokestatic 60, 3) := by decide +kernel
theorem d_Md_version_69 : decode prog_10_method_11_code 69 = .ok (.ifCond .ne 11, 3) := by decide +kernel
theorem d_Md_version_72 : decode prog_10_method_11_code 72 = .ok (.iload 7, 2) := by decide +kernel
theorem d_Md_version_74 : decode prog_10_method_11_code 74 = .ok (.invokestatic 64, 3) := by decide +kernel
theorem d_Md_version_77 : decode prog_10_method_11_code 77 = .ok (.ifCond .eq 13, 3) := by decide +kernel
theorem d_Md_version_80 : decode prog_10_method_11_code 80 = .ok (.iload 8, 2) := by decide +kernel
theorem d_Md_version_82 : decode prog_10_method_11_code 82 = .ok (.ifCond .eq 10, 3) := by decide +kernel
theorem d_Md_version_85 : decode prog_10_method_11_code 85 = .ok (.iload 5, 2) := by decide +kernel
theorem d_Md_version_87 : decode prog_10_method_11_code 87 = .ok (.ifCond .eq 5, 3) := by decide +kernel
theorem d_Md_version_90 : decode prog_10_method_11_code 90 = .ok (.iconst 0, 1) := by decide +kernel
theorem d_Md_version_91 : decode prog_10_method_11_code 91 = .ok (.ireturn, 1) := by decide +kernel
theorem d_Md_version_92 : decode prog_10_method_11_code 92 = .ok (.iload 8, 2) := by decide +kernel
theorem d_Md_version_94 : decode prog_10_method_11_code 94 = .ok (.istore 5, 2) := by decide +kernel
theorem d_Md_version_96 : decode prog_10_method_11_code 96 = .ok (.iload 7, 2) := by decide +kernel
theorem d_Md_version_98 : decode prog_10_method_11_code 98 = .ok (.invokestatic 60, 3) := by decide +kernel
theorem d_Md_version_101 : decode prog_10_method_11_code 101 = .ok (.ifCond .eq 10, 3) := by decide +kernel
theorem d_Md_version_104 : decode prog_10_method_11_code 104 = .ok (.iload 4, 2) := by decide +kernel
theorem d_Md_version_106 : decode prog_10_method_11_code 106 = .ok (.iconst 1, 1) := by decide +kernel
theorem d_Md_version_107 : decode prog_10_method_11_code 107 = .ok (.iadd, 1) := by decide +kernel
theorem d_Md_version_108 : decode prog_10_method_11_code 108 = .ok (.goto 4, 3) := by decide +kernel
theorem d_Md_version_111 : decode prog_10_method_11_code 111 = .ok (.iconst 0, 1) := by decide +kernel
theorem d_Md_version_112 : decode prog_10_method_11_code 112 = .ok (.istore 4, 2) := by decide +kernel
theorem d_Md_version_114 : decode prog_10_method_11_code 114 = .ok (.iload 4, 2) := by decide +kernel
theorem d_Md_version_116 : decode prog_10_method_11_code 116 = .ok (.bipush 9, 2) := by decide +kernel
theorem d_Md_version_118 : decode prog_10_method_11_code 118 = .ok (.if_icmp .le 5, 3) := by decide +kernel
theorem d_Md_version_121 : decode prog_10_method_11_code 121 = .ok (.iconst 0, 1) := by decide +kernel
theorem d_Md_version_122 : decode prog_10_method_11_code 122 = .ok (.ireturn, 1) := by decide +kernel
theorem d_Md_version_123 : decode prog_10_method_11_code 123 = .ok (.iinc 6 1, 3) := by decide +kernel
theorem d_Md_version_126 : decode prog_10_method_11_code 126 = .ok (.goto (-103), 3) := by decide +kernel
theorem d_Md_version_129 : decode prog_10_method_11_code 129 = .ok (.iload 5, 2) := by decide +kernel
theorem d_Md_version_131 : decode prog_10_method_11_code 131 = .ok (.ifCond .ne 7, 3) := by decide +kernel
theorem d_Md_version_134 : decode prog_10_method_11_code 134 = .ok (.iconst 1, 1) := by decide +kernel
theorem d_Md_version_135 : decode prog_10_method_11_code 135 = .ok (.goto 4, 3) := by decide +kernel
theorem d_Md_version_138 : decode prog_10_method_11_code 138 = .ok (.iconst 0, 1) := by decide +kernel
theorem d_Md_version_139 : decode prog_10_method_11_code 139 = .ok (.ireturn, 1) := by decide +kernel
theorem d_Md_at_0 : decode prog_10_method_6_code 0 = .ok (.iload_n 2, 1) := by decide +kernel
theorem d_Md_at_1 : decode prog_10_method_6_code 1 = .ok (.iconst 0, 1) := by decide +kernel
theorem d_Md_at_2 : decode prog_10_method_6_code 2 = .ok (.aload_n 0, 1) := by decide +kernel
theorem d_Md_at_3 : decode prog_10_method_6_code 3 = .ok (.getfield 13, 3) := by decide +kernel
theorem d_Md_at_6 : decode prog_10_method_6_code 6 = .ok (.iload_n 1, 1) := by decide +kernel
theorem d_Md_at_7 : decode prog_10_method_6_code 7 = .ok (.iaload, 1) := by decide +kernel
theorem d_Md_at_8 : decode prog_10_method_6_code 8 = .ok (.iconst 1, 1) := by decide +kernel
theorem d_Md_at_9 : decode prog_10_method_6_code 9 = .ok (.isub, 1) := by decide +kernel
theorem d_Md_at_10 : decode prog_10_method_6_code 10 = .ok (.invokestatic 56, 3) := by decide +kernel
theorem d_Md_at_13 : decode prog_10_method_6_code 13 = .ok (.ifCond .eq 17, 3) := by decide +kernel
theorem d_Md_at_16 : decode prog_10_method_6_code 16 = .ok (.aload_n 0, 1) := by decide +kernel
theorem d_Md_at_17 : decode prog_10_method_6_code 17 = .ok (.getfield 7, 3) := by decide +kernel
theorem d_Md_at_20 : decode prog_10_method_6_code 20 = .ok (.bipush 24, 2) := by decide +kernel
theorem d_Md_at_22 : decode prog_10_method_6_code 22 = .ok (.iload_n 1, 1) := by decide +kernel
theorem d_Md_at_23 : decode prog_10_method_6_code 23 = .ok (.imul, 1) := by decide +kernel
theorem d_Md_at_24 : decode prog_10_method_6_code 24 = .ok (.iload_n 2, 1) := by decide +kernel
theorem d_Md_at_25 : decode prog_10_method_6_code 25 = .ok (.iadd, 1) := by decide +kernel
theorem d_Md_at_26 : decode prog_10_method_6_code 26 = .ok (.iaload, 1) := by decide +kernel
theorem d_Md_at_27 : decode prog_10_method_6_code 27 = .ok (.goto 4, 3) := by decide +kernel
theorem d_Md_at_30 : decode prog_10_method_6_code 30 = .ok (.iconst 0, 1) := by decide +kernel
theorem d_Md_at_31 : decode prog_10_method_6_code 31 = .ok (.ireturn, 1) := by decide +kernel
theorem d_Md_used_0 : decode prog_10_method_24_code 0 = .ok (.aload_n 0, 1) := by decide +kernel
theorem d_Md_used_1 : decode prog_10_method_24_code 1 = .ok (.getfield 13, 3) := by decide +kernel
theorem d_Md_used_4 : decode prog_10_method_24_code 4 = .ok (.iconst 0, 1) := by decide +kernel
theorem d_Md_used_5 : decode prog_10_method_24_code 5 = .ok (.iconst 0, 1) := by decide +kernel
theorem d_Md_used_6 : decode prog_10_method_24_code 6 = .ok (.iastore, 1) := by decide +kernel
theorem d_Md_used_7 : decode prog_10_method_24_code 7 = .ok (.iload_n 1, 1) := by decide +kernel
theorem d_Md_used_8 : decode prog_10_method_24_code 8 = .ok (.ireturn, 1) := by decide +kernel
theorem d_Md_ordered_0 : decode prog_10_method_19_code 0 = .ok (.iconst 0, 1) := by decide +kernel
theorem d_Md_ordered_1 : decode prog_10_method_19_code 1 = .ok (.istore 5, 2) := by decide +kernel
theorem d_Md_ordered_3 : decode prog_10_method_19_code 3 = .ok (.iload_n 3, 1) := by decide +kernel
theorem d_Md_ordered_4 : decode prog_10_method_19_code 4 = .ok (.istore 6, 2) := by decide +kernel
theorem d_Md_ordered_6 : decode prog_10_method_19_code 6 = .ok (.iconst 0, 1) := by decide +kernel
theorem d_Md_ordered_7 : decode prog_10_method_19_code 7 = .ok (.istore 7, 2) := by decide +kernel
theorem d_Md_ordered_9 : decode prog_10_method_19_code 9 = .ok (.iload 7, 2) := by decide +kernel
theorem d_Md_ordered_11 : decode prog_10_method_19_code 11 = .ok (.bipush 13, 2) := by decide +kernel
theorem d_Md_ordered_13 : decode prog_10_method_19_code 13 = .ok (.if_icmp .ge 230, 3) := by decide +kernel
theorem d_Md_ordered_16 : decode prog_10_method_19_code 16 = .ok (.aload_n 0, 1) := by decide +kernel
theorem d_Md_ordered_17 : decode prog_10_method_19_code 17 = .ok (.iload_n 1, 1) := by decide +kernel
theorem d_Md_ordered_18 : decode prog_10_method_19_code 18 = .ok (.iload 5, 2) := by decide +kernel
theorem d_Md_ordered_20 : decode prog_10_method_19_code 20 = .ok (.aload_n 0, 1) := by decide +kernel
theorem d_Md_ordered_21 : decode prog_10_method_19_code 21 = .ok (.getfield 13, 3) := by decide +kernel
theorem d_Md_ordered_24 : decode prog_10_method_19_code 24 = .ok (.iload_n 1, 1) := by decide +kernel
theorem d_Md_ordered_25 : decode prog_10_method_19_code 25 = .ok (.iaload, 1) := by decide +kernel
theorem d_Md_ordered_26 : decode prog_10_method_19_code 26 = .ok (.invokevirtual 129, 3) := by decide +kernel
theorem d_Md_ordered_29 : decode prog_10_method_19_code 29 = .ok (.istore 8, 2) := by decide +kernel
theorem d_Md_ordered_31 : decode prog_10_method_19_code 31 = .ok (.aload_n 0, 1) := by decide +kernel
theorem d_Md_ordered_32 : decode prog_10_method_19_code 32 = .ok (.getfield 78, 3) := by decide +kernel
theorem d_Md_ordered_35 : decode prog_10_method_19_code 35 = .ok (.istore 9, 2) := by decide +kernel
theorem d_Md_ordered_37 : decode prog_10_method_19_code 37 = .ok (.aload_n 0, 1) := by decide +kernel
theorem d_Md_ordered_38 : decode prog_10_method_19_code 38 = .ok (.getfield 82, 3) := by decide +kernel
theorem d_Md_ordered_41 : decode prog_10_method_19_code 41 = .ok (.istore 10, 2) := by decide +kernel
theorem d_Md_ordered_43 : decode prog_10_method_19_code 43 = .ok (.aload_n 0, 1) := by decide +kernel
theorem d_Md_ordered_44 : decode prog_10_method_19_code 44 = .ok (.iload_n 1, 1) := by decide +kernel
theorem d_Md_ordered_45 : decode prog_10_method_19_code 45 = .ok (.iload 8, 2) := by decide +kernel
theorem d_Md_ordered_47 : decode prog_10_method_19_code 47 = .ok (.invokevirtual 132, 3) := by decide +kernel
theorem d_Md_ordered_50 : decode prog_10_method_19_code 50 = .ok (.istore 11, 2) := by decide +kernel
theorem d_Md_ordered_52 : decode prog_10_method_19_code 52 = .ok (.aload_n 0, 1) := by decide +kernel
theorem d_Md_ordered_53 : decode prog_10_method_19_code 53 = .ok (.iload_n 2, 1) := by decide +kernel
theorem d_Md_ordered_54 : decode prog_10_method_19_code 54 = .ok (.iload 6, 2) := by decide +kernel
theorem d_Md_ordered_56 : decode prog_10_method_19_code 56 = .ok (.iload 4, 2) := by decide +kernel
theorem d_Md_ordered_58 : decode prog_10_method_19_code 58 = .ok (.invokevirtual 129, 3) := by decide +kernel
theorem d_Md_ordered_61 : decode prog_10_method_19_code 61 = .ok (.istore 12, 2) := by decide +kernel
theorem d_Md_ordered_63 : decode prog_10_method_19_code 63 = .ok (.aload_n 0, 1) := by decide +kernel
theorem d_Md_ordered_64 : decode prog_10_method_19_code 64 = .ok (.iload_n 2, 1) := by decide +kernel
theorem d_Md_ordered_65 : decode prog_10_method_19_code 65 = .ok (.iload 12, 2) := by decide +kernel
theorem d_Md_ordered_67 : decode prog_10_method_19_code 67 = .ok (.invokevirtual 132, 3) := by decide +kernel
theorem d_Md_ordered_70 : decode prog_10_method_19_code 70 = .ok (.istore 13, 2) := by decide +kernel
theorem d_Md_ordered_72 : decode prog_10_method_19_code 72 = .ok (.iload 8, 2) := by decide +kernel
theorem d_Md_ordered_74 : decode prog_10_method_19_code 74 = .ok (.ifCond .ne 10, 3) := by decide +kernel
theorem d_Md_ordered_77 : decode prog_10_method_19_code 77 = .ok (.iload 12, 2) := by decide +kernel
theorem d_Md_ordered_79 : decode prog_10_method_19_code 79 = .ok (.ifCond .ne 5, 3) := by decide +kernel
theorem d_Md_ordered_82 : decode prog_10_method_19_code 82 = .ok (.iconst 0, 1) := by decide +kernel
theorem d_Md_ordered_83 : decode prog_10_method_19_code 83 = .ok (.ireturn, 1) := by decide +kernel
theorem d_Md_ordered_84 : decode prog_10_method_19_code 84 = .ok (.iload 11, 2) := by decide +kernel
theorem d_Md_ordered_86 : decode prog_10_method_19_code 86 = .ok (.iload 13, 2) := by decide +kernel
theorem d_Md_ordered_88 : decode prog_10_method_19_code 88 = .ok (.if_icmp .eq 16, 3) := by decide +kernel
theorem d_Md_ordered_91 : decode prog_10_method_19_code 91 = .ok (.iload 11, 2) := by decide +kernel
theorem d_Md_ordered_93 : decode prog_10_method_19_code 93 = .ok (.iload 13, 2) := by decide +kernel
theorem d_Md_ordered_95 : decode prog_10_method_19_code 95 = .ok (.if_icmp .ge 7, 3) := by decide +kernel
theorem d_Md_ordered_98 : decode prog_10_method_19_code 98 = .ok (.iconst (-1), 1) := by decide +kernel
theorem d_Md_ordered_99 : decode prog_10_method_19_code 99 = .ok (.goto 4, 3) := by decide +kernel
theorem d_Md_ordered_102 : decode prog_10_method_19_code 102 = .ok (.iconst 1, 1) := by decide +kernel
theorem d_Md_ordered_103 : decode prog_10_method_19_code 103 = .ok (.ireturn, 1) := by decide +kernel
theorem d_Md_ordered_104 : decode prog_10_method_19_code 104 = .ok (.iload 11, 2) := by decide +kernel
theorem d_Md_ordered_106 : decode prog_10_method_19_code 106 = .ok (.bipush 8, 2) := by decide +kernel
theorem d_Md_ordered_108 : decode prog_10_method_19_code 108 = .ok (.if_icmp .ne 24, 3) := by decide +kernel
theorem d_Md_ordered_111 : decode prog_10_method_19_code 111 = .ok (.aload_n 0, 1) := by decide +kernel
theorem d_Md_ordered_112 : decode prog_10_method_19_code 112 = .ok (.iload_n 1, 1) := by decide +kernel
theorem d_Md_ordered_113 : decode prog_10_method_19_code 113 = .ok (.iload 9, 2) := by decide +kernel
theorem d_Md_ordered_115 : decode prog_10_method_19_code 115 = .ok (.iload 10, 2) := by decide +kernel
theorem d_Md_ordered_117 : decode prog_10_method_19_code 117 = .ok (.iload_n 2, 1) := by decide +kernel
theorem d_Md_ordered_118 : decode prog_10_method_19_code 118 = .ok (.aload_n 0, 1) := by decide +kernel
theorem d_Md_ordered_119 : decode prog_10_method_19_code 119 = .ok (.getfield 78, 3) := by decide +kernel
theorem d_Md_ordered_122 : decode prog_10_method_19_code 122 = .ok (.aload_n 0, 1) := by decide +kernel
theorem d_Md_ordered_123 : decode prog_10_method_19_code 123 = .ok (.getfield 82, 3) := by decide +kernel
theorem d_Md_ordered_126 : decode prog_10_method_19_code 126 = .ok (.invokevirtual 136, 3) := by decide +kernel
theorem d_Md_ordered_129 : decode prog_10_method_19_code 129 = .ok (.goto 4, 3) := by decide +kernel
theorem d_Md_ordered_132 : decode prog_10_method_19_code 132 = .ok (.iconst 0, 1) := by decide +kernel
theorem d_Md_ordered_133 : decode prog_10_method_19_code 133 = .ok (.istore 14, 2) := by decide +kernel
theorem d_Md_ordered_135 : decode prog_10_method_19_code 135 = .ok (.iload 11, 2) := by decide +kernel
theorem d_Md_ordered_137 : decode prog_10_method_19_code 137 = .ok (.bipush 9, 2) := by decide +kernel
theorem d_Md_ordered_139 : decode prog_10_method_19_code 139 = .ok (.if_icmp .ne 56, 3) := by decide +kernel
theorem d_Md_ordered_142 : decode prog_10_method_19_code 142 = .ok (.aload_n 0, 1) := by decide +kernel
theorem d_Md_ordered_143 : decode prog_10_method_19_code 143 = .ok (.iload_n 1, 1) := by decide +kernel
theorem d_Md_ordered_144 : decode prog_10_method_19_code 144 = .ok (.iload 9, 2) := by decide +kernel
theorem d_Md_ordered_146 : decode prog_10_method_19_code 146 = .ok (.iload 10, 2) := by decide +kernel
theorem d_Md_ordered_148 : decode prog_10_method_19_code 148 = .ok (.invokevirtual 140, 3) := by decide +kernel
theorem d_Md_ordered_151 : decode prog_10_method_19_code 151 = .ok (.lstore 15, 2) := by decide +kernel
theorem d_Md_ordered_153 : decode prog_10_method_19_code 153 = .ok (.aload_n 0, 1) := by decide +kernel
theorem d_Md_ordered_154 : decode prog_10_method_19_code 154 = .ok (.iload_n 2, 1) := by decide +kernel
theorem d_Md_ordered_155 : decode prog_10_method_19_code 155 = .ok (.aload_n 0, 1) := by decide +kernel
theorem d_Md_ordered_156 : decode prog_10_method_19_code 156 = .ok (.getfield 78, 3) := by decide +kernel
theorem d_Md_ordered_159 : decode prog_10_method_19_code 159 = .ok (.aload_n 0, 1) := by decide +kernel
theorem d_Md_ordered_160 : decode prog_10_method_19_code 160 = .ok (.getfield 82, 3) := by decide +kernel
theorem d_Md_ordered_163 : decode prog_10_method_19_code 163 = .ok (.invokevirtual 140, 3) := by decide +kernel
theorem d_Md_ordered_166 : decode prog_10_method_19_code 166 = .ok (.lstore 17, 2) := by decide +kernel
theorem d_Md_ordered_168 : decode prog_10_method_19_code 168 = .ok (.lload 15, 2) := by decide +kernel
theorem d_Md_ordered_170 : decode prog_10_method_19_code 170 = .ok (.lload 17, 2) := by decide +kernel
theorem d_Md_ordered_172 : decode prog_10_method_19_code 172 = .ok (.lcmp, 1) := by decide +kernel
theorem d_Md_ordered_173 : decode prog_10_method_19_code 173 = .ok (.ifCond .ge 7, 3) := by decide +kernel
theorem d_Md_ordered_176 : decode prog_10_method_19_code 176 = .ok (.iconst (-1), 1) := by decide +kernel
theorem d_Md_ordered_177 : decode prog_10_method_19_code 177 = .ok (.goto 16, 3) := by decide +kernel
theorem d_Md_ordered_180 : decode prog_10_method_19_code 180 = .ok (.lload 15, 2) := by decide +kernel
theorem d_Md_ordered_182 : decode prog_10_method_19_code 182 = .ok (.lload 17, 2) := by decide +kernel
theorem d_Md_ordered_184 : decode prog_10_method_19_code 184 = .ok (.lcmp, 1) := by decide +kernel
theorem d_Md_ordered_185 : decode prog_10_method_19_code 185 = .ok (.ifCond .le 7, 3) := by decide +kernel
theorem d_Md_ordered_188 : decode prog_10_method_19_code 188 = .ok (.iconst 1, 1) := by decide +kernel
theorem d_Md_ordered_189 : decode prog_10_method_19_code 189 = .ok (.goto 4, 3) := by decide +kernel
theorem d_Md_ordered_192 : decode prog_10_method_19_code 192 = .ok (.iconst 0, 1) := by decide +kernel
theorem d_Md_ordered_193 : decode prog_10_method_19_code 193 = .ok (.istore 14, 2) := by decide +kernel
theorem d_Md_ordered_195 : decode prog_10_method_19_code 195 = .ok (.iload 14, 2) := by decide +kernel
theorem d_Md_ordered_197 : decode prog_10_method_19_code 197 = .ok (.ifCond .eq 6, 3) := by decide +kernel
theorem d_Md_ordered_200 : decode prog_10_method_19_code 200 = .ok (.iload 14, 2) := by decide +kernel
theorem d_Md_ordered_202 : decode prog_10_method_19_code 202 = .ok (.ireturn, 1) := by decide +kernel
theorem d_Md_ordered_203 : decode prog_10_method_19_code 203 = .ok (.iload 8, 2) := by decide +kernel
theorem d_Md_ordered_205 : decode prog_10_method_19_code 205 = .ok (.ifCond .eq 8, 3) := by decide +kernel
theorem d_Md_ordered_208 : decode prog_10_method_19_code 208 = .ok (.iload 10, 2) := by decide +kernel
theorem d_Md_ordered_210 : decode prog_10_method_19_code 210 = .ok (.goto 9, 3) := by decide +kernel
theorem d_Md_ordered_213 : decode prog_10_method_19_code 213 = .ok (.aload_n 0, 1) := by decide +kernel
theorem d_Md_ordered_214 : decode prog_10_method_19_code 214 = .ok (.getfield 13, 3) := by decide +kernel
theorem d_Md_ordered_217 : decode prog_10_method_19_code 217 = .ok (.iload_n 1, 1) := by decide +kernel
theorem d_Md_ordered_218 : decode prog_10_method_19_code 218 = .ok (.iaload, 1) := by decide +kernel
theorem d_Md_ordered_219 : decode prog_10_method_19_code 219 = .ok (.istore 5, 2) := by decide +kernel
theorem d_Md_ordered_221 : decode prog_10_method_19_code 221 = .ok (.iload 12, 2) := by decide +kernel
theorem d_Md_ordered_223 : decode prog_10_method_19_code 223 = .ok (.ifCond .eq 10, 3) := by decide +kernel
theorem d_Md_ordered_226 : decode prog_10_method_19_code 226 = .ok (.aload_n 0, 1) := by decide +kernel
theorem d_Md_ordered_227 : decode prog_10_method_19_code 227 = .ok (.getfield 82, 3) := by decide +kernel
theorem d_Md_ordered_230 : decode prog_10_method_19_code 230 = .ok (.goto 5, 3) := by decide +kernel
theorem d_Md_ordered_233 : decode prog_10_method_19_code 233 = .ok (.iload 4, 2) := by decide +kernel
theorem d_Md_ordered_235 : decode prog_10_method_19_code 235 = .ok (.istore 6, 2) := by decide +kernel
theorem d_Md_ordered_237 : decode prog_10_method_19_code 237 = .ok (.iinc 7 1, 3) := by decide +kernel
theorem d_Md_ordered_240 : decode prog_10_method_19_code 240 = .ok (.goto (-231), 3) := by decide +kernel
theorem d_Md_ordered_243 : decode prog_10_method_19_code 243 = .ok (.iconst 0, 1) := by decide +kernel
theorem d_Md_ordered_244 : decode prog_10_method_19_code 244 = .ok (.ireturn, 1) := by decide +kernel
theorem d_Md_item_0 : decode prog_10_method_12_code 0 = .ok (.aload_n 0, 1) := by decide +kernel
theorem d_Md_item_1 : decode prog_10_method_12_code 1 = .ok (.iload_n 2, 1) := by decide +kernel
theorem d_Md_item_2 : decode prog_10_method_12_code 2 = .ok (.putfield 78, 3) := by decide +kernel
theorem d_Md_item_5 : decode prog_10_method_12_code 5 = .ok (.aload_n 0, 1) := by decide +kernel
theorem d_Md_item_6 : decode prog_10_method_12_code 6 = .ok (.getfield 78, 3) := by decide +kernel
theorem d_Md_item_9 : decode prog_10_method_12_code 9 = .ok (.iload_n 3, 1) := by decide +kernel
theorem d_Md_item_10 : decode prog_10_method_12_code 10 = .ok (.if_icmp .ge 46, 3) := by decide +kernel
theorem d_Md_item_13 : decode prog_10_method_12_code 13 = .ok (.aload_n 0, 1) := by decide +kernel
theorem d_Md_item_14 : decode prog_10_method_12_code 14 = .ok (.iload_n 1, 1) := by decide +kernel
theorem d_Md_item_15 : decode prog_10_method_12_code 15 = .ok (.aload_n 0, 1) := by decide +kernel
theorem d_Md_item_16 : decode prog_10_method_12_code 16 = .ok (.getfield 78, 3) := by decide +kernel
theorem d_Md_item_19 : decode prog_10_method_12_code 19 = .ok (.invokevirtual 74, 3) := by decide +kernel
theorem d_Md_item_22 : decode prog_10_method_12_code 22 = .ok (.invokestatic 60, 3) := by decide +kernel
theorem d_Md_item_25 : decode prog_10_method_12_code 25 = .ok (.ifCond .ne 31, 3) := by decide +kernel
theorem d_Md_item_28 : decode prog_10_method_12_code 28 = .ok (.aload_n 0, 1) := by decide +kernel
theorem d_Md_item_29 : decode prog_10_method_12_code 29 = .ok (.iload_n 1, 1) := by decide +kernel
theorem d_Md_item_30 : decode prog_10_method_12_code 30 = .ok (.aload_n 0, 1) := by decide +kernel
theorem d_Md_item_31 : decode prog_10_method_12_code 31 = .ok (.getfield 78, 3) := by decide +kernel
theorem d_Md_item_34 : decode prog_10_method_12_code 34 = .ok (.invokevirtual 74, 3) := by decide +kernel
theorem d_Md_item_37 : decode prog_10_method_12_code 37 = .ok (.invokestatic 64, 3) := by decide +kernel
theorem d_Md_item_40 : decode prog_10_method_12_code 40 = .ok (.ifCond .ne 16, 3) := by decide +kernel
theorem d_Md_item_43 : decode prog_10_method_12_code 43 = .ok (.aload_n 0, 1) := by decide +kernel
theorem d_Md_item_44 : decode prog_10_method_12_code 44 = .ok (.dup, 1) := by decide +kernel
theorem d_Md_item_45 : decode prog_10_method_12_code 45 = .ok (.getfield 78, 3) := by decide +kernel
theorem d_Md_item_48 : decode prog_10_method_12_code 48 = .ok (.iconst 1, 1) := by decide +kernel
theorem d_Md_item_49 : decode prog_10_method_12_code 49 = .ok (.iadd, 1) := by decide +kernel
theorem d_Md_item_50 : decode prog_10_method_12_code 50 = .ok (.putfield 78, 3) := by decide +kernel
theorem d_Md_item_53 : decode prog_10_method_12_code 53 = .ok (.goto (-48), 3) := by decide +kernel
theorem d_Md_item_56 : decode prog_10_method_12_code 56 = .ok (.aload_n 0, 1) := by decide +kernel
theorem d_Md_item_57 : decode prog_10_method_12_code 57 = .ok (.aload_n 0, 1) := by decide +kernel
theorem d_Md_item_58 : decode prog_10_method_12_code 58 = .ok (.getfield 78, 3) := by decide +kernel
theorem d_Md_item_61 : decode prog_10_method_12_code 61 = .ok (.putfield 82, 3) := by decide +kernel
theorem d_Md_item_64 : decode prog_10_method_12_code 64 = .ok (.aload_n 0, 1) := by decide +kernel
theorem d_Md_item_65 : decode prog_10_method_12_code 65 = .ok (.getfield 82, 3) := by decide +kernel
theorem d_Md_item_68 : decode prog_10_method_12_code 68 = .ok (.iload_n 3, 1) := by decide +kernel
theorem d_Md_item_69 : decode prog_10_method_12_code 69 = .ok (.if_icmp .ge 64, 3) := by decide +kernel
theorem d_Md_item_72 : decode prog_10_method_12_code 72 = .ok (.aload_n 0, 1) := by decide +kernel
theorem d_Md_item_73 : decode prog_10_method_12_code 73 = .ok (.iload_n 1, 1) := by decide +kernel
theorem d_Md_item_74 : decode prog_10_method_12_code 74 = .ok (.aload_n 0, 1) := by decide +kernel
theorem d_Md_item_75 : decode prog_10_method_12_code 75 = .ok (.getfield 78, 3) := by decide +kernel
theorem d_Md_item_78 : decode prog_10_method_12_code 78 = .ok (.invokevirtual 74, 3) := by decide +kernel
theorem d_Md_item_81 : decode prog_10_method_12_code 81 = .ok (.invokestatic 60, 3) := by decide +kernel
theorem d_Md_item_84 : decode prog_10_method_12_code 84 = .ok (.ifCond .eq 21, 3) := by decide +kernel
theorem d_Md_item_87 : decode prog_10_method_12_code 87 = .ok (.aload_n 0, 1) := by decide +kernel
theorem d_Md_item_88 : decode prog_10_method_12_code 88 = .ok (.iload_n 1, 1) := by decide +kernel
theorem d_Md_item_89 : decode prog_10_method_12_code 89 = .ok (.aload_n 0, 1) := by decide +kernel
theorem d_Md_item_90 : decode prog_10_method_12_code 90 = .ok (.getfield 82, 3) := by decide +kernel
theorem d_Md_item_93 : decode prog_10_method_12_code 93 = .ok (.invokevirtual 74, 3) := by decide +kernel
theorem d_Md_item_96 : decode prog_10_method_12_code 96 = .ok (.invokestatic 60, 3) := by decide +kernel
theorem d_Md_item_99 : decode prog_10_method_12_code 99 = .ok (.ifCond .eq 34, 3) := by decide +kernel
theorem d_Md_item_102 : decode prog_10_method_12_code 102 = .ok (.goto 18, 3) := by decide +kernel
theorem d_Md_item_105 : decode prog_10_method_12_code 105 = .ok (.aload_n 0, 1) := by decide +kernel
theorem d_Md_item_106 : decode prog_10_method_12_code 106 = .ok (.iload_n 1, 1) := by decide +kernel
theorem d_Md_item_107 : decode prog_10_method_12_code 107 = .ok (.aload_n 0, 1) := by decide +kernel
theorem d_Md_item_108 : decode prog_10_method_12_code 108 = .ok (.getfield 82, 3) := by decide +kernel
theorem d_Md_item_111 : decode prog_10_method_12_code 111 = .ok (.invokevirtual 74, 3) := by decide +kernel
theorem d_Md_item_114 : decode prog_10_method_12_code 114 = .ok (.invokestatic 64, 3) := by decide +kernel
theorem d_Md_item_117 : decode prog_10_method_12_code 117 = .ok (.ifCond .eq 16, 3) := by decide +kernel
theorem d_Md_item_120 : decode prog_10_method_12_code 120 = .ok (.aload_n 0, 1) := by decide +kernel
theorem d_Md_item_121 : decode prog_10_method_12_code 121 = .ok (.dup, 1) := by decide +kernel
theorem d_Md_item_122 : decode prog_10_method_12_code 122 = .ok (.getfield 82, 3) := by decide +kernel
theorem d_Md_item_125 : decode prog_10_method_12_code 125 = .ok (.iconst 1, 1) := by decide +kernel
theorem d_Md_item_126 : decode prog_10_method_12_code 126 = .ok (.iadd, 1) := by decide +kernel
theorem d_Md_item_127 : decode prog_10_method_12_code 127 = .ok (.putfield 82, 3) := by decide +kernel
theorem d_Md_item_130 : decode prog_10_method_12_code 130 = .ok (.goto (-66), 3) := by decide +kernel
theorem d_Md_item_133 : decode prog_10_method_12_code 133 = .ok (.aload_n 0, 1) := by decide +kernel
theorem d_Md_item_134 : decode prog_10_method_12_code 134 = .ok (.getfield 78, 3) := by decide +kernel
theorem d_Md_item_137 : decode prog_10_method_12_code 137 = .ok (.iload_n 3, 1) := by decide +kernel
theorem d_Md_item_138 : decode prog_10_method_12_code 138 = .ok (.if_icmp .ge 7, 3) := by decide +kernel
theorem d_Md_item_141 : decode prog_10_method_12_code 141 = .ok (.iconst 1, 1) := by decide +kernel
theorem d_Md_item_142 : decode prog_10_method_12_code 142 = .ok (.goto 4, 3) := by decide +kernel
theorem d_Md_item_145 : decode prog_10_method_12_code 145 = .ok (.iconst 0, 1) := by decide +kernel
theorem d_Md_item_146 : decode prog_10_method_12_code 146 = .ok (.ireturn, 1) := by decide +kernel
theorem d_Md_rankOf_0 : decode prog_10_method_16_code 0 = .ok (.iload_n 2, 1) := by decide +kernel
theorem d_Md_rankOf_1 : decode prog_10_method_16_code 1 = .ok (.ifCond .ne 6, 3) := by decide +kernel
theorem d_Md_rankOf_4 : decode prog_10_method_16_code 4 = .ok (.bipush 6, 2) := by decide +kernel
theorem d_Md_rankOf_6 : decode prog_10_method_16_code 6 = .ok (.ireturn, 1) := by decide +kernel
theorem d_Md_rankOf_7 : decode prog_10_method_16_code 7 = .ok (.aload_n 0, 1) := by decide +kernel
theorem d_Md_rankOf_8 : decode prog_10_method_16_code 8 = .ok (.iload_n 1, 1) := by decide +kernel
theorem d_Md_rankOf_9 : decode prog_10_method_16_code 9 = .ok (.aload_n 0, 1) := by decide +kernel
theorem d_Md_rankOf_10 : decode prog_10_method_16_code 10 = .ok (.getfield 78, 3) := by decide +kernel
theorem d_Md_rankOf_13 : decode prog_10_method_16_code 13 = .ok (.invokevirtual 74, 3) := by decide +kernel
theorem d_Md_rankOf_16 : decode prog_10_method_16_code 16 = .ok (.invokestatic 64, 3) := by decide +kernel
theorem d_Md_rankOf_19 : decode prog_10_method_16_code 19 = .ok (.ifCond .eq 17, 3) := by decide +kernel
theorem d_Md_rankOf_22 : decode prog_10_method_16_code 22 = .ok (.aload_n 0, 1) := by decide +kernel
theorem d_Md_rankOf_23 : decode prog_10_method_16_code 23 = .ok (.iload_n 1, 1) := by decide +kernel
theorem d_Md_rankOf_24 : decode prog_10_method_16_code 24 = .ok (.aload_n 0, 1) := by decide +kernel
theorem d_Md_rankOf_25 : decode prog_10_method_16_code 25 = .ok (.getfield 78, 3) := by decide +kernel
theorem d_Md_rankOf_28 : decode prog_10_method_16_code 28 = .ok (.aload_n 0, 1) := by decide +kernel
theorem d_Md_rankOf_29 : decode prog_10_method_16_code 29 = .ok (.getfield 82, 3) := by decide +kernel
theorem d_Md_rankOf_32 : decode prog_10_method_16_code 32 = .ok (.invokevirtual 121, 3) := by decide +kernel
theorem d_Md_rankOf_35 : decode prog_10_method_16_code 35 = .ok (.ireturn, 1) := by decide +kernel
theorem d_Md_rankOf_36 : decode prog_10_method_16_code 36 = .ok (.aload_n 0, 1) := by decide +kernel
theorem d_Md_rankOf_37 : decode prog_10_method_16_code 37 = .ok (.getfield 78, 3) := by decide +kernel
theorem d_Md_rankOf_40 : decode prog_10_method_16_code 40 = .ok (.istore_n 3, 1) := by decide +kernel
theorem d_Md_rankOf_41 : decode prog_10_method_16_code 41 = .ok (.iload_n 3, 1) := by decide +kernel
theorem d_Md_rankOf_42 : decode prog_10_method_16_code 42 = .ok (.aload_n 0, 1) := by decide +kernel
theorem d_Md_rankOf_43 : decode prog_10_method_16_code 43 = .ok (.getfield 82, 3) := by decide +kernel
theorem d_Md_rankOf_46 : decode prog_10_method_16_code 46 = .ok (.if_icmp .ge 23, 3) := by decide +kernel
theorem d_Md_rankOf_49 : decode prog_10_method_16_code 49 = .ok (.aload_n 0, 1) := by decide +kernel
theorem d_Md_rankOf_50 : decode prog_10_method_16_code 50 = .ok (.iload_n 1, 1) := by decide +kernel
theorem d_Md_rankOf_51 : decode prog_10_method_16_code 51 = .ok (.iload_n 3, 1) := by decide +kernel
theorem d_Md_rankOf_52 : decode prog_10_method_16_code 52 = .ok (.invokevirtual 74, 3) := by decide +kernel
theorem d_Md_rankOf_55 : decode prog_10_method_16_code 55 = .ok (.bipush 48, 2) := by decide +kernel
theorem d_Md_rankOf_57 : decode prog_10_method_16_code 57 = .ok (.if_icmp .eq 6, 3) := by decide +kernel
theorem d_Md_rankOf_60 : decode prog_10_method_16_code 60 = .ok (.bipush 9, 2) := by decide +kernel
theorem d_Md_rankOf_62 : decode prog_10_method_16_code 62 = .ok (.ireturn, 1) := by decide +kernel
theorem d_Md_rankOf_63 : decode prog_10_method_16_code 63 = .ok (.iinc 3 1, 3) := by decide +kernel
theorem d_Md_rankOf_66 : decode prog_10_method_16_code 66 = .ok (.goto (-25), 3) := by decide +kernel
theorem d_Md_rankOf_69 : decode prog_10_method_16_code 69 = .ok (.bipush 6, 2) := by decide +kernel
theorem d_Md_rankOf_71 : decode prog_10_method_16_code 71 = .ok (.ireturn, 1) := by decide +kernel
theorem d_Md_wordRank_0 : decode prog_10_method_15_code 0 = .ok (.aload_n 0, 1) := by decide +kernel
theorem d_Md_wordRank_1 : decode prog_10_method_15_code 1 = .ok (.iload_n 1, 1) := by decide +kernel
theorem d_Md_wordRank_2 : decode prog_10_method_15_code 2 = .ok (.iload_n 2, 1) := by decide +kernel
theorem d_Md_wordRank_3 : decode prog_10_method_15_code 3 = .ok (.iload_n 3, 1) := by decide +kernel
theorem d_Md_wordRank_4 : decode prog_10_method_15_code 4 = .ok (.invokevirtual 91, 3) := by decide +kernel
theorem d_Md_wordRank_7 : decode prog_10_method_15_code 7 = .ok (.lstore 4, 2) := by decide +kernel
theorem d_Md_wordRank_9 : decode prog_10_method_15_code 9 = .ok (.lload 4, 2) := by decide +kernel
theorem d_Md_wordRank_11 : decode prog_10_method_15_code 11 = .ok (.iconst 1, 1) := by decide +kernel
theorem d_Md_wordRank_12 : decode prog_10_method_15_code 12 = .ok (.bipush 12, 2) := by decide +kernel
theorem d_Md_wordRank_14 : decode prog_10_method_15_code 14 = .ok (.bipush 16, 2) := by decide +kernel
theorem d_Md_wordRank_16 : decode prog_10_method_15_code 16 = .ok (.bipush 8, 2) := by decide +kernel
theorem d_Md_wordRank_18 : decode prog_10_method_15_code 18 = .ok (.iconst 1, 1) := by decide +kernel
theorem d_Md_wordRank_19 : decode prog_10_method_15_code 19 = .ok (.invokestatic 95, 3) := by decide +kernel
theorem d_Md_wordRank_22 : decode prog_10_method_15_code 22 = .ok (.lcmp, 1) := by decide +kernel
theorem d_Md_wordRank_23 : decode prog_10_method_15_code 23 = .ok (.ifCond .ne 5, 3) := by decide +kernel
theorem d_Md_wordRank_26 : decode prog_10_method_15_code 26 = .ok (.iconst 1, 1) := by decide +kernel
theorem d_Md_wordRank_27 : decode prog_10_method_15_code 27 = .ok (.ireturn, 1) := by decide +kernel
theorem d_Md_wordRank_28 : decode prog_10_method_15_code 28 = .ok (.lload 4, 2) := by decide +kernel
theorem d_Md_wordRank_30 : decode prog_10_method_15_code 30 = .ok (.iconst 2, 1) := by decide +kernel
theorem d_Md_wordRank_31 : decode prog_10_method_15_code 31 = .ok (.iconst 5, 1) := by decide +kernel
theorem d_Md_wordRank_32 : decode prog_10_method_15_code 32 = .ok (.bipush 20, 2) := by decide +kernel
theorem d_Md_wordRank_34 : decode prog_10_method_15_code 34 = .ok (.iconst 1, 1) := by decide +kernel
theorem d_Md_wordRank_35 : decode prog_10_method_15_code 35 = .ok (.iconst 0, 1) := by decide +kernel
theorem d_Md_wordRank_36 : decode prog_10_method_15_code 36 = .ok (.invokestatic 95, 3) := by decide +kernel
theorem d_Md_wordRank_39 : decode prog_10_method_15_code 39 = .ok (.lcmp, 1) := by decide +kernel
theorem d_Md_wordRank_40 : decode prog_10_method_15_code 40 = .ok (.ifCond .ne 5, 3) := by decide +kernel
theorem d_Md_wordRank_43 : decode prog_10_method_15_code 43 = .ok (.iconst 2, 1) := by decide +kernel
theorem d_Md_wordRank_44 : decode prog_10_method_15_code 44 = .ok (.ireturn, 1) := by decide +kernel
theorem d_Md_wordRank_45 : decode prog_10_method_15_code 45 = .ok (.lload 4, 2) := by decide +kernel
theorem d_Md_wordRank_47 : decode prog_10_method_15_code 47 = .ok (.bipush 13, 2) := by decide +kernel
theorem d_Md_wordRank_49 : decode prog_10_method_15_code 49 = .ok (.bipush 9, 2) := by decide +kernel
theorem d_Md_wordRank_51 : decode prog_10_method_15_code 51 = .ok (.bipush 12, 2) := by decide +kernel
theorem d_Md_wordRank_53 : decode prog_10_method_15_code 53 = .ok (.iconst 5, 1) := by decide +kernel
theorem d_Md_wordRank_54 : decode prog_10_method_15_code 54 = .ok (.bipush 19, 2) := by decide +kernel
theorem d_Md_wordRank_56 : decode prog_10_method_15_code 56 = .ok (.invokestatic 95, 3) := by decide +kernel
theorem d_Md_wordRank_59 : decode prog_10_method_15_code 59 = .ok (.ldc2_w 87, 3) := by decide +kernel
theorem d_Md_wordRank_62 : decode prog_10_method_15_code 62 = .ok (.lmul, 1) := by decide +kernel
theorem d_Md_wordRank_63 : decode prog_10_method_15_code 63 = .ok (.ldc2_w 99, 3) := by decide +kernel
theorem d_Md_wordRank_66 : decode prog_10_method_15_code 66 = .ok (.ladd, 1) := by decide +kernel
theorem d_Md_wordRank_67 : decode prog_10_method_15_code 67 = .ok (.ldc2_w 101, 3) := by decide +kernel
theorem d_Md_wordRank_70 : decode prog_10_method_15_code 70 = .ok (.lmul, 1) := by decide +kernel
theorem d_Md_wordRank_71 : decode prog_10_method_15_code 71 = .ok (.ldc2_w 103, 3) := by decide +kernel
theorem d_Md_wordRank_74 : decode prog_10_method_15_code 74 = .ok (.ladd, 1) := by decide +kernel
theorem d_Md_wordRank_75 : decode prog_10_method_15_code 75 = .ok (.ldc2_w 105, 3) := by decide +kernel
theorem d_Md_wordRank_78 : decode prog_10_method_15_code 78 = .ok (.ladd, 1) := by decide +kernel
theorem d_Md_wordRank_79 : decode prog_10_method_15_code 79 = .ok (.ldc2_w 107, 3) := by decide +kernel
theorem d_Md_wordRank_82 : decode prog_10_method_15_code 82 = .ok (.ladd, 1) := by decide +kernel
theorem d_Md_wordRank_83 : decode prog_10_method_15_code 83 = .ok (.lcmp, 1) := by decide +kernel
theorem d_Md_wordRank_84 : decode prog_10_method_15_code 84 = .ok (.ifCond .ne 5, 3) := by decide +kernel
theorem d_Md_wordRank_87 : decode prog_10_method_15_code 87 = .ok (.iconst 3, 1) := by decide +kernel
theorem d_Md_wordRank_88 : decode prog_10_method_15_code 88 = .ok (.ireturn, 1) := by decide +kernel
theorem d_Md_wordRank_89 : decode prog_10_method_15_code 89 = .ok (.lload 4, 2) := by decide +kernel
theorem d_Md_wordRank_91 : decode prog_10_method_15_code 91 = .ok (.bipush 18, 2) := by decide +kernel
theorem d_Md_wordRank_93 : decode prog_10_method_15_code 93 = .ok (.iconst 3, 1) := by decide +kernel
theorem d_Md_wordRank_94 : decode prog_10_method_15_code 94 = .ok (.iconst 0, 1) := by decide +kernel
theorem d_Md_wordRank_95 : decode prog_10_method_15_code 95 = .ok (.iconst 0, 1) := by decide +kernel
theorem d_Md_wordRank_96 : decode prog_10_method_15_code 96 = .ok (.iconst 0, 1) := by decide +kernel
theorem d_Md_wordRank_97 : decode prog_10_method_15_code 97 = .ok (.invokestatic 95, 3) := by decide +kernel
theorem d_Md_wordRank_100 : decode prog_10_method_15_code 100 = .ok (.lcmp, 1) := by decide +kernel
theorem d_Md_wordRank_101 : decode prog_10_method_15_code 101 = .ok (.ifCond .eq 18, 3) := by decide +kernel
theorem d_Md_wordRank_104 : decode prog_10_method_15_code 104 = .ok (.lload 4, 2) := by decide +kernel
theorem d_Md_wordRank_106 : decode prog_10_method_15_code 106 = .ok (.iconst 3, 1) := by decide +kernel
theorem d_Md_wordRank_107 : decode prog_10_method_15_code 107 = .ok (.bipush 18, 2) := by decide +kernel
theorem d_Md_wordRank_109 : decode prog_10_method_15_code 109 = .ok (.iconst 0, 1) := by decide +kernel
theorem d_Md_wordRank_110 : decode prog_10_method_15_code 110 = .ok (.iconst 0, 1) := by decide +kernel
theorem d_Md_wordRank_111 : decode prog_10_method_15_code 111 = .ok (.iconst 0, 1) := by decide +kernel
theorem d_Md_wordRank_112 : decode prog_10_method_15_code 112 = .ok (.invokestatic 95, 3) := by decide +kernel
theorem d_Md_wordRank_115 : decode prog_10_method_15_code 115 = .ok (.lcmp, 1) := by decide +kernel
theorem d_Md_wordRank_116 : decode prog_10_method_15_code 116 = .ok (.ifCond .ne 5, 3) := by decide +kernel
theorem d_Md_wordRank_119 : decode prog_10_method_15_code 119 = .ok (.iconst 4, 1) := by decide +kernel
theorem d_Md_wordRank_120 : decode prog_10_method_15_code 120 = .ok (.ireturn, 1) := by decide +kernel
theorem d_Md_wordRank_121 : decode prog_10_method_15_code 121 = .ok (.lload 4, 2) := by decide +kernel
theorem d_Md_wordRank_123 : decode prog_10_method_15_code 123 = .ok (.bipush 19, 2) := by decide +kernel
theorem d_Md_wordRank_125 : decode prog_10_method_15_code 125 = .ok (.bipush 14, 2) := by decide +kernel
theorem d_Md_wordRank_127 : decode prog_10_method_15_code 127 = .ok (.iconst 1, 1) := by decide +kernel
theorem d_Md_wordRank_128 : decode prog_10_method_15_code 128 = .ok (.bipush 16, 2) := by decide +kernel
theorem d_Md_wordRank_130 : decode prog_10_method_15_code 130 = .ok (.bipush 19, 2) := by decide +kernel
theorem d_Md_wordRank_132 : decode prog_10_method_15_code 132 = .ok (.invokestatic 95, 3) := by decide +kernel
theorem d_Md_wordRank_135 : decode prog_10_method_15_code 135 = .ok (.ldc2_w 101, 3) := by decide +kernel
theorem d_Md_wordRank_138 : decode prog_10_method_15_code 138 = .ok (.lmul, 1) := by decide +kernel
theorem d_Md_wordRank_139 : decode prog_10_method_15_code 139 = .ok (.ldc2_w 109, 3) := by decide +kernel
theorem d_Md_wordRank_142 : decode prog_10_method_15_code 142 = .ok (.ladd, 1) := by decide +kernel
theorem d_Md_wordRank_143 : decode prog_10_method_15_code 143 = .ok (.ldc2_w 111, 3) := by decide +kernel
theorem d_Md_wordRank_146 : decode prog_10_method_15_code 146 = .ok (.ladd, 1) := by decide +kernel
theorem d_Md_wordRank_147 : decode prog_10_method_15_code 147 = .ok (.ldc2_w 99, 3) := by decide +kernel
theorem d_Md_wordRank_150 : decode prog_10_method_15_code 150 = .ok (.ladd, 1) := by decide +kernel
theorem d_Md_wordRank_151 : decode prog_10_method_15_code 151 = .ok (.lcmp, 1) := by decide +kernel
theorem d_Md_wordRank_152 : decode prog_10_method_15_code 152 = .ok (.ifCond .ne 5, 3) := by decide +kernel
theorem d_Md_wordRank_155 : decode prog_10_method_15_code 155 = .ok (.iconst 5, 1) := by decide +kernel
theorem d_Md_wordRank_156 : decode prog_10_method_15_code 156 = .ok (.ireturn, 1) := by decide +kernel
theorem d_Md_wordRank_157 : decode prog_10_method_15_code 157 = .ok (.lload 4, 2) := by decide +kernel
theorem d_Md_wordRank_159 : decode prog_10_method_15_code 159 = .ok (.bipush 7, 2) := by decide +kernel
theorem d_Md_wordRank_161 : decode prog_10_method_15_code 161 = .ok (.iconst 1, 1) := by decide +kernel
theorem d_Md_wordRank_162 : decode prog_10_method_15_code 162 = .ok (.iconst 0, 1) := by decide +kernel
theorem d_Md_wordRank_163 : decode prog_10_method_15_code 163 = .ok (.iconst 0, 1) := by decide +kernel
theorem d_Md_wordRank_164 : decode prog_10_method_15_code 164 = .ok (.iconst 0, 1) := by decide +kernel
theorem d_Md_wordRank_165 : decode prog_10_method_15_code 165 = .ok (.invokestatic 95, 3) := by decide +kernel
theorem d_Md_wordRank_168 : decode prog_10_method_15_code 168 = .ok (.lcmp, 1) := by decide +kernel
theorem d_Md_wordRank_169 : decode prog_10_method_15_code 169 = .ok (.ifCond .eq 49, 3) := by decide +kernel
theorem d_Md_wordRank_172 : decode prog_10_method_15_code 172 = .ok (.lload 4, 2) := by decide +kernel
theorem d_Md_wordRank_174 : decode prog_10_method_15_code 174 = .ok (.bipush 6, 2) := by decide +kernel
theorem d_Md_wordRank_176 : decode prog_10_method_15_code 176 = .ok (.bipush 9, 2) := by decide +kernel
theorem d_Md_wordRank_178 : decode prog_10_method_15_code 178 = .ok (.bipush 14, 2) := by decide +kernel
theorem d_Md_wordRank_180 : decode prog_10_method_15_code 180 = .ok (.iconst 1, 1) := by decide +kernel
theorem d_Md_wordRank_181 : decode prog_10_method_15_code 181 = .ok (.bipush 12, 2) := by decide +kernel
theorem d_Md_wordRank_183 : decode prog_10_method_15_code 183 = .ok (.invokestatic 95, 3) := by decide +kernel
theorem d_Md_wordRank_186 : decode prog_10_method_15_code 186 = .ok (.lcmp, 1) := by decide +kernel
theorem d_Md_wordRank_187 : decode prog_10_method_15_code 187 = .ok (.ifCond .eq 31, 3) := by decide +kernel
theorem d_Md_wordRank_190 : decode prog_10_method_15_code 190 = .ok (.lload 4, 2) := by decide +kernel
theorem d_Md_wordRank_192 : decode prog_10_method_15_code 192 = .ok (.bipush 18, 2) := by decide +kernel
theorem d_Md_wordRank_194 : decode prog_10_method_15_code 194 = .ok (.iconst 5, 1) := by decide +kernel
theorem d_Md_wordRank_195 : decode prog_10_method_15_code 195 = .ok (.bipush 12, 2) := by decide +kernel
theorem d_Md_wordRank_197 : decode prog_10_method_15_code 197 = .ok (.iconst 5, 1) := by decide +kernel
theorem d_Md_wordRank_198 : decode prog_10_method_15_code 198 = .ok (.iconst 1, 1) := by decide +kernel
theorem d_Md_wordRank_199 : decode prog_10_method_15_code 199 = .ok (.invokestatic 95, 3) := by decide +kernel
theorem d_Md_wordRank_202 : decode prog_10_method_15_code 202 = .ok (.ldc2_w 113, 3) := by decide +kernel
theorem d_Md_wordRank_205 : decode prog_10_method_15_code 205 = .ok (.lmul, 1) := by decide +kernel
theorem d_Md_wordRank_206 : decode prog_10_method_15_code 206 = .ok (.ldc2_w 115, 3) := by decide +kernel
theorem d_Md_wordRank_209 : decode prog_10_method_15_code 209 = .ok (.ladd, 1) := by decide +kernel
theorem d_Md_wordRank_210 : decode prog_10_method_15_code 210 = .ok (.ldc2_w 107, 3) := by decide +kernel
theorem d_Md_wordRank_213 : decode prog_10_method_15_code 213 = .ok (.ladd, 1) := by decide +kernel
theorem d_Md_wordRank_214 : decode prog_10_method_15_code 214 = .ok (.lcmp, 1) := by decide +kernel
theorem d_Md_wordRank_215 : decode prog_10_method_15_code 215 = .ok (.ifCond .ne 6, 3) := by decide +kernel
theorem d_Md_wordRank_218 : decode prog_10_method_15_code 218 = .ok (.bipush 6, 2) := by decide +kernel
theorem d_Md_wordRank_220 : decode prog_10_method_15_code 220 = .ok (.ireturn, 1) := by decide +kernel
theorem d_Md_wordRank_221 : decode prog_10_method_15_code 221 = .ok (.lload 4, 2) := by decide +kernel
theorem d_Md_wordRank_223 : decode prog_10_method_15_code 223 = .ok (.bipush 19, 2) := by decide +kernel
theorem d_Md_wordRank_225 : decode prog_10_method_15_code 225 = .ok (.bipush 16, 2) := by decide +kernel
theorem d_Md_wordRank_227 : decode prog_10_method_15_code 227 = .ok (.iconst 0, 1) := by decide +kernel
theorem d_Md_wordRank_228 : decode prog_10_method_15_code 228 = .ok (.iconst 0, 1) := by decide +kernel
theorem d_Md_wordRank_229 : decode prog_10_method_15_code 229 = .ok (.iconst 0, 1) := by decide +kernel
theorem d_Md_wordRank_230 : decode prog_10_method_15_code 230 = .ok (.invokestatic 95, 3) := by decide +kernel
theorem d_Md_wordRank_233 : decode prog_10_method_15_code 233 = .ok (.lcmp, 1) := by decide +kernel
theorem d_Md_wordRank_234 : decode prog_10_method_15_code 234 = .ok (.ifCond .ne 6, 3) := by decide +kernel
theorem d_Md_wordRank_237 : decode prog_10_method_15_code 237 = .ok (.bipush 7, 2) := by decide +kernel
theorem d_Md_wordRank_239 : decode prog_10_method_15_code 239 = .ok (.ireturn, 1) := by decide +kernel
theorem d_Md_wordRank_240 : decode prog_10_method_15_code 240 = .ok (.iload_n 3, 1) := by decide +kernel
theorem d_Md_wordRank_241 : decode prog_10_method_15_code 241 = .ok (.iload_n 2, 1) := by decide +kernel
theorem d_Md_wordRank_242 : decode prog_10_method_15_code 242 = .ok (.isub, 1) := by decide +kernel
theorem d_Md_wordRank_243 : decode prog_10_method_15_code 243 = .ok (.iconst 1, 1) := by decide +kernel
theorem d_Md_wordRank_244 : decode prog_10_method_15_code 244 = .ok (.if_icmp .ne 19, 3) := by decide +kernel
theorem d_Md_wordRank_247 : decode prog_10_method_15_code 247 = .ok (.aload_n 0, 1) := by decide +kernel
theorem d_Md_wordRank_248 : decode prog_10_method_15_code 248 = .ok (.iload_n 1, 1) := by decide +kernel
theorem d_Md_wordRank_249 : decode prog_10_method_15_code 249 = .ok (.iload_n 3, 1) := by decide +kernel
end
section
theorem d_Md_wordRank_250 : decode prog_10_method_15_code 250 = .ok (.invokevirtual 74, 3) := by decide +kernel
theorem d_Md_wordRank_253 : decode prog_10_method_15_code 253 = .ok (.invokestatic 60, 3) := by decide +kernel
theorem d_Md_wordRank_256 : decode prog_10_method_15_code 256 = .ok (.ifCond .eq 7, 3) := by decide +kernel
theorem d_Md_wordRank_259 : decode prog_10_method_15_code 259 = .ok (.iconst 1, 1) := by decide +kernel
theorem d_Md_wordRank_260 : decode prog_10_method_15_code 260 = .ok (.goto 4, 3) := by decide +kernel
theorem d_Md_wordRank_263 : decode prog_10_method_15_code 263 = .ok (.iconst 0, 1) := by decide +kernel
theorem d_Md_wordRank_264 : decode prog_10_method_15_code 264 = .ok (.istore 6, 2) := by decide +kernel
theorem d_Md_wordRank_266 : decode prog_10_method_15_code 266 = .ok (.iload 6, 2) := by decide +kernel
theorem d_Md_wordRank_268 : decode prog_10_method_15_code 268 = .ok (.ifCond .eq 10, 3) := by decide +kernel
theorem d_Md_wordRank_271 : decode prog_10_method_15_code 271 = .ok (.lload 4, 2) := by decide +kernel
theorem d_Md_wordRank_273 : decode prog_10_method_15_code 273 = .ok (.lconst 1, 1) := by decide +kernel
theorem d_Md_wordRank_274 : decode prog_10_method_15_code 274 = .ok (.lcmp, 1) := by decide +kernel
theorem d_Md_wordRank_275 : decode prog_10_method_15_code 275 = .ok (.ifCond .eq 17, 3) := by decide +kernel
theorem d_Md_wordRank_278 : decode prog_10_method_15_code 278 = .ok (.iload 6, 2) := by decide +kernel
theorem d_Md_wordRank_280 : decode prog_10_method_15_code 280 = .ok (.ifCond .eq 16, 3) := by decide +kernel
theorem d_Md_wordRank_283 : decode prog_10_method_15_code 283 = .ok (.lload 4, 2) := by decide +kernel
theorem d_Md_wordRank_285 : decode prog_10_method_15_code 285 = .ok (.ldc2_w 117, 3) := by decide +kernel
theorem d_Md_wordRank_288 : decode prog_10_method_15_code 288 = .ok (.lcmp, 1) := by decide +kernel
theorem d_Md_wordRank_289 : decode prog_10_method_15_code 289 = .ok (.ifCond .ne 7, 3) := by decide +kernel
theorem d_Md_wordRank_292 : decode prog_10_method_15_code 292 = .ok (.lload 4, 2) := by decide +kernel
theorem d_Md_wordRank_294 : decode prog_10_method_15_code 294 = .ok (.l2i, 1) := by decide +kernel
theorem d_Md_wordRank_295 : decode prog_10_method_15_code 295 = .ok (.ireturn, 1) := by decide +kernel
theorem d_Md_wordRank_296 : decode prog_10_method_15_code 296 = .ok (.iload 6, 2) := by decide +kernel
theorem d_Md_wordRank_298 : decode prog_10_method_15_code 298 = .ok (.ifCond .eq 16, 3) := by decide +kernel
theorem d_Md_wordRank_301 : decode prog_10_method_15_code 301 = .ok (.lload 4, 2) := by decide +kernel
theorem d_Md_wordRank_303 : decode prog_10_method_15_code 303 = .ok (.ldc2_w 119, 3) := by decide +kernel
theorem d_Md_wordRank_306 : decode prog_10_method_15_code 306 = .ok (.lcmp, 1) := by decide +kernel
theorem d_Md_wordRank_307 : decode prog_10_method_15_code 307 = .ok (.ifCond .ne 7, 3) := by decide +kernel
theorem d_Md_wordRank_310 : decode prog_10_method_15_code 310 = .ok (.iconst 3, 1) := by decide +kernel
theorem d_Md_wordRank_311 : decode prog_10_method_15_code 311 = .ok (.goto 5, 3) := by decide +kernel
theorem d_Md_wordRank_314 : decode prog_10_method_15_code 314 = .ok (.bipush 8, 2) := by decide +kernel
theorem d_Md_wordRank_316 : decode prog_10_method_15_code 316 = .ok (.ireturn, 1) := by decide +kernel
theorem d_Md_word_0 : decode prog_10_method_13_code 0 = .ok (.lconst 0, 1) := by decide +kernel
theorem d_Md_word_1 : decode prog_10_method_13_code 1 = .ok (.lstore 4, 2) := by decide +kernel
theorem d_Md_word_3 : decode prog_10_method_13_code 3 = .ok (.iload_n 2, 1) := by decide +kernel
theorem d_Md_word_4 : decode prog_10_method_13_code 4 = .ok (.istore 6, 2) := by decide +kernel
theorem d_Md_word_6 : decode prog_10_method_13_code 6 = .ok (.iload 6, 2) := by decide +kernel
theorem d_Md_word_8 : decode prog_10_method_13_code 8 = .ok (.iload_n 3, 1) := by decide +kernel
theorem d_Md_word_9 : decode prog_10_method_13_code 9 = .ok (.if_icmp .ge 44, 3) := by decide +kernel
theorem d_Md_word_12 : decode prog_10_method_13_code 12 = .ok (.iload_n 3, 1) := by decide +kernel
theorem d_Md_word_13 : decode prog_10_method_13_code 13 = .ok (.iload_n 2, 1) := by decide +kernel
theorem d_Md_word_14 : decode prog_10_method_13_code 14 = .ok (.isub, 1) := by decide +kernel
theorem d_Md_word_15 : decode prog_10_method_13_code 15 = .ok (.bipush 9, 2) := by decide +kernel
theorem d_Md_word_17 : decode prog_10_method_13_code 17 = .ok (.if_icmp .le 9, 3) := by decide +kernel
theorem d_Md_word_20 : decode prog_10_method_13_code 20 = .ok (.ldc2_w 85, 3) := by decide +kernel
theorem d_Md_word_23 : decode prog_10_method_13_code 23 = .ok (.goto 22, 3) := by decide +kernel
theorem d_Md_word_26 : decode prog_10_method_13_code 26 = .ok (.lload 4, 2) := by decide +kernel
theorem d_Md_word_28 : decode prog_10_method_13_code 28 = .ok (.ldc2_w 87, 3) := by decide +kernel
theorem d_Md_word_31 : decode prog_10_method_13_code 31 = .ok (.lmul, 1) := by decide +kernel
theorem d_Md_word_32 : decode prog_10_method_13_code 32 = .ok (.aload_n 0, 1) := by decide +kernel
theorem d_Md_word_33 : decode prog_10_method_13_code 33 = .ok (.iload_n 1, 1) := by decide +kernel
theorem d_Md_word_34 : decode prog_10_method_13_code 34 = .ok (.iload 6, 2) := by decide +kernel
theorem d_Md_word_36 : decode prog_10_method_13_code 36 = .ok (.invokevirtual 74, 3) := by decide +kernel
theorem d_Md_word_39 : decode prog_10_method_13_code 39 = .ok (.i2l, 1) := by decide +kernel
theorem d_Md_word_40 : decode prog_10_method_13_code 40 = .ok (.ladd, 1) := by decide +kernel
theorem d_Md_word_41 : decode prog_10_method_13_code 41 = .ok (.ldc2_w 89, 3) := by decide +kernel
theorem d_Md_word_44 : decode prog_10_method_13_code 44 = .ok (.lsub, 1) := by decide +kernel
theorem d_Md_word_45 : decode prog_10_method_13_code 45 = .ok (.lstore 4, 2) := by decide +kernel
theorem d_Md_word_47 : decode prog_10_method_13_code 47 = .ok (.iinc 6 1, 3) := by decide +kernel
theorem d_Md_word_50 : decode prog_10_method_13_code 50 = .ok (.goto (-44), 3) := by decide +kernel
theorem d_Md_word_53 : decode prog_10_method_13_code 53 = .ok (.lload 4, 2) := by decide +kernel
theorem d_Md_word_55 : decode prog_10_method_13_code 55 = .ok (.lreturn, 1) := by decide +kernel
theorem d_Md_spelt_0 : decode prog_10_method_14_code 0 = .ok (.iload_n 0, 1) := by decide +kernel
theorem d_Md_spelt_1 : decode prog_10_method_14_code 1 = .ok (.i2l, 1) := by decide +kernel
theorem d_Md_spelt_2 : decode prog_10_method_14_code 2 = .ok (.lstore 5, 2) := by decide +kernel
theorem d_Md_spelt_4 : decode prog_10_method_14_code 4 = .ok (.iload_n 1, 1) := by decide +kernel
theorem d_Md_spelt_5 : decode prog_10_method_14_code 5 = .ok (.ifCond .le 14, 3) := by decide +kernel
theorem d_Md_spelt_8 : decode prog_10_method_14_code 8 = .ok (.lload 5, 2) := by decide +kernel
theorem d_Md_spelt_10 : decode prog_10_method_14_code 10 = .ok (.ldc2_w 87, 3) := by decide +kernel
theorem d_Md_spelt_13 : decode prog_10_method_14_code 13 = .ok (.lmul, 1) := by decide +kernel
theorem d_Md_spelt_14 : decode prog_10_method_14_code 14 = .ok (.iload_n 1, 1) := by decide +kernel
theorem d_Md_spelt_15 : decode prog_10_method_14_code 15 = .ok (.i2l, 1) := by decide +kernel
theorem d_Md_spelt_16 : decode prog_10_method_14_code 16 = .ok (.ladd, 1) := by decide +kernel
theorem d_Md_spelt_17 : decode prog_10_method_14_code 17 = .ok (.lstore 5, 2) := by decide +kernel
theorem d_Md_spelt_19 : decode prog_10_method_14_code 19 = .ok (.iload_n 2, 1) := by decide +kernel
theorem d_Md_spelt_20 : decode prog_10_method_14_code 20 = .ok (.ifCond .le 14, 3) := by decide +kernel
theorem d_Md_spelt_23 : decode prog_10_method_14_code 23 = .ok (.lload 5, 2) := by decide +kernel
theorem d_Md_spelt_25 : decode prog_10_method_14_code 25 = .ok (.ldc2_w 87, 3) := by decide +kernel
theorem d_Md_spelt_28 : decode prog_10_method_14_code 28 = .ok (.lmul, 1) := by decide +kernel
theorem d_Md_spelt_29 : decode prog_10_method_14_code 29 = .ok (.iload_n 2, 1) := by decide +kernel
theorem d_Md_spelt_30 : decode prog_10_method_14_code 30 = .ok (.i2l, 1) := by decide +kernel
theorem d_Md_spelt_31 : decode prog_10_method_14_code 31 = .ok (.ladd, 1) := by decide +kernel
theorem d_Md_spelt_32 : decode prog_10_method_14_code 32 = .ok (.lstore 5, 2) := by decide +kernel
theorem d_Md_spelt_34 : decode prog_10_method_14_code 34 = .ok (.iload_n 3, 1) := by decide +kernel
theorem d_Md_spelt_35 : decode prog_10_method_14_code 35 = .ok (.ifCond .le 14, 3) := by decide +kernel
theorem d_Md_spelt_38 : decode prog_10_method_14_code 38 = .ok (.lload 5, 2) := by decide +kernel
theorem d_Md_spelt_40 : decode prog_10_method_14_code 40 = .ok (.ldc2_w 87, 3) := by decide +kernel
theorem d_Md_spelt_43 : decode prog_10_method_14_code 43 = .ok (.lmul, 1) := by decide +kernel
theorem d_Md_spelt_44 : decode prog_10_method_14_code 44 = .ok (.iload_n 3, 1) := by decide +kernel
theorem d_Md_spelt_45 : decode prog_10_method_14_code 45 = .ok (.i2l, 1) := by decide +kernel
theorem d_Md_spelt_46 : decode prog_10_method_14_code 46 = .ok (.ladd, 1) := by decide +kernel
theorem d_Md_spelt_47 : decode prog_10_method_14_code 47 = .ok (.lstore 5, 2) := by decide +kernel
theorem d_Md_spelt_49 : decode prog_10_method_14_code 49 = .ok (.iload 4, 2) := by decide +kernel
theorem d_Md_spelt_51 : decode prog_10_method_14_code 51 = .ok (.ifCond .le 16, 3) := by decide +kernel
theorem d_Md_spelt_54 : decode prog_10_method_14_code 54 = .ok (.lload 5, 2) := by decide +kernel
theorem d_Md_spelt_56 : decode prog_10_method_14_code 56 = .ok (.ldc2_w 87, 3) := by decide +kernel
theorem d_Md_spelt_59 : decode prog_10_method_14_code 59 = .ok (.lmul, 1) := by decide +kernel
theorem d_Md_spelt_60 : decode prog_10_method_14_code 60 = .ok (.iload 4, 2) := by decide +kernel
theorem d_Md_spelt_62 : decode prog_10_method_14_code 62 = .ok (.i2l, 1) := by decide +kernel
theorem d_Md_spelt_63 : decode prog_10_method_14_code 63 = .ok (.ladd, 1) := by decide +kernel
theorem d_Md_spelt_64 : decode prog_10_method_14_code 64 = .ok (.goto 5, 3) := by decide +kernel
theorem d_Md_spelt_67 : decode prog_10_method_14_code 67 = .ok (.lload 5, 2) := by decide +kernel
theorem d_Md_spelt_69 : decode prog_10_method_14_code 69 = .ok (.lreturn, 1) := by decide +kernel
theorem d_Md_words_0 : decode prog_10_method_18_code 0 = .ok (.iconst 0, 1) := by decide +kernel
theorem d_Md_words_1 : decode prog_10_method_18_code 1 = .ok (.istore 7, 2) := by decide +kernel
theorem d_Md_words_3 : decode prog_10_method_18_code 3 = .ok (.iload_n 2, 1) := by decide +kernel
theorem d_Md_words_4 : decode prog_10_method_18_code 4 = .ok (.iload 7, 2) := by decide +kernel
theorem d_Md_words_6 : decode prog_10_method_18_code 6 = .ok (.iadd, 1) := by decide +kernel
theorem d_Md_words_7 : decode prog_10_method_18_code 7 = .ok (.iload_n 3, 1) := by decide +kernel
theorem d_Md_words_8 : decode prog_10_method_18_code 8 = .ok (.if_icmp .lt 13, 3) := by decide +kernel
theorem d_Md_words_11 : decode prog_10_method_18_code 11 = .ok (.iload 5, 2) := by decide +kernel
theorem d_Md_words_13 : decode prog_10_method_18_code 13 = .ok (.iload 7, 2) := by decide +kernel
theorem d_Md_words_15 : decode prog_10_method_18_code 15 = .ok (.iadd, 1) := by decide +kernel
theorem d_Md_words_16 : decode prog_10_method_18_code 16 = .ok (.iload 6, 2) := by decide +kernel
theorem d_Md_words_18 : decode prog_10_method_18_code 18 = .ok (.if_icmp .ge 79, 3) := by decide +kernel
theorem d_Md_words_21 : decode prog_10_method_18_code 21 = .ok (.iload_n 2, 1) := by decide +kernel
theorem d_Md_words_22 : decode prog_10_method_18_code 22 = .ok (.iload 7, 2) := by decide +kernel
theorem d_Md_words_24 : decode prog_10_method_18_code 24 = .ok (.iadd, 1) := by decide +kernel
theorem d_Md_words_25 : decode prog_10_method_18_code 25 = .ok (.iload_n 3, 1) := by decide +kernel
theorem d_Md_words_26 : decode prog_10_method_18_code 26 = .ok (.if_icmp .ge 15, 3) := by decide +kernel
theorem d_Md_words_29 : decode prog_10_method_18_code 29 = .ok (.aload_n 0, 1) := by decide +kernel
theorem d_Md_words_30 : decode prog_10_method_18_code 30 = .ok (.iload_n 1, 1) := by decide +kernel
theorem d_Md_words_31 : decode prog_10_method_18_code 31 = .ok (.iload_n 2, 1) := by decide +kernel
theorem d_Md_words_32 : decode prog_10_method_18_code 32 = .ok (.iload 7, 2) := by decide +kernel
theorem d_Md_words_34 : decode prog_10_method_18_code 34 = .ok (.iadd, 1) := by decide +kernel
theorem d_Md_words_35 : decode prog_10_method_18_code 35 = .ok (.invokevirtual 74, 3) := by decide +kernel
theorem d_Md_words_38 : decode prog_10_method_18_code 38 = .ok (.goto 4, 3) := by decide +kernel
theorem d_Md_words_41 : decode prog_10_method_18_code 41 = .ok (.iconst 0, 1) := by decide +kernel
theorem d_Md_words_42 : decode prog_10_method_18_code 42 = .ok (.istore 8, 2) := by decide +kernel
theorem d_Md_words_44 : decode prog_10_method_18_code 44 = .ok (.iload 5, 2) := by decide +kernel
theorem d_Md_words_46 : decode prog_10_method_18_code 46 = .ok (.iload 7, 2) := by decide +kernel
theorem d_Md_words_48 : decode prog_10_method_18_code 48 = .ok (.iadd, 1) := by decide +kernel
theorem d_Md_words_49 : decode prog_10_method_18_code 49 = .ok (.iload 6, 2) := by decide +kernel
theorem d_Md_words_51 : decode prog_10_method_18_code 51 = .ok (.if_icmp .ge 17, 3) := by decide +kernel
theorem d_Md_words_54 : decode prog_10_method_18_code 54 = .ok (.aload_n 0, 1) := by decide +kernel
theorem d_Md_words_55 : decode prog_10_method_18_code 55 = .ok (.iload 4, 2) := by decide +kernel
theorem d_Md_words_57 : decode prog_10_method_18_code 57 = .ok (.iload 5, 2) := by decide +kernel
theorem d_Md_words_59 : decode prog_10_method_18_code 59 = .ok (.iload 7, 2) := by decide +kernel
theorem d_Md_words_61 : decode prog_10_method_18_code 61 = .ok (.iadd, 1) := by decide +kernel
theorem d_Md_words_62 : decode prog_10_method_18_code 62 = .ok (.invokevirtual 74, 3) := by decide +kernel
theorem d_Md_words_65 : decode prog_10_method_18_code 65 = .ok (.goto 4, 3) := by decide +kernel
theorem d_Md_words_68 : decode prog_10_method_18_code 68 = .ok (.iconst 0, 1) := by decide +kernel
theorem d_Md_words_69 : decode prog_10_method_18_code 69 = .ok (.istore 9, 2) := by decide +kernel
theorem d_Md_words_71 : decode prog_10_method_18_code 71 = .ok (.iload 8, 2) := by decide +kernel
theorem d_Md_words_73 : decode prog_10_method_18_code 73 = .ok (.iload 9, 2) := by decide +kernel
theorem d_Md_words_75 : decode prog_10_method_18_code 75 = .ok (.if_icmp .eq 16, 3) := by decide +kernel
theorem d_Md_words_78 : decode prog_10_method_18_code 78 = .ok (.iload 8, 2) := by decide +kernel
theorem d_Md_words_80 : decode prog_10_method_18_code 80 = .ok (.iload 9, 2) := by decide +kernel
theorem d_Md_words_82 : decode prog_10_method_18_code 82 = .ok (.if_icmp .ge 7, 3) := by decide +kernel
theorem d_Md_words_85 : decode prog_10_method_18_code 85 = .ok (.iconst (-1), 1) := by decide +kernel
theorem d_Md_words_86 : decode prog_10_method_18_code 86 = .ok (.goto 4, 3) := by decide +kernel
theorem d_Md_words_89 : decode prog_10_method_18_code 89 = .ok (.iconst 1, 1) := by decide +kernel
theorem d_Md_words_90 : decode prog_10_method_18_code 90 = .ok (.ireturn, 1) := by decide +kernel
theorem d_Md_words_91 : decode prog_10_method_18_code 91 = .ok (.iinc 7 1, 3) := by decide +kernel
theorem d_Md_words_94 : decode prog_10_method_18_code 94 = .ok (.goto (-91), 3) := by decide +kernel
theorem d_Md_words_97 : decode prog_10_method_18_code 97 = .ok (.iconst 0, 1) := by decide +kernel
theorem d_Md_words_98 : decode prog_10_method_18_code 98 = .ok (.ireturn, 1) := by decide +kernel
theorem d_Md_number_0 : decode prog_10_method_17_code 0 = .ok (.lconst 0, 1) := by decide +kernel
theorem d_Md_number_1 : decode prog_10_method_17_code 1 = .ok (.lstore 4, 2) := by decide +kernel
theorem d_Md_number_3 : decode prog_10_method_17_code 3 = .ok (.iload_n 2, 1) := by decide +kernel
theorem d_Md_number_4 : decode prog_10_method_17_code 4 = .ok (.istore 6, 2) := by decide +kernel
theorem d_Md_number_6 : decode prog_10_method_17_code 6 = .ok (.iload 6, 2) := by decide +kernel
theorem d_Md_number_8 : decode prog_10_method_17_code 8 = .ok (.iload_n 3, 1) := by decide +kernel
theorem d_Md_number_9 : decode prog_10_method_17_code 9 = .ok (.if_icmp .ge 30, 3) := by decide +kernel
theorem d_Md_number_12 : decode prog_10_method_17_code 12 = .ok (.ldc2_w 125, 3) := by decide +kernel
theorem d_Md_number_15 : decode prog_10_method_17_code 15 = .ok (.lload 4, 2) := by decide +kernel
theorem d_Md_number_17 : decode prog_10_method_17_code 17 = .ok (.lmul, 1) := by decide +kernel
theorem d_Md_number_18 : decode prog_10_method_17_code 18 = .ok (.aload_n 0, 1) := by decide +kernel
theorem d_Md_number_19 : decode prog_10_method_17_code 19 = .ok (.iload_n 1, 1) := by decide +kernel
theorem d_Md_number_20 : decode prog_10_method_17_code 20 = .ok (.iload 6, 2) := by decide +kernel
theorem d_Md_number_22 : decode prog_10_method_17_code 22 = .ok (.invokevirtual 74, 3) := by decide +kernel
theorem d_Md_number_25 : decode prog_10_method_17_code 25 = .ok (.i2l, 1) := by decide +kernel
theorem d_Md_number_26 : decode prog_10_method_17_code 26 = .ok (.ladd, 1) := by decide +kernel
theorem d_Md_number_27 : decode prog_10_method_17_code 27 = .ok (.ldc2_w 127, 3) := by decide +kernel
theorem d_Md_number_30 : decode prog_10_method_17_code 30 = .ok (.lsub, 1) := by decide +kernel
theorem d_Md_number_31 : decode prog_10_method_17_code 31 = .ok (.lstore 4, 2) := by decide +kernel
theorem d_Md_number_33 : decode prog_10_method_17_code 33 = .ok (.iinc 6 1, 3) := by decide +kernel
theorem d_Md_number_36 : decode prog_10_method_17_code 36 = .ok (.goto (-30), 3) := by decide +kernel
theorem d_Md_number_39 : decode prog_10_method_17_code 39 = .ok (.lload 4, 2) := by decide +kernel
theorem d_Md_number_41 : decode prog_10_method_17_code 41 = .ok (.lreturn, 1) := by decide +kernel
theorem d_Md_keep_0 : decode prog_10_method_10_code 0 = .ok (.iconst 0, 1) := by decide +kernel
theorem d_Md_keep_1 : decode prog_10_method_10_code 1 = .ok (.istore_n 2, 1) := by decide +kernel
theorem d_Md_keep_2 : decode prog_10_method_10_code 2 = .ok (.iload_n 2, 1) := by decide +kernel
theorem d_Md_keep_3 : decode prog_10_method_10_code 3 = .ok (.bipush 24, 2) := by decide +kernel
theorem d_Md_keep_5 : decode prog_10_method_10_code 5 = .ok (.if_icmp .ge 26, 3) := by decide +kernel
theorem d_Md_keep_8 : decode prog_10_method_10_code 8 = .ok (.aload_n 0, 1) := by decide +kernel
theorem d_Md_keep_9 : decode prog_10_method_10_code 9 = .ok (.getfield 7, 3) := by decide +kernel
theorem d_Md_keep_12 : decode prog_10_method_10_code 12 = .ok (.bipush 24, 2) := by decide +kernel
theorem d_Md_keep_14 : decode prog_10_method_10_code 14 = .ok (.iload_n 1, 1) := by decide +kernel
theorem d_Md_keep_15 : decode prog_10_method_10_code 15 = .ok (.imul, 1) := by decide +kernel
theorem d_Md_keep_16 : decode prog_10_method_10_code 16 = .ok (.iload_n 2, 1) := by decide +kernel
theorem d_Md_keep_17 : decode prog_10_method_10_code 17 = .ok (.iadd, 1) := by decide +kernel
theorem d_Md_keep_18 : decode prog_10_method_10_code 18 = .ok (.aload_n 0, 1) := by decide +kernel
theorem d_Md_keep_19 : decode prog_10_method_10_code 19 = .ok (.getfield 7, 3) := by decide +kernel
theorem d_Md_keep_22 : decode prog_10_method_10_code 22 = .ok (.iload_n 2, 1) := by decide +kernel
theorem d_Md_keep_23 : decode prog_10_method_10_code 23 = .ok (.iaload, 1) := by decide +kernel
theorem d_Md_keep_24 : decode prog_10_method_10_code 24 = .ok (.iastore, 1) := by decide +kernel
theorem d_Md_keep_25 : decode prog_10_method_10_code 25 = .ok (.iinc 2 1, 3) := by decide +kernel
theorem d_Md_keep_28 : decode prog_10_method_10_code 28 = .ok (.goto (-26), 3) := by decide +kernel
theorem d_Md_keep_31 : decode prog_10_method_10_code 31 = .ok (.aload_n 0, 1) := by decide +kernel
theorem d_Md_keep_32 : decode prog_10_method_10_code 32 = .ok (.getfield 13, 3) := by decide +kernel
theorem d_Md_keep_35 : decode prog_10_method_10_code 35 = .ok (.iload_n 1, 1) := by decide +kernel
theorem d_Md_keep_36 : decode prog_10_method_10_code 36 = .ok (.aload_n 0, 1) := by decide +kernel
theorem d_Md_keep_37 : decode prog_10_method_10_code 37 = .ok (.getfield 13, 3) := by decide +kernel
theorem d_Md_keep_40 : decode prog_10_method_10_code 40 = .ok (.iconst 0, 1) := by decide +kernel
theorem d_Md_keep_41 : decode prog_10_method_10_code 41 = .ok (.iaload, 1) := by decide +kernel
theorem d_Md_keep_42 : decode prog_10_method_10_code 42 = .ok (.iastore, 1) := by decide +kernel
theorem d_Md_keep_43 : decode prog_10_method_10_code 43 = .ok (.return_, 1) := by decide +kernel
theorem d_Md_need_0 : decode prog_10_method_26_code 0 = .ok (.aload_n 0, 1) := by decide +kernel
theorem d_Md_need_1 : decode prog_10_method_26_code 1 = .ok (.iload_n 1, 1) := by decide +kernel
theorem d_Md_need_2 : decode prog_10_method_26_code 2 = .ok (.iload_n 2, 1) := by decide +kernel
theorem d_Md_need_3 : decode prog_10_method_26_code 3 = .ok (.invokevirtual 160, 3) := by decide +kernel
theorem d_Md_need_6 : decode prog_10_method_26_code 6 = .ok (.ifCond .ne 12, 3) := by decide +kernel
theorem d_Md_need_9 : decode prog_10_method_26_code 9 = .ok (.iload_n 3, 1) := by decide +kernel
theorem d_Md_need_10 : decode prog_10_method_26_code 10 = .ok (.iconst 0, 1) := by decide +kernel
theorem d_Md_need_11 : decode prog_10_method_26_code 11 = .ok (.iconst 5, 1) := by decide +kernel
theorem d_Md_need_12 : decode prog_10_method_26_code 12 = .ok (.invokestatic 56, 3) := by decide +kernel
theorem d_Md_need_15 : decode prog_10_method_26_code 15 = .ok (.ifCond .ne 5, 3) := by decide +kernel
theorem d_Md_need_18 : decode prog_10_method_26_code 18 = .ok (.iconst (-1), 1) := by decide +kernel
theorem d_Md_need_19 : decode prog_10_method_26_code 19 = .ok (.ireturn, 1) := by decide +kernel
theorem d_Md_need_20 : decode prog_10_method_26_code 20 = .ok (.iconst 4, 1) := by decide +kernel
theorem d_Md_need_21 : decode prog_10_method_26_code 21 = .ok (.iload_n 1, 1) := by decide +kernel
theorem d_Md_need_22 : decode prog_10_method_26_code 22 = .ok (.imul, 1) := by decide +kernel
theorem d_Md_need_23 : decode prog_10_method_26_code 23 = .ok (.iload_n 2, 1) := by decide +kernel
theorem d_Md_need_24 : decode prog_10_method_26_code 24 = .ok (.iadd, 1) := by decide +kernel
theorem d_Md_need_25 : decode prog_10_method_26_code 25 = .ok (.istore 5, 2) := by decide +kernel
theorem d_Md_need_27 : decode prog_10_method_26_code 27 = .ok (.aload_n 0, 1) := by decide +kernel
theorem d_Md_need_28 : decode prog_10_method_26_code 28 = .ok (.iconst 0, 1) := by decide +kernel
theorem d_Md_need_29 : decode prog_10_method_26_code 29 = .ok (.invokevirtual 164, 3) := by decide +kernel
theorem d_Md_need_32 : decode prog_10_method_26_code 32 = .ok (.ifCond .ne 10, 3) := by decide +kernel
theorem d_Md_need_35 : decode prog_10_method_26_code 35 = .ok (.aload_n 0, 1) := by decide +kernel
theorem d_Md_need_36 : decode prog_10_method_26_code 36 = .ok (.bipush (-3), 2) := by decide +kernel
theorem d_Md_need_38 : decode prog_10_method_26_code 38 = .ok (.invokevirtual 153, 3) := by decide +kernel
theorem d_Md_need_41 : decode prog_10_method_26_code 41 = .ok (.ireturn, 1) := by decide +kernel
theorem d_Md_need_42 : decode prog_10_method_26_code 42 = .ok (.aload_n 0, 1) := by decide +kernel
theorem d_Md_need_43 : decode prog_10_method_26_code 43 = .ok (.getfield 26, 3) := by decide +kernel
theorem d_Md_need_46 : decode prog_10_method_26_code 46 = .ok (.iload 5, 2) := by decide +kernel
theorem d_Md_need_48 : decode prog_10_method_26_code 48 = .ok (.iaload, 1) := by decide +kernel
theorem d_Md_need_49 : decode prog_10_method_26_code 49 = .ok (.iconst 3, 1) := by decide +kernel
theorem d_Md_need_50 : decode prog_10_method_26_code 50 = .ok (.if_icmp .ne 10, 3) := by decide +kernel
theorem d_Md_need_53 : decode prog_10_method_26_code 53 = .ok (.aload_n 0, 1) := by decide +kernel
theorem d_Md_need_54 : decode prog_10_method_26_code 54 = .ok (.bipush (-2), 2) := by decide +kernel
theorem d_Md_need_56 : decode prog_10_method_26_code 56 = .ok (.invokevirtual 153, 3) := by decide +kernel
theorem d_Md_need_59 : decode prog_10_method_26_code 59 = .ok (.ireturn, 1) := by decide +kernel
theorem d_Md_need_60 : decode prog_10_method_26_code 60 = .ok (.iconst 3, 1) := by decide +kernel
theorem d_Md_need_61 : decode prog_10_method_26_code 61 = .ok (.iload 5, 2) := by decide +kernel
theorem d_Md_need_63 : decode prog_10_method_26_code 63 = .ok (.imul, 1) := by decide +kernel
theorem d_Md_need_64 : decode prog_10_method_26_code 64 = .ok (.aload_n 0, 1) := by decide +kernel
theorem d_Md_need_65 : decode prog_10_method_26_code 65 = .ok (.getfield 26, 3) := by decide +kernel
theorem d_Md_need_68 : decode prog_10_method_26_code 68 = .ok (.iload 5, 2) := by decide +kernel
theorem d_Md_need_70 : decode prog_10_method_26_code 70 = .ok (.iaload, 1) := by decide +kernel
theorem d_Md_need_71 : decode prog_10_method_26_code 71 = .ok (.iadd, 1) := by decide +kernel
theorem d_Md_need_72 : decode prog_10_method_26_code 72 = .ok (.istore 6, 2) := by decide +kernel
theorem d_Md_need_74 : decode prog_10_method_26_code 74 = .ok (.aload_n 0, 1) := by decide +kernel
theorem d_Md_need_75 : decode prog_10_method_26_code 75 = .ok (.bipush 54, 2) := by decide +kernel
theorem d_Md_need_77 : decode prog_10_method_26_code 77 = .ok (.iload 6, 2) := by decide +kernel
theorem d_Md_need_79 : decode prog_10_method_26_code 79 = .ok (.iadd, 1) := by decide +kernel
theorem d_Md_need_80 : decode prog_10_method_26_code 80 = .ok (.invokevirtual 156, 3) := by decide +kernel
theorem d_Md_need_83 : decode prog_10_method_26_code 83 = .ok (.aload_n 0, 1) := by decide +kernel
theorem d_Md_need_84 : decode prog_10_method_26_code 84 = .ok (.getfield 29, 3) := by decide +kernel
theorem d_Md_need_87 : decode prog_10_method_26_code 87 = .ok (.iload 6, 2) := by decide +kernel
theorem d_Md_need_89 : decode prog_10_method_26_code 89 = .ok (.iload_n 3, 1) := by decide +kernel
theorem d_Md_need_90 : decode prog_10_method_26_code 90 = .ok (.iastore, 1) := by decide +kernel
theorem d_Md_need_91 : decode prog_10_method_26_code 91 = .ok (.aload_n 0, 1) := by decide +kernel
theorem d_Md_need_92 : decode prog_10_method_26_code 92 = .ok (.getfield 32, 3) := by decide +kernel
theorem d_Md_need_95 : decode prog_10_method_26_code 95 = .ok (.iload 6, 2) := by decide +kernel
theorem d_Md_need_97 : decode prog_10_method_26_code 97 = .ok (.iload 4, 2) := by decide +kernel
theorem d_Md_need_99 : decode prog_10_method_26_code 99 = .ok (.bastore, 1) := by decide +kernel
theorem d_Md_need_100 : decode prog_10_method_26_code 100 = .ok (.aload_n 0, 1) := by decide +kernel
theorem d_Md_need_101 : decode prog_10_method_26_code 101 = .ok (.getfield 26, 3) := by decide +kernel
theorem d_Md_need_104 : decode prog_10_method_26_code 104 = .ok (.iload 5, 2) := by decide +kernel
theorem d_Md_need_106 : decode prog_10_method_26_code 106 = .ok (.dup2, 1) := by decide +kernel
theorem d_Md_need_107 : decode prog_10_method_26_code 107 = .ok (.iaload, 1) := by decide +kernel
theorem d_Md_need_108 : decode prog_10_method_26_code 108 = .ok (.iconst 1, 1) := by decide +kernel
theorem d_Md_need_109 : decode prog_10_method_26_code 109 = .ok (.iadd, 1) := by decide +kernel
theorem d_Md_need_110 : decode prog_10_method_26_code 110 = .ok (.iastore, 1) := by decide +kernel
theorem d_Md_need_111 : decode prog_10_method_26_code 111 = .ok (.aload_n 0, 1) := by decide +kernel
theorem d_Md_need_112 : decode prog_10_method_26_code 112 = .ok (.aload_n 0, 1) := by decide +kernel
theorem d_Md_need_113 : decode prog_10_method_26_code 113 = .ok (.getfield 26, 3) := by decide +kernel
theorem d_Md_need_116 : decode prog_10_method_26_code 116 = .ok (.iload 5, 2) := by decide +kernel
theorem d_Md_need_118 : decode prog_10_method_26_code 118 = .ok (.iaload, 1) := by decide +kernel
theorem d_Md_need_119 : decode prog_10_method_26_code 119 = .ok (.invokevirtual 153, 3) := by decide +kernel
theorem d_Md_need_122 : decode prog_10_method_26_code 122 = .ok (.ireturn, 1) := by decide +kernel
theorem d_Md_none_0 : decode prog_10_method_23_code 0 = .ok (.iload_n 1, 1) := by decide +kernel
theorem d_Md_none_1 : decode prog_10_method_23_code 1 = .ok (.iconst 0, 1) := by decide +kernel
theorem d_Md_none_2 : decode prog_10_method_23_code 2 = .ok (.iconst 5, 1) := by decide +kernel
theorem d_Md_none_3 : decode prog_10_method_23_code 3 = .ok (.invokestatic 56, 3) := by decide +kernel
theorem d_Md_none_6 : decode prog_10_method_23_code 6 = .ok (.ifCond .eq 19, 3) := by decide +kernel
theorem d_Md_none_9 : decode prog_10_method_23_code 9 = .ok (.iload_n 2, 1) := by decide +kernel
theorem d_Md_none_10 : decode prog_10_method_23_code 10 = .ok (.iconst 0, 1) := by decide +kernel
theorem d_Md_none_11 : decode prog_10_method_23_code 11 = .ok (.aload_n 0, 1) := by decide +kernel
theorem d_Md_none_12 : decode prog_10_method_23_code 12 = .ok (.getfield 16, 3) := by decide +kernel
theorem d_Md_none_15 : decode prog_10_method_23_code 15 = .ok (.iload_n 1, 1) := by decide +kernel
theorem d_Md_none_16 : decode prog_10_method_23_code 16 = .ok (.iaload, 1) := by decide +kernel
theorem d_Md_none_17 : decode prog_10_method_23_code 17 = .ok (.iconst 1, 1) := by decide +kernel
theorem d_Md_none_18 : decode prog_10_method_23_code 18 = .ok (.isub, 1) := by decide +kernel
theorem d_Md_none_19 : decode prog_10_method_23_code 19 = .ok (.invokestatic 56, 3) := by decide +kernel
theorem d_Md_none_22 : decode prog_10_method_23_code 22 = .ok (.ifCond .ne 7, 3) := by decide +kernel
theorem d_Md_none_25 : decode prog_10_method_23_code 25 = .ok (.iconst 1, 1) := by decide +kernel
theorem d_Md_none_26 : decode prog_10_method_23_code 26 = .ok (.goto 4, 3) := by decide +kernel
theorem d_Md_none_29 : decode prog_10_method_23_code 29 = .ok (.iconst 0, 1) := by decide +kernel
theorem d_Md_none_30 : decode prog_10_method_23_code 30 = .ok (.ireturn, 1) := by decide +kernel
theorem d_Md_range_0 : decode prog_10_method_21_code 0 = .ok (.aload_n 0, 1) := by decide +kernel
theorem d_Md_range_1 : decode prog_10_method_21_code 1 = .ok (.getfield 13, 3) := by decide +kernel
theorem d_Md_range_4 : decode prog_10_method_21_code 4 = .ok (.iload_n 1, 1) := by decide +kernel
theorem d_Md_range_5 : decode prog_10_method_21_code 5 = .ok (.iaload, 1) := by decide +kernel
theorem d_Md_range_6 : decode prog_10_method_21_code 6 = .ok (.istore_n 2, 1) := by decide +kernel
theorem d_Md_range_7 : decode prog_10_method_21_code 7 = .ok (.aload_n 0, 1) := by decide +kernel
theorem d_Md_range_8 : decode prog_10_method_21_code 8 = .ok (.iload_n 1, 1) := by decide +kernel
theorem d_Md_range_9 : decode prog_10_method_21_code 9 = .ok (.iconst 0, 1) := by decide +kernel
theorem d_Md_range_10 : decode prog_10_method_21_code 10 = .ok (.iload_n 2, 1) := by decide +kernel
theorem d_Md_range_11 : decode prog_10_method_21_code 11 = .ok (.invokevirtual 143, 3) := by decide +kernel
theorem d_Md_range_14 : decode prog_10_method_21_code 14 = .ok (.ifCond .eq 5, 3) := by decide +kernel
theorem d_Md_range_17 : decode prog_10_method_21_code 17 = .ok (.iconst 1, 1) := by decide +kernel
theorem d_Md_range_18 : decode prog_10_method_21_code 18 = .ok (.ireturn, 1) := by decide +kernel
theorem d_Md_range_19 : decode prog_10_method_21_code 19 = .ok (.aload_n 0, 1) := by decide +kernel
theorem d_Md_range_20 : decode prog_10_method_21_code 20 = .ok (.iload_n 1, 1) := by decide +kernel
theorem d_Md_range_21 : decode prog_10_method_21_code 21 = .ok (.iconst 0, 1) := by decide +kernel
theorem d_Md_range_22 : decode prog_10_method_21_code 22 = .ok (.invokevirtual 74, 3) := by decide +kernel
theorem d_Md_range_25 : decode prog_10_method_21_code 25 = .ok (.istore_n 3, 1) := by decide +kernel
theorem d_Md_range_26 : decode prog_10_method_21_code 26 = .ok (.aload_n 0, 1) := by decide +kernel
theorem d_Md_range_27 : decode prog_10_method_21_code 27 = .ok (.iload_n 1, 1) := by decide +kernel
theorem d_Md_range_28 : decode prog_10_method_21_code 28 = .ok (.iload_n 2, 1) := by decide +kernel
theorem d_Md_range_29 : decode prog_10_method_21_code 29 = .ok (.iconst 1, 1) := by decide +kernel
theorem d_Md_range_30 : decode prog_10_method_21_code 30 = .ok (.isub, 1) := by decide +kernel
theorem d_Md_range_31 : decode prog_10_method_21_code 31 = .ok (.invokevirtual 74, 3) := by decide +kernel
theorem d_Md_range_34 : decode prog_10_method_21_code 34 = .ok (.istore 4, 2) := by decide +kernel
theorem d_Md_range_36 : decode prog_10_method_21_code 36 = .ok (.aload_n 0, 1) := by decide +kernel
theorem d_Md_range_37 : decode prog_10_method_21_code 37 = .ok (.iload_n 1, 1) := by decide +kernel
theorem d_Md_range_38 : decode prog_10_method_21_code 38 = .ok (.invokevirtual 146, 3) := by decide +kernel
theorem d_Md_range_41 : decode prog_10_method_21_code 41 = .ok (.istore 5, 2) := by decide +kernel
theorem d_Md_range_43 : decode prog_10_method_21_code 43 = .ok (.iload_n 2, 1) := by decide +kernel
theorem d_Md_range_44 : decode prog_10_method_21_code 44 = .ok (.iconst 3, 1) := by decide +kernel
theorem d_Md_range_45 : decode prog_10_method_21_code 45 = .ok (.if_icmp .lt 29, 3) := by decide +kernel
theorem d_Md_range_48 : decode prog_10_method_21_code 48 = .ok (.iload_n 3, 1) := by decide +kernel
theorem d_Md_range_49 : decode prog_10_method_21_code 49 = .ok (.bipush 91, 2) := by decide +kernel
theorem d_Md_range_51 : decode prog_10_method_21_code 51 = .ok (.if_icmp .eq 9, 3) := by decide +kernel
theorem d_Md_range_54 : decode prog_10_method_21_code 54 = .ok (.iload_n 3, 1) := by decide +kernel
theorem d_Md_range_55 : decode prog_10_method_21_code 55 = .ok (.bipush 40, 2) := by decide +kernel
theorem d_Md_range_57 : decode prog_10_method_21_code 57 = .ok (.if_icmp .ne 17, 3) := by decide +kernel
theorem d_Md_range_60 : decode prog_10_method_21_code 60 = .ok (.iload 4, 2) := by decide +kernel
theorem d_Md_range_62 : decode prog_10_method_21_code 62 = .ok (.bipush 93, 2) := by decide +kernel
theorem d_Md_range_64 : decode prog_10_method_21_code 64 = .ok (.if_icmp .eq 12, 3) := by decide +kernel
theorem d_Md_range_67 : decode prog_10_method_21_code 67 = .ok (.iload 4, 2) := by decide +kernel
theorem d_Md_range_69 : decode prog_10_method_21_code 69 = .ok (.bipush 41, 2) := by decide +kernel
theorem d_Md_range_71 : decode prog_10_method_21_code 71 = .ok (.if_icmp .eq 5, 3) := by decide +kernel
theorem d_Md_range_74 : decode prog_10_method_21_code 74 = .ok (.iconst 0, 1) := by decide +kernel
theorem d_Md_range_75 : decode prog_10_method_21_code 75 = .ok (.ireturn, 1) := by decide +kernel
theorem d_Md_range_76 : decode prog_10_method_21_code 76 = .ok (.iload 5, 2) := by decide +kernel
theorem d_Md_range_78 : decode prog_10_method_21_code 78 = .ok (.ifCond .ge 34, 3) := by decide +kernel
theorem d_Md_range_81 : decode prog_10_method_21_code 81 = .ok (.iload_n 3, 1) := by decide +kernel
theorem d_Md_range_82 : decode prog_10_method_21_code 82 = .ok (.bipush 91, 2) := by decide +kernel
theorem d_Md_range_84 : decode prog_10_method_21_code 84 = .ok (.if_icmp .ne 26, 3) := by decide +kernel
theorem d_Md_range_87 : decode prog_10_method_21_code 87 = .ok (.iload 4, 2) := by decide +kernel
theorem d_Md_range_89 : decode prog_10_method_21_code 89 = .ok (.bipush 93, 2) := by decide +kernel
theorem d_Md_range_91 : decode prog_10_method_21_code 91 = .ok (.if_icmp .ne 19, 3) := by decide +kernel
theorem d_Md_range_94 : decode prog_10_method_21_code 94 = .ok (.aload_n 0, 1) := by decide +kernel
theorem d_Md_range_95 : decode prog_10_method_21_code 95 = .ok (.iload_n 1, 1) := by decide +kernel
theorem d_Md_range_96 : decode prog_10_method_21_code 96 = .ok (.iconst 1, 1) := by decide +kernel
theorem d_Md_range_97 : decode prog_10_method_21_code 97 = .ok (.iload_n 2, 1) := by decide +kernel
theorem d_Md_range_98 : decode prog_10_method_21_code 98 = .ok (.iconst 1, 1) := by decide +kernel
theorem d_Md_range_99 : decode prog_10_method_21_code 99 = .ok (.isub, 1) := by decide +kernel
theorem d_Md_range_100 : decode prog_10_method_21_code 100 = .ok (.invokevirtual 143, 3) := by decide +kernel
theorem d_Md_range_103 : decode prog_10_method_21_code 103 = .ok (.ifCond .eq 7, 3) := by decide +kernel
theorem d_Md_range_106 : decode prog_10_method_21_code 106 = .ok (.iconst 1, 1) := by decide +kernel
theorem d_Md_range_107 : decode prog_10_method_21_code 107 = .ok (.goto 4, 3) := by decide +kernel
theorem d_Md_range_110 : decode prog_10_method_21_code 110 = .ok (.iconst 0, 1) := by decide +kernel
theorem d_Md_range_111 : decode prog_10_method_21_code 111 = .ok (.ireturn, 1) := by decide +kernel
theorem d_Md_range_112 : decode prog_10_method_21_code 112 = .ok (.iload 5, 2) := by decide +kernel
theorem d_Md_range_114 : decode prog_10_method_21_code 114 = .ok (.iconst 1, 1) := by decide +kernel
theorem d_Md_range_115 : decode prog_10_method_21_code 115 = .ok (.if_icmp .eq 14, 3) := by decide +kernel
theorem d_Md_range_118 : decode prog_10_method_21_code 118 = .ok (.aload_n 0, 1) := by decide +kernel
theorem d_Md_range_119 : decode prog_10_method_21_code 119 = .ok (.iload_n 1, 1) := by decide +kernel
theorem d_Md_range_120 : decode prog_10_method_21_code 120 = .ok (.iconst 1, 1) := by decide +kernel
theorem d_Md_range_121 : decode prog_10_method_21_code 121 = .ok (.iload 5, 2) := by decide +kernel
theorem d_Md_range_123 : decode prog_10_method_21_code 123 = .ok (.invokevirtual 143, 3) := by decide +kernel
theorem d_Md_range_126 : decode prog_10_method_21_code 126 = .ok (.ifCond .eq 30, 3) := by decide +kernel
theorem d_Md_range_129 : decode prog_10_method_21_code 129 = .ok (.iload 5, 2) := by decide +kernel
theorem d_Md_range_131 : decode prog_10_method_21_code 131 = .ok (.iload_n 2, 1) := by decide +kernel
theorem d_Md_range_132 : decode prog_10_method_21_code 132 = .ok (.iconst 2, 1) := by decide +kernel
theorem d_Md_range_133 : decode prog_10_method_21_code 133 = .ok (.isub, 1) := by decide +kernel
theorem d_Md_range_134 : decode prog_10_method_21_code 134 = .ok (.if_icmp .eq 18, 3) := by decide +kernel
theorem d_Md_range_137 : decode prog_10_method_21_code 137 = .ok (.aload_n 0, 1) := by decide +kernel
theorem d_Md_range_138 : decode prog_10_method_21_code 138 = .ok (.iload_n 1, 1) := by decide +kernel
theorem d_Md_range_139 : decode prog_10_method_21_code 139 = .ok (.iload 5, 2) := by decide +kernel
theorem d_Md_range_141 : decode prog_10_method_21_code 141 = .ok (.iconst 1, 1) := by decide +kernel
theorem d_Md_range_142 : decode prog_10_method_21_code 142 = .ok (.iadd, 1) := by decide +kernel
theorem d_Md_range_143 : decode prog_10_method_21_code 143 = .ok (.iload_n 2, 1) := by decide +kernel
theorem d_Md_range_144 : decode prog_10_method_21_code 144 = .ok (.iconst 1, 1) := by decide +kernel
theorem d_Md_range_145 : decode prog_10_method_21_code 145 = .ok (.isub, 1) := by decide +kernel
theorem d_Md_range_146 : decode prog_10_method_21_code 146 = .ok (.invokevirtual 143, 3) := by decide +kernel
theorem d_Md_range_149 : decode prog_10_method_21_code 149 = .ok (.ifCond .eq 7, 3) := by decide +kernel
theorem d_Md_range_152 : decode prog_10_method_21_code 152 = .ok (.iconst 1, 1) := by decide +kernel
theorem d_Md_range_153 : decode prog_10_method_21_code 153 = .ok (.goto 4, 3) := by decide +kernel
theorem d_Md_range_156 : decode prog_10_method_21_code 156 = .ok (.iconst 0, 1) := by decide +kernel
theorem d_Md_range_157 : decode prog_10_method_21_code 157 = .ok (.ireturn, 1) := by decide +kernel
theorem d_Md_comma_0 : decode prog_10_method_20_code 0 = .ok (.iconst 0, 1) := by decide +kernel
theorem d_Md_comma_1 : decode prog_10_method_20_code 1 = .ok (.istore_n 2, 1) := by decide +kernel
theorem d_Md_comma_2 : decode prog_10_method_20_code 2 = .ok (.iload_n 2, 1) := by decide +kernel
theorem d_Md_comma_3 : decode prog_10_method_20_code 3 = .ok (.aload_n 0, 1) := by decide +kernel
theorem d_Md_comma_4 : decode prog_10_method_20_code 4 = .ok (.getfield 13, 3) := by decide +kernel
theorem d_Md_comma_7 : decode prog_10_method_20_code 7 = .ok (.iload_n 1, 1) := by decide +kernel
theorem d_Md_comma_8 : decode prog_10_method_20_code 8 = .ok (.iaload, 1) := by decide +kernel
theorem d_Md_comma_9 : decode prog_10_method_20_code 9 = .ok (.if_icmp .ge 22, 3) := by decide +kernel
theorem d_Md_comma_12 : decode prog_10_method_20_code 12 = .ok (.aload_n 0, 1) := by decide +kernel
theorem d_Md_comma_13 : decode prog_10_method_20_code 13 = .ok (.iload_n 1, 1) := by decide +kernel
theorem d_Md_comma_14 : decode prog_10_method_20_code 14 = .ok (.iload_n 2, 1) := by decide +kernel
theorem d_Md_comma_15 : decode prog_10_method_20_code 15 = .ok (.invokevirtual 74, 3) := by decide +kernel
theorem d_Md_comma_18 : decode prog_10_method_20_code 18 = .ok (.bipush 44, 2) := by decide +kernel
theorem d_Md_comma_20 : decode prog_10_method_20_code 20 = .ok (.if_icmp .ne 5, 3) := by decide +kernel
theorem d_Md_comma_23 : decode prog_10_method_20_code 23 = .ok (.iload_n 2, 1) := by decide +kernel
theorem d_Md_comma_24 : decode prog_10_method_20_code 24 = .ok (.ireturn, 1) := by decide +kernel
theorem d_Md_comma_25 : decode prog_10_method_20_code 25 = .ok (.iinc 2 1, 3) := by decide +kernel
theorem d_Md_comma_28 : decode prog_10_method_20_code 28 = .ok (.goto (-26), 3) := by decide +kernel
theorem d_Md_comma_31 : decode prog_10_method_20_code 31 = .ok (.iconst (-1), 1) := by decide +kernel
theorem d_Md_comma_32 : decode prog_10_method_20_code 32 = .ok (.ireturn, 1) := by decide +kernel
theorem d_Md_needHost_0 : decode prog_10_method_27_code 0 = .ok (.aload_n 0, 1) := by decide +kernel
theorem d_Md_needHost_1 : decode prog_10_method_27_code 1 = .ok (.iload_n 1, 1) := by decide +kernel
theorem d_Md_needHost_2 : decode prog_10_method_27_code 2 = .ok (.iload_n 2, 1) := by decide +kernel
theorem d_Md_needHost_3 : decode prog_10_method_27_code 3 = .ok (.invokevirtual 160, 3) := by decide +kernel
theorem d_Md_needHost_6 : decode prog_10_method_27_code 6 = .ok (.ifCond .eq 5, 3) := by decide +kernel
theorem d_Md_needHost_9 : decode prog_10_method_27_code 9 = .ok (.iconst (-1), 1) := by decide +kernel
theorem d_Md_needHost_10 : decode prog_10_method_27_code 10 = .ok (.ireturn, 1) := by decide +kernel
theorem d_Md_needHost_11 : decode prog_10_method_27_code 11 = .ok (.iconst 4, 1) := by decide +kernel
theorem d_Md_needHost_12 : decode prog_10_method_27_code 12 = .ok (.iload_n 1, 1) := by decide +kernel
theorem d_Md_needHost_13 : decode prog_10_method_27_code 13 = .ok (.imul, 1) := by decide +kernel
theorem d_Md_needHost_14 : decode prog_10_method_27_code 14 = .ok (.iload_n 2, 1) := by decide +kernel
theorem d_Md_needHost_15 : decode prog_10_method_27_code 15 = .ok (.iadd, 1) := by decide +kernel
theorem d_Md_needHost_16 : decode prog_10_method_27_code 16 = .ok (.istore_n 3, 1) := by decide +kernel
theorem d_Md_needHost_17 : decode prog_10_method_27_code 17 = .ok (.aload_n 0, 1) := by decide +kernel
theorem d_Md_needHost_18 : decode prog_10_method_27_code 18 = .ok (.getfield 13, 3) := by decide +kernel
theorem d_Md_needHost_21 : decode prog_10_method_27_code 21 = .ok (.iconst 0, 1) := by decide +kernel
theorem d_Md_needHost_22 : decode prog_10_method_27_code 22 = .ok (.iaload, 1) := by decide +kernel
theorem d_Md_needHost_23 : decode prog_10_method_27_code 23 = .ok (.ifCond .le 18, 3) := by decide +kernel
theorem d_Md_needHost_26 : decode prog_10_method_27_code 26 = .ok (.aload_n 0, 1) := by decide +kernel
theorem d_Md_needHost_27 : decode prog_10_method_27_code 27 = .ok (.iconst 0, 1) := by decide +kernel
theorem d_Md_needHost_28 : decode prog_10_method_27_code 28 = .ok (.invokevirtual 164, 3) := by decide +kernel
theorem d_Md_needHost_31 : decode prog_10_method_27_code 31 = .ok (.ifCond .ne 10, 3) := by decide +kernel
theorem d_Md_needHost_34 : decode prog_10_method_27_code 34 = .ok (.aload_n 0, 1) := by decide +kernel
theorem d_Md_needHost_35 : decode prog_10_method_27_code 35 = .ok (.bipush (-3), 2) := by decide +kernel
theorem d_Md_needHost_37 : decode prog_10_method_27_code 37 = .ok (.invokevirtual 153, 3) := by decide +kernel
theorem d_Md_needHost_40 : decode prog_10_method_27_code 40 = .ok (.ireturn, 1) := by decide +kernel
theorem d_Md_needHost_41 : decode prog_10_method_27_code 41 = .ok (.aload_n 0, 1) := by decide +kernel
theorem d_Md_needHost_42 : decode prog_10_method_27_code 42 = .ok (.getfield 23, 3) := by decide +kernel
theorem d_Md_needHost_45 : decode prog_10_method_27_code 45 = .ok (.iload_n 3, 1) := by decide +kernel
theorem d_Md_needHost_46 : decode prog_10_method_27_code 46 = .ok (.aload_n 0, 1) := by decide +kernel
theorem d_Md_needHost_47 : decode prog_10_method_27_code 47 = .ok (.getfield 13, 3) := by decide +kernel
theorem d_Md_needHost_50 : decode prog_10_method_27_code 50 = .ok (.iconst 0, 1) := by decide +kernel
theorem d_Md_needHost_51 : decode prog_10_method_27_code 51 = .ok (.iaload, 1) := by decide +kernel
theorem d_Md_needHost_52 : decode prog_10_method_27_code 52 = .ok (.ifCond .le 7, 3) := by decide +kernel
theorem d_Md_needHost_55 : decode prog_10_method_27_code 55 = .ok (.iconst 1, 1) := by decide +kernel
theorem d_Md_needHost_56 : decode prog_10_method_27_code 56 = .ok (.goto 4, 3) := by decide +kernel
theorem d_Md_needHost_59 : decode prog_10_method_27_code 59 = .ok (.iconst 0, 1) := by decide +kernel
theorem d_Md_needHost_60 : decode prog_10_method_27_code 60 = .ok (.bastore, 1) := by decide +kernel
theorem d_Md_needHost_61 : decode prog_10_method_27_code 61 = .ok (.aload_n 0, 1) := by decide +kernel
theorem d_Md_needHost_62 : decode prog_10_method_27_code 62 = .ok (.bipush 30, 2) := by decide +kernel
theorem d_Md_needHost_64 : decode prog_10_method_27_code 64 = .ok (.iload_n 3, 1) := by decide +kernel
theorem d_Md_needHost_65 : decode prog_10_method_27_code 65 = .ok (.iadd, 1) := by decide +kernel
theorem d_Md_needHost_66 : decode prog_10_method_27_code 66 = .ok (.invokevirtual 156, 3) := by decide +kernel
theorem d_Md_needHost_69 : decode prog_10_method_27_code 69 = .ok (.aload_n 0, 1) := by decide +kernel
theorem d_Md_needHost_70 : decode prog_10_method_27_code 70 = .ok (.iconst 0, 1) := by decide +kernel
theorem d_Md_needHost_71 : decode prog_10_method_27_code 71 = .ok (.invokevirtual 153, 3) := by decide +kernel
theorem d_Md_needHost_74 : decode prog_10_method_27_code 74 = .ok (.ireturn, 1) := by decide +kernel
theorem d_Md_withdraw_0 : decode prog_10_method_28_code 0 = .ok (.aload_n 0, 1) := by decide +kernel
theorem d_Md_withdraw_1 : decode prog_10_method_28_code 1 = .ok (.iload_n 1, 1) := by decide +kernel
theorem d_Md_withdraw_2 : decode prog_10_method_28_code 2 = .ok (.iload_n 2, 1) := by decide +kernel
theorem d_Md_withdraw_3 : decode prog_10_method_28_code 3 = .ok (.invokevirtual 160, 3) := by decide +kernel
theorem d_Md_withdraw_6 : decode prog_10_method_28_code 6 = .ok (.ifCond .eq 5, 3) := by decide +kernel
theorem d_Md_withdraw_9 : decode prog_10_method_28_code 9 = .ok (.iconst (-1), 1) := by decide +kernel
theorem d_Md_withdraw_10 : decode prog_10_method_28_code 10 = .ok (.ireturn, 1) := by decide +kernel
theorem d_Md_withdraw_11 : decode prog_10_method_28_code 11 = .ok (.aload_n 0, 1) := by decide +kernel
theorem d_Md_withdraw_12 : decode prog_10_method_28_code 12 = .ok (.getfield 19, 3) := by decide +kernel
theorem d_Md_withdraw_15 : decode prog_10_method_28_code 15 = .ok (.iconst 4, 1) := by decide +kernel
theorem d_Md_withdraw_16 : decode prog_10_method_28_code 16 = .ok (.iload_n 1, 1) := by decide +kernel
theorem d_Md_withdraw_17 : decode prog_10_method_28_code 17 = .ok (.imul, 1) := by decide +kernel
theorem d_Md_withdraw_18 : decode prog_10_method_28_code 18 = .ok (.iload_n 2, 1) := by decide +kernel
theorem d_Md_withdraw_19 : decode prog_10_method_28_code 19 = .ok (.iadd, 1) := by decide +kernel
theorem d_Md_withdraw_20 : decode prog_10_method_28_code 20 = .ok (.iload_n 3, 1) := by decide +kernel
theorem d_Md_withdraw_21 : decode prog_10_method_28_code 21 = .ok (.bastore, 1) := by decide +kernel
theorem d_Md_withdraw_22 : decode prog_10_method_28_code 22 = .ok (.iconst 0, 1) := by decide +kernel
theorem d_Md_withdraw_23 : decode prog_10_method_28_code 23 = .ok (.ireturn, 1) := by decide +kernel
theorem d_Md_host_0 : decode prog_10_method_29_code 0 = .ok (.aload_n 0, 1) := by decide +kernel
theorem d_Md_host_1 : decode prog_10_method_29_code 1 = .ok (.iconst 0, 1) := by decide +kernel
theorem d_Md_host_2 : decode prog_10_method_29_code 2 = .ok (.iconst 0, 1) := by decide +kernel
theorem d_Md_host_3 : decode prog_10_method_29_code 3 = .ok (.aload_n 0, 1) := by decide +kernel
theorem d_Md_host_4 : decode prog_10_method_29_code 4 = .ok (.getfield 13, 3) := by decide +kernel
theorem d_Md_host_7 : decode prog_10_method_29_code 7 = .ok (.iconst 0, 1) := by decide +kernel
theorem d_Md_host_8 : decode prog_10_method_29_code 8 = .ok (.iaload, 1) := by decide +kernel
theorem d_Md_host_9 : decode prog_10_method_29_code 9 = .ok (.invokevirtual 143, 3) := by decide +kernel
theorem d_Md_host_12 : decode prog_10_method_29_code 12 = .ok (.ifCond .ne 10, 3) := by decide +kernel
theorem d_Md_host_15 : decode prog_10_method_29_code 15 = .ok (.aload_n 0, 1) := by decide +kernel
theorem d_Md_host_16 : decode prog_10_method_29_code 16 = .ok (.bipush (-3), 2) := by decide +kernel
theorem d_Md_host_18 : decode prog_10_method_29_code 18 = .ok (.invokevirtual 153, 3) := by decide +kernel
theorem d_Md_host_21 : decode prog_10_method_29_code 21 = .ok (.ireturn, 1) := by decide +kernel
theorem d_Md_host_22 : decode prog_10_method_29_code 22 = .ok (.aload_n 0, 1) := by decide +kernel
theorem d_Md_host_23 : decode prog_10_method_29_code 23 = .ok (.iconst 1, 1) := by decide +kernel
theorem d_Md_host_24 : decode prog_10_method_29_code 24 = .ok (.invokevirtual 156, 3) := by decide +kernel
theorem d_Md_host_27 : decode prog_10_method_29_code 27 = .ok (.aload_n 0, 1) := by decide +kernel
theorem d_Md_host_28 : decode prog_10_method_29_code 28 = .ok (.iconst 0, 1) := by decide +kernel
theorem d_Md_host_29 : decode prog_10_method_29_code 29 = .ok (.invokevirtual 153, 3) := by decide +kernel
theorem d_Md_host_32 : decode prog_10_method_29_code 32 = .ok (.ireturn, 1) := by decide +kernel
theorem d_Md_ask_0 : decode prog_10_method_30_code 0 = .ok (.iload_n 1, 1) := by decide +kernel
theorem d_Md_ask_1 : decode prog_10_method_30_code 1 = .ok (.iconst 0, 1) := by decide +kernel
theorem d_Md_ask_2 : decode prog_10_method_30_code 2 = .ok (.iconst 5, 1) := by decide +kernel
theorem d_Md_ask_3 : decode prog_10_method_30_code 3 = .ok (.invokestatic 56, 3) := by decide +kernel
theorem d_Md_ask_6 : decode prog_10_method_30_code 6 = .ok (.ifCond .ne 5, 3) := by decide +kernel
theorem d_Md_ask_9 : decode prog_10_method_30_code 9 = .ok (.iconst (-1), 1) := by decide +kernel
theorem d_Md_ask_10 : decode prog_10_method_30_code 10 = .ok (.ireturn, 1) := by decide +kernel
theorem d_Md_ask_11 : decode prog_10_method_30_code 11 = .ok (.aload_n 0, 1) := by decide +kernel
theorem d_Md_ask_12 : decode prog_10_method_30_code 12 = .ok (.iconst 0, 1) := by decide +kernel
theorem d_Md_ask_13 : decode prog_10_method_30_code 13 = .ok (.invokevirtual 164, 3) := by decide +kernel
theorem d_Md_ask_16 : decode prog_10_method_30_code 16 = .ok (.ifCond .ne 10, 3) := by decide +kernel
theorem d_Md_ask_19 : decode prog_10_method_30_code 19 = .ok (.aload_n 0, 1) := by decide +kernel
theorem d_Md_ask_20 : decode prog_10_method_30_code 20 = .ok (.bipush (-3), 2) := by decide +kernel
theorem d_Md_ask_22 : decode prog_10_method_30_code 22 = .ok (.invokevirtual 153, 3) := by decide +kernel
theorem d_Md_ask_25 : decode prog_10_method_30_code 25 = .ok (.ireturn, 1) := by decide +kernel
theorem d_Md_ask_26 : decode prog_10_method_30_code 26 = .ok (.aload_n 0, 1) := by decide +kernel
theorem d_Md_ask_27 : decode prog_10_method_30_code 27 = .ok (.getfield 167, 3) := by decide +kernel
theorem d_Md_ask_30 : decode prog_10_method_30_code 30 = .ok (.iconst 4, 1) := by decide +kernel
theorem d_Md_ask_31 : decode prog_10_method_30_code 31 = .ok (.if_icmp .ne 10, 3) := by decide +kernel
theorem d_Md_ask_34 : decode prog_10_method_30_code 34 = .ok (.aload_n 0, 1) := by decide +kernel
theorem d_Md_ask_35 : decode prog_10_method_30_code 35 = .ok (.bipush (-2), 2) := by decide +kernel
theorem d_Md_ask_37 : decode prog_10_method_30_code 37 = .ok (.invokevirtual 153, 3) := by decide +kernel
theorem d_Md_ask_40 : decode prog_10_method_30_code 40 = .ok (.ireturn, 1) := by decide +kernel
theorem d_Md_ask_41 : decode prog_10_method_30_code 41 = .ok (.aload_n 0, 1) := by decide +kernel
theorem d_Md_ask_42 : decode prog_10_method_30_code 42 = .ok (.iconst 2, 1) := by decide +kernel
theorem d_Md_ask_43 : decode prog_10_method_30_code 43 = .ok (.aload_n 0, 1) := by decide +kernel
theorem d_Md_ask_44 : decode prog_10_method_30_code 44 = .ok (.getfield 167, 3) := by decide +kernel
theorem d_Md_ask_47 : decode prog_10_method_30_code 47 = .ok (.iadd, 1) := by decide +kernel
theorem d_Md_ask_48 : decode prog_10_method_30_code 48 = .ok (.invokevirtual 156, 3) := by decide +kernel
theorem d_Md_ask_51 : decode prog_10_method_30_code 51 = .ok (.aload_n 0, 1) := by decide +kernel
theorem d_Md_ask_52 : decode prog_10_method_30_code 52 = .ok (.getfield 35, 3) := by decide +kernel
theorem d_Md_ask_55 : decode prog_10_method_30_code 55 = .ok (.aload_n 0, 1) := by decide +kernel
theorem d_Md_ask_56 : decode prog_10_method_30_code 56 = .ok (.getfield 167, 3) := by decide +kernel
theorem d_Md_ask_59 : decode prog_10_method_30_code 59 = .ok (.iload_n 1, 1) := by decide +kernel
theorem d_Md_ask_60 : decode prog_10_method_30_code 60 = .ok (.iastore, 1) := by decide +kernel
theorem d_Md_ask_61 : decode prog_10_method_30_code 61 = .ok (.aload_n 0, 1) := by decide +kernel
theorem d_Md_ask_62 : decode prog_10_method_30_code 62 = .ok (.dup, 1) := by decide +kernel
theorem d_Md_ask_63 : decode prog_10_method_30_code 63 = .ok (.getfield 167, 3) := by decide +kernel
theorem d_Md_ask_66 : decode prog_10_method_30_code 66 = .ok (.iconst 1, 1) := by decide +kernel
theorem d_Md_ask_67 : decode prog_10_method_30_code 67 = .ok (.iadd, 1) := by decide +kernel
theorem d_Md_ask_68 : decode prog_10_method_30_code 68 = .ok (.putfield 167, 3) := by decide +kernel
theorem d_Md_ask_71 : decode prog_10_method_30_code 71 = .ok (.aload_n 0, 1) := by decide +kernel
theorem d_Md_ask_72 : decode prog_10_method_30_code 72 = .ok (.aload_n 0, 1) := by decide +kernel
theorem d_Md_ask_73 : decode prog_10_method_30_code 73 = .ok (.getfield 167, 3) := by decide +kernel
theorem d_Md_ask_76 : decode prog_10_method_30_code 76 = .ok (.iconst 1, 1) := by decide +kernel
theorem d_Md_ask_77 : decode prog_10_method_30_code 77 = .ok (.isub, 1) := by decide +kernel
theorem d_Md_ask_78 : decode prog_10_method_30_code 78 = .ok (.invokevirtual 153, 3) := by decide +kernel
theorem d_Md_ask_81 : decode prog_10_method_30_code 81 = .ok (.ireturn, 1) := by decide +kernel
theorem d_Md_unask_0 : decode prog_10_method_31_code 0 = .ok (.iload_n 1, 1) := by decide +kernel
theorem d_Md_unask_1 : decode prog_10_method_31_code 1 = .ok (.iconst 0, 1) := by decide +kernel
theorem d_Md_unask_2 : decode prog_10_method_31_code 2 = .ok (.aload_n 0, 1) := by decide +kernel
theorem d_Md_unask_3 : decode prog_10_method_31_code 3 = .ok (.getfield 167, 3) := by decide +kernel
theorem d_Md_unask_6 : decode prog_10_method_31_code 6 = .ok (.iconst 1, 1) := by decide +kernel
theorem d_Md_unask_7 : decode prog_10_method_31_code 7 = .ok (.isub, 1) := by decide +kernel
theorem d_Md_unask_8 : decode prog_10_method_31_code 8 = .ok (.invokestatic 56, 3) := by decide +kernel
theorem d_Md_unask_11 : decode prog_10_method_31_code 11 = .ok (.ifCond .ne 5, 3) := by decide +kernel
theorem d_Md_unask_14 : decode prog_10_method_31_code 14 = .ok (.iconst (-1), 1) := by decide +kernel
theorem d_Md_unask_15 : decode prog_10_method_31_code 15 = .ok (.ireturn, 1) := by decide +kernel
theorem d_Md_unask_16 : decode prog_10_method_31_code 16 = .ok (.aload_n 0, 1) := by decide +kernel
theorem d_Md_unask_17 : decode prog_10_method_31_code 17 = .ok (.dup, 1) := by decide +kernel
theorem d_Md_unask_18 : decode prog_10_method_31_code 18 = .ok (.getfield 167, 3) := by decide +kernel
theorem d_Md_unask_21 : decode prog_10_method_31_code 21 = .ok (.iconst 1, 1) := by decide +kernel
theorem d_Md_unask_22 : decode prog_10_method_31_code 22 = .ok (.isub, 1) := by decide +kernel
theorem d_Md_unask_23 : decode prog_10_method_31_code 23 = .ok (.putfield 167, 3) := by decide +kernel
theorem d_Md_unask_26 : decode prog_10_method_31_code 26 = .ok (.iload_n 1, 1) := by decide +kernel
theorem d_Md_unask_27 : decode prog_10_method_31_code 27 = .ok (.istore_n 2, 1) := by decide +kernel
theorem d_Md_unask_28 : decode prog_10_method_31_code 28 = .ok (.iload_n 2, 1) := by decide +kernel
theorem d_Md_unask_29 : decode prog_10_method_31_code 29 = .ok (.aload_n 0, 1) := by decide +kernel
theorem d_Md_unask_30 : decode prog_10_method_31_code 30 = .ok (.getfield 167, 3) := by decide +kernel
theorem d_Md_unask_33 : decode prog_10_method_31_code 33 = .ok (.if_icmp .ge 81, 3) := by decide +kernel
theorem d_Md_unask_36 : decode prog_10_method_31_code 36 = .ok (.aload_n 0, 1) := by decide +kernel
theorem d_Md_unask_37 : decode prog_10_method_31_code 37 = .ok (.getfield 35, 3) := by decide +kernel
theorem d_Md_unask_40 : decode prog_10_method_31_code 40 = .ok (.iload_n 2, 1) := by decide +kernel
theorem d_Md_unask_41 : decode prog_10_method_31_code 41 = .ok (.aload_n 0, 1) := by decide +kernel
theorem d_Md_unask_42 : decode prog_10_method_31_code 42 = .ok (.getfield 35, 3) := by decide +kernel
theorem d_Md_unask_45 : decode prog_10_method_31_code 45 = .ok (.iload_n 2, 1) := by decide +kernel
theorem d_Md_unask_46 : decode prog_10_method_31_code 46 = .ok (.iconst 1, 1) := by decide +kernel
theorem d_Md_unask_47 : decode prog_10_method_31_code 47 = .ok (.iadd, 1) := by decide +kernel
theorem d_Md_unask_48 : decode prog_10_method_31_code 48 = .ok (.iaload, 1) := by decide +kernel
theorem d_Md_unask_49 : decode prog_10_method_31_code 49 = .ok (.iastore, 1) := by decide +kernel
theorem d_Md_unask_50 : decode prog_10_method_31_code 50 = .ok (.aload_n 0, 1) := by decide +kernel
theorem d_Md_unask_51 : decode prog_10_method_31_code 51 = .ok (.getfield 13, 3) := by decide +kernel
theorem d_Md_unask_54 : decode prog_10_method_31_code 54 = .ok (.iconst 2, 1) := by decide +kernel
theorem d_Md_unask_55 : decode prog_10_method_31_code 55 = .ok (.iload_n 2, 1) := by decide +kernel
theorem d_Md_unask_56 : decode prog_10_method_31_code 56 = .ok (.iadd, 1) := by decide +kernel
theorem d_Md_unask_57 : decode prog_10_method_31_code 57 = .ok (.aload_n 0, 1) := by decide +kernel
theorem d_Md_unask_58 : decode prog_10_method_31_code 58 = .ok (.getfield 13, 3) := by decide +kernel
theorem d_Md_unask_61 : decode prog_10_method_31_code 61 = .ok (.iconst 3, 1) := by decide +kernel
theorem d_Md_unask_62 : decode prog_10_method_31_code 62 = .ok (.iload_n 2, 1) := by decide +kernel
theorem d_Md_unask_63 : decode prog_10_method_31_code 63 = .ok (.iadd, 1) := by decide +kernel
theorem d_Md_unask_64 : decode prog_10_method_31_code 64 = .ok (.iaload, 1) := by decide +kernel
theorem d_Md_unask_65 : decode prog_10_method_31_code 65 = .ok (.iastore, 1) := by decide +kernel
theorem d_Md_unask_66 : decode prog_10_method_31_code 66 = .ok (.iconst 0, 1) := by decide +kernel
theorem d_Md_unask_67 : decode prog_10_method_31_code 67 = .ok (.istore_n 3, 1) := by decide +kernel
theorem d_Md_unask_68 : decode prog_10_method_31_code 68 = .ok (.iload_n 3, 1) := by decide +kernel
theorem d_Md_unask_69 : decode prog_10_method_31_code 69 = .ok (.bipush 24, 2) := by decide +kernel
theorem d_Md_unask_71 : decode prog_10_method_31_code 71 = .ok (.if_icmp .ge 37, 3) := by decide +kernel
theorem d_Md_unask_74 : decode prog_10_method_31_code 74 = .ok (.aload_n 0, 1) := by decide +kernel
theorem d_Md_unask_75 : decode prog_10_method_31_code 75 = .ok (.getfield 7, 3) := by decide +kernel
theorem d_Md_unask_78 : decode prog_10_method_31_code 78 = .ok (.bipush 48, 2) := by decide +kernel
theorem d_Md_unask_80 : decode prog_10_method_31_code 80 = .ok (.bipush 24, 2) := by decide +kernel
theorem d_Md_unask_82 : decode prog_10_method_31_code 82 = .ok (.iload_n 2, 1) := by decide +kernel
theorem d_Md_unask_83 : decode prog_10_method_31_code 83 = .ok (.imul, 1) := by decide +kernel
theorem d_Md_unask_84 : decode prog_10_method_31_code 84 = .ok (.iadd, 1) := by decide +kernel
theorem d_Md_unask_85 : decode prog_10_method_31_code 85 = .ok (.iload_n 3, 1) := by decide +kernel
theorem d_Md_unask_86 : decode prog_10_method_31_code 86 = .ok (.iadd, 1) := by decide +kernel
theorem d_Md_unask_87 : decode prog_10_method_31_code 87 = .ok (.aload_n 0, 1) := by decide +kernel
theorem d_Md_unask_88 : decode prog_10_method_31_code 88 = .ok (.getfield 7, 3) := by decide +kernel
theorem d_Md_unask_91 : decode prog_10_method_31_code 91 = .ok (.bipush 72, 2) := by decide +kernel
theorem d_Md_unask_93 : decode prog_10_method_31_code 93 = .ok (.bipush 24, 2) := by decide +kernel
theorem d_Md_unask_95 : decode prog_10_method_31_code 95 = .ok (.iload_n 2, 1) := by decide +kernel
theorem d_Md_unask_96 : decode prog_10_method_31_code 96 = .ok (.imul, 1) := by decide +kernel
theorem d_Md_unask_97 : decode prog_10_method_31_code 97 = .ok (.iadd, 1) := by decide +kernel
theorem d_Md_unask_98 : decode prog_10_method_31_code 98 = .ok (.iload_n 3, 1) := by decide +kernel
theorem d_Md_unask_99 : decode prog_10_method_31_code 99 = .ok (.iadd, 1) := by decide +kernel
theorem d_Md_unask_100 : decode prog_10_method_31_code 100 = .ok (.iaload, 1) := by decide +kernel
theorem d_Md_unask_101 : decode prog_10_method_31_code 101 = .ok (.iastore, 1) := by decide +kernel
theorem d_Md_unask_102 : decode prog_10_method_31_code 102 = .ok (.iinc 3 1, 3) := by decide +kernel
theorem d_Md_unask_105 : decode prog_10_method_31_code 105 = .ok (.goto (-37), 3) := by decide +kernel
theorem d_Md_unask_108 : decode prog_10_method_31_code 108 = .ok (.iinc 2 1, 3) := by decide +kernel
theorem d_Md_unask_111 : decode prog_10_method_31_code 111 = .ok (.goto (-83), 3) := by decide +kernel
theorem d_Md_unask_114 : decode prog_10_method_31_code 114 = .ok (.aload_n 0, 1) := by decide +kernel
theorem d_Md_unask_115 : decode prog_10_method_31_code 115 = .ok (.getfield 167, 3) := by decide +kernel
theorem d_Md_unask_118 : decode prog_10_method_31_code 118 = .ok (.ireturn, 1) := by decide +kernel
theorem d_Md_compare_0 : decode prog_10_method_32_code 0 = .ok (.aload_n 0, 1) := by decide +kernel
theorem d_Md_compare_1 : decode prog_10_method_32_code 1 = .ok (.iload_n 1, 1) := by decide +kernel
theorem d_Md_compare_2 : decode prog_10_method_32_code 2 = .ok (.iload_n 2, 1) := by decide +kernel
theorem d_Md_compare_3 : decode prog_10_method_32_code 3 = .ok (.invokevirtual 160, 3) := by decide +kernel
theorem d_Md_compare_6 : decode prog_10_method_32_code 6 = .ok (.ifCond .ne 13, 3) := by decide +kernel
theorem d_Md_compare_9 : decode prog_10_method_32_code 9 = .ok (.aload_n 0, 1) := by decide +kernel
theorem d_Md_compare_10 : decode prog_10_method_32_code 10 = .ok (.iload_n 3, 1) := by decide +kernel
theorem d_Md_compare_11 : decode prog_10_method_32_code 11 = .ok (.iload 4, 2) := by decide +kernel
theorem d_Md_compare_13 : decode prog_10_method_32_code 13 = .ok (.invokevirtual 160, 3) := by decide +kernel
theorem d_Md_compare_16 : decode prog_10_method_32_code 16 = .ok (.ifCond .eq 6, 3) := by decide +kernel
theorem d_Md_compare_19 : decode prog_10_method_32_code 19 = .ok (.bipush (-9), 2) := by decide +kernel
theorem d_Md_compare_21 : decode prog_10_method_32_code 21 = .ok (.ireturn, 1) := by decide +kernel
theorem d_Md_compare_22 : decode prog_10_method_32_code 22 = .ok (.bipush 6, 2) := by decide +kernel
theorem d_Md_compare_24 : decode prog_10_method_32_code 24 = .ok (.iconst 4, 1) := by decide +kernel
theorem d_Md_compare_25 : decode prog_10_method_32_code 25 = .ok (.iload_n 3, 1) := by decide +kernel
theorem d_Md_compare_26 : decode prog_10_method_32_code 26 = .ok (.imul, 1) := by decide +kernel
theorem d_Md_compare_27 : decode prog_10_method_32_code 27 = .ok (.iadd, 1) := by decide +kernel
theorem d_Md_compare_28 : decode prog_10_method_32_code 28 = .ok (.iload 4, 2) := by decide +kernel
theorem d_Md_compare_30 : decode prog_10_method_32_code 30 = .ok (.iadd, 1) := by decide +kernel
theorem d_Md_compare_31 : decode prog_10_method_32_code 31 = .ok (.istore 5, 2) := by decide +kernel
theorem d_Md_compare_33 : decode prog_10_method_32_code 33 = .ok (.aload_n 0, 1) := by decide +kernel
theorem d_Md_compare_34 : decode prog_10_method_32_code 34 = .ok (.bipush 6, 2) := by decide +kernel
theorem d_Md_compare_36 : decode prog_10_method_32_code 36 = .ok (.iconst 4, 1) := by decide +kernel
theorem d_Md_compare_37 : decode prog_10_method_32_code 37 = .ok (.iload_n 1, 1) := by decide +kernel
theorem d_Md_compare_38 : decode prog_10_method_32_code 38 = .ok (.imul, 1) := by decide +kernel
theorem d_Md_compare_39 : decode prog_10_method_32_code 39 = .ok (.iadd, 1) := by decide +kernel
theorem d_Md_compare_40 : decode prog_10_method_32_code 40 = .ok (.iload_n 2, 1) := by decide +kernel
theorem d_Md_compare_41 : decode prog_10_method_32_code 41 = .ok (.iadd, 1) := by decide +kernel
theorem d_Md_compare_42 : decode prog_10_method_32_code 42 = .ok (.iload 5, 2) := by decide +kernel
theorem d_Md_compare_44 : decode prog_10_method_32_code 44 = .ok (.invokevirtual 170, 3) := by decide +kernel
theorem d_Md_compare_47 : decode prog_10_method_32_code 47 = .ok (.ireturn, 1) := by decide +kernel
theorem d_Md_compareTexts_0 : decode prog_10_method_33_code 0 = .ok (.aload_n 0, 1) := by decide +kernel
theorem d_Md_compareTexts_1 : decode prog_10_method_33_code 1 = .ok (.iload_n 1, 1) := by decide +kernel
theorem d_Md_compareTexts_2 : decode prog_10_method_33_code 2 = .ok (.iload_n 2, 1) := by decide +kernel
theorem d_Md_compareTexts_3 : decode prog_10_method_33_code 3 = .ok (.iconst 0, 1) := by decide +kernel
theorem d_Md_compareTexts_4 : decode prog_10_method_33_code 4 = .ok (.aload_n 0, 1) := by decide +kernel
theorem d_Md_compareTexts_5 : decode prog_10_method_33_code 5 = .ok (.getfield 13, 3) := by decide +kernel
theorem d_Md_compareTexts_8 : decode prog_10_method_33_code 8 = .ok (.iload_n 2, 1) := by decide +kernel
theorem d_Md_compareTexts_9 : decode prog_10_method_33_code 9 = .ok (.iaload, 1) := by decide +kernel
theorem d_Md_compareTexts_10 : decode prog_10_method_33_code 10 = .ok (.invokevirtual 149, 3) := by decide +kernel
theorem d_Md_compareTexts_13 : decode prog_10_method_33_code 13 = .ok (.ireturn, 1) := by decide +kernel
theorem d_Md_rank_0 : decode prog_10_method_34_code 0 = .ok (.aload_n 0, 1) := by decide +kernel
theorem d_Md_rank_1 : decode prog_10_method_34_code 1 = .ok (.iconst 0, 1) := by decide +kernel
theorem d_Md_rank_2 : decode prog_10_method_34_code 2 = .ok (.iconst 0, 1) := by decide +kernel
theorem d_Md_rank_3 : decode prog_10_method_34_code 3 = .ok (.aload_n 0, 1) := by decide +kernel
theorem d_Md_rank_4 : decode prog_10_method_34_code 4 = .ok (.getfield 13, 3) := by decide +kernel
theorem d_Md_rank_7 : decode prog_10_method_34_code 7 = .ok (.iconst 0, 1) := by decide +kernel
theorem d_Md_rank_8 : decode prog_10_method_34_code 8 = .ok (.iaload, 1) := by decide +kernel
theorem d_Md_rank_9 : decode prog_10_method_34_code 9 = .ok (.invokevirtual 143, 3) := by decide +kernel
theorem d_Md_rank_12 : decode prog_10_method_34_code 12 = .ok (.ifCond .ne 10, 3) := by decide +kernel
theorem d_Md_rank_15 : decode prog_10_method_34_code 15 = .ok (.aload_n 0, 1) := by decide +kernel
theorem d_Md_rank_16 : decode prog_10_method_34_code 16 = .ok (.bipush (-3), 2) := by decide +kernel
theorem d_Md_rank_18 : decode prog_10_method_34_code 18 = .ok (.invokevirtual 153, 3) := by decide +kernel
theorem d_Md_rank_21 : decode prog_10_method_34_code 21 = .ok (.ireturn, 1) := by decide +kernel
theorem d_Md_rank_22 : decode prog_10_method_34_code 22 = .ok (.iconst 0, 1) := by decide +kernel
theorem d_Md_rank_23 : decode prog_10_method_34_code 23 = .ok (.istore_n 2, 1) := by decide +kernel
theorem d_Md_rank_24 : decode prog_10_method_34_code 24 = .ok (.iconst 1, 1) := by decide +kernel
theorem d_Md_rank_25 : decode prog_10_method_34_code 25 = .ok (.istore_n 3, 1) := by decide +kernel
theorem d_Md_rank_26 : decode prog_10_method_34_code 26 = .ok (.iconst 0, 1) := by decide +kernel
theorem d_Md_rank_27 : decode prog_10_method_34_code 27 = .ok (.istore 4, 2) := by decide +kernel
theorem d_Md_rank_29 : decode prog_10_method_34_code 29 = .ok (.iload 4, 2) := by decide +kernel
theorem d_Md_rank_31 : decode prog_10_method_34_code 31 = .ok (.bipush 12, 2) := by decide +kernel
theorem d_Md_rank_33 : decode prog_10_method_34_code 33 = .ok (.if_icmp .gt 46, 3) := by decide +kernel
theorem d_Md_rank_36 : decode prog_10_method_34_code 36 = .ok (.iload 4, 2) := by decide +kernel
theorem d_Md_rank_38 : decode prog_10_method_34_code 38 = .ok (.iload_n 1, 1) := by decide +kernel
theorem d_Md_rank_39 : decode prog_10_method_34_code 39 = .ok (.if_icmp .gt 40, 3) := by decide +kernel
theorem d_Md_rank_42 : decode prog_10_method_34_code 42 = .ok (.aload_n 0, 1) := by decide +kernel
theorem d_Md_rank_43 : decode prog_10_method_34_code 43 = .ok (.iconst 0, 1) := by decide +kernel
theorem d_Md_rank_44 : decode prog_10_method_34_code 44 = .ok (.iload_n 2, 1) := by decide +kernel
theorem d_Md_rank_45 : decode prog_10_method_34_code 45 = .ok (.aload_n 0, 1) := by decide +kernel
theorem d_Md_rank_46 : decode prog_10_method_34_code 46 = .ok (.getfield 13, 3) := by decide +kernel
theorem d_Md_rank_49 : decode prog_10_method_34_code 49 = .ok (.iconst 0, 1) := by decide +kernel
theorem d_Md_rank_50 : decode prog_10_method_34_code 50 = .ok (.iaload, 1) := by decide +kernel
theorem d_Md_rank_51 : decode prog_10_method_34_code 51 = .ok (.invokevirtual 129, 3) := by decide +kernel
theorem d_Md_rank_54 : decode prog_10_method_34_code 54 = .ok (.istore_n 3, 1) := by decide +kernel
theorem d_Md_rank_55 : decode prog_10_method_34_code 55 = .ok (.iload_n 3, 1) := by decide +kernel
theorem d_Md_rank_56 : decode prog_10_method_34_code 56 = .ok (.ifCond .eq 10, 3) := by decide +kernel
theorem d_Md_rank_59 : decode prog_10_method_34_code 59 = .ok (.aload_n 0, 1) := by decide +kernel
theorem d_Md_rank_60 : decode prog_10_method_34_code 60 = .ok (.getfield 82, 3) := by decide +kernel
theorem d_Md_rank_63 : decode prog_10_method_34_code 63 = .ok (.goto 9, 3) := by decide +kernel
theorem d_Md_rank_66 : decode prog_10_method_34_code 66 = .ok (.aload_n 0, 1) := by decide +kernel
theorem d_Md_rank_67 : decode prog_10_method_34_code 67 = .ok (.getfield 13, 3) := by decide +kernel
theorem d_Md_rank_70 : decode prog_10_method_34_code 70 = .ok (.iconst 0, 1) := by decide +kernel
theorem d_Md_rank_71 : decode prog_10_method_34_code 71 = .ok (.iaload, 1) := by decide +kernel
theorem d_Md_rank_72 : decode prog_10_method_34_code 72 = .ok (.istore_n 2, 1) := by decide +kernel
theorem d_Md_rank_73 : decode prog_10_method_34_code 73 = .ok (.iinc 4 1, 3) := by decide +kernel
theorem d_Md_rank_76 : decode prog_10_method_34_code 76 = .ok (.goto (-47), 3) := by decide +kernel
theorem d_Md_rank_79 : decode prog_10_method_34_code 79 = .ok (.aload_n 0, 1) := by decide +kernel
theorem d_Md_rank_80 : decode prog_10_method_34_code 80 = .ok (.iload_n 1, 1) := by decide +kernel
theorem d_Md_rank_81 : decode prog_10_method_34_code 81 = .ok (.ifCond .lt 9, 3) := by decide +kernel
theorem d_Md_rank_84 : decode prog_10_method_34_code 84 = .ok (.iload_n 1, 1) := by decide +kernel
theorem d_Md_rank_85 : decode prog_10_method_34_code 85 = .ok (.bipush 12, 2) := by decide +kernel
theorem d_Md_rank_87 : decode prog_10_method_34_code 87 = .ok (.if_icmp .le 8, 3) := by decide +kernel
theorem d_Md_rank_90 : decode prog_10_method_34_code 90 = .ok (.bipush 6, 2) := by decide +kernel
theorem d_Md_rank_92 : decode prog_10_method_34_code 92 = .ok (.goto 9, 3) := by decide +kernel
theorem d_Md_rank_95 : decode prog_10_method_34_code 95 = .ok (.aload_n 0, 1) := by decide +kernel
theorem d_Md_rank_96 : decode prog_10_method_34_code 96 = .ok (.iconst 0, 1) := by decide +kernel
theorem d_Md_rank_97 : decode prog_10_method_34_code 97 = .ok (.iload_n 3, 1) := by decide +kernel
theorem d_Md_rank_98 : decode prog_10_method_34_code 98 = .ok (.invokevirtual 132, 3) := by decide +kernel
theorem d_Md_rank_101 : decode prog_10_method_34_code 101 = .ok (.invokevirtual 153, 3) := by decide +kernel
theorem d_Md_rank_104 : decode prog_10_method_34_code 104 = .ok (.ireturn, 1) := by decide +kernel
theorem d_Md_within_0 : decode prog_10_method_35_code 0 = .ok (.aload_n 0, 1) := by decide +kernel
theorem d_Md_within_1 : decode prog_10_method_35_code 1 = .ok (.iload_n 1, 1) := by decide +kernel
theorem d_Md_within_2 : decode prog_10_method_35_code 2 = .ok (.iload_n 2, 1) := by decide +kernel
theorem d_Md_within_3 : decode prog_10_method_35_code 3 = .ok (.invokevirtual 160, 3) := by decide +kernel
theorem d_Md_within_6 : decode prog_10_method_35_code 6 = .ok (.ifCond .eq 5, 3) := by decide +kernel
theorem d_Md_within_9 : decode prog_10_method_35_code 9 = .ok (.iconst (-1), 1) := by decide +kernel
theorem d_Md_within_10 : decode prog_10_method_35_code 10 = .ok (.ireturn, 1) := by decide +kernel
theorem d_Md_within_11 : decode prog_10_method_35_code 11 = .ok (.aload_n 0, 1) := by decide +kernel
theorem d_Md_within_12 : decode prog_10_method_35_code 12 = .ok (.iconst 0, 1) := by decide +kernel
theorem d_Md_within_13 : decode prog_10_method_35_code 13 = .ok (.invokevirtual 164, 3) := by decide +kernel
theorem d_Md_within_16 : decode prog_10_method_35_code 16 = .ok (.ifCond .ne 10, 3) := by decide +kernel
theorem d_Md_within_19 : decode prog_10_method_35_code 19 = .ok (.aload_n 0, 1) := by decide +kernel
theorem d_Md_within_20 : decode prog_10_method_35_code 20 = .ok (.bipush (-3), 2) := by decide +kernel
theorem d_Md_within_22 : decode prog_10_method_35_code 22 = .ok (.invokevirtual 153, 3) := by decide +kernel
theorem d_Md_within_25 : decode prog_10_method_35_code 25 = .ok (.ireturn, 1) := by decide +kernel
theorem d_Md_within_26 : decode prog_10_method_35_code 26 = .ok (.aload_n 0, 1) := by decide +kernel
theorem d_Md_within_27 : decode prog_10_method_35_code 27 = .ok (.aload_n 0, 1) := by decide +kernel
theorem d_Md_within_28 : decode prog_10_method_35_code 28 = .ok (.bipush 6, 2) := by decide +kernel
theorem d_Md_within_30 : decode prog_10_method_35_code 30 = .ok (.iconst 4, 1) := by decide +kernel
theorem d_Md_within_31 : decode prog_10_method_35_code 31 = .ok (.iload_n 1, 1) := by decide +kernel
theorem d_Md_within_32 : decode prog_10_method_35_code 32 = .ok (.imul, 1) := by decide +kernel
theorem d_Md_within_33 : decode prog_10_method_35_code 33 = .ok (.iadd, 1) := by decide +kernel
theorem d_Md_within_34 : decode prog_10_method_35_code 34 = .ok (.iload_n 2, 1) := by decide +kernel
theorem d_Md_within_35 : decode prog_10_method_35_code 35 = .ok (.iadd, 1) := by decide +kernel
theorem d_Md_within_36 : decode prog_10_method_35_code 36 = .ok (.iconst 0, 1) := by decide +kernel
theorem d_Md_within_37 : decode prog_10_method_35_code 37 = .ok (.invokevirtual 173, 3) := by decide +kernel
theorem d_Md_within_40 : decode prog_10_method_35_code 40 = .ok (.ifCond .eq 7, 3) := by decide +kernel
theorem d_Md_within_43 : decode prog_10_method_35_code 43 = .ok (.iconst 1, 1) := by decide +kernel
theorem d_Md_within_44 : decode prog_10_method_35_code 44 = .ok (.goto 4, 3) := by decide +kernel
theorem d_Md_within_47 : decode prog_10_method_35_code 47 = .ok (.iconst 0, 1) := by decide +kernel
theorem d_Md_within_48 : decode prog_10_method_35_code 48 = .ok (.invokevirtual 153, 3) := by decide +kernel
theorem d_Md_within_51 : decode prog_10_method_35_code 51 = .ok (.ireturn, 1) := by decide +kernel
theorem d_Md_inside_0 : decode prog_10_method_22_code 0 = .ok (.aload_n 0, 1) := by decide +kernel
theorem d_Md_inside_1 : decode prog_10_method_22_code 1 = .ok (.getfield 13, 3) := by decide +kernel
theorem d_Md_inside_4 : decode prog_10_method_22_code 4 = .ok (.iload_n 2, 1) := by decide +kernel
theorem d_Md_inside_5 : decode prog_10_method_22_code 5 = .ok (.iaload, 1) := by decide +kernel
theorem d_Md_inside_6 : decode prog_10_method_22_code 6 = .ok (.istore_n 3, 1) := by decide +kernel
theorem d_Md_inside_7 : decode prog_10_method_22_code 7 = .ok (.aload_n 0, 1) := by decide +kernel
theorem d_Md_inside_8 : decode prog_10_method_22_code 8 = .ok (.iload_n 2, 1) := by decide +kernel
theorem d_Md_inside_9 : decode prog_10_method_22_code 9 = .ok (.iconst 0, 1) := by decide +kernel
theorem d_Md_inside_10 : decode prog_10_method_22_code 10 = .ok (.invokevirtual 74, 3) := by decide +kernel
theorem d_Md_inside_13 : decode prog_10_method_22_code 13 = .ok (.istore 4, 2) := by decide +kernel
theorem d_Md_inside_15 : decode prog_10_method_22_code 15 = .ok (.aload_n 0, 1) := by decide +kernel
theorem d_Md_inside_16 : decode prog_10_method_22_code 16 = .ok (.iload_n 2, 1) := by decide +kernel
theorem d_Md_inside_17 : decode prog_10_method_22_code 17 = .ok (.invokevirtual 146, 3) := by decide +kernel
theorem d_Md_inside_20 : decode prog_10_method_22_code 20 = .ok (.istore 5, 2) := by decide +kernel
theorem d_Md_inside_22 : decode prog_10_method_22_code 22 = .ok (.iload 4, 2) := by decide +kernel
theorem d_Md_inside_24 : decode prog_10_method_22_code 24 = .ok (.bipush 91, 2) := by decide +kernel
theorem d_Md_inside_26 : decode prog_10_method_22_code 26 = .ok (.if_icmp .eq 27, 3) := by decide +kernel
theorem d_Md_inside_29 : decode prog_10_method_22_code 29 = .ok (.iload 4, 2) := by decide +kernel
theorem d_Md_inside_31 : decode prog_10_method_22_code 31 = .ok (.bipush 40, 2) := by decide +kernel
theorem d_Md_inside_33 : decode prog_10_method_22_code 33 = .ok (.if_icmp .eq 20, 3) := by decide +kernel
theorem d_Md_inside_36 : decode prog_10_method_22_code 36 = .ok (.aload_n 0, 1) := by decide +kernel
theorem d_Md_inside_37 : decode prog_10_method_22_code 37 = .ok (.iload_n 1, 1) := by decide +kernel
theorem d_Md_inside_38 : decode prog_10_method_22_code 38 = .ok (.iload_n 2, 1) := by decide +kernel
theorem d_Md_inside_39 : decode prog_10_method_22_code 39 = .ok (.iconst 0, 1) := by decide +kernel
theorem d_Md_inside_40 : decode prog_10_method_22_code 40 = .ok (.iload_n 3, 1) := by decide +kernel
theorem d_Md_inside_41 : decode prog_10_method_22_code 41 = .ok (.invokevirtual 149, 3) := by decide +kernel
theorem d_Md_inside_44 : decode prog_10_method_22_code 44 = .ok (.ifCond .lt 7, 3) := by decide +kernel
theorem d_Md_inside_47 : decode prog_10_method_22_code 47 = .ok (.iconst 1, 1) := by decide +kernel
theorem d_Md_inside_48 : decode prog_10_method_22_code 48 = .ok (.goto 4, 3) := by decide +kernel
theorem d_Md_inside_51 : decode prog_10_method_22_code 51 = .ok (.iconst 0, 1) := by decide +kernel
theorem d_Md_inside_52 : decode prog_10_method_22_code 52 = .ok (.ireturn, 1) := by decide +kernel
theorem d_Md_inside_53 : decode prog_10_method_22_code 53 = .ok (.iload 5, 2) := by decide +kernel
theorem d_Md_inside_55 : decode prog_10_method_22_code 55 = .ok (.ifCond .ge 22, 3) := by decide +kernel
theorem d_Md_inside_58 : decode prog_10_method_22_code 58 = .ok (.aload_n 0, 1) := by decide +kernel
theorem d_Md_inside_59 : decode prog_10_method_22_code 59 = .ok (.iload_n 1, 1) := by decide +kernel
theorem d_Md_inside_60 : decode prog_10_method_22_code 60 = .ok (.iload_n 2, 1) := by decide +kernel
theorem d_Md_inside_61 : decode prog_10_method_22_code 61 = .ok (.iconst 1, 1) := by decide +kernel
theorem d_Md_inside_62 : decode prog_10_method_22_code 62 = .ok (.iload_n 3, 1) := by decide +kernel
theorem d_Md_inside_63 : decode prog_10_method_22_code 63 = .ok (.iconst 1, 1) := by decide +kernel
theorem d_Md_inside_64 : decode prog_10_method_22_code 64 = .ok (.isub, 1) := by decide +kernel
theorem d_Md_inside_65 : decode prog_10_method_22_code 65 = .ok (.invokevirtual 149, 3) := by decide +kernel
theorem d_Md_inside_68 : decode prog_10_method_22_code 68 = .ok (.ifCond .ne 7, 3) := by decide +kernel
end
section
theorem d_Md_inside_71 : decode prog_10_method_22_code 71 = .ok (.iconst 1, 1) := by decide +kernel
theorem d_Md_inside_72 : decode prog_10_method_22_code 72 = .ok (.goto 4, 3) := by decide +kernel
theorem d_Md_inside_75 : decode prog_10_method_22_code 75 = .ok (.iconst 0, 1) := by decide +kernel
theorem d_Md_inside_76 : decode prog_10_method_22_code 76 = .ok (.ireturn, 1) := by decide +kernel
theorem d_Md_inside_77 : decode prog_10_method_22_code 77 = .ok (.iload 5, 2) := by decide +kernel
theorem d_Md_inside_79 : decode prog_10_method_22_code 79 = .ok (.iconst 1, 1) := by decide +kernel
theorem d_Md_inside_80 : decode prog_10_method_22_code 80 = .ok (.if_icmp .ne 7, 3) := by decide +kernel
theorem d_Md_inside_83 : decode prog_10_method_22_code 83 = .ok (.iconst 1, 1) := by decide +kernel
theorem d_Md_inside_84 : decode prog_10_method_22_code 84 = .ok (.goto 12, 3) := by decide +kernel
theorem d_Md_inside_87 : decode prog_10_method_22_code 87 = .ok (.aload_n 0, 1) := by decide +kernel
theorem d_Md_inside_88 : decode prog_10_method_22_code 88 = .ok (.iload_n 1, 1) := by decide +kernel
theorem d_Md_inside_89 : decode prog_10_method_22_code 89 = .ok (.iload_n 2, 1) := by decide +kernel
theorem d_Md_inside_90 : decode prog_10_method_22_code 90 = .ok (.iconst 1, 1) := by decide +kernel
theorem d_Md_inside_91 : decode prog_10_method_22_code 91 = .ok (.iload 5, 2) := by decide +kernel
theorem d_Md_inside_93 : decode prog_10_method_22_code 93 = .ok (.invokevirtual 149, 3) := by decide +kernel
theorem d_Md_inside_96 : decode prog_10_method_22_code 96 = .ok (.istore 6, 2) := by decide +kernel
theorem d_Md_inside_98 : decode prog_10_method_22_code 98 = .ok (.iload 5, 2) := by decide +kernel
theorem d_Md_inside_100 : decode prog_10_method_22_code 100 = .ok (.iload_n 3, 1) := by decide +kernel
theorem d_Md_inside_101 : decode prog_10_method_22_code 101 = .ok (.iconst 2, 1) := by decide +kernel
theorem d_Md_inside_102 : decode prog_10_method_22_code 102 = .ok (.isub, 1) := by decide +kernel
theorem d_Md_inside_103 : decode prog_10_method_22_code 103 = .ok (.if_icmp .ne 7, 3) := by decide +kernel
theorem d_Md_inside_106 : decode prog_10_method_22_code 106 = .ok (.iconst (-1), 1) := by decide +kernel
theorem d_Md_inside_107 : decode prog_10_method_22_code 107 = .ok (.goto 16, 3) := by decide +kernel
theorem d_Md_inside_110 : decode prog_10_method_22_code 110 = .ok (.aload_n 0, 1) := by decide +kernel
theorem d_Md_inside_111 : decode prog_10_method_22_code 111 = .ok (.iload_n 1, 1) := by decide +kernel
theorem d_Md_inside_112 : decode prog_10_method_22_code 112 = .ok (.iload_n 2, 1) := by decide +kernel
theorem d_Md_inside_113 : decode prog_10_method_22_code 113 = .ok (.iload 5, 2) := by decide +kernel
theorem d_Md_inside_115 : decode prog_10_method_22_code 115 = .ok (.iconst 1, 1) := by decide +kernel
theorem d_Md_inside_116 : decode prog_10_method_22_code 116 = .ok (.iadd, 1) := by decide +kernel
theorem d_Md_inside_117 : decode prog_10_method_22_code 117 = .ok (.iload_n 3, 1) := by decide +kernel
theorem d_Md_inside_118 : decode prog_10_method_22_code 118 = .ok (.iconst 1, 1) := by decide +kernel
theorem d_Md_inside_119 : decode prog_10_method_22_code 119 = .ok (.isub, 1) := by decide +kernel
theorem d_Md_inside_120 : decode prog_10_method_22_code 120 = .ok (.invokevirtual 149, 3) := by decide +kernel
theorem d_Md_inside_123 : decode prog_10_method_22_code 123 = .ok (.istore 7, 2) := by decide +kernel
theorem d_Md_inside_125 : decode prog_10_method_22_code 125 = .ok (.iload 6, 2) := by decide +kernel
theorem d_Md_inside_127 : decode prog_10_method_22_code 127 = .ok (.iload 4, 2) := by decide +kernel
theorem d_Md_inside_129 : decode prog_10_method_22_code 129 = .ok (.bipush 40, 2) := by decide +kernel
theorem d_Md_inside_131 : decode prog_10_method_22_code 131 = .ok (.if_icmp .ne 7, 3) := by decide +kernel
theorem d_Md_inside_134 : decode prog_10_method_22_code 134 = .ok (.iconst 1, 1) := by decide +kernel
theorem d_Md_inside_135 : decode prog_10_method_22_code 135 = .ok (.goto 4, 3) := by decide +kernel
theorem d_Md_inside_138 : decode prog_10_method_22_code 138 = .ok (.iconst 0, 1) := by decide +kernel
theorem d_Md_inside_139 : decode prog_10_method_22_code 139 = .ok (.if_icmp .lt 30, 3) := by decide +kernel
theorem d_Md_inside_142 : decode prog_10_method_22_code 142 = .ok (.iload 7, 2) := by decide +kernel
theorem d_Md_inside_144 : decode prog_10_method_22_code 144 = .ok (.aload_n 0, 1) := by decide +kernel
theorem d_Md_inside_145 : decode prog_10_method_22_code 145 = .ok (.iload_n 2, 1) := by decide +kernel
theorem d_Md_inside_146 : decode prog_10_method_22_code 146 = .ok (.iload_n 3, 1) := by decide +kernel
theorem d_Md_inside_147 : decode prog_10_method_22_code 147 = .ok (.iconst 1, 1) := by decide +kernel
theorem d_Md_inside_148 : decode prog_10_method_22_code 148 = .ok (.isub, 1) := by decide +kernel
theorem d_Md_inside_149 : decode prog_10_method_22_code 149 = .ok (.invokevirtual 74, 3) := by decide +kernel
theorem d_Md_inside_152 : decode prog_10_method_22_code 152 = .ok (.bipush 41, 2) := by decide +kernel
theorem d_Md_inside_154 : decode prog_10_method_22_code 154 = .ok (.if_icmp .ne 7, 3) := by decide +kernel
theorem d_Md_inside_157 : decode prog_10_method_22_code 157 = .ok (.iconst (-1), 1) := by decide +kernel
theorem d_Md_inside_158 : decode prog_10_method_22_code 158 = .ok (.goto 4, 3) := by decide +kernel
theorem d_Md_inside_161 : decode prog_10_method_22_code 161 = .ok (.iconst 0, 1) := by decide +kernel
theorem d_Md_inside_162 : decode prog_10_method_22_code 162 = .ok (.if_icmp .gt 7, 3) := by decide +kernel
theorem d_Md_inside_165 : decode prog_10_method_22_code 165 = .ok (.iconst 1, 1) := by decide +kernel
theorem d_Md_inside_166 : decode prog_10_method_22_code 166 = .ok (.goto 4, 3) := by decide +kernel
theorem d_Md_inside_169 : decode prog_10_method_22_code 169 = .ok (.iconst 0, 1) := by decide +kernel
theorem d_Md_inside_170 : decode prog_10_method_22_code 170 = .ok (.ireturn, 1) := by decide +kernel
theorem d_Md_solve_0 : decode prog_10_method_44_code 0 = .ok (.iconst 0, 1) := by decide +kernel
theorem d_Md_solve_1 : decode prog_10_method_44_code 1 = .ok (.istore_n 1, 1) := by decide +kernel
theorem d_Md_solve_2 : decode prog_10_method_44_code 2 = .ok (.iload_n 1, 1) := by decide +kernel
theorem d_Md_solve_3 : decode prog_10_method_44_code 3 = .ok (.iconst 4, 1) := by decide +kernel
theorem d_Md_solve_4 : decode prog_10_method_44_code 4 = .ok (.if_icmp .ge 16, 3) := by decide +kernel
theorem d_Md_solve_7 : decode prog_10_method_44_code 7 = .ok (.aload_n 0, 1) := by decide +kernel
theorem d_Md_solve_8 : decode prog_10_method_44_code 8 = .ok (.getfield 38, 3) := by decide +kernel
theorem d_Md_solve_11 : decode prog_10_method_44_code 11 = .ok (.iload_n 1, 1) := by decide +kernel
theorem d_Md_solve_12 : decode prog_10_method_44_code 12 = .ok (.iconst 1, 1) := by decide +kernel
theorem d_Md_solve_13 : decode prog_10_method_44_code 13 = .ok (.bastore, 1) := by decide +kernel
theorem d_Md_solve_14 : decode prog_10_method_44_code 14 = .ok (.iinc 1 1, 3) := by decide +kernel
theorem d_Md_solve_17 : decode prog_10_method_44_code 17 = .ok (.goto (-15), 3) := by decide +kernel
theorem d_Md_solve_20 : decode prog_10_method_44_code 20 = .ok (.aload_n 0, 1) := by decide +kernel
theorem d_Md_solve_21 : decode prog_10_method_44_code 21 = .ok (.invokevirtual 195, 3) := by decide +kernel
theorem d_Md_solve_24 : decode prog_10_method_44_code 24 = .ok (.istore_n 1, 1) := by decide +kernel
theorem d_Md_solve_25 : decode prog_10_method_44_code 25 = .ok (.aload_n 0, 1) := by decide +kernel
theorem d_Md_solve_26 : decode prog_10_method_44_code 26 = .ok (.iload_n 1, 1) := by decide +kernel
theorem d_Md_solve_27 : decode prog_10_method_44_code 27 = .ok (.putfield 198, 3) := by decide +kernel
theorem d_Md_solve_30 : decode prog_10_method_44_code 30 = .ok (.aload_n 0, 1) := by decide +kernel
theorem d_Md_solve_31 : decode prog_10_method_44_code 31 = .ok (.iload_n 1, 1) := by decide +kernel
theorem d_Md_solve_32 : decode prog_10_method_44_code 32 = .ok (.ifCond .ne 7, 3) := by decide +kernel
theorem d_Md_solve_35 : decode prog_10_method_44_code 35 = .ok (.iconst 1, 1) := by decide +kernel
theorem d_Md_solve_36 : decode prog_10_method_44_code 36 = .ok (.goto 4, 3) := by decide +kernel
theorem d_Md_solve_39 : decode prog_10_method_44_code 39 = .ok (.iconst 0, 1) := by decide +kernel
theorem d_Md_solve_40 : decode prog_10_method_44_code 40 = .ok (.putfield 202, 3) := by decide +kernel
theorem d_Md_solve_43 : decode prog_10_method_44_code 43 = .ok (.iconst 0, 1) := by decide +kernel
theorem d_Md_solve_44 : decode prog_10_method_44_code 44 = .ok (.istore_n 2, 1) := by decide +kernel
theorem d_Md_solve_45 : decode prog_10_method_44_code 45 = .ok (.iconst 0, 1) := by decide +kernel
theorem d_Md_solve_46 : decode prog_10_method_44_code 46 = .ok (.istore_n 3, 1) := by decide +kernel
theorem d_Md_solve_47 : decode prog_10_method_44_code 47 = .ok (.iload_n 3, 1) := by decide +kernel
theorem d_Md_solve_48 : decode prog_10_method_44_code 48 = .ok (.bipush 6, 2) := by decide +kernel
theorem d_Md_solve_50 : decode prog_10_method_44_code 50 = .ok (.if_icmp .ge 33, 3) := by decide +kernel
theorem d_Md_solve_53 : decode prog_10_method_44_code 53 = .ok (.aload_n 0, 1) := by decide +kernel
theorem d_Md_solve_54 : decode prog_10_method_44_code 54 = .ok (.getfield 44, 3) := by decide +kernel
theorem d_Md_solve_57 : decode prog_10_method_44_code 57 = .ok (.iload_n 3, 1) := by decide +kernel
theorem d_Md_solve_58 : decode prog_10_method_44_code 58 = .ok (.aload_n 0, 1) := by decide +kernel
theorem d_Md_solve_59 : decode prog_10_method_44_code 59 = .ok (.getfield 41, 3) := by decide +kernel
theorem d_Md_solve_62 : decode prog_10_method_44_code 62 = .ok (.iload_n 3, 1) := by decide +kernel
theorem d_Md_solve_63 : decode prog_10_method_44_code 63 = .ok (.iaload, 1) := by decide +kernel
theorem d_Md_solve_64 : decode prog_10_method_44_code 64 = .ok (.iastore, 1) := by decide +kernel
theorem d_Md_solve_65 : decode prog_10_method_44_code 65 = .ok (.aload_n 0, 1) := by decide +kernel
theorem d_Md_solve_66 : decode prog_10_method_44_code 66 = .ok (.getfield 41, 3) := by decide +kernel
theorem d_Md_solve_69 : decode prog_10_method_44_code 69 = .ok (.iload_n 3, 1) := by decide +kernel
theorem d_Md_solve_70 : decode prog_10_method_44_code 70 = .ok (.iaload, 1) := by decide +kernel
theorem d_Md_solve_71 : decode prog_10_method_44_code 71 = .ok (.ifCond .lt 6, 3) := by decide +kernel
theorem d_Md_solve_74 : decode prog_10_method_44_code 74 = .ok (.iinc 2 1, 3) := by decide +kernel
theorem d_Md_solve_77 : decode prog_10_method_44_code 77 = .ok (.iinc 3 1, 3) := by decide +kernel
theorem d_Md_solve_80 : decode prog_10_method_44_code 80 = .ok (.goto (-33), 3) := by decide +kernel
theorem d_Md_solve_83 : decode prog_10_method_44_code 83 = .ok (.aload_n 0, 1) := by decide +kernel
theorem d_Md_solve_84 : decode prog_10_method_44_code 84 = .ok (.getfield 202, 3) := by decide +kernel
theorem d_Md_solve_87 : decode prog_10_method_44_code 87 = .ok (.ifCond .eq 7, 3) := by decide +kernel
theorem d_Md_solve_90 : decode prog_10_method_44_code 90 = .ok (.aload_n 0, 1) := by decide +kernel
theorem d_Md_solve_91 : decode prog_10_method_44_code 91 = .ok (.invokevirtual 205, 3) := by decide +kernel
theorem d_Md_solve_94 : decode prog_10_method_44_code 94 = .ok (.iload_n 1, 1) := by decide +kernel
theorem d_Md_solve_95 : decode prog_10_method_44_code 95 = .ok (.ifCond .eq 7, 3) := by decide +kernel
theorem d_Md_solve_98 : decode prog_10_method_44_code 98 = .ok (.iload_n 2, 1) := by decide +kernel
theorem d_Md_solve_99 : decode prog_10_method_44_code 99 = .ok (.goto 5, 3) := by decide +kernel
theorem d_Md_solve_102 : decode prog_10_method_44_code 102 = .ok (.bipush (-4), 2) := by decide +kernel
theorem d_Md_solve_104 : decode prog_10_method_44_code 104 = .ok (.ireturn, 1) := by decide +kernel
theorem d_Md_search_0 : decode prog_10_method_42_code 0 = .ok (.iconst 0, 1) := by decide +kernel
theorem d_Md_search_1 : decode prog_10_method_42_code 1 = .ok (.istore_n 1, 1) := by decide +kernel
theorem d_Md_search_2 : decode prog_10_method_42_code 2 = .ok (.iload_n 1, 1) := by decide +kernel
theorem d_Md_search_3 : decode prog_10_method_42_code 3 = .ok (.bipush 30, 2) := by decide +kernel
theorem d_Md_search_5 : decode prog_10_method_42_code 5 = .ok (.if_icmp .ge 36, 3) := by decide +kernel
theorem d_Md_search_8 : decode prog_10_method_42_code 8 = .ok (.aload_n 0, 1) := by decide +kernel
theorem d_Md_search_9 : decode prog_10_method_42_code 9 = .ok (.getfield 53, 3) := by decide +kernel
theorem d_Md_search_12 : decode prog_10_method_42_code 12 = .ok (.iload_n 1, 1) := by decide +kernel
theorem d_Md_search_13 : decode prog_10_method_42_code 13 = .ok (.iload_n 1, 1) := by decide +kernel
theorem d_Md_search_14 : decode prog_10_method_42_code 14 = .ok (.iconst 5, 1) := by decide +kernel
theorem d_Md_search_15 : decode prog_10_method_42_code 15 = .ok (.irem, 1) := by decide +kernel
theorem d_Md_search_16 : decode prog_10_method_42_code 16 = .ok (.iconst 4, 1) := by decide +kernel
theorem d_Md_search_17 : decode prog_10_method_42_code 17 = .ok (.if_icmp .ne 7, 3) := by decide +kernel
theorem d_Md_search_20 : decode prog_10_method_42_code 20 = .ok (.iconst (-1), 1) := by decide +kernel
theorem d_Md_search_21 : decode prog_10_method_42_code 21 = .ok (.goto 13, 3) := by decide +kernel
theorem d_Md_search_24 : decode prog_10_method_42_code 24 = .ok (.aload_n 0, 1) := by decide +kernel
theorem d_Md_search_25 : decode prog_10_method_42_code 25 = .ok (.iload_n 1, 1) := by decide +kernel
theorem d_Md_search_26 : decode prog_10_method_42_code 26 = .ok (.iconst 5, 1) := by decide +kernel
theorem d_Md_search_27 : decode prog_10_method_42_code 27 = .ok (.idiv, 1) := by decide +kernel
theorem d_Md_search_28 : decode prog_10_method_42_code 28 = .ok (.iload_n 1, 1) := by decide +kernel
theorem d_Md_search_29 : decode prog_10_method_42_code 29 = .ok (.iconst 5, 1) := by decide +kernel
theorem d_Md_search_30 : decode prog_10_method_42_code 30 = .ok (.irem, 1) := by decide +kernel
theorem d_Md_search_31 : decode prog_10_method_42_code 31 = .ok (.invokevirtual 189, 3) := by decide +kernel
theorem d_Md_search_34 : decode prog_10_method_42_code 34 = .ok (.iastore, 1) := by decide +kernel
theorem d_Md_search_35 : decode prog_10_method_42_code 35 = .ok (.iinc 1 1, 3) := by decide +kernel
theorem d_Md_search_38 : decode prog_10_method_42_code 38 = .ok (.goto (-36), 3) := by decide +kernel
theorem d_Md_search_41 : decode prog_10_method_42_code 41 = .ok (.iconst 0, 1) := by decide +kernel
theorem d_Md_search_42 : decode prog_10_method_42_code 42 = .ok (.istore_n 1, 1) := by decide +kernel
theorem d_Md_search_43 : decode prog_10_method_42_code 43 = .ok (.iload_n 1, 1) := by decide +kernel
theorem d_Md_search_44 : decode prog_10_method_42_code 44 = .ok (.sipush 15625, 3) := by decide +kernel
theorem d_Md_search_47 : decode prog_10_method_42_code 47 = .ok (.if_icmp .ge 86, 3) := by decide +kernel
theorem d_Md_search_50 : decode prog_10_method_42_code 50 = .ok (.iload_n 1, 1) := by decide +kernel
theorem d_Md_search_51 : decode prog_10_method_42_code 51 = .ok (.istore_n 2, 1) := by decide +kernel
theorem d_Md_search_52 : decode prog_10_method_42_code 52 = .ok (.iconst 1, 1) := by decide +kernel
theorem d_Md_search_53 : decode prog_10_method_42_code 53 = .ok (.istore_n 3, 1) := by decide +kernel
theorem d_Md_search_54 : decode prog_10_method_42_code 54 = .ok (.iconst 5, 1) := by decide +kernel
theorem d_Md_search_55 : decode prog_10_method_42_code 55 = .ok (.istore 4, 2) := by decide +kernel
theorem d_Md_search_57 : decode prog_10_method_42_code 57 = .ok (.iload 4, 2) := by decide +kernel
theorem d_Md_search_59 : decode prog_10_method_42_code 59 = .ok (.ifCond .lt 55, 3) := by decide +kernel
theorem d_Md_search_62 : decode prog_10_method_42_code 62 = .ok (.iload_n 2, 1) := by decide +kernel
theorem d_Md_search_63 : decode prog_10_method_42_code 63 = .ok (.iconst 5, 1) := by decide +kernel
theorem d_Md_search_64 : decode prog_10_method_42_code 64 = .ok (.irem, 1) := by decide +kernel
theorem d_Md_search_65 : decode prog_10_method_42_code 65 = .ok (.istore 5, 2) := by decide +kernel
theorem d_Md_search_67 : decode prog_10_method_42_code 67 = .ok (.iload_n 2, 1) := by decide +kernel
theorem d_Md_search_68 : decode prog_10_method_42_code 68 = .ok (.iconst 5, 1) := by decide +kernel
theorem d_Md_search_69 : decode prog_10_method_42_code 69 = .ok (.idiv, 1) := by decide +kernel
theorem d_Md_search_70 : decode prog_10_method_42_code 70 = .ok (.istore_n 2, 1) := by decide +kernel
theorem d_Md_search_71 : decode prog_10_method_42_code 71 = .ok (.aload_n 0, 1) := by decide +kernel
theorem d_Md_search_72 : decode prog_10_method_42_code 72 = .ok (.getfield 41, 3) := by decide +kernel
theorem d_Md_search_75 : decode prog_10_method_42_code 75 = .ok (.iload 4, 2) := by decide +kernel
theorem d_Md_search_77 : decode prog_10_method_42_code 77 = .ok (.aload_n 0, 1) := by decide +kernel
theorem d_Md_search_78 : decode prog_10_method_42_code 78 = .ok (.getfield 53, 3) := by decide +kernel
theorem d_Md_search_81 : decode prog_10_method_42_code 81 = .ok (.iconst 5, 1) := by decide +kernel
theorem d_Md_search_82 : decode prog_10_method_42_code 82 = .ok (.iload 4, 2) := by decide +kernel
theorem d_Md_search_84 : decode prog_10_method_42_code 84 = .ok (.imul, 1) := by decide +kernel
theorem d_Md_search_85 : decode prog_10_method_42_code 85 = .ok (.iload 5, 2) := by decide +kernel
theorem d_Md_search_87 : decode prog_10_method_42_code 87 = .ok (.iadd, 1) := by decide +kernel
theorem d_Md_search_88 : decode prog_10_method_42_code 88 = .ok (.iaload, 1) := by decide +kernel
theorem d_Md_search_89 : decode prog_10_method_42_code 89 = .ok (.iastore, 1) := by decide +kernel
theorem d_Md_search_90 : decode prog_10_method_42_code 90 = .ok (.iload 5, 2) := by decide +kernel
theorem d_Md_search_92 : decode prog_10_method_42_code 92 = .ok (.iconst 4, 1) := by decide +kernel
theorem d_Md_search_93 : decode prog_10_method_42_code 93 = .ok (.if_icmp .ge 15, 3) := by decide +kernel
theorem d_Md_search_96 : decode prog_10_method_42_code 96 = .ok (.aload_n 0, 1) := by decide +kernel
theorem d_Md_search_97 : decode prog_10_method_42_code 97 = .ok (.getfield 41, 3) := by decide +kernel
theorem d_Md_search_100 : decode prog_10_method_42_code 100 = .ok (.iload 4, 2) := by decide +kernel
theorem d_Md_search_102 : decode prog_10_method_42_code 102 = .ok (.iaload, 1) := by decide +kernel
theorem d_Md_search_103 : decode prog_10_method_42_code 103 = .ok (.ifCond .ge 5, 3) := by decide +kernel
theorem d_Md_search_106 : decode prog_10_method_42_code 106 = .ok (.iconst 0, 1) := by decide +kernel
theorem d_Md_search_107 : decode prog_10_method_42_code 107 = .ok (.istore_n 3, 1) := by decide +kernel
theorem d_Md_search_108 : decode prog_10_method_42_code 108 = .ok (.iinc 4 (-1), 3) := by decide +kernel
theorem d_Md_search_111 : decode prog_10_method_42_code 111 = .ok (.goto (-54), 3) := by decide +kernel
theorem d_Md_search_114 : decode prog_10_method_42_code 114 = .ok (.iload_n 3, 1) := by decide +kernel
theorem d_Md_search_115 : decode prog_10_method_42_code 115 = .ok (.ifCond .eq 12, 3) := by decide +kernel
theorem d_Md_search_118 : decode prog_10_method_42_code 118 = .ok (.aload_n 0, 1) := by decide +kernel
theorem d_Md_search_119 : decode prog_10_method_42_code 119 = .ok (.invokevirtual 192, 3) := by decide +kernel
theorem d_Md_search_122 : decode prog_10_method_42_code 122 = .ok (.ifCond .eq 5, 3) := by decide +kernel
theorem d_Md_search_125 : decode prog_10_method_42_code 125 = .ok (.iconst 1, 1) := by decide +kernel
theorem d_Md_search_126 : decode prog_10_method_42_code 126 = .ok (.ireturn, 1) := by decide +kernel
theorem d_Md_search_127 : decode prog_10_method_42_code 127 = .ok (.iinc 1 1, 3) := by decide +kernel
theorem d_Md_search_130 : decode prog_10_method_42_code 130 = .ok (.goto (-87), 3) := by decide +kernel
theorem d_Md_search_133 : decode prog_10_method_42_code 133 = .ok (.iconst 0, 1) := by decide +kernel
theorem d_Md_search_134 : decode prog_10_method_42_code 134 = .ok (.ireturn, 1) := by decide +kernel
theorem d_Md_ranked_0 : decode prog_10_method_36_code 0 = .ok (.iconst 0, 1) := by decide +kernel
theorem d_Md_ranked_1 : decode prog_10_method_36_code 1 = .ok (.istore_n 3, 1) := by decide +kernel
theorem d_Md_ranked_2 : decode prog_10_method_36_code 2 = .ok (.iload_n 3, 1) := by decide +kernel
theorem d_Md_ranked_3 : decode prog_10_method_36_code 3 = .ok (.aload_n 0, 1) := by decide +kernel
theorem d_Md_ranked_4 : decode prog_10_method_36_code 4 = .ok (.getfield 16, 3) := by decide +kernel
theorem d_Md_ranked_7 : decode prog_10_method_36_code 7 = .ok (.iload_n 1, 1) := by decide +kernel
theorem d_Md_ranked_8 : decode prog_10_method_36_code 8 = .ok (.iaload, 1) := by decide +kernel
theorem d_Md_ranked_9 : decode prog_10_method_36_code 9 = .ok (.if_icmp .ge 67, 3) := by decide +kernel
theorem d_Md_ranked_12 : decode prog_10_method_36_code 12 = .ok (.iconst 0, 1) := by decide +kernel
theorem d_Md_ranked_13 : decode prog_10_method_36_code 13 = .ok (.istore 4, 2) := by decide +kernel
theorem d_Md_ranked_15 : decode prog_10_method_36_code 15 = .ok (.iconst 0, 1) := by decide +kernel
theorem d_Md_ranked_16 : decode prog_10_method_36_code 16 = .ok (.istore 5, 2) := by decide +kernel
theorem d_Md_ranked_18 : decode prog_10_method_36_code 18 = .ok (.iload 5, 2) := by decide +kernel
theorem d_Md_ranked_20 : decode prog_10_method_36_code 20 = .ok (.aload_n 0, 1) := by decide +kernel
theorem d_Md_ranked_21 : decode prog_10_method_36_code 21 = .ok (.getfield 16, 3) := by decide +kernel
theorem d_Md_ranked_24 : decode prog_10_method_36_code 24 = .ok (.iload_n 1, 1) := by decide +kernel
theorem d_Md_ranked_25 : decode prog_10_method_36_code 25 = .ok (.iaload, 1) := by decide +kernel
theorem d_Md_ranked_26 : decode prog_10_method_36_code 26 = .ok (.if_icmp .ge 36, 3) := by decide +kernel
theorem d_Md_ranked_29 : decode prog_10_method_36_code 29 = .ok (.aload_n 0, 1) := by decide +kernel
theorem d_Md_ranked_30 : decode prog_10_method_36_code 30 = .ok (.bipush 6, 2) := by decide +kernel
theorem d_Md_ranked_32 : decode prog_10_method_36_code 32 = .ok (.iconst 4, 1) := by decide +kernel
theorem d_Md_ranked_33 : decode prog_10_method_36_code 33 = .ok (.iload_n 1, 1) := by decide +kernel
theorem d_Md_ranked_34 : decode prog_10_method_36_code 34 = .ok (.imul, 1) := by decide +kernel
theorem d_Md_ranked_35 : decode prog_10_method_36_code 35 = .ok (.iadd, 1) := by decide +kernel
theorem d_Md_ranked_36 : decode prog_10_method_36_code 36 = .ok (.iload 5, 2) := by decide +kernel
theorem d_Md_ranked_38 : decode prog_10_method_36_code 38 = .ok (.iadd, 1) := by decide +kernel
theorem d_Md_ranked_39 : decode prog_10_method_36_code 39 = .ok (.bipush 6, 2) := by decide +kernel
theorem d_Md_ranked_41 : decode prog_10_method_36_code 41 = .ok (.iconst 4, 1) := by decide +kernel
theorem d_Md_ranked_42 : decode prog_10_method_36_code 42 = .ok (.iload_n 1, 1) := by decide +kernel
theorem d_Md_ranked_43 : decode prog_10_method_36_code 43 = .ok (.imul, 1) := by decide +kernel
theorem d_Md_ranked_44 : decode prog_10_method_36_code 44 = .ok (.iadd, 1) := by decide +kernel
theorem d_Md_ranked_45 : decode prog_10_method_36_code 45 = .ok (.iload_n 3, 1) := by decide +kernel
theorem d_Md_ranked_46 : decode prog_10_method_36_code 46 = .ok (.iadd, 1) := by decide +kernel
theorem d_Md_ranked_47 : decode prog_10_method_36_code 47 = .ok (.invokevirtual 170, 3) := by decide +kernel
theorem d_Md_ranked_50 : decode prog_10_method_36_code 50 = .ok (.ifCond .le 6, 3) := by decide +kernel
theorem d_Md_ranked_53 : decode prog_10_method_36_code 53 = .ok (.iinc 4 1, 3) := by decide +kernel
theorem d_Md_ranked_56 : decode prog_10_method_36_code 56 = .ok (.iinc 5 1, 3) := by decide +kernel
theorem d_Md_ranked_59 : decode prog_10_method_36_code 59 = .ok (.goto (-41), 3) := by decide +kernel
theorem d_Md_ranked_62 : decode prog_10_method_36_code 62 = .ok (.iload 4, 2) := by decide +kernel
theorem d_Md_ranked_64 : decode prog_10_method_36_code 64 = .ok (.iload_n 2, 1) := by decide +kernel
theorem d_Md_ranked_65 : decode prog_10_method_36_code 65 = .ok (.if_icmp .ne 5, 3) := by decide +kernel
theorem d_Md_ranked_68 : decode prog_10_method_36_code 68 = .ok (.iload_n 3, 1) := by decide +kernel
theorem d_Md_ranked_69 : decode prog_10_method_36_code 69 = .ok (.ireturn, 1) := by decide +kernel
theorem d_Md_ranked_70 : decode prog_10_method_36_code 70 = .ok (.iinc 3 1, 3) := by decide +kernel
theorem d_Md_ranked_73 : decode prog_10_method_36_code 73 = .ok (.goto (-71), 3) := by decide +kernel
theorem d_Md_ranked_76 : decode prog_10_method_36_code 76 = .ok (.iconst (-1), 1) := by decide +kernel
theorem d_Md_ranked_77 : decode prog_10_method_36_code 77 = .ok (.ireturn, 1) := by decide +kernel
theorem d_Md_good_0 : decode prog_10_method_41_code 0 = .ok (.iconst 0, 1) := by decide +kernel
theorem d_Md_good_1 : decode prog_10_method_41_code 1 = .ok (.istore_n 1, 1) := by decide +kernel
theorem d_Md_good_2 : decode prog_10_method_41_code 2 = .ok (.iload_n 1, 1) := by decide +kernel
theorem d_Md_good_3 : decode prog_10_method_41_code 3 = .ok (.aload_n 0, 1) := by decide +kernel
theorem d_Md_good_4 : decode prog_10_method_41_code 4 = .ok (.getfield 167, 3) := by decide +kernel
theorem d_Md_good_7 : decode prog_10_method_41_code 7 = .ok (.if_icmp .ge 36, 3) := by decide +kernel
theorem d_Md_good_10 : decode prog_10_method_41_code 10 = .ok (.aload_n 0, 1) := by decide +kernel
theorem d_Md_good_11 : decode prog_10_method_41_code 11 = .ok (.getfield 38, 3) := by decide +kernel
theorem d_Md_good_14 : decode prog_10_method_41_code 14 = .ok (.iload_n 1, 1) := by decide +kernel
theorem d_Md_good_15 : decode prog_10_method_41_code 15 = .ok (.baload, 1) := by decide +kernel
theorem d_Md_good_16 : decode prog_10_method_41_code 16 = .ok (.ifCond .eq 21, 3) := by decide +kernel
theorem d_Md_good_19 : decode prog_10_method_41_code 19 = .ok (.aload_n 0, 1) := by decide +kernel
theorem d_Md_good_20 : decode prog_10_method_41_code 20 = .ok (.aload_n 0, 1) := by decide +kernel
theorem d_Md_good_21 : decode prog_10_method_41_code 21 = .ok (.getfield 35, 3) := by decide +kernel
theorem d_Md_good_24 : decode prog_10_method_41_code 24 = .ok (.iload_n 1, 1) := by decide +kernel
theorem d_Md_good_25 : decode prog_10_method_41_code 25 = .ok (.iaload, 1) := by decide +kernel
theorem d_Md_good_26 : decode prog_10_method_41_code 26 = .ok (.iconst 2, 1) := by decide +kernel
theorem d_Md_good_27 : decode prog_10_method_41_code 27 = .ok (.iload_n 1, 1) := by decide +kernel
theorem d_Md_good_28 : decode prog_10_method_41_code 28 = .ok (.iadd, 1) := by decide +kernel
theorem d_Md_good_29 : decode prog_10_method_41_code 29 = .ok (.invokevirtual 179, 3) := by decide +kernel
theorem d_Md_good_32 : decode prog_10_method_41_code 32 = .ok (.ifCond .ne 5, 3) := by decide +kernel
theorem d_Md_good_35 : decode prog_10_method_41_code 35 = .ok (.iconst 0, 1) := by decide +kernel
theorem d_Md_good_36 : decode prog_10_method_41_code 36 = .ok (.ireturn, 1) := by decide +kernel
theorem d_Md_good_37 : decode prog_10_method_41_code 37 = .ok (.iinc 1 1, 3) := by decide +kernel
theorem d_Md_good_40 : decode prog_10_method_41_code 40 = .ok (.goto (-38), 3) := by decide +kernel
theorem d_Md_good_43 : decode prog_10_method_41_code 43 = .ok (.iconst 0, 1) := by decide +kernel
theorem d_Md_good_44 : decode prog_10_method_41_code 44 = .ok (.istore_n 1, 1) := by decide +kernel
theorem d_Md_good_45 : decode prog_10_method_41_code 45 = .ok (.iload_n 1, 1) := by decide +kernel
theorem d_Md_good_46 : decode prog_10_method_41_code 46 = .ok (.bipush 6, 2) := by decide +kernel
theorem d_Md_good_48 : decode prog_10_method_41_code 48 = .ok (.if_icmp .ge 28, 3) := by decide +kernel
theorem d_Md_good_51 : decode prog_10_method_41_code 51 = .ok (.aload_n 0, 1) := by decide +kernel
theorem d_Md_good_52 : decode prog_10_method_41_code 52 = .ok (.getfield 41, 3) := by decide +kernel
theorem d_Md_good_55 : decode prog_10_method_41_code 55 = .ok (.iload_n 1, 1) := by decide +kernel
theorem d_Md_good_56 : decode prog_10_method_41_code 56 = .ok (.iaload, 1) := by decide +kernel
theorem d_Md_good_57 : decode prog_10_method_41_code 57 = .ok (.ifCond .lt 13, 3) := by decide +kernel
theorem d_Md_good_60 : decode prog_10_method_41_code 60 = .ok (.aload_n 0, 1) := by decide +kernel
theorem d_Md_good_61 : decode prog_10_method_41_code 61 = .ok (.iload_n 1, 1) := by decide +kernel
theorem d_Md_good_62 : decode prog_10_method_41_code 62 = .ok (.invokevirtual 182, 3) := by decide +kernel
theorem d_Md_good_65 : decode prog_10_method_41_code 65 = .ok (.ifCond .ne 5, 3) := by decide +kernel
theorem d_Md_good_68 : decode prog_10_method_41_code 68 = .ok (.iconst 0, 1) := by decide +kernel
theorem d_Md_good_69 : decode prog_10_method_41_code 69 = .ok (.ireturn, 1) := by decide +kernel
theorem d_Md_good_70 : decode prog_10_method_41_code 70 = .ok (.iinc 1 1, 3) := by decide +kernel
theorem d_Md_good_73 : decode prog_10_method_41_code 73 = .ok (.goto (-28), 3) := by decide +kernel
theorem d_Md_good_76 : decode prog_10_method_41_code 76 = .ok (.aload_n 0, 1) := by decide +kernel
theorem d_Md_good_77 : decode prog_10_method_41_code 77 = .ok (.invokevirtual 185, 3) := by decide +kernel
theorem d_Md_good_80 : decode prog_10_method_41_code 80 = .ok (.ireturn, 1) := by decide +kernel
theorem d_Md_meets_0 : decode prog_10_method_38_code 0 = .ok (.aload_n 0, 1) := by decide +kernel
theorem d_Md_meets_1 : decode prog_10_method_38_code 1 = .ok (.getfield 41, 3) := by decide +kernel
theorem d_Md_meets_4 : decode prog_10_method_38_code 4 = .ok (.iload_n 1, 1) := by decide +kernel
theorem d_Md_meets_5 : decode prog_10_method_38_code 5 = .ok (.iaload, 1) := by decide +kernel
theorem d_Md_meets_6 : decode prog_10_method_38_code 6 = .ok (.ifCond .lt 23, 3) := by decide +kernel
theorem d_Md_meets_9 : decode prog_10_method_38_code 9 = .ok (.aload_n 0, 1) := by decide +kernel
theorem d_Md_meets_10 : decode prog_10_method_38_code 10 = .ok (.bipush 6, 2) := by decide +kernel
theorem d_Md_meets_12 : decode prog_10_method_38_code 12 = .ok (.aload_n 0, 1) := by decide +kernel
theorem d_Md_meets_13 : decode prog_10_method_38_code 13 = .ok (.iload_n 1, 1) := by decide +kernel
theorem d_Md_meets_14 : decode prog_10_method_38_code 14 = .ok (.invokevirtual 176, 3) := by decide +kernel
theorem d_Md_meets_17 : decode prog_10_method_38_code 17 = .ok (.iadd, 1) := by decide +kernel
theorem d_Md_meets_18 : decode prog_10_method_38_code 18 = .ok (.iload_n 2, 1) := by decide +kernel
theorem d_Md_meets_19 : decode prog_10_method_38_code 19 = .ok (.invokevirtual 173, 3) := by decide +kernel
theorem d_Md_meets_22 : decode prog_10_method_38_code 22 = .ok (.ifCond .eq 7, 3) := by decide +kernel
theorem d_Md_meets_25 : decode prog_10_method_38_code 25 = .ok (.iconst 1, 1) := by decide +kernel
theorem d_Md_meets_26 : decode prog_10_method_38_code 26 = .ok (.goto 4, 3) := by decide +kernel
theorem d_Md_meets_29 : decode prog_10_method_38_code 29 = .ok (.iconst 0, 1) := by decide +kernel
theorem d_Md_meets_30 : decode prog_10_method_38_code 30 = .ok (.ireturn, 1) := by decide +kernel
theorem d_Md_slot_0 : decode prog_10_method_37_code 0 = .ok (.iconst 4, 1) := by decide +kernel
theorem d_Md_slot_1 : decode prog_10_method_37_code 1 = .ok (.iload_n 1, 1) := by decide +kernel
theorem d_Md_slot_2 : decode prog_10_method_37_code 2 = .ok (.imul, 1) := by decide +kernel
theorem d_Md_slot_3 : decode prog_10_method_37_code 3 = .ok (.aload_n 0, 1) := by decide +kernel
theorem d_Md_slot_4 : decode prog_10_method_37_code 4 = .ok (.getfield 41, 3) := by decide +kernel
theorem d_Md_slot_7 : decode prog_10_method_37_code 7 = .ok (.iload_n 1, 1) := by decide +kernel
theorem d_Md_slot_8 : decode prog_10_method_37_code 8 = .ok (.iaload, 1) := by decide +kernel
theorem d_Md_slot_9 : decode prog_10_method_37_code 9 = .ok (.iadd, 1) := by decide +kernel
theorem d_Md_slot_10 : decode prog_10_method_37_code 10 = .ok (.ireturn, 1) := by decide +kernel
theorem d_Md_releaseGood_0 : decode prog_10_method_39_code 0 = .ok (.aload_n 0, 1) := by decide +kernel
theorem d_Md_releaseGood_1 : decode prog_10_method_39_code 1 = .ok (.iload_n 1, 1) := by decide +kernel
theorem d_Md_releaseGood_2 : decode prog_10_method_39_code 2 = .ok (.invokevirtual 176, 3) := by decide +kernel
theorem d_Md_releaseGood_5 : decode prog_10_method_39_code 5 = .ok (.istore_n 2, 1) := by decide +kernel
theorem d_Md_releaseGood_6 : decode prog_10_method_39_code 6 = .ok (.aload_n 0, 1) := by decide +kernel
theorem d_Md_releaseGood_7 : decode prog_10_method_39_code 7 = .ok (.getfield 19, 3) := by decide +kernel
theorem d_Md_releaseGood_10 : decode prog_10_method_39_code 10 = .ok (.iload_n 2, 1) := by decide +kernel
theorem d_Md_releaseGood_11 : decode prog_10_method_39_code 11 = .ok (.baload, 1) := by decide +kernel
theorem d_Md_releaseGood_12 : decode prog_10_method_39_code 12 = .ok (.ifCond .ne 24, 3) := by decide +kernel
theorem d_Md_releaseGood_15 : decode prog_10_method_39_code 15 = .ok (.aload_n 0, 1) := by decide +kernel
theorem d_Md_releaseGood_16 : decode prog_10_method_39_code 16 = .ok (.getfield 23, 3) := by decide +kernel
theorem d_Md_releaseGood_19 : decode prog_10_method_39_code 19 = .ok (.iload_n 2, 1) := by decide +kernel
theorem d_Md_releaseGood_20 : decode prog_10_method_39_code 20 = .ok (.baload, 1) := by decide +kernel
theorem d_Md_releaseGood_21 : decode prog_10_method_39_code 21 = .ok (.ifCond .eq 17, 3) := by decide +kernel
theorem d_Md_releaseGood_24 : decode prog_10_method_39_code 24 = .ok (.aload_n 0, 1) := by decide +kernel
theorem d_Md_releaseGood_25 : decode prog_10_method_39_code 25 = .ok (.iconst 1, 1) := by decide +kernel
theorem d_Md_releaseGood_26 : decode prog_10_method_39_code 26 = .ok (.bipush 30, 2) := by decide +kernel
theorem d_Md_releaseGood_28 : decode prog_10_method_39_code 28 = .ok (.iload_n 2, 1) := by decide +kernel
theorem d_Md_releaseGood_29 : decode prog_10_method_39_code 29 = .ok (.iadd, 1) := by decide +kernel
theorem d_Md_releaseGood_30 : decode prog_10_method_39_code 30 = .ok (.invokevirtual 173, 3) := by decide +kernel
theorem d_Md_releaseGood_33 : decode prog_10_method_39_code 33 = .ok (.ifCond .ne 5, 3) := by decide +kernel
theorem d_Md_releaseGood_36 : decode prog_10_method_39_code 36 = .ok (.iconst 0, 1) := by decide +kernel
theorem d_Md_releaseGood_37 : decode prog_10_method_39_code 37 = .ok (.ireturn, 1) := by decide +kernel
theorem d_Md_releaseGood_38 : decode prog_10_method_39_code 38 = .ok (.iconst 3, 1) := by decide +kernel
theorem d_Md_releaseGood_39 : decode prog_10_method_39_code 39 = .ok (.iload_n 2, 1) := by decide +kernel
theorem d_Md_releaseGood_40 : decode prog_10_method_39_code 40 = .ok (.imul, 1) := by decide +kernel
theorem d_Md_releaseGood_41 : decode prog_10_method_39_code 41 = .ok (.istore_n 3, 1) := by decide +kernel
theorem d_Md_releaseGood_42 : decode prog_10_method_39_code 42 = .ok (.iload_n 3, 1) := by decide +kernel
theorem d_Md_releaseGood_43 : decode prog_10_method_39_code 43 = .ok (.iconst 3, 1) := by decide +kernel
theorem d_Md_releaseGood_44 : decode prog_10_method_39_code 44 = .ok (.iload_n 2, 1) := by decide +kernel
theorem d_Md_releaseGood_45 : decode prog_10_method_39_code 45 = .ok (.imul, 1) := by decide +kernel
theorem d_Md_releaseGood_46 : decode prog_10_method_39_code 46 = .ok (.aload_n 0, 1) := by decide +kernel
theorem d_Md_releaseGood_47 : decode prog_10_method_39_code 47 = .ok (.getfield 26, 3) := by decide +kernel
theorem d_Md_releaseGood_50 : decode prog_10_method_39_code 50 = .ok (.iload_n 2, 1) := by decide +kernel
theorem d_Md_releaseGood_51 : decode prog_10_method_39_code 51 = .ok (.iaload, 1) := by decide +kernel
theorem d_Md_releaseGood_52 : decode prog_10_method_39_code 52 = .ok (.iadd, 1) := by decide +kernel
theorem d_Md_releaseGood_53 : decode prog_10_method_39_code 53 = .ok (.if_icmp .ge 54, 3) := by decide +kernel
theorem d_Md_releaseGood_56 : decode prog_10_method_39_code 56 = .ok (.aload_n 0, 1) := by decide +kernel
theorem d_Md_releaseGood_57 : decode prog_10_method_39_code 57 = .ok (.getfield 29, 3) := by decide +kernel
theorem d_Md_releaseGood_60 : decode prog_10_method_39_code 60 = .ok (.iload_n 3, 1) := by decide +kernel
theorem d_Md_releaseGood_61 : decode prog_10_method_39_code 61 = .ok (.iaload, 1) := by decide +kernel
theorem d_Md_releaseGood_62 : decode prog_10_method_39_code 62 = .ok (.istore 4, 2) := by decide +kernel
theorem d_Md_releaseGood_64 : decode prog_10_method_39_code 64 = .ok (.aload_n 0, 1) := by decide +kernel
theorem d_Md_releaseGood_65 : decode prog_10_method_39_code 65 = .ok (.getfield 32, 3) := by decide +kernel
theorem d_Md_releaseGood_68 : decode prog_10_method_39_code 68 = .ok (.iload_n 3, 1) := by decide +kernel
theorem d_Md_releaseGood_69 : decode prog_10_method_39_code 69 = .ok (.baload, 1) := by decide +kernel
theorem d_Md_releaseGood_70 : decode prog_10_method_39_code 70 = .ok (.ifCond .eq 16, 3) := by decide +kernel
theorem d_Md_releaseGood_73 : decode prog_10_method_39_code 73 = .ok (.aload_n 0, 1) := by decide +kernel
theorem d_Md_releaseGood_74 : decode prog_10_method_39_code 74 = .ok (.getfield 41, 3) := by decide +kernel
theorem d_Md_releaseGood_77 : decode prog_10_method_39_code 77 = .ok (.iload 4, 2) := by decide +kernel
theorem d_Md_releaseGood_79 : decode prog_10_method_39_code 79 = .ok (.iaload, 1) := by decide +kernel
theorem d_Md_releaseGood_80 : decode prog_10_method_39_code 80 = .ok (.ifCond .ge 6, 3) := by decide +kernel
theorem d_Md_releaseGood_83 : decode prog_10_method_39_code 83 = .ok (.goto 18, 3) := by decide +kernel
theorem d_Md_releaseGood_86 : decode prog_10_method_39_code 86 = .ok (.aload_n 0, 1) := by decide +kernel
theorem d_Md_releaseGood_87 : decode prog_10_method_39_code 87 = .ok (.iload 4, 2) := by decide +kernel
theorem d_Md_releaseGood_89 : decode prog_10_method_39_code 89 = .ok (.bipush 54, 2) := by decide +kernel
theorem d_Md_releaseGood_91 : decode prog_10_method_39_code 91 = .ok (.iload_n 3, 1) := by decide +kernel
theorem d_Md_releaseGood_92 : decode prog_10_method_39_code 92 = .ok (.iadd, 1) := by decide +kernel
theorem d_Md_releaseGood_93 : decode prog_10_method_39_code 93 = .ok (.invokevirtual 179, 3) := by decide +kernel
theorem d_Md_releaseGood_96 : decode prog_10_method_39_code 96 = .ok (.ifCond .ne 5, 3) := by decide +kernel
theorem d_Md_releaseGood_99 : decode prog_10_method_39_code 99 = .ok (.iconst 0, 1) := by decide +kernel
theorem d_Md_releaseGood_100 : decode prog_10_method_39_code 100 = .ok (.ireturn, 1) := by decide +kernel
theorem d_Md_releaseGood_101 : decode prog_10_method_39_code 101 = .ok (.iinc 3 1, 3) := by decide +kernel
theorem d_Md_releaseGood_104 : decode prog_10_method_39_code 104 = .ok (.goto (-62), 3) := by decide +kernel
theorem d_Md_releaseGood_107 : decode prog_10_method_39_code 107 = .ok (.iconst 1, 1) := by decide +kernel
theorem d_Md_releaseGood_108 : decode prog_10_method_39_code 108 = .ok (.ireturn, 1) := by decide +kernel
theorem d_Md_allLed_0 : decode prog_10_method_40_code 0 = .ok (.iconst 0, 1) := by decide +kernel
theorem d_Md_allLed_1 : decode prog_10_method_40_code 1 = .ok (.istore_n 1, 1) := by decide +kernel
theorem d_Md_allLed_2 : decode prog_10_method_40_code 2 = .ok (.iload_n 1, 1) := by decide +kernel
theorem d_Md_allLed_3 : decode prog_10_method_40_code 3 = .ok (.bipush 6, 2) := by decide +kernel
theorem d_Md_allLed_5 : decode prog_10_method_40_code 5 = .ok (.if_icmp .ge 16, 3) := by decide +kernel
theorem d_Md_allLed_8 : decode prog_10_method_40_code 8 = .ok (.aload_n 0, 1) := by decide +kernel
theorem d_Md_allLed_9 : decode prog_10_method_40_code 9 = .ok (.getfield 50, 3) := by decide +kernel
theorem d_Md_allLed_12 : decode prog_10_method_40_code 12 = .ok (.iload_n 1, 1) := by decide +kernel
theorem d_Md_allLed_13 : decode prog_10_method_40_code 13 = .ok (.iconst 0, 1) := by decide +kernel
theorem d_Md_allLed_14 : decode prog_10_method_40_code 14 = .ok (.bastore, 1) := by decide +kernel
theorem d_Md_allLed_15 : decode prog_10_method_40_code 15 = .ok (.iinc 1 1, 3) := by decide +kernel
theorem d_Md_allLed_18 : decode prog_10_method_40_code 18 = .ok (.goto (-16), 3) := by decide +kernel
theorem d_Md_allLed_21 : decode prog_10_method_40_code 21 = .ok (.iconst 0, 1) := by decide +kernel
theorem d_Md_allLed_22 : decode prog_10_method_40_code 22 = .ok (.istore_n 1, 1) := by decide +kernel
theorem d_Md_allLed_23 : decode prog_10_method_40_code 23 = .ok (.iload_n 1, 1) := by decide +kernel
theorem d_Md_allLed_24 : decode prog_10_method_40_code 24 = .ok (.aload_n 0, 1) := by decide +kernel
theorem d_Md_allLed_25 : decode prog_10_method_40_code 25 = .ok (.getfield 167, 3) := by decide +kernel
theorem d_Md_allLed_28 : decode prog_10_method_40_code 28 = .ok (.if_icmp .ge 30, 3) := by decide +kernel
theorem d_Md_allLed_31 : decode prog_10_method_40_code 31 = .ok (.aload_n 0, 1) := by decide +kernel
theorem d_Md_allLed_32 : decode prog_10_method_40_code 32 = .ok (.getfield 38, 3) := by decide +kernel
theorem d_Md_allLed_35 : decode prog_10_method_40_code 35 = .ok (.iload_n 1, 1) := by decide +kernel
theorem d_Md_allLed_36 : decode prog_10_method_40_code 36 = .ok (.baload, 1) := by decide +kernel
theorem d_Md_allLed_37 : decode prog_10_method_40_code 37 = .ok (.ifCond .eq 15, 3) := by decide +kernel
theorem d_Md_allLed_40 : decode prog_10_method_40_code 40 = .ok (.aload_n 0, 1) := by decide +kernel
theorem d_Md_allLed_41 : decode prog_10_method_40_code 41 = .ok (.getfield 50, 3) := by decide +kernel
theorem d_Md_allLed_44 : decode prog_10_method_40_code 44 = .ok (.aload_n 0, 1) := by decide +kernel
theorem d_Md_allLed_45 : decode prog_10_method_40_code 45 = .ok (.getfield 35, 3) := by decide +kernel
theorem d_Md_allLed_48 : decode prog_10_method_40_code 48 = .ok (.iload_n 1, 1) := by decide +kernel
theorem d_Md_allLed_49 : decode prog_10_method_40_code 49 = .ok (.iaload, 1) := by decide +kernel
theorem d_Md_allLed_50 : decode prog_10_method_40_code 50 = .ok (.iconst 1, 1) := by decide +kernel
theorem d_Md_allLed_51 : decode prog_10_method_40_code 51 = .ok (.bastore, 1) := by decide +kernel
theorem d_Md_allLed_52 : decode prog_10_method_40_code 52 = .ok (.iinc 1 1, 3) := by decide +kernel
theorem d_Md_allLed_55 : decode prog_10_method_40_code 55 = .ok (.goto (-32), 3) := by decide +kernel
theorem d_Md_allLed_58 : decode prog_10_method_40_code 58 = .ok (.iconst 0, 1) := by decide +kernel
theorem d_Md_allLed_59 : decode prog_10_method_40_code 59 = .ok (.istore_n 1, 1) := by decide +kernel
theorem d_Md_allLed_60 : decode prog_10_method_40_code 60 = .ok (.iload_n 1, 1) := by decide +kernel
theorem d_Md_allLed_61 : decode prog_10_method_40_code 61 = .ok (.bipush 108, 2) := by decide +kernel
theorem d_Md_allLed_63 : decode prog_10_method_40_code 63 = .ok (.if_icmp .ge 86, 3) := by decide +kernel
theorem d_Md_allLed_66 : decode prog_10_method_40_code 66 = .ok (.iload_n 1, 1) := by decide +kernel
theorem d_Md_allLed_67 : decode prog_10_method_40_code 67 = .ok (.iconst 3, 1) := by decide +kernel
theorem d_Md_allLed_68 : decode prog_10_method_40_code 68 = .ok (.idiv, 1) := by decide +kernel
theorem d_Md_allLed_69 : decode prog_10_method_40_code 69 = .ok (.bipush 6, 2) := by decide +kernel
theorem d_Md_allLed_71 : decode prog_10_method_40_code 71 = .ok (.irem, 1) := by decide +kernel
theorem d_Md_allLed_72 : decode prog_10_method_40_code 72 = .ok (.istore_n 2, 1) := by decide +kernel
theorem d_Md_allLed_73 : decode prog_10_method_40_code 73 = .ok (.aload_n 0, 1) := by decide +kernel
theorem d_Md_allLed_74 : decode prog_10_method_40_code 74 = .ok (.getfield 50, 3) := by decide +kernel
theorem d_Md_allLed_77 : decode prog_10_method_40_code 77 = .ok (.iload_n 2, 1) := by decide +kernel
theorem d_Md_allLed_78 : decode prog_10_method_40_code 78 = .ok (.baload, 1) := by decide +kernel
theorem d_Md_allLed_79 : decode prog_10_method_40_code 79 = .ok (.ifCond .eq 64, 3) := by decide +kernel
theorem d_Md_allLed_82 : decode prog_10_method_40_code 82 = .ok (.aload_n 0, 1) := by decide +kernel
theorem d_Md_allLed_83 : decode prog_10_method_40_code 83 = .ok (.getfield 41, 3) := by decide +kernel
theorem d_Md_allLed_86 : decode prog_10_method_40_code 86 = .ok (.iload_n 2, 1) := by decide +kernel
theorem d_Md_allLed_87 : decode prog_10_method_40_code 87 = .ok (.iaload, 1) := by decide +kernel
theorem d_Md_allLed_88 : decode prog_10_method_40_code 88 = .ok (.ifCond .lt 55, 3) := by decide +kernel
theorem d_Md_allLed_91 : decode prog_10_method_40_code 91 = .ok (.iload_n 1, 1) := by decide +kernel
theorem d_Md_allLed_92 : decode prog_10_method_40_code 92 = .ok (.iconst 3, 1) := by decide +kernel
theorem d_Md_allLed_93 : decode prog_10_method_40_code 93 = .ok (.irem, 1) := by decide +kernel
theorem d_Md_allLed_94 : decode prog_10_method_40_code 94 = .ok (.aload_n 0, 1) := by decide +kernel
theorem d_Md_allLed_95 : decode prog_10_method_40_code 95 = .ok (.getfield 26, 3) := by decide +kernel
theorem d_Md_allLed_98 : decode prog_10_method_40_code 98 = .ok (.aload_n 0, 1) := by decide +kernel
theorem d_Md_allLed_99 : decode prog_10_method_40_code 99 = .ok (.iload_n 2, 1) := by decide +kernel
theorem d_Md_allLed_100 : decode prog_10_method_40_code 100 = .ok (.invokevirtual 176, 3) := by decide +kernel
theorem d_Md_allLed_103 : decode prog_10_method_40_code 103 = .ok (.iaload, 1) := by decide +kernel
theorem d_Md_allLed_104 : decode prog_10_method_40_code 104 = .ok (.if_icmp .lt 6, 3) := by decide +kernel
theorem d_Md_allLed_107 : decode prog_10_method_40_code 107 = .ok (.goto 36, 3) := by decide +kernel
theorem d_Md_allLed_110 : decode prog_10_method_40_code 110 = .ok (.iconst 3, 1) := by decide +kernel
theorem d_Md_allLed_111 : decode prog_10_method_40_code 111 = .ok (.aload_n 0, 1) := by decide +kernel
theorem d_Md_allLed_112 : decode prog_10_method_40_code 112 = .ok (.iload_n 2, 1) := by decide +kernel
theorem d_Md_allLed_113 : decode prog_10_method_40_code 113 = .ok (.invokevirtual 176, 3) := by decide +kernel
theorem d_Md_allLed_116 : decode prog_10_method_40_code 116 = .ok (.imul, 1) := by decide +kernel
theorem d_Md_allLed_117 : decode prog_10_method_40_code 117 = .ok (.iload_n 1, 1) := by decide +kernel
theorem d_Md_allLed_118 : decode prog_10_method_40_code 118 = .ok (.iconst 3, 1) := by decide +kernel
theorem d_Md_allLed_119 : decode prog_10_method_40_code 119 = .ok (.irem, 1) := by decide +kernel
theorem d_Md_allLed_120 : decode prog_10_method_40_code 120 = .ok (.iadd, 1) := by decide +kernel
theorem d_Md_allLed_121 : decode prog_10_method_40_code 121 = .ok (.istore_n 3, 1) := by decide +kernel
theorem d_Md_allLed_122 : decode prog_10_method_40_code 122 = .ok (.aload_n 0, 1) := by decide +kernel
theorem d_Md_allLed_123 : decode prog_10_method_40_code 123 = .ok (.getfield 32, 3) := by decide +kernel
theorem d_Md_allLed_126 : decode prog_10_method_40_code 126 = .ok (.iload_n 3, 1) := by decide +kernel
theorem d_Md_allLed_127 : decode prog_10_method_40_code 127 = .ok (.baload, 1) := by decide +kernel
theorem d_Md_allLed_128 : decode prog_10_method_40_code 128 = .ok (.ifCond .ne 15, 3) := by decide +kernel
theorem d_Md_allLed_131 : decode prog_10_method_40_code 131 = .ok (.aload_n 0, 1) := by decide +kernel
theorem d_Md_allLed_132 : decode prog_10_method_40_code 132 = .ok (.getfield 50, 3) := by decide +kernel
theorem d_Md_allLed_135 : decode prog_10_method_40_code 135 = .ok (.aload_n 0, 1) := by decide +kernel
theorem d_Md_allLed_136 : decode prog_10_method_40_code 136 = .ok (.getfield 29, 3) := by decide +kernel
theorem d_Md_allLed_139 : decode prog_10_method_40_code 139 = .ok (.iload_n 3, 1) := by decide +kernel
theorem d_Md_allLed_140 : decode prog_10_method_40_code 140 = .ok (.iaload, 1) := by decide +kernel
theorem d_Md_allLed_141 : decode prog_10_method_40_code 141 = .ok (.iconst 1, 1) := by decide +kernel
theorem d_Md_allLed_142 : decode prog_10_method_40_code 142 = .ok (.bastore, 1) := by decide +kernel
theorem d_Md_allLed_143 : decode prog_10_method_40_code 143 = .ok (.iinc 1 1, 3) := by decide +kernel
theorem d_Md_allLed_146 : decode prog_10_method_40_code 146 = .ok (.goto (-86), 3) := by decide +kernel
theorem d_Md_allLed_149 : decode prog_10_method_40_code 149 = .ok (.iconst 0, 1) := by decide +kernel
theorem d_Md_allLed_150 : decode prog_10_method_40_code 150 = .ok (.istore_n 1, 1) := by decide +kernel
theorem d_Md_allLed_151 : decode prog_10_method_40_code 151 = .ok (.iload_n 1, 1) := by decide +kernel
theorem d_Md_allLed_152 : decode prog_10_method_40_code 152 = .ok (.bipush 6, 2) := by decide +kernel
theorem d_Md_allLed_154 : decode prog_10_method_40_code 154 = .ok (.if_icmp .ge 29, 3) := by decide +kernel
theorem d_Md_allLed_157 : decode prog_10_method_40_code 157 = .ok (.aload_n 0, 1) := by decide +kernel
theorem d_Md_allLed_158 : decode prog_10_method_40_code 158 = .ok (.getfield 41, 3) := by decide +kernel
theorem d_Md_allLed_161 : decode prog_10_method_40_code 161 = .ok (.iload_n 1, 1) := by decide +kernel
theorem d_Md_allLed_162 : decode prog_10_method_40_code 162 = .ok (.iaload, 1) := by decide +kernel
theorem d_Md_allLed_163 : decode prog_10_method_40_code 163 = .ok (.ifCond .lt 14, 3) := by decide +kernel
theorem d_Md_allLed_166 : decode prog_10_method_40_code 166 = .ok (.aload_n 0, 1) := by decide +kernel
theorem d_Md_allLed_167 : decode prog_10_method_40_code 167 = .ok (.getfield 50, 3) := by decide +kernel
theorem d_Md_allLed_170 : decode prog_10_method_40_code 170 = .ok (.iload_n 1, 1) := by decide +kernel
theorem d_Md_allLed_171 : decode prog_10_method_40_code 171 = .ok (.baload, 1) := by decide +kernel
theorem d_Md_allLed_172 : decode prog_10_method_40_code 172 = .ok (.ifCond .ne 5, 3) := by decide +kernel
theorem d_Md_allLed_175 : decode prog_10_method_40_code 175 = .ok (.iconst 0, 1) := by decide +kernel
theorem d_Md_allLed_176 : decode prog_10_method_40_code 176 = .ok (.ireturn, 1) := by decide +kernel
theorem d_Md_allLed_177 : decode prog_10_method_40_code 177 = .ok (.iinc 1 1, 3) := by decide +kernel
theorem d_Md_allLed_180 : decode prog_10_method_40_code 180 = .ok (.goto (-29), 3) := by decide +kernel
theorem d_Md_allLed_183 : decode prog_10_method_40_code 183 = .ok (.iconst 1, 1) := by decide +kernel
theorem d_Md_allLed_184 : decode prog_10_method_40_code 184 = .ok (.ireturn, 1) := by decide +kernel
theorem d_Md_findBlame_0 : decode prog_10_method_43_code 0 = .ok (.iconst 0, 1) := by decide +kernel
theorem d_Md_findBlame_1 : decode prog_10_method_43_code 1 = .ok (.istore_n 1, 1) := by decide +kernel
theorem d_Md_findBlame_2 : decode prog_10_method_43_code 2 = .ok (.iload_n 1, 1) := by decide +kernel
theorem d_Md_findBlame_3 : decode prog_10_method_43_code 3 = .ok (.aload_n 0, 1) := by decide +kernel
theorem d_Md_findBlame_4 : decode prog_10_method_43_code 4 = .ok (.getfield 167, 3) := by decide +kernel
theorem d_Md_findBlame_7 : decode prog_10_method_43_code 7 = .ok (.if_icmp .ge 30, 3) := by decide +kernel
theorem d_Md_findBlame_10 : decode prog_10_method_43_code 10 = .ok (.aload_n 0, 1) := by decide +kernel
theorem d_Md_findBlame_11 : decode prog_10_method_43_code 11 = .ok (.getfield 38, 3) := by decide +kernel
theorem d_Md_findBlame_14 : decode prog_10_method_43_code 14 = .ok (.iload_n 1, 1) := by decide +kernel
theorem d_Md_findBlame_15 : decode prog_10_method_43_code 15 = .ok (.iconst 0, 1) := by decide +kernel
theorem d_Md_findBlame_16 : decode prog_10_method_43_code 16 = .ok (.bastore, 1) := by decide +kernel
theorem d_Md_findBlame_17 : decode prog_10_method_43_code 17 = .ok (.aload_n 0, 1) := by decide +kernel
theorem d_Md_findBlame_18 : decode prog_10_method_43_code 18 = .ok (.invokevirtual 195, 3) := by decide +kernel
theorem d_Md_findBlame_21 : decode prog_10_method_43_code 21 = .ok (.ifCond .eq 10, 3) := by decide +kernel
theorem d_Md_findBlame_24 : decode prog_10_method_43_code 24 = .ok (.aload_n 0, 1) := by decide +kernel
theorem d_Md_findBlame_25 : decode prog_10_method_43_code 25 = .ok (.getfield 38, 3) := by decide +kernel
theorem d_Md_findBlame_28 : decode prog_10_method_43_code 28 = .ok (.iload_n 1, 1) := by decide +kernel
theorem d_Md_findBlame_29 : decode prog_10_method_43_code 29 = .ok (.iconst 1, 1) := by decide +kernel
theorem d_Md_findBlame_30 : decode prog_10_method_43_code 30 = .ok (.bastore, 1) := by decide +kernel
theorem d_Md_findBlame_31 : decode prog_10_method_43_code 31 = .ok (.iinc 1 1, 3) := by decide +kernel
theorem d_Md_findBlame_34 : decode prog_10_method_43_code 34 = .ok (.goto (-32), 3) := by decide +kernel
theorem d_Md_findBlame_37 : decode prog_10_method_43_code 37 = .ok (.iconst 0, 1) := by decide +kernel
theorem d_Md_findBlame_38 : decode prog_10_method_43_code 38 = .ok (.istore_n 1, 1) := by decide +kernel
theorem d_Md_findBlame_39 : decode prog_10_method_43_code 39 = .ok (.iload_n 1, 1) := by decide +kernel
theorem d_Md_findBlame_40 : decode prog_10_method_43_code 40 = .ok (.iconst 4, 1) := by decide +kernel
theorem d_Md_findBlame_41 : decode prog_10_method_43_code 41 = .ok (.if_icmp .ge 37, 3) := by decide +kernel
theorem d_Md_findBlame_44 : decode prog_10_method_43_code 44 = .ok (.aload_n 0, 1) := by decide +kernel
theorem d_Md_findBlame_45 : decode prog_10_method_43_code 45 = .ok (.getfield 47, 3) := by decide +kernel
theorem d_Md_findBlame_48 : decode prog_10_method_43_code 48 = .ok (.iload_n 1, 1) := by decide +kernel
theorem d_Md_findBlame_49 : decode prog_10_method_43_code 49 = .ok (.iload_n 1, 1) := by decide +kernel
theorem d_Md_findBlame_50 : decode prog_10_method_43_code 50 = .ok (.aload_n 0, 1) := by decide +kernel
theorem d_Md_findBlame_51 : decode prog_10_method_43_code 51 = .ok (.getfield 167, 3) := by decide +kernel
theorem d_Md_findBlame_54 : decode prog_10_method_43_code 54 = .ok (.if_icmp .ge 16, 3) := by decide +kernel
theorem d_Md_findBlame_57 : decode prog_10_method_43_code 57 = .ok (.aload_n 0, 1) := by decide +kernel
theorem d_Md_findBlame_58 : decode prog_10_method_43_code 58 = .ok (.getfield 38, 3) := by decide +kernel
theorem d_Md_findBlame_61 : decode prog_10_method_43_code 61 = .ok (.iload_n 1, 1) := by decide +kernel
theorem d_Md_findBlame_62 : decode prog_10_method_43_code 62 = .ok (.baload, 1) := by decide +kernel
theorem d_Md_findBlame_63 : decode prog_10_method_43_code 63 = .ok (.ifCond .eq 7, 3) := by decide +kernel
theorem d_Md_findBlame_66 : decode prog_10_method_43_code 66 = .ok (.iconst 1, 1) := by decide +kernel
theorem d_Md_findBlame_67 : decode prog_10_method_43_code 67 = .ok (.goto 4, 3) := by decide +kernel
theorem d_Md_findBlame_70 : decode prog_10_method_43_code 70 = .ok (.iconst 0, 1) := by decide +kernel
theorem d_Md_findBlame_71 : decode prog_10_method_43_code 71 = .ok (.bastore, 1) := by decide +kernel
theorem d_Md_findBlame_72 : decode prog_10_method_43_code 72 = .ok (.iinc 1 1, 3) := by decide +kernel
theorem d_Md_findBlame_75 : decode prog_10_method_43_code 75 = .ok (.goto (-36), 3) := by decide +kernel
theorem d_Md_findBlame_78 : decode prog_10_method_43_code 78 = .ok (.return_, 1) := by decide +kernel
theorem d_Md_chosen_0 : decode prog_10_method_45_code 0 = .ok (.iload_n 1, 1) := by decide +kernel
theorem d_Md_chosen_1 : decode prog_10_method_45_code 1 = .ok (.iconst 0, 1) := by decide +kernel
theorem d_Md_chosen_2 : decode prog_10_method_45_code 2 = .ok (.iconst 5, 1) := by decide +kernel
theorem d_Md_chosen_3 : decode prog_10_method_45_code 3 = .ok (.invokestatic 56, 3) := by decide +kernel
theorem d_Md_chosen_6 : decode prog_10_method_45_code 6 = .ok (.ifCond .ne 5, 3) := by decide +kernel
theorem d_Md_chosen_9 : decode prog_10_method_45_code 9 = .ok (.iconst (-1), 1) := by decide +kernel
theorem d_Md_chosen_10 : decode prog_10_method_45_code 10 = .ok (.ireturn, 1) := by decide +kernel
theorem d_Md_chosen_11 : decode prog_10_method_45_code 11 = .ok (.aload_n 0, 1) := by decide +kernel
theorem d_Md_chosen_12 : decode prog_10_method_45_code 12 = .ok (.getfield 198, 3) := by decide +kernel
theorem d_Md_chosen_15 : decode prog_10_method_45_code 15 = .ok (.ifCond .eq 21, 3) := by decide +kernel
theorem d_Md_chosen_18 : decode prog_10_method_45_code 18 = .ok (.aload_n 0, 1) := by decide +kernel
theorem d_Md_chosen_19 : decode prog_10_method_45_code 19 = .ok (.getfield 44, 3) := by decide +kernel
theorem d_Md_chosen_22 : decode prog_10_method_45_code 22 = .ok (.iload_n 1, 1) := by decide +kernel
theorem d_Md_chosen_23 : decode prog_10_method_45_code 23 = .ok (.iaload, 1) := by decide +kernel
theorem d_Md_chosen_24 : decode prog_10_method_45_code 24 = .ok (.ifCond .lt 12, 3) := by decide +kernel
theorem d_Md_chosen_27 : decode prog_10_method_45_code 27 = .ok (.aload_n 0, 1) := by decide +kernel
theorem d_Md_chosen_28 : decode prog_10_method_45_code 28 = .ok (.getfield 44, 3) := by decide +kernel
theorem d_Md_chosen_31 : decode prog_10_method_45_code 31 = .ok (.iload_n 1, 1) := by decide +kernel
theorem d_Md_chosen_32 : decode prog_10_method_45_code 32 = .ok (.iaload, 1) := by decide +kernel
theorem d_Md_chosen_33 : decode prog_10_method_45_code 33 = .ok (.goto 5, 3) := by decide +kernel
theorem d_Md_chosen_36 : decode prog_10_method_45_code 36 = .ok (.bipush (-4), 2) := by decide +kernel
theorem d_Md_chosen_38 : decode prog_10_method_45_code 38 = .ok (.ireturn, 1) := by decide +kernel
theorem d_Md_blamed_0 : decode prog_10_method_46_code 0 = .ok (.aload_n 0, 1) := by decide +kernel
theorem d_Md_blamed_1 : decode prog_10_method_46_code 1 = .ok (.getfield 202, 3) := by decide +kernel
theorem d_Md_blamed_4 : decode prog_10_method_46_code 4 = .ok (.ifCond .eq 25, 3) := by decide +kernel
theorem d_Md_blamed_7 : decode prog_10_method_46_code 7 = .ok (.iload_n 1, 1) := by decide +kernel
theorem d_Md_blamed_8 : decode prog_10_method_46_code 8 = .ok (.iconst 0, 1) := by decide +kernel
theorem d_Md_blamed_9 : decode prog_10_method_46_code 9 = .ok (.iconst 3, 1) := by decide +kernel
theorem d_Md_blamed_10 : decode prog_10_method_46_code 10 = .ok (.invokestatic 56, 3) := by decide +kernel
theorem d_Md_blamed_13 : decode prog_10_method_46_code 13 = .ok (.ifCond .eq 16, 3) := by decide +kernel
theorem d_Md_blamed_16 : decode prog_10_method_46_code 16 = .ok (.aload_n 0, 1) := by decide +kernel
theorem d_Md_blamed_17 : decode prog_10_method_46_code 17 = .ok (.getfield 47, 3) := by decide +kernel
theorem d_Md_blamed_20 : decode prog_10_method_46_code 20 = .ok (.iload_n 1, 1) := by decide +kernel
theorem d_Md_blamed_21 : decode prog_10_method_46_code 21 = .ok (.baload, 1) := by decide +kernel
theorem d_Md_blamed_22 : decode prog_10_method_46_code 22 = .ok (.ifCond .eq 7, 3) := by decide +kernel
theorem d_Md_blamed_25 : decode prog_10_method_46_code 25 = .ok (.iconst 1, 1) := by decide +kernel
theorem d_Md_blamed_26 : decode prog_10_method_46_code 26 = .ok (.goto 4, 3) := by decide +kernel
theorem d_Md_blamed_29 : decode prog_10_method_46_code 29 = .ok (.iconst 0, 1) := by decide +kernel
theorem d_Md_blamed_30 : decode prog_10_method_46_code 30 = .ok (.ireturn, 1) := by decide +kernel
theorem d_Md_unmet_0 : decode prog_10_method_47_code 0 = .ok (.aload_n 0, 1) := by decide +kernel
theorem d_Md_unmet_1 : decode prog_10_method_47_code 1 = .ok (.getfield 198, 3) := by decide +kernel
theorem d_Md_unmet_4 : decode prog_10_method_47_code 4 = .ok (.ifCond .ne 6, 3) := by decide +kernel
theorem d_Md_unmet_7 : decode prog_10_method_47_code 7 = .ok (.bipush (-4), 2) := by decide +kernel
theorem d_Md_unmet_9 : decode prog_10_method_47_code 9 = .ok (.ireturn, 1) := by decide +kernel
theorem d_Md_unmet_10 : decode prog_10_method_47_code 10 = .ok (.iconst 0, 1) := by decide +kernel
theorem d_Md_unmet_11 : decode prog_10_method_47_code 11 = .ok (.istore_n 1, 1) := by decide +kernel
theorem d_Md_unmet_12 : decode prog_10_method_47_code 12 = .ok (.iconst 0, 1) := by decide +kernel
theorem d_Md_unmet_13 : decode prog_10_method_47_code 13 = .ok (.istore_n 2, 1) := by decide +kernel
theorem d_Md_unmet_14 : decode prog_10_method_47_code 14 = .ok (.iload_n 2, 1) := by decide +kernel
theorem d_Md_unmet_15 : decode prog_10_method_47_code 15 = .ok (.bipush 6, 2) := by decide +kernel
theorem d_Md_unmet_17 : decode prog_10_method_47_code 17 = .ok (.if_icmp .ge 21, 3) := by decide +kernel
theorem d_Md_unmet_20 : decode prog_10_method_47_code 20 = .ok (.aload_n 0, 1) := by decide +kernel
theorem d_Md_unmet_21 : decode prog_10_method_47_code 21 = .ok (.getfield 41, 3) := by decide +kernel
theorem d_Md_unmet_24 : decode prog_10_method_47_code 24 = .ok (.iload_n 2, 1) := by decide +kernel
theorem d_Md_unmet_25 : decode prog_10_method_47_code 25 = .ok (.aload_n 0, 1) := by decide +kernel
theorem d_Md_unmet_26 : decode prog_10_method_47_code 26 = .ok (.getfield 44, 3) := by decide +kernel
theorem d_Md_unmet_29 : decode prog_10_method_47_code 29 = .ok (.iload_n 2, 1) := by decide +kernel
theorem d_Md_unmet_30 : decode prog_10_method_47_code 30 = .ok (.iaload, 1) := by decide +kernel
theorem d_Md_unmet_31 : decode prog_10_method_47_code 31 = .ok (.iastore, 1) := by decide +kernel
theorem d_Md_unmet_32 : decode prog_10_method_47_code 32 = .ok (.iinc 2 1, 3) := by decide +kernel
theorem d_Md_unmet_35 : decode prog_10_method_47_code 35 = .ok (.goto (-21), 3) := by decide +kernel
theorem d_Md_unmet_38 : decode prog_10_method_47_code 38 = .ok (.iconst 0, 1) := by decide +kernel
theorem d_Md_unmet_39 : decode prog_10_method_47_code 39 = .ok (.istore_n 2, 1) := by decide +kernel
theorem d_Md_unmet_40 : decode prog_10_method_47_code 40 = .ok (.iload_n 2, 1) := by decide +kernel
theorem d_Md_unmet_41 : decode prog_10_method_47_code 41 = .ok (.aload_n 0, 1) := by decide +kernel
theorem d_Md_unmet_42 : decode prog_10_method_47_code 42 = .ok (.getfield 167, 3) := by decide +kernel
theorem d_Md_unmet_45 : decode prog_10_method_47_code 45 = .ok (.if_icmp .ge 28, 3) := by decide +kernel
theorem d_Md_unmet_48 : decode prog_10_method_47_code 48 = .ok (.aload_n 0, 1) := by decide +kernel
theorem d_Md_unmet_49 : decode prog_10_method_47_code 49 = .ok (.aload_n 0, 1) := by decide +kernel
theorem d_Md_unmet_50 : decode prog_10_method_47_code 50 = .ok (.getfield 35, 3) := by decide +kernel
theorem d_Md_unmet_53 : decode prog_10_method_47_code 53 = .ok (.iload_n 2, 1) := by decide +kernel
theorem d_Md_unmet_54 : decode prog_10_method_47_code 54 = .ok (.iaload, 1) := by decide +kernel
theorem d_Md_unmet_55 : decode prog_10_method_47_code 55 = .ok (.iconst 2, 1) := by decide +kernel
theorem d_Md_unmet_56 : decode prog_10_method_47_code 56 = .ok (.iload_n 2, 1) := by decide +kernel
theorem d_Md_unmet_57 : decode prog_10_method_47_code 57 = .ok (.iadd, 1) := by decide +kernel
theorem d_Md_unmet_58 : decode prog_10_method_47_code 58 = .ok (.invokevirtual 179, 3) := by decide +kernel
theorem d_Md_unmet_61 : decode prog_10_method_47_code 61 = .ok (.ifCond .ne 6, 3) := by decide +kernel
theorem d_Md_unmet_64 : decode prog_10_method_47_code 64 = .ok (.iinc 1 1, 3) := by decide +kernel
theorem d_Md_unmet_67 : decode prog_10_method_47_code 67 = .ok (.iinc 2 1, 3) := by decide +kernel
theorem d_Md_unmet_70 : decode prog_10_method_47_code 70 = .ok (.goto (-30), 3) := by decide +kernel
theorem d_Md_unmet_73 : decode prog_10_method_47_code 73 = .ok (.iload_n 1, 1) := by decide +kernel
theorem d_Md_unmet_74 : decode prog_10_method_47_code 74 = .ok (.ireturn, 1) := by decide +kernel
theorem d_Md_count_0 : decode prog_10_method_48_code 0 = .ok (.iconst 0, 1) := by decide +kernel
theorem d_Md_count_1 : decode prog_10_method_48_code 1 = .ok (.istore_n 2, 1) := by decide +kernel
theorem d_Md_count_2 : decode prog_10_method_48_code 2 = .ok (.iconst 0, 1) := by decide +kernel
theorem d_Md_count_3 : decode prog_10_method_48_code 3 = .ok (.istore_n 3, 1) := by decide +kernel
theorem d_Md_count_4 : decode prog_10_method_48_code 4 = .ok (.iconst 0, 1) := by decide +kernel
theorem d_Md_count_5 : decode prog_10_method_48_code 5 = .ok (.istore 4, 2) := by decide +kernel
theorem d_Md_count_7 : decode prog_10_method_48_code 7 = .ok (.iconst 0, 1) := by decide +kernel
theorem d_Md_count_8 : decode prog_10_method_48_code 8 = .ok (.istore 5, 2) := by decide +kernel
theorem d_Md_count_10 : decode prog_10_method_48_code 10 = .ok (.iload 5, 2) := by decide +kernel
theorem d_Md_count_12 : decode prog_10_method_48_code 12 = .ok (.bipush 24, 2) := by decide +kernel
theorem d_Md_count_14 : decode prog_10_method_48_code 14 = .ok (.if_icmp .ge 70, 3) := by decide +kernel
theorem d_Md_count_17 : decode prog_10_method_48_code 17 = .ok (.iload 5, 2) := by decide +kernel
theorem d_Md_count_19 : decode prog_10_method_48_code 19 = .ok (.iconst 4, 1) := by decide +kernel
theorem d_Md_count_20 : decode prog_10_method_48_code 20 = .ok (.irem, 1) := by decide +kernel
theorem d_Md_count_21 : decode prog_10_method_48_code 21 = .ok (.aload_n 0, 1) := by decide +kernel
theorem d_Md_count_22 : decode prog_10_method_48_code 22 = .ok (.getfield 16, 3) := by decide +kernel
theorem d_Md_count_25 : decode prog_10_method_48_code 25 = .ok (.iload 5, 2) := by decide +kernel
theorem d_Md_count_27 : decode prog_10_method_48_code 27 = .ok (.iconst 4, 1) := by decide +kernel
theorem d_Md_count_28 : decode prog_10_method_48_code 28 = .ok (.idiv, 1) := by decide +kernel
theorem d_Md_count_29 : decode prog_10_method_48_code 29 = .ok (.iaload, 1) := by decide +kernel
theorem d_Md_count_30 : decode prog_10_method_48_code 30 = .ok (.if_icmp .ge 7, 3) := by decide +kernel
theorem d_Md_count_33 : decode prog_10_method_48_code 33 = .ok (.iconst 1, 1) := by decide +kernel
theorem d_Md_count_34 : decode prog_10_method_48_code 34 = .ok (.goto 4, 3) := by decide +kernel
theorem d_Md_count_37 : decode prog_10_method_48_code 37 = .ok (.iconst 0, 1) := by decide +kernel
theorem d_Md_count_38 : decode prog_10_method_48_code 38 = .ok (.istore 6, 2) := by decide +kernel
theorem d_Md_count_40 : decode prog_10_method_48_code 40 = .ok (.iload 6, 2) := by decide +kernel
theorem d_Md_count_42 : decode prog_10_method_48_code 42 = .ok (.ifCond .eq 6, 3) := by decide +kernel
theorem d_Md_count_45 : decode prog_10_method_48_code 45 = .ok (.iinc 2 1, 3) := by decide +kernel
theorem d_Md_count_48 : decode prog_10_method_48_code 48 = .ok (.iload 6, 2) := by decide +kernel
theorem d_Md_count_50 : decode prog_10_method_48_code 50 = .ok (.ifCond .eq 16, 3) := by decide +kernel
theorem d_Md_count_53 : decode prog_10_method_48_code 53 = .ok (.aload_n 0, 1) := by decide +kernel
theorem d_Md_count_54 : decode prog_10_method_48_code 54 = .ok (.getfield 19, 3) := by decide +kernel
theorem d_Md_count_57 : decode prog_10_method_48_code 57 = .ok (.iload 5, 2) := by decide +kernel
theorem d_Md_count_59 : decode prog_10_method_48_code 59 = .ok (.baload, 1) := by decide +kernel
theorem d_Md_count_60 : decode prog_10_method_48_code 60 = .ok (.ifCond .eq 6, 3) := by decide +kernel
theorem d_Md_count_63 : decode prog_10_method_48_code 63 = .ok (.iinc 3 1, 3) := by decide +kernel
theorem d_Md_count_66 : decode prog_10_method_48_code 66 = .ok (.iload 4, 2) := by decide +kernel
theorem d_Md_count_68 : decode prog_10_method_48_code 68 = .ok (.aload_n 0, 1) := by decide +kernel
theorem d_Md_count_69 : decode prog_10_method_48_code 69 = .ok (.getfield 26, 3) := by decide +kernel
theorem d_Md_count_72 : decode prog_10_method_48_code 72 = .ok (.iload 5, 2) := by decide +kernel
theorem d_Md_count_74 : decode prog_10_method_48_code 74 = .ok (.iaload, 1) := by decide +kernel
theorem d_Md_count_75 : decode prog_10_method_48_code 75 = .ok (.iadd, 1) := by decide +kernel
theorem d_Md_count_76 : decode prog_10_method_48_code 76 = .ok (.istore 4, 2) := by decide +kernel
theorem d_Md_count_78 : decode prog_10_method_48_code 78 = .ok (.iinc 5 1, 3) := by decide +kernel
theorem d_Md_count_81 : decode prog_10_method_48_code 81 = .ok (.goto (-71), 3) := by decide +kernel
theorem d_Md_count_84 : decode prog_10_method_48_code 84 = .ok (.iload_n 1, 1) := by decide +kernel
theorem d_Md_count_85 : decode prog_10_method_48_code 85 = .ok (.iconst 0, 1) := by decide +kernel
theorem d_Md_count_86 : decode prog_10_method_48_code 86 = .ok (.iconst 1, 1) := by decide +kernel
theorem d_Md_count_87 : decode prog_10_method_48_code 87 = .ok (.invokestatic 56, 3) := by decide +kernel
theorem d_Md_count_90 : decode prog_10_method_48_code 90 = .ok (.ifCond .eq 21, 3) := by decide +kernel
theorem d_Md_count_93 : decode prog_10_method_48_code 93 = .ok (.iload_n 1, 1) := by decide +kernel
theorem d_Md_count_94 : decode prog_10_method_48_code 94 = .ok (.ifCond .ne 12, 3) := by decide +kernel
theorem d_Md_count_97 : decode prog_10_method_48_code 97 = .ok (.aload_n 0, 1) := by decide +kernel
theorem d_Md_count_98 : decode prog_10_method_48_code 98 = .ok (.getfield 13, 3) := by decide +kernel
theorem d_Md_count_101 : decode prog_10_method_48_code 101 = .ok (.iconst 0, 1) := by decide +kernel
theorem d_Md_count_102 : decode prog_10_method_48_code 102 = .ok (.iaload, 1) := by decide +kernel
theorem d_Md_count_103 : decode prog_10_method_48_code 103 = .ok (.goto 7, 3) := by decide +kernel
theorem d_Md_count_106 : decode prog_10_method_48_code 106 = .ok (.aload_n 0, 1) := by decide +kernel
theorem d_Md_count_107 : decode prog_10_method_48_code 107 = .ok (.getfield 167, 3) := by decide +kernel
theorem d_Md_count_110 : decode prog_10_method_48_code 110 = .ok (.ireturn, 1) := by decide +kernel
theorem d_Md_count_111 : decode prog_10_method_48_code 111 = .ok (.iload_n 1, 1) := by decide +kernel
theorem d_Md_count_112 : decode prog_10_method_48_code 112 = .ok (.iconst 2, 1) := by decide +kernel
theorem d_Md_count_113 : decode prog_10_method_48_code 113 = .ok (.iconst 3, 1) := by decide +kernel
theorem d_Md_count_114 : decode prog_10_method_48_code 114 = .ok (.invokestatic 56, 3) := by decide +kernel
theorem d_Md_count_117 : decode prog_10_method_48_code 117 = .ok (.ifCond .eq 14, 3) := by decide +kernel
theorem d_Md_count_120 : decode prog_10_method_48_code 120 = .ok (.iload_n 1, 1) := by decide +kernel
theorem d_Md_count_121 : decode prog_10_method_48_code 121 = .ok (.iconst 2, 1) := by decide +kernel
theorem d_Md_count_122 : decode prog_10_method_48_code 122 = .ok (.if_icmp .ne 7, 3) := by decide +kernel
theorem d_Md_count_125 : decode prog_10_method_48_code 125 = .ok (.iload_n 2, 1) := by decide +kernel
theorem d_Md_count_126 : decode prog_10_method_48_code 126 = .ok (.goto 4, 3) := by decide +kernel
theorem d_Md_count_129 : decode prog_10_method_48_code 129 = .ok (.iload_n 3, 1) := by decide +kernel
theorem d_Md_count_130 : decode prog_10_method_48_code 130 = .ok (.ireturn, 1) := by decide +kernel
theorem d_Md_count_131 : decode prog_10_method_48_code 131 = .ok (.iload_n 1, 1) := by decide +kernel
theorem d_Md_count_132 : decode prog_10_method_48_code 132 = .ok (.iconst 4, 1) := by decide +kernel
theorem d_Md_count_133 : decode prog_10_method_48_code 133 = .ok (.if_icmp .ne 8, 3) := by decide +kernel
theorem d_Md_count_136 : decode prog_10_method_48_code 136 = .ok (.iload 4, 2) := by decide +kernel
theorem d_Md_count_138 : decode prog_10_method_48_code 138 = .ok (.goto 4, 3) := by decide +kernel
theorem d_Md_count_141 : decode prog_10_method_48_code 141 = .ok (.iconst (-1), 1) := by decide +kernel
theorem d_Md_count_142 : decode prog_10_method_48_code 142 = .ok (.ireturn, 1) := by decide +kernel
end
section
/-! FLOW: cuts (where ways join), loops, frames -/
theorem rz_cut {Γ : rz_G} {X : rz_X} {rm : Room} {post : Option Value → rz_H → Prop} {K : rz_K} {cells slots pc : Nat} {L : List (Nat × Value)} {st : List Value} {h : rz_H} {α : Type} (c' s' pc' : Nat) (P : α → Prop) (L' : α → List (Nat × Value)) (st' : α → List Value) (h' : α → rz_H) (k : ∀ x, P x → Wk Γ X rm post K c' s' pc' (L' x) (st' x) (h' x)) (k2 : (∀ x, P x → Wk Γ X rm post K c' s' pc' (L' x) (st' x) (h' x)) → Wk Γ X rm post K cells slots pc L st h) : Wk Γ X rm post K cells slots pc L st h := k2 k
theorem rz_loop {Γ : rz_G} {X : rz_X} {rm : Room} {post : Option Value → rz_H → Prop} {K : rz_K} {cells slots pc : Nat} {L : List (Nat × Value)} {st : List Value} {h : rz_H} {α : Type} (c' s' pc' : Nat) (μ : α → Nat) (P : α → Prop) (L' : α → List (Nat × Value)) (st' : α → List Value) (h' : α → rz_H) (step : ∀ x, P x → (∀ y, P y → μ y < μ x → Wk Γ X rm post K c' s' pc' (L' y) (st' y) (h' y)) → Wk Γ X rm post K c' s' pc' (L' x) (st' x) (h' x)) (k2 : (∀ x, P x → Wk Γ X rm post K c' s' pc' (L' x) (st' x) (h' x)) → Wk Γ X rm post K cells slots pc L st h) : Wk Γ X rm post K cells slots pc L st h := by
  have key : ∀ (n : Nat) (x : α), μ x < n → P x → Wk Γ X rm post K c' s' pc' (L' x) (st' x) (h' x) := by
    intro n
    induction n with
    | zero => intro x hx; exact absurd hx (Nat.not_lt_zero _)
    | succ n ih => intro x hx hp; exact step x hp (fun y hy hlt => ih y (by omega) hy)
  exact k2 (fun x hx => key (μ x + 1) x (Nat.lt_succ_self _) hx)
/-- cells of roles that rs doesn't name stay as they are -/
def rz_fr (rs : List Nat) (h h' : rz_H) : Prop := ∀ (a : Nat) (t : Nat × Nat) (e : va_E), h a = some (t, e) → t.1 ∉ rs → h' a = some (t, e)
theorem rz_fr.rf {rs : List Nat} {h : rz_H} : rz_fr rs h h := fun _ _ _ ha _ => ha
theorem rz_fr.tr {rs : List Nat} {h h1 h2 : rz_H} (a : rz_fr rs h h1) (b : rz_fr rs h1 h2) : rz_fr rs h h2 := fun q t e ha hn => b q t e (a q t e ha hn) hn
theorem rz_fr.up {rs : List Nat} {h h1 : rz_H} {a : Nat} {t : Nat × Nat} {e e' : va_E} (hf : rz_fr rs h h1) (ha : h1 a = some (t, e)) (ht : t.1 ∈ rs) : rz_fr rs h (rz_up h1 a (t, e')) := fun q t2 e2 hq hn => rz_up_t ha (hf q t2 e2 hq hn) (fun z => hn (by rw [z]; exact ht))
theorem rz_fr.new {rs : List Nat} {h h1 : rz_H} {a : Nat} {x : (Nat × Nat) × va_E} (hf : rz_fr rs h h1) (ha : h1 a = none) : rz_fr rs h (rz_up h1 a x) := fun q t2 e2 hq hn => rz_up_f ha (hf q t2 e2 hq hn)
theorem rz_fr.mono {rs rs' : List Nat} {h h1 : rz_H} (hf : rz_fr rs h h1) (hs : ∀ r ∈ rs, r ∈ rs') : rz_fr rs' h h1 := fun q t e ha hn => hf q t e ha (fun z => hn (hs _ z))
theorem rz_Leq {Γ : rz_G} {X : rz_X} {rm : Room} {post : Option Value → rz_H → Prop} {K : rz_K} {cells slots pc : Nat} {L : List (Nat × Value)} {st : List Value} {h : rz_H} (L' : List (Nat × Value)) (e : L = L') (k : Wk Γ X rm post K cells slots pc L' st h) : Wk Γ X rm post K cells slots pc L st h := e ▸ k
theorem bi01 (b : Bool) : bi b = 0 ∨ bi b = 1 := by cases b <;> decide
theorem rz_Seq {Γ : rz_G} {X : rz_X} {rm : Room} {post : Option Value → rz_H → Prop} {K : rz_K} {cells slots pc : Nat} {L : List (Nat × Value)} {st : List Value} {h : rz_H} (st' : List Value) (e : st = st') (k : Wk Γ X rm post K cells slots pc L st' h) : Wk Γ X rm post K cells slots pc L st h := e ▸ k
theorem rz_Lsub {Γ : rz_G} {X : rz_X} {rm : Room} {post : Option Value → rz_H → Prop} {K : rz_K} {cells slots pc : Nat} {L : List (Nat × Value)} {st : List Value} {h : rz_H} (L' : List (Nat × Value)) (ks : List Nat) (e : lv_pick L ks = L') (k : Wk Γ X rm post K cells slots pc L' st h) : Wk Γ X rm post K cells slots pc L st h := fun C H locs ls hO hS hl => k C H locs ls hO hS (lv_sub hl ks e)
end
section
/-! SPEC 1: characters, versions, items, ranks, by an integer's function of places -/
def mIn (v lo hi : Int) : Bool := decide (lo ≤ v) && decide (v ≤ hi)
theorem mIn_t {v lo hi : Int} : mIn v lo hi = true ↔ lo ≤ v ∧ v ≤ hi := by simp [mIn]
theorem mIn_f {v lo hi : Int} : mIn v lo hi = false ↔ ¬ (lo ≤ v ∧ v ≤ hi) := by rw [← mIn_t]; simp
def isD (c : Int) : Bool := mIn c 48 57
def isL (c : Int) : Bool := mIn c 97 122
def isS (c : Int) : Bool := decide (c = 46) || decide (c = 45)
def mMay (c : Int) : Bool := isD c || isL c || mIn c 40 41 || mIn c 44 46 || decide (c = 91) || decide (c = 93)
/-- a version, letter by letter: n are left, the run of digits, whether a mark stands before -/
def verF (f : Int → Int) : Nat → Int → Int → Bool → Bool
  | 0, _, _, gap => !gap
  | n + 1, i, run, gap =>
    if (!isS (f i) && !isD (f i) && !isL (f i)) || (isS (f i) && gap) then false
    else if 9 < (if isD (f i) = true then run + 1 else 0) then false
    else verF f n (i + 1) (if isD (f i) = true then run + 1 else 0) (isS (f i))
def ver (f : Int → Int) (lo hi : Int) : Bool := mIn (hi - lo) 1 12 && verF f (hi - lo).toNat lo 0 true
theorem verF_congr {f g : Int → Int} : ∀ (n : Nat) (i j run : Int) (gap : Bool), (∀ k : Nat, k < n → f (i + k) = g (j + k)) → verF f n i run gap = verF g n j run gap
  | 0, _, _, _, _, _ => rfl
  | n + 1, i, j, run, gap, h => by
    have h0 : f i = g j := by have := h 0 (by omega); simpa using this
    have ih := fun r b => verF_congr (f := f) (g := g) n (i + 1) (j + 1) r b (fun k hk => by have := h (k + 1) (by omega); rw [show i + 1 + (k : Int) = i + ((k + 1 : Nat) : Int) by omega, show j + 1 + (k : Int) = j + ((k + 1 : Nat) : Int) by omega]; exact this)
    simp only [verF, h0, ih]
/-- the first letter or digit from i on, at most n places on -/
def skF (f : Int → Int) : Nat → Int → Int
  | 0, i => i
  | n + 1, i => if (isD (f i) || isL (f i)) = true then i else skF f n (i + 1)
/-- the end of a row of its kind -/
def ruF (p : Int → Bool) (f : Int → Int) : Nat → Int → Int
  | 0, i => i
  | n + 1, i => if p (f i) = true then ruF p f n (i + 1) else i
theorem skF_in (f : Int → Int) : ∀ (n : Nat) (i : Int), i ≤ skF f n i ∧ skF f n i ≤ i + n
  | 0, i => by simp [skF]
  | n + 1, i => by
    have ih := skF_in f n (i + 1)
    simp only [skF]
    split
    · omega
    · omega
theorem ruF_in (p : Int → Bool) (f : Int → Int) : ∀ (n : Nat) (i : Int), i ≤ ruF p f n i ∧ ruF p f n i ≤ i + n
  | 0, i => by simp [ruF]
  | n + 1, i => by
    have ih := ruF_in p f n (i + 1)
    simp only [ruF]
    split
    · omega
    · omega
def itS (f : Int → Int) (p hi : Int) : Int := skF f (hi - p).toNat p
def itP (f : Int → Int) (a : Int) : Int → Bool := if isD (f a) = true then isD else isL
def itE (f : Int → Int) (p hi : Int) : Int := ruF (itP f (itS f p hi)) f (hi - itS f p hi).toNat (itS f p hi)
end
section
/-! the reference's state: M k j is place j of array k; scalars are M k 0 -/
abbrev md_F (ad : Nat → Nat) (M : Nat → Int → Int) : List Value := [.ref (ad 0), .ref (ad 1), .ref (ad 2), .ref (ad 3), .ref (ad 4), .ref (ad 5), .ref (ad 6), .ref (ad 7), vi (M 8 0), .ref (ad 9), .ref (ad 10), .ref (ad 11), vi (M 12 0), vi (M 13 0), .ref (ad 14), .ref (ad 15), .ref (ad 16), vi (M 17 0), vi (M 18 0), .ref (ad 19)]
def md_L : List (Nat × Nat × Nat) := [(0, 0, 3024), (1, 0, 126), (2, 0, 6), (3, 1, 24), (4, 1, 24), (5, 0, 24), (6, 0, 72), (7, 1, 72), (9, 0, 4), (10, 1, 4), (11, 0, 6), (14, 0, 6), (15, 1, 4), (16, 1, 6), (19, 0, 30)]
def MdAt (Γ : rz_G) (h : rz_H) (x : Nat) (ad : Nat → Nat) (M : Nat → Int → Int) : Prop := h x = some ((10, 0), .inr (3, md_F ad M)) ∧ ∀ q ∈ md_L, h (ad q.1) = some ((11, q.1), aI Γ q.2.1 q.2.2 (M q.1))
theorem md_a0 {Γ : rz_G} {h : rz_H} {x : Nat} {ad : Nat → Nat} {M : Nat → Int → Int} (hM : MdAt Γ h x ad M) : h (ad 0) = some ((11, 0), aI Γ 0 3024 (M 0)) := hM.2 (0, 0, 3024) (by decide)
theorem md_a1 {Γ : rz_G} {h : rz_H} {x : Nat} {ad : Nat → Nat} {M : Nat → Int → Int} (hM : MdAt Γ h x ad M) : h (ad 1) = some ((11, 1), aI Γ 0 126 (M 1)) := hM.2 (1, 0, 126) (by decide)
theorem md_a2 {Γ : rz_G} {h : rz_H} {x : Nat} {ad : Nat → Nat} {M : Nat → Int → Int} (hM : MdAt Γ h x ad M) : h (ad 2) = some ((11, 2), aI Γ 0 6 (M 2)) := hM.2 (2, 0, 6) (by decide)
theorem md_a3 {Γ : rz_G} {h : rz_H} {x : Nat} {ad : Nat → Nat} {M : Nat → Int → Int} (hM : MdAt Γ h x ad M) : h (ad 3) = some ((11, 3), aI Γ 1 24 (M 3)) := hM.2 (3, 1, 24) (by decide)
theorem md_a4 {Γ : rz_G} {h : rz_H} {x : Nat} {ad : Nat → Nat} {M : Nat → Int → Int} (hM : MdAt Γ h x ad M) : h (ad 4) = some ((11, 4), aI Γ 1 24 (M 4)) := hM.2 (4, 1, 24) (by decide)
theorem md_a5 {Γ : rz_G} {h : rz_H} {x : Nat} {ad : Nat → Nat} {M : Nat → Int → Int} (hM : MdAt Γ h x ad M) : h (ad 5) = some ((11, 5), aI Γ 0 24 (M 5)) := hM.2 (5, 0, 24) (by decide)
theorem md_a6 {Γ : rz_G} {h : rz_H} {x : Nat} {ad : Nat → Nat} {M : Nat → Int → Int} (hM : MdAt Γ h x ad M) : h (ad 6) = some ((11, 6), aI Γ 0 72 (M 6)) := hM.2 (6, 0, 72) (by decide)
theorem md_a7 {Γ : rz_G} {h : rz_H} {x : Nat} {ad : Nat → Nat} {M : Nat → Int → Int} (hM : MdAt Γ h x ad M) : h (ad 7) = some ((11, 7), aI Γ 1 72 (M 7)) := hM.2 (7, 1, 72) (by decide)
theorem md_a9 {Γ : rz_G} {h : rz_H} {x : Nat} {ad : Nat → Nat} {M : Nat → Int → Int} (hM : MdAt Γ h x ad M) : h (ad 9) = some ((11, 9), aI Γ 0 4 (M 9)) := hM.2 (9, 0, 4) (by decide)
theorem md_a10 {Γ : rz_G} {h : rz_H} {x : Nat} {ad : Nat → Nat} {M : Nat → Int → Int} (hM : MdAt Γ h x ad M) : h (ad 10) = some ((11, 10), aI Γ 1 4 (M 10)) := hM.2 (10, 1, 4) (by decide)
theorem md_a11 {Γ : rz_G} {h : rz_H} {x : Nat} {ad : Nat → Nat} {M : Nat → Int → Int} (hM : MdAt Γ h x ad M) : h (ad 11) = some ((11, 11), aI Γ 0 6 (M 11)) := hM.2 (11, 0, 6) (by decide)
theorem md_a14 {Γ : rz_G} {h : rz_H} {x : Nat} {ad : Nat → Nat} {M : Nat → Int → Int} (hM : MdAt Γ h x ad M) : h (ad 14) = some ((11, 14), aI Γ 0 6 (M 14)) := hM.2 (14, 0, 6) (by decide)
theorem md_a15 {Γ : rz_G} {h : rz_H} {x : Nat} {ad : Nat → Nat} {M : Nat → Int → Int} (hM : MdAt Γ h x ad M) : h (ad 15) = some ((11, 15), aI Γ 1 4 (M 15)) := hM.2 (15, 1, 4) (by decide)
theorem md_a16 {Γ : rz_G} {h : rz_H} {x : Nat} {ad : Nat → Nat} {M : Nat → Int → Int} (hM : MdAt Γ h x ad M) : h (ad 16) = some ((11, 16), aI Γ 1 6 (M 16)) := hM.2 (16, 1, 6) (by decide)
theorem md_a19 {Γ : rz_G} {h : rz_H} {x : Nat} {ad : Nat → Nat} {M : Nat → Int → Int} (hM : MdAt Γ h x ad M) : h (ad 19) = some ((11, 19), aI Γ 0 30 (M 19)) := hM.2 (19, 0, 30) (by decide)
def mu (M : Nat → Int → Int) (k : Nat) (g : Int → Int) : Nat → Int → Int := fun j => if j = k then g else M j
theorem mu_s (M : Nat → Int → Int) (k : Nat) (g : Int → Int) : mu M k g k = g := by simp [mu]
theorem mu_n {M : Nat → Int → Int} {k j : Nat} {g : Int → Int} (h : j ≠ k) : mu M k g j = M j := by simp [mu, h]
theorem mu_mu (M : Nat → Int → Int) (k : Nat) (g g2 : Int → Int) : mu (mu M k g) k g2 = mu M k g2 := by funext j; simp only [mu]; split <;> rfl
theorem md_nd : ∀ p ∈ md_L, ∀ q ∈ md_L, p.1 = q.1 → p = q := by decide
theorem md_sc : ∀ p ∈ md_L, p.1 ≠ 8 ∧ p.1 ≠ 12 ∧ p.1 ≠ 13 ∧ p.1 ≠ 17 ∧ p.1 ≠ 18 := by decide
theorem md_up {Γ : rz_G} {h : rz_H} {x : Nat} {ad : Nat → Nat} {M : Nat → Int → Int} (hM : MdAt Γ h x ad M) {q : Nat × Nat × Nat} (hq : q ∈ md_L) (g : Int → Int) : MdAt Γ (rz_up h (ad q.1) ((11, q.1), aI Γ q.2.1 q.2.2 g)) x ad (mu M q.1 g) := by
  obtain ⟨h8, h12, h13, h17, h18⟩ := md_sc q hq
  refine ⟨?_, fun p hp => ?_⟩
  · rw [rz_up_t (hM.2 q hq) hM.1 (by simp)]
    simp only [md_F, mu_n h8.symm, mu_n h12.symm, mu_n h13.symm, mu_n h17.symm, mu_n h18.symm]
  · by_cases e : p.1 = q.1
    · have := md_nd p hp q hq e
      subst this
      rw [rz_up_s, mu_s]
    · rw [rz_up_t (hM.2 q hq) (hM.2 p hp) (by simp [e]), mu_n e]
theorem md_ups {Γ : rz_G} {h : rz_H} {x : Nat} {ad : Nat → Nat} {M M' : Nat → Int → Int} (hM : MdAt Γ h x ad M) {fs : List Value} (hf : fs = md_F ad M') (hm : ∀ q ∈ md_L, M' q.1 = M q.1) : MdAt Γ (rz_up h x ((10, 0), .inr (3, fs))) x ad M' := by
  refine ⟨by rw [rz_up_s, hf], fun p hp => ?_⟩
  rw [rz_up_t hM.1 (hM.2 p hp) (by simp), hm p hp]
theorem md_st0 {Γ : rz_G} {X : rz_X} {rm : Room} {post : Option Value → rz_H → Prop} {K : rz_K} {cells slots pc : Nat} {L : List (Nat × Value)} {st : List Value} {h : rz_H} {h0 : rz_H} {x : Nat} {ad : Nat → Nat} {M : Nat → Int → Int} {i v : Int} (hM : MdAt Γ h x ad M) (hF : rz_fr [10, 11] h0 h) (hi : 0 ≤ i ∧ i < 3024 ∧ i ≤ 2147483647) (hd : decode X.1 pc = .ok (.iastore, 1)) (kk : ∀ h2 : rz_H, MdAt Γ h2 x ad (mu M 0 (rz_u (M 0) i v)) → rz_fr [10, 11] h0 h2 → Wk Γ X rm post K cells slots (pc + 1) L st h2) : Wk Γ X rm post K cells slots pc L (vi v :: vi i :: .ref (ad 0) :: st) h :=
  rz_iastore (md_a0 hM) (by decide) hi hd (kk _ (md_up hM (q := (0, 0, 3024)) (by decide) _) (hF.up (md_a0 hM) (by decide)))
theorem md_st1 {Γ : rz_G} {X : rz_X} {rm : Room} {post : Option Value → rz_H → Prop} {K : rz_K} {cells slots pc : Nat} {L : List (Nat × Value)} {st : List Value} {h : rz_H} {h0 : rz_H} {x : Nat} {ad : Nat → Nat} {M : Nat → Int → Int} {i v : Int} (hM : MdAt Γ h x ad M) (hF : rz_fr [10, 11] h0 h) (hi : 0 ≤ i ∧ i < 126 ∧ i ≤ 2147483647) (hd : decode X.1 pc = .ok (.iastore, 1)) (kk : ∀ h2 : rz_H, MdAt Γ h2 x ad (mu M 1 (rz_u (M 1) i v)) → rz_fr [10, 11] h0 h2 → Wk Γ X rm post K cells slots (pc + 1) L st h2) : Wk Γ X rm post K cells slots pc L (vi v :: vi i :: .ref (ad 1) :: st) h :=
  rz_iastore (md_a1 hM) (by decide) hi hd (kk _ (md_up hM (q := (1, 0, 126)) (by decide) _) (hF.up (md_a1 hM) (by decide)))
theorem md_st2 {Γ : rz_G} {X : rz_X} {rm : Room} {post : Option Value → rz_H → Prop} {K : rz_K} {cells slots pc : Nat} {L : List (Nat × Value)} {st : List Value} {h : rz_H} {h0 : rz_H} {x : Nat} {ad : Nat → Nat} {M : Nat → Int → Int} {i v : Int} (hM : MdAt Γ h x ad M) (hF : rz_fr [10, 11] h0 h) (hi : 0 ≤ i ∧ i < 6 ∧ i ≤ 2147483647) (hd : decode X.1 pc = .ok (.iastore, 1)) (kk : ∀ h2 : rz_H, MdAt Γ h2 x ad (mu M 2 (rz_u (M 2) i v)) → rz_fr [10, 11] h0 h2 → Wk Γ X rm post K cells slots (pc + 1) L st h2) : Wk Γ X rm post K cells slots pc L (vi v :: vi i :: .ref (ad 2) :: st) h :=
  rz_iastore (md_a2 hM) (by decide) hi hd (kk _ (md_up hM (q := (2, 0, 6)) (by decide) _) (hF.up (md_a2 hM) (by decide)))
theorem md_st3 {Γ : rz_G} {X : rz_X} {rm : Room} {post : Option Value → rz_H → Prop} {K : rz_K} {cells slots pc : Nat} {L : List (Nat × Value)} {st : List Value} {h : rz_H} {h0 : rz_H} {x : Nat} {ad : Nat → Nat} {M : Nat → Int → Int} {i v : Int} (hM : MdAt Γ h x ad M) (hF : rz_fr [10, 11] h0 h) (hi : 0 ≤ i ∧ i < 24 ∧ i ≤ 2147483647) (hv : v = 0 ∨ v = 1) (hd : decode X.1 pc = .ok (.bastore, 1)) (kk : ∀ h2 : rz_H, MdAt Γ h2 x ad (mu M 3 (rz_u (M 3) i v)) → rz_fr [10, 11] h0 h2 → Wk Γ X rm post K cells slots (pc + 1) L st h2) : Wk Γ X rm post K cells slots pc L (vi v :: vi i :: .ref (ad 3) :: st) h :=
  rz_zastore (md_a3 hM) (by decide) hi hv hd (kk _ (md_up hM (q := (3, 1, 24)) (by decide) _) (hF.up (md_a3 hM) (by decide)))
theorem md_st4 {Γ : rz_G} {X : rz_X} {rm : Room} {post : Option Value → rz_H → Prop} {K : rz_K} {cells slots pc : Nat} {L : List (Nat × Value)} {st : List Value} {h : rz_H} {h0 : rz_H} {x : Nat} {ad : Nat → Nat} {M : Nat → Int → Int} {i v : Int} (hM : MdAt Γ h x ad M) (hF : rz_fr [10, 11] h0 h) (hi : 0 ≤ i ∧ i < 24 ∧ i ≤ 2147483647) (hv : v = 0 ∨ v = 1) (hd : decode X.1 pc = .ok (.bastore, 1)) (kk : ∀ h2 : rz_H, MdAt Γ h2 x ad (mu M 4 (rz_u (M 4) i v)) → rz_fr [10, 11] h0 h2 → Wk Γ X rm post K cells slots (pc + 1) L st h2) : Wk Γ X rm post K cells slots pc L (vi v :: vi i :: .ref (ad 4) :: st) h :=
  rz_zastore (md_a4 hM) (by decide) hi hv hd (kk _ (md_up hM (q := (4, 1, 24)) (by decide) _) (hF.up (md_a4 hM) (by decide)))
theorem md_st5 {Γ : rz_G} {X : rz_X} {rm : Room} {post : Option Value → rz_H → Prop} {K : rz_K} {cells slots pc : Nat} {L : List (Nat × Value)} {st : List Value} {h : rz_H} {h0 : rz_H} {x : Nat} {ad : Nat → Nat} {M : Nat → Int → Int} {i v : Int} (hM : MdAt Γ h x ad M) (hF : rz_fr [10, 11] h0 h) (hi : 0 ≤ i ∧ i < 24 ∧ i ≤ 2147483647) (hd : decode X.1 pc = .ok (.iastore, 1)) (kk : ∀ h2 : rz_H, MdAt Γ h2 x ad (mu M 5 (rz_u (M 5) i v)) → rz_fr [10, 11] h0 h2 → Wk Γ X rm post K cells slots (pc + 1) L st h2) : Wk Γ X rm post K cells slots pc L (vi v :: vi i :: .ref (ad 5) :: st) h :=
  rz_iastore (md_a5 hM) (by decide) hi hd (kk _ (md_up hM (q := (5, 0, 24)) (by decide) _) (hF.up (md_a5 hM) (by decide)))
theorem md_st6 {Γ : rz_G} {X : rz_X} {rm : Room} {post : Option Value → rz_H → Prop} {K : rz_K} {cells slots pc : Nat} {L : List (Nat × Value)} {st : List Value} {h : rz_H} {h0 : rz_H} {x : Nat} {ad : Nat → Nat} {M : Nat → Int → Int} {i v : Int} (hM : MdAt Γ h x ad M) (hF : rz_fr [10, 11] h0 h) (hi : 0 ≤ i ∧ i < 72 ∧ i ≤ 2147483647) (hd : decode X.1 pc = .ok (.iastore, 1)) (kk : ∀ h2 : rz_H, MdAt Γ h2 x ad (mu M 6 (rz_u (M 6) i v)) → rz_fr [10, 11] h0 h2 → Wk Γ X rm post K cells slots (pc + 1) L st h2) : Wk Γ X rm post K cells slots pc L (vi v :: vi i :: .ref (ad 6) :: st) h :=
  rz_iastore (md_a6 hM) (by decide) hi hd (kk _ (md_up hM (q := (6, 0, 72)) (by decide) _) (hF.up (md_a6 hM) (by decide)))
theorem md_st7 {Γ : rz_G} {X : rz_X} {rm : Room} {post : Option Value → rz_H → Prop} {K : rz_K} {cells slots pc : Nat} {L : List (Nat × Value)} {st : List Value} {h : rz_H} {h0 : rz_H} {x : Nat} {ad : Nat → Nat} {M : Nat → Int → Int} {i v : Int} (hM : MdAt Γ h x ad M) (hF : rz_fr [10, 11] h0 h) (hi : 0 ≤ i ∧ i < 72 ∧ i ≤ 2147483647) (hv : v = 0 ∨ v = 1) (hd : decode X.1 pc = .ok (.bastore, 1)) (kk : ∀ h2 : rz_H, MdAt Γ h2 x ad (mu M 7 (rz_u (M 7) i v)) → rz_fr [10, 11] h0 h2 → Wk Γ X rm post K cells slots (pc + 1) L st h2) : Wk Γ X rm post K cells slots pc L (vi v :: vi i :: .ref (ad 7) :: st) h :=
  rz_zastore (md_a7 hM) (by decide) hi hv hd (kk _ (md_up hM (q := (7, 1, 72)) (by decide) _) (hF.up (md_a7 hM) (by decide)))
theorem md_st9 {Γ : rz_G} {X : rz_X} {rm : Room} {post : Option Value → rz_H → Prop} {K : rz_K} {cells slots pc : Nat} {L : List (Nat × Value)} {st : List Value} {h : rz_H} {h0 : rz_H} {x : Nat} {ad : Nat → Nat} {M : Nat → Int → Int} {i v : Int} (hM : MdAt Γ h x ad M) (hF : rz_fr [10, 11] h0 h) (hi : 0 ≤ i ∧ i < 4 ∧ i ≤ 2147483647) (hd : decode X.1 pc = .ok (.iastore, 1)) (kk : ∀ h2 : rz_H, MdAt Γ h2 x ad (mu M 9 (rz_u (M 9) i v)) → rz_fr [10, 11] h0 h2 → Wk Γ X rm post K cells slots (pc + 1) L st h2) : Wk Γ X rm post K cells slots pc L (vi v :: vi i :: .ref (ad 9) :: st) h :=
  rz_iastore (md_a9 hM) (by decide) hi hd (kk _ (md_up hM (q := (9, 0, 4)) (by decide) _) (hF.up (md_a9 hM) (by decide)))
theorem md_st10 {Γ : rz_G} {X : rz_X} {rm : Room} {post : Option Value → rz_H → Prop} {K : rz_K} {cells slots pc : Nat} {L : List (Nat × Value)} {st : List Value} {h : rz_H} {h0 : rz_H} {x : Nat} {ad : Nat → Nat} {M : Nat → Int → Int} {i v : Int} (hM : MdAt Γ h x ad M) (hF : rz_fr [10, 11] h0 h) (hi : 0 ≤ i ∧ i < 4 ∧ i ≤ 2147483647) (hv : v = 0 ∨ v = 1) (hd : decode X.1 pc = .ok (.bastore, 1)) (kk : ∀ h2 : rz_H, MdAt Γ h2 x ad (mu M 10 (rz_u (M 10) i v)) → rz_fr [10, 11] h0 h2 → Wk Γ X rm post K cells slots (pc + 1) L st h2) : Wk Γ X rm post K cells slots pc L (vi v :: vi i :: .ref (ad 10) :: st) h :=
  rz_zastore (md_a10 hM) (by decide) hi hv hd (kk _ (md_up hM (q := (10, 1, 4)) (by decide) _) (hF.up (md_a10 hM) (by decide)))
theorem md_st11 {Γ : rz_G} {X : rz_X} {rm : Room} {post : Option Value → rz_H → Prop} {K : rz_K} {cells slots pc : Nat} {L : List (Nat × Value)} {st : List Value} {h : rz_H} {h0 : rz_H} {x : Nat} {ad : Nat → Nat} {M : Nat → Int → Int} {i v : Int} (hM : MdAt Γ h x ad M) (hF : rz_fr [10, 11] h0 h) (hi : 0 ≤ i ∧ i < 6 ∧ i ≤ 2147483647) (hd : decode X.1 pc = .ok (.iastore, 1)) (kk : ∀ h2 : rz_H, MdAt Γ h2 x ad (mu M 11 (rz_u (M 11) i v)) → rz_fr [10, 11] h0 h2 → Wk Γ X rm post K cells slots (pc + 1) L st h2) : Wk Γ X rm post K cells slots pc L (vi v :: vi i :: .ref (ad 11) :: st) h :=
  rz_iastore (md_a11 hM) (by decide) hi hd (kk _ (md_up hM (q := (11, 0, 6)) (by decide) _) (hF.up (md_a11 hM) (by decide)))
theorem md_st14 {Γ : rz_G} {X : rz_X} {rm : Room} {post : Option Value → rz_H → Prop} {K : rz_K} {cells slots pc : Nat} {L : List (Nat × Value)} {st : List Value} {h : rz_H} {h0 : rz_H} {x : Nat} {ad : Nat → Nat} {M : Nat → Int → Int} {i v : Int} (hM : MdAt Γ h x ad M) (hF : rz_fr [10, 11] h0 h) (hi : 0 ≤ i ∧ i < 6 ∧ i ≤ 2147483647) (hd : decode X.1 pc = .ok (.iastore, 1)) (kk : ∀ h2 : rz_H, MdAt Γ h2 x ad (mu M 14 (rz_u (M 14) i v)) → rz_fr [10, 11] h0 h2 → Wk Γ X rm post K cells slots (pc + 1) L st h2) : Wk Γ X rm post K cells slots pc L (vi v :: vi i :: .ref (ad 14) :: st) h :=
  rz_iastore (md_a14 hM) (by decide) hi hd (kk _ (md_up hM (q := (14, 0, 6)) (by decide) _) (hF.up (md_a14 hM) (by decide)))
theorem md_st15 {Γ : rz_G} {X : rz_X} {rm : Room} {post : Option Value → rz_H → Prop} {K : rz_K} {cells slots pc : Nat} {L : List (Nat × Value)} {st : List Value} {h : rz_H} {h0 : rz_H} {x : Nat} {ad : Nat → Nat} {M : Nat → Int → Int} {i v : Int} (hM : MdAt Γ h x ad M) (hF : rz_fr [10, 11] h0 h) (hi : 0 ≤ i ∧ i < 4 ∧ i ≤ 2147483647) (hv : v = 0 ∨ v = 1) (hd : decode X.1 pc = .ok (.bastore, 1)) (kk : ∀ h2 : rz_H, MdAt Γ h2 x ad (mu M 15 (rz_u (M 15) i v)) → rz_fr [10, 11] h0 h2 → Wk Γ X rm post K cells slots (pc + 1) L st h2) : Wk Γ X rm post K cells slots pc L (vi v :: vi i :: .ref (ad 15) :: st) h :=
  rz_zastore (md_a15 hM) (by decide) hi hv hd (kk _ (md_up hM (q := (15, 1, 4)) (by decide) _) (hF.up (md_a15 hM) (by decide)))
theorem md_st16 {Γ : rz_G} {X : rz_X} {rm : Room} {post : Option Value → rz_H → Prop} {K : rz_K} {cells slots pc : Nat} {L : List (Nat × Value)} {st : List Value} {h : rz_H} {h0 : rz_H} {x : Nat} {ad : Nat → Nat} {M : Nat → Int → Int} {i v : Int} (hM : MdAt Γ h x ad M) (hF : rz_fr [10, 11] h0 h) (hi : 0 ≤ i ∧ i < 6 ∧ i ≤ 2147483647) (hv : v = 0 ∨ v = 1) (hd : decode X.1 pc = .ok (.bastore, 1)) (kk : ∀ h2 : rz_H, MdAt Γ h2 x ad (mu M 16 (rz_u (M 16) i v)) → rz_fr [10, 11] h0 h2 → Wk Γ X rm post K cells slots (pc + 1) L st h2) : Wk Γ X rm post K cells slots pc L (vi v :: vi i :: .ref (ad 16) :: st) h :=
  rz_zastore (md_a16 hM) (by decide) hi hv hd (kk _ (md_up hM (q := (16, 1, 6)) (by decide) _) (hF.up (md_a16 hM) (by decide)))
theorem md_st19 {Γ : rz_G} {X : rz_X} {rm : Room} {post : Option Value → rz_H → Prop} {K : rz_K} {cells slots pc : Nat} {L : List (Nat × Value)} {st : List Value} {h : rz_H} {h0 : rz_H} {x : Nat} {ad : Nat → Nat} {M : Nat → Int → Int} {i v : Int} (hM : MdAt Γ h x ad M) (hF : rz_fr [10, 11] h0 h) (hi : 0 ≤ i ∧ i < 30 ∧ i ≤ 2147483647) (hd : decode X.1 pc = .ok (.iastore, 1)) (kk : ∀ h2 : rz_H, MdAt Γ h2 x ad (mu M 19 (rz_u (M 19) i v)) → rz_fr [10, 11] h0 h2 → Wk Γ X rm post K cells slots (pc + 1) L st h2) : Wk Γ X rm post K cells slots pc L (vi v :: vi i :: .ref (ad 19) :: st) h :=
  rz_iastore (md_a19 hM) (by decide) hi hd (kk _ (md_up hM (q := (19, 0, 30)) (by decide) _) (hF.up (md_a19 hM) (by decide)))
theorem md_ps8 {Γ : rz_G} {X : rz_X} {rm : Room} {post : Option Value → rz_H → Prop} {K : rz_K} {cells slots pc : Nat} {L : List (Nat × Value)} {st : List Value} {h : rz_H} {h0 : rz_H} {x : Nat} {ad : Nat → Nat} {M : Nat → Int → Int} {v : Int} {idx : Nat} (hM : MdAt Γ h x ad M) (hF : rz_fr [10, 11] h0 h) (hf : rz_lnkP X.2.1 X.2.2.2.2 idx 3 8 .int) (hd : decode X.1 pc = .ok (.putfield idx, 3)) (kk : ∀ h2 : rz_H, MdAt Γ h2 x ad (mu M 8 (fun _ => v)) → rz_fr [10, 11] h0 h2 → Wk Γ X rm post K cells slots (pc + 3) L st h2) : Wk Γ X rm post K cells slots pc L (vi v :: .ref x :: st) h :=
  rz_putf hf hM.1 (by decide) rfl rfl (show 8 < 20 by decide) hd (kk _ (md_ups hM (M' := mu M 8 (fun _ => v)) rfl (fun q hq => mu_n (md_sc q hq).1)) (hF.up hM.1 (by decide)))
theorem md_ps12 {Γ : rz_G} {X : rz_X} {rm : Room} {post : Option Value → rz_H → Prop} {K : rz_K} {cells slots pc : Nat} {L : List (Nat × Value)} {st : List Value} {h : rz_H} {h0 : rz_H} {x : Nat} {ad : Nat → Nat} {M : Nat → Int → Int} {v : Int} {idx : Nat} (hM : MdAt Γ h x ad M) (hF : rz_fr [10, 11] h0 h) (hv : v = 0 ∨ v = 1) (hf : rz_lnkP X.2.1 X.2.2.2.2 idx 3 12 .boolean) (hd : decode X.1 pc = .ok (.putfield idx, 3)) (kk : ∀ h2 : rz_H, MdAt Γ h2 x ad (mu M 12 (fun _ => v)) → rz_fr [10, 11] h0 h2 → Wk Γ X rm post K cells slots (pc + 3) L st h2) : Wk Γ X rm post K cells slots pc L (vi v :: .ref x :: st) h :=
  rz_putf hf hM.1 (by decide) (by rcases hv with rfl | rfl <;> rfl) (by rcases hv with rfl | rfl <;> rfl) (show 12 < 20 by decide) hd (kk _ (md_ups hM (M' := mu M 12 (fun _ => v)) rfl (fun q hq => mu_n (md_sc q hq).2.1)) (hF.up hM.1 (by decide)))
theorem md_ps13 {Γ : rz_G} {X : rz_X} {rm : Room} {post : Option Value → rz_H → Prop} {K : rz_K} {cells slots pc : Nat} {L : List (Nat × Value)} {st : List Value} {h : rz_H} {h0 : rz_H} {x : Nat} {ad : Nat → Nat} {M : Nat → Int → Int} {v : Int} {idx : Nat} (hM : MdAt Γ h x ad M) (hF : rz_fr [10, 11] h0 h) (hv : v = 0 ∨ v = 1) (hf : rz_lnkP X.2.1 X.2.2.2.2 idx 3 13 .boolean) (hd : decode X.1 pc = .ok (.putfield idx, 3)) (kk : ∀ h2 : rz_H, MdAt Γ h2 x ad (mu M 13 (fun _ => v)) → rz_fr [10, 11] h0 h2 → Wk Γ X rm post K cells slots (pc + 3) L st h2) : Wk Γ X rm post K cells slots pc L (vi v :: .ref x :: st) h :=
  rz_putf hf hM.1 (by decide) (by rcases hv with rfl | rfl <;> rfl) (by rcases hv with rfl | rfl <;> rfl) (show 13 < 20 by decide) hd (kk _ (md_ups hM (M' := mu M 13 (fun _ => v)) rfl (fun q hq => mu_n (md_sc q hq).2.2.1)) (hF.up hM.1 (by decide)))
theorem md_ps17 {Γ : rz_G} {X : rz_X} {rm : Room} {post : Option Value → rz_H → Prop} {K : rz_K} {cells slots pc : Nat} {L : List (Nat × Value)} {st : List Value} {h : rz_H} {h0 : rz_H} {x : Nat} {ad : Nat → Nat} {M : Nat → Int → Int} {v : Int} {idx : Nat} (hM : MdAt Γ h x ad M) (hF : rz_fr [10, 11] h0 h) (hf : rz_lnkP X.2.1 X.2.2.2.2 idx 3 17 .int) (hd : decode X.1 pc = .ok (.putfield idx, 3)) (kk : ∀ h2 : rz_H, MdAt Γ h2 x ad (mu M 17 (fun _ => v)) → rz_fr [10, 11] h0 h2 → Wk Γ X rm post K cells slots (pc + 3) L st h2) : Wk Γ X rm post K cells slots pc L (vi v :: .ref x :: st) h :=
  rz_putf hf hM.1 (by decide) rfl rfl (show 17 < 20 by decide) hd (kk _ (md_ups hM (M' := mu M 17 (fun _ => v)) rfl (fun q hq => mu_n (md_sc q hq).2.2.2.1)) (hF.up hM.1 (by decide)))
theorem md_ps18 {Γ : rz_G} {X : rz_X} {rm : Room} {post : Option Value → rz_H → Prop} {K : rz_K} {cells slots pc : Nat} {L : List (Nat × Value)} {st : List Value} {h : rz_H} {h0 : rz_H} {x : Nat} {ad : Nat → Nat} {M : Nat → Int → Int} {v : Int} {idx : Nat} (hM : MdAt Γ h x ad M) (hF : rz_fr [10, 11] h0 h) (hf : rz_lnkP X.2.1 X.2.2.2.2 idx 3 18 .int) (hd : decode X.1 pc = .ok (.putfield idx, 3)) (kk : ∀ h2 : rz_H, MdAt Γ h2 x ad (mu M 18 (fun _ => v)) → rz_fr [10, 11] h0 h2 → Wk Γ X rm post K cells slots (pc + 3) L st h2) : Wk Γ X rm post K cells slots pc L (vi v :: .ref x :: st) h :=
  rz_putf hf hM.1 (by decide) rfl rfl (show 18 < 20 by decide) hd (kk _ (md_ups hM (M' := mu M 18 (fun _ => v)) rfl (fun q hq => mu_n (md_sc q hq).2.2.2.2)) (hF.up hM.1 (by decide)))
/-- what always holds of the numbers -/
def mWF (M : Nat → Int → Int) : Prop :=
  (∀ t, 0 ≤ t → t < 126 → 0 ≤ M 1 t ∧ M 1 t ≤ 24) ∧ (∀ j, 0 ≤ j → j < 3024 → 0 ≤ M 0 j ∧ M 0 j ≤ 127) ∧ (∀ p, 0 ≤ p → p < 6 → 0 ≤ M 2 p ∧ M 2 p ≤ 4) ∧ (∀ k, 0 ≤ k → k < 24 → 0 ≤ M 5 k ∧ M 5 k ≤ 3) ∧ (∀ i, 0 ≤ i → i < 72 → 0 ≤ M 6 i ∧ M 6 i ≤ 5) ∧ (0 ≤ M 8 0 ∧ M 8 0 ≤ 4) ∧ (∀ a, 0 ≤ a → a < 4 → 0 ≤ M 9 a ∧ M 9 a ≤ 5) ∧
  (∀ k, 0 ≤ k → k < 24 → M 3 k = 0 ∨ M 3 k = 1) ∧ (∀ k, 0 ≤ k → k < 24 → M 4 k = 0 ∨ M 4 k = 1) ∧ (∀ i, 0 ≤ i → i < 72 → M 7 i = 0 ∨ M 7 i = 1) ∧ (M 12 0 = 0 ∨ M 12 0 = 1) ∧ (M 13 0 = 0 ∨ M 13 0 = 1) ∧ (∀ p, 0 ≤ p → p < 6 → -1 ≤ M 14 p ∧ M 14 p ≤ 3) ∧ (∀ a, 0 ≤ a → a < 4 → M 15 a = 0 ∨ M 15 a = 1)
def mAt (M : Nat → Int → Int) (t i : Int) : Int := if 0 ≤ i ∧ i ≤ M 1 t - 1 then M 0 (24 * t + i) else 0
theorem mAt_in {M : Nat → Int → Int} (hw : mWF M) {t : Int} (ht : 0 ≤ t ∧ t < 126) (i : Int) : 0 ≤ mAt M t i ∧ mAt M t i ≤ 127 := by
  unfold mAt
  split
  · have h1 := hw.1 t ht.1 ht.2
    exact hw.2.1 _ (by omega) (by omega)
  · omega
end
section
/-! the reference: small methods -/
abbrev rm_Md_in : Room := { frames := 0, cells := 0, slots := 0, locals := 0 }
set_option maxRecDepth 100000 in
set_option maxHeartbeats 4000000 in
/-- in -/
theorem c_Md_in {l : Launch} {Γ : rz_G} {h : rz_H} {v lo hi : Int} (rv : -2147483648 ≤ v ∧ v ≤ 2147483647) (rlo : -2147483648 ≤ lo ∧ lo ≤ 2147483647) (rhi : -2147483648 ≤ hi ∧ hi ≤ 2147483647) : Ct l Γ x_Md_in y_Md_in rm_Md_in [vi v, vi lo, vi hi] h (pE (bi (mIn v lo hi)) h) := by
  refine rz_met (by decide) rfl rfl (Nat.le_of_ble_eq_true rfl) (fun K _ => ?_)
  refine rz_Leq [(0, vi v), (1, vi lo), (2, vi hi)] rfl ?_
  refine rz_iload_n 0 d_Md_in_0 rfl rfl ?_
  refine rz_iload_n 1 d_Md_in_1 rfl rfl ?_
  refine rz_icmp_lt 14 d_Md_in_2 (by decide) (by omega) (by omega) (fun c2 => ?_) (fun c2 => ?_)
  · refine rz_iconst d_Md_in_14 ?_
    exact rz_zreturn (st := []) (ty := .boolean) rfl rfl d_Md_in_15 ⟨by decide, by decide⟩ ⟨_, rfl, bi0 (by rw [mIn_f]; omega), rfl⟩
  · refine rz_iload_n 0 d_Md_in_5 rfl rfl ?_
    refine rz_iload_n 2 d_Md_in_6 rfl rfl ?_
    refine rz_icmp_gt 14 d_Md_in_7 (by decide) (by omega) (by omega) (fun c7 => ?_) (fun c7 => ?_)
    · refine rz_iconst d_Md_in_14 ?_
      exact rz_zreturn (st := []) (ty := .boolean) rfl rfl d_Md_in_15 ⟨by decide, by decide⟩ ⟨_, rfl, bi0 (by rw [mIn_f]; omega), rfl⟩
    · refine rz_iconst d_Md_in_10 ?_
      refine rz_goto 15 d_Md_in_11 (by decide) ?_
      exact rz_zreturn (st := []) (ty := .boolean) rfl rfl d_Md_in_15 ⟨by decide, by decide⟩ ⟨_, rfl, bi1 (by rw [mIn_t]; omega), rfl⟩
abbrev rm_Md_digit : Room := { frames := 1, cells := 0, slots := 0, locals := 22 }
set_option maxRecDepth 100000 in
set_option maxHeartbeats 4000000 in
theorem c_Md_digit {l : Launch} {Γ : rz_G} {h : rz_H} {c : Int} (rc : -2147483648 ≤ c ∧ c ≤ 2147483647) : Ct l Γ x_Md_digit y_Md_digit rm_Md_digit [vi c] h (pE (bi (isD c)) h) := by
  refine rz_met (by decide) rfl rfl (Nat.le_of_ble_eq_true rfl) (fun K _ => ?_)
  refine rz_Leq [(0, vi c)] rfl ?_
  refine rz_iload_n 0 d_Md_digit_0 rfl rfl ?_
  refine rz_bipush (v := 48) d_Md_digit_1 (by decide) ?_
  refine rz_bipush (v := 57) d_Md_digit_3 (by decide) ?_
  refine rz_callS (As := [vi c, vi 48, vi 57]) (c_Md_in (by omega) ⟨by decide, by decide⟩ ⟨by decide, by decide⟩) m_Md_56 rfl rfl (Nat.le_of_ble_eq_true rfl) ⟨by decide, by decide⟩ ⟨by decide, by decide⟩ d_Md_digit_5 (kE (h := h) ?_)
  exact rz_zreturn (st := []) (ty := .boolean) rfl (nz_b _) d_Md_digit_8 ⟨by decide, by decide⟩ ⟨_, rfl, rfl, rfl⟩
abbrev rm_Md_letter : Room := { frames := 1, cells := 0, slots := 0, locals := 22 }
set_option maxRecDepth 100000 in
set_option maxHeartbeats 4000000 in
theorem c_Md_letter {l : Launch} {Γ : rz_G} {h : rz_H} {c : Int} (rc : -2147483648 ≤ c ∧ c ≤ 2147483647) : Ct l Γ x_Md_letter y_Md_letter rm_Md_letter [vi c] h (pE (bi (isL c)) h) := by
  refine rz_met (by decide) rfl rfl (Nat.le_of_ble_eq_true rfl) (fun K _ => ?_)
  refine rz_Leq [(0, vi c)] rfl ?_
  refine rz_iload_n 0 d_Md_letter_0 rfl rfl ?_
  refine rz_bipush (v := 97) d_Md_letter_1 (by decide) ?_
  refine rz_bipush (v := 122) d_Md_letter_3 (by decide) ?_
  refine rz_callS (As := [vi c, vi 97, vi 122]) (c_Md_in (by omega) ⟨by decide, by decide⟩ ⟨by decide, by decide⟩) m_Md_56 rfl rfl (Nat.le_of_ble_eq_true rfl) ⟨by decide, by decide⟩ ⟨by decide, by decide⟩ d_Md_letter_5 (kE (h := h) ?_)
  exact rz_zreturn (st := []) (ty := .boolean) rfl (nz_b _) d_Md_letter_8 ⟨by decide, by decide⟩ ⟨_, rfl, rfl, rfl⟩
abbrev rm_Md_may : Room := { frames := 2, cells := 0, slots := 0, locals := 42 }
set_option maxRecDepth 100000 in
set_option maxHeartbeats 4000000 in
theorem c_Md_may {l : Launch} {Γ : rz_G} {h : rz_H} {c : Int} (rc : -2147483648 ≤ c ∧ c ≤ 2147483647) : Ct l Γ x_Md_may y_Md_may rm_Md_may [vi c] h (pE (bi (mMay c)) h) := by
  refine rz_met (by decide) rfl rfl (Nat.le_of_ble_eq_true rfl) (fun K _ => ?_)
  refine rz_Leq [(0, vi c)] rfl ?_
  refine rz_iload_n 0 d_Md_may_0 rfl rfl ?_
  refine rz_callS (As := [vi c]) (c_Md_digit (by omega)) m_Md_60 rfl rfl (Nat.le_of_ble_eq_true rfl) ⟨by decide, by decide⟩ ⟨by decide, by decide⟩ d_Md_may_1 (kE (h := h) ?_)
  refine rz_if_neB 48 d_Md_may_4 (by decide) (fun c4 => ?_) (fun c4 => ?_)
  · refine rz_iconst d_Md_may_48 ?_
    refine rz_goto 53 d_Md_may_49 (by decide) ?_
    exact rz_zreturn (st := []) (ty := .boolean) rfl rfl d_Md_may_53 ⟨by decide, by decide⟩ ⟨_, rfl, bi1 (by simp [mMay, *]), rfl⟩
  · refine rz_iload_n 0 d_Md_may_7 rfl rfl ?_
    refine rz_callS (As := [vi c]) (c_Md_letter (by omega)) m_Md_64 rfl rfl (Nat.le_of_ble_eq_true rfl) ⟨by decide, by decide⟩ ⟨by decide, by decide⟩ d_Md_may_8 (kE (h := h) ?_)
    refine rz_if_neB 48 d_Md_may_11 (by decide) (fun c11 => ?_) (fun c11 => ?_)
    · refine rz_iconst d_Md_may_48 ?_
      refine rz_goto 53 d_Md_may_49 (by decide) ?_
      exact rz_zreturn (st := []) (ty := .boolean) rfl rfl d_Md_may_53 ⟨by decide, by decide⟩ ⟨_, rfl, bi1 (by simp [mMay, *]), rfl⟩
    · refine rz_iload_n 0 d_Md_may_14 rfl rfl ?_
      refine rz_bipush (v := 40) d_Md_may_15 (by decide) ?_
      refine rz_bipush (v := 41) d_Md_may_17 (by decide) ?_
      refine rz_callS (As := [vi c, vi 40, vi 41]) (c_Md_in (by omega) ⟨by decide, by decide⟩ ⟨by decide, by decide⟩) m_Md_56 rfl rfl (Nat.le_of_ble_eq_true rfl) ⟨by decide, by decide⟩ ⟨by decide, by decide⟩ d_Md_may_19 (kE (h := h) ?_)
      refine rz_if_neB 48 d_Md_may_22 (by decide) (fun c22 => ?_) (fun c22 => ?_)
      · refine rz_iconst d_Md_may_48 ?_
        refine rz_goto 53 d_Md_may_49 (by decide) ?_
        exact rz_zreturn (st := []) (ty := .boolean) rfl rfl d_Md_may_53 ⟨by decide, by decide⟩ ⟨_, rfl, bi1 (by simp [mMay, *]), rfl⟩
      · refine rz_iload_n 0 d_Md_may_25 rfl rfl ?_
        refine rz_bipush (v := 44) d_Md_may_26 (by decide) ?_
        refine rz_bipush (v := 46) d_Md_may_28 (by decide) ?_
        refine rz_callS (As := [vi c, vi 44, vi 46]) (c_Md_in (by omega) ⟨by decide, by decide⟩ ⟨by decide, by decide⟩) m_Md_56 rfl rfl (Nat.le_of_ble_eq_true rfl) ⟨by decide, by decide⟩ ⟨by decide, by decide⟩ d_Md_may_30 (kE (h := h) ?_)
        refine rz_if_neB 48 d_Md_may_33 (by decide) (fun c33 => ?_) (fun c33 => ?_)
        · refine rz_iconst d_Md_may_48 ?_
          refine rz_goto 53 d_Md_may_49 (by decide) ?_
          exact rz_zreturn (st := []) (ty := .boolean) rfl rfl d_Md_may_53 ⟨by decide, by decide⟩ ⟨_, rfl, bi1 (by simp [mMay, *]), rfl⟩
        · refine rz_iload_n 0 d_Md_may_36 rfl rfl ?_
          refine rz_bipush (v := 91) d_Md_may_37 (by decide) ?_
          refine rz_icmp_eq 48 d_Md_may_39 (by decide) (by omega) ⟨by decide, by decide⟩ (fun c39 => ?_) (fun c39 => ?_)
          · refine rz_iconst d_Md_may_48 ?_
            refine rz_goto 53 d_Md_may_49 (by decide) ?_
            exact rz_zreturn (st := []) (ty := .boolean) rfl rfl d_Md_may_53 ⟨by decide, by decide⟩ ⟨_, rfl, bi1 (by simp [mMay, *]), rfl⟩
          · refine rz_iload_n 0 d_Md_may_42 rfl rfl ?_
            refine rz_bipush (v := 93) d_Md_may_43 (by decide) ?_
            refine rz_icmp_ne 52 d_Md_may_45 (by decide) (by omega) ⟨by decide, by decide⟩ (fun c45 => ?_) (fun c45 => ?_)
            · refine rz_iconst d_Md_may_52 ?_
              exact rz_zreturn (st := []) (ty := .boolean) rfl rfl d_Md_may_53 ⟨by decide, by decide⟩ ⟨_, rfl, bi0 (by simp [mMay, *]), rfl⟩
            · refine rz_iconst d_Md_may_48 ?_
              refine rz_goto 53 d_Md_may_49 (by decide) ?_
              exact rz_zreturn (st := []) (ty := .boolean) rfl rfl d_Md_may_53 ⟨by decide, by decide⟩ ⟨_, rfl, bi1 (by simp [mMay, *]), rfl⟩
abbrev rm_Md_at : Room := { frames := 1, cells := 0, slots := 0, locals := 22 }
set_option maxRecDepth 100000 in
set_option maxHeartbeats 4000000 in
theorem c_Md_at {l : Launch} {Γ : rz_G} {h : rz_H} {x : Nat} {ad : Nat → Nat} {M : Nat → Int → Int} (hM : MdAt Γ h x ad M) (hw : mWF M) {t i : Int} (ht : 0 ≤ t ∧ t < 126) (ri : -2147483648 ≤ i ∧ i ≤ 2147483647) : Ct l Γ x_Md_at y_Md_at rm_Md_at [.ref x, vi t, vi i] h (pE (mAt M t i) h) := by
  refine rz_met (by decide) rfl rfl (Nat.le_of_ble_eq_true rfl) (fun K _ => ?_)
  refine rz_Leq [(0, .ref x), (1, vi t), (2, vi i)] rfl ?_
  have hlen := hw.1 t ht.1 ht.2
  refine rz_iload_n 2 d_Md_at_0 rfl rfl ?_
  refine rz_iconst d_Md_at_1 ?_
  refine rz_aload_n 0 d_Md_at_2 rfl rfl ?_
  refine rz_getf f_Md_13 hM.1 rfl d_Md_at_3 ?_
  refine rz_iload_n 1 d_Md_at_6 rfl rfl ?_
  refine rz_iaload (md_a1 hM) (by decide) (by omega) d_Md_at_7 ?_
  refine rz_iconst d_Md_at_8 ?_
  refine rz_isub d_Md_at_9 ?_
  refine rz_callS (As := [vi i, vi 0, vi ((M 1 t) - 1)]) (c_Md_in (by omega) ⟨by decide, by decide⟩ (by omega)) m_Md_56 rfl rfl (Nat.le_of_ble_eq_true rfl) ⟨by decide, by decide⟩ ⟨by decide, by decide⟩ d_Md_at_10 (kE (h := h) ?_)
  refine rz_if_eqB 30 d_Md_at_13 (by decide) (fun c13 => ?_) (fun c13 => ?_)
  · refine rz_iconst d_Md_at_30 ?_
    exact rz_ireturn (st := []) rfl d_Md_at_31 ⟨by decide, by decide⟩ ⟨_, rfl, (by have := mIn_f.mp c13; unfold mAt; rw [if_neg this]), rfl⟩
  · refine rz_aload_n 0 d_Md_at_16 rfl rfl ?_
    refine rz_getf f_Md_7 hM.1 rfl d_Md_at_17 ?_
    refine rz_bipush (v := 24) d_Md_at_20 (by decide) ?_
    refine rz_iload_n 1 d_Md_at_22 rfl rfl ?_
    refine rz_imul d_Md_at_23 ?_
    refine rz_iload_n 2 d_Md_at_24 rfl rfl ?_
    refine rz_iadd d_Md_at_25 ?_
    refine rz_iaload (md_a0 hM) (by decide) (by have := mIn_t.mp c13; omega) d_Md_at_26 ?_
    refine rz_goto 31 d_Md_at_27 (by decide) ?_
    exact rz_ireturn (st := []) rfl d_Md_at_31 ⟨by decide, by decide⟩ ⟨_, rfl, (by have := mIn_t.mp c13; unfold mAt; rw [if_pos this]), rfl⟩
abbrev rm_Md_used : Room := { frames := 0, cells := 0, slots := 0, locals := 0 }
set_option maxRecDepth 100000 in
set_option maxHeartbeats 4000000 in
theorem c_Md_used {l : Launch} {Γ : rz_G} {h : rz_H} {x : Nat} {ad : Nat → Nat} {M : Nat → Int → Int} (hM : MdAt Γ h x ad M) {a : Int} : Ct l Γ x_Md_used y_Md_used rm_Md_used [.ref x, vi a] h (pI (fun r h' => r = a ∧ MdAt Γ h' x ad (mu M 1 (rz_u (M 1) 0 0)) ∧ rz_fr [10, 11] h h')) := by
  refine rz_met (by decide) rfl rfl (Nat.le_of_ble_eq_true rfl) (fun K _ => ?_)
  refine rz_Leq [(0, .ref x), (1, vi a)] rfl ?_
  refine rz_aload_n 0 d_Md_used_0 rfl rfl ?_
  refine rz_getf f_Md_13 hM.1 rfl d_Md_used_1 ?_
  refine rz_iconst d_Md_used_4 ?_
  refine rz_iconst d_Md_used_5 ?_
  refine md_st1 hM rz_fr.rf (by omega) d_Md_used_6 (fun h1 hM1 hF1 => ?_)
  obtain ⟨M1, eM1⟩ : ∃ z, z = mu M 1 (rz_u (M 1) 0 0) := ⟨_, rfl⟩
  rw [← eM1] at hM1
  refine rz_iload_n 1 d_Md_used_7 rfl rfl ?_
  exact rz_ireturn (st := []) rfl d_Md_used_8 ⟨by decide, by decide⟩ ⟨_, rfl, rfl, eM1 ▸ hM1, hF1⟩
abbrev rm_Md_wipe : Room := { frames := 0, cells := 0, slots := 0, locals := 0 }
set_option maxRecDepth 100000 in
set_option maxHeartbeats 4000000 in
theorem c_Md_wipe {l : Launch} {Γ : rz_G} {h : rz_H} {x : Nat} {ad : Nat → Nat} {M : Nat → Int → Int} (hM : MdAt Γ h x ad M) (hw : mWF M) : Ct l Γ x_Md_wipe y_Md_wipe rm_Md_wipe [.ref x] h (pI (fun r h' => r = M 1 0 ∧ MdAt Γ h' x ad (mu M 1 (rz_u (M 1) 0 0)) ∧ rz_fr [10, 11] h h')) := by
  refine rz_met (by decide) rfl rfl (Nat.le_of_ble_eq_true rfl) (fun K _ => ?_)
  refine rz_Leq [(0, .ref x)] rfl ?_
  refine rz_aload_n 0 d_Md_wipe_0 rfl rfl ?_
  refine rz_getf f_Md_13 hM.1 rfl d_Md_wipe_1 ?_
  refine rz_iconst d_Md_wipe_4 ?_
  refine rz_iaload (md_a1 hM) (by decide) (by omega) d_Md_wipe_5 ?_
  refine rz_istore_n [(1, vi (M 1 0)), (0, .ref x)] d_Md_wipe_6 rfl (by decide) rfl ?_
  refine rz_aload_n 1 d_Md_wipe_7 rfl rfl ?_
  refine rz_getf f_Md_13 hM.1 rfl d_Md_wipe_8 ?_
  refine rz_iconst d_Md_wipe_11 ?_
  refine rz_iconst d_Md_wipe_12 ?_
  refine md_st1 hM rz_fr.rf (by omega) d_Md_wipe_13 (fun h1 hM1 hF1 => ?_)
  obtain ⟨M1, eM1⟩ : ∃ z, z = mu M 1 (rz_u (M 1) 0 0) := ⟨_, rfl⟩
  rw [← eM1] at hM1
  refine rz_iload_n 0 d_Md_wipe_14 rfl rfl ?_
  exact rz_ireturn (st := []) rfl d_Md_wipe_15 ⟨by decide, by decide⟩ ⟨_, rfl, rfl, eM1 ▸ hM1, hF1⟩
abbrev rm_Md_slot : Room := { frames := 0, cells := 0, slots := 0, locals := 0 }
set_option maxRecDepth 100000 in
set_option maxHeartbeats 4000000 in
theorem c_Md_slot {l : Launch} {Γ : rz_G} {h : rz_H} {x : Nat} {ad : Nat → Nat} {M : Nat → Int → Int} (hM : MdAt Γ h x ad M) {p : Int} (rp : 0 ≤ p ∧ p < 6) : Ct l Γ x_Md_slot y_Md_slot rm_Md_slot [.ref x, vi p] h (pE (4 * p + M 11 p) h) := by
  refine rz_met (by decide) rfl rfl (Nat.le_of_ble_eq_true rfl) (fun K _ => ?_)
  refine rz_Leq [(0, .ref x), (1, vi p)] rfl ?_
  refine rz_iconst d_Md_slot_0 ?_
  refine rz_iload_n 1 d_Md_slot_1 rfl rfl ?_
  refine rz_imul d_Md_slot_2 ?_
  refine rz_aload_n 0 d_Md_slot_3 rfl rfl ?_
  refine rz_getf f_Md_41 hM.1 rfl d_Md_slot_4 ?_
  refine rz_iload_n 1 d_Md_slot_7 rfl rfl ?_
  refine rz_iaload (md_a11 hM) (by decide) (by omega) d_Md_slot_8 ?_
  refine rz_iadd d_Md_slot_9 ?_
  exact rz_ireturn (st := []) rfl d_Md_slot_10 ⟨by decide, by decide⟩ ⟨_, rfl, rfl, rfl⟩
def mNone (M : Nat → Int → Int) (p r : Int) : Bool := !mIn p 0 5 || !mIn r 0 (M 2 p - 1)
abbrev rm_Md_none : Room := { frames := 1, cells := 0, slots := 0, locals := 22 }
set_option maxRecDepth 100000 in
set_option maxHeartbeats 4000000 in
theorem c_Md_none {l : Launch} {Γ : rz_G} {h : rz_H} {x : Nat} {ad : Nat → Nat} {M : Nat → Int → Int} (hM : MdAt Γ h x ad M) (hw : mWF M) {p r : Int} (rp : -2147483648 ≤ p ∧ p ≤ 2147483647) (rr : -2147483648 ≤ r ∧ r ≤ 2147483647) : Ct l Γ x_Md_none y_Md_none rm_Md_none [.ref x, vi p, vi r] h (pE (bi (mNone M p r)) h) := by
  refine rz_met (by decide) rfl rfl (Nat.le_of_ble_eq_true rfl) (fun K _ => ?_)
  refine rz_Leq [(0, .ref x), (1, vi p), (2, vi r)] rfl ?_
  refine rz_iload_n 1 d_Md_none_0 rfl rfl ?_
  refine rz_iconst d_Md_none_1 ?_
  refine rz_iconst d_Md_none_2 ?_
  refine rz_callS (As := [vi p, vi 0, vi 5]) (c_Md_in (by omega) ⟨by decide, by decide⟩ ⟨by decide, by decide⟩) m_Md_56 rfl rfl (Nat.le_of_ble_eq_true rfl) ⟨by decide, by decide⟩ ⟨by decide, by decide⟩ d_Md_none_3 (kE (h := h) ?_)
  refine rz_if_eqB 25 d_Md_none_6 (by decide) (fun c6 => ?_) (fun c6 => ?_)
  · refine rz_iconst d_Md_none_25 ?_
    refine rz_goto 30 d_Md_none_26 (by decide) ?_
    exact rz_zreturn (st := []) (ty := .boolean) rfl rfl d_Md_none_30 ⟨by decide, by decide⟩ ⟨_, rfl, bi1 (by simp [mNone, *]), rfl⟩
  · refine rz_iload_n 2 d_Md_none_9 rfl rfl ?_
    refine rz_iconst d_Md_none_10 ?_
    refine rz_aload_n 0 d_Md_none_11 rfl rfl ?_
    refine rz_getf f_Md_16 hM.1 rfl d_Md_none_12 ?_
    refine rz_iload_n 1 d_Md_none_15 rfl rfl ?_
    refine rz_iaload (md_a2 hM) (by decide) (by have := mIn_t.mp c6; omega) d_Md_none_16 ?_
    refine rz_iconst d_Md_none_17 ?_
    refine rz_isub d_Md_none_18 ?_
    refine rz_callS (As := [vi r, vi 0, vi ((M 2 p) - 1)]) (c_Md_in (by omega) ⟨by decide, by decide⟩ (by have h1 := mIn_t.mp c6; have := hw.2.2.1 p (by omega) (by omega); omega)) m_Md_56 rfl rfl (Nat.le_of_ble_eq_true rfl) ⟨by decide, by decide⟩ ⟨by decide, by decide⟩ d_Md_none_19 (kE (h := h) ?_)
    refine rz_if_neB 29 d_Md_none_22 (by decide) (fun c22 => ?_) (fun c22 => ?_)
    · refine rz_iconst d_Md_none_29 ?_
      exact rz_zreturn (st := []) (ty := .boolean) rfl rfl d_Md_none_30 ⟨by decide, by decide⟩ ⟨_, rfl, bi0 (by simp [mNone, *]), rfl⟩
    · refine rz_iconst d_Md_none_25 ?_
      refine rz_goto 30 d_Md_none_26 (by decide) ?_
      exact rz_zreturn (st := []) (ty := .boolean) rfl rfl d_Md_none_30 ⟨by decide, by decide⟩ ⟨_, rfl, bi1 (by simp [mNone, *]), rfl⟩
end
section
/-! the reference: write, keep, version -/
def mPut (M : Nat → Int → Int) (c : Int) : Nat → Int → Int := if c = 0 then M else mu (mu M 0 (rz_u (M 0) (M 1 0) c)) 1 (rz_u (M 1) 0 (M 1 0 + 1))
def mOk (c : Int) : Bool := decide (c = 0) || mMay c
def mOne (c : Int) : Int := if c = 0 then 0 else 1
theorem mOne_in (c : Int) : 0 ≤ mOne c ∧ mOne c ≤ 1 := by unfold mOne; split <;> omega
theorem mPut_len (M : Nat → Int → Int) (c : Int) : mPut M c 1 0 = M 1 0 + mOne c := by
  unfold mPut mOne
  split
  · omega
  · rw [mu_s, rz_u_s]
theorem mMay_in {c : Int} (h : mMay c = true) : 0 ≤ c ∧ c ≤ 127 := by
  simp only [mMay, isD, isL, Bool.or_eq_true, mIn_t, decide_eq_true_eq] at h
  omega
theorem mPut_wf {M : Nat → Int → Int} {c : Int} (hw : mWF M) (hc : mOk c = true) (hl : M 1 0 + mOne c ≤ 24) : mWF (mPut M c) := by
  unfold mPut
  split
  · exact hw
  · rename_i h0
    have hm : mMay c = true := by simpa [mOk, h0] using hc
    have hcr := mMay_in hm
    have h1 := hw.1 0 (by omega) (by omega)
    have e1 : mOne c = 1 := if_neg h0
    refine ⟨fun t ht1 ht2 => ?_, fun j hj1 hj2 => ?_, hw.2.2⟩
    · rw [mu_s]
      by_cases e : t = 0
      · subst e
        rw [rz_u_s]
        omega
      · rw [rz_u_n e]
        exact hw.1 t ht1 ht2
    · rw [mu_n (by decide), mu_s]
      by_cases e : j = M 1 0
      · rw [e, rz_u_s]
        exact hcr
      · rw [rz_u_n e]
        exact hw.2.1 j hj1 hj2
abbrev rm_Md_put : Room := { frames := 0, cells := 0, slots := 0, locals := 0 }
set_option maxRecDepth 100000 in
set_option maxHeartbeats 4000000 in
theorem c_Md_put {l : Launch} {Γ : rz_G} {h : rz_H} {x : Nat} {ad : Nat → Nat} {M : Nat → Int → Int} (hM : MdAt Γ h x ad M) (hw : mWF M) {c : Int} (rc : -2147483648 ≤ c ∧ c ≤ 2147483647) (hl : M 1 0 + mOne c ≤ 24) : Ct l Γ x_Md_put y_Md_put rm_Md_put [.ref x, vi c] h (pI (fun r h' => r = mOne c ∧ MdAt Γ h' x ad (mPut M c) ∧ rz_fr [10, 11] h h')) := by
  refine rz_met (by decide) rfl rfl (Nat.le_of_ble_eq_true rfl) (fun K _ => ?_)
  refine rz_Leq [(0, .ref x), (1, vi c)] rfl ?_
  have hlen := hw.1 0 (by omega) (by omega)
  have h1 := mOne_in c
  refine rz_iload_n 1 d_Md_put_0 rfl rfl ?_
  refine rz_if_ne 6 d_Md_put_1 (by decide) (by omega) (fun c1 => ?_) (fun c1 => ?_)
  · have c1 : ¬ c = 0 := c1
    have hl1 : M 1 0 ≤ 23 := by have : mOne c = 1 := if_neg c1; omega
    refine rz_aload_n 0 d_Md_put_6 rfl rfl ?_
    refine rz_getf f_Md_7 hM.1 rfl d_Md_put_7 ?_
    refine rz_aload_n 0 d_Md_put_10 rfl rfl ?_
    refine rz_getf f_Md_13 hM.1 rfl d_Md_put_11 ?_
    refine rz_iconst d_Md_put_14 ?_
    refine rz_iaload (md_a1 hM) (by decide) (by omega) d_Md_put_15 ?_
    refine rz_iload_n 1 d_Md_put_16 rfl rfl ?_
    refine md_st0 hM rz_fr.rf (by have : mOne c = 1 := if_neg c1; omega) d_Md_put_17 (fun h1 hM1 hF1 => ?_)
    obtain ⟨M1, eM1⟩ : ∃ z, z = mu M 0 (rz_u (M 0) (M 1 0) c) := ⟨_, rfl⟩
    rw [← eM1] at hM1
    refine rz_aload_n 0 d_Md_put_18 rfl rfl ?_
    refine rz_getf f_Md_13 hM1.1 rfl d_Md_put_19 ?_
    refine rz_iconst d_Md_put_22 ?_
    refine rz_dup2 d_Md_put_23 rfl rfl ?_
    refine rz_iaload (md_a1 hM1) (by decide) (by omega) d_Md_put_24 ?_
    refine rz_iconst d_Md_put_25 ?_
    refine rz_iadd d_Md_put_26 ?_
    refine md_st1 hM1 hF1 (by omega) d_Md_put_27 (fun h2 hM2 hF2 => ?_)
    obtain ⟨M2, eM2⟩ : ∃ z, z = mu M1 1 (rz_u (M1 1) 0 ((M1 1 0) + 1)) := ⟨_, rfl⟩
    rw [← eM2] at hM2
    refine rz_iconst d_Md_put_28 ?_
    exact rz_ireturn (st := []) rfl d_Md_put_29 ⟨by decide, by decide⟩ ⟨_, rfl, (by rw [mOne, if_neg c1]), (by rw [mPut, if_neg c1]; subst eM2; subst eM1; exact hM2), hF2⟩
  · refine rz_iconst d_Md_put_4 ?_
    exact rz_ireturn (st := []) rfl d_Md_put_5 ⟨by decide, by decide⟩ ⟨_, rfl, (by rw [mOne, if_pos c1]), (by rw [mPut, if_pos c1]; exact hM), rz_fr.rf⟩
def mWrite (M : Nat → Int → Int) (a b c d : Int) : Int × (Nat → Int → Int) :=
  if (mOk a && mOk b && mOk c && mOk d) = true then (if M 1 0 + (mOne a + mOne b + mOne c + mOne d) ≤ 24 then (mPut (mPut (mPut (mPut M a) b) c) d 1 0, mPut (mPut (mPut (mPut M a) b) c) d) else (-2, M)) else (-1, M)
abbrev rm_Md_write : Room := { frames := 3, cells := 0, slots := 0, locals := 62 }
set_option maxRecDepth 100000 in
set_option maxHeartbeats 4000000 in
theorem c_Md_write {l : Launch} {Γ : rz_G} {h : rz_H} {x : Nat} {ad : Nat → Nat} {M : Nat → Int → Int} (hM : MdAt Γ h x ad M) (hw : mWF M) {a b c d : Int} (ra : -2147483648 ≤ a ∧ a ≤ 2147483647) (rb : -2147483648 ≤ b ∧ b ≤ 2147483647) (rc : -2147483648 ≤ c ∧ c ≤ 2147483647) (rd : -2147483648 ≤ d ∧ d ≤ 2147483647) : Ct l Γ x_Md_write y_Md_write rm_Md_write [.ref x, vi a, vi b, vi c, vi d] h (pI (fun r h' => r = (mWrite M a b c d).1 ∧ MdAt Γ h' x ad (mWrite M a b c d).2 ∧ rz_fr [10, 11] h h')) := by
  refine rz_met (by decide) rfl rfl (Nat.le_of_ble_eq_true rfl) (fun K _ => ?_)
  refine rz_Leq [(0, .ref x), (1, vi a), (2, vi b), (3, vi c), (4, vi d)] rfl ?_
  have hlen := hw.1 0 (by omega) (by omega)
  have ha1 := mOne_in a
  have hb1 := mOne_in b
  have hc1 := mOne_in c
  have hd1 := mOne_in d
  refine rz_cut (α := Unit) 0 0 11 (fun _ => mOk a = true) (fun _ => [(0, .ref x), (1, vi a), (2, vi b), (3, vi c), (4, vi d)]) (fun _ => []) (fun _ => h) (fun _ ka => ?_) (fun J11 => ?_)
  · refine rz_cut (α := Unit) 0 0 22 (fun _ => mOk b = true) (fun _ => [(0, .ref x), (1, vi a), (2, vi b), (3, vi c), (4, vi d)]) (fun _ => []) (fun _ => h) (fun _ kb => ?_) (fun J22 => ?_)
    · refine rz_cut (α := Unit) 0 0 33 (fun _ => mOk c = true) (fun _ => [(0, .ref x), (1, vi a), (2, vi b), (3, vi c), (4, vi d)]) (fun _ => []) (fun _ => h) (fun _ kc => ?_) (fun J33 => ?_)
      · refine rz_cut (α := Unit) 0 0 48 (fun _ => mOk d = true) (fun _ => [(0, .ref x), (1, vi a), (2, vi b), (3, vi c), (4, vi d)]) (fun _ => []) (fun _ => h) (fun _ kd => ?_) (fun J48 => ?_)
        · refine rz_cut (α := Unit) 0 0 57 (fun _ => True) (fun _ => [(0, .ref x), (1, vi a), (2, vi b), (3, vi c), (4, vi d)]) (fun _ => [vi (mOne a)]) (fun _ => h) (fun _ _ => ?_) (fun J57 => ?_)
          · refine rz_cut (α := Unit) 0 0 66 (fun _ => True) (fun _ => [(0, .ref x), (1, vi a), (2, vi b), (3, vi c), (4, vi d)]) (fun _ => [vi (mOne b), vi (mOne a)]) (fun _ => h) (fun _ _ => ?_) (fun J66 => ?_)
            · refine rz_iadd d_Md_write_66 ?_
              refine rz_cut (α := Unit) 0 0 76 (fun _ => True) (fun _ => [(0, .ref x), (1, vi a), (2, vi b), (3, vi c), (4, vi d)]) (fun _ => [vi (mOne c), vi ((mOne a) + (mOne b))]) (fun _ => h) (fun _ _ => ?_) (fun J76 => ?_)
              · refine rz_iadd d_Md_write_76 ?_
                refine rz_cut (α := Unit) 0 0 87 (fun _ => True) (fun _ => [(0, .ref x), (1, vi a), (2, vi b), (3, vi c), (4, vi d)]) (fun _ => [vi (mOne d), vi (((mOne a) + (mOne b)) + (mOne c))]) (fun _ => h) (fun _ _ => ?_) (fun J87 => ?_)
                · refine rz_iadd d_Md_write_87 ?_
                  refine rz_istore [(5, vi ((((mOne a) + (mOne b)) + (mOne c)) + (mOne d))), (0, .ref x), (1, vi a), (2, vi b), (3, vi c), (4, vi d)] d_Md_write_88 (by decide) rfl ?_
                  refine rz_aload_n 1 d_Md_write_90 rfl rfl ?_
                  refine rz_getf f_Md_13 hM.1 rfl d_Md_write_91 ?_
                  refine rz_iconst d_Md_write_94 ?_
                  refine rz_iaload (md_a1 hM) (by decide) (by omega) d_Md_write_95 ?_
                  refine rz_iload 0 d_Md_write_96 rfl ?_
                  refine rz_iadd d_Md_write_98 ?_
                  refine rz_bipush (v := 24) d_Md_write_99 (by decide) ?_
                  refine rz_icmp_le 107 d_Md_write_101 (by decide) (by omega) ⟨by decide, by decide⟩ (fun c101 => ?_) (fun c101 => ?_)
                  · refine rz_aload_n 1 d_Md_write_107 rfl rfl ?_
                    refine rz_iload_n 2 d_Md_write_108 rfl rfl ?_
                    refine rz_callV (As := [vi a]) (c_Md_put hM hw (by omega) (by omega)) m_Md_70 hM.1 rfl rfl rfl rfl (Nat.le_of_ble_eq_true rfl) ⟨by decide, by decide⟩ ⟨by decide, by decide⟩ d_Md_write_109 (kI (h := h) fun r1 h1 q1 => ?_)
                    obtain ⟨rfl, hM1, hF1⟩ := q1
                    have hw1 := mPut_wf hw ka (by omega)
                    have hG1 := (rz_fr.rf (rs := [10, 11]) (h := h)).tr hF1
                    have hs1 := mPut_len M a
                    refine rz_istore [(5, vi (mOne a)), (0, .ref x), (1, vi a), (2, vi b), (3, vi c), (4, vi d)] d_Md_write_112 (by decide) rfl ?_
                    refine rz_aload_n 1 d_Md_write_114 rfl rfl ?_
                    refine rz_iload_n 3 d_Md_write_115 rfl rfl ?_
                    refine rz_callV (As := [vi b]) (c_Md_put hM1 hw1 (by omega) (by omega)) m_Md_70 hM1.1 rfl rfl rfl rfl (Nat.le_of_ble_eq_true rfl) ⟨by decide, by decide⟩ ⟨by decide, by decide⟩ d_Md_write_116 (kI (h := h1) fun r2 h2 q2 => ?_)
                    obtain ⟨rfl, hM2, hF2⟩ := q2
                    have hw2 := mPut_wf hw1 kb (by omega)
                    have hG2 := hG1.tr hF2
                    have hs2 := mPut_len (mPut M a) b
                    refine rz_istore [(5, vi (mOne b)), (0, .ref x), (1, vi a), (2, vi b), (3, vi c), (4, vi d)] d_Md_write_119 (by decide) rfl ?_
                    refine rz_aload_n 1 d_Md_write_121 rfl rfl ?_
                    refine rz_iload_n 4 d_Md_write_122 rfl rfl ?_
                    refine rz_callV (As := [vi c]) (c_Md_put hM2 hw2 (by omega) (by omega)) m_Md_70 hM2.1 rfl rfl rfl rfl (Nat.le_of_ble_eq_true rfl) ⟨by decide, by decide⟩ ⟨by decide, by decide⟩ d_Md_write_123 (kI (h := h2) fun r3 h3 q3 => ?_)
                    obtain ⟨rfl, hM3, hF3⟩ := q3
                    have hw3 := mPut_wf hw2 kc (by omega)
                    have hG3 := hG2.tr hF3
                    have hs3 := mPut_len (mPut (mPut M a) b) c
                    refine rz_istore [(5, vi (mOne c)), (0, .ref x), (1, vi a), (2, vi b), (3, vi c), (4, vi d)] d_Md_write_126 (by decide) rfl ?_
                    refine rz_aload_n 1 d_Md_write_128 rfl rfl ?_
                    refine rz_iload 5 d_Md_write_129 rfl ?_
                    refine rz_callV (As := [vi d]) (c_Md_put hM3 hw3 (by omega) (by omega)) m_Md_70 hM3.1 rfl rfl rfl rfl (Nat.le_of_ble_eq_true rfl) ⟨by decide, by decide⟩ ⟨by decide, by decide⟩ d_Md_write_131 (kI (h := h3) fun r4 h4 q4 => ?_)
                    obtain ⟨rfl, hM4, hF4⟩ := q4
                    have hw4 := mPut_wf hw3 kd (by omega)
                    have hG4 := hG3.tr hF4
                    have hs4 := mPut_len (mPut (mPut (mPut M a) b) c) d
                    refine rz_istore [(5, vi (mOne d)), (0, .ref x), (1, vi a), (2, vi b), (3, vi c), (4, vi d)] d_Md_write_134 (by decide) rfl ?_
                    refine rz_aload_n 1 d_Md_write_136 rfl rfl ?_
                    refine rz_getf f_Md_13 hM4.1 rfl d_Md_write_137 ?_
                    refine rz_iconst d_Md_write_140 ?_
                    refine rz_iaload (md_a1 hM4) (by decide) (by omega) d_Md_write_141 ?_
                    exact rz_ireturn (st := []) rfl d_Md_write_142 ⟨by decide, by decide⟩ ⟨_, rfl, (by rw [mWrite, if_pos (by simp [*]), if_pos c101]), (by rw [mWrite, if_pos (by simp [*]), if_pos c101]; exact hM4), hG4⟩
                  · refine rz_bipush (v := (-2)) d_Md_write_104 (by decide) ?_
                    exact rz_ireturn (st := []) rfl d_Md_write_106 ⟨by decide, by decide⟩ ⟨_, rfl, (by rw [mWrite, if_pos (by simp [*]), if_neg c101]), (by rw [mWrite, if_pos (by simp [*]), if_neg c101]; exact hM), rz_fr.rf⟩
                · refine rz_iload 4 d_Md_write_77 rfl ?_
                  refine rz_if_ne 86 d_Md_write_79 (by decide) (by omega) (fun c79 => ?_) (fun c79 => ?_)
                  · refine rz_iconst d_Md_write_86 ?_
                    refine rz_Seq [vi (mOne d), vi (((mOne a) + (mOne b)) + (mOne c))] (by rw [show mOne d = 1 from if_neg c79]) ?_
                    exact J87 () trivial
                  · refine rz_iconst d_Md_write_82 ?_
                    refine rz_goto 87 d_Md_write_83 (by decide) ?_
                    refine rz_Seq [vi (mOne d), vi (((mOne a) + (mOne b)) + (mOne c))] (by rw [show mOne d = 0 from if_pos c79]) ?_
                    exact J87 () trivial
              · refine rz_iload_n 3 d_Md_write_67 rfl rfl ?_
                refine rz_if_ne 75 d_Md_write_68 (by decide) (by omega) (fun c68 => ?_) (fun c68 => ?_)
                · refine rz_iconst d_Md_write_75 ?_
                  refine rz_Seq [vi (mOne c), vi ((mOne a) + (mOne b))] (by rw [show mOne c = 1 from if_neg c68]) ?_
                  exact J76 () trivial
                · refine rz_iconst d_Md_write_71 ?_
                  refine rz_goto 76 d_Md_write_72 (by decide) ?_
                  refine rz_Seq [vi (mOne c), vi ((mOne a) + (mOne b))] (by rw [show mOne c = 0 from if_pos c68]) ?_
                  exact J76 () trivial
            · refine rz_iload_n 2 d_Md_write_57 rfl rfl ?_
              refine rz_if_ne 65 d_Md_write_58 (by decide) (by omega) (fun c58 => ?_) (fun c58 => ?_)
              · refine rz_iconst d_Md_write_65 ?_
                refine rz_Seq [vi (mOne b), vi (mOne a)] (by rw [show mOne b = 1 from if_neg c58]) ?_
                exact J66 () trivial
              · refine rz_iconst d_Md_write_61 ?_
                refine rz_goto 66 d_Md_write_62 (by decide) ?_
                refine rz_Seq [vi (mOne b), vi (mOne a)] (by rw [show mOne b = 0 from if_pos c58]) ?_
                exact J66 () trivial
          · refine rz_iload_n 1 d_Md_write_48 rfl rfl ?_
            refine rz_if_ne 56 d_Md_write_49 (by decide) (by omega) (fun c49 => ?_) (fun c49 => ?_)
            · refine rz_iconst d_Md_write_56 ?_
              refine rz_Seq [vi (mOne a)] (by rw [show mOne a = 1 from if_neg c49]) ?_
              exact J57 () trivial
            · refine rz_iconst d_Md_write_52 ?_
              refine rz_goto 57 d_Md_write_53 (by decide) ?_
              refine rz_Seq [vi (mOne a)] (by rw [show mOne a = 0 from if_pos c49]) ?_
              exact J57 () trivial
        · refine rz_iload 4 d_Md_write_33 rfl ?_
          refine rz_if_eq 48 d_Md_write_35 (by decide) (by omega) (fun c35 => ?_) (fun c35 => ?_)
          · exact J48 () (by simp [mOk, *])
          · refine rz_iload 4 d_Md_write_38 rfl ?_
            refine rz_callS (As := [vi d]) (c_Md_may (by omega)) m_Md_67 rfl rfl (Nat.le_of_ble_eq_true rfl) ⟨by decide, by decide⟩ ⟨by decide, by decide⟩ d_Md_write_40 (kE (h := h) ?_)
            refine rz_if_neB 48 d_Md_write_43 (by decide) (fun c43 => ?_) (fun c43 => ?_)
            · exact J48 () (by simp [mOk, *])
            · refine rz_iconst d_Md_write_46 ?_
              exact rz_ireturn (st := []) rfl d_Md_write_47 ⟨by decide, by decide⟩ ⟨_, rfl, (by rw [mWrite, if_neg (by simp [mOk, *])]), (by rw [mWrite, if_neg (by simp [mOk, *])]; exact hM), rz_fr.rf⟩
      · refine rz_iload_n 3 d_Md_write_22 rfl rfl ?_
        refine rz_if_eq 33 d_Md_write_23 (by decide) (by omega) (fun c23 => ?_) (fun c23 => ?_)
        · exact J33 () (by simp [mOk, *])
        · refine rz_iload_n 3 d_Md_write_26 rfl rfl ?_
          refine rz_callS (As := [vi c]) (c_Md_may (by omega)) m_Md_67 rfl rfl (Nat.le_of_ble_eq_true rfl) ⟨by decide, by decide⟩ ⟨by decide, by decide⟩ d_Md_write_27 (kE (h := h) ?_)
          refine rz_if_eqB 46 d_Md_write_30 (by decide) (fun c30 => ?_) (fun c30 => ?_)
          · refine rz_iconst d_Md_write_46 ?_
            exact rz_ireturn (st := []) rfl d_Md_write_47 ⟨by decide, by decide⟩ ⟨_, rfl, (by rw [mWrite, if_neg (by simp [mOk, *])]), (by rw [mWrite, if_neg (by simp [mOk, *])]; exact hM), rz_fr.rf⟩
          · exact J33 () (by simp [mOk, *])
    · refine rz_iload_n 2 d_Md_write_11 rfl rfl ?_
      refine rz_if_eq 22 d_Md_write_12 (by decide) (by omega) (fun c12 => ?_) (fun c12 => ?_)
      · exact J22 () (by simp [mOk, *])
      · refine rz_iload_n 2 d_Md_write_15 rfl rfl ?_
        refine rz_callS (As := [vi b]) (c_Md_may (by omega)) m_Md_67 rfl rfl (Nat.le_of_ble_eq_true rfl) ⟨by decide, by decide⟩ ⟨by decide, by decide⟩ d_Md_write_16 (kE (h := h) ?_)
        refine rz_if_eqB 46 d_Md_write_19 (by decide) (fun c19 => ?_) (fun c19 => ?_)
        · refine rz_iconst d_Md_write_46 ?_
          exact rz_ireturn (st := []) rfl d_Md_write_47 ⟨by decide, by decide⟩ ⟨_, rfl, (by rw [mWrite, if_neg (by simp [mOk, *])]), (by rw [mWrite, if_neg (by simp [mOk, *])]; exact hM), rz_fr.rf⟩
        · exact J22 () (by simp [mOk, *])
  · refine rz_iload_n 1 d_Md_write_0 rfl rfl ?_
    refine rz_if_eq 11 d_Md_write_1 (by decide) (by omega) (fun c1 => ?_) (fun c1 => ?_)
    · exact J11 () (by simp [mOk, *])
    · refine rz_iload_n 1 d_Md_write_4 rfl rfl ?_
      refine rz_callS (As := [vi a]) (c_Md_may (by omega)) m_Md_67 rfl rfl (Nat.le_of_ble_eq_true rfl) ⟨by decide, by decide⟩ ⟨by decide, by decide⟩ d_Md_write_5 (kE (h := h) ?_)
      refine rz_if_eqB 46 d_Md_write_8 (by decide) (fun c8 => ?_) (fun c8 => ?_)
      · refine rz_iconst d_Md_write_46 ?_
        exact rz_ireturn (st := []) rfl d_Md_write_47 ⟨by decide, by decide⟩ ⟨_, rfl, (by rw [mWrite, if_neg (by simp [mOk, *])]), (by rw [mWrite, if_neg (by simp [mOk, *])]; exact hM), rz_fr.rf⟩
      · exact J11 () (by simp [mOk, *])
end
section
/-! the reference: keep, version -/
def kpF (M : Nat → Int → Int) (t i : Int) : Int → Int := fun j => if 24 * t ≤ j ∧ j < 24 * t + i then M 0 (j - 24 * t) else M 0 j
def mKeep (M : Nat → Int → Int) (t : Int) : Nat → Int → Int := mu (mu M 0 (kpF M t 24)) 1 (rz_u (M 1) t (M 1 0))
theorem kpF_0 (M : Nat → Int → Int) (t : Int) : mu M 0 (kpF M t 0) = M := by
  funext k j
  unfold mu
  split
  · rename_i e
    subst e
    unfold kpF
    rw [if_neg (by omega)]
  · rfl
theorem kpF_s (M : Nat → Int → Int) {t i : Int} (ht : 1 ≤ t) (hi : 0 ≤ i ∧ i < 24) : rz_u (kpF M t i) (24 * t + i) (kpF M t i i) = kpF M t (i + 1) := by
  funext j
  by_cases e : j = 24 * t + i
  · rw [e, rz_u_s]
    unfold kpF
    rw [if_neg (by omega), if_pos (by omega)]
    congr 1
    omega
  · rw [rz_u_n e]
    unfold kpF
    by_cases q : 24 * t ≤ j ∧ j < 24 * t + i
    · rw [if_pos q, if_pos (by omega)]
    · rw [if_neg q, if_neg (by omega)]
abbrev rm_Md_keep : Room := { frames := 0, cells := 0, slots := 0, locals := 0 }
set_option maxRecDepth 100000 in
set_option maxHeartbeats 4000000 in
theorem c_Md_keep {l : Launch} {Γ : rz_G} {h : rz_H} {x : Nat} {ad : Nat → Nat} {M : Nat → Int → Int} (hM : MdAt Γ h x ad M) {t : Int} (ht : 1 ≤ t ∧ t < 126) : Ct l Γ x_Md_keep y_Md_keep rm_Md_keep [.ref x, vi t] h (pV (fun h' => MdAt Γ h' x ad (mKeep M t) ∧ rz_fr [10, 11] h h')) := by
  refine rz_met (by decide) rfl rfl (Nat.le_of_ble_eq_true rfl) (fun K _ => ?_)
  refine rz_Leq [(0, .ref x), (1, vi t)] rfl ?_
  refine rz_iconst d_Md_keep_0 ?_
  refine rz_istore_n [(2, vi 0), (0, .ref x), (1, vi t)] d_Md_keep_1 rfl (by decide) rfl ?_
  refine rz_loop (α := Int × rz_H) 0 0 2 (fun (i, hA) => (24 - i).toNat) (fun (i, hA) => 0 ≤ i ∧ i ≤ 24 ∧ MdAt Γ hA x ad (mu M 0 (kpF M t i)) ∧ rz_fr [10, 11] h hA) (fun (i, hA) => [(2, vi i), (0, .ref x), (1, vi t)]) (fun (i, hA) => []) (fun (i, hA) => hA) (fun y hy ih2 => ?_) (fun LP => ?_)
  · obtain ⟨i, hA⟩ := y
    try dsimp only at hy ih2 ⊢
    obtain ⟨hi0, hi1, hMA, hFA⟩ := hy
    refine rz_iload_n 0 d_Md_keep_2 rfl rfl ?_
    refine rz_bipush (v := 24) d_Md_keep_3 (by decide) ?_
    refine rz_icmp_ge 31 d_Md_keep_5 (by decide) (by omega) ⟨by decide, by decide⟩ (fun c5 => ?_) (fun c5 => ?_)
    · refine rz_aload_n 1 d_Md_keep_31 rfl rfl ?_
      refine rz_getf f_Md_13 hMA.1 rfl d_Md_keep_32 ?_
      refine rz_iload_n 2 d_Md_keep_35 rfl rfl ?_
      refine rz_aload_n 1 d_Md_keep_36 rfl rfl ?_
      refine rz_getf f_Md_13 hMA.1 rfl d_Md_keep_37 ?_
      refine rz_iconst d_Md_keep_40 ?_
      refine rz_iaload (md_a1 hMA) (by decide) (by omega) d_Md_keep_41 ?_
      refine md_st1 hMA hFA (by omega) d_Md_keep_42 (fun h1 hM1 hF1 => ?_)
      obtain ⟨M1, eM1⟩ : ∃ z, z = mu (mu M 0 (kpF M t i)) 1 (rz_u ((mu M 0 (kpF M t i)) 1) t ((mu M 0 (kpF M t i)) 1 0)) := ⟨_, rfl⟩
      rw [← eM1] at hM1
      exact rz_return (st := []) rfl d_Md_keep_43 ⟨by decide, by decide⟩ ⟨rfl, (by have e : i = 24 := (by omega); subst e; subst eM1; exact hM1), hF1⟩
    · refine rz_aload_n 1 d_Md_keep_8 rfl rfl ?_
      refine rz_getf f_Md_7 hMA.1 rfl d_Md_keep_9 ?_
      refine rz_bipush (v := 24) d_Md_keep_12 (by decide) ?_
      refine rz_iload_n 2 d_Md_keep_14 rfl rfl ?_
      refine rz_imul d_Md_keep_15 ?_
      refine rz_iload_n 0 d_Md_keep_16 rfl rfl ?_
      refine rz_iadd d_Md_keep_17 ?_
      refine rz_aload_n 1 d_Md_keep_18 rfl rfl ?_
      refine rz_getf f_Md_7 hMA.1 rfl d_Md_keep_19 ?_
      refine rz_iload_n 0 d_Md_keep_22 rfl rfl ?_
      refine rz_iaload (md_a0 hMA) (by decide) (by omega) d_Md_keep_23 ?_
      refine md_st0 hMA hFA (by omega) d_Md_keep_24 (fun h2 hM2 hF2 => ?_)
      obtain ⟨M2, eM2⟩ : ∃ z, z = mu (mu M 0 (kpF M t i)) 0 (rz_u ((mu M 0 (kpF M t i)) 0) ((24 * t) + i) ((mu M 0 (kpF M t i)) 0 i)) := ⟨_, rfl⟩
      rw [← eM2] at hM2
      refine rz_iinc (i + 1) 0 [(2, vi (i + 1)), (0, .ref x), (1, vi t)] d_Md_keep_25 rfl (by first | rfl | omega) (by decide) rfl ?_
      refine rz_goto 2 d_Md_keep_28 (by decide) ?_
      refine rz_Lsub [(2, vi (i + 1)), (0, .ref x), (1, vi t)] [0, 1, 2] rfl ?_
      exact ih2 (i + 1, h2) ⟨by omega, by omega, (by have := hM2; rw [eM2, mu_s, mu_mu, kpF_s M ht.1 (by omega)] at this; exact this), hF2⟩ (by first | omega | (dsimp only; omega))
  · refine rz_Lsub [(2, vi 0), (0, .ref x), (1, vi t)] [0, 1, 2] rfl ?_
    exact LP (0, h) ⟨by decide, by decide, (by rw [kpF_0]; exact hM), rz_fr.rf⟩
theorem vc_ok {s d l g : Bool} (h1 : (s || d || l) = true) (h2 : (s && g) = false) : ((!s && !d && !l) || (s && g)) = false := by revert h1 h2; cases s <;> cases d <;> cases l <;> cases g <;> decide
theorem verF_bad {f : Int → Int} {n : Nat} {i run : Int} {gap : Bool} (hn : 0 < n) (h : ((!isS (f i) && !isD (f i) && !isL (f i)) || (isS (f i) && gap)) = true) : verF f n i run gap = false := by
  cases n with
  | zero => omega
  | succ n => simp only [verF]; rw [if_pos h]
theorem verF_run {f : Int → Int} {n : Nat} {i run : Int} {gap : Bool} (hn : 0 < n) (h9 : 9 < (if isD (f i) = true then run + 1 else 0)) : verF f n i run gap = false := by
  cases n with
  | zero => omega
  | succ n =>
    simp only [verF]
    by_cases q : ((!isS (f i) && !isD (f i) && !isL (f i)) || (isS (f i) && gap)) = true
    · rw [if_pos q]
    · rw [if_neg q, if_pos h9]
theorem verF_go {f : Int → Int} {n : Nat} {i run : Int} {gap : Bool} (hn : 0 < n) (h : ((!isS (f i) && !isD (f i) && !isL (f i)) || (isS (f i) && gap)) = false) (h9 : ¬ 9 < (if isD (f i) = true then run + 1 else 0)) : verF f n i run gap = verF f (n - 1) (i + 1) (if isD (f i) = true then run + 1 else 0) (isS (f i)) := by
  cases n with
  | zero => omega
  | succ n =>
    simp only [verF]
    rw [if_neg (by rw [h]; decide), if_neg h9]
    rfl
abbrev rm_Md_version : Room := { frames := 2, cells := 0, slots := 0, locals := 44 }
set_option maxRecDepth 100000 in
set_option maxHeartbeats 4000000 in
theorem c_Md_version {l : Launch} {Γ : rz_G} {h : rz_H} {x : Nat} {ad : Nat → Nat} {M : Nat → Int → Int} (hM : MdAt Γ h x ad M) (hw : mWF M) {t lo hi : Int} (ht : 0 ≤ t ∧ t < 126) (hlo : 0 ≤ lo ∧ lo ≤ 100) (hhi : -100 ≤ hi ∧ hi ≤ 100) : Ct l Γ x_Md_version y_Md_version rm_Md_version [.ref x, vi t, vi lo, vi hi] h (pE (bi (ver (mAt M t) lo hi)) h) := by
  refine rz_met (by decide) rfl rfl (Nat.le_of_ble_eq_true rfl) (fun K _ => ?_)
  refine rz_Leq [(0, .ref x), (1, vi t), (2, vi lo), (3, vi hi)] rfl ?_
  refine rz_iload_n 3 d_Md_version_0 rfl rfl ?_
  refine rz_iload_n 2 d_Md_version_1 rfl rfl ?_
  refine rz_isub d_Md_version_2 ?_
  refine rz_iconst d_Md_version_3 ?_
  refine rz_bipush (v := 12) d_Md_version_4 (by decide) ?_
  refine rz_callS (As := [vi (hi - lo), vi 1, vi 12]) (c_Md_in (by omega) ⟨by decide, by decide⟩ ⟨by decide, by decide⟩) m_Md_56 rfl rfl (Nat.le_of_ble_eq_true rfl) ⟨by decide, by decide⟩ ⟨by decide, by decide⟩ d_Md_version_6 (kE (h := h) ?_)
  refine rz_if_neB 14 d_Md_version_9 (by decide) (fun c9 => ?_) (fun c9 => ?_)
  · refine rz_iconst d_Md_version_14 ?_
    refine rz_istore [(4, vi 0), (0, .ref x), (1, vi t), (2, vi lo), (3, vi hi)] d_Md_version_15 (by decide) rfl ?_
    refine rz_iconst d_Md_version_17 ?_
    refine rz_istore [(5, vi 1), (4, vi 0), (0, .ref x), (1, vi t), (2, vi lo), (3, vi hi)] d_Md_version_18 (by decide) rfl ?_
    refine rz_iload_n 4 d_Md_version_20 rfl rfl ?_
    refine rz_istore [(6, vi lo), (5, vi 1), (4, vi 0), (0, .ref x), (1, vi t), (2, vi lo), (3, vi hi)] d_Md_version_21 (by decide) rfl ?_
    refine rz_loop (α := Int × Int × Bool) 0 0 23 (fun (i, run, gap) => (hi - i).toNat) (fun (i, run, gap) => lo ≤ i ∧ i ≤ hi ∧ 0 ≤ run ∧ run ≤ 9 ∧ verF (mAt M t) (hi - lo).toNat lo 0 true = verF (mAt M t) (hi - i).toNat i run gap) (fun (i, run, gap) => [(6, vi i), (5, vi (bi gap)), (4, vi run), (0, .ref x), (1, vi t), (2, vi lo), (3, vi hi)]) (fun (i, run, gap) => []) (fun (i, run, gap) => h) (fun y hy ih23 => ?_) (fun LP => ?_)
    · obtain ⟨i, run, gap⟩ := y
      try dsimp only at hy ih23 ⊢
      obtain ⟨hi0, hi1, hr0, hr1, hv⟩ := hy
      refine rz_iload 0 d_Md_version_23 rfl ?_
      refine rz_iload_n 6 d_Md_version_25 rfl rfl ?_
      refine rz_icmp_ge 129 d_Md_version_26 (by decide) (by omega) (by omega) (fun c26 => ?_) (fun c26 => ?_)
      · refine rz_iload 1 d_Md_version_129 rfl ?_
        refine rz_if_neB 138 d_Md_version_131 (by decide) (fun c131 => ?_) (fun c131 => ?_)
        · refine rz_iconst d_Md_version_138 ?_
          exact rz_zreturn (st := []) (ty := .boolean) rfl rfl d_Md_version_139 ⟨by decide, by decide⟩ ⟨_, rfl, bi0 (by rw [ver, hv, show (hi - i).toNat = 0 by omega]; simp [verF, *]), rfl⟩
        · refine rz_iconst d_Md_version_134 ?_
          refine rz_goto 139 d_Md_version_135 (by decide) ?_
          exact rz_zreturn (st := []) (ty := .boolean) rfl rfl d_Md_version_139 ⟨by decide, by decide⟩ ⟨_, rfl, bi1 (by rw [ver, hv, show (hi - i).toNat = 0 by omega]; simp [verF, *]), rfl⟩
      · refine rz_aload_n 3 d_Md_version_29 rfl rfl ?_
        refine rz_iload_n 4 d_Md_version_30 rfl rfl ?_
        refine rz_iload 0 d_Md_version_31 rfl ?_
        refine rz_callV (As := [vi t, vi i]) (c_Md_at hM hw ht (by omega)) m_Md_74 hM.1 rfl rfl rfl rfl (Nat.le_of_ble_eq_true rfl) ⟨by decide, by decide⟩ ⟨by decide, by decide⟩ d_Md_version_33 (kE (h := h) ?_)
        refine rz_top (fun c e_c => ?_)
        replace e_c := e_c.symm
        refine rz_istore [(7, vi c), (6, vi i), (5, vi (bi gap)), (4, vi run), (0, .ref x), (1, vi t), (2, vi lo), (3, vi hi)] d_Md_version_36 (by decide) rfl ?_
        refine rz_cut (α := Unit) 0 0 57 (fun _ => True) (fun _ => [(7, vi c), (6, vi i), (5, vi (bi gap)), (4, vi run), (0, .ref x), (1, vi t), (2, vi lo), (3, vi hi)]) (fun _ => [vi (bi (isS c))]) (fun _ => h) (fun _ _ => ?_) (fun J57 => ?_)
        · refine rz_istore [(8, vi (bi (isS c))), (7, vi c), (6, vi i), (5, vi (bi gap)), (4, vi run), (0, .ref x), (1, vi t), (2, vi lo), (3, vi hi)] d_Md_version_57 (by decide) rfl ?_
          refine rz_cut (α := Unit) 0 0 80 (fun _ => (isS c || isD c || isL c) = true) (fun _ => [(8, vi (bi (isS c))), (7, vi c), (6, vi i), (5, vi (bi gap)), (4, vi run), (0, .ref x), (1, vi t), (2, vi lo), (3, vi hi)]) (fun _ => []) (fun _ => h) (fun _ k80 => ?_) (fun J80 => ?_)
          · refine rz_cut (α := Unit) 0 0 92 (fun _ => (isS c && gap) = false) (fun _ => [(8, vi (bi (isS c))), (7, vi c), (6, vi i), (5, vi (bi gap)), (4, vi run), (0, .ref x), (1, vi t), (2, vi lo), (3, vi hi)]) (fun _ => []) (fun _ => h) (fun _ k92 => ?_) (fun J92 => ?_)
            · refine rz_iload 0 d_Md_version_92 rfl ?_
              refine rz_istore [(5, vi (bi (isS c))), (8, vi (bi (isS c))), (7, vi c), (6, vi i), (4, vi run), (0, .ref x), (1, vi t), (2, vi lo), (3, vi hi)] d_Md_version_94 (by decide) rfl ?_
              refine rz_cut (α := Unit) 0 0 112 (fun _ => True) (fun _ => [(5, vi (bi (isS c))), (8, vi (bi (isS c))), (7, vi c), (6, vi i), (4, vi run), (0, .ref x), (1, vi t), (2, vi lo), (3, vi hi)]) (fun _ => [vi (if isD c = true then run + 1 else 0)]) (fun _ => h) (fun _ _ => ?_) (fun J112 => ?_)
              · refine rz_top (fun rn e_rn => ?_)
                replace e_rn := e_rn.symm
                refine rz_istore [(4, vi rn), (5, vi (bi (isS c))), (8, vi (bi (isS c))), (7, vi c), (6, vi i), (0, .ref x), (1, vi t), (2, vi lo), (3, vi hi)] d_Md_version_112 (by decide) rfl ?_
                refine rz_iload 0 d_Md_version_114 rfl ?_
                refine rz_bipush (v := 9) d_Md_version_116 (by decide) ?_
                refine rz_icmp_le 123 d_Md_version_118 (by decide) (by rw [← e_rn]; split <;> omega) ⟨by decide, by decide⟩ (fun c118 => ?_) (fun c118 => ?_)
                · refine rz_iinc (i + 1) 4 [(6, vi (i + 1)), (4, vi rn), (5, vi (bi (isS c))), (8, vi (bi (isS c))), (7, vi c), (0, .ref x), (1, vi t), (2, vi lo), (3, vi hi)] d_Md_version_123 rfl (by first | rfl | omega) (by decide) rfl ?_
                  refine rz_goto 23 d_Md_version_126 (by decide) ?_
                  refine rz_Lsub [(6, vi (i + 1)), (5, vi (bi (isS c))), (4, vi rn), (0, .ref x), (1, vi t), (2, vi lo), (3, vi hi)] [0, 2, 1, 5, 6, 7, 8] rfl ?_
                  exact ih23 (i + 1, rn, isS c) ⟨by omega, by omega, (by rw [← e_rn]; split <;> omega), by omega, (by rw [hv, verF_go (by omega) (by rw [e_c]; exact vc_ok k80 k92) (by rw [e_c, e_rn]; omega), e_c, e_rn]; congr 1; omega)⟩ (by first | omega | (dsimp only; omega))
                · refine rz_iconst d_Md_version_121 ?_
                  exact rz_zreturn (st := []) (ty := .boolean) rfl rfl d_Md_version_122 ⟨by decide, by decide⟩ ⟨_, rfl, bi0 (by rw [ver, hv, verF_run (by omega) (by rw [e_c, e_rn]; omega)]; simp), rfl⟩
              · refine rz_iload 2 d_Md_version_96 rfl ?_
                refine rz_callS (As := [vi c]) (c_Md_digit (by have := mAt_in hw ht i; omega)) m_Md_60 rfl rfl (Nat.le_of_ble_eq_true rfl) ⟨by decide, by decide⟩ ⟨by decide, by decide⟩ d_Md_version_98 (kE (h := h) ?_)
                refine rz_if_eqB 111 d_Md_version_101 (by decide) (fun c101 => ?_) (fun c101 => ?_)
                · refine rz_iconst d_Md_version_111 ?_
                  refine rz_Seq [vi (if isD c = true then run + 1 else 0)] (by rw [if_neg (by simp [*])]) ?_
                  exact J112 () trivial
                · refine rz_iload 4 d_Md_version_104 rfl ?_
                  refine rz_iconst d_Md_version_106 ?_
                  refine rz_iadd d_Md_version_107 ?_
                  refine rz_goto 112 d_Md_version_108 (by decide) ?_
                  refine rz_Seq [vi (if isD c = true then run + 1 else 0)] (by rw [if_pos (by simp [*])]) ?_
                  exact J112 () trivial
            · refine rz_iload 0 d_Md_version_80 rfl ?_
              refine rz_if_eqB 92 d_Md_version_82 (by decide) (fun c82 => ?_) (fun c82 => ?_)
              · exact J92 () (by simp [*])
              · refine rz_iload 3 d_Md_version_85 rfl ?_
                refine rz_if_eqB 92 d_Md_version_87 (by decide) (fun c87 => ?_) (fun c87 => ?_)
                · exact J92 () (by simp [*])
                · refine rz_iconst d_Md_version_90 ?_
                  exact rz_zreturn (st := []) (ty := .boolean) rfl rfl d_Md_version_91 ⟨by decide, by decide⟩ ⟨_, rfl, bi0 (by rw [ver, hv, verF_bad (by omega) (by rw [e_c]; simp [*])]; simp), rfl⟩
          · refine rz_iload 0 d_Md_version_59 rfl ?_
            refine rz_if_neB 80 d_Md_version_61 (by decide) (fun c61 => ?_) (fun c61 => ?_)
            · exact J80 () (by simp [*])
            · refine rz_iload 1 d_Md_version_64 rfl ?_
              refine rz_callS (As := [vi c]) (c_Md_digit (by have := mAt_in hw ht i; omega)) m_Md_60 rfl rfl (Nat.le_of_ble_eq_true rfl) ⟨by decide, by decide⟩ ⟨by decide, by decide⟩ d_Md_version_66 (kE (h := h) ?_)
              refine rz_if_neB 80 d_Md_version_69 (by decide) (fun c69 => ?_) (fun c69 => ?_)
              · exact J80 () (by simp [*])
              · refine rz_iload 1 d_Md_version_72 rfl ?_
                refine rz_callS (As := [vi c]) (c_Md_letter (by have := mAt_in hw ht i; omega)) m_Md_64 rfl rfl (Nat.le_of_ble_eq_true rfl) ⟨by decide, by decide⟩ ⟨by decide, by decide⟩ d_Md_version_74 (kE (h := h) ?_)
                refine rz_if_eqB 90 d_Md_version_77 (by decide) (fun c77 => ?_) (fun c77 => ?_)
                · refine rz_iconst d_Md_version_90 ?_
                  exact rz_zreturn (st := []) (ty := .boolean) rfl rfl d_Md_version_91 ⟨by decide, by decide⟩ ⟨_, rfl, bi0 (by rw [ver, hv, verF_bad (by omega) (by rw [e_c]; simp [*])]; simp), rfl⟩
                · exact J80 () (by simp [*])
        · refine rz_iload 0 d_Md_version_38 rfl ?_
          refine rz_bipush (v := 46) d_Md_version_40 (by decide) ?_
          refine rz_icmp_eq 52 d_Md_version_42 (by decide) (by have := mAt_in hw ht i; omega) ⟨by decide, by decide⟩ (fun c42 => ?_) (fun c42 => ?_)
          · refine rz_iconst d_Md_version_52 ?_
            refine rz_goto 57 d_Md_version_53 (by decide) ?_
            refine rz_Seq [vi (bi (isS c))] (by rw [show isS c = true from by simp [isS, *]]; rfl) ?_
            exact J57 () trivial
          · refine rz_iload 0 d_Md_version_45 rfl ?_
            refine rz_bipush (v := 45) d_Md_version_47 (by decide) ?_
            refine rz_icmp_ne 56 d_Md_version_49 (by decide) (by have := mAt_in hw ht i; omega) ⟨by decide, by decide⟩ (fun c49 => ?_) (fun c49 => ?_)
            · refine rz_iconst d_Md_version_56 ?_
              refine rz_Seq [vi (bi (isS c))] (by rw [show isS c = false from by simp [isS, *]]; rfl) ?_
              exact J57 () trivial
            · refine rz_iconst d_Md_version_52 ?_
              refine rz_goto 57 d_Md_version_53 (by decide) ?_
              refine rz_Seq [vi (bi (isS c))] (by rw [show isS c = true from by simp [isS, *]]; rfl) ?_
              exact J57 () trivial
    · refine rz_Lsub [(6, vi lo), (5, vi 1), (4, vi 0), (0, .ref x), (1, vi t), (2, vi lo), (3, vi hi)] [0, 1, 2, 3, 4, 5, 6] rfl ?_
      exact LP (lo, 0, true) ⟨by omega, (by have := mIn_t.mp c9; omega), by decide, by decide, rfl⟩
  · refine rz_iconst d_Md_version_12 ?_
    exact rz_zreturn (st := []) (ty := .boolean) rfl rfl d_Md_version_13 ⟨by decide, by decide⟩ ⟨_, rfl, bi0 (by simp [ver, c9]), rfl⟩
end
section
/-! the reference: item -/
theorem mWF_17 {M : Nat → Int → Int} {g : Int → Int} (h : mWF M) : mWF (mu M 17 g) := h
theorem mWF_18 {M : Nat → Int → Int} {g : Int → Int} (h : mWF M) : mWF (mu M 18 g) := h
theorem skF_hit {f : Int → Int} {n : Nat} {i : Int} (h : (isD (f i) || isL (f i)) = true) : skF f n i = i := by
  cases n with
  | zero => rfl
  | succ n => simp only [skF]; rw [if_pos h]
theorem skF_go {f : Int → Int} {n : Nat} {i : Int} (hn : 0 < n) (h : (isD (f i) || isL (f i)) = false) : skF f n i = skF f (n - 1) (i + 1) := by
  cases n with
  | zero => omega
  | succ n => simp only [skF]; rw [if_neg (by rw [h]; decide)]; rfl
theorem ruF_hit {p : Int → Bool} {f : Int → Int} {n : Nat} {i : Int} (h : p (f i) = false) : ruF p f n i = i := by
  cases n with
  | zero => rfl
  | succ n => simp only [ruF]; rw [if_neg (by rw [h]; decide)]
theorem ruF_go {p : Int → Bool} {f : Int → Int} {n : Nat} {i : Int} (hn : 0 < n) (h : p (f i) = true) : ruF p f n i = ruF p f (n - 1) (i + 1) := by
  cases n with
  | zero => omega
  | succ n => simp only [ruF]; rw [if_pos h]; rfl
theorem itP_d {f : Int → Int} {a : Int} (h : isD (f a) = true) : itP f a = isD := by unfold itP; rw [if_pos h]
theorem itP_l {f : Int → Int} {a : Int} (h : isD (f a) = false) : itP f a = isL := by unfold itP; rw [if_neg (by rw [h]; decide)]
abbrev rm_Md_item : Room := { frames := 2, cells := 0, slots := 0, locals := 44 }
set_option maxRecDepth 100000 in
set_option maxHeartbeats 4000000 in
theorem c_Md_item {l : Launch} {Γ : rz_G} {h : rz_H} {x : Nat} {ad : Nat → Nat} {M : Nat → Int → Int} (hM : MdAt Γ h x ad M) (hw : mWF M) {t p hi : Int} (ht : 0 ≤ t ∧ t < 126) (hp : 0 ≤ p ∧ p ≤ 100) (hhi : -100 ≤ hi ∧ hi ≤ 100) : Ct l Γ x_Md_item y_Md_item rm_Md_item [.ref x, vi t, vi p, vi hi] h (pI (fun r h' => r = bi (decide (itS (mAt M t) p hi < hi)) ∧ MdAt Γ h' x ad (mu (mu M 17 (fun _ => itS (mAt M t) p hi)) 18 (fun _ => itE (mAt M t) p hi)) ∧ rz_fr [10, 11] h h')) := by
  refine rz_met (by decide) rfl rfl (Nat.le_of_ble_eq_true rfl) (fun K _ => ?_)
  refine rz_Leq [(0, .ref x), (1, vi t), (2, vi p), (3, vi hi)] rfl ?_
  refine rz_aload_n 0 d_Md_item_0 rfl rfl ?_
  refine rz_iload_n 2 d_Md_item_1 rfl rfl ?_
  refine md_ps17 hM rz_fr.rf (fp_Md_78 _) d_Md_item_2 (fun h1 hM1 hF1 => ?_)
  refine rz_loop (α := Int × rz_H) 0 0 5 (fun (i, hA) => (hi - i).toNat) (fun (i, hA) => p ≤ i ∧ (i ≤ hi ∨ i = p) ∧ MdAt Γ hA x ad (mu M 17 (fun _ => i)) ∧ rz_fr [10, 11] h hA ∧ skF (mAt M t) (hi - p).toNat p = skF (mAt M t) (hi - i).toNat i) (fun (i, hA) => [(0, .ref x), (1, vi t), (2, vi p), (3, vi hi)]) (fun (i, hA) => []) (fun (i, hA) => hA) (fun y hy ih5 => ?_) (fun LP => ?_)
  · obtain ⟨i, hA⟩ := y
    try dsimp only at hy ih5 ⊢
    obtain ⟨hi0, hi1, hMA, hFA, hv⟩ := hy
    refine rz_aload_n 0 d_Md_item_5 rfl rfl ?_
    refine rz_cut (α := Unit) 0 0 56 (fun _ => itS (mAt M t) p hi = i) (fun _ => [(0, .ref x), (1, vi t), (2, vi p), (3, vi hi)]) (fun _ => []) (fun _ => hA) (fun _ k56 => ?_) (fun J56 => ?_)
    · obtain ⟨a, ea⟩ : ∃ z, z = i := ⟨_, rfl⟩
      rw [← ea] at hMA k56
      have ha0 : p ≤ a ∧ (a ≤ hi ∨ a = p) := by omega
      clear hv ih5
      refine rz_aload_n 0 d_Md_item_56 rfl rfl ?_
      refine rz_aload_n 0 d_Md_item_57 rfl rfl ?_
      refine rz_getf f_Md_78 hMA.1 rfl d_Md_item_58 ?_
      refine rz_Seq [vi a, .ref x] rfl ?_
      refine md_ps18 hMA hFA (fp_Md_82 _) d_Md_item_61 (fun h2 hM2 hF2 => ?_)
      refine rz_loop (α := Int × rz_H) 0 0 64 (fun (j, hB) => (hi - j).toNat) (fun (j, hB) => a ≤ j ∧ (j ≤ hi ∨ j = a) ∧ MdAt Γ hB x ad (mu (mu M 17 (fun _ => a)) 18 (fun _ => j)) ∧ rz_fr [10, 11] h hB ∧ ruF (itP (mAt M t) a) (mAt M t) (hi - a).toNat a = ruF (itP (mAt M t) a) (mAt M t) (hi - j).toNat j) (fun (j, hB) => [(0, .ref x), (1, vi t), (2, vi p), (3, vi hi)]) (fun (j, hB) => []) (fun (j, hB) => hB) (fun y hy ih64 => ?_) (fun LP => ?_)
      · obtain ⟨j, hB⟩ := y
        try dsimp only at hy ih64 ⊢
        obtain ⟨hj0, hj1, hMB, hFB, hu⟩ := hy
        refine rz_aload_n 0 d_Md_item_64 rfl rfl ?_
        refine rz_cut (α := Unit) 0 0 133 (fun _ => itE (mAt M t) p hi = j) (fun _ => [(0, .ref x), (1, vi t), (2, vi p), (3, vi hi)]) (fun _ => []) (fun _ => hB) (fun _ k133 => ?_) (fun J133 => ?_)
        · refine rz_aload_n 0 d_Md_item_133 rfl rfl ?_
          refine rz_getf f_Md_78 hMB.1 rfl d_Md_item_134 ?_
          refine rz_Seq [vi a] rfl ?_
          refine rz_iload_n 3 d_Md_item_137 rfl rfl ?_
          refine rz_icmp_ge 145 d_Md_item_138 (by decide) (by omega) (by omega) (fun c138 => ?_) (fun c138 => ?_)
          · refine rz_iconst d_Md_item_145 ?_
            exact rz_zreturn (st := []) (ty := .boolean) rfl rfl d_Md_item_146 ⟨by decide, by decide⟩ ⟨_, rfl, bi0 (by rw [k56]; simp; omega), (by rw [k56, k133]; exact hMB), hFB⟩
          · refine rz_iconst d_Md_item_141 ?_
            refine rz_goto 146 d_Md_item_142 (by decide) ?_
            exact rz_zreturn (st := []) (ty := .boolean) rfl rfl d_Md_item_146 ⟨by decide, by decide⟩ ⟨_, rfl, bi1 (by rw [k56]; simp; omega), (by rw [k56, k133]; exact hMB), hFB⟩
        · refine rz_getf f_Md_82 hMB.1 rfl d_Md_item_65 ?_
          refine rz_Seq [vi j] rfl ?_
          refine rz_iload_n 3 d_Md_item_68 rfl rfl ?_
          refine rz_icmp_ge 133 d_Md_item_69 (by decide) (by omega) (by omega) (fun c69 => ?_) (fun c69 => ?_)
          · exact J133 () (by first | (rw [itE, k56, hu, show (hi - j).toNat = 0 by omega]; rfl) | (rw [itE, k56, hu]; exact ruF_hit (by first | (rw [itP_d c84]; assumption) | (rw [itP_l c84]; assumption))))
          · refine rz_cut (α := Unit) 0 0 120 (fun _ => itP (mAt M t) a (mAt M t j) = true) (fun _ => [(0, .ref x), (1, vi t), (2, vi p), (3, vi hi)]) (fun _ => []) (fun _ => hB) (fun _ k120 => ?_) (fun J120 => ?_)
            · refine rz_aload_n 0 d_Md_item_120 rfl rfl ?_
              refine rz_dup d_Md_item_121 rfl ?_
              refine rz_getf f_Md_82 hMB.1 rfl d_Md_item_122 ?_
              refine rz_Seq [vi j, .ref x] rfl ?_
              refine rz_iconst d_Md_item_125 ?_
              refine rz_iadd d_Md_item_126 ?_
              refine md_ps18 hMB hFB (fp_Md_82 _) d_Md_item_127 (fun h3 hM3 hF3 => ?_)
              rw [mu_mu] at hM3
              refine rz_goto 64 d_Md_item_130 (by decide) ?_
              refine rz_Lsub [(0, .ref x), (1, vi t), (2, vi p), (3, vi hi)] [0, 1, 2, 3] rfl ?_
              exact ih64 (j + 1, h3) ⟨by omega, by omega, hM3, hF3, (by rw [hu, ruF_go (by omega) k120]; congr 1; omega)⟩ (by first | omega | (dsimp only; omega))
            · refine rz_aload_n 0 d_Md_item_72 rfl rfl ?_
              refine rz_iload_n 1 d_Md_item_73 rfl rfl ?_
              refine rz_aload_n 0 d_Md_item_74 rfl rfl ?_
              refine rz_getf f_Md_78 hMB.1 rfl d_Md_item_75 ?_
              refine rz_Seq [vi a, vi t, .ref x] rfl ?_
              refine rz_callV (As := [vi t, vi a]) (c_Md_at hMB (mWF_18 (mWF_17 hw)) ht (by omega)) m_Md_74 hMB.1 rfl rfl rfl rfl (Nat.le_of_ble_eq_true rfl) ⟨by decide, by decide⟩ ⟨by decide, by decide⟩ d_Md_item_78 (kE (h := hB) ?_)
              refine rz_Seq [vi (mAt M t a)] rfl ?_
              refine rz_callS (As := [vi (mAt M t a)]) (c_Md_digit (by have := mAt_in hw ht a; omega)) m_Md_60 rfl rfl (Nat.le_of_ble_eq_true rfl) ⟨by decide, by decide⟩ ⟨by decide, by decide⟩ d_Md_item_81 (kE (h := hB) ?_)
              refine rz_if_eqB 105 d_Md_item_84 (by decide) (fun c84 => ?_) (fun c84 => ?_)
              · refine rz_aload_n 0 d_Md_item_105 rfl rfl ?_
                refine rz_iload_n 1 d_Md_item_106 rfl rfl ?_
                refine rz_aload_n 0 d_Md_item_107 rfl rfl ?_
                refine rz_getf f_Md_82 hMB.1 rfl d_Md_item_108 ?_
                refine rz_Seq [vi j, vi t, .ref x] rfl ?_
                refine rz_callV (As := [vi t, vi j]) (c_Md_at hMB (mWF_18 (mWF_17 hw)) ht (by omega)) m_Md_74 hMB.1 rfl rfl rfl rfl (Nat.le_of_ble_eq_true rfl) ⟨by decide, by decide⟩ ⟨by decide, by decide⟩ d_Md_item_111 (kE (h := hB) ?_)
                refine rz_Seq [vi (mAt M t j)] rfl ?_
                refine rz_callS (As := [vi (mAt M t j)]) (c_Md_letter (by have := mAt_in hw ht j; omega)) m_Md_64 rfl rfl (Nat.le_of_ble_eq_true rfl) ⟨by decide, by decide⟩ ⟨by decide, by decide⟩ d_Md_item_114 (kE (h := hB) ?_)
                refine rz_if_eqB 133 d_Md_item_117 (by decide) (fun c117 => ?_) (fun c117 => ?_)
                · exact J133 () (by first | (rw [itE, k56, hu, show (hi - j).toNat = 0 by omega]; rfl) | (rw [itE, k56, hu]; exact ruF_hit (by first | (rw [itP_d c84]; assumption) | (rw [itP_l c84]; assumption))))
                · exact J120 () (by first | (rw [itP_d c84]; assumption) | (rw [itP_l c84]; assumption))
              · refine rz_aload_n 0 d_Md_item_87 rfl rfl ?_
                refine rz_iload_n 1 d_Md_item_88 rfl rfl ?_
                refine rz_aload_n 0 d_Md_item_89 rfl rfl ?_
                refine rz_getf f_Md_82 hMB.1 rfl d_Md_item_90 ?_
                refine rz_Seq [vi j, vi t, .ref x] rfl ?_
                refine rz_callV (As := [vi t, vi j]) (c_Md_at hMB (mWF_18 (mWF_17 hw)) ht (by omega)) m_Md_74 hMB.1 rfl rfl rfl rfl (Nat.le_of_ble_eq_true rfl) ⟨by decide, by decide⟩ ⟨by decide, by decide⟩ d_Md_item_93 (kE (h := hB) ?_)
                refine rz_Seq [vi (mAt M t j)] rfl ?_
                refine rz_callS (As := [vi (mAt M t j)]) (c_Md_digit (by have := mAt_in hw ht j; omega)) m_Md_60 rfl rfl (Nat.le_of_ble_eq_true rfl) ⟨by decide, by decide⟩ ⟨by decide, by decide⟩ d_Md_item_96 (kE (h := hB) ?_)
                refine rz_if_eqB 133 d_Md_item_99 (by decide) (fun c99 => ?_) (fun c99 => ?_)
                · exact J133 () (by first | (rw [itE, k56, hu, show (hi - j).toNat = 0 by omega]; rfl) | (rw [itE, k56, hu]; exact ruF_hit (by first | (rw [itP_d c84]; assumption) | (rw [itP_l c84]; assumption))))
                · refine rz_goto 120 d_Md_item_102 (by decide) ?_
                  exact J120 () (by first | (rw [itP_d c84]; assumption) | (rw [itP_l c84]; assumption))
      · refine rz_Lsub [(0, .ref x), (1, vi t), (2, vi p), (3, vi hi)] [0, 1, 2, 3] rfl ?_
        exact LP (a, h2) ⟨by omega, by omega, hM2, hF2, rfl⟩
    · refine rz_getf f_Md_78 hMA.1 rfl d_Md_item_6 ?_
      refine rz_Seq [vi i] rfl ?_
      refine rz_iload_n 3 d_Md_item_9 rfl rfl ?_
      refine rz_icmp_ge 56 d_Md_item_10 (by decide) (by omega) (by omega) (fun c10 => ?_) (fun c10 => ?_)
      · exact J56 () (by first | (rw [itS, hv, show (hi - i).toNat = 0 by omega]; rfl) | (rw [itS, hv]; exact skF_hit (by simp [*])))
      · refine rz_aload_n 0 d_Md_item_13 rfl rfl ?_
        refine rz_iload_n 1 d_Md_item_14 rfl rfl ?_
        refine rz_aload_n 0 d_Md_item_15 rfl rfl ?_
        refine rz_getf f_Md_78 hMA.1 rfl d_Md_item_16 ?_
        refine rz_Seq [vi i, vi t, .ref x] rfl ?_
        refine rz_callV (As := [vi t, vi i]) (c_Md_at hMA (mWF_17 hw) ht (by omega)) m_Md_74 hMA.1 rfl rfl rfl rfl (Nat.le_of_ble_eq_true rfl) ⟨by decide, by decide⟩ ⟨by decide, by decide⟩ d_Md_item_19 (kE (h := hA) ?_)
        refine rz_Seq [vi (mAt M t i)] rfl ?_
        refine rz_callS (As := [vi (mAt M t i)]) (c_Md_digit (by have := mAt_in hw ht i; omega)) m_Md_60 rfl rfl (Nat.le_of_ble_eq_true rfl) ⟨by decide, by decide⟩ ⟨by decide, by decide⟩ d_Md_item_22 (kE (h := hA) ?_)
        refine rz_if_neB 56 d_Md_item_25 (by decide) (fun c25 => ?_) (fun c25 => ?_)
        · exact J56 () (by first | (rw [itS, hv, show (hi - i).toNat = 0 by omega]; rfl) | (rw [itS, hv]; exact skF_hit (by simp [*])))
        · refine rz_aload_n 0 d_Md_item_28 rfl rfl ?_
          refine rz_iload_n 1 d_Md_item_29 rfl rfl ?_
          refine rz_aload_n 0 d_Md_item_30 rfl rfl ?_
          refine rz_getf f_Md_78 hMA.1 rfl d_Md_item_31 ?_
          refine rz_Seq [vi i, vi t, .ref x] rfl ?_
          refine rz_callV (As := [vi t, vi i]) (c_Md_at hMA (mWF_17 hw) ht (by omega)) m_Md_74 hMA.1 rfl rfl rfl rfl (Nat.le_of_ble_eq_true rfl) ⟨by decide, by decide⟩ ⟨by decide, by decide⟩ d_Md_item_34 (kE (h := hA) ?_)
          refine rz_Seq [vi (mAt M t i)] rfl ?_
          refine rz_callS (As := [vi (mAt M t i)]) (c_Md_letter (by have := mAt_in hw ht i; omega)) m_Md_64 rfl rfl (Nat.le_of_ble_eq_true rfl) ⟨by decide, by decide⟩ ⟨by decide, by decide⟩ d_Md_item_37 (kE (h := hA) ?_)
          refine rz_if_neB 56 d_Md_item_40 (by decide) (fun c40 => ?_) (fun c40 => ?_)
          · exact J56 () (by first | (rw [itS, hv, show (hi - i).toNat = 0 by omega]; rfl) | (rw [itS, hv]; exact skF_hit (by simp [*])))
          · refine rz_aload_n 0 d_Md_item_43 rfl rfl ?_
            refine rz_dup d_Md_item_44 rfl ?_
            refine rz_getf f_Md_78 hMA.1 rfl d_Md_item_45 ?_
            refine rz_Seq [vi i, .ref x] rfl ?_
            refine rz_iconst d_Md_item_48 ?_
            refine rz_iadd d_Md_item_49 ?_
            refine md_ps17 hMA hFA (fp_Md_78 _) d_Md_item_50 (fun h4 hM4 hF4 => ?_)
            rw [mu_mu] at hM4
            refine rz_goto 5 d_Md_item_53 (by decide) ?_
            refine rz_Lsub [(0, .ref x), (1, vi t), (2, vi p), (3, vi hi)] [0, 1, 2, 3] rfl ?_
            exact ih5 (i + 1, h4) ⟨by omega, by omega, hM4, hF4, (by rw [hv, skF_go (by omega) (by simp [*])]; congr 1; omega)⟩ (by first | omega | (dsimp only; omega))
  · refine rz_Lsub [(0, .ref x), (1, vi t), (2, vi p), (3, vi hi)] [0, 1, 2, 3] rfl ?_
    exact LP (p, h1) ⟨by omega, by omega, hM1, hF1, rfl⟩
end
section
/-! the reference: number, word, spelt, comma -/
def numF (f : Int → Int) : Nat → Int → Int → Int
  | 0, _, v => v
  | n + 1, i, v => numF f n (i + 1) (10 * v + f i - 48)
theorem numF_go {f : Int → Int} {n : Nat} {i v : Int} (hn : 0 < n) : numF f n i v = numF f (n - 1) (i + 1) (10 * v + f i - 48) := by
  cases n with
  | zero => omega
  | succ n => rfl
def wdF (f : Int → Int) : Nat → Int → Int → Int
  | 0, _, v => v
  | n + 1, i, v => wdF f n (i + 1) (v * 32 + f i - 96)
theorem wdF_go {f : Int → Int} {n : Nat} {i v : Int} (hn : 0 < n) : wdF f n i v = wdF f (n - 1) (i + 1) (v * 32 + f i - 96) := by
  cases n with
  | zero => omega
  | succ n => rfl
/-- a word by its letters, -1 if it has more than nine -/
def wrd (f : Int → Int) (lo hi : Int) : Int := if 9 < hi - lo then -1 else wdF f (hi - lo).toNat lo 0
theorem wrd_fin {f : Int → Int} {lo hi i v : Int} (h0 : hi ≤ i) (h1 : 9 < hi - lo → lo < i → v = -1) (h2 : ¬ 9 < hi - lo → wdF f (hi - lo).toNat lo 0 = wdF f (hi - i).toNat i v) : v = wrd f lo hi := by
  unfold wrd
  by_cases q : 9 < hi - lo
  · rw [if_pos q, h1 q (by omega)]
  · rw [if_neg q, h2 q, show (hi - i).toNat = 0 by omega]
    rfl
abbrev rm_Md_number : Room := { frames := 2, cells := 0, slots := 0, locals := 44 }
set_option maxRecDepth 100000 in
set_option maxHeartbeats 4000000 in
theorem c_Md_number {l : Launch} {Γ : rz_G} {h : rz_H} {x : Nat} {ad : Nat → Nat} {M : Nat → Int → Int} (hM : MdAt Γ h x ad M) (hw : mWF M) {t lo hi : Int} (ht : 0 ≤ t ∧ t < 126) (hlo : 0 ≤ lo ∧ lo ≤ 100) (hhi : -100 ≤ hi ∧ hi ≤ 100) : Ct l Γ x_Md_number y_Md_number rm_Md_number [.ref x, vi t, vi lo, vi hi] h (pEL (numF (mAt M t) (hi - lo).toNat lo 0) h) := by
  refine rz_met (by decide) rfl rfl (Nat.le_of_ble_eq_true rfl) (fun K _ => ?_)
  refine rz_Leq [(0, .ref x), (1, vi t), (2, vi lo), (3, vi hi)] rfl ?_
  refine rz_lconst (v := 0) d_Md_number_0 (by decide) ?_
  refine rz_lstore [(4, vl 0), (0, .ref x), (1, vi t), (2, vi lo), (3, vi hi)] d_Md_number_1 (by decide) rfl ?_
  refine rz_iload_n 3 d_Md_number_3 rfl rfl ?_
  refine rz_istore [(6, vi lo), (4, vl 0), (0, .ref x), (1, vi t), (2, vi lo), (3, vi hi)] d_Md_number_4 (by decide) rfl ?_
  refine rz_loop (α := Int × Int) 0 0 6 (fun (i, v) => (hi - i).toNat) (fun (i, v) => lo ≤ i ∧ (i ≤ hi ∨ i = lo) ∧ numF (mAt M t) (hi - lo).toNat lo 0 = numF (mAt M t) (hi - i).toNat i v) (fun (i, v) => [(6, vi i), (4, vl v), (0, .ref x), (1, vi t), (2, vi lo), (3, vi hi)]) (fun (i, v) => []) (fun (i, v) => h) (fun y hy ih6 => ?_) (fun LP => ?_)
  · obtain ⟨i, v⟩ := y
    try dsimp only at hy ih6 ⊢
    obtain ⟨hi0, hi1, hv⟩ := hy
    refine rz_iload 0 d_Md_number_6 rfl ?_
    refine rz_iload_n 5 d_Md_number_8 rfl rfl ?_
    refine rz_icmp_ge 39 d_Md_number_9 (by decide) (by omega) (by omega) (fun c9 => ?_) (fun c9 => ?_)
    · refine rz_lload 1 d_Md_number_39 rfl ?_
      exact rz_lreturn (st := []) rfl d_Md_number_41 ⟨by decide, by decide⟩ ⟨_, rfl, (by rw [hv, show (hi - i).toNat = 0 by omega]; rfl), rfl⟩
    · refine rz_ldc2 (v := 10) k_Md_125 d_Md_number_12 ?_
      refine rz_lload 1 d_Md_number_15 rfl ?_
      refine rz_lmul d_Md_number_17 ?_
      refine rz_aload_n 2 d_Md_number_18 rfl rfl ?_
      refine rz_iload_n 3 d_Md_number_19 rfl rfl ?_
      refine rz_iload 0 d_Md_number_20 rfl ?_
      refine rz_callV (As := [vi t, vi i]) (c_Md_at hM hw ht (by omega)) m_Md_74 hM.1 rfl rfl rfl rfl (Nat.le_of_ble_eq_true rfl) ⟨by decide, by decide⟩ ⟨by decide, by decide⟩ d_Md_number_22 (kE (h := h) ?_)
      refine rz_i2l (by have := mAt_in hw ht i; omega) d_Md_number_25 ?_
      refine rz_ladd d_Md_number_26 ?_
      refine rz_ldc2 (v := 48) k_Md_127 d_Md_number_27 ?_
      refine rz_lsub d_Md_number_30 ?_
      refine rz_lstore [(4, vl (((10 * v) + (mAt M t i)) - 48)), (6, vi i), (0, .ref x), (1, vi t), (2, vi lo), (3, vi hi)] d_Md_number_31 (by decide) rfl ?_
      refine rz_iinc (i + 1) 1 [(6, vi (i + 1)), (4, vl (((10 * v) + (mAt M t i)) - 48)), (0, .ref x), (1, vi t), (2, vi lo), (3, vi hi)] d_Md_number_33 rfl (by first | rfl | omega) (by decide) rfl ?_
      refine rz_goto 6 d_Md_number_36 (by decide) ?_
      refine rz_Lsub [(6, vi (i + 1)), (4, vl (((10 * v) + (mAt M t i)) - 48)), (0, .ref x), (1, vi t), (2, vi lo), (3, vi hi)] [0, 1, 2, 3, 4, 5] rfl ?_
      exact ih6 (i + 1, ((10 * v) + (mAt M t i)) - 48) ⟨by omega, by omega, (by rw [hv, numF_go (by omega)]; congr 1; omega)⟩ (by first | omega | (dsimp only; omega))
  · refine rz_Lsub [(6, vi lo), (4, vl 0), (0, .ref x), (1, vi t), (2, vi lo), (3, vi hi)] [0, 1, 2, 3, 4, 5] rfl ?_
    exact LP (lo, 0) ⟨by omega, by omega, rfl⟩
abbrev rm_Md_word : Room := { frames := 2, cells := 0, slots := 0, locals := 44 }
set_option maxRecDepth 100000 in
set_option maxHeartbeats 4000000 in
theorem c_Md_word {l : Launch} {Γ : rz_G} {h : rz_H} {x : Nat} {ad : Nat → Nat} {M : Nat → Int → Int} (hM : MdAt Γ h x ad M) (hw : mWF M) {t lo hi : Int} (ht : 0 ≤ t ∧ t < 126) (hlo : 0 ≤ lo ∧ lo ≤ 100) (hhi : -100 ≤ hi ∧ hi ≤ 100) : Ct l Γ x_Md_word y_Md_word rm_Md_word [.ref x, vi t, vi lo, vi hi] h (pEL (wrd (mAt M t) lo hi) h) := by
  refine rz_met (by decide) rfl rfl (Nat.le_of_ble_eq_true rfl) (fun K _ => ?_)
  refine rz_Leq [(0, .ref x), (1, vi t), (2, vi lo), (3, vi hi)] rfl ?_
  refine rz_lconst (v := 0) d_Md_word_0 (by decide) ?_
  refine rz_lstore [(4, vl 0), (0, .ref x), (1, vi t), (2, vi lo), (3, vi hi)] d_Md_word_1 (by decide) rfl ?_
  refine rz_iload_n 3 d_Md_word_3 rfl rfl ?_
  refine rz_istore [(6, vi lo), (4, vl 0), (0, .ref x), (1, vi t), (2, vi lo), (3, vi hi)] d_Md_word_4 (by decide) rfl ?_
  refine rz_loop (α := Int × Int) 0 0 6 (fun (i, v) => (hi - i).toNat) (fun (i, v) => lo ≤ i ∧ (i ≤ hi ∨ i = lo) ∧ (9 < hi - lo → lo < i → v = -1) ∧ (¬ 9 < hi - lo → wdF (mAt M t) (hi - lo).toNat lo 0 = wdF (mAt M t) (hi - i).toNat i v)) (fun (i, v) => [(6, vi i), (4, vl v), (0, .ref x), (1, vi t), (2, vi lo), (3, vi hi)]) (fun (i, v) => []) (fun (i, v) => h) (fun y hy ih6 => ?_) (fun LP => ?_)
  · obtain ⟨i, v⟩ := y
    try dsimp only at hy ih6 ⊢
    obtain ⟨hi0, hi1, hv1, hv⟩ := hy
    refine rz_iload 0 d_Md_word_6 rfl ?_
    refine rz_iload_n 5 d_Md_word_8 rfl rfl ?_
    refine rz_icmp_ge 53 d_Md_word_9 (by decide) (by omega) (by omega) (fun c9 => ?_) (fun c9 => ?_)
    · refine rz_lload 1 d_Md_word_53 rfl ?_
      exact rz_lreturn (st := []) rfl d_Md_word_55 ⟨by decide, by decide⟩ ⟨_, rfl, wrd_fin c9 hv1 hv, rfl⟩
    · refine rz_iload_n 5 d_Md_word_12 rfl rfl ?_
      refine rz_iload_n 4 d_Md_word_13 rfl rfl ?_
      refine rz_isub d_Md_word_14 ?_
      refine rz_bipush (v := 9) d_Md_word_15 (by decide) ?_
      refine rz_icmp_le 26 d_Md_word_17 (by decide) (by omega) ⟨by decide, by decide⟩ (fun c17 => ?_) (fun c17 => ?_)
      · refine rz_lload 1 d_Md_word_26 rfl ?_
        refine rz_ldc2 (v := 32) k_Md_87 d_Md_word_28 ?_
        refine rz_lmul d_Md_word_31 ?_
        refine rz_aload_n 2 d_Md_word_32 rfl rfl ?_
        refine rz_iload_n 3 d_Md_word_33 rfl rfl ?_
        refine rz_iload 0 d_Md_word_34 rfl ?_
        refine rz_callV (As := [vi t, vi i]) (c_Md_at hM hw ht (by omega)) m_Md_74 hM.1 rfl rfl rfl rfl (Nat.le_of_ble_eq_true rfl) ⟨by decide, by decide⟩ ⟨by decide, by decide⟩ d_Md_word_36 (kE (h := h) ?_)
        refine rz_i2l (by have := mAt_in hw ht i; omega) d_Md_word_39 ?_
        refine rz_ladd d_Md_word_40 ?_
        refine rz_ldc2 (v := 96) k_Md_89 d_Md_word_41 ?_
        refine rz_lsub d_Md_word_44 ?_
        refine rz_lstore [(4, vl (((v * 32) + (mAt M t i)) - 96)), (6, vi i), (0, .ref x), (1, vi t), (2, vi lo), (3, vi hi)] d_Md_word_45 (by decide) rfl ?_
        refine rz_iinc (i + 1) 1 [(6, vi (i + 1)), (4, vl (((v * 32) + (mAt M t i)) - 96)), (0, .ref x), (1, vi t), (2, vi lo), (3, vi hi)] d_Md_word_47 rfl (by first | rfl | omega) (by decide) rfl ?_
        refine rz_goto 6 d_Md_word_50 (by decide) ?_
        refine rz_Lsub [(6, vi (i + 1)), (4, vl (((v * 32) + (mAt M t i)) - 96)), (0, .ref x), (1, vi t), (2, vi lo), (3, vi hi)] [0, 1, 2, 3, 4, 5] rfl ?_
        exact ih6 (i + 1, ((v * 32) + (mAt M t i)) - 96) ⟨by omega, by omega, (fun q _ => by first | rfl | omega), (fun q => by first | omega | (rw [hv q, wdF_go (by omega)]; congr 1; omega))⟩ (by first | omega | (dsimp only; omega))
      · refine rz_ldc2 (v := (-1)) k_Md_85 d_Md_word_20 ?_
        refine rz_goto 45 d_Md_word_23 (by decide) ?_
        refine rz_lstore [(4, vl (-1)), (6, vi i), (0, .ref x), (1, vi t), (2, vi lo), (3, vi hi)] d_Md_word_45 (by decide) rfl ?_
        refine rz_iinc (i + 1) 1 [(6, vi (i + 1)), (4, vl (-1)), (0, .ref x), (1, vi t), (2, vi lo), (3, vi hi)] d_Md_word_47 rfl (by first | rfl | omega) (by decide) rfl ?_
        refine rz_goto 6 d_Md_word_50 (by decide) ?_
        refine rz_Lsub [(6, vi (i + 1)), (4, vl (-1)), (0, .ref x), (1, vi t), (2, vi lo), (3, vi hi)] [0, 1, 2, 3, 4, 5] rfl ?_
        exact ih6 (i + 1, -1) ⟨by omega, by omega, (fun q _ => by first | rfl | omega), (fun q => by first | omega | (rw [hv q, wdF_go (by omega)]; congr 1; omega))⟩ (by first | omega | (dsimp only; omega))
  · refine rz_Lsub [(6, vi lo), (4, vl 0), (0, .ref x), (1, vi t), (2, vi lo), (3, vi hi)] [0, 1, 2, 3, 4, 5] rfl ?_
    exact LP (lo, 0) ⟨by omega, by omega, (fun _ q => absurd q (by omega)), (fun _ => rfl)⟩
def cmF (f : Int → Int) : Nat → Int → Int
  | 0, _ => -1
  | n + 1, i => if f i = 44 then i else cmF f n (i + 1)
/-- where the first comma of n places stands, -1 if nowhere -/
def cma (f : Int → Int) (n : Int) : Int := cmF f n.toNat 0
theorem cmF_hit {f : Int → Int} {n : Nat} {i : Int} (hn : 0 < n) (h : f i = 44) : cmF f n i = i := by
  cases n with
  | zero => omega
  | succ n => simp only [cmF]; rw [if_pos h]
theorem cmF_go {f : Int → Int} {n : Nat} {i : Int} (hn : 0 < n) (h : ¬ f i = 44) : cmF f n i = cmF f (n - 1) (i + 1) := by
  cases n with
  | zero => omega
  | succ n => simp only [cmF]; rw [if_neg h]; rfl
theorem cmF_in (f : Int → Int) : ∀ (n : Nat) (i : Int), cmF f n i = -1 ∨ (i ≤ cmF f n i ∧ cmF f n i < i + n)
  | 0, _ => Or.inl rfl
  | n + 1, i => by
    simp only [cmF]
    have ih := cmF_in f n (i + 1)
    split <;> omega
theorem cma_in (f : Int → Int) {n : Int} (hn : 0 ≤ n) : -1 ≤ cma f n ∧ cma f n < n ∨ n = 0 ∧ cma f n = -1 := by
  have := cmF_in f n.toNat 0
  unfold cma
  omega
abbrev rm_Md_comma : Room := { frames := 2, cells := 0, slots := 0, locals := 44 }
set_option maxRecDepth 100000 in
set_option maxHeartbeats 4000000 in
theorem c_Md_comma {l : Launch} {Γ : rz_G} {h : rz_H} {x : Nat} {ad : Nat → Nat} {M : Nat → Int → Int} (hM : MdAt Γ h x ad M) (hw : mWF M) {t : Int} (ht : 0 ≤ t ∧ t < 126) : Ct l Γ x_Md_comma y_Md_comma rm_Md_comma [.ref x, vi t] h (pE (cma (mAt M t) (M 1 t)) h) := by
  refine rz_met (by decide) rfl rfl (Nat.le_of_ble_eq_true rfl) (fun K _ => ?_)
  refine rz_Leq [(0, .ref x), (1, vi t)] rfl ?_
  have hlen := hw.1 t ht.1 ht.2
  refine rz_iconst d_Md_comma_0 ?_
  refine rz_istore_n [(2, vi 0), (0, .ref x), (1, vi t)] d_Md_comma_1 rfl (by decide) rfl ?_
  refine rz_loop (α := Int) 0 0 2 (fun i => (M 1 t - i).toNat) (fun i => 0 ≤ i ∧ i ≤ M 1 t ∧ cmF (mAt M t) (M 1 t).toNat 0 = cmF (mAt M t) (M 1 t - i).toNat i) (fun i => [(2, vi i), (0, .ref x), (1, vi t)]) (fun i => []) (fun i => h) (fun y hy ih2 => ?_) (fun LP => ?_)
  · obtain ⟨i, rfl⟩ : ∃ z, z = y := ⟨_, rfl⟩
    try dsimp only at hy ih2 ⊢
    obtain ⟨hi0, hi1, hv⟩ := hy
    refine rz_iload_n 0 d_Md_comma_2 rfl rfl ?_
    refine rz_aload_n 1 d_Md_comma_3 rfl rfl ?_
    refine rz_getf f_Md_13 hM.1 rfl d_Md_comma_4 ?_
    refine rz_iload_n 2 d_Md_comma_7 rfl rfl ?_
    refine rz_iaload (md_a1 hM) (by decide) (by omega) d_Md_comma_8 ?_
    refine rz_icmp_ge 31 d_Md_comma_9 (by decide) (by omega) (by omega) (fun c9 => ?_) (fun c9 => ?_)
    · refine rz_iconst d_Md_comma_31 ?_
      exact rz_ireturn (st := []) rfl d_Md_comma_32 ⟨by decide, by decide⟩ ⟨_, rfl, (by rw [cma, hv, show (M 1 t - i).toNat = 0 by omega]; rfl), rfl⟩
    · refine rz_aload_n 1 d_Md_comma_12 rfl rfl ?_
      refine rz_iload_n 2 d_Md_comma_13 rfl rfl ?_
      refine rz_iload_n 0 d_Md_comma_14 rfl rfl ?_
      refine rz_callV (As := [vi t, vi i]) (c_Md_at hM hw ht (by omega)) m_Md_74 hM.1 rfl rfl rfl rfl (Nat.le_of_ble_eq_true rfl) ⟨by decide, by decide⟩ ⟨by decide, by decide⟩ d_Md_comma_15 (kE (h := h) ?_)
      refine rz_bipush (v := 44) d_Md_comma_18 (by decide) ?_
      refine rz_icmp_ne 25 d_Md_comma_20 (by decide) (by have := mAt_in hw ht i; omega) ⟨by decide, by decide⟩ (fun c20 => ?_) (fun c20 => ?_)
      · refine rz_iinc (i + 1) 0 [(2, vi (i + 1)), (0, .ref x), (1, vi t)] d_Md_comma_25 rfl (by first | rfl | omega) (by decide) rfl ?_
        refine rz_goto 2 d_Md_comma_28 (by decide) ?_
        refine rz_Lsub [(2, vi (i + 1)), (0, .ref x), (1, vi t)] [0, 1, 2] rfl ?_
        exact ih2 (i + 1) ⟨by omega, by omega, (by rw [hv, cmF_go (by omega) (by omega)]; congr 1; omega)⟩ (by first | omega | (dsimp only; omega))
      · refine rz_iload_n 0 d_Md_comma_23 rfl rfl ?_
        exact rz_ireturn (st := []) rfl d_Md_comma_24 ⟨by decide, by decide⟩ ⟨_, rfl, (by rw [cma, hv, cmF_hit (by omega) (by omega)]), rfl⟩
  · refine rz_Lsub [(2, vi 0), (0, .ref x), (1, vi t)] [0, 1, 2] rfl ?_
    exact LP 0 ⟨by omega, by omega, (by congr 1; omega)⟩
end
section
/-! branches on a comparison of two longs -/
theorem rz_cmp_r (a b : Int) : -2147483648 ≤ rz_cmp a b ∧ rz_cmp a b ≤ 2147483647 := by unfold rz_cmp; split; decide; split <;> decide
theorem rz_cmp_eq (a b : Int) : rz_cmp a b = 0 ↔ a = b := by unfold rz_cmp; split; omega; split <;> omega
theorem rz_cmp_lt (a b : Int) : rz_cmp a b < 0 ↔ a < b := by unfold rz_cmp; split; omega; split <;> omega
theorem rz_cmp_ge (a b : Int) : 0 ≤ rz_cmp a b ↔ b ≤ a := by unfold rz_cmp; split; omega; split <;> omega
theorem rz_cmp_gt (a b : Int) : 0 < rz_cmp a b ↔ b < a := by unfold rz_cmp; split; omega; split <;> omega
theorem rz_cmp_le (a b : Int) : rz_cmp a b ≤ 0 ↔ a ≤ b := by unfold rz_cmp; split; omega; split <;> omega
theorem rz_if_eqC {Γ : rz_G} {X : rz_X} {rm : Room} {post : Option Value → rz_H → Prop} {K : rz_K} {cells slots pc : Nat} {L : List (Nat × Value)} {st : List Value} {h : rz_H} {a b off : Int} (tgt : Nat) (hd : decode X.1 pc = .ok (.ifCond .eq off, 3)) (ht : (pc : Int) + off = (tgt : Int)) (kt : a = b → Wk Γ X rm post K cells slots tgt L st h) (kf : ¬ a = b → Wk Γ X rm post K cells slots (pc + 3) L st h) : Wk Γ X rm post K cells slots pc L (vi (rz_cmp a b) :: st) h :=
  rz_if_eq tgt hd ht (rz_cmp_r a b) (fun q => kt ((rz_cmp_eq a b).mp q)) (fun q => kf (fun z => q ((rz_cmp_eq a b).mpr z)))
theorem rz_if_neC {Γ : rz_G} {X : rz_X} {rm : Room} {post : Option Value → rz_H → Prop} {K : rz_K} {cells slots pc : Nat} {L : List (Nat × Value)} {st : List Value} {h : rz_H} {a b off : Int} (tgt : Nat) (hd : decode X.1 pc = .ok (.ifCond .ne off, 3)) (ht : (pc : Int) + off = (tgt : Int)) (kt : ¬ a = b → Wk Γ X rm post K cells slots tgt L st h) (kf : a = b → Wk Γ X rm post K cells slots (pc + 3) L st h) : Wk Γ X rm post K cells slots pc L (vi (rz_cmp a b) :: st) h :=
  rz_if_ne tgt hd ht (rz_cmp_r a b) (fun q => kt (fun z => q ((rz_cmp_eq a b).mpr z))) (fun q => kf ((rz_cmp_eq a b).mp q))
theorem rz_if_ltC {Γ : rz_G} {X : rz_X} {rm : Room} {post : Option Value → rz_H → Prop} {K : rz_K} {cells slots pc : Nat} {L : List (Nat × Value)} {st : List Value} {h : rz_H} {a b off : Int} (tgt : Nat) (hd : decode X.1 pc = .ok (.ifCond .lt off, 3)) (ht : (pc : Int) + off = (tgt : Int)) (kt : a < b → Wk Γ X rm post K cells slots tgt L st h) (kf : ¬ a < b → Wk Γ X rm post K cells slots (pc + 3) L st h) : Wk Γ X rm post K cells slots pc L (vi (rz_cmp a b) :: st) h :=
  rz_if_lt tgt hd ht (rz_cmp_r a b) (fun q => kt ((rz_cmp_lt a b).mp q)) (fun q => kf (fun z => q ((rz_cmp_lt a b).mpr z)))
theorem rz_if_geC {Γ : rz_G} {X : rz_X} {rm : Room} {post : Option Value → rz_H → Prop} {K : rz_K} {cells slots pc : Nat} {L : List (Nat × Value)} {st : List Value} {h : rz_H} {a b off : Int} (tgt : Nat) (hd : decode X.1 pc = .ok (.ifCond .ge off, 3)) (ht : (pc : Int) + off = (tgt : Int)) (kt : b ≤ a → Wk Γ X rm post K cells slots tgt L st h) (kf : ¬ b ≤ a → Wk Γ X rm post K cells slots (pc + 3) L st h) : Wk Γ X rm post K cells slots pc L (vi (rz_cmp a b) :: st) h :=
  rz_if_ge tgt hd ht (rz_cmp_r a b) (fun q => kt ((rz_cmp_ge a b).mp q)) (fun q => kf (fun z => q ((rz_cmp_ge a b).mpr z)))
theorem rz_if_gtC {Γ : rz_G} {X : rz_X} {rm : Room} {post : Option Value → rz_H → Prop} {K : rz_K} {cells slots pc : Nat} {L : List (Nat × Value)} {st : List Value} {h : rz_H} {a b off : Int} (tgt : Nat) (hd : decode X.1 pc = .ok (.ifCond .gt off, 3)) (ht : (pc : Int) + off = (tgt : Int)) (kt : b < a → Wk Γ X rm post K cells slots tgt L st h) (kf : ¬ b < a → Wk Γ X rm post K cells slots (pc + 3) L st h) : Wk Γ X rm post K cells slots pc L (vi (rz_cmp a b) :: st) h :=
  rz_if_gt tgt hd ht (rz_cmp_r a b) (fun q => kt ((rz_cmp_gt a b).mp q)) (fun q => kf (fun z => q ((rz_cmp_gt a b).mpr z)))
theorem rz_if_leC {Γ : rz_G} {X : rz_X} {rm : Room} {post : Option Value → rz_H → Prop} {K : rz_K} {cells slots pc : Nat} {L : List (Nat × Value)} {st : List Value} {h : rz_H} {a b off : Int} (tgt : Nat) (hd : decode X.1 pc = .ok (.ifCond .le off, 3)) (ht : (pc : Int) + off = (tgt : Int)) (kt : a ≤ b → Wk Γ X rm post K cells slots tgt L st h) (kf : ¬ a ≤ b → Wk Γ X rm post K cells slots (pc + 3) L st h) : Wk Γ X rm post K cells slots pc L (vi (rz_cmp a b) :: st) h :=
  rz_if_le tgt hd ht (rz_cmp_r a b) (fun q => kt ((rz_cmp_le a b).mp q)) (fun q => kf (fun z => q ((rz_cmp_le a b).mpr z)))
end
section
/-! the reference: spelt, wordRank, rankOf, words -/
def spS (v b : Int) : Int := if 0 < b then v * 32 + b else v
def spE (a b c d e : Int) : Int := spS (spS (spS (spS a b) c) d) e
theorem spS_p {v b : Int} (h : 0 < b) : spS v b = v * 32 + b := if_pos h
theorem spS_n {v b : Int} (h : b ≤ 0) : spS v b = v := if_neg (by omega)
abbrev rm_Md_spelt : Room := { frames := 0, cells := 0, slots := 0, locals := 0 }
set_option maxRecDepth 100000 in
set_option maxHeartbeats 4000000 in
theorem c_Md_spelt {l : Launch} {Γ : rz_G} {h : rz_H} {a b c d e : Int} (ra : -2147483648 ≤ a ∧ a ≤ 2147483647) (rb : -2147483648 ≤ b ∧ b ≤ 2147483647) (rc : -2147483648 ≤ c ∧ c ≤ 2147483647) (rd : -2147483648 ≤ d ∧ d ≤ 2147483647) (re : -2147483648 ≤ e ∧ e ≤ 2147483647) : Ct l Γ x_Md_spelt y_Md_spelt rm_Md_spelt [vi a, vi b, vi c, vi d, vi e] h (pEL (spE a b c d e) h) := by
  refine rz_met (by decide) rfl rfl (Nat.le_of_ble_eq_true rfl) (fun K _ => ?_)
  refine rz_Leq [(0, vi a), (1, vi b), (2, vi c), (3, vi d), (4, vi e)] rfl ?_
  refine rz_iload_n 0 d_Md_spelt_0 rfl rfl ?_
  refine rz_i2l (by omega) d_Md_spelt_1 ?_
  refine rz_lstore [(5, vl a), (0, vi a), (1, vi b), (2, vi c), (3, vi d), (4, vi e)] d_Md_spelt_2 (by decide) rfl ?_
  refine rz_cut (α := Unit) 0 0 19 (fun _ => True) (fun _ => [(5, vl (spS a b)), (0, vi a), (1, vi b), (2, vi c), (3, vi d), (4, vi e)]) (fun _ => []) (fun _ => h) (fun _ _ => ?_) (fun J19 => ?_)
  · refine rz_cut (α := Unit) 0 0 34 (fun _ => True) (fun _ => [(5, vl (spS (spS a b) c)), (0, vi a), (1, vi b), (2, vi c), (3, vi d), (4, vi e)]) (fun _ => []) (fun _ => h) (fun _ _ => ?_) (fun J34 => ?_)
    · refine rz_cut (α := Unit) 0 0 49 (fun _ => True) (fun _ => [(5, vl (spS (spS (spS a b) c) d)), (0, vi a), (1, vi b), (2, vi c), (3, vi d), (4, vi e)]) (fun _ => []) (fun _ => h) (fun _ _ => ?_) (fun J49 => ?_)
      · refine rz_iload 5 d_Md_spelt_49 rfl ?_
        refine rz_if_le 67 d_Md_spelt_51 (by decide) (by omega) (fun c51 => ?_) (fun c51 => ?_)
        · refine rz_lload 0 d_Md_spelt_67 rfl ?_
          exact rz_lreturn (st := []) rfl d_Md_spelt_69 ⟨by decide, by decide⟩ ⟨_, rfl, (by rw [spE, spS_n (b := e) (by omega)]), rfl⟩
        · refine rz_lload 0 d_Md_spelt_54 rfl ?_
          refine rz_ldc2 (v := 32) k_Md_87 d_Md_spelt_56 ?_
          refine rz_lmul d_Md_spelt_59 ?_
          refine rz_iload 5 d_Md_spelt_60 rfl ?_
          refine rz_i2l (by omega) d_Md_spelt_62 ?_
          refine rz_ladd d_Md_spelt_63 ?_
          refine rz_goto 69 d_Md_spelt_64 (by decide) ?_
          exact rz_lreturn (st := []) rfl d_Md_spelt_69 ⟨by decide, by decide⟩ ⟨_, rfl, (by rw [spE, spS_p (b := e) (by omega)]), rfl⟩
      · refine rz_iload_n 4 d_Md_spelt_34 rfl rfl ?_
        refine rz_if_le 49 d_Md_spelt_35 (by decide) (by omega) (fun c35 => ?_) (fun c35 => ?_)
        · refine rz_Lsub [(5, vl (spS (spS a b) c)), (0, vi a), (1, vi b), (2, vi c), (3, vi d), (4, vi e)] [0, 1, 2, 3, 4, 5] rfl ?_
          refine rz_Leq [(5, vl (spS (spS (spS a b) c) d)), (0, vi a), (1, vi b), (2, vi c), (3, vi d), (4, vi e)] (by rw [spS_n (b := d) (by omega)]) ?_
          exact J49 () trivial
        · refine rz_lload 0 d_Md_spelt_38 rfl ?_
          refine rz_ldc2 (v := 32) k_Md_87 d_Md_spelt_40 ?_
          refine rz_lmul d_Md_spelt_43 ?_
          refine rz_iload_n 4 d_Md_spelt_44 rfl rfl ?_
          refine rz_i2l (by omega) d_Md_spelt_45 ?_
          refine rz_ladd d_Md_spelt_46 ?_
          refine rz_lstore [(5, vl (((spS (spS a b) c) * 32) + d)), (0, vi a), (1, vi b), (2, vi c), (3, vi d), (4, vi e)] d_Md_spelt_47 (by decide) rfl ?_
          refine rz_Lsub [(5, vl (((spS (spS a b) c) * 32) + d)), (0, vi a), (1, vi b), (2, vi c), (3, vi d), (4, vi e)] [0, 1, 2, 3, 4, 5] rfl ?_
          refine rz_Leq [(5, vl (spS (spS (spS a b) c) d)), (0, vi a), (1, vi b), (2, vi c), (3, vi d), (4, vi e)] (by rw [spS_p (b := d) (by omega)]) ?_
          exact J49 () trivial
    · refine rz_iload_n 3 d_Md_spelt_19 rfl rfl ?_
      refine rz_if_le 34 d_Md_spelt_20 (by decide) (by omega) (fun c20 => ?_) (fun c20 => ?_)
      · refine rz_Lsub [(5, vl (spS a b)), (0, vi a), (1, vi b), (2, vi c), (3, vi d), (4, vi e)] [0, 1, 2, 3, 4, 5] rfl ?_
        refine rz_Leq [(5, vl (spS (spS a b) c)), (0, vi a), (1, vi b), (2, vi c), (3, vi d), (4, vi e)] (by rw [spS_n (b := c) (by omega)]) ?_
        exact J34 () trivial
      · refine rz_lload 0 d_Md_spelt_23 rfl ?_
        refine rz_ldc2 (v := 32) k_Md_87 d_Md_spelt_25 ?_
        refine rz_lmul d_Md_spelt_28 ?_
        refine rz_iload_n 3 d_Md_spelt_29 rfl rfl ?_
        refine rz_i2l (by omega) d_Md_spelt_30 ?_
        refine rz_ladd d_Md_spelt_31 ?_
        refine rz_lstore [(5, vl (((spS a b) * 32) + c)), (0, vi a), (1, vi b), (2, vi c), (3, vi d), (4, vi e)] d_Md_spelt_32 (by decide) rfl ?_
        refine rz_Lsub [(5, vl (((spS a b) * 32) + c)), (0, vi a), (1, vi b), (2, vi c), (3, vi d), (4, vi e)] [0, 1, 2, 3, 4, 5] rfl ?_
        refine rz_Leq [(5, vl (spS (spS a b) c)), (0, vi a), (1, vi b), (2, vi c), (3, vi d), (4, vi e)] (by rw [spS_p (b := c) (by omega)]) ?_
        exact J34 () trivial
  · refine rz_iload_n 2 d_Md_spelt_4 rfl rfl ?_
    refine rz_if_le 19 d_Md_spelt_5 (by decide) (by omega) (fun c5 => ?_) (fun c5 => ?_)
    · refine rz_Lsub [(5, vl a), (0, vi a), (1, vi b), (2, vi c), (3, vi d), (4, vi e)] [0, 1, 2, 3, 4, 5] rfl ?_
      refine rz_Leq [(5, vl (spS a b)), (0, vi a), (1, vi b), (2, vi c), (3, vi d), (4, vi e)] (by rw [spS_n (b := b) (by omega)]) ?_
      exact J19 () trivial
    · refine rz_lload 0 d_Md_spelt_8 rfl ?_
      refine rz_ldc2 (v := 32) k_Md_87 d_Md_spelt_10 ?_
      refine rz_lmul d_Md_spelt_13 ?_
      refine rz_iload_n 2 d_Md_spelt_14 rfl rfl ?_
      refine rz_i2l (by omega) d_Md_spelt_15 ?_
      refine rz_ladd d_Md_spelt_16 ?_
      refine rz_lstore [(5, vl ((a * 32) + b)), (0, vi a), (1, vi b), (2, vi c), (3, vi d), (4, vi e)] d_Md_spelt_17 (by decide) rfl ?_
      refine rz_Lsub [(5, vl ((a * 32) + b)), (0, vi a), (1, vi b), (2, vi c), (3, vi d), (4, vi e)] [0, 1, 2, 3, 4, 5] rfl ?_
      refine rz_Leq [(5, vl (spS a b)), (0, vi a), (1, vi b), (2, vi c), (3, vi d), (4, vi e)] (by rw [spS_p (b := b) (by omega)]) ?_
      exact J19 () trivial
def wrR (w : Int) (sh : Bool) : Int := if w = 1458433 then 1 else if w = 71297 then 2 else if w = 14615962074565 then 3 else if w = 579 ∨ w = 114 then 4 else if w = 667918377460 then 5 else if w = 225 ∨ w = 6600748 ∨ w = 19507873381 then 6 else if w = 624 then 7 else if sh = true ∧ (w = 1 ∨ w = 2) then w else if sh = true ∧ w = 13 then 3 else 8
theorem wdF_in {f : Int → Int} (hf : ∀ j, 0 ≤ f j ∧ f j ≤ 127) : ∀ (n : Nat) (i v b : Int), 0 ≤ b → -b ≤ v ∧ v ≤ b → -((b + 4) * 32 ^ n) ≤ wdF f n i v ∧ wdF f n i v ≤ (b + 4) * 32 ^ n
  | 0, i, v, b, hb, hv => by
    simp only [wdF, Int.pow_zero, Int.mul_one]
    omega
  | n + 1, i, v, b, hb, hv => by
    have hc := hf i
    have ih := wdF_in hf n (i + 1) (v * 32 + f i - 96) (32 * b + 124) (by omega) (by omega)
    have e : (32 * b + 124 + 4) * (32 : Int) ^ n = (b + 4) * 32 ^ (n + 1) := by
      rw [Int.pow_succ, show 32 * b + 124 + 4 = (b + 4) * 32 by omega, Int.mul_assoc, Int.mul_comm 32]
    rw [e] at ih
    exact ih
theorem wrd_in {f : Int → Int} (hf : ∀ j, 0 ≤ f j ∧ f j ≤ 127) (lo hi : Int) : -1000000000000000 ≤ wrd f lo hi ∧ wrd f lo hi ≤ 1000000000000000 := by
  unfold wrd
  split
  · omega
  · have h := wdF_in hf (hi - lo).toNat lo 0 0 (by omega) (by omega)
    have h2 : (32 : Int) ^ (hi - lo).toNat ≤ 32 ^ 9 := by exact_mod_cast Nat.pow_le_pow_right (n := 32) (by decide) (show (hi - lo).toNat ≤ 9 by omega)
    have h3 : (32 : Int) ^ 9 = 35184372088832 := by decide
    rw [h3] at h2
    generalize (32 : Int) ^ (hi - lo).toNat = p at h h2
    omega
abbrev rm_Md_wordRank : Room := { frames := 3, cells := 0, slots := 0, locals := 70 }
set_option maxRecDepth 100000 in
set_option maxHeartbeats 4000000 in
theorem c_Md_wordRank {l : Launch} {Γ : rz_G} {h : rz_H} {x : Nat} {ad : Nat → Nat} {M : Nat → Int → Int} (hM : MdAt Γ h x ad M) (hw : mWF M) {t lo hi : Int} (ht : 0 ≤ t ∧ t < 126) (hlo : 0 ≤ lo ∧ lo ≤ 100) (hhi : -100 ≤ hi ∧ hi ≤ 100) : Ct l Γ x_Md_wordRank y_Md_wordRank rm_Md_wordRank [.ref x, vi t, vi lo, vi hi] h (pE (wrR (wrd (mAt M t) lo hi) (decide (hi - lo = 1) && isD (mAt M t hi))) h) := by
  refine rz_met (by decide) rfl rfl (Nat.le_of_ble_eq_true rfl) (fun K _ => ?_)
  refine rz_Leq [(0, .ref x), (1, vi t), (2, vi lo), (3, vi hi)] rfl ?_
  refine rz_aload_n 0 d_Md_wordRank_0 rfl rfl ?_
  refine rz_iload_n 1 d_Md_wordRank_1 rfl rfl ?_
  refine rz_iload_n 2 d_Md_wordRank_2 rfl rfl ?_
  refine rz_iload_n 3 d_Md_wordRank_3 rfl rfl ?_
  refine rz_callV (As := [vi t, vi lo, vi hi]) (c_Md_word hM hw ht (by omega) (by omega)) m_Md_91 hM.1 rfl rfl rfl rfl (Nat.le_of_ble_eq_true rfl) ⟨by decide, by decide⟩ ⟨by decide, by decide⟩ d_Md_wordRank_4 (kEL (h := h) ?_)
  refine rz_topl (fun w e_w => ?_)
  replace e_w := e_w.symm
  refine rz_lstore [(4, vl w), (0, .ref x), (1, vi t), (2, vi lo), (3, vi hi)] d_Md_wordRank_7 (by decide) rfl ?_
  have hwb := wrd_in (mAt_in hw ht) lo hi
  rw [e_w] at hwb
  refine rz_lload 0 d_Md_wordRank_9 rfl ?_
  refine rz_iconst d_Md_wordRank_11 ?_
  refine rz_bipush (v := 12) d_Md_wordRank_12 (by decide) ?_
  refine rz_bipush (v := 16) d_Md_wordRank_14 (by decide) ?_
  refine rz_bipush (v := 8) d_Md_wordRank_16 (by decide) ?_
  refine rz_iconst d_Md_wordRank_18 ?_
  refine rz_callS (As := [vi 1, vi 12, vi 16, vi 8, vi 1]) (c_Md_spelt ⟨by decide, by decide⟩ ⟨by decide, by decide⟩ ⟨by decide, by decide⟩ ⟨by decide, by decide⟩ ⟨by decide, by decide⟩) m_Md_95 rfl rfl (Nat.le_of_ble_eq_true rfl) ⟨by decide, by decide⟩ ⟨by decide, by decide⟩ d_Md_wordRank_19 (kEL (h := h) ?_)
  refine rz_Seq [vl 1458433, vl w] (by rw [show spE 1 12 16 8 1 = 1458433 from by decide]) ?_
  refine rz_lcmp (by omega) (by omega) d_Md_wordRank_22 ?_
  refine rz_if_neC 28 d_Md_wordRank_23 (by decide) (fun c23 => ?_) (fun c23 => ?_)
  · refine rz_lload 0 d_Md_wordRank_28 rfl ?_
    refine rz_iconst d_Md_wordRank_30 ?_
    refine rz_iconst d_Md_wordRank_31 ?_
    refine rz_bipush (v := 20) d_Md_wordRank_32 (by decide) ?_
    refine rz_iconst d_Md_wordRank_34 ?_
    refine rz_iconst d_Md_wordRank_35 ?_
    refine rz_callS (As := [vi 2, vi 5, vi 20, vi 1, vi 0]) (c_Md_spelt ⟨by decide, by decide⟩ ⟨by decide, by decide⟩ ⟨by decide, by decide⟩ ⟨by decide, by decide⟩ ⟨by decide, by decide⟩) m_Md_95 rfl rfl (Nat.le_of_ble_eq_true rfl) ⟨by decide, by decide⟩ ⟨by decide, by decide⟩ d_Md_wordRank_36 (kEL (h := h) ?_)
    refine rz_Seq [vl 71297, vl w] (by rw [show spE 2 5 20 1 0 = 71297 from by decide]) ?_
    refine rz_lcmp (by omega) (by omega) d_Md_wordRank_39 ?_
    refine rz_if_neC 45 d_Md_wordRank_40 (by decide) (fun c40 => ?_) (fun c40 => ?_)
    · refine rz_lload 0 d_Md_wordRank_45 rfl ?_
      refine rz_bipush (v := 13) d_Md_wordRank_47 (by decide) ?_
      refine rz_bipush (v := 9) d_Md_wordRank_49 (by decide) ?_
      refine rz_bipush (v := 12) d_Md_wordRank_51 (by decide) ?_
      refine rz_iconst d_Md_wordRank_53 ?_
      refine rz_bipush (v := 19) d_Md_wordRank_54 (by decide) ?_
      refine rz_callS (As := [vi 13, vi 9, vi 12, vi 5, vi 19]) (c_Md_spelt ⟨by decide, by decide⟩ ⟨by decide, by decide⟩ ⟨by decide, by decide⟩ ⟨by decide, by decide⟩ ⟨by decide, by decide⟩) m_Md_95 rfl rfl (Nat.le_of_ble_eq_true rfl) ⟨by decide, by decide⟩ ⟨by decide, by decide⟩ d_Md_wordRank_56 (kEL (h := h) ?_)
      refine rz_Seq [vl 13938867, vl w] (by rw [show spE 13 9 12 5 19 = 13938867 from by decide]) ?_
      refine rz_ldc2 (v := 32) k_Md_87 d_Md_wordRank_59 ?_
      refine rz_lmul d_Md_wordRank_62 ?_
      refine rz_ldc2 (v := 20) k_Md_99 d_Md_wordRank_63 ?_
      refine rz_ladd d_Md_wordRank_66 ?_
      refine rz_ldc2 (v := 32768) k_Md_101 d_Md_wordRank_67 ?_
      refine rz_lmul d_Md_wordRank_70 ?_
      refine rz_ldc2 (v := 15360) k_Md_103 d_Md_wordRank_71 ?_
      refine rz_ladd d_Md_wordRank_74 ?_
      refine rz_ldc2 (v := 448) k_Md_105 d_Md_wordRank_75 ?_
      refine rz_ladd d_Md_wordRank_78 ?_
      refine rz_ldc2 (v := 5) k_Md_107 d_Md_wordRank_79 ?_
      refine rz_ladd d_Md_wordRank_82 ?_
      refine rz_lcmp (by omega) (by omega) d_Md_wordRank_83 ?_
      refine rz_if_neC 89 d_Md_wordRank_84 (by decide) (fun c84 => ?_) (fun c84 => ?_)
      · refine rz_lload 0 d_Md_wordRank_89 rfl ?_
        refine rz_bipush (v := 18) d_Md_wordRank_91 (by decide) ?_
        refine rz_iconst d_Md_wordRank_93 ?_
        refine rz_iconst d_Md_wordRank_94 ?_
        refine rz_iconst d_Md_wordRank_95 ?_
        refine rz_iconst d_Md_wordRank_96 ?_
        refine rz_callS (As := [vi 18, vi 3, vi 0, vi 0, vi 0]) (c_Md_spelt ⟨by decide, by decide⟩ ⟨by decide, by decide⟩ ⟨by decide, by decide⟩ ⟨by decide, by decide⟩ ⟨by decide, by decide⟩) m_Md_95 rfl rfl (Nat.le_of_ble_eq_true rfl) ⟨by decide, by decide⟩ ⟨by decide, by decide⟩ d_Md_wordRank_97 (kEL (h := h) ?_)
        refine rz_Seq [vl 579, vl w] (by rw [show spE 18 3 0 0 0 = 579 from by decide]) ?_
        refine rz_lcmp (by omega) (by omega) d_Md_wordRank_100 ?_
        refine rz_if_eqC 119 d_Md_wordRank_101 (by decide) (fun c101 => ?_) (fun c101 => ?_)
        · refine rz_iconst d_Md_wordRank_119 ?_
          exact rz_ireturn (st := []) rfl d_Md_wordRank_120 ⟨by decide, by decide⟩ ⟨_, rfl, (by rw [e_w]; unfold wrR; first | (simp [*]; done) | (simp only [*]; simp; done) | grind), rfl⟩
        · refine rz_lload 0 d_Md_wordRank_104 rfl ?_
          refine rz_iconst d_Md_wordRank_106 ?_
          refine rz_bipush (v := 18) d_Md_wordRank_107 (by decide) ?_
          refine rz_iconst d_Md_wordRank_109 ?_
          refine rz_iconst d_Md_wordRank_110 ?_
          refine rz_iconst d_Md_wordRank_111 ?_
          refine rz_callS (As := [vi 3, vi 18, vi 0, vi 0, vi 0]) (c_Md_spelt ⟨by decide, by decide⟩ ⟨by decide, by decide⟩ ⟨by decide, by decide⟩ ⟨by decide, by decide⟩ ⟨by decide, by decide⟩) m_Md_95 rfl rfl (Nat.le_of_ble_eq_true rfl) ⟨by decide, by decide⟩ ⟨by decide, by decide⟩ d_Md_wordRank_112 (kEL (h := h) ?_)
          refine rz_Seq [vl 114, vl w] (by rw [show spE 3 18 0 0 0 = 114 from by decide]) ?_
          refine rz_lcmp (by omega) (by omega) d_Md_wordRank_115 ?_
          refine rz_if_neC 121 d_Md_wordRank_116 (by decide) (fun c116 => ?_) (fun c116 => ?_)
          · refine rz_lload 0 d_Md_wordRank_121 rfl ?_
            refine rz_bipush (v := 19) d_Md_wordRank_123 (by decide) ?_
            refine rz_bipush (v := 14) d_Md_wordRank_125 (by decide) ?_
            refine rz_iconst d_Md_wordRank_127 ?_
            refine rz_bipush (v := 16) d_Md_wordRank_128 (by decide) ?_
            refine rz_bipush (v := 19) d_Md_wordRank_130 (by decide) ?_
            refine rz_callS (As := [vi 19, vi 14, vi 1, vi 16, vi 19]) (c_Md_spelt ⟨by decide, by decide⟩ ⟨by decide, by decide⟩ ⟨by decide, by decide⟩ ⟨by decide, by decide⟩ ⟨by decide, by decide⟩) m_Md_95 rfl rfl (Nat.le_of_ble_eq_true rfl) ⟨by decide, by decide⟩ ⟨by decide, by decide⟩ d_Md_wordRank_132 (kEL (h := h) ?_)
            refine rz_Seq [vl 20383251, vl w] (by rw [show spE 19 14 1 16 19 = 20383251 from by decide]) ?_
            refine rz_ldc2 (v := 32768) k_Md_101 d_Md_wordRank_135 ?_
            refine rz_lmul d_Md_wordRank_138 ?_
            refine rz_ldc2 (v := 8192) k_Md_109 d_Md_wordRank_139 ?_
            refine rz_ladd d_Md_wordRank_142 ?_
            refine rz_ldc2 (v := 480) k_Md_111 d_Md_wordRank_143 ?_
            refine rz_ladd d_Md_wordRank_146 ?_
            refine rz_ldc2 (v := 20) k_Md_99 d_Md_wordRank_147 ?_
            refine rz_ladd d_Md_wordRank_150 ?_
            refine rz_lcmp (by omega) (by omega) d_Md_wordRank_151 ?_
            refine rz_if_neC 157 d_Md_wordRank_152 (by decide) (fun c152 => ?_) (fun c152 => ?_)
            · refine rz_lload 0 d_Md_wordRank_157 rfl ?_
              refine rz_bipush (v := 7) d_Md_wordRank_159 (by decide) ?_
              refine rz_iconst d_Md_wordRank_161 ?_
              refine rz_iconst d_Md_wordRank_162 ?_
              refine rz_iconst d_Md_wordRank_163 ?_
              refine rz_iconst d_Md_wordRank_164 ?_
              refine rz_callS (As := [vi 7, vi 1, vi 0, vi 0, vi 0]) (c_Md_spelt ⟨by decide, by decide⟩ ⟨by decide, by decide⟩ ⟨by decide, by decide⟩ ⟨by decide, by decide⟩ ⟨by decide, by decide⟩) m_Md_95 rfl rfl (Nat.le_of_ble_eq_true rfl) ⟨by decide, by decide⟩ ⟨by decide, by decide⟩ d_Md_wordRank_165 (kEL (h := h) ?_)
              refine rz_Seq [vl 225, vl w] (by rw [show spE 7 1 0 0 0 = 225 from by decide]) ?_
              refine rz_lcmp (by omega) (by omega) d_Md_wordRank_168 ?_
              refine rz_if_eqC 218 d_Md_wordRank_169 (by decide) (fun c169 => ?_) (fun c169 => ?_)
              · refine rz_bipush (v := 6) d_Md_wordRank_218 (by decide) ?_
                exact rz_ireturn (st := []) rfl d_Md_wordRank_220 ⟨by decide, by decide⟩ ⟨_, rfl, (by rw [e_w]; unfold wrR; first | (simp [*]; done) | (simp only [*]; simp; done) | grind), rfl⟩
              · refine rz_lload 0 d_Md_wordRank_172 rfl ?_
                refine rz_bipush (v := 6) d_Md_wordRank_174 (by decide) ?_
                refine rz_bipush (v := 9) d_Md_wordRank_176 (by decide) ?_
                refine rz_bipush (v := 14) d_Md_wordRank_178 (by decide) ?_
                refine rz_iconst d_Md_wordRank_180 ?_
                refine rz_bipush (v := 12) d_Md_wordRank_181 (by decide) ?_
                refine rz_callS (As := [vi 6, vi 9, vi 14, vi 1, vi 12]) (c_Md_spelt ⟨by decide, by decide⟩ ⟨by decide, by decide⟩ ⟨by decide, by decide⟩ ⟨by decide, by decide⟩ ⟨by decide, by decide⟩) m_Md_95 rfl rfl (Nat.le_of_ble_eq_true rfl) ⟨by decide, by decide⟩ ⟨by decide, by decide⟩ d_Md_wordRank_183 (kEL (h := h) ?_)
                refine rz_Seq [vl 6600748, vl w] (by rw [show spE 6 9 14 1 12 = 6600748 from by decide]) ?_
                refine rz_lcmp (by omega) (by omega) d_Md_wordRank_186 ?_
                refine rz_if_eqC 218 d_Md_wordRank_187 (by decide) (fun c187 => ?_) (fun c187 => ?_)
                · refine rz_bipush (v := 6) d_Md_wordRank_218 (by decide) ?_
                  exact rz_ireturn (st := []) rfl d_Md_wordRank_220 ⟨by decide, by decide⟩ ⟨_, rfl, (by rw [e_w]; unfold wrR; first | (simp [*]; done) | (simp only [*]; simp; done) | grind), rfl⟩
                · refine rz_lload 0 d_Md_wordRank_190 rfl ?_
                  refine rz_bipush (v := 18) d_Md_wordRank_192 (by decide) ?_
                  refine rz_iconst d_Md_wordRank_194 ?_
                  refine rz_bipush (v := 12) d_Md_wordRank_195 (by decide) ?_
                  refine rz_iconst d_Md_wordRank_197 ?_
                  refine rz_iconst d_Md_wordRank_198 ?_
                  refine rz_callS (As := [vi 18, vi 5, vi 12, vi 5, vi 1]) (c_Md_spelt ⟨by decide, by decide⟩ ⟨by decide, by decide⟩ ⟨by decide, by decide⟩ ⟨by decide, by decide⟩ ⟨by decide, by decide⟩) m_Md_95 rfl rfl (Nat.le_of_ble_eq_true rfl) ⟨by decide, by decide⟩ ⟨by decide, by decide⟩ d_Md_wordRank_199 (kEL (h := h) ?_)
                  refine rz_Seq [vl 19050657, vl w] (by rw [show spE 18 5 12 5 1 = 19050657 from by decide]) ?_
                  refine rz_ldc2 (v := 1024) k_Md_113 d_Md_wordRank_202 ?_
                  refine rz_lmul d_Md_wordRank_205 ?_
                  refine rz_ldc2 (v := 608) k_Md_115 d_Md_wordRank_206 ?_
                  refine rz_ladd d_Md_wordRank_209 ?_
                  refine rz_ldc2 (v := 5) k_Md_107 d_Md_wordRank_210 ?_
                  refine rz_ladd d_Md_wordRank_213 ?_
                  refine rz_lcmp (by omega) (by omega) d_Md_wordRank_214 ?_
                  refine rz_if_neC 221 d_Md_wordRank_215 (by decide) (fun c215 => ?_) (fun c215 => ?_)
                  · refine rz_lload 0 d_Md_wordRank_221 rfl ?_
                    refine rz_bipush (v := 19) d_Md_wordRank_223 (by decide) ?_
                    refine rz_bipush (v := 16) d_Md_wordRank_225 (by decide) ?_
                    refine rz_iconst d_Md_wordRank_227 ?_
                    refine rz_iconst d_Md_wordRank_228 ?_
                    refine rz_iconst d_Md_wordRank_229 ?_
                    refine rz_callS (As := [vi 19, vi 16, vi 0, vi 0, vi 0]) (c_Md_spelt ⟨by decide, by decide⟩ ⟨by decide, by decide⟩ ⟨by decide, by decide⟩ ⟨by decide, by decide⟩ ⟨by decide, by decide⟩) m_Md_95 rfl rfl (Nat.le_of_ble_eq_true rfl) ⟨by decide, by decide⟩ ⟨by decide, by decide⟩ d_Md_wordRank_230 (kEL (h := h) ?_)
                    refine rz_Seq [vl 624, vl w] (by rw [show spE 19 16 0 0 0 = 624 from by decide]) ?_
                    refine rz_lcmp (by omega) (by omega) d_Md_wordRank_233 ?_
                    refine rz_if_neC 240 d_Md_wordRank_234 (by decide) (fun c234 => ?_) (fun c234 => ?_)
                    · refine rz_cut (α := Unit) 0 0 264 (fun _ => True) (fun _ => [(4, vl w), (0, .ref x), (1, vi t), (2, vi lo), (3, vi hi)]) (fun _ => [vi (bi (decide (hi - lo = 1) && isD (mAt M t hi)))]) (fun _ => h) (fun _ _ => ?_) (fun J264 => ?_)
                      · refine rz_istore [(6, vi (bi (decide (hi - lo = 1) && isD (mAt M t hi)))), (4, vl w), (0, .ref x), (1, vi t), (2, vi lo), (3, vi hi)] d_Md_wordRank_264 (by decide) rfl ?_
                        refine rz_iload 0 d_Md_wordRank_266 rfl ?_
                        refine rz_if_eqB 278 d_Md_wordRank_268 (by decide) (fun c268 => ?_) (fun c268 => ?_)
                        · refine rz_iload 0 d_Md_wordRank_278 rfl ?_
                          refine rz_if_eqB 296 d_Md_wordRank_280 (by decide) (fun c280 => ?_) (fun c280 => ?_)
                          · refine rz_iload 0 d_Md_wordRank_296 rfl ?_
                            refine rz_if_eqB 314 d_Md_wordRank_298 (by decide) (fun c298 => ?_) (fun c298 => ?_)
                            · refine rz_bipush (v := 8) d_Md_wordRank_314 (by decide) ?_
                              exact rz_ireturn (st := []) rfl d_Md_wordRank_316 ⟨by decide, by decide⟩ ⟨_, rfl, (by rw [e_w]; unfold wrR; first | (simp [*]; done) | (simp only [*]; simp; done) | grind), rfl⟩
                            · refine rz_lload 1 d_Md_wordRank_301 rfl ?_
                              refine rz_ldc2 (v := 13) k_Md_119 d_Md_wordRank_303 ?_
                              refine rz_lcmp (by omega) (by omega) d_Md_wordRank_306 ?_
                              refine rz_if_neC 314 d_Md_wordRank_307 (by decide) (fun c307 => ?_) (fun c307 => ?_)
                              · refine rz_bipush (v := 8) d_Md_wordRank_314 (by decide) ?_
                                exact rz_ireturn (st := []) rfl d_Md_wordRank_316 ⟨by decide, by decide⟩ ⟨_, rfl, (by rw [e_w]; unfold wrR; first | (simp [*]; done) | (simp only [*]; simp; done) | grind), rfl⟩
                              · refine rz_iconst d_Md_wordRank_310 ?_
                                refine rz_goto 316 d_Md_wordRank_311 (by decide) ?_
                                exact rz_ireturn (st := []) rfl d_Md_wordRank_316 ⟨by decide, by decide⟩ ⟨_, rfl, (by rw [e_w]; unfold wrR; first | (simp [*]; done) | (simp only [*]; simp; done) | grind), rfl⟩
                          · refine rz_lload 1 d_Md_wordRank_283 rfl ?_
                            refine rz_ldc2 (v := 2) k_Md_117 d_Md_wordRank_285 ?_
                            refine rz_lcmp (by omega) (by omega) d_Md_wordRank_288 ?_
                            refine rz_if_neC 296 d_Md_wordRank_289 (by decide) (fun c289 => ?_) (fun c289 => ?_)
                            · refine rz_iload 0 d_Md_wordRank_296 rfl ?_
                              refine rz_if_eqB 314 d_Md_wordRank_298 (by decide) (fun c298 => ?_) (fun c298 => ?_)
                              · refine rz_bipush (v := 8) d_Md_wordRank_314 (by decide) ?_
                                exact rz_ireturn (st := []) rfl d_Md_wordRank_316 ⟨by decide, by decide⟩ ⟨_, rfl, (by rw [e_w]; unfold wrR; first | (simp [*]; done) | (simp only [*]; simp; done) | grind), rfl⟩
                              · refine rz_lload 1 d_Md_wordRank_301 rfl ?_
                                refine rz_ldc2 (v := 13) k_Md_119 d_Md_wordRank_303 ?_
                                refine rz_lcmp (by omega) (by omega) d_Md_wordRank_306 ?_
                                refine rz_if_neC 314 d_Md_wordRank_307 (by decide) (fun c307 => ?_) (fun c307 => ?_)
                                · refine rz_bipush (v := 8) d_Md_wordRank_314 (by decide) ?_
                                  exact rz_ireturn (st := []) rfl d_Md_wordRank_316 ⟨by decide, by decide⟩ ⟨_, rfl, (by rw [e_w]; unfold wrR; first | (simp [*]; done) | (simp only [*]; simp; done) | grind), rfl⟩
                                · refine rz_iconst d_Md_wordRank_310 ?_
                                  refine rz_goto 316 d_Md_wordRank_311 (by decide) ?_
                                  exact rz_ireturn (st := []) rfl d_Md_wordRank_316 ⟨by decide, by decide⟩ ⟨_, rfl, (by rw [e_w]; unfold wrR; first | (simp [*]; done) | (simp only [*]; simp; done) | grind), rfl⟩
                            · refine rz_lload 1 d_Md_wordRank_292 rfl ?_
                              refine rz_l2i d_Md_wordRank_294 ?_
                              exact rz_ireturn (st := []) rfl d_Md_wordRank_295 ⟨by decide, by decide⟩ ⟨_, rfl, (by rw [e_w]; unfold wrR; first | (simp [*]; done) | (simp only [*]; simp; done) | grind), rfl⟩
                        · refine rz_lload 1 d_Md_wordRank_271 rfl ?_
                          refine rz_lconst (v := 1) d_Md_wordRank_273 (by decide) ?_
                          refine rz_lcmp (by omega) (by omega) d_Md_wordRank_274 ?_
                          refine rz_if_eqC 292 d_Md_wordRank_275 (by decide) (fun c275 => ?_) (fun c275 => ?_)
                          · refine rz_lload 1 d_Md_wordRank_292 rfl ?_
                            refine rz_l2i d_Md_wordRank_294 ?_
                            exact rz_ireturn (st := []) rfl d_Md_wordRank_295 ⟨by decide, by decide⟩ ⟨_, rfl, (by rw [e_w]; unfold wrR; first | (simp [*]; done) | (simp only [*]; simp; done) | grind), rfl⟩
                          · refine rz_iload 0 d_Md_wordRank_278 rfl ?_
                            refine rz_if_eqB 296 d_Md_wordRank_280 (by decide) (fun c280 => ?_) (fun c280 => ?_)
                            · refine rz_iload 0 d_Md_wordRank_296 rfl ?_
                              refine rz_if_eqB 314 d_Md_wordRank_298 (by decide) (fun c298 => ?_) (fun c298 => ?_)
                              · refine rz_bipush (v := 8) d_Md_wordRank_314 (by decide) ?_
                                exact rz_ireturn (st := []) rfl d_Md_wordRank_316 ⟨by decide, by decide⟩ ⟨_, rfl, (by rw [e_w]; unfold wrR; first | (simp [*]; done) | (simp only [*]; simp; done) | grind), rfl⟩
                              · refine rz_lload 1 d_Md_wordRank_301 rfl ?_
                                refine rz_ldc2 (v := 13) k_Md_119 d_Md_wordRank_303 ?_
                                refine rz_lcmp (by omega) (by omega) d_Md_wordRank_306 ?_
                                refine rz_if_neC 314 d_Md_wordRank_307 (by decide) (fun c307 => ?_) (fun c307 => ?_)
                                · refine rz_bipush (v := 8) d_Md_wordRank_314 (by decide) ?_
                                  exact rz_ireturn (st := []) rfl d_Md_wordRank_316 ⟨by decide, by decide⟩ ⟨_, rfl, (by rw [e_w]; unfold wrR; first | (simp [*]; done) | (simp only [*]; simp; done) | grind), rfl⟩
                                · refine rz_iconst d_Md_wordRank_310 ?_
                                  refine rz_goto 316 d_Md_wordRank_311 (by decide) ?_
                                  exact rz_ireturn (st := []) rfl d_Md_wordRank_316 ⟨by decide, by decide⟩ ⟨_, rfl, (by rw [e_w]; unfold wrR; first | (simp [*]; done) | (simp only [*]; simp; done) | grind), rfl⟩
                            · refine rz_lload 1 d_Md_wordRank_283 rfl ?_
                              refine rz_ldc2 (v := 2) k_Md_117 d_Md_wordRank_285 ?_
                              refine rz_lcmp (by omega) (by omega) d_Md_wordRank_288 ?_
                              refine rz_if_neC 296 d_Md_wordRank_289 (by decide) (fun c289 => ?_) (fun c289 => ?_)
                              · refine rz_iload 0 d_Md_wordRank_296 rfl ?_
                                refine rz_if_eqB 314 d_Md_wordRank_298 (by decide) (fun c298 => ?_) (fun c298 => ?_)
                                · refine rz_bipush (v := 8) d_Md_wordRank_314 (by decide) ?_
                                  exact rz_ireturn (st := []) rfl d_Md_wordRank_316 ⟨by decide, by decide⟩ ⟨_, rfl, (by rw [e_w]; unfold wrR; first | (simp [*]; done) | (simp only [*]; simp; done) | grind), rfl⟩
                                · refine rz_lload 1 d_Md_wordRank_301 rfl ?_
                                  refine rz_ldc2 (v := 13) k_Md_119 d_Md_wordRank_303 ?_
                                  refine rz_lcmp (by omega) (by omega) d_Md_wordRank_306 ?_
                                  refine rz_if_neC 314 d_Md_wordRank_307 (by decide) (fun c307 => ?_) (fun c307 => ?_)
                                  · refine rz_bipush (v := 8) d_Md_wordRank_314 (by decide) ?_
                                    exact rz_ireturn (st := []) rfl d_Md_wordRank_316 ⟨by decide, by decide⟩ ⟨_, rfl, (by rw [e_w]; unfold wrR; first | (simp [*]; done) | (simp only [*]; simp; done) | grind), rfl⟩
                                  · refine rz_iconst d_Md_wordRank_310 ?_
                                    refine rz_goto 316 d_Md_wordRank_311 (by decide) ?_
                                    exact rz_ireturn (st := []) rfl d_Md_wordRank_316 ⟨by decide, by decide⟩ ⟨_, rfl, (by rw [e_w]; unfold wrR; first | (simp [*]; done) | (simp only [*]; simp; done) | grind), rfl⟩
                              · refine rz_lload 1 d_Md_wordRank_292 rfl ?_
                                refine rz_l2i d_Md_wordRank_294 ?_
                                exact rz_ireturn (st := []) rfl d_Md_wordRank_295 ⟨by decide, by decide⟩ ⟨_, rfl, (by rw [e_w]; unfold wrR; first | (simp [*]; done) | (simp only [*]; simp; done) | grind), rfl⟩
                      · refine rz_iload_n 4 d_Md_wordRank_240 rfl rfl ?_
                        refine rz_iload_n 3 d_Md_wordRank_241 rfl rfl ?_
                        refine rz_isub d_Md_wordRank_242 ?_
                        refine rz_iconst d_Md_wordRank_243 ?_
                        refine rz_icmp_ne 263 d_Md_wordRank_244 (by decide) (by omega) ⟨by decide, by decide⟩ (fun c244 => ?_) (fun c244 => ?_)
                        · refine rz_iconst d_Md_wordRank_263 ?_
                          refine rz_Seq [vi (bi (decide (hi - lo = 1) && isD (mAt M t hi)))] (by rw [show (decide (hi - lo = 1) && isD (mAt M t hi)) = false from by simp [*]]; rfl) ?_
                          exact J264 () trivial
                        · refine rz_aload_n 1 d_Md_wordRank_247 rfl rfl ?_
                          refine rz_iload_n 2 d_Md_wordRank_248 rfl rfl ?_
                          refine rz_iload_n 4 d_Md_wordRank_249 rfl rfl ?_
                          refine rz_callV (As := [vi t, vi hi]) (c_Md_at hM hw ht (by omega)) m_Md_74 hM.1 rfl rfl rfl rfl (Nat.le_of_ble_eq_true rfl) ⟨by decide, by decide⟩ ⟨by decide, by decide⟩ d_Md_wordRank_250 (kE (h := h) ?_)
                          refine rz_callS (As := [vi (mAt M t hi)]) (c_Md_digit (by have := mAt_in hw ht hi; omega)) m_Md_60 rfl rfl (Nat.le_of_ble_eq_true rfl) ⟨by decide, by decide⟩ ⟨by decide, by decide⟩ d_Md_wordRank_253 (kE (h := h) ?_)
                          refine rz_if_eqB 263 d_Md_wordRank_256 (by decide) (fun c256 => ?_) (fun c256 => ?_)
                          · refine rz_iconst d_Md_wordRank_263 ?_
                            refine rz_Seq [vi (bi (decide (hi - lo = 1) && isD (mAt M t hi)))] (by rw [show (decide (hi - lo = 1) && isD (mAt M t hi)) = false from by simp [*]]; rfl) ?_
                            exact J264 () trivial
                          · refine rz_iconst d_Md_wordRank_259 ?_
                            refine rz_goto 264 d_Md_wordRank_260 (by decide) ?_
                            refine rz_Seq [vi (bi (decide (hi - lo = 1) && isD (mAt M t hi)))] (by rw [show (decide (hi - lo = 1) && isD (mAt M t hi)) = true from by simp [*]]; rfl) ?_
                            exact J264 () trivial
                    · refine rz_bipush (v := 7) d_Md_wordRank_237 (by decide) ?_
                      exact rz_ireturn (st := []) rfl d_Md_wordRank_239 ⟨by decide, by decide⟩ ⟨_, rfl, (by rw [e_w]; unfold wrR; first | (simp [*]; done) | (simp only [*]; simp; done) | grind), rfl⟩
                  · refine rz_bipush (v := 6) d_Md_wordRank_218 (by decide) ?_
                    exact rz_ireturn (st := []) rfl d_Md_wordRank_220 ⟨by decide, by decide⟩ ⟨_, rfl, (by rw [e_w]; unfold wrR; first | (simp [*]; done) | (simp only [*]; simp; done) | grind), rfl⟩
            · refine rz_iconst d_Md_wordRank_155 ?_
              exact rz_ireturn (st := []) rfl d_Md_wordRank_156 ⟨by decide, by decide⟩ ⟨_, rfl, (by rw [e_w]; unfold wrR; first | (simp [*]; done) | (simp only [*]; simp; done) | grind), rfl⟩
          · refine rz_iconst d_Md_wordRank_119 ?_
            exact rz_ireturn (st := []) rfl d_Md_wordRank_120 ⟨by decide, by decide⟩ ⟨_, rfl, (by rw [e_w]; unfold wrR; first | (simp [*]; done) | (simp only [*]; simp; done) | grind), rfl⟩
      · refine rz_iconst d_Md_wordRank_87 ?_
        exact rz_ireturn (st := []) rfl d_Md_wordRank_88 ⟨by decide, by decide⟩ ⟨_, rfl, (by rw [e_w]; unfold wrR; first | (simp [*]; done) | (simp only [*]; simp; done) | grind), rfl⟩
    · refine rz_iconst d_Md_wordRank_43 ?_
      exact rz_ireturn (st := []) rfl d_Md_wordRank_44 ⟨by decide, by decide⟩ ⟨_, rfl, (by rw [e_w]; unfold wrR; first | (simp [*]; done) | (simp only [*]; simp; done) | grind), rfl⟩
  · refine rz_iconst d_Md_wordRank_26 ?_
    exact rz_ireturn (st := []) rfl d_Md_wordRank_27 ⟨by decide, by decide⟩ ⟨_, rfl, (by rw [e_w]; unfold wrR; first | (simp [*]; done) | (simp only [*]; simp; done) | grind), rfl⟩
end
section
/-! the reference: rankOf, words -/
def zrF (f : Int → Int) : Nat → Int → Bool
  | 0, _ => true
  | n + 1, i => if f i = 48 then zrF f n (i + 1) else false
theorem zrF_go {f : Int → Int} {n : Nat} {i : Int} (hn : 0 < n) (h : f i = 48) : zrF f n i = zrF f (n - 1) (i + 1) := by
  cases n with
  | zero => omega
  | succ n => simp only [zrF]; rw [if_pos h]; rfl
theorem zrF_no {f : Int → Int} {n : Nat} {i : Int} (hn : 0 < n) (h : ¬ f i = 48) : zrF f n i = false := by
  cases n with
  | zero => omega
  | succ n => simp only [zrF]; rw [if_neg h]
/-- the rank of the item that stands at a .. e -/
def rkI (f : Int → Int) (a e : Int) : Int := if isL (f a) = true then wrR (wrd f a e) (decide (e - a = 1) && isD (f e)) else if zrF f (e - a).toNat a = true then 6 else 9
theorem wrR_in (w : Int) (sh : Bool) : 1 ≤ wrR w sh ∧ wrR w sh ≤ 8 := by
  unfold wrR
  repeat' split
  all_goals omega
theorem rkI_in (f : Int → Int) (a e : Int) : 1 ≤ rkI f a e ∧ rkI f a e ≤ 9 := by
  unfold rkI
  split
  · have := wrR_in (wrd f a e) (decide (e - a = 1) && isD (f e)); omega
  · split <;> omega
abbrev rm_Md_rankOf : Room := { frames := 4, cells := 0, slots := 0, locals := 96 }
set_option maxRecDepth 100000 in
set_option maxHeartbeats 4000000 in
theorem c_Md_rankOf {l : Launch} {Γ : rz_G} {h : rz_H} {x : Nat} {ad : Nat → Nat} {M : Nat → Int → Int} (hM : MdAt Γ h x ad M) (hw : mWF M) {t : Int} {th : Bool} (ht : 0 ≤ t ∧ t < 126) (h17 : 0 ≤ M 17 0 ∧ M 17 0 ≤ 100) (h18 : 0 ≤ M 18 0 ∧ M 18 0 ≤ 100) : Ct l Γ x_Md_rankOf y_Md_rankOf rm_Md_rankOf [.ref x, vi t, vi (bi th)] h (pE (if th = true then rkI (mAt M t) (M 17 0) (M 18 0) else 6) h) := by
  refine rz_met (by decide) rfl rfl (Nat.le_of_ble_eq_true rfl) (fun K _ => ?_)
  refine rz_Leq [(0, .ref x), (1, vi t), (2, vi (bi th))] rfl ?_
  refine rz_iload_n 2 d_Md_rankOf_0 rfl rfl ?_
  refine rz_if_neB 7 d_Md_rankOf_1 (by decide) (fun c1 => ?_) (fun c1 => ?_)
  · refine rz_aload_n 0 d_Md_rankOf_7 rfl rfl ?_
    refine rz_iload_n 1 d_Md_rankOf_8 rfl rfl ?_
    refine rz_aload_n 0 d_Md_rankOf_9 rfl rfl ?_
    refine rz_getf f_Md_78 hM.1 rfl d_Md_rankOf_10 ?_
    refine rz_callV (As := [vi t, vi (M 17 0)]) (c_Md_at hM hw ht (by omega)) m_Md_74 hM.1 rfl rfl rfl rfl (Nat.le_of_ble_eq_true rfl) ⟨by decide, by decide⟩ ⟨by decide, by decide⟩ d_Md_rankOf_13 (kE (h := h) ?_)
    refine rz_callS (As := [vi (mAt M t (M 17 0))]) (c_Md_letter (by have := mAt_in hw ht (M 17 0); omega)) m_Md_64 rfl rfl (Nat.le_of_ble_eq_true rfl) ⟨by decide, by decide⟩ ⟨by decide, by decide⟩ d_Md_rankOf_16 (kE (h := h) ?_)
    refine rz_if_eqB 36 d_Md_rankOf_19 (by decide) (fun c19 => ?_) (fun c19 => ?_)
    · refine rz_aload_n 0 d_Md_rankOf_36 rfl rfl ?_
      refine rz_getf f_Md_78 hM.1 rfl d_Md_rankOf_37 ?_
      refine rz_istore_n [(3, vi (M 17 0)), (0, .ref x), (1, vi t), (2, vi (bi th))] d_Md_rankOf_40 rfl (by decide) rfl ?_
      refine rz_loop (α := Int) 0 0 41 (fun i => (M 18 0 - i).toNat) (fun i => M 17 0 ≤ i ∧ (i ≤ M 18 0 ∨ i = M 17 0) ∧ zrF (mAt M t) (M 18 0 - M 17 0).toNat (M 17 0) = zrF (mAt M t) (M 18 0 - i).toNat i) (fun i => [(3, vi i), (0, .ref x), (1, vi t), (2, vi (bi th))]) (fun i => []) (fun i => h) (fun y hy ih41 => ?_) (fun LP => ?_)
      · obtain ⟨i, rfl⟩ : ∃ z, z = y := ⟨_, rfl⟩
        try dsimp only at hy ih41 ⊢
        obtain ⟨hi0, hi1, hv⟩ := hy
        refine rz_iload_n 0 d_Md_rankOf_41 rfl rfl ?_
        refine rz_aload_n 1 d_Md_rankOf_42 rfl rfl ?_
        refine rz_getf f_Md_82 hM.1 rfl d_Md_rankOf_43 ?_
        refine rz_icmp_ge 69 d_Md_rankOf_46 (by decide) (by omega) (by omega) (fun c46 => ?_) (fun c46 => ?_)
        · refine rz_bipush (v := 6) d_Md_rankOf_69 (by decide) ?_
          exact rz_ireturn (st := []) rfl d_Md_rankOf_71 ⟨by decide, by decide⟩ ⟨_, rfl, (by rw [if_pos c1, rkI, if_neg (by simp [*]), hv, show (M 18 0 - i).toNat = 0 by omega]; rfl), rfl⟩
        · refine rz_aload_n 1 d_Md_rankOf_49 rfl rfl ?_
          refine rz_iload_n 2 d_Md_rankOf_50 rfl rfl ?_
          refine rz_iload_n 0 d_Md_rankOf_51 rfl rfl ?_
          refine rz_callV (As := [vi t, vi i]) (c_Md_at hM hw ht (by omega)) m_Md_74 hM.1 rfl rfl rfl rfl (Nat.le_of_ble_eq_true rfl) ⟨by decide, by decide⟩ ⟨by decide, by decide⟩ d_Md_rankOf_52 (kE (h := h) ?_)
          refine rz_bipush (v := 48) d_Md_rankOf_55 (by decide) ?_
          refine rz_icmp_eq 63 d_Md_rankOf_57 (by decide) (by have := mAt_in hw ht i; omega) ⟨by decide, by decide⟩ (fun c57 => ?_) (fun c57 => ?_)
          · refine rz_iinc (i + 1) 0 [(3, vi (i + 1)), (0, .ref x), (1, vi t), (2, vi (bi th))] d_Md_rankOf_63 rfl (by first | rfl | omega) (by decide) rfl ?_
            refine rz_goto 41 d_Md_rankOf_66 (by decide) ?_
            refine rz_Lsub [(3, vi (i + 1)), (0, .ref x), (1, vi t), (2, vi (bi th))] [0, 1, 2, 3] rfl ?_
            exact ih41 (i + 1) ⟨by omega, by omega, (by rw [hv, zrF_go (by omega) (by omega)]; congr 1; omega)⟩ (by first | omega | (dsimp only; omega))
          · refine rz_bipush (v := 9) d_Md_rankOf_60 (by decide) ?_
            exact rz_ireturn (st := []) rfl d_Md_rankOf_62 ⟨by decide, by decide⟩ ⟨_, rfl, (by rw [if_pos c1, rkI, if_neg (by simp [*]), hv, zrF_no (by omega) (by omega)]; rfl), rfl⟩
      · refine rz_Lsub [(3, vi (M 17 0)), (0, .ref x), (1, vi t), (2, vi (bi th))] [0, 1, 2, 3] rfl ?_
        exact LP (M 17 0) ⟨by omega, by omega, rfl⟩
    · refine rz_aload_n 0 d_Md_rankOf_22 rfl rfl ?_
      refine rz_iload_n 1 d_Md_rankOf_23 rfl rfl ?_
      refine rz_aload_n 0 d_Md_rankOf_24 rfl rfl ?_
      refine rz_getf f_Md_78 hM.1 rfl d_Md_rankOf_25 ?_
      refine rz_aload_n 0 d_Md_rankOf_28 rfl rfl ?_
      refine rz_getf f_Md_82 hM.1 rfl d_Md_rankOf_29 ?_
      refine rz_callV (As := [vi t, vi (M 17 0), vi (M 18 0)]) (c_Md_wordRank hM hw ht (by omega) (by omega)) m_Md_121 hM.1 rfl rfl rfl rfl (Nat.le_of_ble_eq_true rfl) ⟨by decide, by decide⟩ ⟨by decide, by decide⟩ d_Md_rankOf_32 (kE (h := h) ?_)
      exact rz_ireturn (st := []) rfl d_Md_rankOf_35 ⟨by decide, by decide⟩ ⟨_, rfl, (by rw [if_pos c1, rkI, if_pos c19]), rfl⟩
  · refine rz_bipush (v := 6) d_Md_rankOf_4 (by decide) ?_
    exact rz_ireturn (st := []) rfl d_Md_rankOf_6 ⟨by decide, by decide⟩ ⟨_, rfl, (by simp [*]), rfl⟩
def wcX (f : Int → Int) (a ae i : Int) : Int := if a + i < ae then f (a + i) else 0
def wcF (f g : Int → Int) (a ae b be : Int) : Nat → Int → Int
  | 0, _ => 0
  | n + 1, i => if a + i < ae ∨ b + i < be then (if wcX f a ae i = wcX g b be i then wcF f g a ae b be n (i + 1) else if wcX f a ae i < wcX g b be i then -1 else 1) else 0
/-- two words in the order of a dictionary -/
def wcp (f g : Int → Int) (a ae b be : Int) : Int := wcF f g a ae b be 101 0
theorem wcF_e (f g : Int → Int) (a ae b be : Int) {n : Nat} {i : Int} (hn : 0 < n) : wcF f g a ae b be n i = if a + i < ae ∨ b + i < be then (if wcX f a ae i = wcX g b be i then wcF f g a ae b be (n - 1) (i + 1) else if wcX f a ae i < wcX g b be i then -1 else 1) else 0 := by
  cases n with
  | zero => omega
  | succ n => rfl
theorem wcF_in (f g : Int → Int) (a ae b be : Int) : ∀ (n : Nat) (i : Int), -1 ≤ wcF f g a ae b be n i ∧ wcF f g a ae b be n i ≤ 1
  | 0, _ => by simp [wcF]
  | n + 1, i => by
    have ih := wcF_in f g a ae b be n (i + 1)
    simp only [wcF]
    repeat' split
    all_goals omega
theorem wcX_in {f : Int → Int} (hf : ∀ j, 0 ≤ f j ∧ f j ≤ 127) (a ae i : Int) : 0 ≤ wcX f a ae i ∧ wcX f a ae i ≤ 127 := by
  unfold wcX
  split
  · exact hf _
  · omega
abbrev rm_Md_words : Room := { frames := 2, cells := 0, slots := 0, locals := 44 }
set_option maxRecDepth 100000 in
set_option maxHeartbeats 4000000 in
theorem c_Md_words {l : Launch} {Γ : rz_G} {h : rz_H} {x : Nat} {ad : Nat → Nat} {M : Nat → Int → Int} (hM : MdAt Γ h x ad M) (hw : mWF M) {t u a ae b be : Int} (ht : 0 ≤ t ∧ t < 126) (hu : 0 ≤ u ∧ u < 126) (ha : 0 ≤ a ∧ a ≤ 100) (hae : 0 ≤ ae ∧ ae ≤ 100) (hb : 0 ≤ b ∧ b ≤ 100) (hbe : 0 ≤ be ∧ be ≤ 100) : Ct l Γ x_Md_words y_Md_words rm_Md_words [.ref x, vi t, vi a, vi ae, vi u, vi b, vi be] h (pE (wcp (mAt M t) (mAt M u) a ae b be) h) := by
  refine rz_met (by decide) rfl rfl (Nat.le_of_ble_eq_true rfl) (fun K _ => ?_)
  refine rz_Leq [(0, .ref x), (1, vi t), (2, vi a), (3, vi ae), (4, vi u), (5, vi b), (6, vi be)] rfl ?_
  refine rz_iconst d_Md_words_0 ?_
  refine rz_istore [(7, vi 0), (0, .ref x), (1, vi t), (2, vi a), (3, vi ae), (4, vi u), (5, vi b), (6, vi be)] d_Md_words_1 (by decide) rfl ?_
  refine rz_loop (α := Int) 0 0 3 (fun i => (101 - i).toNat) (fun i => 0 ≤ i ∧ i ≤ 100 ∧ wcF (mAt M t) (mAt M u) a ae b be 101 0 = wcF (mAt M t) (mAt M u) a ae b be (101 - i).toNat i) (fun i => [(7, vi i), (0, .ref x), (1, vi t), (2, vi a), (3, vi ae), (4, vi u), (5, vi b), (6, vi be)]) (fun i => []) (fun i => h) (fun y hy ih3 => ?_) (fun LP => ?_)
  · obtain ⟨i, rfl⟩ : ∃ z, z = y := ⟨_, rfl⟩
    try dsimp only at hy ih3 ⊢
    obtain ⟨hi0, hi1, hv⟩ := hy
    refine rz_iload_n 3 d_Md_words_3 rfl rfl ?_
    refine rz_cut (α := Unit) 0 0 21 (fun _ => a + i < ae ∨ b + i < be) (fun _ => [(7, vi i), (0, .ref x), (1, vi t), (2, vi a), (3, vi ae), (4, vi u), (5, vi b), (6, vi be)]) (fun _ => []) (fun _ => h) (fun _ k21 => ?_) (fun J21 => ?_)
    · refine rz_cut (α := Unit) 0 0 42 (fun _ => True) (fun _ => [(7, vi i), (0, .ref x), (1, vi t), (2, vi a), (3, vi ae), (4, vi u), (5, vi b), (6, vi be)]) (fun _ => [vi (wcX (mAt M t) a ae i)]) (fun _ => h) (fun _ _ => ?_) (fun J42 => ?_)
      · refine rz_top (fun xx e_xx => ?_)
        replace e_xx := e_xx.symm
        refine rz_istore [(8, vi xx), (7, vi i), (0, .ref x), (1, vi t), (2, vi a), (3, vi ae), (4, vi u), (5, vi b), (6, vi be)] d_Md_words_42 (by decide) rfl ?_
        have hx := wcX_in (mAt_in hw ht) a ae i
        rw [e_xx] at hx
        refine rz_cut (α := Unit) 0 0 69 (fun _ => True) (fun _ => [(8, vi xx), (7, vi i), (0, .ref x), (1, vi t), (2, vi a), (3, vi ae), (4, vi u), (5, vi b), (6, vi be)]) (fun _ => [vi (wcX (mAt M u) b be i)]) (fun _ => h) (fun _ _ => ?_) (fun J69 => ?_)
        · refine rz_top (fun yy e_yy => ?_)
          replace e_yy := e_yy.symm
          refine rz_istore [(9, vi yy), (8, vi xx), (7, vi i), (0, .ref x), (1, vi t), (2, vi a), (3, vi ae), (4, vi u), (5, vi b), (6, vi be)] d_Md_words_69 (by decide) rfl ?_
          have hy := wcX_in (mAt_in hw hu) b be i
          rw [e_yy] at hy
          refine rz_iload 1 d_Md_words_71 rfl ?_
          refine rz_iload 0 d_Md_words_73 rfl ?_
          refine rz_icmp_eq 91 d_Md_words_75 (by decide) (by omega) (by omega) (fun c75 => ?_) (fun c75 => ?_)
          · refine rz_iinc (i + 1) 2 [(7, vi (i + 1)), (9, vi yy), (8, vi xx), (0, .ref x), (1, vi t), (2, vi a), (3, vi ae), (4, vi u), (5, vi b), (6, vi be)] d_Md_words_91 rfl (by first | rfl | omega) (by decide) rfl ?_
            refine rz_goto 3 d_Md_words_94 (by decide) ?_
            refine rz_Lsub [(7, vi (i + 1)), (0, .ref x), (1, vi t), (2, vi a), (3, vi ae), (4, vi u), (5, vi b), (6, vi be)] [0, 3, 4, 5, 6, 7, 8, 9] rfl ?_
            exact ih3 (i + 1) ⟨by omega, by omega, (by rw [hv, wcF_e _ _ _ _ _ _ (by omega), if_pos k21, if_pos (by rw [e_xx, e_yy]; exact c75)]; congr 1; omega)⟩ (by first | omega | (dsimp only; omega))
          · refine rz_iload 1 d_Md_words_78 rfl ?_
            refine rz_iload 0 d_Md_words_80 rfl ?_
            refine rz_icmp_ge 89 d_Md_words_82 (by decide) (by omega) (by omega) (fun c82 => ?_) (fun c82 => ?_)
            · refine rz_iconst d_Md_words_89 ?_
              exact rz_ireturn (st := []) rfl d_Md_words_90 ⟨by decide, by decide⟩ ⟨_, rfl, (by rw [wcp, hv, wcF_e _ _ _ _ _ _ (by omega), if_pos k21, if_neg (by rw [e_xx, e_yy]; exact c75), if_neg (by omega)]), rfl⟩
            · refine rz_iconst d_Md_words_85 ?_
              refine rz_goto 90 d_Md_words_86 (by decide) ?_
              exact rz_ireturn (st := []) rfl d_Md_words_90 ⟨by decide, by decide⟩ ⟨_, rfl, (by rw [wcp, hv, wcF_e _ _ _ _ _ _ (by omega), if_pos k21, if_neg (by rw [e_xx, e_yy]; exact c75), if_pos (by omega)]), rfl⟩
        · refine rz_iload 7 d_Md_words_44 rfl ?_
          refine rz_iload 1 d_Md_words_46 rfl ?_
          refine rz_iadd d_Md_words_48 ?_
          refine rz_iload 8 d_Md_words_49 rfl ?_
          refine rz_icmp_ge 68 d_Md_words_51 (by decide) (by omega) (by omega) (fun c51 => ?_) (fun c51 => ?_)
          · refine rz_iconst d_Md_words_68 ?_
            refine rz_Seq [vi (wcX (mAt M u) b be i)] (by rw [wcX, if_neg (by omega)]) ?_
            exact J69 () trivial
          · refine rz_aload_n 2 d_Md_words_54 rfl rfl ?_
            refine rz_iload 6 d_Md_words_55 rfl ?_
            refine rz_iload 7 d_Md_words_57 rfl ?_
            refine rz_iload 1 d_Md_words_59 rfl ?_
            refine rz_iadd d_Md_words_61 ?_
            refine rz_callV (As := [vi u, vi (b + i)]) (c_Md_at hM hw hu (by omega)) m_Md_74 hM.1 rfl rfl rfl rfl (Nat.le_of_ble_eq_true rfl) ⟨by decide, by decide⟩ ⟨by decide, by decide⟩ d_Md_words_62 (kE (h := h) ?_)
            refine rz_goto 69 d_Md_words_65 (by decide) ?_
            refine rz_Seq [vi (wcX (mAt M u) b be i)] (by rw [wcX, if_pos (by omega)]) ?_
            exact J69 () trivial
      · refine rz_iload_n 3 d_Md_words_21 rfl rfl ?_
        refine rz_iload 0 d_Md_words_22 rfl ?_
        refine rz_iadd d_Md_words_24 ?_
        refine rz_iload_n 4 d_Md_words_25 rfl rfl ?_
        refine rz_icmp_ge 41 d_Md_words_26 (by decide) (by omega) (by omega) (fun c26 => ?_) (fun c26 => ?_)
        · refine rz_iconst d_Md_words_41 ?_
          refine rz_Seq [vi (wcX (mAt M t) a ae i)] (by rw [wcX, if_neg (by omega)]) ?_
          exact J42 () trivial
        · refine rz_aload_n 1 d_Md_words_29 rfl rfl ?_
          refine rz_iload_n 2 d_Md_words_30 rfl rfl ?_
          refine rz_iload_n 3 d_Md_words_31 rfl rfl ?_
          refine rz_iload 0 d_Md_words_32 rfl ?_
          refine rz_iadd d_Md_words_34 ?_
          refine rz_callV (As := [vi t, vi (a + i)]) (c_Md_at hM hw ht (by omega)) m_Md_74 hM.1 rfl rfl rfl rfl (Nat.le_of_ble_eq_true rfl) ⟨by decide, by decide⟩ ⟨by decide, by decide⟩ d_Md_words_35 (kE (h := h) ?_)
          refine rz_goto 42 d_Md_words_38 (by decide) ?_
          refine rz_Seq [vi (wcX (mAt M t) a ae i)] (by rw [wcX, if_pos (by omega)]) ?_
          exact J42 () trivial
    · refine rz_iload 0 d_Md_words_4 rfl ?_
      refine rz_iadd d_Md_words_6 ?_
      refine rz_iload_n 4 d_Md_words_7 rfl rfl ?_
      refine rz_icmp_lt 21 d_Md_words_8 (by decide) (by omega) (by omega) (fun c8 => ?_) (fun c8 => ?_)
      · exact J21 () (by omega)
      · refine rz_iload 6 d_Md_words_11 rfl ?_
        refine rz_iload 0 d_Md_words_13 rfl ?_
        refine rz_iadd d_Md_words_15 ?_
        refine rz_iload 7 d_Md_words_16 rfl ?_
        refine rz_icmp_ge 97 d_Md_words_18 (by decide) (by omega) (by omega) (fun c18 => ?_) (fun c18 => ?_)
        · refine rz_iconst d_Md_words_97 ?_
          exact rz_ireturn (st := []) rfl d_Md_words_98 ⟨by decide, by decide⟩ ⟨_, rfl, (by rw [wcp, hv, wcF_e _ _ _ _ _ _ (by omega), if_neg (by omega)]), rfl⟩
        · exact J21 () (by omega)
  · refine rz_Lsub [(7, vi 0), (0, .ref x), (1, vi t), (2, vi a), (3, vi ae), (4, vi u), (5, vi b), (6, vi be)] [0, 1, 2, 3, 4, 5, 6, 7] rfl ?_
    exact LP 0 ⟨by omega, by omega, rfl⟩
end
section
/-! the reference: ordered -/
/-- only the item's two numbers may differ -/
def mS2 (M M' : Nat → Int → Int) : Prop := ∀ k, k ≠ 17 → k ≠ 18 → M' k = M k
theorem mS2.rf {M : Nat → Int → Int} : mS2 M M := fun _ _ _ => rfl
theorem mS2.tr {M M1 M2 : Nat → Int → Int} (h1 : mS2 M M1) (h2 : mS2 M1 M2) : mS2 M M2 := fun k a b => (h2 k a b).trans (h1 k a b)
theorem mS2_at {M M' : Nat → Int → Int} (h : mS2 M M') (t : Int) : mAt M' t = mAt M t := by
  funext i
  unfold mAt
  rw [h 0 (by decide) (by decide), h 1 (by decide) (by decide)]
theorem mS2_it {M M' : Nat → Int → Int} (h : mS2 M M') (g g' : Int → Int) : mS2 M (mu (mu M' 17 g) 18 g') := fun k a b => by
  rw [mu_n b, mu_n a]
  exact h k a b
theorem mS2_wf {M M' : Nat → Int → Int} (h : mS2 M M') (hw : mWF M) : mWF M' := by
  unfold mWF
  rw [h 0 (by decide) (by decide), h 1 (by decide) (by decide), h 2 (by decide) (by decide), h 3 (by decide) (by decide), h 4 (by decide) (by decide), h 5 (by decide) (by decide), h 6 (by decide) (by decide), h 7 (by decide) (by decide), h 8 (by decide) (by decide), h 9 (by decide) (by decide), h 12 (by decide) (by decide), h 13 (by decide) (by decide), h 14 (by decide) (by decide), h 15 (by decide) (by decide)]
  exact hw
theorem itS_in (f : Int → Int) (p hi : Int) : p ≤ itS f p hi ∧ (itS f p hi ≤ hi ∨ itS f p hi = p) := by
  have := skF_in f (hi - p).toNat p
  unfold itS
  omega
theorem itE_in (f : Int → Int) (p hi : Int) : itS f p hi ≤ itE f p hi ∧ (itE f p hi ≤ hi ∨ itE f p hi = itS f p hi) := by
  have := ruF_in (itP f (itS f p hi)) f (hi - itS f p hi).toNat (itS f p hi)
  unfold itE
  omega
theorem numF_in {f : Int → Int} (hf : ∀ j, 0 ≤ f j ∧ f j ≤ 127) : ∀ (n : Nat) (i v b : Int), 0 ≤ b → -b ≤ v ∧ v ≤ b → -((b + 9) * 10 ^ n) ≤ numF f n i v ∧ numF f n i v ≤ (b + 9) * 10 ^ n
  | 0, i, v, b, hb, hv => by
    simp only [numF, Int.pow_zero, Int.mul_one]
    omega
  | n + 1, i, v, b, hb, hv => by
    have hc := hf i
    have ih := numF_in hf n (i + 1) (10 * v + f i - 48) (10 * b + 81) (by omega) (by omega)
    have e : (10 * b + 81 + 9) * (10 : Int) ^ n = (b + 9) * 10 ^ (n + 1) := by
      rw [Int.pow_succ, show 10 * b + 81 + 9 = (b + 9) * 10 by omega, Int.mul_assoc, Int.mul_comm 10]
    rw [e] at ih
    exact ih
theorem numF_9 {f : Int → Int} (hf : ∀ j, 0 ≤ f j ∧ f j ≤ 127) (a : Int) {n : Nat} (hn : n ≤ 9) : -100000000000 ≤ numF f n a 0 ∧ numF f n a 0 ≤ 100000000000 := by
  have h := numF_in hf n a 0 0 (by omega) (by omega)
  have h2 : (10 : Int) ^ n ≤ 10 ^ 9 := by exact_mod_cast Nat.pow_le_pow_right (n := 10) (by decide) hn
  have h3 : (10 : Int) ^ 9 = 1000000000 := by decide
  rw [h3] at h2
  generalize (10 : Int) ^ n = p at h h2
  omega
def cmp3 (m n : Int) : Int := if m < n then -1 else if n < m then 1 else 0
def ordR (f : Int → Int) (p n : Int) : Int := if itS f p n < n then rkI f (itS f p n) (itE f p n) else 6
def ordD (f g : Int → Int) (a ae b be r : Int) : Int := if r = 9 then cmp3 (numF f (ae - a).toNat a 0) (numF g (be - b).toNat b 0) else if r = 8 then wcp f g a ae b be else 0
def ordF (f g : Int → Int) (n1 hi : Int) : Nat → Int → Int → Int
  | 0, _, _ => 0
  | k + 1, p, q => if ¬ itS f p n1 < n1 ∧ ¬ itS g q hi < hi then 0 else if ordR f p n1 = ordR g q hi then (if ordD f g (itS f p n1) (itE f p n1) (itS g q hi) (itE g q hi) (ordR f p n1) = 0 then ordF f g n1 hi k (if itS f p n1 < n1 then itE f p n1 else n1) (if itS g q hi < hi then itE g q hi else hi) else ordD f g (itS f p n1) (itE f p n1) (itS g q hi) (itE g q hi) (ordR f p n1)) else if ordR f p n1 < ordR g q hi then -1 else 1
theorem ordF_e (f g : Int → Int) (n1 hi p q : Int) {n : Nat} (hn : 0 < n) : ordF f g n1 hi n p q = if ¬ itS f p n1 < n1 ∧ ¬ itS g q hi < hi then 0 else if ordR f p n1 = ordR g q hi then (if ordD f g (itS f p n1) (itE f p n1) (itS g q hi) (itE g q hi) (ordR f p n1) = 0 then ordF f g n1 hi (n - 1) (if itS f p n1 < n1 then itE f p n1 else n1) (if itS g q hi < hi then itE g q hi else hi) else ordD f g (itS f p n1) (itE f p n1) (itS g q hi) (itE g q hi) (ordR f p n1)) else if ordR f p n1 < ordR g q hi then -1 else 1 := by
  cases n with
  | zero => omega
  | succ n => rfl
/-- two texts compared: all of the first, lo .. hi of the second -/
def ord (f g : Int → Int) (n1 lo hi : Int) : Int := ordF f g n1 hi 13 0 lo
theorem ordD_in (f g : Int → Int) (a ae b be r : Int) : -1 ≤ ordD f g a ae b be r ∧ ordD f g a ae b be r ≤ 1 := by
  unfold ordD cmp3
  have := wcF_in f g a ae b be 101 0
  unfold wcp
  repeat' split
  all_goals omega
theorem ordF_in (f g : Int → Int) (n1 hi : Int) : ∀ (k : Nat) (p q : Int), -1 ≤ ordF f g n1 hi k p q ∧ ordF f g n1 hi k p q ≤ 1
  | 0, _, _ => by simp [ordF]
  | k + 1, p, q => by
    simp only [ordF]
    have h1 := ordD_in f g (itS f p n1) (itE f p n1) (itS g q hi) (itE g q hi) (ordR f p n1)
    by_cases q1 : ¬ itS f p n1 < n1 ∧ ¬ itS g q hi < hi
    · rw [if_pos q1]
      omega
    · rw [if_neg q1]
      by_cases q2 : ordR f p n1 = ordR g q hi
      · rw [if_pos q2]
        by_cases q3 : ordD f g (itS f p n1) (itE f p n1) (itS g q hi) (itE g q hi) (ordR f p n1) = 0
        · rw [if_pos q3]
          exact ordF_in f g n1 hi k _ _
        · rw [if_neg q3]
          exact h1
      · rw [if_neg q2]
        split <;> omega
abbrev rm_Md_ordered : Room := { frames := 5, cells := 0, slots := 0, locals := 119 }
set_option maxRecDepth 100000 in
set_option maxHeartbeats 4000000 in
theorem c_Md_ordered {l : Launch} {Γ : rz_G} {h : rz_H} {x : Nat} {ad : Nat → Nat} {M : Nat → Int → Int} (hM : MdAt Γ h x ad M) (hw : mWF M) {t u lo hi : Int} (ht : 0 ≤ t ∧ t < 126) (hu : 0 ≤ u ∧ u < 126) (hlo : 0 ≤ lo ∧ lo ≤ hi) (hhi : hi ≤ 100)
    (hN1 : ∀ p, 0 ≤ p → itS (mAt M t) p (M 1 t) < M 1 t → rkI (mAt M t) (itS (mAt M t) p (M 1 t)) (itE (mAt M t) p (M 1 t)) = 9 → itE (mAt M t) p (M 1 t) - itS (mAt M t) p (M 1 t) ≤ 9)
    (hN2 : ∀ p, lo ≤ p → itS (mAt M u) p hi < hi → rkI (mAt M u) (itS (mAt M u) p hi) (itE (mAt M u) p hi) = 9 → itE (mAt M u) p hi - itS (mAt M u) p hi ≤ 9) : Ct l Γ x_Md_ordered y_Md_ordered rm_Md_ordered [.ref x, vi t, vi u, vi lo, vi hi] h (pI (fun r h' => r = ord (mAt M t) (mAt M u) (M 1 t) lo hi ∧ ∃ M', MdAt Γ h' x ad M' ∧ mS2 M M' ∧ rz_fr [10, 11] h h')) := by
  refine rz_met (by decide) rfl rfl (Nat.le_of_ble_eq_true rfl) (fun K _ => ?_)
  refine rz_Leq [(0, .ref x), (1, vi t), (2, vi u), (3, vi lo), (4, vi hi)] rfl ?_
  have hlen := hw.1 t ht.1 ht.2
  refine rz_iconst d_Md_ordered_0 ?_
  refine rz_istore [(5, vi 0), (0, .ref x), (1, vi t), (2, vi u), (3, vi lo), (4, vi hi)] d_Md_ordered_1 (by decide) rfl ?_
  refine rz_iload_n 4 d_Md_ordered_3 rfl rfl ?_
  refine rz_istore [(6, vi lo), (5, vi 0), (0, .ref x), (1, vi t), (2, vi u), (3, vi lo), (4, vi hi)] d_Md_ordered_4 (by decide) rfl ?_
  refine rz_iconst d_Md_ordered_6 ?_
  refine rz_istore [(7, vi 0), (6, vi lo), (5, vi 0), (0, .ref x), (1, vi t), (2, vi u), (3, vi lo), (4, vi hi)] d_Md_ordered_7 (by decide) rfl ?_
  refine rz_loop (α := Int × Int × Int × rz_H × (Nat → Int → Int)) 0 0 9 (fun (k, p, q, hA, MA) => (13 - k).toNat) (fun (k, p, q, hA, MA) => 0 ≤ k ∧ k ≤ 13 ∧ (0 ≤ p ∧ p ≤ 100) ∧ lo ≤ q ∧ q ≤ 100 ∧ MdAt Γ hA x ad MA ∧ mS2 M MA ∧ rz_fr [10, 11] h hA ∧ ordF (mAt M t) (mAt M u) (M 1 t) hi 13 0 lo = ordF (mAt M t) (mAt M u) (M 1 t) hi (13 - k).toNat p q) (fun (k, p, q, hA, MA) => [(7, vi k), (5, vi p), (6, vi q), (0, .ref x), (1, vi t), (2, vi u), (3, vi lo), (4, vi hi)]) (fun (k, p, q, hA, MA) => []) (fun (k, p, q, hA, MA) => hA) (fun y hy ih9 => ?_) (fun LP => ?_)
  · obtain ⟨k, p, q, hA, MA⟩ := y
    try dsimp only at hy ih9 ⊢
    obtain ⟨hk0, hk1, hp0, hq0, hq1, hMA, hSA, hFA, hv⟩ := hy
    have hwA := mS2_wf hSA hw
    refine rz_iload 0 d_Md_ordered_9 rfl ?_
    refine rz_bipush (v := 13) d_Md_ordered_11 (by decide) ?_
    refine rz_icmp_ge 243 d_Md_ordered_13 (by decide) (by omega) ⟨by decide, by decide⟩ (fun c13 => ?_) (fun c13 => ?_)
    · refine rz_iconst d_Md_ordered_243 ?_
      exact rz_ireturn (st := []) rfl d_Md_ordered_244 ⟨by decide, by decide⟩ ⟨_, rfl, (by rw [ord, hv, show (13 - k).toNat = 0 by omega]; rfl), MA, hMA, hSA, hFA⟩
    · refine rz_aload_n 3 d_Md_ordered_16 rfl rfl ?_
      refine rz_iload_n 4 d_Md_ordered_17 rfl rfl ?_
      refine rz_iload 1 d_Md_ordered_18 rfl ?_
      refine rz_aload_n 3 d_Md_ordered_20 rfl rfl ?_
      refine rz_getf f_Md_13 hMA.1 rfl d_Md_ordered_21 ?_
      refine rz_iload_n 4 d_Md_ordered_24 rfl rfl ?_
      refine rz_iaload (md_a1 hMA) (by decide) (by omega) d_Md_ordered_25 ?_
      rw [hSA 1 (by decide) (by decide)]
      refine rz_callV (As := [vi t, vi p, vi (M 1 t)]) (c_Md_item hMA hwA ht (by omega) (by omega)) m_Md_129 hMA.1 rfl rfl rfl rfl (Nat.le_of_ble_eq_true rfl) ⟨by decide, by decide⟩ ⟨by decide, by decide⟩ d_Md_ordered_26 (kI (h := hA) fun r1 h1 q1 => ?_)
      obtain ⟨rfl, hM1, hF1⟩ := q1
      obtain ⟨a, ea⟩ : ∃ z, z = itS (mAt M t) p (M 1 t) := ⟨_, rfl⟩
      obtain ⟨ae, eae⟩ : ∃ z, z = itE (mAt M t) p (M 1 t) := ⟨_, rfl⟩
      have ia := itS_in (mAt M t) p (M 1 t)
      have iae := itE_in (mAt M t) p (M 1 t)
      rw [mS2_at hSA, ← ea, ← eae] at hM1
      rw [← ea] at ia
      rw [← ea, ← eae] at iae
      rw [mS2_at hSA, ← ea]
      obtain ⟨xb, exb⟩ : ∃ z, z = decide (a < M 1 t) := ⟨_, rfl⟩
      rw [← exb]
      obtain ⟨M1, eM1⟩ : ∃ z, z = mu (mu MA 17 (fun _ => a)) 18 (fun _ => ae) := ⟨_, rfl⟩
      rw [← eM1] at hM1
      have hS1 : mS2 M M1 := by rw [eM1]; exact mS2_it hSA _ _
      have s171 : M1 17 0 = a := by rw [eM1]; rfl
      have s181 : M1 18 0 = ae := by rw [eM1]; rfl
      have hw1 := mS2_wf hS1 hw
      have hG1 := hFA.tr hF1
      refine rz_istore [(8, vi (bi xb)), (7, vi k), (5, vi p), (6, vi q), (0, .ref x), (1, vi t), (2, vi u), (3, vi lo), (4, vi hi)] d_Md_ordered_29 (by decide) rfl ?_
      refine rz_aload_n 4 d_Md_ordered_31 rfl rfl ?_
      refine rz_getf f_Md_78 hM1.1 rfl d_Md_ordered_32 ?_
      refine rz_Seq [vi a] (by rw [← s171]) ?_
      refine rz_istore [(9, vi a), (8, vi (bi xb)), (7, vi k), (5, vi p), (6, vi q), (0, .ref x), (1, vi t), (2, vi u), (3, vi lo), (4, vi hi)] d_Md_ordered_35 (by decide) rfl ?_
      refine rz_aload_n 5 d_Md_ordered_37 rfl rfl ?_
      refine rz_getf f_Md_82 hM1.1 rfl d_Md_ordered_38 ?_
      refine rz_Seq [vi ae] (by rw [← s181]) ?_
      refine rz_istore [(10, vi ae), (9, vi a), (8, vi (bi xb)), (7, vi k), (5, vi p), (6, vi q), (0, .ref x), (1, vi t), (2, vi u), (3, vi lo), (4, vi hi)] d_Md_ordered_41 (by decide) rfl ?_
      refine rz_aload_n 6 d_Md_ordered_43 rfl rfl ?_
      refine rz_iload_n 7 d_Md_ordered_44 rfl rfl ?_
      refine rz_iload 2 d_Md_ordered_45 rfl ?_
      refine rz_callV (As := [vi t, vi (bi xb)]) (c_Md_rankOf hM1 hw1 ht (by rw [s171]; omega) (by rw [s181]; omega)) m_Md_132 hM1.1 rfl rfl rfl rfl (Nat.le_of_ble_eq_true rfl) ⟨by decide, by decide⟩ ⟨by decide, by decide⟩ d_Md_ordered_47 (kE (h := h1) ?_)
      rw [mS2_at hS1, s171, s181]
      refine rz_top (fun r e_r => ?_)
      replace e_r := e_r.symm
      refine rz_istore [(11, vi r), (10, vi ae), (9, vi a), (8, vi (bi xb)), (7, vi k), (5, vi p), (6, vi q), (0, .ref x), (1, vi t), (2, vi u), (3, vi lo), (4, vi hi)] d_Md_ordered_50 (by decide) rfl ?_
      refine rz_aload_n 7 d_Md_ordered_52 rfl rfl ?_
      refine rz_iload_n 9 d_Md_ordered_53 rfl rfl ?_
      refine rz_iload 6 d_Md_ordered_54 rfl ?_
      refine rz_iload 11 d_Md_ordered_56 rfl ?_
      refine rz_callV (As := [vi u, vi q, vi hi]) (c_Md_item hM1 hw1 hu (by omega) (by omega)) m_Md_129 hM1.1 rfl rfl rfl rfl (Nat.le_of_ble_eq_true rfl) ⟨by decide, by decide⟩ ⟨by decide, by decide⟩ d_Md_ordered_58 (kI (h := h1) fun r2 h2 q2 => ?_)
      obtain ⟨rfl, hM2, hF2⟩ := q2
      obtain ⟨b, eb⟩ : ∃ z, z = itS (mAt M u) q hi := ⟨_, rfl⟩
      obtain ⟨be, ebe⟩ : ∃ z, z = itE (mAt M u) q hi := ⟨_, rfl⟩
      have ib := itS_in (mAt M u) q hi
      have ibe := itE_in (mAt M u) q hi
      rw [mS2_at hS1, ← eb, ← ebe] at hM2
      rw [← eb] at ib
      rw [← eb, ← ebe] at ibe
      rw [mS2_at hS1, ← eb]
      obtain ⟨yb, eyb⟩ : ∃ z, z = decide (b < hi) := ⟨_, rfl⟩
      rw [← eyb]
      obtain ⟨M2, eM2⟩ : ∃ z, z = mu (mu M1 17 (fun _ => b)) 18 (fun _ => be) := ⟨_, rfl⟩
      rw [← eM2] at hM2
      have hS2 : mS2 M M2 := by rw [eM2]; exact mS2_it hS1 _ _
      have s172 : M2 17 0 = b := by rw [eM2]; rfl
      have s182 : M2 18 0 = be := by rw [eM2]; rfl
      have hw2 := mS2_wf hS2 hw
      have hG2 := hG1.tr hF2
      refine rz_istore [(12, vi (bi yb)), (11, vi r), (10, vi ae), (9, vi a), (8, vi (bi xb)), (7, vi k), (5, vi p), (6, vi q), (0, .ref x), (1, vi t), (2, vi u), (3, vi lo), (4, vi hi)] d_Md_ordered_61 (by decide) rfl ?_
      refine rz_aload_n 8 d_Md_ordered_63 rfl rfl ?_
      refine rz_iload_n 10 d_Md_ordered_64 rfl rfl ?_
      refine rz_iload 0 d_Md_ordered_65 rfl ?_
      refine rz_callV (As := [vi u, vi (bi yb)]) (c_Md_rankOf hM2 hw2 hu (by rw [s172]; omega) (by rw [s182]; omega)) m_Md_132 hM2.1 rfl rfl rfl rfl (Nat.le_of_ble_eq_true rfl) ⟨by decide, by decide⟩ ⟨by decide, by decide⟩ d_Md_ordered_67 (kE (h := h2) ?_)
      rw [mS2_at hS2, s172, s182]
      refine rz_top (fun s e_s => ?_)
      replace e_s := e_s.symm
      refine rz_istore [(13, vi s), (12, vi (bi yb)), (11, vi r), (10, vi ae), (9, vi a), (8, vi (bi xb)), (7, vi k), (5, vi p), (6, vi q), (0, .ref x), (1, vi t), (2, vi u), (3, vi lo), (4, vi hi)] d_Md_ordered_70 (by decide) rfl ?_
      have hr1 : ordR (mAt M t) p (M 1 t) = r := by rw [ordR, ← ea, ← eae, ← e_r, exb]; simp
      have hr2 : ordR (mAt M u) q hi = s := by rw [ordR, ← eb, ← ebe, ← e_s, eyb]; simp
      have ir : 1 ≤ r ∧ r ≤ 9 := by rw [← e_r]; split; exact rkI_in _ _ _; omega
      have is : 1 ≤ s ∧ s ≤ 9 := by rw [← e_s]; split; exact rkI_in _ _ _; omega
      refine rz_cut (α := Unit) 0 0 84 (fun _ => ¬ (¬ a < M 1 t ∧ ¬ b < hi)) (fun _ => [(13, vi s), (12, vi (bi yb)), (11, vi r), (10, vi ae), (9, vi a), (8, vi (bi xb)), (7, vi k), (5, vi p), (6, vi q), (0, .ref x), (1, vi t), (2, vi u), (3, vi lo), (4, vi hi)]) (fun _ => []) (fun _ => h2) (fun _ k84 => ?_) (fun J84 => ?_)
      · refine rz_iload 2 d_Md_ordered_84 rfl ?_
        refine rz_iload 0 d_Md_ordered_86 rfl ?_
        refine rz_icmp_eq 104 d_Md_ordered_88 (by decide) (by omega) (by omega) (fun c88 => ?_) (fun c88 => ?_)
        · refine rz_cut (α := Unit) 0 0 133 (fun _ => True) (fun _ => [(13, vi s), (12, vi (bi yb)), (11, vi r), (10, vi ae), (9, vi a), (8, vi (bi xb)), (7, vi k), (5, vi p), (6, vi q), (0, .ref x), (1, vi t), (2, vi u), (3, vi lo), (4, vi hi)]) (fun _ => [vi (if r = 8 then wcp (mAt M t) (mAt M u) a ae b be else 0)]) (fun _ => h2) (fun _ _ => ?_) (fun J133 => ?_)
          · refine rz_top (fun d1 e_d1 => ?_)
            replace e_d1 := e_d1.symm
            refine rz_istore [(14, vi d1), (13, vi s), (12, vi (bi yb)), (11, vi r), (10, vi ae), (9, vi a), (8, vi (bi xb)), (7, vi k), (5, vi p), (6, vi q), (0, .ref x), (1, vi t), (2, vi u), (3, vi lo), (4, vi hi)] d_Md_ordered_133 (by decide) rfl ?_
            refine rz_cut (α := Unit) 0 0 195 (fun _ => True) (fun _ => [(14, vi (ordD (mAt M t) (mAt M u) a ae b be r)), (13, vi s), (12, vi (bi yb)), (11, vi r), (10, vi ae), (9, vi a), (8, vi (bi xb)), (7, vi k), (5, vi p), (6, vi q), (0, .ref x), (1, vi t), (2, vi u), (3, vi lo), (4, vi hi)]) (fun _ => []) (fun _ => h2) (fun _ _ => ?_) (fun J195 => ?_)
            · refine rz_iload 0 d_Md_ordered_195 rfl ?_
              refine rz_if_eq 203 d_Md_ordered_197 (by decide) (by have := ordD_in (mAt M t) (mAt M u) a ae b be r; omega) (fun c197 => ?_) (fun c197 => ?_)
              · refine rz_cut (α := Unit) 0 0 219 (fun _ => True) (fun _ => [(14, vi (ordD (mAt M t) (mAt M u) a ae b be r)), (13, vi s), (12, vi (bi yb)), (11, vi r), (10, vi ae), (9, vi a), (8, vi (bi xb)), (7, vi k), (5, vi p), (6, vi q), (0, .ref x), (1, vi t), (2, vi u), (3, vi lo), (4, vi hi)]) (fun _ => [vi (if a < M 1 t then ae else M 1 t)]) (fun _ => h2) (fun _ _ => ?_) (fun J219 => ?_)
                · refine rz_istore [(5, vi (if a < M 1 t then ae else M 1 t)), (14, vi (ordD (mAt M t) (mAt M u) a ae b be r)), (13, vi s), (12, vi (bi yb)), (11, vi r), (10, vi ae), (9, vi a), (8, vi (bi xb)), (7, vi k), (6, vi q), (0, .ref x), (1, vi t), (2, vi u), (3, vi lo), (4, vi hi)] d_Md_ordered_219 (by decide) rfl ?_
                  refine rz_cut (α := Unit) 0 0 235 (fun _ => True) (fun _ => [(5, vi (if a < M 1 t then ae else M 1 t)), (14, vi (ordD (mAt M t) (mAt M u) a ae b be r)), (13, vi s), (12, vi (bi yb)), (11, vi r), (10, vi ae), (9, vi a), (8, vi (bi xb)), (7, vi k), (6, vi q), (0, .ref x), (1, vi t), (2, vi u), (3, vi lo), (4, vi hi)]) (fun _ => [vi (if b < hi then be else hi)]) (fun _ => h2) (fun _ _ => ?_) (fun J235 => ?_)
                  · refine rz_istore [(6, vi (if b < hi then be else hi)), (5, vi (if a < M 1 t then ae else M 1 t)), (14, vi (ordD (mAt M t) (mAt M u) a ae b be r)), (13, vi s), (12, vi (bi yb)), (11, vi r), (10, vi ae), (9, vi a), (8, vi (bi xb)), (7, vi k), (0, .ref x), (1, vi t), (2, vi u), (3, vi lo), (4, vi hi)] d_Md_ordered_235 (by decide) rfl ?_
                    refine rz_iinc (k + 1) 9 [(7, vi (k + 1)), (6, vi (if b < hi then be else hi)), (5, vi (if a < M 1 t then ae else M 1 t)), (14, vi (ordD (mAt M t) (mAt M u) a ae b be r)), (13, vi s), (12, vi (bi yb)), (11, vi r), (10, vi ae), (9, vi a), (8, vi (bi xb)), (0, .ref x), (1, vi t), (2, vi u), (3, vi lo), (4, vi hi)] d_Md_ordered_237 rfl (by first | rfl | omega) (by decide) rfl ?_
                    refine rz_goto 9 d_Md_ordered_240 (by decide) ?_
                    refine rz_Lsub [(7, vi (k + 1)), (5, vi (if a < M 1 t then ae else M 1 t)), (6, vi (if b < hi then be else hi)), (0, .ref x), (1, vi t), (2, vi u), (3, vi lo), (4, vi hi)] [0, 2, 1, 10, 11, 12, 13, 14] rfl ?_
                    exact ih9 (k + 1, (if a < M 1 t then ae else M 1 t), (if b < hi then be else hi), h2, M2) ⟨by omega, by omega, (by split <;> omega), (by split <;> omega), (by split <;> omega), hM2, hS2, hG2, (by rw [hv, ordF_e _ _ _ _ _ _ (by omega), if_neg (by rw [← ea, ← eb]; exact k84), hr1, hr2, ← ea, ← eae, ← eb, ← ebe, if_pos c88, if_pos c197]; congr 1; omega)⟩ (by first | omega | (dsimp only; omega))
                  · refine rz_iload 3 d_Md_ordered_221 rfl ?_
                    refine rz_if_eqB 233 d_Md_ordered_223 (by decide) (fun c223 => ?_) (fun c223 => ?_)
                    · refine rz_iload 14 d_Md_ordered_233 rfl ?_
                      refine rz_Seq [vi (if b < hi then be else hi)] (by rw [if_neg (by simpa [c223] using eyb)]) ?_
                      exact J235 () trivial
                    · refine rz_aload_n 10 d_Md_ordered_226 rfl rfl ?_
                      refine rz_getf f_Md_82 hM2.1 rfl d_Md_ordered_227 ?_
                      refine rz_Seq [vi be] (by rw [← s182]) ?_
                      refine rz_goto 235 d_Md_ordered_230 (by decide) ?_
                      refine rz_Seq [vi (if b < hi then be else hi)] (by rw [if_pos (by simpa [c223] using eyb)]) ?_
                      exact J235 () trivial
                · refine rz_iload 6 d_Md_ordered_203 rfl ?_
                  refine rz_if_eqB 213 d_Md_ordered_205 (by decide) (fun c205 => ?_) (fun c205 => ?_)
                  · refine rz_aload_n 10 d_Md_ordered_213 rfl rfl ?_
                    refine rz_getf f_Md_13 hM2.1 rfl d_Md_ordered_214 ?_
                    refine rz_iload_n 11 d_Md_ordered_217 rfl rfl ?_
                    refine rz_iaload (md_a1 hM2) (by decide) (by omega) d_Md_ordered_218 ?_
                    rw [hS2 1 (by decide) (by decide)]
                    refine rz_Seq [vi (if a < M 1 t then ae else M 1 t)] (by rw [if_neg (by simpa [c205] using exb)]) ?_
                    exact J219 () trivial
                  · refine rz_iload 4 d_Md_ordered_208 rfl ?_
                    refine rz_goto 219 d_Md_ordered_210 (by decide) ?_
                    refine rz_Seq [vi (if a < M 1 t then ae else M 1 t)] (by rw [if_pos (by simpa [c205] using exb)]) ?_
                    exact J219 () trivial
              · refine rz_iload 0 d_Md_ordered_200 rfl ?_
                exact rz_ireturn (st := []) rfl d_Md_ordered_202 ⟨by decide, by decide⟩ ⟨_, rfl, (by rw [ord, hv, ordF_e _ _ _ _ _ _ (by omega), if_neg (by rw [← ea, ← eb]; exact k84), hr1, hr2, ← ea, ← eae, ← eb, ← ebe, if_pos c88, if_neg c197]), M2, hM2, hS2, hG2⟩
            · refine rz_iload 3 d_Md_ordered_135 rfl ?_
              refine rz_bipush (v := 9) d_Md_ordered_137 (by decide) ?_
              refine rz_icmp_ne 195 d_Md_ordered_139 (by decide) (by omega) ⟨by decide, by decide⟩ (fun c139 => ?_) (fun c139 => ?_)
              · refine rz_Lsub [(14, vi d1), (13, vi s), (12, vi (bi yb)), (11, vi r), (10, vi ae), (9, vi a), (8, vi (bi xb)), (7, vi k), (5, vi p), (6, vi q), (0, .ref x), (1, vi t), (2, vi u), (3, vi lo), (4, vi hi)] [0, 1, 2, 3, 4, 5, 6, 7, 8, 9, 10, 11, 12, 13, 14] rfl ?_
                refine rz_Leq [(14, vi (ordD (mAt M t) (mAt M u) a ae b be r)), (13, vi s), (12, vi (bi yb)), (11, vi r), (10, vi ae), (9, vi a), (8, vi (bi xb)), (7, vi k), (5, vi p), (6, vi q), (0, .ref x), (1, vi t), (2, vi u), (3, vi lo), (4, vi hi)] (by rw [ordD, if_neg c139, e_d1]) ?_
                exact J195 () trivial
              · have hxt : xb = true := by cases xb with | true => rfl | false => simp at e_r; omega
                have hyt : yb = true := by cases yb with | true => rfl | false => simp at e_s; omega
                have hl1 : ae - a ≤ 9 := by rw [ea, eae]; refine hN1 p (by omega) (by rw [← ea]; simpa [hxt] using exb) ?_; rw [← ea, ← eae]; rw [hxt] at e_r; simp at e_r; omega
                have hl2 : be - b ≤ 9 := by rw [eb, ebe]; refine hN2 q (by omega) (by rw [← eb]; simpa [hyt] using eyb) ?_; rw [← eb, ← ebe]; rw [hyt] at e_s; simp at e_s; omega
                refine rz_aload_n 10 d_Md_ordered_142 rfl rfl ?_
                refine rz_iload_n 11 d_Md_ordered_143 rfl rfl ?_
                refine rz_iload 5 d_Md_ordered_144 rfl ?_
                refine rz_iload 4 d_Md_ordered_146 rfl ?_
                refine rz_callV (As := [vi t, vi a, vi ae]) (c_Md_number hM2 hw2 ht (by omega) (by omega)) m_Md_140 hM2.1 rfl rfl rfl rfl (Nat.le_of_ble_eq_true rfl) ⟨by decide, by decide⟩ ⟨by decide, by decide⟩ d_Md_ordered_148 (kEL (h := h2) ?_)
                rw [mS2_at hS2]
                refine rz_topl (fun nm e_nm => ?_)
                replace e_nm := e_nm.symm
                refine rz_lstore [(15, vl nm), (14, vi d1), (13, vi s), (12, vi (bi yb)), (11, vi r), (10, vi ae), (9, vi a), (8, vi (bi xb)), (7, vi k), (5, vi p), (6, vi q), (0, .ref x), (1, vi t), (2, vi u), (3, vi lo), (4, vi hi)] d_Md_ordered_151 (by decide) rfl ?_
                refine rz_aload_n 11 d_Md_ordered_153 rfl rfl ?_
                refine rz_iload_n 13 d_Md_ordered_154 rfl rfl ?_
                refine rz_aload_n 11 d_Md_ordered_155 rfl rfl ?_
                refine rz_getf f_Md_78 hM2.1 rfl d_Md_ordered_156 ?_
                refine rz_Seq [vi b, vi u, .ref x] (by rw [← s172]) ?_
                refine rz_aload_n 11 d_Md_ordered_159 rfl rfl ?_
                refine rz_getf f_Md_82 hM2.1 rfl d_Md_ordered_160 ?_
                refine rz_Seq [vi be, vi b, vi u, .ref x] (by rw [← s182]) ?_
                refine rz_callV (As := [vi u, vi b, vi be]) (c_Md_number hM2 hw2 hu (by omega) (by omega)) m_Md_140 hM2.1 rfl rfl rfl rfl (Nat.le_of_ble_eq_true rfl) ⟨by decide, by decide⟩ ⟨by decide, by decide⟩ d_Md_ordered_163 (kEL (h := h2) ?_)
                rw [mS2_at hS2]
                refine rz_topl (fun nn e_nn => ?_)
                replace e_nn := e_nn.symm
                refine rz_lstore [(17, vl nn), (15, vl nm), (14, vi d1), (13, vi s), (12, vi (bi yb)), (11, vi r), (10, vi ae), (9, vi a), (8, vi (bi xb)), (7, vi k), (5, vi p), (6, vi q), (0, .ref x), (1, vi t), (2, vi u), (3, vi lo), (4, vi hi)] d_Md_ordered_166 (by decide) rfl ?_
                have inm := numF_9 (mAt_in hw ht) a (n := (ae - a).toNat) (by omega)
                have inn := numF_9 (mAt_in hw hu) b (n := (be - b).toNat) (by omega)
                rw [e_nm] at inm
                rw [e_nn] at inn
                refine rz_lload 1 d_Md_ordered_168 rfl ?_
                refine rz_lload 0 d_Md_ordered_170 rfl ?_
                refine rz_lcmp (by omega) (by omega) d_Md_ordered_172 ?_
                refine rz_if_geC 180 d_Md_ordered_173 (by decide) (fun c173 => ?_) (fun c173 => ?_)
                · refine rz_lload 1 d_Md_ordered_180 rfl ?_
                  refine rz_lload 0 d_Md_ordered_182 rfl ?_
                  refine rz_lcmp (by omega) (by omega) d_Md_ordered_184 ?_
                  refine rz_if_leC 192 d_Md_ordered_185 (by decide) (fun c185 => ?_) (fun c185 => ?_)
                  · refine rz_iconst d_Md_ordered_192 ?_
                    refine rz_istore [(14, vi 0), (17, vl nn), (15, vl nm), (13, vi s), (12, vi (bi yb)), (11, vi r), (10, vi ae), (9, vi a), (8, vi (bi xb)), (7, vi k), (5, vi p), (6, vi q), (0, .ref x), (1, vi t), (2, vi u), (3, vi lo), (4, vi hi)] d_Md_ordered_193 (by decide) rfl ?_
                    refine rz_Lsub [(14, vi 0), (13, vi s), (12, vi (bi yb)), (11, vi r), (10, vi ae), (9, vi a), (8, vi (bi xb)), (7, vi k), (5, vi p), (6, vi q), (0, .ref x), (1, vi t), (2, vi u), (3, vi lo), (4, vi hi)] [0, 3, 4, 5, 6, 7, 8, 9, 10, 11, 12, 13, 14, 15, 16] rfl ?_
                    refine rz_Leq [(14, vi (ordD (mAt M t) (mAt M u) a ae b be r)), (13, vi s), (12, vi (bi yb)), (11, vi r), (10, vi ae), (9, vi a), (8, vi (bi xb)), (7, vi k), (5, vi p), (6, vi q), (0, .ref x), (1, vi t), (2, vi u), (3, vi lo), (4, vi hi)] (by rw [ordD, if_pos c139, e_nm, e_nn, cmp3, if_neg (by omega), if_neg (by omega)]) ?_
                    exact J195 () trivial
                  · refine rz_iconst d_Md_ordered_188 ?_
                    refine rz_goto 193 d_Md_ordered_189 (by decide) ?_
                    refine rz_istore [(14, vi 1), (17, vl nn), (15, vl nm), (13, vi s), (12, vi (bi yb)), (11, vi r), (10, vi ae), (9, vi a), (8, vi (bi xb)), (7, vi k), (5, vi p), (6, vi q), (0, .ref x), (1, vi t), (2, vi u), (3, vi lo), (4, vi hi)] d_Md_ordered_193 (by decide) rfl ?_
                    refine rz_Lsub [(14, vi 1), (13, vi s), (12, vi (bi yb)), (11, vi r), (10, vi ae), (9, vi a), (8, vi (bi xb)), (7, vi k), (5, vi p), (6, vi q), (0, .ref x), (1, vi t), (2, vi u), (3, vi lo), (4, vi hi)] [0, 3, 4, 5, 6, 7, 8, 9, 10, 11, 12, 13, 14, 15, 16] rfl ?_
                    refine rz_Leq [(14, vi (ordD (mAt M t) (mAt M u) a ae b be r)), (13, vi s), (12, vi (bi yb)), (11, vi r), (10, vi ae), (9, vi a), (8, vi (bi xb)), (7, vi k), (5, vi p), (6, vi q), (0, .ref x), (1, vi t), (2, vi u), (3, vi lo), (4, vi hi)] (by rw [ordD, if_pos c139, e_nm, e_nn, cmp3, if_neg (by omega), if_pos (by omega)]) ?_
                    exact J195 () trivial
                · refine rz_iconst d_Md_ordered_176 ?_
                  refine rz_goto 193 d_Md_ordered_177 (by decide) ?_
                  refine rz_istore [(14, vi (-1)), (17, vl nn), (15, vl nm), (13, vi s), (12, vi (bi yb)), (11, vi r), (10, vi ae), (9, vi a), (8, vi (bi xb)), (7, vi k), (5, vi p), (6, vi q), (0, .ref x), (1, vi t), (2, vi u), (3, vi lo), (4, vi hi)] d_Md_ordered_193 (by decide) rfl ?_
                  refine rz_Lsub [(14, vi (-1)), (13, vi s), (12, vi (bi yb)), (11, vi r), (10, vi ae), (9, vi a), (8, vi (bi xb)), (7, vi k), (5, vi p), (6, vi q), (0, .ref x), (1, vi t), (2, vi u), (3, vi lo), (4, vi hi)] [0, 3, 4, 5, 6, 7, 8, 9, 10, 11, 12, 13, 14, 15, 16] rfl ?_
                  refine rz_Leq [(14, vi (ordD (mAt M t) (mAt M u) a ae b be r)), (13, vi s), (12, vi (bi yb)), (11, vi r), (10, vi ae), (9, vi a), (8, vi (bi xb)), (7, vi k), (5, vi p), (6, vi q), (0, .ref x), (1, vi t), (2, vi u), (3, vi lo), (4, vi hi)] (by rw [ordD, if_pos c139, e_nm, e_nn, cmp3, if_pos (by omega)]) ?_
                  exact J195 () trivial
          · refine rz_iload 2 d_Md_ordered_104 rfl ?_
            refine rz_bipush (v := 8) d_Md_ordered_106 (by decide) ?_
            refine rz_icmp_ne 132 d_Md_ordered_108 (by decide) (by omega) ⟨by decide, by decide⟩ (fun c108 => ?_) (fun c108 => ?_)
            · refine rz_iconst d_Md_ordered_132 ?_
              refine rz_Seq [vi (if r = 8 then wcp (mAt M t) (mAt M u) a ae b be else 0)] (by rw [if_neg c108]) ?_
              exact J133 () trivial
            · refine rz_aload_n 9 d_Md_ordered_111 rfl rfl ?_
              refine rz_iload_n 10 d_Md_ordered_112 rfl rfl ?_
              refine rz_iload 4 d_Md_ordered_113 rfl ?_
              refine rz_iload 3 d_Md_ordered_115 rfl ?_
              refine rz_iload_n 11 d_Md_ordered_117 rfl rfl ?_
              refine rz_aload_n 9 d_Md_ordered_118 rfl rfl ?_
              refine rz_getf f_Md_78 hM2.1 rfl d_Md_ordered_119 ?_
              refine rz_Seq [vi b, vi u, vi ae, vi a, vi t, .ref x] (by rw [← s172]) ?_
              refine rz_aload_n 9 d_Md_ordered_122 rfl rfl ?_
              refine rz_getf f_Md_82 hM2.1 rfl d_Md_ordered_123 ?_
              refine rz_Seq [vi be, vi b, vi u, vi ae, vi a, vi t, .ref x] (by rw [← s182]) ?_
              refine rz_callV (As := [vi t, vi a, vi ae, vi u, vi b, vi be]) (c_Md_words hM2 hw2 ht hu (by omega) (by omega) (by omega) (by omega)) m_Md_136 hM2.1 rfl rfl rfl rfl (Nat.le_of_ble_eq_true rfl) ⟨by decide, by decide⟩ ⟨by decide, by decide⟩ d_Md_ordered_126 (kE (h := h2) ?_)
              rw [mS2_at hS2, mS2_at hS2]
              refine rz_goto 133 d_Md_ordered_129 (by decide) ?_
              refine rz_Seq [vi (if r = 8 then wcp (mAt M t) (mAt M u) a ae b be else 0)] (by rw [if_pos c108]) ?_
              exact J133 () trivial
        · refine rz_iload 2 d_Md_ordered_91 rfl ?_
          refine rz_iload 0 d_Md_ordered_93 rfl ?_
          refine rz_icmp_ge 102 d_Md_ordered_95 (by decide) (by omega) (by omega) (fun c95 => ?_) (fun c95 => ?_)
          · refine rz_iconst d_Md_ordered_102 ?_
            exact rz_ireturn (st := []) rfl d_Md_ordered_103 ⟨by decide, by decide⟩ ⟨_, rfl, (by rw [ord, hv, ordF_e _ _ _ _ _ _ (by omega), if_neg (by rw [← ea, ← eb]; exact k84), hr1, hr2, if_neg c88, if_neg (by omega)]), M2, hM2, hS2, hG2⟩
          · refine rz_iconst d_Md_ordered_98 ?_
            refine rz_goto 103 d_Md_ordered_99 (by decide) ?_
            exact rz_ireturn (st := []) rfl d_Md_ordered_103 ⟨by decide, by decide⟩ ⟨_, rfl, (by rw [ord, hv, ordF_e _ _ _ _ _ _ (by omega), if_neg (by rw [← ea, ← eb]; exact k84), hr1, hr2, if_neg c88, if_pos (by omega)]), M2, hM2, hS2, hG2⟩
      · refine rz_iload 5 d_Md_ordered_72 rfl ?_
        refine rz_if_neB 84 d_Md_ordered_74 (by decide) (fun c74 => ?_) (fun c74 => ?_)
        · exact J84 () (by first | (have q := exb; rw [c74] at q; simp at q; omega) | (have q := eyb; rw [c79] at q; simp at q; omega))
        · refine rz_iload 1 d_Md_ordered_77 rfl ?_
          refine rz_if_neB 84 d_Md_ordered_79 (by decide) (fun c79 => ?_) (fun c79 => ?_)
          · exact J84 () (by first | (have q := exb; rw [c74] at q; simp at q; omega) | (have q := eyb; rw [c79] at q; simp at q; omega))
          · refine rz_iconst d_Md_ordered_82 ?_
            exact rz_ireturn (st := []) rfl d_Md_ordered_83 ⟨by decide, by decide⟩ ⟨_, rfl, (by rw [ord, hv, ordF_e _ _ _ _ _ _ (by omega), if_pos (by rw [← ea, ← eb]; simp [exb, eyb] at c74 c79; omega)]), M2, hM2, hS2, hG2⟩
  · refine rz_Lsub [(7, vi 0), (5, vi 0), (6, vi lo), (0, .ref x), (1, vi t), (2, vi u), (3, vi lo), (4, vi hi)] [0, 2, 1, 3, 4, 5, 6, 7] rfl ?_
    exact LP (0, 0, lo, h, M) ⟨by omega, by omega, by omega, by omega, by omega, hM, mS2.rf, rz_fr.rf, rfl⟩
end
section
/-! the reference: range, inside -/
theorem skF_at (f : Int → Int) : ∀ (n : Nat) (i : Int), skF f n i < i + n → (isD (f (skF f n i)) || isL (f (skF f n i))) = true
  | 0, i, h => by simp [skF] at h
  | n + 1, i, h => by
    by_cases q : (isD (f i) || isL (f i)) = true
    · rw [skF_hit q]
      exact q
    · have q' : (isD (f i) || isL (f i)) = false := by simpa using q
      rw [skF_go (by omega) q'] at h ⊢
      exact skF_at f n (i + 1) (by simp at h ⊢; omega)
theorem ruF_at (p : Int → Bool) (f : Int → Int) : ∀ (n : Nat) (i x : Int), i ≤ x → x < ruF p f n i → p (f x) = true
  | 0, i, x, h1, h2 => by simp [ruF] at h2; omega
  | n + 1, i, x, h1, h2 => by
    by_cases q : p (f i) = true
    · by_cases e : x = i
      · rw [e]; exact q
      · rw [ruF_go (by omega) q] at h2
        exact ruF_at p f n (i + 1) x (by omega) h2
    · have q' : p (f i) = false := by simpa using q
      rw [ruF_hit q'] at h2
      omega
theorem verF_digits (f : Int → Int) : ∀ (n : Nat) (i run : Int) (gap : Bool), verF f n i run gap = true → ∀ m : Nat, 1 ≤ m → m ≤ n → (∀ x : Nat, x < m → isD (f (i + x)) = true) → run + m ≤ 9
  | 0, i, run, gap, _, m, h1, h2, _ => by omega
  | n + 1, i, run, gap, h, m, h1, h2, hd => by
    have d0 : isD (f i) = true := by have := hd 0 (by omega); simpa using this
    by_cases h9 : 9 < (if isD (f i) = true then run + 1 else 0)
    · rw [verF_run (by omega) h9] at h
      exact absurd h (by decide)
    · by_cases hb : ((!isS (f i) && !isD (f i) && !isL (f i)) || (isS (f i) && gap)) = true
      · rw [verF_bad (by omega) hb] at h
        exact absurd h (by decide)
      · rw [verF_go (by omega) (by simpa using hb) h9] at h
        rw [if_pos d0] at h h9
        by_cases hm : m = 1
        · omega
        · have := verF_digits f n (i + 1) (run + 1) (isS (f i)) h (m - 1) (by omega) (by omega) (fun x hx => by
            have := hd (x + 1) (by omega)
            rw [show i + ((x + 1 : Nat) : Int) = i + 1 + (x : Int) by omega] at this
            exact this)
          omega
theorem verF_later (f : Int → Int) : ∀ (d n : Nat) (i run : Int) (gap : Bool), d ≤ n → 0 ≤ run → verF f n i run gap = true → ∃ (run' : Int) (gap' : Bool), 0 ≤ run' ∧ verF f (n - d) (i + d) run' gap' = true
  | 0, n, i, run, gap, _, hr, h => ⟨run, gap, hr, by simpa using h⟩
  | d + 1, n, i, run, gap, hd, hr, h => by
    by_cases h9 : 9 < (if isD (f i) = true then run + 1 else 0)
    · rw [verF_run (by omega) h9] at h
      exact absurd h (by decide)
    · by_cases hb : ((!isS (f i) && !isD (f i) && !isL (f i)) || (isS (f i) && gap)) = true
      · rw [verF_bad (by omega) hb] at h
        exact absurd h (by decide)
      · rw [verF_go (by omega) (by simpa using hb) h9] at h
        obtain ⟨r, g, h1, h2⟩ := verF_later f d (n - 1) (i + 1) _ _ (by omega) (by split <;> omega) h
        refine ⟨r, g, h1, ?_⟩
        rw [show n - (d + 1) = n - 1 - d by omega, show i + ((d + 1 : Nat) : Int) = i + 1 + (d : Int) by omega]
        exact h2
/-- in a version a number has at most nine digits -/
theorem ver_nok {f : Int → Int} {lo hi : Int} (hv : ver f lo hi = true) : ∀ p, lo ≤ p → itS f p hi < hi → rkI f (itS f p hi) (itE f p hi) = 9 → itE f p hi - itS f p hi ≤ 9 := by
  intro p hp h1 h2
  have i1 := itS_in f p hi
  have i2 := itE_in f p hi
  have hva := (Bool.and_eq_true _ _).mp (show (mIn (hi - lo) 1 12 && verF f (hi - lo).toNat lo 0 true) = true from hv)
  have ha := skF_at f (hi - p).toNat p (by have : skF f (hi - p).toNat p = itS f p hi := rfl; omega)
  have ha : (isD (f (itS f p hi)) || isL (f (itS f p hi))) = true := ha
  have hL : isL (f (itS f p hi)) = false := by
    cases q : isL (f (itS f p hi)) with
    | false => rfl
    | true =>
      rw [rkI, if_pos q] at h2
      have := wrR_in (wrd f (itS f p hi) (itE f p hi)) (decide (itE f p hi - itS f p hi = 1) && isD (f (itE f p hi)))
      omega
  have hD : isD (f (itS f p hi)) = true := by rw [hL] at ha; simpa using ha
  obtain ⟨r, g, r0, hr⟩ := verF_later f (itS f p hi - lo).toNat (hi - lo).toNat lo 0 true (by omega) (by omega) hva.2
  by_cases hm : itE f p hi = itS f p hi
  · omega
  · have := verF_digits f _ _ r g hr (itE f p hi - itS f p hi).toNat (by omega) (by omega) (fun x hx => by
      have h5 := ruF_at (itP f (itS f p hi)) f (hi - itS f p hi).toNat (itS f p hi) (itS f p hi + x) (by omega) (by have : ruF (itP f (itS f p hi)) f (hi - itS f p hi).toNat (itS f p hi) = itE f p hi := rfl; omega)
      rw [itP_d hD] at h5
      rw [show lo + ((itS f p hi - lo).toNat : Int) + (x : Int) = itS f p hi + x by omega]
      exact h5)
    omega
theorem cmF_at (f : Int → Int) : ∀ (n : Nat) (i : Int), 0 ≤ i → 0 ≤ cmF f n i → f (cmF f n i) = 44
  | 0, i, _, h => by simp [cmF] at h
  | n + 1, i, h0, h => by
    by_cases q : f i = 44
    · rw [cmF_hit (by omega) q]; exact q
    · rw [cmF_go (by omega) q] at h ⊢
      exact cmF_at f n (i + 1) (by omega) h
/-- a text that is a range -/
def rng (f : Int → Int) (n : Int) : Bool := if ver f 0 n = true then true else if n < 3 ∨ ¬ (f 0 = 91 ∨ f 0 = 40) ∨ ¬ (f (n - 1) = 93 ∨ f (n - 1) = 41) then false else if cma f n < 0 then (decide (f 0 = 91) && decide (f (n - 1) = 93) && ver f 1 (n - 1)) else ((decide (cma f n = 1) || ver f 1 (cma f n)) && (decide (cma f n = n - 2) || ver f (cma f n + 1) (n - 1)))
theorem ver_first {f : Int → Int} {n : Int} (h : f 0 = 91 ∨ f 0 = 40) : ver f 0 n = false := by
  unfold ver
  by_cases q : mIn (n - 0) 1 12 = true
  · have := mIn_t.mp q
    rw [verF_bad (by omega) (by rcases h with h | h <;> rw [h] <;> decide)]
    simp
  · have q' : mIn (n - 0) 1 12 = false := by simpa using q
    rw [q']
    rfl
theorem rng_cases {f : Int → Int} {n : Int} (h : rng f n = true) : (¬ (f 0 = 91 ∨ f 0 = 40) ∧ ver f 0 n = true) ∨ ((f 0 = 91 ∨ f 0 = 40) ∧ 3 ≤ n ∧ (f (n - 1) = 93 ∨ f (n - 1) = 41) ∧ (cma f n < 0 → ver f 1 (n - 1) = true) ∧ (0 ≤ cma f n → 1 ≤ cma f n ∧ cma f n ≤ n - 2 ∧ (cma f n = 1 ∨ ver f 1 (cma f n) = true) ∧ (cma f n = n - 2 ∨ ver f (cma f n + 1) (n - 1) = true))) := by
  unfold rng at h
  by_cases q0 : f 0 = 91 ∨ f 0 = 40
  · right
    rw [ver_first q0, if_neg (by decide)] at h
    by_cases q1 : n < 3 ∨ ¬ (f 0 = 91 ∨ f 0 = 40) ∨ ¬ (f (n - 1) = 93 ∨ f (n - 1) = 41)
    · rw [if_pos q1] at h
      exact absurd h (by decide)
    · rw [if_neg q1] at h
      have q2 : f (n - 1) = 93 ∨ f (n - 1) = 41 := by omega
      refine ⟨q0, by omega, q2, fun hc => ?_, fun hc => ?_⟩
      · rw [if_pos hc] at h
        simp at h
        exact h.2
      · rw [if_neg (by omega)] at h
        simp at h
        have h44 := cmF_at f n.toNat 0 (by omega) hc
        have h44 : f (cma f n) = 44 := h44
        have hin := cma_in f (n := n) (by omega)
        have n0 : cma f n ≠ 0 := fun e => by rw [e] at h44; omega
        have n1 : cma f n ≠ n - 1 := fun e => by rw [e] at h44; omega
        exact ⟨by omega, by omega, h.1, h.2⟩
  · left
    refine ⟨q0, ?_⟩
    by_cases q : ver f 0 n = true
    · exact q
    · rw [if_neg q, if_pos (by omega)] at h
      exact absurd h (by decide)
abbrev rm_Md_range : Room := { frames := 3, cells := 0, slots := 0, locals := 72 }
set_option maxRecDepth 100000 in
set_option maxHeartbeats 4000000 in
theorem c_Md_range {l : Launch} {Γ : rz_G} {h : rz_H} {x : Nat} {ad : Nat → Nat} {M : Nat → Int → Int} (hM : MdAt Γ h x ad M) (hw : mWF M) {t : Int} (ht : 0 ≤ t ∧ t < 126) : Ct l Γ x_Md_range y_Md_range rm_Md_range [.ref x, vi t] h (pE (bi (rng (mAt M t) (M 1 t))) h) := by
  refine rz_met (by decide) rfl rfl (Nat.le_of_ble_eq_true rfl) (fun K _ => ?_)
  refine rz_Leq [(0, .ref x), (1, vi t)] rfl ?_
  have hlen := hw.1 t ht.1 ht.2
  refine rz_aload_n 0 d_Md_range_0 rfl rfl ?_
  refine rz_getf f_Md_13 hM.1 rfl d_Md_range_1 ?_
  refine rz_iload_n 1 d_Md_range_4 rfl rfl ?_
  refine rz_iaload (md_a1 hM) (by decide) (by omega) d_Md_range_5 ?_
  refine rz_istore_n [(2, vi (M 1 t)), (0, .ref x), (1, vi t)] d_Md_range_6 rfl (by decide) rfl ?_
  refine rz_aload_n 1 d_Md_range_7 rfl rfl ?_
  refine rz_iload_n 2 d_Md_range_8 rfl rfl ?_
  refine rz_iconst d_Md_range_9 ?_
  refine rz_iload_n 0 d_Md_range_10 rfl rfl ?_
  refine rz_callV (As := [vi t, vi 0, vi (M 1 t)]) (c_Md_version hM hw ht (by omega) (by omega)) m_Md_143 hM.1 rfl rfl rfl rfl (Nat.le_of_ble_eq_true rfl) ⟨by decide, by decide⟩ ⟨by decide, by decide⟩ d_Md_range_11 (kE (h := h) ?_)
  refine rz_if_eqB 19 d_Md_range_14 (by decide) (fun c14 => ?_) (fun c14 => ?_)
  · refine rz_aload_n 1 d_Md_range_19 rfl rfl ?_
    refine rz_iload_n 2 d_Md_range_20 rfl rfl ?_
    refine rz_iconst d_Md_range_21 ?_
    refine rz_callV (As := [vi t, vi 0]) (c_Md_at hM hw ht (by omega)) m_Md_74 hM.1 rfl rfl rfl rfl (Nat.le_of_ble_eq_true rfl) ⟨by decide, by decide⟩ ⟨by decide, by decide⟩ d_Md_range_22 (kE (h := h) ?_)
    refine rz_top (fun av e_av => ?_)
    replace e_av := e_av.symm
    refine rz_istore_n [(3, vi av), (2, vi (M 1 t)), (0, .ref x), (1, vi t)] d_Md_range_25 rfl (by decide) rfl ?_
    refine rz_aload_n 2 d_Md_range_26 rfl rfl ?_
    refine rz_iload_n 3 d_Md_range_27 rfl rfl ?_
    refine rz_iload_n 1 d_Md_range_28 rfl rfl ?_
    refine rz_iconst d_Md_range_29 ?_
    refine rz_isub d_Md_range_30 ?_
    refine rz_callV (As := [vi t, vi ((M 1 t) - 1)]) (c_Md_at hM hw ht (by omega)) m_Md_74 hM.1 rfl rfl rfl rfl (Nat.le_of_ble_eq_true rfl) ⟨by decide, by decide⟩ ⟨by decide, by decide⟩ d_Md_range_31 (kE (h := h) ?_)
    refine rz_top (fun zv e_zv => ?_)
    replace e_zv := e_zv.symm
    refine rz_istore [(4, vi zv), (3, vi av), (2, vi (M 1 t)), (0, .ref x), (1, vi t)] d_Md_range_34 (by decide) rfl ?_
    refine rz_aload_n 3 d_Md_range_36 rfl rfl ?_
    refine rz_iload_n 4 d_Md_range_37 rfl rfl ?_
    refine rz_callV (As := [vi t]) (c_Md_comma hM hw ht) m_Md_146 hM.1 rfl rfl rfl rfl (Nat.le_of_ble_eq_true rfl) ⟨by decide, by decide⟩ ⟨by decide, by decide⟩ d_Md_range_38 (kE (h := h) ?_)
    refine rz_top (fun cv e_cv => ?_)
    replace e_cv := e_cv.symm
    refine rz_istore [(5, vi cv), (4, vi zv), (3, vi av), (2, vi (M 1 t)), (0, .ref x), (1, vi t)] d_Md_range_41 (by decide) rfl ?_
    have ic := cma_in (mAt M t) (n := M 1 t) (by omega)
    have ia := mAt_in hw ht 0
    have iz := mAt_in hw ht (M 1 t - 1)
    rw [e_cv] at ic
    rw [e_av] at ia
    rw [e_zv] at iz
    refine rz_iload_n 3 d_Md_range_43 rfl rfl ?_
    refine rz_iconst d_Md_range_44 ?_
    refine rz_icmp_lt 74 d_Md_range_45 (by decide) (by omega) ⟨by decide, by decide⟩ (fun c45 => ?_) (fun c45 => ?_)
    · refine rz_iconst d_Md_range_74 ?_
      exact rz_zreturn (st := []) (ty := .boolean) rfl rfl d_Md_range_75 ⟨by decide, by decide⟩ ⟨_, rfl, bi0 (by rw [rng, c14, if_neg (by decide), e_av, e_zv, e_cv, if_pos (by omega)]), rfl⟩
    · refine rz_cut (α := Unit) 0 0 60 (fun _ => av = 91 ∨ av = 40) (fun _ => [(5, vi cv), (4, vi zv), (3, vi av), (2, vi (M 1 t)), (0, .ref x), (1, vi t)]) (fun _ => []) (fun _ => h) (fun _ k60 => ?_) (fun J60 => ?_)
      · refine rz_cut (α := Unit) 0 0 76 (fun _ => zv = 93 ∨ zv = 41) (fun _ => [(5, vi cv), (4, vi zv), (3, vi av), (2, vi (M 1 t)), (0, .ref x), (1, vi t)]) (fun _ => []) (fun _ => h) (fun _ k76 => ?_) (fun J76 => ?_)
        · refine rz_iload 0 d_Md_range_76 rfl ?_
          refine rz_if_ge 112 d_Md_range_78 (by decide) (by omega) (fun c78 => ?_) (fun c78 => ?_)
          · refine rz_cut (α := Unit) 0 0 129 (fun _ => (decide (cv = 1) || ver (mAt M t) 1 cv) = true) (fun _ => [(5, vi cv), (4, vi zv), (3, vi av), (2, vi (M 1 t)), (0, .ref x), (1, vi t)]) (fun _ => []) (fun _ => h) (fun _ k129 => ?_) (fun J129 => ?_)
            · refine rz_iload 0 d_Md_range_129 rfl ?_
              refine rz_iload_n 3 d_Md_range_131 rfl rfl ?_
              refine rz_iconst d_Md_range_132 ?_
              refine rz_isub d_Md_range_133 ?_
              refine rz_icmp_eq 152 d_Md_range_134 (by decide) (by omega) (by omega) (fun c134 => ?_) (fun c134 => ?_)
              · refine rz_iconst d_Md_range_152 ?_
                refine rz_goto 157 d_Md_range_153 (by decide) ?_
                exact rz_zreturn (st := []) (ty := .boolean) rfl rfl d_Md_range_157 ⟨by decide, by decide⟩ ⟨_, rfl, bi1 (by rw [rng, c14, if_neg (by decide), e_av, e_zv, e_cv, if_neg (by omega), if_neg (by omega)]; first | (rw [k129]; simp [*]; done) | (simp [*]; done)), rfl⟩
              · refine rz_aload_n 4 d_Md_range_137 rfl rfl ?_
                refine rz_iload_n 5 d_Md_range_138 rfl rfl ?_
                refine rz_iload 0 d_Md_range_139 rfl ?_
                refine rz_iconst d_Md_range_141 ?_
                refine rz_iadd d_Md_range_142 ?_
                refine rz_iload_n 3 d_Md_range_143 rfl rfl ?_
                refine rz_iconst d_Md_range_144 ?_
                refine rz_isub d_Md_range_145 ?_
                refine rz_callV (As := [vi t, vi (cv + 1), vi ((M 1 t) - 1)]) (c_Md_version hM hw ht (by omega) (by omega)) m_Md_143 hM.1 rfl rfl rfl rfl (Nat.le_of_ble_eq_true rfl) ⟨by decide, by decide⟩ ⟨by decide, by decide⟩ d_Md_range_146 (kE (h := h) ?_)
                refine rz_if_eqB 156 d_Md_range_149 (by decide) (fun c149 => ?_) (fun c149 => ?_)
                · refine rz_iconst d_Md_range_156 ?_
                  exact rz_zreturn (st := []) (ty := .boolean) rfl rfl d_Md_range_157 ⟨by decide, by decide⟩ ⟨_, rfl, bi0 (by rw [rng, c14, if_neg (by decide), e_av, e_zv, e_cv, if_neg (by omega), if_neg (by omega)]; first | (rw [k129]; simp [*]; done) | (simp [*]; done)), rfl⟩
                · refine rz_iconst d_Md_range_152 ?_
                  refine rz_goto 157 d_Md_range_153 (by decide) ?_
                  exact rz_zreturn (st := []) (ty := .boolean) rfl rfl d_Md_range_157 ⟨by decide, by decide⟩ ⟨_, rfl, bi1 (by rw [rng, c14, if_neg (by decide), e_av, e_zv, e_cv, if_neg (by omega), if_neg (by omega)]; first | (rw [k129]; simp [*]; done) | (simp [*]; done)), rfl⟩
            · refine rz_iload 0 d_Md_range_112 rfl ?_
              refine rz_iconst d_Md_range_114 ?_
              refine rz_icmp_eq 129 d_Md_range_115 (by decide) (by omega) ⟨by decide, by decide⟩ (fun c115 => ?_) (fun c115 => ?_)
              · exact J129 () (by simp [*])
              · refine rz_aload_n 4 d_Md_range_118 rfl rfl ?_
                refine rz_iload_n 5 d_Md_range_119 rfl rfl ?_
                refine rz_iconst d_Md_range_120 ?_
                refine rz_iload 0 d_Md_range_121 rfl ?_
                refine rz_callV (As := [vi t, vi 1, vi cv]) (c_Md_version hM hw ht (by omega) (by omega)) m_Md_143 hM.1 rfl rfl rfl rfl (Nat.le_of_ble_eq_true rfl) ⟨by decide, by decide⟩ ⟨by decide, by decide⟩ d_Md_range_123 (kE (h := h) ?_)
                refine rz_if_eqB 156 d_Md_range_126 (by decide) (fun c126 => ?_) (fun c126 => ?_)
                · refine rz_iconst d_Md_range_156 ?_
                  exact rz_zreturn (st := []) (ty := .boolean) rfl rfl d_Md_range_157 ⟨by decide, by decide⟩ ⟨_, rfl, bi0 (by rw [rng, c14, if_neg (by decide), e_av, e_zv, e_cv, if_neg (by omega), if_neg (by omega)]; first | (rw [k129]; simp [*]; done) | (simp [*]; done)), rfl⟩
                · exact J129 () (by simp [*])
          · refine rz_iload_n 2 d_Md_range_81 rfl rfl ?_
            refine rz_bipush (v := 91) d_Md_range_82 (by decide) ?_
            refine rz_icmp_ne 110 d_Md_range_84 (by decide) (by omega) ⟨by decide, by decide⟩ (fun c84 => ?_) (fun c84 => ?_)
            · refine rz_iconst d_Md_range_110 ?_
              exact rz_zreturn (st := []) (ty := .boolean) rfl rfl d_Md_range_111 ⟨by decide, by decide⟩ ⟨_, rfl, bi0 (by rw [rng, c14, if_neg (by decide), e_av, e_zv, e_cv, if_neg (by omega), if_pos (by omega)]; simp [*]), rfl⟩
            · refine rz_iload 1 d_Md_range_87 rfl ?_
              refine rz_bipush (v := 93) d_Md_range_89 (by decide) ?_
              refine rz_icmp_ne 110 d_Md_range_91 (by decide) (by omega) ⟨by decide, by decide⟩ (fun c91 => ?_) (fun c91 => ?_)
              · refine rz_iconst d_Md_range_110 ?_
                exact rz_zreturn (st := []) (ty := .boolean) rfl rfl d_Md_range_111 ⟨by decide, by decide⟩ ⟨_, rfl, bi0 (by rw [rng, c14, if_neg (by decide), e_av, e_zv, e_cv, if_neg (by omega), if_pos (by omega)]; simp [*]), rfl⟩
              · refine rz_aload_n 4 d_Md_range_94 rfl rfl ?_
                refine rz_iload_n 5 d_Md_range_95 rfl rfl ?_
                refine rz_iconst d_Md_range_96 ?_
                refine rz_iload_n 3 d_Md_range_97 rfl rfl ?_
                refine rz_iconst d_Md_range_98 ?_
                refine rz_isub d_Md_range_99 ?_
                refine rz_callV (As := [vi t, vi 1, vi ((M 1 t) - 1)]) (c_Md_version hM hw ht (by omega) (by omega)) m_Md_143 hM.1 rfl rfl rfl rfl (Nat.le_of_ble_eq_true rfl) ⟨by decide, by decide⟩ ⟨by decide, by decide⟩ d_Md_range_100 (kE (h := h) ?_)
                refine rz_if_eqB 110 d_Md_range_103 (by decide) (fun c103 => ?_) (fun c103 => ?_)
                · refine rz_iconst d_Md_range_110 ?_
                  exact rz_zreturn (st := []) (ty := .boolean) rfl rfl d_Md_range_111 ⟨by decide, by decide⟩ ⟨_, rfl, bi0 (by rw [rng, c14, if_neg (by decide), e_av, e_zv, e_cv, if_neg (by omega), if_pos (by omega)]; simp [*]), rfl⟩
                · refine rz_iconst d_Md_range_106 ?_
                  refine rz_goto 111 d_Md_range_107 (by decide) ?_
                  exact rz_zreturn (st := []) (ty := .boolean) rfl rfl d_Md_range_111 ⟨by decide, by decide⟩ ⟨_, rfl, bi1 (by rw [rng, c14, if_neg (by decide), e_av, e_zv, e_cv, if_neg (by omega), if_pos (by omega)]; simp [*]), rfl⟩
        · refine rz_iload 1 d_Md_range_60 rfl ?_
          refine rz_bipush (v := 93) d_Md_range_62 (by decide) ?_
          refine rz_icmp_eq 76 d_Md_range_64 (by decide) (by omega) ⟨by decide, by decide⟩ (fun c64 => ?_) (fun c64 => ?_)
          · exact J76 () (by omega)
          · refine rz_iload 1 d_Md_range_67 rfl ?_
            refine rz_bipush (v := 41) d_Md_range_69 (by decide) ?_
            refine rz_icmp_eq 76 d_Md_range_71 (by decide) (by omega) ⟨by decide, by decide⟩ (fun c71 => ?_) (fun c71 => ?_)
            · exact J76 () (by omega)
            · refine rz_iconst d_Md_range_74 ?_
              exact rz_zreturn (st := []) (ty := .boolean) rfl rfl d_Md_range_75 ⟨by decide, by decide⟩ ⟨_, rfl, bi0 (by rw [rng, c14, if_neg (by decide), e_av, e_zv, e_cv, if_pos (by omega)]), rfl⟩
      · refine rz_iload_n 2 d_Md_range_48 rfl rfl ?_
        refine rz_bipush (v := 91) d_Md_range_49 (by decide) ?_
        refine rz_icmp_eq 60 d_Md_range_51 (by decide) (by omega) ⟨by decide, by decide⟩ (fun c51 => ?_) (fun c51 => ?_)
        · exact J60 () (by omega)
        · refine rz_iload_n 2 d_Md_range_54 rfl rfl ?_
          refine rz_bipush (v := 40) d_Md_range_55 (by decide) ?_
          refine rz_icmp_ne 74 d_Md_range_57 (by decide) (by omega) ⟨by decide, by decide⟩ (fun c57 => ?_) (fun c57 => ?_)
          · refine rz_iconst d_Md_range_74 ?_
            exact rz_zreturn (st := []) (ty := .boolean) rfl rfl d_Md_range_75 ⟨by decide, by decide⟩ ⟨_, rfl, bi0 (by rw [rng, c14, if_neg (by decide), e_av, e_zv, e_cv, if_pos (by omega)]), rfl⟩
          · exact J60 () (by omega)
  · refine rz_iconst d_Md_range_17 ?_
    exact rz_zreturn (st := []) (ty := .boolean) rfl rfl d_Md_range_18 ⟨by decide, by decide⟩ ⟨_, rfl, bi1 (by rw [rng, if_pos c14]), rfl⟩
/-- the version f, of n1 places, is in the range g, of n places -/
def inR (f : Int → Int) (n1 : Int) (g : Int → Int) (n : Int) : Bool := if ¬ (g 0 = 91 ∨ g 0 = 40) then decide (0 ≤ ord f g n1 0 n) else if cma g n < 0 then decide (ord f g n1 1 (n - 1) = 0) else (decide ((if g 0 = 40 then 1 else 0) ≤ (if cma g n = 1 then 1 else ord f g n1 1 (cma g n))) && decide ((if cma g n = n - 2 then -1 else ord f g n1 (cma g n + 1) (n - 1)) ≤ (if g (n - 1) = 41 then -1 else 0)))
abbrev rm_Md_inside : Room := { frames := 6, cells := 0, slots := 0, locals := 157 }
set_option maxRecDepth 100000 in
set_option maxHeartbeats 4000000 in
theorem c_Md_inside {l : Launch} {Γ : rz_G} {h : rz_H} {x : Nat} {ad : Nat → Nat} {M : Nat → Int → Int} (hM : MdAt Γ h x ad M) (hw : mWF M) {v t : Int} (hv : 0 ≤ v ∧ v < 126) (ht : 0 ≤ t ∧ t < 126) (kv : ver (mAt M v) 0 (M 1 v) = true) (kt : rng (mAt M t) (M 1 t) = true) : Ct l Γ x_Md_inside y_Md_inside rm_Md_inside [.ref x, vi v, vi t] h (pI (fun r h' => r = bi (inR (mAt M v) (M 1 v) (mAt M t) (M 1 t)) ∧ ∃ M', MdAt Γ h' x ad M' ∧ mS2 M M' ∧ rz_fr [10, 11] h h')) := by
  refine rz_met (by decide) rfl rfl (Nat.le_of_ble_eq_true rfl) (fun K _ => ?_)
  refine rz_Leq [(0, .ref x), (1, vi v), (2, vi t)] rfl ?_
  have hlen := hw.1 t ht.1 ht.2
  have hr := rng_cases kt
  refine rz_aload_n 0 d_Md_inside_0 rfl rfl ?_
  refine rz_getf f_Md_13 hM.1 rfl d_Md_inside_1 ?_
  refine rz_iload_n 2 d_Md_inside_4 rfl rfl ?_
  refine rz_iaload (md_a1 hM) (by decide) (by omega) d_Md_inside_5 ?_
  refine rz_istore_n [(3, vi (M 1 t)), (0, .ref x), (1, vi v), (2, vi t)] d_Md_inside_6 rfl (by decide) rfl ?_
  refine rz_aload_n 1 d_Md_inside_7 rfl rfl ?_
  refine rz_iload_n 3 d_Md_inside_8 rfl rfl ?_
  refine rz_iconst d_Md_inside_9 ?_
  refine rz_callV (As := [vi t, vi 0]) (c_Md_at hM hw ht (by omega)) m_Md_74 hM.1 rfl rfl rfl rfl (Nat.le_of_ble_eq_true rfl) ⟨by decide, by decide⟩ ⟨by decide, by decide⟩ d_Md_inside_10 (kE (h := h) ?_)
  refine rz_top (fun av e_av => ?_)
  replace e_av := e_av.symm
  refine rz_istore [(4, vi av), (3, vi (M 1 t)), (0, .ref x), (1, vi v), (2, vi t)] d_Md_inside_13 (by decide) rfl ?_
  refine rz_aload_n 2 d_Md_inside_15 rfl rfl ?_
  refine rz_iload_n 4 d_Md_inside_16 rfl rfl ?_
  refine rz_callV (As := [vi t]) (c_Md_comma hM hw ht) m_Md_146 hM.1 rfl rfl rfl rfl (Nat.le_of_ble_eq_true rfl) ⟨by decide, by decide⟩ ⟨by decide, by decide⟩ d_Md_inside_17 (kE (h := h) ?_)
  refine rz_top (fun cv e_cv => ?_)
  replace e_cv := e_cv.symm
  refine rz_istore [(5, vi cv), (4, vi av), (3, vi (M 1 t)), (0, .ref x), (1, vi v), (2, vi t)] d_Md_inside_20 (by decide) rfl ?_
  have ic := cma_in (mAt M t) (n := M 1 t) (by omega)
  have ia := mAt_in hw ht 0
  rw [e_cv] at ic hr
  rw [e_av] at ia hr
  refine rz_cut (α := Unit) 0 0 53 (fun _ => av = 91 ∨ av = 40) (fun _ => [(5, vi cv), (4, vi av), (3, vi (M 1 t)), (0, .ref x), (1, vi v), (2, vi t)]) (fun _ => []) (fun _ => h) (fun _ k53 => ?_) (fun J53 => ?_)
  · refine rz_iload 0 d_Md_inside_53 rfl ?_
    refine rz_if_ge 77 d_Md_inside_55 (by decide) (by omega) (fun c55 => ?_) (fun c55 => ?_)
    · have kt4 : 3 ≤ M 1 t ∧ 1 ≤ cv ∧ cv ≤ M 1 t - 2 ∧ (cv = 1 ∨ ver (mAt M t) 1 cv = true) ∧ (cv = M 1 t - 2 ∨ ver (mAt M t) (cv + 1) (M 1 t - 1) = true) := by rcases hr with hr | hr; omega; exact ⟨hr.2.1, hr.2.2.2.2 (by omega)⟩
      refine rz_cut (α := rz_H × (Nat → Int → Int)) 0 0 96 (fun (hJ96, MJ96) => MdAt Γ hJ96 x ad MJ96 ∧ mS2 M MJ96 ∧ rz_fr [10, 11] h hJ96) (fun (hJ96, MJ96) => [(5, vi cv), (4, vi av), (3, vi (M 1 t)), (0, .ref x), (1, vi v), (2, vi t)]) (fun (hJ96, MJ96) => [vi (if cv = 1 then 1 else ord (mAt M v) (mAt M t) (M 1 v) 1 cv)]) (fun (hJ96, MJ96) => hJ96) (fun y hy => ?_) (fun J96 => ?_)
      · obtain ⟨hJ96, MJ96⟩ := y
        dsimp only at hy ⊢
        obtain ⟨hMJ96, hSJ96, hFJ96⟩ := hy
        have hwJ96 := mS2_wf hSJ96 hw
        refine rz_top (fun lw e_lw => ?_)
        replace e_lw := e_lw.symm
        refine rz_istore [(6, vi lw), (5, vi cv), (4, vi av), (3, vi (M 1 t)), (0, .ref x), (1, vi v), (2, vi t)] d_Md_inside_96 (by decide) rfl ?_
        refine rz_cut (α := rz_H × (Nat → Int → Int)) 0 0 123 (fun (hJ123, MJ123) => MdAt Γ hJ123 x ad MJ123 ∧ mS2 M MJ123 ∧ rz_fr [10, 11] h hJ123) (fun (hJ123, MJ123) => [(6, vi lw), (5, vi cv), (4, vi av), (3, vi (M 1 t)), (0, .ref x), (1, vi v), (2, vi t)]) (fun (hJ123, MJ123) => [vi (if cv = M 1 t - 2 then -1 else ord (mAt M v) (mAt M t) (M 1 v) (cv + 1) (M 1 t - 1))]) (fun (hJ123, MJ123) => hJ123) (fun y hy => ?_) (fun J123 => ?_)
        · obtain ⟨hJ123, MJ123⟩ := y
          dsimp only at hy ⊢
          obtain ⟨hMJ123, hSJ123, hFJ123⟩ := hy
          have hwJ123 := mS2_wf hSJ123 hw
          refine rz_top (fun hg e_hg => ?_)
          replace e_hg := e_hg.symm
          refine rz_istore [(7, vi hg), (6, vi lw), (5, vi cv), (4, vi av), (3, vi (M 1 t)), (0, .ref x), (1, vi v), (2, vi t)] d_Md_inside_123 (by decide) rfl ?_
          have il : -1 ≤ lw ∧ lw ≤ 1 := by rw [← e_lw]; split; omega; exact ordF_in _ _ _ _ _ _ _
          have ih2 : -1 ≤ hg ∧ hg ≤ 1 := by rw [← e_hg]; split; omega; exact ordF_in _ _ _ _ _ _ _
          refine rz_iload 1 d_Md_inside_125 rfl ?_
          refine rz_cut (α := Unit) 0 0 139 (fun _ => True) (fun _ => [(7, vi hg), (6, vi lw), (5, vi cv), (4, vi av), (3, vi (M 1 t)), (0, .ref x), (1, vi v), (2, vi t)]) (fun _ => [vi (if av = 40 then 1 else 0), vi lw]) (fun _ => hJ123) (fun _ _ => ?_) (fun J139 => ?_)
          · refine rz_icmp_lt 169 d_Md_inside_139 (by decide) (by omega) (by split <;> omega) (fun c139 => ?_) (fun c139 => ?_)
            · refine rz_iconst d_Md_inside_169 ?_
              exact rz_zreturn (st := []) (ty := .boolean) rfl rfl d_Md_inside_170 ⟨by decide, by decide⟩ ⟨_, rfl, bi0 (by rw [inR, e_av, e_cv, if_neg (by omega), if_neg (by omega), e_lw, e_hg]; simp; omega), MJ123, hMJ123, hSJ123, hFJ123⟩
            · refine rz_iload 0 d_Md_inside_142 rfl ?_
              refine rz_cut (α := Unit) 0 0 162 (fun _ => True) (fun _ => [(7, vi hg), (6, vi lw), (5, vi cv), (4, vi av), (3, vi (M 1 t)), (0, .ref x), (1, vi v), (2, vi t)]) (fun _ => [vi (if (mAt M t) (M 1 t - 1) = 41 then -1 else 0), vi hg]) (fun _ => hJ123) (fun _ _ => ?_) (fun J162 => ?_)
              · refine rz_icmp_gt 169 d_Md_inside_162 (by decide) (by omega) (by split <;> omega) (fun c162 => ?_) (fun c162 => ?_)
                · refine rz_iconst d_Md_inside_169 ?_
                  exact rz_zreturn (st := []) (ty := .boolean) rfl rfl d_Md_inside_170 ⟨by decide, by decide⟩ ⟨_, rfl, bi0 (by rw [inR, e_av, e_cv, if_neg (by omega), if_neg (by omega), e_lw, e_hg]; simp; omega), MJ123, hMJ123, hSJ123, hFJ123⟩
                · refine rz_iconst d_Md_inside_165 ?_
                  refine rz_goto 170 d_Md_inside_166 (by decide) ?_
                  exact rz_zreturn (st := []) (ty := .boolean) rfl rfl d_Md_inside_170 ⟨by decide, by decide⟩ ⟨_, rfl, bi1 (by rw [inR, e_av, e_cv, if_neg (by omega), if_neg (by omega), e_lw, e_hg]; simp; omega), MJ123, hMJ123, hSJ123, hFJ123⟩
              · refine rz_aload_n 5 d_Md_inside_144 rfl rfl ?_
                refine rz_iload_n 7 d_Md_inside_145 rfl rfl ?_
                refine rz_iload_n 4 d_Md_inside_146 rfl rfl ?_
                refine rz_iconst d_Md_inside_147 ?_
                refine rz_isub d_Md_inside_148 ?_
                refine rz_callV (As := [vi t, vi ((M 1 t) - 1)]) (c_Md_at hMJ123 hwJ123 ht (by omega)) m_Md_74 hMJ123.1 rfl rfl rfl rfl (Nat.le_of_ble_eq_true rfl) ⟨by decide, by decide⟩ ⟨by decide, by decide⟩ d_Md_inside_149 (kE (h := hJ123) ?_)
                rw [mS2_at hSJ123]
                refine rz_bipush (v := 41) d_Md_inside_152 (by decide) ?_
                refine rz_icmp_ne 161 d_Md_inside_154 (by decide) (by have := mAt_in hw ht (M 1 t - 1); omega) ⟨by decide, by decide⟩ (fun c154 => ?_) (fun c154 => ?_)
                · refine rz_iconst d_Md_inside_161 ?_
                  refine rz_Seq [vi (if (mAt M t) (M 1 t - 1) = 41 then -1 else 0), vi hg] (by rw [if_neg c154]) ?_
                  exact J162 () trivial
                · refine rz_iconst d_Md_inside_157 ?_
                  refine rz_goto 162 d_Md_inside_158 (by decide) ?_
                  refine rz_Seq [vi (if (mAt M t) (M 1 t - 1) = 41 then -1 else 0), vi hg] (by rw [if_pos c154]) ?_
                  exact J162 () trivial
          · refine rz_iload 3 d_Md_inside_127 rfl ?_
            refine rz_bipush (v := 40) d_Md_inside_129 (by decide) ?_
            refine rz_icmp_ne 138 d_Md_inside_131 (by decide) (by omega) ⟨by decide, by decide⟩ (fun c131 => ?_) (fun c131 => ?_)
            · refine rz_iconst d_Md_inside_138 ?_
              refine rz_Seq [vi (if av = 40 then 1 else 0), vi lw] (by rw [if_neg (by omega)]) ?_
              exact J139 () trivial
            · refine rz_iconst d_Md_inside_134 ?_
              refine rz_goto 139 d_Md_inside_135 (by decide) ?_
              refine rz_Seq [vi (if av = 40 then 1 else 0), vi lw] (by rw [if_pos (by omega)]) ?_
              exact J139 () trivial
        · refine rz_iload 1 d_Md_inside_98 rfl ?_
          refine rz_iload_n 3 d_Md_inside_100 rfl rfl ?_
          refine rz_iconst d_Md_inside_101 ?_
          refine rz_isub d_Md_inside_102 ?_
          refine rz_icmp_ne 110 d_Md_inside_103 (by decide) (by omega) (by omega) (fun c103 => ?_) (fun c103 => ?_)
          · refine rz_aload_n 4 d_Md_inside_110 rfl rfl ?_
            refine rz_iload_n 5 d_Md_inside_111 rfl rfl ?_
            refine rz_iload_n 6 d_Md_inside_112 rfl rfl ?_
            refine rz_iload 1 d_Md_inside_113 rfl ?_
            refine rz_iconst d_Md_inside_115 ?_
            refine rz_iadd d_Md_inside_116 ?_
            refine rz_iload_n 3 d_Md_inside_117 rfl rfl ?_
            refine rz_iconst d_Md_inside_118 ?_
            refine rz_isub d_Md_inside_119 ?_
            refine rz_callV (As := [vi v, vi t, vi (cv + 1), vi ((M 1 t) - 1)]) (c_Md_ordered hMJ96 hwJ96 hv ht (by omega) (by omega) (by rw [mS2_at hSJ96, hSJ96 1 (by decide) (by decide)]; exact ver_nok kv) (by rw [mS2_at hSJ96]; exact ver_nok (kt4.2.2.2.2.resolve_left c103))) m_Md_149 hMJ96.1 rfl rfl rfl rfl (Nat.le_of_ble_eq_true rfl) ⟨by decide, by decide⟩ ⟨by decide, by decide⟩ d_Md_inside_120 (kI (h := hJ96) fun r1 h1 q1 => ?_)
            obtain ⟨rfl, M1, hM1, hT1, hF1⟩ := q1
            rw [mS2_at hSJ96, mS2_at hSJ96, hSJ96 1 (by decide) (by decide)]
            have hS1 := hSJ96.tr hT1
            have hw1 := mS2_wf hS1 hw
            have hG1 := hFJ96.tr hF1
            have io1 := ordF_in (mAt M v) (mAt M t) (M 1 v) ((M 1 t) - 1) 13 0 (cv + 1)
            have io1 : -1 ≤ ord (mAt M v) (mAt M t) (M 1 v) (cv + 1) ((M 1 t) - 1) ∧ ord (mAt M v) (mAt M t) (M 1 v) (cv + 1) ((M 1 t) - 1) ≤ 1 := io1
            refine rz_Seq [vi (if cv = M 1 t - 2 then -1 else ord (mAt M v) (mAt M t) (M 1 v) (cv + 1) (M 1 t - 1))] (by rw [if_neg (by omega)]) ?_
            exact J123 (h1, M1) ⟨hM1, hS1, hG1⟩
          · refine rz_iconst d_Md_inside_106 ?_
            refine rz_goto 123 d_Md_inside_107 (by decide) ?_
            refine rz_Seq [vi (if cv = M 1 t - 2 then -1 else ord (mAt M v) (mAt M t) (M 1 v) (cv + 1) (M 1 t - 1))] (by rw [if_pos (by omega)]) ?_
            exact J123 (hJ96, MJ96) ⟨hMJ96, hSJ96, hFJ96⟩
      · refine rz_iload 0 d_Md_inside_77 rfl ?_
        refine rz_iconst d_Md_inside_79 ?_
        refine rz_icmp_ne 87 d_Md_inside_80 (by decide) (by omega) ⟨by decide, by decide⟩ (fun c80 => ?_) (fun c80 => ?_)
        · refine rz_aload_n 3 d_Md_inside_87 rfl rfl ?_
          refine rz_iload_n 4 d_Md_inside_88 rfl rfl ?_
          refine rz_iload_n 5 d_Md_inside_89 rfl rfl ?_
          refine rz_iconst d_Md_inside_90 ?_
          refine rz_iload 0 d_Md_inside_91 rfl ?_
          refine rz_callV (As := [vi v, vi t, vi 1, vi cv]) (c_Md_ordered hM hw hv ht (by omega) (by omega) (by exact ver_nok kv) (by exact ver_nok (kt4.2.2.2.1.resolve_left c80))) m_Md_149 hM.1 rfl rfl rfl rfl (Nat.le_of_ble_eq_true rfl) ⟨by decide, by decide⟩ ⟨by decide, by decide⟩ d_Md_inside_93 (kI (h := h) fun r2 h2 q2 => ?_)
          obtain ⟨rfl, M2, hM2, hT2, hF2⟩ := q2
          have hS2 := hT2
          have hw2 := mS2_wf hS2 hw
          have hG2 := rz_fr.rf.tr hF2
          have io2 := ordF_in (mAt M v) (mAt M t) (M 1 v) cv 13 0 1
          have io2 : -1 ≤ ord (mAt M v) (mAt M t) (M 1 v) 1 cv ∧ ord (mAt M v) (mAt M t) (M 1 v) 1 cv ≤ 1 := io2
          refine rz_Seq [vi (if cv = 1 then 1 else ord (mAt M v) (mAt M t) (M 1 v) 1 cv)] (by rw [if_neg (by omega)]) ?_
          exact J96 (h2, M2) ⟨hM2, hS2, hG2⟩
        · refine rz_iconst d_Md_inside_83 ?_
          refine rz_goto 96 d_Md_inside_84 (by decide) ?_
          refine rz_Seq [vi (if cv = 1 then 1 else ord (mAt M v) (mAt M t) (M 1 v) 1 cv)] (by rw [if_pos (by omega)]) ?_
          exact J96 (h, M) ⟨hM, mS2.rf, rz_fr.rf⟩
    · have kt3 : 3 ≤ M 1 t ∧ ver (mAt M t) 1 (M 1 t - 1) = true := by rcases hr with hr | hr; omega; exact ⟨hr.2.1, hr.2.2.2.1 (by omega)⟩
      refine rz_aload_n 3 d_Md_inside_58 rfl rfl ?_
      refine rz_iload_n 4 d_Md_inside_59 rfl rfl ?_
      refine rz_iload_n 5 d_Md_inside_60 rfl rfl ?_
      refine rz_iconst d_Md_inside_61 ?_
      refine rz_iload_n 2 d_Md_inside_62 rfl rfl ?_
      refine rz_iconst d_Md_inside_63 ?_
      refine rz_isub d_Md_inside_64 ?_
      refine rz_callV (As := [vi v, vi t, vi 1, vi ((M 1 t) - 1)]) (c_Md_ordered hM hw hv ht (by omega) (by omega) (by exact ver_nok kv) (by exact ver_nok kt3.2)) m_Md_149 hM.1 rfl rfl rfl rfl (Nat.le_of_ble_eq_true rfl) ⟨by decide, by decide⟩ ⟨by decide, by decide⟩ d_Md_inside_65 (kI (h := h) fun r3 h3 q3 => ?_)
      obtain ⟨rfl, M3, hM3, hT3, hF3⟩ := q3
      have hS3 := hT3
      have hw3 := mS2_wf hS3 hw
      have hG3 := rz_fr.rf.tr hF3
      have io3 := ordF_in (mAt M v) (mAt M t) (M 1 v) ((M 1 t) - 1) 13 0 1
      have io3 : -1 ≤ ord (mAt M v) (mAt M t) (M 1 v) 1 ((M 1 t) - 1) ∧ ord (mAt M v) (mAt M t) (M 1 v) 1 ((M 1 t) - 1) ≤ 1 := io3
      refine rz_if_ne 75 d_Md_inside_68 (by decide) (by omega) (fun c68 => ?_) (fun c68 => ?_)
      · refine rz_iconst d_Md_inside_75 ?_
        exact rz_zreturn (st := []) (ty := .boolean) rfl rfl d_Md_inside_76 ⟨by decide, by decide⟩ ⟨_, rfl, bi0 (by rw [inR, e_av, e_cv, if_neg (by omega), if_pos (by omega)]; simp; omega), M3, hM3, hS3, hG3⟩
      · refine rz_iconst d_Md_inside_71 ?_
        refine rz_goto 76 d_Md_inside_72 (by decide) ?_
        exact rz_zreturn (st := []) (ty := .boolean) rfl rfl d_Md_inside_76 ⟨by decide, by decide⟩ ⟨_, rfl, bi1 (by rw [inR, e_av, e_cv, if_neg (by omega), if_pos (by omega)]; simp; omega), M3, hM3, hS3, hG3⟩
  · refine rz_iload 1 d_Md_inside_22 rfl ?_
    refine rz_bipush (v := 91) d_Md_inside_24 (by decide) ?_
    refine rz_icmp_eq 53 d_Md_inside_26 (by decide) (by omega) ⟨by decide, by decide⟩ (fun c26 => ?_) (fun c26 => ?_)
    · exact J53 () (by omega)
    · refine rz_iload 1 d_Md_inside_29 rfl ?_
      refine rz_bipush (v := 40) d_Md_inside_31 (by decide) ?_
      refine rz_icmp_eq 53 d_Md_inside_33 (by decide) (by omega) ⟨by decide, by decide⟩ (fun c33 => ?_) (fun c33 => ?_)
      · exact J53 () (by omega)
      · have kt2 : ver (mAt M t) 0 (M 1 t) = true := by rcases hr with hr | hr; exact hr.2; omega
        refine rz_aload_n 3 d_Md_inside_36 rfl rfl ?_
        refine rz_iload_n 4 d_Md_inside_37 rfl rfl ?_
        refine rz_iload_n 5 d_Md_inside_38 rfl rfl ?_
        refine rz_iconst d_Md_inside_39 ?_
        refine rz_iload_n 2 d_Md_inside_40 rfl rfl ?_
        refine rz_callV (As := [vi v, vi t, vi 0, vi (M 1 t)]) (c_Md_ordered hM hw hv ht (by omega) (by omega) (by exact ver_nok kv) (by exact ver_nok kt2)) m_Md_149 hM.1 rfl rfl rfl rfl (Nat.le_of_ble_eq_true rfl) ⟨by decide, by decide⟩ ⟨by decide, by decide⟩ d_Md_inside_41 (kI (h := h) fun r4 h4 q4 => ?_)
        obtain ⟨rfl, M4, hM4, hT4, hF4⟩ := q4
        have hS4 := hT4
        have hw4 := mS2_wf hS4 hw
        have hG4 := rz_fr.rf.tr hF4
        have io4 := ordF_in (mAt M v) (mAt M t) (M 1 v) (M 1 t) 13 0 0
        have io4 : -1 ≤ ord (mAt M v) (mAt M t) (M 1 v) 0 (M 1 t) ∧ ord (mAt M v) (mAt M t) (M 1 v) 0 (M 1 t) ≤ 1 := io4
        refine rz_if_lt 51 d_Md_inside_44 (by decide) (by omega) (fun c44 => ?_) (fun c44 => ?_)
        · refine rz_iconst d_Md_inside_51 ?_
          exact rz_zreturn (st := []) (ty := .boolean) rfl rfl d_Md_inside_52 ⟨by decide, by decide⟩ ⟨_, rfl, bi0 (by rw [inR, e_av, if_pos (by omega)]; simp; omega), M4, hM4, hS4, hG4⟩
        · refine rz_iconst d_Md_inside_47 ?_
          refine rz_goto 52 d_Md_inside_48 (by decide) ?_
          exact rz_zreturn (st := []) (ty := .boolean) rfl rfl d_Md_inside_52 ⟨by decide, by decide⟩ ⟨_, rfl, bi1 (by rw [inR, e_av, if_pos (by omega)]; simp; omega), M4, hM4, hS4, hG4⟩
end
section
/-! the reference: what callers call, first group -/
def mUse (M : Nat → Int → Int) : Nat → Int → Int := mu M 1 (rz_u (M 1) 0 0)
theorem mS2_st {S M : Nat → Int → Int} (h : mS2 S M) {k : Nat} (h1 : k ≠ 17) (h2 : k ≠ 18) (i v : Int) : mS2 (mu S k (rz_u (S k) i v)) (mu M k (rz_u (M k) i v)) := fun j a b => by
  unfold mu
  split
  · rw [h k h1 h2]
  · exact h j a b
theorem mS2_sc {S M : Nat → Int → Int} (h : mS2 S M) (k : Nat) (g : Int → Int) : mS2 (mu S k g) (mu M k g) := fun j a b => by
  unfold mu
  split
  · rfl
  · exact h j a b
theorem mS2_use {S M : Nat → Int → Int} (h : mS2 S M) : mS2 (mUse S) (mu M 1 (rz_u (M 1) 0 0)) := mS2_st h (by decide) (by decide) 0 0
theorem mS2_keep {S M : Nat → Int → Int} (h : mS2 S M) (t : Int) : mS2 (mKeep S t) (mKeep M t) := by
  unfold mKeep
  have e : kpF M t 24 = kpF S t 24 := by
    funext j
    unfold kpF
    rw [h 0 (by decide) (by decide)]
  rw [e, h 1 (by decide) (by decide)]
  exact mS2_sc (mS2_sc h 0 _) 1 _
/-- every release has a version -/
def vOK (M : Nat → Int → Int) : Prop := ∀ p r, 0 ≤ p → p < 6 → 0 ≤ r → r < M 2 p → ver (mAt M (6 + 4 * p + r)) 0 (M 1 (6 + 4 * p + r)) = true
theorem vOK_S2 {M M' : Nat → Int → Int} (h : mS2 M M') (hv : vOK M) : vOK M' := by
  intro p r h1 h2 h3 h4
  rw [mS2_at h, h 1 (by decide) (by decide)]
  rw [h 2 (by decide) (by decide)] at h4
  exact hv p r h1 h2 h3 h4
theorem mNone_f {M : Nat → Int → Int} {p r : Int} (h : mNone M p r = false) : (0 ≤ p ∧ p ≤ 5) ∧ 0 ≤ r ∧ r ≤ M 2 p - 1 := by
  simp only [mNone, Bool.or_eq_false_iff, Bool.not_eq_false', mIn_t] at h
  exact h
abbrev rm_Md_compareTexts : Room := { frames := 6, cells := 0, slots := 0, locals := 157 }
set_option maxRecDepth 100000 in
set_option maxHeartbeats 4000000 in
theorem c_Md_compareTexts {l : Launch} {Γ : rz_G} {h : rz_H} {x : Nat} {ad : Nat → Nat} {M : Nat → Int → Int} (hM : MdAt Γ h x ad M) (hw : mWF M) {t u : Int} (ht : 0 ≤ t ∧ t < 126) (hu : 0 ≤ u ∧ u < 126) (kt : ver (mAt M t) 0 (M 1 t) = true) (ku : ver (mAt M u) 0 (M 1 u) = true) : Ct l Γ x_Md_compareTexts y_Md_compareTexts rm_Md_compareTexts [.ref x, vi t, vi u] h (pI (fun r' h' => r' = ord (mAt M t) (mAt M u) (M 1 t) 0 (M 1 u) ∧ ∃ M', MdAt Γ h' x ad M' ∧ mS2 M M' ∧ rz_fr [10, 11] h h')) := by
  refine rz_met (by decide) rfl rfl (Nat.le_of_ble_eq_true rfl) (fun K _ => ?_)
  refine rz_Leq [(0, .ref x), (1, vi t), (2, vi u)] rfl ?_
  have hlen := hw.1 u hu.1 hu.2
  refine rz_aload_n 0 d_Md_compareTexts_0 rfl rfl ?_
  refine rz_iload_n 1 d_Md_compareTexts_1 rfl rfl ?_
  refine rz_iload_n 2 d_Md_compareTexts_2 rfl rfl ?_
  refine rz_iconst d_Md_compareTexts_3 ?_
  refine rz_aload_n 0 d_Md_compareTexts_4 rfl rfl ?_
  refine rz_getf f_Md_13 hM.1 rfl d_Md_compareTexts_5 ?_
  refine rz_iload_n 2 d_Md_compareTexts_8 rfl rfl ?_
  refine rz_iaload (md_a1 hM) (by decide) (by omega) d_Md_compareTexts_9 ?_
  refine rz_callV (As := [vi t, vi u, vi 0, vi (M 1 u)]) (c_Md_ordered hM hw ht hu (by omega) (by omega) (by exact ver_nok kt) (by exact ver_nok ku)) m_Md_149 hM.1 rfl rfl rfl rfl (Nat.le_of_ble_eq_true rfl) ⟨by decide, by decide⟩ ⟨by decide, by decide⟩ d_Md_compareTexts_10 (kI (h := h) fun r1 h1 q1 => ?_)
  obtain ⟨rfl, M1, hM1, hT1, hF1⟩ := q1
  have hS1 := (mS2.rf (M := M)).tr hT1
  have hw1 := mS2_wf hS1 hw
  have hG1 := (rz_fr.rf (rs := [10, 11]) (h := h)).tr hF1
  exact rz_ireturn (st := []) rfl d_Md_compareTexts_13 ⟨by decide, by decide⟩ ⟨_, rfl, rfl, M1, hM1, hS1, hG1⟩
def sp_compare (M : Nat → Int → Int) (p r o r2 : Int) : Int := if (mNone M p r || mNone M o r2) = true then -9 else ord (mAt M (6 + 4 * p + r)) (mAt M (6 + 4 * o + r2)) (M 1 (6 + 4 * p + r)) 0 (M 1 (6 + 4 * o + r2))
abbrev rm_Md_compare : Room := { frames := 7, cells := 0, slots := 0, locals := 179 }
set_option maxRecDepth 100000 in
set_option maxHeartbeats 4000000 in
theorem c_Md_compare {l : Launch} {Γ : rz_G} {h : rz_H} {x : Nat} {ad : Nat → Nat} {M : Nat → Int → Int} (hM : MdAt Γ h x ad M) (hw : mWF M) (hv : vOK M) {p r o r2 : Int} (rp : -2147483648 ≤ p ∧ p ≤ 2147483647) (rr : -2147483648 ≤ r ∧ r ≤ 2147483647) (ro : -2147483648 ≤ o ∧ o ≤ 2147483647) (rr2 : -2147483648 ≤ r2 ∧ r2 ≤ 2147483647) : Ct l Γ x_Md_compare y_Md_compare rm_Md_compare [.ref x, vi p, vi r, vi o, vi r2] h (pI (fun r' h' => r' = sp_compare M p r o r2 ∧ ∃ M', MdAt Γ h' x ad M' ∧ mS2 M M' ∧ rz_fr [10, 11] h h')) := by
  refine rz_met (by decide) rfl rfl (Nat.le_of_ble_eq_true rfl) (fun K _ => ?_)
  refine rz_Leq [(0, .ref x), (1, vi p), (2, vi r), (3, vi o), (4, vi r2)] rfl ?_
  refine rz_aload_n 0 d_Md_compare_0 rfl rfl ?_
  refine rz_iload_n 1 d_Md_compare_1 rfl rfl ?_
  refine rz_iload_n 2 d_Md_compare_2 rfl rfl ?_
  refine rz_callV (As := [vi p, vi r]) (c_Md_none hM hw (by omega) (by omega)) m_Md_160 hM.1 rfl rfl rfl rfl (Nat.le_of_ble_eq_true rfl) ⟨by decide, by decide⟩ ⟨by decide, by decide⟩ d_Md_compare_3 (kE (h := h) ?_)
  refine rz_if_neB 19 d_Md_compare_6 (by decide) (fun c6 => ?_) (fun c6 => ?_)
  · refine rz_bipush (v := (-9)) d_Md_compare_19 (by decide) ?_
    exact rz_ireturn (st := []) rfl d_Md_compare_21 ⟨by decide, by decide⟩ ⟨_, rfl, (by rw [sp_compare, if_pos (by simp [*])]), M, hM, (mS2.rf (M := M)), (rz_fr.rf (rs := [10, 11]) (h := h))⟩
  · refine rz_aload_n 0 d_Md_compare_9 rfl rfl ?_
    refine rz_iload_n 3 d_Md_compare_10 rfl rfl ?_
    refine rz_iload 4 d_Md_compare_11 rfl ?_
    refine rz_callV (As := [vi o, vi r2]) (c_Md_none hM hw (by omega) (by omega)) m_Md_160 hM.1 rfl rfl rfl rfl (Nat.le_of_ble_eq_true rfl) ⟨by decide, by decide⟩ ⟨by decide, by decide⟩ d_Md_compare_13 (kE (h := h) ?_)
    refine rz_if_eqB 22 d_Md_compare_16 (by decide) (fun c16 => ?_) (fun c16 => ?_)
    · have n1 := mNone_f c6
      have n2 := mNone_f c16
      have l1 := hw.2.2.1 p (by omega) (by omega)
      have l2 := hw.2.2.1 o (by omega) (by omega)
      refine rz_bipush (v := 6) d_Md_compare_22 (by decide) ?_
      refine rz_iconst d_Md_compare_24 ?_
      refine rz_iload_n 3 d_Md_compare_25 rfl rfl ?_
      refine rz_imul d_Md_compare_26 ?_
      refine rz_iadd d_Md_compare_27 ?_
      refine rz_iload 4 d_Md_compare_28 rfl ?_
      refine rz_iadd d_Md_compare_30 ?_
      refine rz_istore [(5, vi ((6 + (4 * o)) + r2)), (0, .ref x), (1, vi p), (2, vi r), (3, vi o), (4, vi r2)] d_Md_compare_31 (by decide) rfl ?_
      refine rz_aload_n 1 d_Md_compare_33 rfl rfl ?_
      refine rz_bipush (v := 6) d_Md_compare_34 (by decide) ?_
      refine rz_iconst d_Md_compare_36 ?_
      refine rz_iload_n 2 d_Md_compare_37 rfl rfl ?_
      refine rz_imul d_Md_compare_38 ?_
      refine rz_iadd d_Md_compare_39 ?_
      refine rz_iload_n 3 d_Md_compare_40 rfl rfl ?_
      refine rz_iadd d_Md_compare_41 ?_
      refine rz_iload 0 d_Md_compare_42 rfl ?_
      refine rz_callV (As := [vi ((6 + (4 * p)) + r), vi ((6 + (4 * o)) + r2)]) (c_Md_compareTexts hM hw (by omega) (by omega) (by exact hv p r (by omega) (by omega) (by omega) (by omega)) (by exact hv o r2 (by omega) (by omega) (by omega) (by omega))) m_Md_170 hM.1 rfl rfl rfl rfl (Nat.le_of_ble_eq_true rfl) ⟨by decide, by decide⟩ ⟨by decide, by decide⟩ d_Md_compare_44 (kI (h := h) fun r1 h1 q1 => ?_)
      obtain ⟨rfl, M1, hM1, hT1, hF1⟩ := q1
      have hS1 := (mS2.rf (M := M)).tr hT1
      have hw1 := mS2_wf hS1 hw
      have hG1 := (rz_fr.rf (rs := [10, 11]) (h := h)).tr hF1
      exact rz_ireturn (st := []) rfl d_Md_compare_47 ⟨by decide, by decide⟩ ⟨_, rfl, (by rw [sp_compare, if_neg (by simp [*])]), M1, hM1, hS1, hG1⟩
    · refine rz_bipush (v := (-9)) d_Md_compare_19 (by decide) ?_
      exact rz_ireturn (st := []) rfl d_Md_compare_21 ⟨by decide, by decide⟩ ⟨_, rfl, (by rw [sp_compare, if_pos (by simp [*])]), M, hM, (mS2.rf (M := M)), (rz_fr.rf (rs := [10, 11]) (h := h))⟩
def sp_host (M : Nat → Int → Int) : Int × (Nat → Int → Int) := if ver (mAt M 0) 0 (M 1 0) = true then (0, mUse (mKeep M 1)) else (-3, mUse M)
abbrev rm_Md_host : Room := { frames := 3, cells := 0, slots := 0, locals := 72 }
set_option maxRecDepth 100000 in
set_option maxHeartbeats 4000000 in
theorem c_Md_host {l : Launch} {Γ : rz_G} {h : rz_H} {x : Nat} {ad : Nat → Nat} {M : Nat → Int → Int} (hM : MdAt Γ h x ad M) (hw : mWF M) : Ct l Γ x_Md_host y_Md_host rm_Md_host [.ref x] h (pI (fun r' h' => r' = (sp_host M).1 ∧ ∃ M', MdAt Γ h' x ad M' ∧ mS2 (sp_host M).2 M' ∧ rz_fr [10, 11] h h')) := by
  refine rz_met (by decide) rfl rfl (Nat.le_of_ble_eq_true rfl) (fun K _ => ?_)
  refine rz_Leq [(0, .ref x)] rfl ?_
  have hlen := hw.1 0 (by omega) (by omega)
  refine rz_aload_n 0 d_Md_host_0 rfl rfl ?_
  refine rz_iconst d_Md_host_1 ?_
  refine rz_iconst d_Md_host_2 ?_
  refine rz_aload_n 0 d_Md_host_3 rfl rfl ?_
  refine rz_getf f_Md_13 hM.1 rfl d_Md_host_4 ?_
  refine rz_iconst d_Md_host_7 ?_
  refine rz_iaload (md_a1 hM) (by decide) (by omega) d_Md_host_8 ?_
  refine rz_callV (As := [vi 0, vi 0, vi (M 1 0)]) (c_Md_version hM hw (by omega) (by omega) (by omega)) m_Md_143 hM.1 rfl rfl rfl rfl (Nat.le_of_ble_eq_true rfl) ⟨by decide, by decide⟩ ⟨by decide, by decide⟩ d_Md_host_9 (kE (h := h) ?_)
  refine rz_if_neB 22 d_Md_host_12 (by decide) (fun c12 => ?_) (fun c12 => ?_)
  · refine rz_aload_n 0 d_Md_host_22 rfl rfl ?_
    refine rz_iconst d_Md_host_23 ?_
    refine rz_callV (As := [vi 1]) (c_Md_keep hM (by omega)) m_Md_156 hM.1 rfl rfl rfl rfl (Nat.le_of_ble_eq_true rfl) ⟨by decide, by decide⟩ ⟨by decide, by decide⟩ d_Md_host_24 (kV (h := h) fun h1 q1 => ?_)
    obtain ⟨hM1, hF1⟩ := q1
    obtain ⟨M1, eM1⟩ : ∃ z, z = mKeep M 1 := ⟨_, rfl⟩
    rw [← eM1] at hM1
    have hS1 : mS2 (mKeep M 1) M1 := by rw [eM1]; exact mS2_keep (mS2.rf (M := M)) 1
    have hG1 := (rz_fr.rf (rs := [10, 11]) (h := h)).tr hF1
    refine rz_aload_n 0 d_Md_host_27 rfl rfl ?_
    refine rz_iconst d_Md_host_28 ?_
    refine rz_callV (As := [vi 0]) (c_Md_used hM1) m_Md_153 hM1.1 rfl rfl rfl rfl (Nat.le_of_ble_eq_true rfl) ⟨by decide, by decide⟩ ⟨by decide, by decide⟩ d_Md_host_29 (kI (h := h1) fun r2 h2 q2 => ?_)
    obtain ⟨rfl, hM2, hF2⟩ := q2
    have hS2 := mS2_use hS1
    have hG2 := hG1.tr hF2
    exact rz_ireturn (st := []) rfl d_Md_host_32 ⟨by decide, by decide⟩ ⟨_, rfl, (by rw [sp_host, if_pos c12]), (mu M1 1 (rz_u (M1 1) 0 0)), hM2, (by rw [sp_host, if_pos c12]; exact hS2), hG2⟩
  · refine rz_aload_n 0 d_Md_host_15 rfl rfl ?_
    refine rz_bipush (v := (-3)) d_Md_host_16 (by decide) ?_
    refine rz_callV (As := [vi (-3)]) (c_Md_used hM) m_Md_153 hM.1 rfl rfl rfl rfl (Nat.le_of_ble_eq_true rfl) ⟨by decide, by decide⟩ ⟨by decide, by decide⟩ d_Md_host_18 (kI (h := h) fun r3 h3 q3 => ?_)
    obtain ⟨rfl, hM3, hF3⟩ := q3
    have hS3 := mS2_use (mS2.rf (M := M))
    have hG3 := (rz_fr.rf (rs := [10, 11]) (h := h)).tr hF3
    exact rz_ireturn (st := []) rfl d_Md_host_21 ⟨by decide, by decide⟩ ⟨_, rfl, (by rw [sp_host, if_neg (by simp [*])]), (mu M 1 (rz_u (M 1) 0 0)), hM3, (by rw [sp_host, if_neg (by simp [*])]; exact hS3), hG3⟩
def sp_withdraw (M : Nat → Int → Int) (p r : Int) (on : Bool) : Int × (Nat → Int → Int) := if mNone M p r = true then (-1, M) else (0, mu M 3 (rz_u (M 3) (4 * p + r) (bi on)))
abbrev rm_Md_withdraw : Room := { frames := 2, cells := 0, slots := 0, locals := 44 }
set_option maxRecDepth 100000 in
set_option maxHeartbeats 4000000 in
theorem c_Md_withdraw {l : Launch} {Γ : rz_G} {h : rz_H} {x : Nat} {ad : Nat → Nat} {M : Nat → Int → Int} (hM : MdAt Γ h x ad M) (hw : mWF M) {p r : Int} {on : Bool} (rp : -2147483648 ≤ p ∧ p ≤ 2147483647) (rr : -2147483648 ≤ r ∧ r ≤ 2147483647) : Ct l Γ x_Md_withdraw y_Md_withdraw rm_Md_withdraw [.ref x, vi p, vi r, vi (bi on)] h (pI (fun r' h' => r' = (sp_withdraw M p r on).1 ∧ ∃ M', MdAt Γ h' x ad M' ∧ mS2 (sp_withdraw M p r on).2 M' ∧ rz_fr [10, 11] h h')) := by
  refine rz_met (by decide) rfl rfl (Nat.le_of_ble_eq_true rfl) (fun K _ => ?_)
  refine rz_Leq [(0, .ref x), (1, vi p), (2, vi r), (3, vi (bi on))] rfl ?_
  refine rz_aload_n 0 d_Md_withdraw_0 rfl rfl ?_
  refine rz_iload_n 1 d_Md_withdraw_1 rfl rfl ?_
  refine rz_iload_n 2 d_Md_withdraw_2 rfl rfl ?_
  refine rz_callV (As := [vi p, vi r]) (c_Md_none hM hw (by omega) (by omega)) m_Md_160 hM.1 rfl rfl rfl rfl (Nat.le_of_ble_eq_true rfl) ⟨by decide, by decide⟩ ⟨by decide, by decide⟩ d_Md_withdraw_3 (kE (h := h) ?_)
  refine rz_if_eqB 11 d_Md_withdraw_6 (by decide) (fun c6 => ?_) (fun c6 => ?_)
  · have n1 := mNone_f c6
    have l1 := hw.2.2.1 p (by omega) (by omega)
    refine rz_aload_n 0 d_Md_withdraw_11 rfl rfl ?_
    refine rz_getf f_Md_19 hM.1 rfl d_Md_withdraw_12 ?_
    refine rz_iconst d_Md_withdraw_15 ?_
    refine rz_iload_n 1 d_Md_withdraw_16 rfl rfl ?_
    refine rz_imul d_Md_withdraw_17 ?_
    refine rz_iload_n 2 d_Md_withdraw_18 rfl rfl ?_
    refine rz_iadd d_Md_withdraw_19 ?_
    refine rz_iload_n 3 d_Md_withdraw_20 rfl rfl ?_
    refine md_st3 hM (rz_fr.rf (rs := [10, 11]) (h := h)) (by omega) (bi01 _) d_Md_withdraw_21 (fun h1 hM1 hF1 => ?_)
    obtain ⟨M1, eM1⟩ : ∃ z, z = mu M 3 (rz_u (M 3) ((4 * p) + r) (bi on)) := ⟨_, rfl⟩
    rw [← eM1] at hM1
    have hS1 : mS2 (mu M 3 (rz_u (M 3) ((4 * p) + r) (bi on))) M1 := by rw [eM1]; exact mS2_st (mS2.rf (M := M)) (by decide) (by decide) _ _
    refine rz_iconst d_Md_withdraw_22 ?_
    exact rz_ireturn (st := []) rfl d_Md_withdraw_23 ⟨by decide, by decide⟩ ⟨_, rfl, (by rw [sp_withdraw, if_neg (by simp [*])]), M1, hM1, (by rw [sp_withdraw, if_neg (by simp [*])]; exact hS1), hF1⟩
  · refine rz_iconst d_Md_withdraw_9 ?_
    exact rz_ireturn (st := []) rfl d_Md_withdraw_10 ⟨by decide, by decide⟩ ⟨_, rfl, (by rw [sp_withdraw, if_pos c6]), M, hM, (by rw [sp_withdraw, if_pos c6]; exact (mS2.rf (M := M))), (rz_fr.rf (rs := [10, 11]) (h := h))⟩
def sp_within (M : Nat → Int → Int) (p r : Int) : Int × (Nat → Int → Int) := if mNone M p r = true then (-1, M) else if rng (mAt M 0) (M 1 0) = true then (bi (inR (mAt M (6 + 4 * p + r)) (M 1 (6 + 4 * p + r)) (mAt M 0) (M 1 0)), mUse M) else (-3, mUse M)
abbrev rm_Md_within : Room := { frames := 7, cells := 0, slots := 0, locals := 184 }
set_option maxRecDepth 100000 in
set_option maxHeartbeats 4000000 in
theorem c_Md_within {l : Launch} {Γ : rz_G} {h : rz_H} {x : Nat} {ad : Nat → Nat} {M : Nat → Int → Int} (hM : MdAt Γ h x ad M) (hw : mWF M) (hv : vOK M) {p r : Int} (rp : -2147483648 ≤ p ∧ p ≤ 2147483647) (rr : -2147483648 ≤ r ∧ r ≤ 2147483647) : Ct l Γ x_Md_within y_Md_within rm_Md_within [.ref x, vi p, vi r] h (pI (fun r' h' => r' = (sp_within M p r).1 ∧ ∃ M', MdAt Γ h' x ad M' ∧ mS2 (sp_within M p r).2 M' ∧ rz_fr [10, 11] h h')) := by
  refine rz_met (by decide) rfl rfl (Nat.le_of_ble_eq_true rfl) (fun K _ => ?_)
  refine rz_Leq [(0, .ref x), (1, vi p), (2, vi r)] rfl ?_
  refine rz_aload_n 0 d_Md_within_0 rfl rfl ?_
  refine rz_iload_n 1 d_Md_within_1 rfl rfl ?_
  refine rz_iload_n 2 d_Md_within_2 rfl rfl ?_
  refine rz_callV (As := [vi p, vi r]) (c_Md_none hM hw (by omega) (by omega)) m_Md_160 hM.1 rfl rfl rfl rfl (Nat.le_of_ble_eq_true rfl) ⟨by decide, by decide⟩ ⟨by decide, by decide⟩ d_Md_within_3 (kE (h := h) ?_)
  refine rz_if_eqB 11 d_Md_within_6 (by decide) (fun c6 => ?_) (fun c6 => ?_)
  · have n1 := mNone_f c6
    have l1 := hw.2.2.1 p (by omega) (by omega)
    refine rz_aload_n 0 d_Md_within_11 rfl rfl ?_
    refine rz_iconst d_Md_within_12 ?_
    refine rz_callV (As := [vi 0]) (c_Md_range hM hw (by omega)) m_Md_164 hM.1 rfl rfl rfl rfl (Nat.le_of_ble_eq_true rfl) ⟨by decide, by decide⟩ ⟨by decide, by decide⟩ d_Md_within_13 (kE (h := h) ?_)
    refine rz_if_neB 26 d_Md_within_16 (by decide) (fun c16 => ?_) (fun c16 => ?_)
    · refine rz_aload_n 0 d_Md_within_26 rfl rfl ?_
      refine rz_aload_n 0 d_Md_within_27 rfl rfl ?_
      refine rz_bipush (v := 6) d_Md_within_28 (by decide) ?_
      refine rz_iconst d_Md_within_30 ?_
      refine rz_iload_n 1 d_Md_within_31 rfl rfl ?_
      refine rz_imul d_Md_within_32 ?_
      refine rz_iadd d_Md_within_33 ?_
      refine rz_iload_n 2 d_Md_within_34 rfl rfl ?_
      refine rz_iadd d_Md_within_35 ?_
      refine rz_iconst d_Md_within_36 ?_
      refine rz_callV (As := [vi ((6 + (4 * p)) + r), vi 0]) (c_Md_inside hM hw (by omega) (by omega) (by exact hv p r (by omega) (by omega) (by omega) (by omega)) (by exact c16)) m_Md_173 hM.1 rfl rfl rfl rfl (Nat.le_of_ble_eq_true rfl) ⟨by decide, by decide⟩ ⟨by decide, by decide⟩ d_Md_within_37 (kI (h := h) fun r1 h1 q1 => ?_)
      obtain ⟨rfl, M1, hM1, hT1, hF1⟩ := q1
      have hS1 := (mS2.rf (M := M)).tr hT1
      have hw1 := mS2_wf hS1 hw
      have hG1 := (rz_fr.rf (rs := [10, 11]) (h := h)).tr hF1
      refine rz_if_eqB 47 d_Md_within_40 (by decide) (fun c40 => ?_) (fun c40 => ?_)
      · refine rz_iconst d_Md_within_47 ?_
        refine rz_callV (As := [vi 0]) (c_Md_used hM1) m_Md_153 hM1.1 rfl rfl rfl rfl (Nat.le_of_ble_eq_true rfl) ⟨by decide, by decide⟩ ⟨by decide, by decide⟩ d_Md_within_48 (kI (h := h1) fun r2 h2 q2 => ?_)
        obtain ⟨rfl, hM2, hF2⟩ := q2
        have hS2 := mS2_use hS1
        have hG2 := hG1.tr hF2
        exact rz_ireturn (st := []) rfl d_Md_within_51 ⟨by decide, by decide⟩ ⟨_, rfl, (by rw [sp_within, if_neg (by simp [*]), if_pos c16]; show _ = bi (inR _ _ _ _); rw [c40]; rfl), (mu M1 1 (rz_u (M1 1) 0 0)), hM2, (by rw [sp_within, if_neg (by simp [*]), if_pos c16]; exact hS2), hG2⟩
      · refine rz_iconst d_Md_within_43 ?_
        refine rz_goto 48 d_Md_within_44 (by decide) ?_
        refine rz_callV (As := [vi 1]) (c_Md_used hM1) m_Md_153 hM1.1 rfl rfl rfl rfl (Nat.le_of_ble_eq_true rfl) ⟨by decide, by decide⟩ ⟨by decide, by decide⟩ d_Md_within_48 (kI (h := h1) fun r3 h3 q3 => ?_)
        obtain ⟨rfl, hM3, hF3⟩ := q3
        have hS3 := mS2_use hS1
        have hG3 := hG1.tr hF3
        exact rz_ireturn (st := []) rfl d_Md_within_51 ⟨by decide, by decide⟩ ⟨_, rfl, (by rw [sp_within, if_neg (by simp [*]), if_pos c16]; show _ = bi (inR _ _ _ _); rw [c40]; rfl), (mu M1 1 (rz_u (M1 1) 0 0)), hM3, (by rw [sp_within, if_neg (by simp [*]), if_pos c16]; exact hS3), hG3⟩
    · refine rz_aload_n 0 d_Md_within_19 rfl rfl ?_
      refine rz_bipush (v := (-3)) d_Md_within_20 (by decide) ?_
      refine rz_callV (As := [vi (-3)]) (c_Md_used hM) m_Md_153 hM.1 rfl rfl rfl rfl (Nat.le_of_ble_eq_true rfl) ⟨by decide, by decide⟩ ⟨by decide, by decide⟩ d_Md_within_22 (kI (h := h) fun r4 h4 q4 => ?_)
      obtain ⟨rfl, hM4, hF4⟩ := q4
      have hS4 := mS2_use (mS2.rf (M := M))
      have hG4 := (rz_fr.rf (rs := [10, 11]) (h := h)).tr hF4
      exact rz_ireturn (st := []) rfl d_Md_within_25 ⟨by decide, by decide⟩ ⟨_, rfl, (by rw [sp_within, if_neg (by simp [*]), if_neg (by simp [*])]), (mu M 1 (rz_u (M 1) 0 0)), hM4, (by rw [sp_within, if_neg (by simp [*]), if_neg (by simp [*])]; exact hS4), hG4⟩
  · refine rz_iconst d_Md_within_9 ?_
    exact rz_ireturn (st := []) rfl d_Md_within_10 ⟨by decide, by decide⟩ ⟨_, rfl, (by rw [sp_within, if_pos c6]), M, hM, (by rw [sp_within, if_pos c6]; exact (mS2.rf (M := M))), (rz_fr.rf (rs := [10, 11]) (h := h))⟩
end
section
/-! the reference: what callers call, second group -/
def sp_ask (M : Nat → Int → Int) (p : Int) : Int × (Nat → Int → Int) := if mIn p 0 5 = true then (if rng (mAt M 0) (M 1 0) = true then (if M 8 0 = 4 then (-2, mUse M) else (M 8 0, mUse (mu (mu (mKeep M (2 + M 8 0)) 9 (rz_u (M 9) (M 8 0) p)) 8 (fun _ => M 8 0 + 1)))) else (-3, mUse M)) else (-1, M)
abbrev rm_Md_ask : Room := { frames := 4, cells := 0, slots := 0, locals := 97 }
set_option maxRecDepth 100000 in
set_option maxHeartbeats 4000000 in
theorem c_Md_ask {l : Launch} {Γ : rz_G} {h : rz_H} {x : Nat} {ad : Nat → Nat} {M : Nat → Int → Int} (hM : MdAt Γ h x ad M) (hw : mWF M) {p : Int} (rp : -2147483648 ≤ p ∧ p ≤ 2147483647) : Ct l Γ x_Md_ask y_Md_ask rm_Md_ask [.ref x, vi p] h (pI (fun r' h' => r' = (sp_ask M p).1 ∧ ∃ M', MdAt Γ h' x ad M' ∧ mS2 (sp_ask M p).2 M' ∧ rz_fr [10, 11] h h')) := by
  refine rz_met (by decide) rfl rfl (Nat.le_of_ble_eq_true rfl) (fun K _ => ?_)
  refine rz_Leq [(0, .ref x), (1, vi p)] rfl ?_
  have l8 := hw.2.2.2.2.2.1
  refine rz_iload_n 1 d_Md_ask_0 rfl rfl ?_
  refine rz_iconst d_Md_ask_1 ?_
  refine rz_iconst d_Md_ask_2 ?_
  refine rz_callS (As := [vi p, vi 0, vi 5]) (c_Md_in (by omega) ⟨by decide, by decide⟩ ⟨by decide, by decide⟩) m_Md_56 rfl rfl (Nat.le_of_ble_eq_true rfl) ⟨by decide, by decide⟩ ⟨by decide, by decide⟩ d_Md_ask_3 (kE (h := h) ?_)
  refine rz_if_neB 11 d_Md_ask_6 (by decide) (fun c6 => ?_) (fun c6 => ?_)
  · refine rz_aload_n 0 d_Md_ask_11 rfl rfl ?_
    refine rz_iconst d_Md_ask_12 ?_
    refine rz_callV (As := [vi 0]) (c_Md_range hM hw (by omega)) m_Md_164 hM.1 rfl rfl rfl rfl (Nat.le_of_ble_eq_true rfl) ⟨by decide, by decide⟩ ⟨by decide, by decide⟩ d_Md_ask_13 (kE (h := h) ?_)
    refine rz_if_neB 26 d_Md_ask_16 (by decide) (fun c16 => ?_) (fun c16 => ?_)
    · refine rz_aload_n 0 d_Md_ask_26 rfl rfl ?_
      refine rz_getf f_Md_167 hM.1 rfl d_Md_ask_27 ?_
      refine rz_iconst d_Md_ask_30 ?_
      refine rz_icmp_ne 41 d_Md_ask_31 (by decide) (by omega) ⟨by decide, by decide⟩ (fun c31 => ?_) (fun c31 => ?_)
      · refine rz_aload_n 0 d_Md_ask_41 rfl rfl ?_
        refine rz_iconst d_Md_ask_42 ?_
        refine rz_aload_n 0 d_Md_ask_43 rfl rfl ?_
        refine rz_getf f_Md_167 hM.1 rfl d_Md_ask_44 ?_
        refine rz_iadd d_Md_ask_47 ?_
        refine rz_callV (As := [vi (2 + (M 8 0))]) (c_Md_keep hM (by omega)) m_Md_156 hM.1 rfl rfl rfl rfl (Nat.le_of_ble_eq_true rfl) ⟨by decide, by decide⟩ ⟨by decide, by decide⟩ d_Md_ask_48 (kV (h := h) fun h1 q1 => ?_)
        obtain ⟨hM1, hF1⟩ := q1
        obtain ⟨M1, eM1⟩ : ∃ z, z = mKeep M (2 + (M 8 0)) := ⟨_, rfl⟩
        rw [← eM1] at hM1
        have hS1 : mS2 (mKeep M (2 + (M 8 0))) M1 := by rw [eM1]; exact mS2_keep (mS2.rf (M := M)) (2 + (M 8 0))
        have hG1 := (rz_fr.rf (rs := [10, 11]) (h := h)).tr hF1
        refine rz_aload_n 0 d_Md_ask_51 rfl rfl ?_
        refine rz_getf f_Md_35 hM1.1 rfl d_Md_ask_52 ?_
        refine rz_aload_n 0 d_Md_ask_55 rfl rfl ?_
        refine rz_getf f_Md_167 hM1.1 rfl d_Md_ask_56 ?_
        rw [hS1 8 (by decide) (by decide)]
        refine rz_Seq [vi (M 8 0), .ref (ad 9)] rfl ?_
        refine rz_iload_n 1 d_Md_ask_59 rfl rfl ?_
        refine md_st9 hM1 hG1 (by omega) d_Md_ask_60 (fun h2 hM2 hF2 => ?_)
        obtain ⟨M2, eM2⟩ : ∃ z, z = mu M1 9 (rz_u (M1 9) (M 8 0) p) := ⟨_, rfl⟩
        rw [← eM2] at hM2
        have hS2 : mS2 (mu (mKeep M (2 + (M 8 0))) 9 (rz_u ((mKeep M (2 + (M 8 0))) 9) (M 8 0) p)) M2 := by rw [eM2]; exact mS2_st hS1 (by decide) (by decide) _ _
        refine rz_aload_n 0 d_Md_ask_61 rfl rfl ?_
        refine rz_dup d_Md_ask_62 rfl ?_
        refine rz_getf f_Md_167 hM2.1 rfl d_Md_ask_63 ?_
        rw [hS2 8 (by decide) (by decide)]
        refine rz_Seq [vi (M 8 0), .ref x] rfl ?_
        refine rz_iconst d_Md_ask_66 ?_
        refine rz_iadd d_Md_ask_67 ?_
        refine md_ps8 hM2 hF2 (fp_Md_167 _) d_Md_ask_68 (fun h3 hM3 hF3 => ?_)
        obtain ⟨M3, eM3⟩ : ∃ z, z = mu M2 8 (fun _ => (M 8 0) + 1) := ⟨_, rfl⟩
        rw [← eM3] at hM3
        have hS3 : mS2 (mu (mu (mKeep M (2 + (M 8 0))) 9 (rz_u ((mKeep M (2 + (M 8 0))) 9) (M 8 0) p)) 8 (fun _ => (M 8 0) + 1)) M3 := by rw [eM3]; exact mS2_sc hS2 _ _
        refine rz_aload_n 0 d_Md_ask_71 rfl rfl ?_
        refine rz_aload_n 0 d_Md_ask_72 rfl rfl ?_
        refine rz_getf f_Md_167 hM3.1 rfl d_Md_ask_73 ?_
        rw [hS3 8 (by decide) (by decide)]
        refine rz_Seq [vi ((M 8 0) + 1), .ref x] rfl ?_
        refine rz_iconst d_Md_ask_76 ?_
        refine rz_isub d_Md_ask_77 ?_
        refine rz_callV (As := [vi (((M 8 0) + 1) - 1)]) (c_Md_used hM3) m_Md_153 hM3.1 rfl rfl rfl rfl (Nat.le_of_ble_eq_true rfl) ⟨by decide, by decide⟩ ⟨by decide, by decide⟩ d_Md_ask_78 (kI (h := h3) fun r4 h4 q4 => ?_)
        obtain ⟨rfl, hM4, hF4⟩ := q4
        have hS4 := mS2_use hS3
        have hG4 := hF3.tr hF4
        exact rz_ireturn (st := []) rfl d_Md_ask_81 ⟨by decide, by decide⟩ ⟨_, rfl, (by rw [sp_ask, if_pos c6, if_pos c16, if_neg c31]; show _ = M 8 0; omega), (mu M3 1 (rz_u (M3 1) 0 0)), hM4, (by rw [sp_ask, if_pos c6, if_pos c16, if_neg c31]; exact hS4), hG4⟩
      · refine rz_aload_n 0 d_Md_ask_34 rfl rfl ?_
        refine rz_bipush (v := (-2)) d_Md_ask_35 (by decide) ?_
        refine rz_callV (As := [vi (-2)]) (c_Md_used hM) m_Md_153 hM.1 rfl rfl rfl rfl (Nat.le_of_ble_eq_true rfl) ⟨by decide, by decide⟩ ⟨by decide, by decide⟩ d_Md_ask_37 (kI (h := h) fun r5 h5 q5 => ?_)
        obtain ⟨rfl, hM5, hF5⟩ := q5
        have hS5 := mS2_use (mS2.rf (M := M))
        have hG5 := (rz_fr.rf (rs := [10, 11]) (h := h)).tr hF5
        exact rz_ireturn (st := []) rfl d_Md_ask_40 ⟨by decide, by decide⟩ ⟨_, rfl, (by rw [sp_ask, if_pos c6, if_pos c16, if_pos c31]), (mu M 1 (rz_u (M 1) 0 0)), hM5, (by rw [sp_ask, if_pos c6, if_pos c16, if_pos c31]; exact hS5), hG5⟩
    · refine rz_aload_n 0 d_Md_ask_19 rfl rfl ?_
      refine rz_bipush (v := (-3)) d_Md_ask_20 (by decide) ?_
      refine rz_callV (As := [vi (-3)]) (c_Md_used hM) m_Md_153 hM.1 rfl rfl rfl rfl (Nat.le_of_ble_eq_true rfl) ⟨by decide, by decide⟩ ⟨by decide, by decide⟩ d_Md_ask_22 (kI (h := h) fun r6 h6 q6 => ?_)
      obtain ⟨rfl, hM6, hF6⟩ := q6
      have hS6 := mS2_use (mS2.rf (M := M))
      have hG6 := (rz_fr.rf (rs := [10, 11]) (h := h)).tr hF6
      exact rz_ireturn (st := []) rfl d_Md_ask_25 ⟨by decide, by decide⟩ ⟨_, rfl, (by rw [sp_ask, if_pos c6, if_neg (by simp [*])]), (mu M 1 (rz_u (M 1) 0 0)), hM6, (by rw [sp_ask, if_pos c6, if_neg (by simp [*])]; exact hS6), hG6⟩
  · refine rz_iconst d_Md_ask_9 ?_
    exact rz_ireturn (st := []) rfl d_Md_ask_10 ⟨by decide, by decide⟩ ⟨_, rfl, (by rw [sp_ask, if_neg (by simp [*])]), M, hM, (by rw [sp_ask, if_neg (by simp [*])]; exact (mS2.rf (M := M))), (rz_fr.rf (rs := [10, 11]) (h := h))⟩
def sp_need (M : Nat → Int → Int) (p r o : Int) (opt : Bool) : Int × (Nat → Int → Int) := if (mNone M p r || !mIn o 0 5) = true then (-1, M) else if rng (mAt M 0) (M 1 0) = true then (if M 5 (4 * p + r) = 3 then (-2, mUse M) else (M 5 (4 * p + r) + 1, mUse (mu (mu (mu (mKeep M (54 + (3 * (4 * p + r) + M 5 (4 * p + r)))) 6 (rz_u (M 6) (3 * (4 * p + r) + M 5 (4 * p + r)) o)) 7 (rz_u (M 7) (3 * (4 * p + r) + M 5 (4 * p + r)) (bi opt))) 5 (rz_u (M 5) (4 * p + r) (M 5 (4 * p + r) + 1))))) else (-3, mUse M)
abbrev rm_Md_need : Room := { frames := 4, cells := 0, slots := 0, locals := 97 }
set_option maxRecDepth 100000 in
set_option maxHeartbeats 4000000 in
theorem c_Md_need {l : Launch} {Γ : rz_G} {h : rz_H} {x : Nat} {ad : Nat → Nat} {M : Nat → Int → Int} (hM : MdAt Γ h x ad M) (hw : mWF M) {p r o : Int} {opt : Bool} (rp : -2147483648 ≤ p ∧ p ≤ 2147483647) (rr : -2147483648 ≤ r ∧ r ≤ 2147483647) (ro : -2147483648 ≤ o ∧ o ≤ 2147483647) : Ct l Γ x_Md_need y_Md_need rm_Md_need [.ref x, vi p, vi r, vi o, vi (bi opt)] h (pI (fun r' h' => r' = (sp_need M p r o opt).1 ∧ ∃ M', MdAt Γ h' x ad M' ∧ mS2 (sp_need M p r o opt).2 M' ∧ rz_fr [10, 11] h h')) := by
  refine rz_met (by decide) rfl rfl (Nat.le_of_ble_eq_true rfl) (fun K _ => ?_)
  refine rz_Leq [(0, .ref x), (1, vi p), (2, vi r), (3, vi o), (4, vi (bi opt))] rfl ?_
  refine rz_aload_n 0 d_Md_need_0 rfl rfl ?_
  refine rz_iload_n 1 d_Md_need_1 rfl rfl ?_
  refine rz_iload_n 2 d_Md_need_2 rfl rfl ?_
  refine rz_callV (As := [vi p, vi r]) (c_Md_none hM hw (by omega) (by omega)) m_Md_160 hM.1 rfl rfl rfl rfl (Nat.le_of_ble_eq_true rfl) ⟨by decide, by decide⟩ ⟨by decide, by decide⟩ d_Md_need_3 (kE (h := h) ?_)
  refine rz_if_neB 18 d_Md_need_6 (by decide) (fun c6 => ?_) (fun c6 => ?_)
  · refine rz_iconst d_Md_need_18 ?_
    exact rz_ireturn (st := []) rfl d_Md_need_19 ⟨by decide, by decide⟩ ⟨_, rfl, (by rw [sp_need, if_pos (by simp [*])]), M, hM, (by rw [sp_need, if_pos (by simp [*])]; exact (mS2.rf (M := M))), (rz_fr.rf (rs := [10, 11]) (h := h))⟩
  · refine rz_iload_n 3 d_Md_need_9 rfl rfl ?_
    refine rz_iconst d_Md_need_10 ?_
    refine rz_iconst d_Md_need_11 ?_
    refine rz_callS (As := [vi o, vi 0, vi 5]) (c_Md_in (by omega) ⟨by decide, by decide⟩ ⟨by decide, by decide⟩) m_Md_56 rfl rfl (Nat.le_of_ble_eq_true rfl) ⟨by decide, by decide⟩ ⟨by decide, by decide⟩ d_Md_need_12 (kE (h := h) ?_)
    refine rz_if_neB 20 d_Md_need_15 (by decide) (fun c15 => ?_) (fun c15 => ?_)
    · have n1 := mNone_f c6
      have n2 := mIn_t.mp c15
      have l1 := hw.2.2.1 p (by omega) (by omega)
      have l5 := hw.2.2.2.1 (4 * p + r) (by omega) (by omega)
      refine rz_iconst d_Md_need_20 ?_
      refine rz_iload_n 1 d_Md_need_21 rfl rfl ?_
      refine rz_imul d_Md_need_22 ?_
      refine rz_iload_n 2 d_Md_need_23 rfl rfl ?_
      refine rz_iadd d_Md_need_24 ?_
      refine rz_istore [(5, vi ((4 * p) + r)), (0, .ref x), (1, vi p), (2, vi r), (3, vi o), (4, vi (bi opt))] d_Md_need_25 (by decide) rfl ?_
      refine rz_aload_n 1 d_Md_need_27 rfl rfl ?_
      refine rz_iconst d_Md_need_28 ?_
      refine rz_callV (As := [vi 0]) (c_Md_range hM hw (by omega)) m_Md_164 hM.1 rfl rfl rfl rfl (Nat.le_of_ble_eq_true rfl) ⟨by decide, by decide⟩ ⟨by decide, by decide⟩ d_Md_need_29 (kE (h := h) ?_)
      refine rz_if_neB 42 d_Md_need_32 (by decide) (fun c32 => ?_) (fun c32 => ?_)
      · refine rz_aload_n 1 d_Md_need_42 rfl rfl ?_
        refine rz_getf f_Md_26 hM.1 rfl d_Md_need_43 ?_
        refine rz_iload 0 d_Md_need_46 rfl ?_
        refine rz_iaload (md_a5 hM) (by decide) (by omega) d_Md_need_48 ?_
        refine rz_iconst d_Md_need_49 ?_
        refine rz_icmp_ne 60 d_Md_need_50 (by decide) (by omega) ⟨by decide, by decide⟩ (fun c50 => ?_) (fun c50 => ?_)
        · refine rz_iconst d_Md_need_60 ?_
          refine rz_iload 0 d_Md_need_61 rfl ?_
          refine rz_imul d_Md_need_63 ?_
          refine rz_aload_n 1 d_Md_need_64 rfl rfl ?_
          refine rz_getf f_Md_26 hM.1 rfl d_Md_need_65 ?_
          refine rz_iload 0 d_Md_need_68 rfl ?_
          refine rz_iaload (md_a5 hM) (by decide) (by omega) d_Md_need_70 ?_
          refine rz_iadd d_Md_need_71 ?_
          refine rz_istore [(6, vi ((3 * ((4 * p) + r)) + (M 5 ((4 * p) + r)))), (5, vi ((4 * p) + r)), (0, .ref x), (1, vi p), (2, vi r), (3, vi o), (4, vi (bi opt))] d_Md_need_72 (by decide) rfl ?_
          refine rz_aload_n 2 d_Md_need_74 rfl rfl ?_
          refine rz_bipush (v := 54) d_Md_need_75 (by decide) ?_
          refine rz_iload 0 d_Md_need_77 rfl ?_
          refine rz_iadd d_Md_need_79 ?_
          refine rz_callV (As := [vi (54 + ((3 * ((4 * p) + r)) + (M 5 ((4 * p) + r))))]) (c_Md_keep hM (by omega)) m_Md_156 hM.1 rfl rfl rfl rfl (Nat.le_of_ble_eq_true rfl) ⟨by decide, by decide⟩ ⟨by decide, by decide⟩ d_Md_need_80 (kV (h := h) fun h1 q1 => ?_)
          obtain ⟨hM1, hF1⟩ := q1
          obtain ⟨M1, eM1⟩ : ∃ z, z = mKeep M (54 + ((3 * ((4 * p) + r)) + (M 5 ((4 * p) + r)))) := ⟨_, rfl⟩
          rw [← eM1] at hM1
          have hS1 : mS2 (mKeep M (54 + ((3 * ((4 * p) + r)) + (M 5 ((4 * p) + r))))) M1 := by rw [eM1]; exact mS2_keep (mS2.rf (M := M)) (54 + ((3 * ((4 * p) + r)) + (M 5 ((4 * p) + r))))
          have hG1 := (rz_fr.rf (rs := [10, 11]) (h := h)).tr hF1
          refine rz_aload_n 2 d_Md_need_83 rfl rfl ?_
          refine rz_getf f_Md_29 hM1.1 rfl d_Md_need_84 ?_
          refine rz_iload 0 d_Md_need_87 rfl ?_
          refine rz_iload_n 5 d_Md_need_89 rfl rfl ?_
          refine md_st6 hM1 hG1 (by omega) d_Md_need_90 (fun h2 hM2 hF2 => ?_)
          obtain ⟨M2, eM2⟩ : ∃ z, z = mu M1 6 (rz_u (M1 6) ((3 * ((4 * p) + r)) + (M 5 ((4 * p) + r))) o) := ⟨_, rfl⟩
          rw [← eM2] at hM2
          have hS2 : mS2 (mu (mKeep M (54 + ((3 * ((4 * p) + r)) + (M 5 ((4 * p) + r))))) 6 (rz_u ((mKeep M (54 + ((3 * ((4 * p) + r)) + (M 5 ((4 * p) + r))))) 6) ((3 * ((4 * p) + r)) + (M 5 ((4 * p) + r))) o)) M2 := by rw [eM2]; exact mS2_st hS1 (by decide) (by decide) _ _
          refine rz_aload_n 2 d_Md_need_91 rfl rfl ?_
          refine rz_getf f_Md_32 hM2.1 rfl d_Md_need_92 ?_
          refine rz_iload 0 d_Md_need_95 rfl ?_
          refine rz_iload 6 d_Md_need_97 rfl ?_
          refine md_st7 hM2 hF2 (by omega) (bi01 _) d_Md_need_99 (fun h3 hM3 hF3 => ?_)
          obtain ⟨M3, eM3⟩ : ∃ z, z = mu M2 7 (rz_u (M2 7) ((3 * ((4 * p) + r)) + (M 5 ((4 * p) + r))) (bi opt)) := ⟨_, rfl⟩
          rw [← eM3] at hM3
          have hS3 : mS2 (mu (mu (mKeep M (54 + ((3 * ((4 * p) + r)) + (M 5 ((4 * p) + r))))) 6 (rz_u ((mKeep M (54 + ((3 * ((4 * p) + r)) + (M 5 ((4 * p) + r))))) 6) ((3 * ((4 * p) + r)) + (M 5 ((4 * p) + r))) o)) 7 (rz_u ((mu (mKeep M (54 + ((3 * ((4 * p) + r)) + (M 5 ((4 * p) + r))))) 6 (rz_u ((mKeep M (54 + ((3 * ((4 * p) + r)) + (M 5 ((4 * p) + r))))) 6) ((3 * ((4 * p) + r)) + (M 5 ((4 * p) + r))) o)) 7) ((3 * ((4 * p) + r)) + (M 5 ((4 * p) + r))) (bi opt))) M3 := by rw [eM3]; exact mS2_st hS2 (by decide) (by decide) _ _
          refine rz_aload_n 2 d_Md_need_100 rfl rfl ?_
          refine rz_getf f_Md_26 hM3.1 rfl d_Md_need_101 ?_
          refine rz_iload 1 d_Md_need_104 rfl ?_
          refine rz_dup2 d_Md_need_106 rfl rfl ?_
          refine rz_iaload (md_a5 hM3) (by decide) (by omega) d_Md_need_107 ?_
          rw [hS3 5 (by decide) (by decide)]
          refine rz_Seq [vi (M 5 ((4 * p) + r)), vi ((4 * p) + r), .ref (ad 5)] rfl ?_
          refine rz_iconst d_Md_need_108 ?_
          refine rz_iadd d_Md_need_109 ?_
          refine md_st5 hM3 hF3 (by omega) d_Md_need_110 (fun h4 hM4 hF4 => ?_)
          obtain ⟨M4, eM4⟩ : ∃ z, z = mu M3 5 (rz_u (M3 5) ((4 * p) + r) ((M 5 ((4 * p) + r)) + 1)) := ⟨_, rfl⟩
          rw [← eM4] at hM4
          have hS4 : mS2 (mu (mu (mu (mKeep M (54 + ((3 * ((4 * p) + r)) + (M 5 ((4 * p) + r))))) 6 (rz_u ((mKeep M (54 + ((3 * ((4 * p) + r)) + (M 5 ((4 * p) + r))))) 6) ((3 * ((4 * p) + r)) + (M 5 ((4 * p) + r))) o)) 7 (rz_u ((mu (mKeep M (54 + ((3 * ((4 * p) + r)) + (M 5 ((4 * p) + r))))) 6 (rz_u ((mKeep M (54 + ((3 * ((4 * p) + r)) + (M 5 ((4 * p) + r))))) 6) ((3 * ((4 * p) + r)) + (M 5 ((4 * p) + r))) o)) 7) ((3 * ((4 * p) + r)) + (M 5 ((4 * p) + r))) (bi opt))) 5 (rz_u ((mu (mu (mKeep M (54 + ((3 * ((4 * p) + r)) + (M 5 ((4 * p) + r))))) 6 (rz_u ((mKeep M (54 + ((3 * ((4 * p) + r)) + (M 5 ((4 * p) + r))))) 6) ((3 * ((4 * p) + r)) + (M 5 ((4 * p) + r))) o)) 7 (rz_u ((mu (mKeep M (54 + ((3 * ((4 * p) + r)) + (M 5 ((4 * p) + r))))) 6 (rz_u ((mKeep M (54 + ((3 * ((4 * p) + r)) + (M 5 ((4 * p) + r))))) 6) ((3 * ((4 * p) + r)) + (M 5 ((4 * p) + r))) o)) 7) ((3 * ((4 * p) + r)) + (M 5 ((4 * p) + r))) (bi opt))) 5) ((4 * p) + r) ((M 5 ((4 * p) + r)) + 1))) M4 := by rw [eM4]; exact mS2_st hS3 (by decide) (by decide) _ _
          refine rz_aload_n 2 d_Md_need_111 rfl rfl ?_
          refine rz_aload_n 2 d_Md_need_112 rfl rfl ?_
          refine rz_getf f_Md_26 hM4.1 rfl d_Md_need_113 ?_
          refine rz_iload 1 d_Md_need_116 rfl ?_
          refine rz_iaload (md_a5 hM4) (by decide) (by omega) d_Md_need_118 ?_
          rw [hS4 5 (by decide) (by decide)]
          refine rz_Seq [vi ((M 5 ((4 * p) + r)) + 1), .ref x] (by simp only [mu_s, rz_u_s]) ?_
          refine rz_callV (As := [vi ((M 5 ((4 * p) + r)) + 1)]) (c_Md_used hM4) m_Md_153 hM4.1 rfl rfl rfl rfl (Nat.le_of_ble_eq_true rfl) ⟨by decide, by decide⟩ ⟨by decide, by decide⟩ d_Md_need_119 (kI (h := h4) fun r5 h5 q5 => ?_)
          obtain ⟨rfl, hM5, hF5⟩ := q5
          have hS5 := mS2_use hS4
          have hG5 := hF4.tr hF5
          exact rz_ireturn (st := []) rfl d_Md_need_122 ⟨by decide, by decide⟩ ⟨_, rfl, (by rw [sp_need, if_neg (by simp [*]), if_pos c32, if_neg c50]), (mu M4 1 (rz_u (M4 1) 0 0)), hM5, (by rw [sp_need, if_neg (by simp [*]), if_pos c32, if_neg c50]; exact hS5), hG5⟩
        · refine rz_aload_n 1 d_Md_need_53 rfl rfl ?_
          refine rz_bipush (v := (-2)) d_Md_need_54 (by decide) ?_
          refine rz_callV (As := [vi (-2)]) (c_Md_used hM) m_Md_153 hM.1 rfl rfl rfl rfl (Nat.le_of_ble_eq_true rfl) ⟨by decide, by decide⟩ ⟨by decide, by decide⟩ d_Md_need_56 (kI (h := h) fun r6 h6 q6 => ?_)
          obtain ⟨rfl, hM6, hF6⟩ := q6
          have hS6 := mS2_use (mS2.rf (M := M))
          have hG6 := (rz_fr.rf (rs := [10, 11]) (h := h)).tr hF6
          exact rz_ireturn (st := []) rfl d_Md_need_59 ⟨by decide, by decide⟩ ⟨_, rfl, (by rw [sp_need, if_neg (by simp [*]), if_pos c32, if_pos c50]), (mu M 1 (rz_u (M 1) 0 0)), hM6, (by rw [sp_need, if_neg (by simp [*]), if_pos c32, if_pos c50]; exact hS6), hG6⟩
      · refine rz_aload_n 1 d_Md_need_35 rfl rfl ?_
        refine rz_bipush (v := (-3)) d_Md_need_36 (by decide) ?_
        refine rz_callV (As := [vi (-3)]) (c_Md_used hM) m_Md_153 hM.1 rfl rfl rfl rfl (Nat.le_of_ble_eq_true rfl) ⟨by decide, by decide⟩ ⟨by decide, by decide⟩ d_Md_need_38 (kI (h := h) fun r7 h7 q7 => ?_)
        obtain ⟨rfl, hM7, hF7⟩ := q7
        have hS7 := mS2_use (mS2.rf (M := M))
        have hG7 := (rz_fr.rf (rs := [10, 11]) (h := h)).tr hF7
        exact rz_ireturn (st := []) rfl d_Md_need_41 ⟨by decide, by decide⟩ ⟨_, rfl, (by rw [sp_need, if_neg (by simp [*]), if_neg (by simp [*])]), (mu M 1 (rz_u (M 1) 0 0)), hM7, (by rw [sp_need, if_neg (by simp [*]), if_neg (by simp [*])]; exact hS7), hG7⟩
    · refine rz_iconst d_Md_need_18 ?_
      exact rz_ireturn (st := []) rfl d_Md_need_19 ⟨by decide, by decide⟩ ⟨_, rfl, (by rw [sp_need, if_pos (by simp [*])]), M, hM, (by rw [sp_need, if_pos (by simp [*])]; exact (mS2.rf (M := M))), (rz_fr.rf (rs := [10, 11]) (h := h))⟩
def sp_needHost (M : Nat → Int → Int) (p r : Int) : Int × (Nat → Int → Int) := if mNone M p r = true then (-1, M) else if M 1 0 ≤ 0 ∨ rng (mAt M 0) (M 1 0) = true then (0, mUse (mKeep (mu M 4 (rz_u (M 4) (4 * p + r) (bi (decide (0 < M 1 0))))) (30 + (4 * p + r)))) else (-3, mUse M)
abbrev rm_Md_needHost : Room := { frames := 4, cells := 0, slots := 0, locals := 97 }
set_option maxRecDepth 100000 in
set_option maxHeartbeats 4000000 in
theorem c_Md_needHost {l : Launch} {Γ : rz_G} {h : rz_H} {x : Nat} {ad : Nat → Nat} {M : Nat → Int → Int} (hM : MdAt Γ h x ad M) (hw : mWF M) {p r : Int} (rp : -2147483648 ≤ p ∧ p ≤ 2147483647) (rr : -2147483648 ≤ r ∧ r ≤ 2147483647) : Ct l Γ x_Md_needHost y_Md_needHost rm_Md_needHost [.ref x, vi p, vi r] h (pI (fun r' h' => r' = (sp_needHost M p r).1 ∧ ∃ M', MdAt Γ h' x ad M' ∧ mS2 (sp_needHost M p r).2 M' ∧ rz_fr [10, 11] h h')) := by
  refine rz_met (by decide) rfl rfl (Nat.le_of_ble_eq_true rfl) (fun K _ => ?_)
  refine rz_Leq [(0, .ref x), (1, vi p), (2, vi r)] rfl ?_
  have hlen := hw.1 0 (by omega) (by omega)
  refine rz_aload_n 0 d_Md_needHost_0 rfl rfl ?_
  refine rz_iload_n 1 d_Md_needHost_1 rfl rfl ?_
  refine rz_iload_n 2 d_Md_needHost_2 rfl rfl ?_
  refine rz_callV (As := [vi p, vi r]) (c_Md_none hM hw (by omega) (by omega)) m_Md_160 hM.1 rfl rfl rfl rfl (Nat.le_of_ble_eq_true rfl) ⟨by decide, by decide⟩ ⟨by decide, by decide⟩ d_Md_needHost_3 (kE (h := h) ?_)
  refine rz_if_eqB 11 d_Md_needHost_6 (by decide) (fun c6 => ?_) (fun c6 => ?_)
  · have n1 := mNone_f c6
    have l1 := hw.2.2.1 p (by omega) (by omega)
    refine rz_iconst d_Md_needHost_11 ?_
    refine rz_iload_n 1 d_Md_needHost_12 rfl rfl ?_
    refine rz_imul d_Md_needHost_13 ?_
    refine rz_iload_n 2 d_Md_needHost_14 rfl rfl ?_
    refine rz_iadd d_Md_needHost_15 ?_
    refine rz_istore_n [(3, vi ((4 * p) + r)), (0, .ref x), (1, vi p), (2, vi r)] d_Md_needHost_16 rfl (by decide) rfl ?_
    refine rz_cut (α := Unit) 0 0 41 (fun _ => M 1 0 ≤ 0 ∨ rng (mAt M 0) (M 1 0) = true) (fun _ => [(3, vi ((4 * p) + r)), (0, .ref x), (1, vi p), (2, vi r)]) (fun _ => []) (fun _ => h) (fun _ k41 => ?_) (fun J41 => ?_)
    · refine rz_aload_n 1 d_Md_needHost_41 rfl rfl ?_
      refine rz_getf f_Md_23 hM.1 rfl d_Md_needHost_42 ?_
      refine rz_iload_n 0 d_Md_needHost_45 rfl rfl ?_
      refine rz_cut (α := Unit) 0 0 60 (fun _ => True) (fun _ => [(3, vi ((4 * p) + r)), (0, .ref x), (1, vi p), (2, vi r)]) (fun _ => [vi (bi (decide (0 < M 1 0))), vi ((4 * p) + r), .ref (ad 4)]) (fun _ => h) (fun _ _ => ?_) (fun J60 => ?_)
      · refine md_st4 hM (rz_fr.rf (rs := [10, 11]) (h := h)) (by omega) (bi01 _) d_Md_needHost_60 (fun h1 hM1 hF1 => ?_)
        obtain ⟨M1, eM1⟩ : ∃ z, z = mu M 4 (rz_u (M 4) ((4 * p) + r) (bi (decide (0 < M 1 0)))) := ⟨_, rfl⟩
        rw [← eM1] at hM1
        have hS1 : mS2 (mu M 4 (rz_u (M 4) ((4 * p) + r) (bi (decide (0 < M 1 0))))) M1 := by rw [eM1]; exact mS2_st (mS2.rf (M := M)) (by decide) (by decide) _ _
        refine rz_aload_n 1 d_Md_needHost_61 rfl rfl ?_
        refine rz_bipush (v := 30) d_Md_needHost_62 (by decide) ?_
        refine rz_iload_n 0 d_Md_needHost_64 rfl rfl ?_
        refine rz_iadd d_Md_needHost_65 ?_
        refine rz_callV (As := [vi (30 + ((4 * p) + r))]) (c_Md_keep hM1 (by omega)) m_Md_156 hM1.1 rfl rfl rfl rfl (Nat.le_of_ble_eq_true rfl) ⟨by decide, by decide⟩ ⟨by decide, by decide⟩ d_Md_needHost_66 (kV (h := h1) fun h2 q2 => ?_)
        obtain ⟨hM2, hF2⟩ := q2
        obtain ⟨M2, eM2⟩ : ∃ z, z = mKeep M1 (30 + ((4 * p) + r)) := ⟨_, rfl⟩
        rw [← eM2] at hM2
        have hS2 : mS2 (mKeep (mu M 4 (rz_u (M 4) ((4 * p) + r) (bi (decide (0 < M 1 0))))) (30 + ((4 * p) + r))) M2 := by rw [eM2]; exact mS2_keep hS1 (30 + ((4 * p) + r))
        have hG2 := hF1.tr hF2
        refine rz_aload_n 1 d_Md_needHost_69 rfl rfl ?_
        refine rz_iconst d_Md_needHost_70 ?_
        refine rz_callV (As := [vi 0]) (c_Md_used hM2) m_Md_153 hM2.1 rfl rfl rfl rfl (Nat.le_of_ble_eq_true rfl) ⟨by decide, by decide⟩ ⟨by decide, by decide⟩ d_Md_needHost_71 (kI (h := h2) fun r3 h3 q3 => ?_)
        obtain ⟨rfl, hM3, hF3⟩ := q3
        have hS3 := mS2_use hS2
        have hG3 := hG2.tr hF3
        exact rz_ireturn (st := []) rfl d_Md_needHost_74 ⟨by decide, by decide⟩ ⟨_, rfl, (by rw [sp_needHost, if_neg (by simp [*]), if_pos k41]), (mu M2 1 (rz_u (M2 1) 0 0)), hM3, (by rw [sp_needHost, if_neg (by simp [*]), if_pos k41]; exact hS3), hG3⟩
      · refine rz_aload_n 1 d_Md_needHost_46 rfl rfl ?_
        refine rz_getf f_Md_13 hM.1 rfl d_Md_needHost_47 ?_
        refine rz_iconst d_Md_needHost_50 ?_
        refine rz_iaload (md_a1 hM) (by decide) (by omega) d_Md_needHost_51 ?_
        refine rz_if_le 59 d_Md_needHost_52 (by decide) (by omega) (fun c52 => ?_) (fun c52 => ?_)
        · refine rz_iconst d_Md_needHost_59 ?_
          refine rz_Seq [vi (bi (decide (0 < M 1 0))), vi ((4 * p) + r), .ref (ad 4)] (by rw [show decide (0 < M 1 0) = false from by simp; omega]; rfl) ?_
          exact J60 () trivial
        · refine rz_iconst d_Md_needHost_55 ?_
          refine rz_goto 60 d_Md_needHost_56 (by decide) ?_
          refine rz_Seq [vi (bi (decide (0 < M 1 0))), vi ((4 * p) + r), .ref (ad 4)] (by rw [show decide (0 < M 1 0) = true from by simp; omega]; rfl) ?_
          exact J60 () trivial
    · refine rz_aload_n 1 d_Md_needHost_17 rfl rfl ?_
      refine rz_getf f_Md_13 hM.1 rfl d_Md_needHost_18 ?_
      refine rz_iconst d_Md_needHost_21 ?_
      refine rz_iaload (md_a1 hM) (by decide) (by omega) d_Md_needHost_22 ?_
      refine rz_if_le 41 d_Md_needHost_23 (by decide) (by omega) (fun c23 => ?_) (fun c23 => ?_)
      · exact J41 () (by first | exact Or.inl c23 | exact Or.inr c31)
      · refine rz_aload_n 1 d_Md_needHost_26 rfl rfl ?_
        refine rz_iconst d_Md_needHost_27 ?_
        refine rz_callV (As := [vi 0]) (c_Md_range hM hw (by omega)) m_Md_164 hM.1 rfl rfl rfl rfl (Nat.le_of_ble_eq_true rfl) ⟨by decide, by decide⟩ ⟨by decide, by decide⟩ d_Md_needHost_28 (kE (h := h) ?_)
        refine rz_if_neB 41 d_Md_needHost_31 (by decide) (fun c31 => ?_) (fun c31 => ?_)
        · exact J41 () (by first | exact Or.inl c23 | exact Or.inr c31)
        · refine rz_aload_n 1 d_Md_needHost_34 rfl rfl ?_
          refine rz_bipush (v := (-3)) d_Md_needHost_35 (by decide) ?_
          refine rz_callV (As := [vi (-3)]) (c_Md_used hM) m_Md_153 hM.1 rfl rfl rfl rfl (Nat.le_of_ble_eq_true rfl) ⟨by decide, by decide⟩ ⟨by decide, by decide⟩ d_Md_needHost_37 (kI (h := h) fun r4 h4 q4 => ?_)
          obtain ⟨rfl, hM4, hF4⟩ := q4
          have hS4 := mS2_use (mS2.rf (M := M))
          have hG4 := (rz_fr.rf (rs := [10, 11]) (h := h)).tr hF4
          exact rz_ireturn (st := []) rfl d_Md_needHost_40 ⟨by decide, by decide⟩ ⟨_, rfl, (by rw [sp_needHost, if_neg (by simp [*]), if_neg (by simp [*])]), (mu M 1 (rz_u (M 1) 0 0)), hM4, (by rw [sp_needHost, if_neg (by simp [*]), if_neg (by simp [*])]; exact hS4), hG4⟩
  · refine rz_iconst d_Md_needHost_9 ?_
    exact rz_ireturn (st := []) rfl d_Md_needHost_10 ⟨by decide, by decide⟩ ⟨_, rfl, (by rw [sp_needHost, if_pos c6]), M, hM, (by rw [sp_needHost, if_pos c6]; exact (mS2.rf (M := M))), (rz_fr.rf (rs := [10, 11]) (h := h))⟩
def twF (M : Nat → Int → Int) (p : Int) : Nat → Int → Bool
  | 0, _ => false
  | n + 1, r => if ord (mAt M (6 + 4 * p + r)) (mAt M 0) (M 1 (6 + 4 * p + r)) 0 (M 1 0) = 0 then true else twF M p n (r + 1)
theorem twF_hit {M : Nat → Int → Int} {p r : Int} {n : Nat} (hn : 0 < n) (h : ord (mAt M (6 + 4 * p + r)) (mAt M 0) (M 1 (6 + 4 * p + r)) 0 (M 1 0) = 0) : twF M p n r = true := by
  cases n with
  | zero => omega
  | succ n => simp only [twF]; rw [if_pos h]
theorem twF_go {M : Nat → Int → Int} {p r : Int} {n : Nat} (hn : 0 < n) (h : ¬ ord (mAt M (6 + 4 * p + r)) (mAt M 0) (M 1 (6 + 4 * p + r)) 0 (M 1 0) = 0) : twF M p n r = twF M p (n - 1) (r + 1) := by
  cases n with
  | zero => omega
  | succ n => simp only [twF]; rw [if_neg h]; rfl
/-- there is a release of p with a version equal to the text's -/
def tw (M : Nat → Int → Int) (p : Int) : Bool := twF M p (M 2 p).toNat 0
def sp_release (M : Nat → Int → Int) (p : Int) : Int × (Nat → Int → Int) := if mIn p 0 5 = true then (if ver (mAt M 0) 0 (M 1 0) = true then (if tw M p = true then (-5, mUse M) else if M 2 p = 4 then (-2, mUse M) else (M 2 p, mUse (mu (mKeep M (6 + 4 * p + M 2 p)) 2 (rz_u (M 2) p (M 2 p + 1))))) else (-3, mUse M)) else (-1, M)
abbrev rm_Md_release : Room := { frames := 6, cells := 0, slots := 0, locals := 157 }
set_option maxRecDepth 100000 in
set_option maxHeartbeats 4000000 in
theorem c_Md_release {l : Launch} {Γ : rz_G} {h : rz_H} {x : Nat} {ad : Nat → Nat} {M : Nat → Int → Int} (hM : MdAt Γ h x ad M) (hw : mWF M) (hvo : vOK M) {p : Int} (rp : -2147483648 ≤ p ∧ p ≤ 2147483647) : Ct l Γ x_Md_release y_Md_release rm_Md_release [.ref x, vi p] h (pI (fun r' h' => r' = (sp_release M p).1 ∧ ∃ M', MdAt Γ h' x ad M' ∧ mS2 (sp_release M p).2 M' ∧ rz_fr [10, 11] h h')) := by
  refine rz_met (by decide) rfl rfl (Nat.le_of_ble_eq_true rfl) (fun K _ => ?_)
  refine rz_Leq [(0, .ref x), (1, vi p)] rfl ?_
  have hlen := hw.1 0 (by omega) (by omega)
  refine rz_iload_n 1 d_Md_release_0 rfl rfl ?_
  refine rz_iconst d_Md_release_1 ?_
  refine rz_iconst d_Md_release_2 ?_
  refine rz_callS (As := [vi p, vi 0, vi 5]) (c_Md_in (by omega) ⟨by decide, by decide⟩ ⟨by decide, by decide⟩) m_Md_56 rfl rfl (Nat.le_of_ble_eq_true rfl) ⟨by decide, by decide⟩ ⟨by decide, by decide⟩ d_Md_release_3 (kE (h := h) ?_)
  refine rz_if_neB 11 d_Md_release_6 (by decide) (fun c6 => ?_) (fun c6 => ?_)
  · have n1 := mIn_t.mp c6
    have l2 := hw.2.2.1 p (by omega) (by omega)
    refine rz_aload_n 0 d_Md_release_11 rfl rfl ?_
    refine rz_iconst d_Md_release_12 ?_
    refine rz_iconst d_Md_release_13 ?_
    refine rz_aload_n 0 d_Md_release_14 rfl rfl ?_
    refine rz_getf f_Md_13 hM.1 rfl d_Md_release_15 ?_
    refine rz_iconst d_Md_release_18 ?_
    refine rz_iaload (md_a1 hM) (by decide) (by omega) d_Md_release_19 ?_
    refine rz_callV (As := [vi 0, vi 0, vi (M 1 0)]) (c_Md_version hM hw (by omega) (by omega) (by omega)) m_Md_143 hM.1 rfl rfl rfl rfl (Nat.le_of_ble_eq_true rfl) ⟨by decide, by decide⟩ ⟨by decide, by decide⟩ d_Md_release_20 (kE (h := h) ?_)
    refine rz_if_neB 33 d_Md_release_23 (by decide) (fun c23 => ?_) (fun c23 => ?_)
    · refine rz_iconst d_Md_release_33 ?_
      refine rz_istore_n [(2, vi 0), (0, .ref x), (1, vi p)] d_Md_release_34 rfl (by decide) rfl ?_
      refine rz_loop (α := Int × rz_H × (Nat → Int → Int)) 0 0 35 (fun (r, hA, MA) => (M 2 p - r).toNat) (fun (r, hA, MA) => 0 ≤ r ∧ r ≤ M 2 p ∧ MdAt Γ hA x ad MA ∧ mS2 M MA ∧ rz_fr [10, 11] h hA ∧ twF M p (M 2 p).toNat 0 = twF M p (M 2 p - r).toNat r) (fun (r, hA, MA) => [(2, vi r), (0, .ref x), (1, vi p)]) (fun (r, hA, MA) => []) (fun (r, hA, MA) => hA) (fun y hy ih35 => ?_) (fun LP => ?_)
      · obtain ⟨r, hA, MA⟩ := y
        try dsimp only at hy ih35 ⊢
        obtain ⟨hr0, hr1, hMA, hSA, hFA, hv⟩ := hy
        have hwA := mS2_wf hSA hw
        refine rz_iload_n 0 d_Md_release_35 rfl rfl ?_
        refine rz_aload_n 1 d_Md_release_36 rfl rfl ?_
        refine rz_getf f_Md_16 hMA.1 rfl d_Md_release_37 ?_
        refine rz_iload_n 2 d_Md_release_40 rfl rfl ?_
        refine rz_iaload (md_a2 hMA) (by decide) (by omega) d_Md_release_41 ?_
        rw [hSA 2 (by decide) (by decide)]
        refine rz_icmp_ge 81 d_Md_release_42 (by decide) (by omega) (by omega) (fun c42 => ?_) (fun c42 => ?_)
        · refine rz_aload_n 1 d_Md_release_81 rfl rfl ?_
          refine rz_getf f_Md_16 hMA.1 rfl d_Md_release_82 ?_
          refine rz_iload_n 2 d_Md_release_85 rfl rfl ?_
          refine rz_iaload (md_a2 hMA) (by decide) (by omega) d_Md_release_86 ?_
          rw [hSA 2 (by decide) (by decide)]
          refine rz_iconst d_Md_release_87 ?_
          refine rz_icmp_ne 98 d_Md_release_88 (by decide) (by omega) ⟨by decide, by decide⟩ (fun c88 => ?_) (fun c88 => ?_)
          · refine rz_aload_n 1 d_Md_release_98 rfl rfl ?_
            refine rz_bipush (v := 6) d_Md_release_99 (by decide) ?_
            refine rz_iconst d_Md_release_101 ?_
            refine rz_iload_n 2 d_Md_release_102 rfl rfl ?_
            refine rz_imul d_Md_release_103 ?_
            refine rz_iadd d_Md_release_104 ?_
            refine rz_aload_n 1 d_Md_release_105 rfl rfl ?_
            refine rz_getf f_Md_16 hMA.1 rfl d_Md_release_106 ?_
            refine rz_iload_n 2 d_Md_release_109 rfl rfl ?_
            refine rz_iaload (md_a2 hMA) (by decide) (by omega) d_Md_release_110 ?_
            rw [hSA 2 (by decide) (by decide)]
            refine rz_iadd d_Md_release_111 ?_
            refine rz_callV (As := [vi ((6 + (4 * p)) + (M 2 p))]) (c_Md_keep hMA (by omega)) m_Md_156 hMA.1 rfl rfl rfl rfl (Nat.le_of_ble_eq_true rfl) ⟨by decide, by decide⟩ ⟨by decide, by decide⟩ d_Md_release_112 (kV (h := hA) fun h1 q1 => ?_)
            obtain ⟨hM1, hF1⟩ := q1
            obtain ⟨M1, eM1⟩ : ∃ z, z = mKeep MA ((6 + (4 * p)) + (M 2 p)) := ⟨_, rfl⟩
            rw [← eM1] at hM1
            have hS1 : mS2 (mKeep M ((6 + (4 * p)) + (M 2 p))) M1 := by rw [eM1]; exact mS2_keep hSA ((6 + (4 * p)) + (M 2 p))
            have hG1 := hFA.tr hF1
            refine rz_aload_n 1 d_Md_release_115 rfl rfl ?_
            refine rz_getf f_Md_16 hM1.1 rfl d_Md_release_116 ?_
            refine rz_iload_n 2 d_Md_release_119 rfl rfl ?_
            refine rz_dup2 d_Md_release_120 rfl rfl ?_
            refine rz_iaload (md_a2 hM1) (by decide) (by omega) d_Md_release_121 ?_
            rw [hS1 2 (by decide) (by decide)]
            refine rz_Seq [vi (M 2 p), vi p, .ref (ad 2)] rfl ?_
            refine rz_iconst d_Md_release_122 ?_
            refine rz_iadd d_Md_release_123 ?_
            refine md_st2 hM1 hG1 (by omega) d_Md_release_124 (fun h2 hM2 hF2 => ?_)
            obtain ⟨M2, eM2⟩ : ∃ z, z = mu M1 2 (rz_u (M1 2) p ((M 2 p) + 1)) := ⟨_, rfl⟩
            rw [← eM2] at hM2
            have hS2 : mS2 (mu (mKeep M ((6 + (4 * p)) + (M 2 p))) 2 (rz_u ((mKeep M ((6 + (4 * p)) + (M 2 p))) 2) p ((M 2 p) + 1))) M2 := by rw [eM2]; exact mS2_st hS1 (by decide) (by decide) _ _
            refine rz_aload_n 1 d_Md_release_125 rfl rfl ?_
            refine rz_aload_n 1 d_Md_release_126 rfl rfl ?_
            refine rz_getf f_Md_16 hM2.1 rfl d_Md_release_127 ?_
            refine rz_iload_n 2 d_Md_release_130 rfl rfl ?_
            refine rz_iaload (md_a2 hM2) (by decide) (by omega) d_Md_release_131 ?_
            rw [hS2 2 (by decide) (by decide)]
            refine rz_Seq [vi ((M 2 p) + 1), .ref x] (by simp only [mu_s, rz_u_s]) ?_
            refine rz_iconst d_Md_release_132 ?_
            refine rz_isub d_Md_release_133 ?_
            refine rz_callV (As := [vi (((M 2 p) + 1) - 1)]) (c_Md_used hM2) m_Md_153 hM2.1 rfl rfl rfl rfl (Nat.le_of_ble_eq_true rfl) ⟨by decide, by decide⟩ ⟨by decide, by decide⟩ d_Md_release_134 (kI (h := h2) fun r3 h3 q3 => ?_)
            obtain ⟨rfl, hM3, hF3⟩ := q3
            have hS3 := mS2_use hS2
            have hG3 := hF2.tr hF3
            exact rz_ireturn (st := []) rfl d_Md_release_137 ⟨by decide, by decide⟩ ⟨_, rfl, (by rw [sp_release, if_pos c6, if_pos c23, if_neg (by rw [tw, hv, show (M 2 p - r).toNat = 0 by omega]; simp [twF]), if_neg c88]; show _ = M 2 p; omega), (mu M2 1 (rz_u (M2 1) 0 0)), hM3, (by rw [sp_release, if_pos c6, if_pos c23, if_neg (by rw [tw, hv, show (M 2 p - r).toNat = 0 by omega]; simp [twF]), if_neg c88]; exact hS3), hG3⟩
          · refine rz_aload_n 1 d_Md_release_91 rfl rfl ?_
            refine rz_bipush (v := (-2)) d_Md_release_92 (by decide) ?_
            refine rz_callV (As := [vi (-2)]) (c_Md_used hMA) m_Md_153 hMA.1 rfl rfl rfl rfl (Nat.le_of_ble_eq_true rfl) ⟨by decide, by decide⟩ ⟨by decide, by decide⟩ d_Md_release_94 (kI (h := hA) fun r4 h4 q4 => ?_)
            obtain ⟨rfl, hM4, hF4⟩ := q4
            have hS4 := mS2_use hSA
            have hG4 := hFA.tr hF4
            exact rz_ireturn (st := []) rfl d_Md_release_97 ⟨by decide, by decide⟩ ⟨_, rfl, (by rw [sp_release, if_pos c6, if_pos c23, if_neg (by rw [tw, hv, show (M 2 p - r).toNat = 0 by omega]; simp [twF]), if_pos c88]), (mu MA 1 (rz_u (MA 1) 0 0)), hM4, (by rw [sp_release, if_pos c6, if_pos c23, if_neg (by rw [tw, hv, show (M 2 p - r).toNat = 0 by omega]; simp [twF]), if_pos c88]; exact hS4), hG4⟩
        · refine rz_aload_n 1 d_Md_release_45 rfl rfl ?_
          refine rz_bipush (v := 6) d_Md_release_46 (by decide) ?_
          refine rz_iconst d_Md_release_48 ?_
          refine rz_iload_n 2 d_Md_release_49 rfl rfl ?_
          refine rz_imul d_Md_release_50 ?_
          refine rz_iadd d_Md_release_51 ?_
          refine rz_iload_n 0 d_Md_release_52 rfl rfl ?_
          refine rz_iadd d_Md_release_53 ?_
          refine rz_iconst d_Md_release_54 ?_
          refine rz_iconst d_Md_release_55 ?_
          refine rz_aload_n 1 d_Md_release_56 rfl rfl ?_
          refine rz_getf f_Md_13 hMA.1 rfl d_Md_release_57 ?_
          refine rz_iconst d_Md_release_60 ?_
          refine rz_iaload (md_a1 hMA) (by decide) (by omega) d_Md_release_61 ?_
          rw [hSA 1 (by decide) (by decide)]
          refine rz_callV (As := [vi ((6 + (4 * p)) + r), vi 0, vi 0, vi (M 1 0)]) (c_Md_ordered hMA hwA (by omega) (by omega) (by omega) (by omega) (by rw [mS2_at hSA, hSA 1 (by decide) (by decide)]; exact ver_nok (hvo p r (by omega) (by omega) (by omega) (by omega))) (by rw [mS2_at hSA]; exact ver_nok c23)) m_Md_149 hMA.1 rfl rfl rfl rfl (Nat.le_of_ble_eq_true rfl) ⟨by decide, by decide⟩ ⟨by decide, by decide⟩ d_Md_release_62 (kI (h := hA) fun r5 h5 q5 => ?_)
          obtain ⟨rfl, M5, hM5, hT5, hF5⟩ := q5
          simp only [mS2_at hSA, hSA 1 (by decide) (by decide)]
          have hS5 := hSA.tr hT5
          have hw5 := mS2_wf hS5 hw
          have hG5 := hFA.tr hF5
          refine rz_if_ne 75 d_Md_release_65 (by decide) (by have := ordF_in (mAt M (6 + 4 * p + r)) (mAt M 0) (M 1 (6 + 4 * p + r)) (M 1 0) 13 0 0; have e : ordF (mAt M (6 + 4 * p + r)) (mAt M 0) (M 1 (6 + 4 * p + r)) (M 1 0) 13 0 0 = ord (mAt M (6 + 4 * p + r)) (mAt M 0) (M 1 (6 + 4 * p + r)) 0 (M 1 0) := rfl; omega) (fun c65 => ?_) (fun c65 => ?_)
          · refine rz_iinc (r + 1) 0 [(2, vi (r + 1)), (0, .ref x), (1, vi p)] d_Md_release_75 rfl (by first | rfl | omega) (by decide) rfl ?_
            refine rz_goto 35 d_Md_release_78 (by decide) ?_
            refine rz_Lsub [(2, vi (r + 1)), (0, .ref x), (1, vi p)] [0, 1, 2] rfl ?_
            exact ih35 (r + 1, h5, M5) ⟨by omega, by omega, hM5, hS5, hG5, (by rw [hv, twF_go (by omega) (by omega)]; congr 1; omega)⟩ (by first | omega | (dsimp only; omega))
          · refine rz_aload_n 1 d_Md_release_68 rfl rfl ?_
            refine rz_bipush (v := (-5)) d_Md_release_69 (by decide) ?_
            refine rz_callV (As := [vi (-5)]) (c_Md_used hM5) m_Md_153 hM5.1 rfl rfl rfl rfl (Nat.le_of_ble_eq_true rfl) ⟨by decide, by decide⟩ ⟨by decide, by decide⟩ d_Md_release_71 (kI (h := h5) fun r6 h6 q6 => ?_)
            obtain ⟨rfl, hM6, hF6⟩ := q6
            have hS6 := mS2_use hS5
            have hG6 := hG5.tr hF6
            exact rz_ireturn (st := []) rfl d_Md_release_74 ⟨by decide, by decide⟩ ⟨_, rfl, (by rw [sp_release, if_pos c6, if_pos c23, if_pos (by rw [tw, hv]; exact twF_hit (by omega) (by omega))]), (mu M5 1 (rz_u (M5 1) 0 0)), hM6, (by rw [sp_release, if_pos c6, if_pos c23, if_pos (by rw [tw, hv]; exact twF_hit (by omega) (by omega))]; exact hS6), hG6⟩
      · refine rz_Lsub [(2, vi 0), (0, .ref x), (1, vi p)] [0, 1, 2] rfl ?_
        exact LP (0, h, M) ⟨by omega, by omega, hM, mS2.rf, rz_fr.rf, (by congr 1; omega)⟩
    · refine rz_aload_n 0 d_Md_release_26 rfl rfl ?_
      refine rz_bipush (v := (-3)) d_Md_release_27 (by decide) ?_
      refine rz_callV (As := [vi (-3)]) (c_Md_used hM) m_Md_153 hM.1 rfl rfl rfl rfl (Nat.le_of_ble_eq_true rfl) ⟨by decide, by decide⟩ ⟨by decide, by decide⟩ d_Md_release_29 (kI (h := h) fun r7 h7 q7 => ?_)
      obtain ⟨rfl, hM7, hF7⟩ := q7
      have hS7 := mS2_use (mS2.rf (M := M))
      have hG7 := (rz_fr.rf (rs := [10, 11]) (h := h)).tr hF7
      exact rz_ireturn (st := []) rfl d_Md_release_32 ⟨by decide, by decide⟩ ⟨_, rfl, (by rw [sp_release, if_pos c6, if_neg (by simp [*])]), (mu M 1 (rz_u (M 1) 0 0)), hM7, (by rw [sp_release, if_pos c6, if_neg (by simp [*])]; exact hS7), hG7⟩
  · refine rz_iconst d_Md_release_9 ?_
    exact rz_ireturn (st := []) rfl d_Md_release_10 ⟨by decide, by decide⟩ ⟨_, rfl, (by rw [sp_release, if_neg (by simp [*])]), M, hM, (by rw [sp_release, if_neg (by simp [*])]; exact (mS2.rf (M := M))), (rz_fr.rf (rs := [10, 11]) (h := h))⟩
end
section
/-! the reference: chosen, blamed, count -/
def sp_chosen (M : Nat → Int → Int) (p : Int) : Int := if mIn p 0 5 = true then (if M 12 0 = 0 ∨ M 14 p < 0 then -4 else M 14 p) else -1
abbrev rm_Md_chosen : Room := { frames := 1, cells := 0, slots := 0, locals := 22 }
set_option maxRecDepth 100000 in
set_option maxHeartbeats 4000000 in
theorem c_Md_chosen {l : Launch} {Γ : rz_G} {h : rz_H} {x : Nat} {ad : Nat → Nat} {M : Nat → Int → Int} (hM : MdAt Γ h x ad M) (hw : mWF M) {p : Int} (rp : -2147483648 ≤ p ∧ p ≤ 2147483647) : Ct l Γ x_Md_chosen y_Md_chosen rm_Md_chosen [.ref x, vi p] h (pE (sp_chosen M p) h) := by
  refine rz_met (by decide) rfl rfl (Nat.le_of_ble_eq_true rfl) (fun K _ => ?_)
  refine rz_Leq [(0, .ref x), (1, vi p)] rfl ?_
  have l12 := hw.2.2.2.2.2.2.2.2.2.2.1
  refine rz_iload_n 1 d_Md_chosen_0 rfl rfl ?_
  refine rz_iconst d_Md_chosen_1 ?_
  refine rz_iconst d_Md_chosen_2 ?_
  refine rz_callS (As := [vi p, vi 0, vi 5]) (c_Md_in (by omega) ⟨by decide, by decide⟩ ⟨by decide, by decide⟩) m_Md_56 rfl rfl (Nat.le_of_ble_eq_true rfl) ⟨by decide, by decide⟩ ⟨by decide, by decide⟩ d_Md_chosen_3 (kE (h := h) ?_)
  refine rz_if_neB 11 d_Md_chosen_6 (by decide) (fun c6 => ?_) (fun c6 => ?_)
  · have n1 := mIn_t.mp c6
    have l14 := hw.2.2.2.2.2.2.2.2.2.2.2.2.1 p (by omega) (by omega)
    refine rz_aload_n 0 d_Md_chosen_11 rfl rfl ?_
    refine rz_getf f_Md_198 hM.1 rfl d_Md_chosen_12 ?_
    refine rz_if_eq 36 d_Md_chosen_15 (by decide) (by omega) (fun c15 => ?_) (fun c15 => ?_)
    · refine rz_bipush (v := (-4)) d_Md_chosen_36 (by decide) ?_
      exact rz_ireturn (st := []) rfl d_Md_chosen_38 ⟨by decide, by decide⟩ ⟨_, rfl, (by rw [sp_chosen, if_pos c6, if_pos (by omega)]), rfl⟩
    · refine rz_aload_n 0 d_Md_chosen_18 rfl rfl ?_
      refine rz_getf f_Md_44 hM.1 rfl d_Md_chosen_19 ?_
      refine rz_iload_n 1 d_Md_chosen_22 rfl rfl ?_
      refine rz_iaload (md_a14 hM) (by decide) (by omega) d_Md_chosen_23 ?_
      refine rz_if_lt 36 d_Md_chosen_24 (by decide) (by omega) (fun c24 => ?_) (fun c24 => ?_)
      · refine rz_bipush (v := (-4)) d_Md_chosen_36 (by decide) ?_
        exact rz_ireturn (st := []) rfl d_Md_chosen_38 ⟨by decide, by decide⟩ ⟨_, rfl, (by rw [sp_chosen, if_pos c6, if_pos (by omega)]), rfl⟩
      · refine rz_aload_n 0 d_Md_chosen_27 rfl rfl ?_
        refine rz_getf f_Md_44 hM.1 rfl d_Md_chosen_28 ?_
        refine rz_iload_n 1 d_Md_chosen_31 rfl rfl ?_
        refine rz_iaload (md_a14 hM) (by decide) (by omega) d_Md_chosen_32 ?_
        refine rz_goto 38 d_Md_chosen_33 (by decide) ?_
        exact rz_ireturn (st := []) rfl d_Md_chosen_38 ⟨by decide, by decide⟩ ⟨_, rfl, (by rw [sp_chosen, if_pos c6, if_neg (by omega)]), rfl⟩
  · refine rz_iconst d_Md_chosen_9 ?_
    exact rz_ireturn (st := []) rfl d_Md_chosen_10 ⟨by decide, by decide⟩ ⟨_, rfl, (by rw [sp_chosen, if_neg (by simp [*])]), rfl⟩
def sp_blamed (M : Nat → Int → Int) (a : Int) : Bool := decide (¬ M 13 0 = 0) && mIn a 0 3 && decide (¬ M 15 a = 0)
abbrev rm_Md_blamed : Room := { frames := 1, cells := 0, slots := 0, locals := 22 }
set_option maxRecDepth 100000 in
set_option maxHeartbeats 4000000 in
theorem c_Md_blamed {l : Launch} {Γ : rz_G} {h : rz_H} {x : Nat} {ad : Nat → Nat} {M : Nat → Int → Int} (hM : MdAt Γ h x ad M) (hw : mWF M) {a : Int} (ra : -2147483648 ≤ a ∧ a ≤ 2147483647) : Ct l Γ x_Md_blamed y_Md_blamed rm_Md_blamed [.ref x, vi a] h (pE (bi (sp_blamed M a)) h) := by
  refine rz_met (by decide) rfl rfl (Nat.le_of_ble_eq_true rfl) (fun K _ => ?_)
  refine rz_Leq [(0, .ref x), (1, vi a)] rfl ?_
  have l13 := hw.2.2.2.2.2.2.2.2.2.2.2.1
  refine rz_aload_n 0 d_Md_blamed_0 rfl rfl ?_
  refine rz_getf f_Md_202 hM.1 rfl d_Md_blamed_1 ?_
  refine rz_if_eq 29 d_Md_blamed_4 (by decide) (by omega) (fun c4 => ?_) (fun c4 => ?_)
  · refine rz_iconst d_Md_blamed_29 ?_
    exact rz_zreturn (st := []) (ty := .boolean) rfl rfl d_Md_blamed_30 ⟨by decide, by decide⟩ ⟨_, rfl, bi0 (by simp [sp_blamed, *]), rfl⟩
  · refine rz_iload_n 1 d_Md_blamed_7 rfl rfl ?_
    refine rz_iconst d_Md_blamed_8 ?_
    refine rz_iconst d_Md_blamed_9 ?_
    refine rz_callS (As := [vi a, vi 0, vi 3]) (c_Md_in (by omega) ⟨by decide, by decide⟩ ⟨by decide, by decide⟩) m_Md_56 rfl rfl (Nat.le_of_ble_eq_true rfl) ⟨by decide, by decide⟩ ⟨by decide, by decide⟩ d_Md_blamed_10 (kE (h := h) ?_)
    refine rz_if_eqB 29 d_Md_blamed_13 (by decide) (fun c13 => ?_) (fun c13 => ?_)
    · refine rz_iconst d_Md_blamed_29 ?_
      exact rz_zreturn (st := []) (ty := .boolean) rfl rfl d_Md_blamed_30 ⟨by decide, by decide⟩ ⟨_, rfl, bi0 (by simp [sp_blamed, *]), rfl⟩
    · have n1 := mIn_t.mp c13
      have l15 := hw.2.2.2.2.2.2.2.2.2.2.2.2.2 a (by omega) (by omega)
      refine rz_aload_n 0 d_Md_blamed_16 rfl rfl ?_
      refine rz_getf f_Md_47 hM.1 rfl d_Md_blamed_17 ?_
      refine rz_iload_n 1 d_Md_blamed_20 rfl rfl ?_
      refine rz_zaload (md_a15 hM) (by decide) (by omega) d_Md_blamed_21 ?_
      refine rz_if_eq 29 d_Md_blamed_22 (by decide) (by omega) (fun c22 => ?_) (fun c22 => ?_)
      · refine rz_iconst d_Md_blamed_29 ?_
        exact rz_zreturn (st := []) (ty := .boolean) rfl rfl d_Md_blamed_30 ⟨by decide, by decide⟩ ⟨_, rfl, bi0 (by simp [sp_blamed, *]), rfl⟩
      · refine rz_iconst d_Md_blamed_25 ?_
        refine rz_goto 30 d_Md_blamed_26 (by decide) ?_
        exact rz_zreturn (st := []) (ty := .boolean) rfl rfl d_Md_blamed_30 ⟨by decide, by decide⟩ ⟨_, rfl, bi1 (by simp [sp_blamed, *]), rfl⟩
def ctT (M : Nat → Int → Int) (k : Int) : Bool := decide (k % 4 < M 2 (k / 4))
/-- releases, withdrawn ones, needs, of the first k places -/
def ct2 (M : Nat → Int → Int) : Nat → Int
  | 0 => 0
  | n + 1 => ct2 M n + bi (ctT M n)
def ct3 (M : Nat → Int → Int) : Nat → Int
  | 0 => 0
  | n + 1 => ct3 M n + bi (ctT M n && decide (¬ M 3 n = 0))
def ct4 (M : Nat → Int → Int) : Nat → Int
  | 0 => 0
  | n + 1 => ct4 M n + M 5 n
def sp_count (M : Nat → Int → Int) (a : Int) : Int := if a = 0 then M 1 0 else if a = 1 then M 8 0 else if a = 2 then ct2 M 24 else if a = 3 then ct3 M 24 else if a = 4 then ct4 M 24 else -1
theorem ct_s {f : Nat → Int} {k : Int} {g : Nat → Int} (h : ∀ n, f (n + 1) = f n + g n) (hk : 0 ≤ k) : f (k + 1).toNat = f k.toNat + g k.toNat := by
  rw [show (k + 1).toNat = k.toNat + 1 by omega, h]
theorem ct_in (M : Nat → Int → Int) (hw : mWF M) : ∀ n : Nat, n ≤ 24 → (0 ≤ ct2 M n ∧ ct2 M n ≤ n) ∧ (0 ≤ ct3 M n ∧ ct3 M n ≤ n) ∧ (0 ≤ ct4 M n ∧ ct4 M n ≤ 3 * n)
  | 0, _ => by simp [ct2, ct3, ct4]
  | n + 1, h => by
    have ih := ct_in M hw n (by omega)
    have b1 := bi_in (ctT M n)
    have b2 := bi_in (ctT M n && decide (¬ M 3 n = 0))
    have l := hw.2.2.2.1 n (by omega) (by omega)
    simp only [ct2, ct3, ct4]
    omega
abbrev rm_Md_count : Room := { frames := 1, cells := 0, slots := 0, locals := 22 }
set_option maxRecDepth 100000 in
set_option maxHeartbeats 4000000 in
theorem c_Md_count {l : Launch} {Γ : rz_G} {h : rz_H} {x : Nat} {ad : Nat → Nat} {M : Nat → Int → Int} (hM : MdAt Γ h x ad M) (hw : mWF M) {a : Int} (ra : -2147483648 ≤ a ∧ a ≤ 2147483647) : Ct l Γ x_Md_count y_Md_count rm_Md_count [.ref x, vi a] h (pE (sp_count M a) h) := by
  refine rz_met (by decide) rfl rfl (Nat.le_of_ble_eq_true rfl) (fun K _ => ?_)
  refine rz_Leq [(0, .ref x), (1, vi a)] rfl ?_
  have l8 := hw.2.2.2.2.2.1
  have hlen := hw.1 0 (by omega) (by omega)
  refine rz_iconst d_Md_count_0 ?_
  refine rz_istore_n [(2, vi 0), (0, .ref x), (1, vi a)] d_Md_count_1 rfl (by decide) rfl ?_
  refine rz_iconst d_Md_count_2 ?_
  refine rz_istore_n [(3, vi 0), (2, vi 0), (0, .ref x), (1, vi a)] d_Md_count_3 rfl (by decide) rfl ?_
  refine rz_iconst d_Md_count_4 ?_
  refine rz_istore [(4, vi 0), (3, vi 0), (2, vi 0), (0, .ref x), (1, vi a)] d_Md_count_5 (by decide) rfl ?_
  refine rz_iconst d_Md_count_7 ?_
  refine rz_istore [(5, vi 0), (4, vi 0), (3, vi 0), (2, vi 0), (0, .ref x), (1, vi a)] d_Md_count_8 (by decide) rfl ?_
  refine rz_loop (α := Int × Int × Int × Int) 0 0 10 (fun (k, al, gn, nd) => (24 - k).toNat) (fun (k, al, gn, nd) => 0 ≤ k ∧ k ≤ 24 ∧ al = ct2 M k.toNat ∧ gn = ct3 M k.toNat ∧ nd = ct4 M k.toNat) (fun (k, al, gn, nd) => [(5, vi k), (4, vi nd), (3, vi gn), (2, vi al), (0, .ref x), (1, vi a)]) (fun (k, al, gn, nd) => []) (fun (k, al, gn, nd) => h) (fun y hy ih10 => ?_) (fun LP => ?_)
  · obtain ⟨k, al, gn, nd⟩ := y
    try dsimp only at hy ih10 ⊢
    obtain ⟨hk0, hk1, h2, h3, h4⟩ := hy
    have ci := ct_in M hw k.toNat (by omega)
    refine rz_iload 0 d_Md_count_10 rfl ?_
    refine rz_bipush (v := 24) d_Md_count_12 (by decide) ?_
    refine rz_icmp_ge 84 d_Md_count_14 (by decide) (by omega) ⟨by decide, by decide⟩ (fun c14 => ?_) (fun c14 => ?_)
    · refine rz_iload_n 5 d_Md_count_84 rfl rfl ?_
      refine rz_iconst d_Md_count_85 ?_
      refine rz_iconst d_Md_count_86 ?_
      refine rz_callS (As := [vi a, vi 0, vi 1]) (c_Md_in (by omega) ⟨by decide, by decide⟩ ⟨by decide, by decide⟩) m_Md_56 rfl rfl (Nat.le_of_ble_eq_true rfl) ⟨by decide, by decide⟩ ⟨by decide, by decide⟩ d_Md_count_87 (kE (h := h) ?_)
      refine rz_if_eqB 111 d_Md_count_90 (by decide) (fun c90 => ?_) (fun c90 => ?_)
      · refine rz_iload_n 5 d_Md_count_111 rfl rfl ?_
        refine rz_iconst d_Md_count_112 ?_
        refine rz_iconst d_Md_count_113 ?_
        refine rz_callS (As := [vi a, vi 2, vi 3]) (c_Md_in (by omega) ⟨by decide, by decide⟩ ⟨by decide, by decide⟩) m_Md_56 rfl rfl (Nat.le_of_ble_eq_true rfl) ⟨by decide, by decide⟩ ⟨by decide, by decide⟩ d_Md_count_114 (kE (h := h) ?_)
        refine rz_if_eqB 131 d_Md_count_117 (by decide) (fun c117 => ?_) (fun c117 => ?_)
        · refine rz_iload_n 5 d_Md_count_131 rfl rfl ?_
          refine rz_iconst d_Md_count_132 ?_
          refine rz_icmp_ne 141 d_Md_count_133 (by decide) (by omega) ⟨by decide, by decide⟩ (fun c133 => ?_) (fun c133 => ?_)
          · refine rz_iconst d_Md_count_141 ?_
            exact rz_ireturn (st := []) rfl d_Md_count_142 ⟨by decide, by decide⟩ ⟨_, rfl, (by unfold sp_count; first | (have n1 := mIn_t.mp c90; first | (rw [if_pos (by omega)]; done) | (rw [if_neg (by omega), if_pos (by omega)]; done)) | (have n0 := mIn_f.mp c90; have n1 := mIn_t.mp c117; first | (rw [if_neg (by omega), if_neg (by omega), if_pos (by omega), h2, show k.toNat = 24 by omega]; done) | (rw [if_neg (by omega), if_neg (by omega), if_neg (by omega), if_pos (by omega), h3, show k.toNat = 24 by omega]; done)) | (have n0 := mIn_f.mp c90; have n1 := mIn_f.mp c117; first | (rw [if_neg (by omega), if_neg (by omega), if_neg (by omega), if_neg (by omega), if_pos (by omega), h4, show k.toNat = 24 by omega]; done) | (rw [if_neg (by omega), if_neg (by omega), if_neg (by omega), if_neg (by omega), if_neg (by omega)]; done))), rfl⟩
          · refine rz_iload 1 d_Md_count_136 rfl ?_
            refine rz_goto 142 d_Md_count_138 (by decide) ?_
            exact rz_ireturn (st := []) rfl d_Md_count_142 ⟨by decide, by decide⟩ ⟨_, rfl, (by unfold sp_count; first | (have n1 := mIn_t.mp c90; first | (rw [if_pos (by omega)]; done) | (rw [if_neg (by omega), if_pos (by omega)]; done)) | (have n0 := mIn_f.mp c90; have n1 := mIn_t.mp c117; first | (rw [if_neg (by omega), if_neg (by omega), if_pos (by omega), h2, show k.toNat = 24 by omega]; done) | (rw [if_neg (by omega), if_neg (by omega), if_neg (by omega), if_pos (by omega), h3, show k.toNat = 24 by omega]; done)) | (have n0 := mIn_f.mp c90; have n1 := mIn_f.mp c117; first | (rw [if_neg (by omega), if_neg (by omega), if_neg (by omega), if_neg (by omega), if_pos (by omega), h4, show k.toNat = 24 by omega]; done) | (rw [if_neg (by omega), if_neg (by omega), if_neg (by omega), if_neg (by omega), if_neg (by omega)]; done))), rfl⟩
        · refine rz_iload_n 5 d_Md_count_120 rfl rfl ?_
          refine rz_iconst d_Md_count_121 ?_
          refine rz_icmp_ne 129 d_Md_count_122 (by decide) (by omega) ⟨by decide, by decide⟩ (fun c122 => ?_) (fun c122 => ?_)
          · refine rz_iload_n 2 d_Md_count_129 rfl rfl ?_
            exact rz_ireturn (st := []) rfl d_Md_count_130 ⟨by decide, by decide⟩ ⟨_, rfl, (by unfold sp_count; first | (have n1 := mIn_t.mp c90; first | (rw [if_pos (by omega)]; done) | (rw [if_neg (by omega), if_pos (by omega)]; done)) | (have n0 := mIn_f.mp c90; have n1 := mIn_t.mp c117; first | (rw [if_neg (by omega), if_neg (by omega), if_pos (by omega), h2, show k.toNat = 24 by omega]; done) | (rw [if_neg (by omega), if_neg (by omega), if_neg (by omega), if_pos (by omega), h3, show k.toNat = 24 by omega]; done)) | (have n0 := mIn_f.mp c90; have n1 := mIn_f.mp c117; first | (rw [if_neg (by omega), if_neg (by omega), if_neg (by omega), if_neg (by omega), if_pos (by omega), h4, show k.toNat = 24 by omega]; done) | (rw [if_neg (by omega), if_neg (by omega), if_neg (by omega), if_neg (by omega), if_neg (by omega)]; done))), rfl⟩
          · refine rz_iload_n 3 d_Md_count_125 rfl rfl ?_
            refine rz_goto 130 d_Md_count_126 (by decide) ?_
            exact rz_ireturn (st := []) rfl d_Md_count_130 ⟨by decide, by decide⟩ ⟨_, rfl, (by unfold sp_count; first | (have n1 := mIn_t.mp c90; first | (rw [if_pos (by omega)]; done) | (rw [if_neg (by omega), if_pos (by omega)]; done)) | (have n0 := mIn_f.mp c90; have n1 := mIn_t.mp c117; first | (rw [if_neg (by omega), if_neg (by omega), if_pos (by omega), h2, show k.toNat = 24 by omega]; done) | (rw [if_neg (by omega), if_neg (by omega), if_neg (by omega), if_pos (by omega), h3, show k.toNat = 24 by omega]; done)) | (have n0 := mIn_f.mp c90; have n1 := mIn_f.mp c117; first | (rw [if_neg (by omega), if_neg (by omega), if_neg (by omega), if_neg (by omega), if_pos (by omega), h4, show k.toNat = 24 by omega]; done) | (rw [if_neg (by omega), if_neg (by omega), if_neg (by omega), if_neg (by omega), if_neg (by omega)]; done))), rfl⟩
      · refine rz_iload_n 5 d_Md_count_93 rfl rfl ?_
        refine rz_if_ne 106 d_Md_count_94 (by decide) (by omega) (fun c94 => ?_) (fun c94 => ?_)
        · refine rz_aload_n 4 d_Md_count_106 rfl rfl ?_
          refine rz_getf f_Md_167 hM.1 rfl d_Md_count_107 ?_
          exact rz_ireturn (st := []) rfl d_Md_count_110 ⟨by decide, by decide⟩ ⟨_, rfl, (by unfold sp_count; first | (have n1 := mIn_t.mp c90; first | (rw [if_pos (by omega)]; done) | (rw [if_neg (by omega), if_pos (by omega)]; done)) | (have n0 := mIn_f.mp c90; have n1 := mIn_t.mp c117; first | (rw [if_neg (by omega), if_neg (by omega), if_pos (by omega), h2, show k.toNat = 24 by omega]; done) | (rw [if_neg (by omega), if_neg (by omega), if_neg (by omega), if_pos (by omega), h3, show k.toNat = 24 by omega]; done)) | (have n0 := mIn_f.mp c90; have n1 := mIn_f.mp c117; first | (rw [if_neg (by omega), if_neg (by omega), if_neg (by omega), if_neg (by omega), if_pos (by omega), h4, show k.toNat = 24 by omega]; done) | (rw [if_neg (by omega), if_neg (by omega), if_neg (by omega), if_neg (by omega), if_neg (by omega)]; done))), rfl⟩
        · refine rz_aload_n 4 d_Md_count_97 rfl rfl ?_
          refine rz_getf f_Md_13 hM.1 rfl d_Md_count_98 ?_
          refine rz_iconst d_Md_count_101 ?_
          refine rz_iaload (md_a1 hM) (by decide) (by omega) d_Md_count_102 ?_
          refine rz_goto 110 d_Md_count_103 (by decide) ?_
          exact rz_ireturn (st := []) rfl d_Md_count_110 ⟨by decide, by decide⟩ ⟨_, rfl, (by unfold sp_count; first | (have n1 := mIn_t.mp c90; first | (rw [if_pos (by omega)]; done) | (rw [if_neg (by omega), if_pos (by omega)]; done)) | (have n0 := mIn_f.mp c90; have n1 := mIn_t.mp c117; first | (rw [if_neg (by omega), if_neg (by omega), if_pos (by omega), h2, show k.toNat = 24 by omega]; done) | (rw [if_neg (by omega), if_neg (by omega), if_neg (by omega), if_pos (by omega), h3, show k.toNat = 24 by omega]; done)) | (have n0 := mIn_f.mp c90; have n1 := mIn_f.mp c117; first | (rw [if_neg (by omega), if_neg (by omega), if_neg (by omega), if_neg (by omega), if_pos (by omega), h4, show k.toNat = 24 by omega]; done) | (rw [if_neg (by omega), if_neg (by omega), if_neg (by omega), if_neg (by omega), if_neg (by omega)]; done))), rfl⟩
    · have l2 := hw.2.2.1 (k / 4) (by omega) (by omega)
      have l3 := hw.2.2.2.2.2.2.2.1 k (by omega) (by omega)
      have l5 := hw.2.2.2.1 k (by omega) (by omega)
      refine rz_cut (α := Unit) 0 0 38 (fun _ => True) (fun _ => [(5, vi k), (4, vi nd), (3, vi gn), (2, vi al), (0, .ref x), (1, vi a)]) (fun _ => [vi (bi (ctT M k))]) (fun _ => h) (fun _ _ => ?_) (fun J38 => ?_)
      · refine rz_istore [(6, vi (bi (ctT M k))), (5, vi k), (4, vi nd), (3, vi gn), (2, vi al), (0, .ref x), (1, vi a)] d_Md_count_38 (by decide) rfl ?_
        refine rz_cut (α := Unit) 0 0 48 (fun _ => True) (fun _ => [(2, vi (al + bi (ctT M k))), (6, vi (bi (ctT M k))), (5, vi k), (4, vi nd), (3, vi gn), (0, .ref x), (1, vi a)]) (fun _ => []) (fun _ => h) (fun _ _ => ?_) (fun J48 => ?_)
        · refine rz_cut (α := Unit) 0 0 66 (fun _ => True) (fun _ => [(3, vi (gn + bi (ctT M k && decide (¬ M 3 k = 0)))), (2, vi (al + bi (ctT M k))), (6, vi (bi (ctT M k))), (5, vi k), (4, vi nd), (0, .ref x), (1, vi a)]) (fun _ => []) (fun _ => h) (fun _ _ => ?_) (fun J66 => ?_)
          · refine rz_iload 4 d_Md_count_66 rfl ?_
            refine rz_aload_n 5 d_Md_count_68 rfl rfl ?_
            refine rz_getf f_Md_26 hM.1 rfl d_Md_count_69 ?_
            refine rz_iload 3 d_Md_count_72 rfl ?_
            refine rz_iaload (md_a5 hM) (by decide) (by omega) d_Md_count_74 ?_
            refine rz_iadd d_Md_count_75 ?_
            refine rz_istore [(4, vi (nd + (M 5 k))), (3, vi (gn + bi (ctT M k && decide (¬ M 3 k = 0)))), (2, vi (al + bi (ctT M k))), (6, vi (bi (ctT M k))), (5, vi k), (0, .ref x), (1, vi a)] d_Md_count_76 (by decide) rfl ?_
            refine rz_iinc (k + 1) 4 [(5, vi (k + 1)), (4, vi (nd + (M 5 k))), (3, vi (gn + bi (ctT M k && decide (¬ M 3 k = 0)))), (2, vi (al + bi (ctT M k))), (6, vi (bi (ctT M k))), (0, .ref x), (1, vi a)] d_Md_count_78 rfl (by first | rfl | omega) (by decide) rfl ?_
            refine rz_goto 10 d_Md_count_81 (by decide) ?_
            refine rz_Lsub [(5, vi (k + 1)), (4, vi (nd + (M 5 k))), (3, vi (gn + bi (ctT M k && decide (¬ M 3 k = 0)))), (2, vi (al + bi (ctT M k))), (0, .ref x), (1, vi a)] [0, 1, 2, 3, 5, 6] rfl ?_
            exact ih10 (k + 1, al + bi (ctT M k), gn + bi (ctT M k && decide (¬ M 3 k = 0)), nd + (M 5 k)) ⟨by omega, by omega, (by rw [ct_s (f := ct2 M) (g := fun n => bi (ctT M n)) (fun _ => rfl) hk0, ← h2]; simp only [show ((k.toNat : Nat) : Int) = k by omega]), (by rw [ct_s (f := ct3 M) (g := fun n => bi (ctT M n && decide (¬ M 3 n = 0))) (fun _ => rfl) hk0, ← h3]; simp only [show ((k.toNat : Nat) : Int) = k by omega]), (by rw [ct_s (f := ct4 M) (g := fun n => M 5 n) (fun _ => rfl) hk0, ← h4]; simp only [show ((k.toNat : Nat) : Int) = k by omega])⟩ (by first | omega | (dsimp only; omega))
          · refine rz_iload 1 d_Md_count_48 rfl ?_
            refine rz_if_eqB 66 d_Md_count_50 (by decide) (fun c50 => ?_) (fun c50 => ?_)
            · refine rz_Lsub [(3, vi gn), (2, vi (al + bi (ctT M k))), (6, vi (bi (ctT M k))), (5, vi k), (4, vi nd), (0, .ref x), (1, vi a)] [4, 0, 1, 2, 3, 5, 6] rfl ?_
              refine rz_Leq [(3, vi (gn + bi (ctT M k && decide (¬ M 3 k = 0)))), (2, vi (al + bi (ctT M k))), (6, vi (bi (ctT M k))), (5, vi k), (4, vi nd), (0, .ref x), (1, vi a)] (by first | (rw [c50]; simp [bi]; done) | (rw [c50]; simp [bi, c60]; done)) ?_
              exact J66 () trivial
            · refine rz_aload_n 5 d_Md_count_53 rfl rfl ?_
              refine rz_getf f_Md_19 hM.1 rfl d_Md_count_54 ?_
              refine rz_iload 2 d_Md_count_57 rfl ?_
              refine rz_zaload (md_a3 hM) (by decide) (by omega) d_Md_count_59 ?_
              refine rz_if_eq 66 d_Md_count_60 (by decide) (by omega) (fun c60 => ?_) (fun c60 => ?_)
              · refine rz_Lsub [(3, vi gn), (2, vi (al + bi (ctT M k))), (6, vi (bi (ctT M k))), (5, vi k), (4, vi nd), (0, .ref x), (1, vi a)] [4, 0, 1, 2, 3, 5, 6] rfl ?_
                refine rz_Leq [(3, vi (gn + bi (ctT M k && decide (¬ M 3 k = 0)))), (2, vi (al + bi (ctT M k))), (6, vi (bi (ctT M k))), (5, vi k), (4, vi nd), (0, .ref x), (1, vi a)] (by first | (rw [c50]; simp [bi]; done) | (rw [c50]; simp [bi, c60]; done)) ?_
                exact J66 () trivial
              · refine rz_iinc (gn + 1) 4 [(3, vi (gn + 1)), (2, vi (al + bi (ctT M k))), (6, vi (bi (ctT M k))), (5, vi k), (4, vi nd), (0, .ref x), (1, vi a)] d_Md_count_63 rfl (by first | rfl | omega) (by decide) rfl ?_
                refine rz_Lsub [(3, vi (gn + 1)), (2, vi (al + bi (ctT M k))), (6, vi (bi (ctT M k))), (5, vi k), (4, vi nd), (0, .ref x), (1, vi a)] [0, 1, 2, 3, 4, 5, 6] rfl ?_
                refine rz_Leq [(3, vi (gn + bi (ctT M k && decide (¬ M 3 k = 0)))), (2, vi (al + bi (ctT M k))), (6, vi (bi (ctT M k))), (5, vi k), (4, vi nd), (0, .ref x), (1, vi a)] (by first | (rw [c50]; simp [bi]; done) | (rw [c50]; simp [bi, c60]; done)) ?_
                exact J66 () trivial
        · refine rz_iload 0 d_Md_count_40 rfl ?_
          refine rz_if_eqB 48 d_Md_count_42 (by decide) (fun c42 => ?_) (fun c42 => ?_)
          · refine rz_Lsub [(2, vi al), (6, vi (bi (ctT M k))), (5, vi k), (4, vi nd), (3, vi gn), (0, .ref x), (1, vi a)] [4, 0, 1, 2, 3, 5, 6] rfl ?_
            refine rz_Leq [(2, vi (al + bi (ctT M k))), (6, vi (bi (ctT M k))), (5, vi k), (4, vi nd), (3, vi gn), (0, .ref x), (1, vi a)] (by rw [c42]; simp [bi]) ?_
            exact J48 () trivial
          · refine rz_iinc (al + 1) 4 [(2, vi (al + 1)), (6, vi (bi (ctT M k))), (5, vi k), (4, vi nd), (3, vi gn), (0, .ref x), (1, vi a)] d_Md_count_45 rfl (by first | rfl | omega) (by decide) rfl ?_
            refine rz_Lsub [(2, vi (al + 1)), (6, vi (bi (ctT M k))), (5, vi k), (4, vi nd), (3, vi gn), (0, .ref x), (1, vi a)] [0, 1, 2, 3, 4, 5, 6] rfl ?_
            refine rz_Leq [(2, vi (al + bi (ctT M k))), (6, vi (bi (ctT M k))), (5, vi k), (4, vi nd), (3, vi gn), (0, .ref x), (1, vi a)] (by rw [c42]; simp [bi]) ?_
            exact J48 () trivial
      · refine rz_iload 0 d_Md_count_17 rfl ?_
        refine rz_iconst d_Md_count_19 ?_
        refine rz_irem (by omega) (by omega) d_Md_count_20 ?_
        refine rz_aload_n 4 d_Md_count_21 rfl rfl ?_
        refine rz_getf f_Md_16 hM.1 rfl d_Md_count_22 ?_
        refine rz_iload 0 d_Md_count_25 rfl ?_
        refine rz_iconst d_Md_count_27 ?_
        refine rz_idiv (by omega) (by omega) d_Md_count_28 ?_
        refine rz_iaload (md_a2 hM) (by decide) (by omega) d_Md_count_29 ?_
        refine rz_icmp_ge 37 d_Md_count_30 (by decide) (by omega) (by omega) (fun c30 => ?_) (fun c30 => ?_)
        · refine rz_iconst d_Md_count_37 ?_
          refine rz_Seq [vi (bi (ctT M k))] (by rw [show ctT M k = false from by simp [ctT]; omega]; rfl) ?_
          exact J38 () trivial
        · refine rz_iconst d_Md_count_33 ?_
          refine rz_goto 38 d_Md_count_34 (by decide) ?_
          refine rz_Seq [vi (bi (ctT M k))] (by rw [show ctT M k = true from by simp [ctT]; omega]; rfl) ?_
          exact J38 () trivial
  · refine rz_Lsub [(5, vi 0), (4, vi 0), (3, vi 0), (2, vi 0), (0, .ref x), (1, vi a)] [0, 1, 2, 3, 4, 5] rfl ?_
    exact LP (0, 0, 0, 0) ⟨by decide, by decide, rfl, rfl, rfl⟩
end
section
/-! the reference: rank, unask -/
/-- where the k-th item is looked for -/
def rkP (f : Int → Int) (n : Int) : Nat → Int
  | 0 => 0
  | k + 1 => if itS f (rkP f n k) n < n then itE f (rkP f n k) n else n
theorem rkP_in (f : Int → Int) {n : Int} (hn : 0 ≤ n) : ∀ k, 0 ≤ rkP f n k ∧ rkP f n k ≤ n
  | 0 => by simp [rkP]; omega
  | k + 1 => by
    have ih := rkP_in f hn k
    have h1 := itS_in f (rkP f n k) n
    have h2 := itE_in f (rkP f n k) n
    simp only [rkP]
    split <;> omega
def sp_rankR (f : Int → Int) (n i : Int) : Int := if i < 0 ∨ 12 < i then 6 else ordR f (rkP f n i.toNat) n
def sp_rank (M : Nat → Int → Int) (i : Int) : Int × (Nat → Int → Int) := if ver (mAt M 0) 0 (M 1 0) = true then (sp_rankR (mAt M 0) (M 1 0) i, mUse M) else (-3, mUse M)
abbrev rm_Md_rank : Room := { frames := 5, cells := 0, slots := 0, locals := 119 }
set_option maxRecDepth 100000 in
set_option maxHeartbeats 4000000 in
theorem c_Md_rank {l : Launch} {Γ : rz_G} {h : rz_H} {x : Nat} {ad : Nat → Nat} {M : Nat → Int → Int} (hM : MdAt Γ h x ad M) (hw : mWF M) {i : Int} (ri : -2147483648 ≤ i ∧ i ≤ 2147483647) : Ct l Γ x_Md_rank y_Md_rank rm_Md_rank [.ref x, vi i] h (pI (fun r' h' => r' = (sp_rank M i).1 ∧ ∃ M', MdAt Γ h' x ad M' ∧ mS2 (sp_rank M i).2 M' ∧ rz_fr [10, 11] h h')) := by
  refine rz_met (by decide) rfl rfl (Nat.le_of_ble_eq_true rfl) (fun K _ => ?_)
  refine rz_Leq [(0, .ref x), (1, vi i)] rfl ?_
  have hlen := hw.1 0 (by omega) (by omega)
  refine rz_aload_n 0 d_Md_rank_0 rfl rfl ?_
  refine rz_iconst d_Md_rank_1 ?_
  refine rz_iconst d_Md_rank_2 ?_
  refine rz_aload_n 0 d_Md_rank_3 rfl rfl ?_
  refine rz_getf f_Md_13 hM.1 rfl d_Md_rank_4 ?_
  refine rz_iconst d_Md_rank_7 ?_
  refine rz_iaload (md_a1 hM) (by decide) (by omega) d_Md_rank_8 ?_
  refine rz_callV (As := [vi 0, vi 0, vi (M 1 0)]) (c_Md_version hM hw (by omega) (by omega) (by omega)) m_Md_143 hM.1 rfl rfl rfl rfl (Nat.le_of_ble_eq_true rfl) ⟨by decide, by decide⟩ ⟨by decide, by decide⟩ d_Md_rank_9 (kE (h := h) ?_)
  refine rz_if_neB 22 d_Md_rank_12 (by decide) (fun c12 => ?_) (fun c12 => ?_)
  · refine rz_iconst d_Md_rank_22 ?_
    refine rz_istore_n [(2, vi 0), (0, .ref x), (1, vi i)] d_Md_rank_23 rfl (by decide) rfl ?_
    refine rz_iconst d_Md_rank_24 ?_
    refine rz_istore_n [(3, vi 1), (2, vi 0), (0, .ref x), (1, vi i)] d_Md_rank_25 rfl (by decide) rfl ?_
    refine rz_iconst d_Md_rank_26 ?_
    refine rz_istore [(4, vi 0), (3, vi 1), (2, vi 0), (0, .ref x), (1, vi i)] d_Md_rank_27 (by decide) rfl ?_
    refine rz_loop (α := Int × Int × Bool × rz_H × (Nat → Int → Int)) 0 0 29 (fun (k, p, th, hA, MA) => (13 - k).toNat) (fun (k, p, th, hA, MA) => 0 ≤ k ∧ k ≤ 13 ∧ (k ≤ i + 1 ∨ k = 0) ∧ p = rkP (mAt M 0) (M 1 0) k.toNat ∧ MdAt Γ hA x ad MA ∧ mS2 M MA ∧ rz_fr [10, 11] h hA ∧ (0 < k → MA 17 0 = itS (mAt M 0) (rkP (mAt M 0) (M 1 0) (k - 1).toNat) (M 1 0) ∧ MA 18 0 = itE (mAt M 0) (rkP (mAt M 0) (M 1 0) (k - 1).toNat) (M 1 0) ∧ th = decide (itS (mAt M 0) (rkP (mAt M 0) (M 1 0) (k - 1).toNat) (M 1 0) < M 1 0))) (fun (k, p, th, hA, MA) => [(4, vi k), (3, vi (bi th)), (2, vi p), (0, .ref x), (1, vi i)]) (fun (k, p, th, hA, MA) => []) (fun (k, p, th, hA, MA) => hA) (fun y hy ih29 => ?_) (fun LP => ?_)
    · obtain ⟨k, p, th, hA, MA⟩ := y
      try dsimp only at hy ih29 ⊢
      obtain ⟨hk0, hk1, hki, hp, hMA, hSA, hFA, ht1⟩ := hy
      have hwA := mS2_wf hSA hw
      have ip := rkP_in (mAt M 0) (n := M 1 0) (by omega) k.toNat
      rw [← hp] at ip
      refine rz_iload 0 d_Md_rank_29 rfl ?_
      refine rz_cut (α := Unit) 0 0 79 (fun _ => 12 < k ∨ i < k) (fun _ => [(4, vi k), (3, vi (bi th)), (2, vi p), (0, .ref x), (1, vi i)]) (fun _ => []) (fun _ => hA) (fun _ k79 => ?_) (fun J79 => ?_)
      · refine rz_aload_n 3 d_Md_rank_79 rfl rfl ?_
        refine rz_iload_n 4 d_Md_rank_80 rfl rfl ?_
        refine rz_if_lt 90 d_Md_rank_81 (by decide) (by omega) (fun c81 => ?_) (fun c81 => ?_)
        · refine rz_bipush (v := 6) d_Md_rank_90 (by decide) ?_
          refine rz_goto 101 d_Md_rank_92 (by decide) ?_
          refine rz_callV (As := [vi 6]) (c_Md_used hMA) m_Md_153 hMA.1 rfl rfl rfl rfl (Nat.le_of_ble_eq_true rfl) ⟨by decide, by decide⟩ ⟨by decide, by decide⟩ d_Md_rank_101 (kI (h := hA) fun r1 h1 q1 => ?_)
          obtain ⟨rfl, hM1, hF1⟩ := q1
          have hS1 := mS2_use hSA
          have hG1 := hFA.tr hF1
          exact rz_ireturn (st := []) rfl d_Md_rank_104 ⟨by decide, by decide⟩ ⟨_, rfl, (by rw [sp_rank, if_pos c12]; show _ = sp_rankR _ _ _; rw [sp_rankR, if_pos (by omega)]), (mu MA 1 (rz_u (MA 1) 0 0)), hM1, (by rw [sp_rank, if_pos c12]; exact hS1), hG1⟩
        · refine rz_iload_n 4 d_Md_rank_84 rfl rfl ?_
          refine rz_bipush (v := 12) d_Md_rank_85 (by decide) ?_
          refine rz_icmp_le 95 d_Md_rank_87 (by decide) (by omega) ⟨by decide, by decide⟩ (fun c87 => ?_) (fun c87 => ?_)
          · have kp : 0 < k := by omega
            obtain ⟨s17, s18, eth⟩ := ht1 kp
            obtain ⟨aa, eaa⟩ : ∃ z, z = itS (mAt M 0) (rkP (mAt M 0) (M 1 0) (k - 1).toNat) (M 1 0) := ⟨_, rfl⟩
            obtain ⟨ee, eee⟩ : ∃ z, z = itE (mAt M 0) (rkP (mAt M 0) (M 1 0) (k - 1).toNat) (M 1 0) := ⟨_, rfl⟩
            have i0 := rkP_in (mAt M 0) (n := M 1 0) (by omega) (k - 1).toNat
            have i1 := itS_in (mAt M 0) (rkP (mAt M 0) (M 1 0) (k - 1).toNat) (M 1 0)
            have i2 := itE_in (mAt M 0) (rkP (mAt M 0) (M 1 0) (k - 1).toNat) (M 1 0)
            rw [← eaa] at s17 i1 i2 eth
            rw [← eee] at s18 i2
            refine rz_aload_n 3 d_Md_rank_95 rfl rfl ?_
            refine rz_iconst d_Md_rank_96 ?_
            refine rz_iload_n 1 d_Md_rank_97 rfl rfl ?_
            refine rz_callV (As := [vi 0, vi (bi th)]) (c_Md_rankOf hMA hwA (by omega) (by rw [s17]; omega) (by rw [s18]; omega)) m_Md_132 hMA.1 rfl rfl rfl rfl (Nat.le_of_ble_eq_true rfl) ⟨by decide, by decide⟩ ⟨by decide, by decide⟩ d_Md_rank_98 (kE (h := hA) ?_)
            rw [mS2_at hSA, s17, s18]
            refine rz_callV (As := [vi (if th = true then rkI (mAt M 0) aa ee else 6)]) (c_Md_used hMA) m_Md_153 hMA.1 rfl rfl rfl rfl (Nat.le_of_ble_eq_true rfl) ⟨by decide, by decide⟩ ⟨by decide, by decide⟩ d_Md_rank_101 (kI (h := hA) fun r2 h2 q2 => ?_)
            obtain ⟨rfl, hM2, hF2⟩ := q2
            have hS2 := mS2_use hSA
            have hG2 := hFA.tr hF2
            exact rz_ireturn (st := []) rfl d_Md_rank_104 ⟨by decide, by decide⟩ ⟨_, rfl, (by rw [sp_rank, if_pos c12]; show _ = sp_rankR _ _ _; rw [sp_rankR, if_neg (show ¬ (i < 0 ∨ 12 < i) by omega), ordR, ← show k - 1 = i by omega, eth, ← eaa, ← eee]; simp), (mu MA 1 (rz_u (MA 1) 0 0)), hM2, (by rw [sp_rank, if_pos c12]; exact hS2), hG2⟩
          · refine rz_bipush (v := 6) d_Md_rank_90 (by decide) ?_
            refine rz_goto 101 d_Md_rank_92 (by decide) ?_
            refine rz_callV (As := [vi 6]) (c_Md_used hMA) m_Md_153 hMA.1 rfl rfl rfl rfl (Nat.le_of_ble_eq_true rfl) ⟨by decide, by decide⟩ ⟨by decide, by decide⟩ d_Md_rank_101 (kI (h := hA) fun r3 h3 q3 => ?_)
            obtain ⟨rfl, hM3, hF3⟩ := q3
            have hS3 := mS2_use hSA
            have hG3 := hFA.tr hF3
            exact rz_ireturn (st := []) rfl d_Md_rank_104 ⟨by decide, by decide⟩ ⟨_, rfl, (by rw [sp_rank, if_pos c12]; show _ = sp_rankR _ _ _; rw [sp_rankR, if_pos (by omega)]), (mu MA 1 (rz_u (MA 1) 0 0)), hM3, (by rw [sp_rank, if_pos c12]; exact hS3), hG3⟩
      · refine rz_bipush (v := 12) d_Md_rank_31 (by decide) ?_
        refine rz_icmp_gt 79 d_Md_rank_33 (by decide) (by omega) ⟨by decide, by decide⟩ (fun c33 => ?_) (fun c33 => ?_)
        · exact J79 () (by omega)
        · refine rz_iload 0 d_Md_rank_36 rfl ?_
          refine rz_iload_n 4 d_Md_rank_38 rfl rfl ?_
          refine rz_icmp_gt 79 d_Md_rank_39 (by decide) (by omega) (by omega) (fun c39 => ?_) (fun c39 => ?_)
          · exact J79 () (by omega)
          · refine rz_aload_n 3 d_Md_rank_42 rfl rfl ?_
            refine rz_iconst d_Md_rank_43 ?_
            refine rz_iload_n 2 d_Md_rank_44 rfl rfl ?_
            refine rz_aload_n 3 d_Md_rank_45 rfl rfl ?_
            refine rz_getf f_Md_13 hMA.1 rfl d_Md_rank_46 ?_
            refine rz_iconst d_Md_rank_49 ?_
            refine rz_iaload (md_a1 hMA) (by decide) (by omega) d_Md_rank_50 ?_
            rw [hSA 1 (by decide) (by decide)]
            refine rz_callV (As := [vi 0, vi p, vi (M 1 0)]) (c_Md_item hMA hwA (by omega) (by omega) (by omega)) m_Md_129 hMA.1 rfl rfl rfl rfl (Nat.le_of_ble_eq_true rfl) ⟨by decide, by decide⟩ ⟨by decide, by decide⟩ d_Md_rank_51 (kI (h := hA) fun r4 h4 q4 => ?_)
            obtain ⟨rfl, hM4, hF4⟩ := q4
            obtain ⟨a, ea⟩ : ∃ z, z = itS (mAt M 0) p (M 1 0) := ⟨_, rfl⟩
            obtain ⟨ae, eae⟩ : ∃ z, z = itE (mAt M 0) p (M 1 0) := ⟨_, rfl⟩
            have ia := itS_in (mAt M 0) p (M 1 0)
            have iae := itE_in (mAt M 0) p (M 1 0)
            rw [mS2_at hSA, ← ea, ← eae] at hM4
            rw [← ea] at ia
            rw [← ea, ← eae] at iae
            rw [mS2_at hSA, ← ea]
            obtain ⟨xb, exb⟩ : ∃ z, z = decide (a < M 1 0) := ⟨_, rfl⟩
            rw [← exb]
            obtain ⟨M4, eM4⟩ : ∃ z, z = mu (mu MA 17 (fun _ => a)) 18 (fun _ => ae) := ⟨_, rfl⟩
            rw [← eM4] at hM4
            have hS4 : mS2 M M4 := by rw [eM4]; exact mS2_it hSA _ _
            have s174 : M4 17 0 = a := by rw [eM4]; rfl
            have s184 : M4 18 0 = ae := by rw [eM4]; rfl
            have hw4 := mS2_wf hS4 hw
            have hG4 := hFA.tr hF4
            refine rz_istore_n [(3, vi (bi xb)), (4, vi k), (2, vi p), (0, .ref x), (1, vi i)] d_Md_rank_54 rfl (by decide) rfl ?_
            refine rz_cut (α := Unit) 0 0 72 (fun _ => True) (fun _ => [(3, vi (bi xb)), (4, vi k), (2, vi p), (0, .ref x), (1, vi i)]) (fun _ => [vi (if a < M 1 0 then ae else M 1 0)]) (fun _ => h4) (fun _ _ => ?_) (fun J72 => ?_)
            · refine rz_istore_n [(2, vi (if a < M 1 0 then ae else M 1 0)), (3, vi (bi xb)), (4, vi k), (0, .ref x), (1, vi i)] d_Md_rank_72 rfl (by decide) rfl ?_
              refine rz_iinc (k + 1) 2 [(4, vi (k + 1)), (2, vi (if a < M 1 0 then ae else M 1 0)), (3, vi (bi xb)), (0, .ref x), (1, vi i)] d_Md_rank_73 rfl (by first | rfl | omega) (by decide) rfl ?_
              refine rz_goto 29 d_Md_rank_76 (by decide) ?_
              refine rz_Lsub [(4, vi (k + 1)), (3, vi (bi xb)), (2, vi (if a < M 1 0 then ae else M 1 0)), (0, .ref x), (1, vi i)] [0, 2, 1, 3, 4] rfl ?_
              exact ih29 (k + 1, if a < M 1 0 then ae else M 1 0, xb, h4, M4) ⟨by omega, by omega, by omega, (by rw [show (k + 1).toNat = k.toNat + 1 by omega, rkP, ← hp, ← ea, ← eae]), hM4, hS4, hG4, (fun _ => by rw [show k + 1 - 1 = k by omega, ← hp, ← ea, ← eae]; exact ⟨s174, s184, exb⟩)⟩ (by first | omega | (dsimp only; omega))
            · refine rz_iload_n 0 d_Md_rank_55 rfl rfl ?_
              refine rz_if_eqB 66 d_Md_rank_56 (by decide) (fun c56 => ?_) (fun c56 => ?_)
              · refine rz_aload_n 3 d_Md_rank_66 rfl rfl ?_
                refine rz_getf f_Md_13 hM4.1 rfl d_Md_rank_67 ?_
                refine rz_iconst d_Md_rank_70 ?_
                refine rz_iaload (md_a1 hM4) (by decide) (by omega) d_Md_rank_71 ?_
                rw [hS4 1 (by decide) (by decide)]
                refine rz_Seq [vi (if a < M 1 0 then ae else M 1 0)] (by rw [if_neg (by simpa [c56] using exb)]) ?_
                exact J72 () trivial
              · refine rz_aload_n 3 d_Md_rank_59 rfl rfl ?_
                refine rz_getf f_Md_82 hM4.1 rfl d_Md_rank_60 ?_
                refine rz_Seq [vi ae] (by rw [← s184]) ?_
                refine rz_goto 72 d_Md_rank_63 (by decide) ?_
                refine rz_Seq [vi (if a < M 1 0 then ae else M 1 0)] (by rw [if_pos (by simpa [c56] using exb)]) ?_
                exact J72 () trivial
    · refine rz_Lsub [(4, vi 0), (3, vi 1), (2, vi 0), (0, .ref x), (1, vi i)] [0, 1, 2, 3, 4] rfl ?_
      exact LP (0, 0, true, h, M) ⟨by omega, by omega, by omega, rfl, hM, mS2.rf, rz_fr.rf, (fun q => absurd q (by omega))⟩
  · refine rz_aload_n 0 d_Md_rank_15 rfl rfl ?_
    refine rz_bipush (v := (-3)) d_Md_rank_16 (by decide) ?_
    refine rz_callV (As := [vi (-3)]) (c_Md_used hM) m_Md_153 hM.1 rfl rfl rfl rfl (Nat.le_of_ble_eq_true rfl) ⟨by decide, by decide⟩ ⟨by decide, by decide⟩ d_Md_rank_18 (kI (h := h) fun r5 h5 q5 => ?_)
    obtain ⟨rfl, hM5, hF5⟩ := q5
    have hS5 := mS2_use (mS2.rf (M := M))
    have hG5 := (rz_fr.rf (rs := [10, 11]) (h := h)).tr hF5
    exact rz_ireturn (st := []) rfl d_Md_rank_21 ⟨by decide, by decide⟩ ⟨_, rfl, (by rw [sp_rank, if_neg (by simp [*])]), (mu M 1 (rz_u (M 1) 0 0)), hM5, (by rw [sp_rank, if_neg (by simp [*])]; exact hS5), hG5⟩
/-- the asks behind a are moved one place on, up to b -/
def uaS (M : Nat → Int → Int) (a b : Int) : Nat → Int → Int := mu (mu (mu M 9 (fun j => if a ≤ j ∧ j < b then M 9 (j + 1) else M 9 j)) 1 (fun j => if a + 2 ≤ j ∧ j < b + 2 then M 1 (j + 1) else M 1 j)) 0 (fun j => if 48 + 24 * a ≤ j ∧ j < 48 + 24 * b then M 0 (j + 24) else M 0 j)
def sp_unask (M : Nat → Int → Int) (a : Int) : Int × (Nat → Int → Int) := if mIn a 0 (M 8 0 - 1) = true then (M 8 0 - 1, uaS (mu M 8 (fun _ => M 8 0 - 1)) a (M 8 0 - 1)) else (-1, M)
theorem uaS_0 (M : Nat → Int → Int) (a : Int) : uaS M a a = M := by
  funext k j
  unfold uaS mu
  split
  · rename_i e; subst e; exact if_neg (by omega)
  · split
    · rename_i e; subst e; exact if_neg (by omega)
    · split
      · rename_i e; subst e; exact if_neg (by omega)
      · rfl
/-- the row of ask b is half moved: i places of its text -/
def uaT (M : Nat → Int → Int) (a b i : Int) : Nat → Int → Int := mu (mu (mu M 9 (fun j => if a ≤ j ∧ j < b + 1 then M 9 (j + 1) else M 9 j)) 1 (fun j => if a + 2 ≤ j ∧ j < b + 3 then M 1 (j + 1) else M 1 j)) 0 (fun j => if 48 + 24 * a ≤ j ∧ j < 48 + 24 * b + i then M 0 (j + 24) else M 0 j)
theorem uaT_24 (M : Nat → Int → Int) (a b : Int) : uaT M a b 24 = uaS M a (b + 1) := by
  unfold uaT uaS
  rw [show 48 + 24 * b + 24 = 48 + 24 * (b + 1) by omega, show b + 1 + 2 = b + 3 by omega]
theorem uaT_0 (M : Nat → Int → Int) {a b : Int} (hab : a ≤ b) : mu (mu (uaS M a b) 9 (rz_u (uaS M a b 9) b (uaS M a b 9 (b + 1)))) 1 (rz_u (mu (uaS M a b) 9 (rz_u (uaS M a b 9) b (uaS M a b 9 (b + 1))) 1) (2 + b) (mu (uaS M a b) 9 (rz_u (uaS M a b 9) b (uaS M a b 9 (b + 1))) 1 (3 + b))) = uaT M a b 0 := by
  funext k j
  by_cases k1 : k = 1
  · subst k1
    rw [mu_s]
    show rz_u (fun j => if a + 2 ≤ j ∧ j < b + 2 then M 1 (j + 1) else M 1 j) (2 + b) (if a + 2 ≤ 3 + b ∧ 3 + b < b + 2 then M 1 (3 + b + 1) else M 1 (3 + b)) j = (if a + 2 ≤ j ∧ j < b + 3 then M 1 (j + 1) else M 1 j)
    by_cases e : j = 2 + b
    · subst e
      rw [rz_u_s, if_neg (by omega), if_pos (by omega)]
      congr 1
      omega
    · rw [rz_u_n e]
      by_cases q : a + 2 ≤ j ∧ j < b + 2
      · rw [if_pos q, if_pos (by omega)]
      · rw [if_neg q, if_neg (by omega)]
  · rw [mu_n k1]
    by_cases k9 : k = 9
    · subst k9
      rw [mu_s]
      show rz_u (fun j => if a ≤ j ∧ j < b then M 9 (j + 1) else M 9 j) b (if a ≤ b + 1 ∧ b + 1 < b then M 9 (b + 1 + 1) else M 9 (b + 1)) j = (if a ≤ j ∧ j < b + 1 then M 9 (j + 1) else M 9 j)
      by_cases e : j = b
      · subst e
        rw [rz_u_s, if_neg (by omega), if_pos (by omega)]
      · rw [rz_u_n e]
        by_cases q : a ≤ j ∧ j < b
        · rw [if_pos q, if_pos (by omega)]
        · rw [if_neg q, if_neg (by omega)]
    · rw [mu_n k9]
      by_cases k0 : k = 0
      · subst k0
        show (if 48 + 24 * a ≤ j ∧ j < 48 + 24 * b then M 0 (j + 24) else M 0 j) = (if 48 + 24 * a ≤ j ∧ j < 48 + 24 * b + 0 then M 0 (j + 24) else M 0 j)
        rw [show 48 + 24 * b + 0 = 48 + 24 * b by omega]
      · unfold uaS uaT
        rw [mu_n k0, mu_n k1, mu_n k9, mu_n k0, mu_n k1, mu_n k9]
theorem uaT_s (M : Nat → Int → Int) {a b i : Int} (hab : a ≤ b) (hi : 0 ≤ i ∧ i < 24) : mu (uaT M a b i) 0 (rz_u (uaT M a b i 0) (48 + 24 * b + i) (uaT M a b i 0 (72 + 24 * b + i))) = uaT M a b (i + 1) := by
  unfold uaT
  rw [mu_mu, mu_s]
  congr 1
  funext j
  by_cases e : j = 48 + 24 * b + i
  · subst e
    rw [rz_u_s, if_neg (by omega), if_pos (by omega)]
    congr 1
    omega
  · rw [rz_u_n e]
    by_cases q : 48 + 24 * a ≤ j ∧ j < 48 + 24 * b + i
    · rw [if_pos q, if_pos (by omega)]
    · rw [if_neg q, if_neg (by omega)]
abbrev rm_Md_unask : Room := { frames := 1, cells := 0, slots := 0, locals := 22 }
set_option maxRecDepth 100000 in
set_option maxHeartbeats 4000000 in
theorem c_Md_unask {l : Launch} {Γ : rz_G} {h : rz_H} {x : Nat} {ad : Nat → Nat} {M : Nat → Int → Int} (hM : MdAt Γ h x ad M) (hw : mWF M) {a : Int} (ra : -2147483648 ≤ a ∧ a ≤ 2147483647) : Ct l Γ x_Md_unask y_Md_unask rm_Md_unask [.ref x, vi a] h (pI (fun r' h' => r' = (sp_unask M a).1 ∧ ∃ M', MdAt Γ h' x ad M' ∧ mS2 (sp_unask M a).2 M' ∧ rz_fr [10, 11] h h')) := by
  refine rz_met (by decide) rfl rfl (Nat.le_of_ble_eq_true rfl) (fun K _ => ?_)
  refine rz_Leq [(0, .ref x), (1, vi a)] rfl ?_
  have l8 := hw.2.2.2.2.2.1
  refine rz_iload_n 1 d_Md_unask_0 rfl rfl ?_
  refine rz_iconst d_Md_unask_1 ?_
  refine rz_aload_n 0 d_Md_unask_2 rfl rfl ?_
  refine rz_getf f_Md_167 hM.1 rfl d_Md_unask_3 ?_
  refine rz_iconst d_Md_unask_6 ?_
  refine rz_isub d_Md_unask_7 ?_
  refine rz_callS (As := [vi a, vi 0, vi ((M 8 0) - 1)]) (c_Md_in (by omega) ⟨by decide, by decide⟩ (by omega)) m_Md_56 rfl rfl (Nat.le_of_ble_eq_true rfl) ⟨by decide, by decide⟩ ⟨by decide, by decide⟩ d_Md_unask_8 (kE (h := h) ?_)
  refine rz_if_neB 16 d_Md_unask_11 (by decide) (fun c11 => ?_) (fun c11 => ?_)
  · have n1 := mIn_t.mp c11
    refine rz_aload_n 0 d_Md_unask_16 rfl rfl ?_
    refine rz_dup d_Md_unask_17 rfl ?_
    refine rz_getf f_Md_167 hM.1 rfl d_Md_unask_18 ?_
    refine rz_iconst d_Md_unask_21 ?_
    refine rz_isub d_Md_unask_22 ?_
    refine md_ps8 hM rz_fr.rf (fp_Md_167 _) d_Md_unask_23 (fun h1 hM1 hF1 => ?_)
    refine rz_iload_n 1 d_Md_unask_26 rfl rfl ?_
    refine rz_istore_n [(2, vi a), (0, .ref x), (1, vi a)] d_Md_unask_27 rfl (by decide) rfl ?_
    refine rz_loop (α := Int × rz_H) 0 0 28 (fun (b, hA) => (M 8 0 - 1 - b).toNat) (fun (b, hA) => a ≤ b ∧ b ≤ M 8 0 - 1 ∧ MdAt Γ hA x ad (uaS (mu M 8 (fun _ => M 8 0 - 1)) a b) ∧ rz_fr [10, 11] h hA) (fun (b, hA) => [(2, vi b), (0, .ref x), (1, vi a)]) (fun (b, hA) => []) (fun (b, hA) => hA) (fun y hy ih28 => ?_) (fun LP => ?_)
    · obtain ⟨b, hA⟩ := y
      try dsimp only at hy ih28 ⊢
      obtain ⟨hb0, hb1, hMA, hFA⟩ := hy
      refine rz_iload_n 0 d_Md_unask_28 rfl rfl ?_
      refine rz_aload_n 1 d_Md_unask_29 rfl rfl ?_
      refine rz_getf f_Md_167 hMA.1 rfl d_Md_unask_30 ?_
      refine rz_Seq [vi (M 8 0 - 1), vi b] rfl ?_
      refine rz_icmp_ge 114 d_Md_unask_33 (by decide) (by omega) (by omega) (fun c33 => ?_) (fun c33 => ?_)
      · refine rz_aload_n 1 d_Md_unask_114 rfl rfl ?_
        refine rz_getf f_Md_167 hMA.1 rfl d_Md_unask_115 ?_
        refine rz_Seq [vi (M 8 0 - 1)] rfl ?_
        exact rz_ireturn (st := []) rfl d_Md_unask_118 ⟨by decide, by decide⟩ ⟨_, rfl, (by rw [sp_unask, if_pos c11]), _, hMA, (by rw [sp_unask, if_pos c11, show b = M 8 0 - 1 by omega]; exact mS2.rf), hFA⟩
      · refine rz_aload_n 1 d_Md_unask_36 rfl rfl ?_
        refine rz_getf f_Md_35 hMA.1 rfl d_Md_unask_37 ?_
        refine rz_iload_n 0 d_Md_unask_40 rfl rfl ?_
        refine rz_aload_n 1 d_Md_unask_41 rfl rfl ?_
        refine rz_getf f_Md_35 hMA.1 rfl d_Md_unask_42 ?_
        refine rz_iload_n 0 d_Md_unask_45 rfl rfl ?_
        refine rz_iconst d_Md_unask_46 ?_
        refine rz_iadd d_Md_unask_47 ?_
        refine rz_iaload (md_a9 hMA) (by decide) (by omega) d_Md_unask_48 ?_
        refine md_st9 hMA hFA (by omega) d_Md_unask_49 (fun h2 hM2 hF2 => ?_)
        refine rz_aload_n 1 d_Md_unask_50 rfl rfl ?_
        refine rz_getf f_Md_13 hM2.1 rfl d_Md_unask_51 ?_
        refine rz_iconst d_Md_unask_54 ?_
        refine rz_iload_n 0 d_Md_unask_55 rfl rfl ?_
        refine rz_iadd d_Md_unask_56 ?_
        refine rz_aload_n 1 d_Md_unask_57 rfl rfl ?_
        refine rz_getf f_Md_13 hM2.1 rfl d_Md_unask_58 ?_
        refine rz_iconst d_Md_unask_61 ?_
        refine rz_iload_n 0 d_Md_unask_62 rfl rfl ?_
        refine rz_iadd d_Md_unask_63 ?_
        refine rz_iaload (md_a1 hM2) (by decide) (by omega) d_Md_unask_64 ?_
        refine md_st1 hM2 hF2 (by omega) d_Md_unask_65 (fun h3 hM3 hF3 => ?_)
        refine rz_iconst d_Md_unask_66 ?_
        refine rz_istore_n [(3, vi 0), (2, vi b), (0, .ref x), (1, vi a)] d_Md_unask_67 rfl (by decide) rfl ?_
        refine rz_loop (α := Int × rz_H) 0 0 68 (fun (i, hB) => (24 - i).toNat) (fun (i, hB) => 0 ≤ i ∧ i ≤ 24 ∧ MdAt Γ hB x ad (uaT (mu M 8 (fun _ => M 8 0 - 1)) a b i) ∧ rz_fr [10, 11] h hB) (fun (i, hB) => [(3, vi i), (2, vi b), (0, .ref x), (1, vi a)]) (fun (i, hB) => []) (fun (i, hB) => hB) (fun y hy ih68 => ?_) (fun LP => ?_)
        · obtain ⟨i, hB⟩ := y
          try dsimp only at hy ih68 ⊢
          obtain ⟨hi0, hi1, hMB, hFB⟩ := hy
          refine rz_iload_n 0 d_Md_unask_68 rfl rfl ?_
          refine rz_bipush (v := 24) d_Md_unask_69 (by decide) ?_
          refine rz_icmp_ge 108 d_Md_unask_71 (by decide) (by omega) ⟨by decide, by decide⟩ (fun c71 => ?_) (fun c71 => ?_)
          · refine rz_iinc (b + 1) 1 [(2, vi (b + 1)), (3, vi i), (0, .ref x), (1, vi a)] d_Md_unask_108 rfl (by first | rfl | omega) (by decide) rfl ?_
            refine rz_goto 28 d_Md_unask_111 (by decide) ?_
            refine rz_Lsub [(2, vi (b + 1)), (0, .ref x), (1, vi a)] [0, 2, 3] rfl ?_
            exact ih28 (b + 1, hB) ⟨by omega, by omega, (by have q := hMB; rw [show i = 24 by omega, uaT_24] at q; exact q), hFB⟩ (by first | omega | (dsimp only; omega))
          · refine rz_aload_n 2 d_Md_unask_74 rfl rfl ?_
            refine rz_getf f_Md_7 hMB.1 rfl d_Md_unask_75 ?_
            refine rz_bipush (v := 48) d_Md_unask_78 (by decide) ?_
            refine rz_bipush (v := 24) d_Md_unask_80 (by decide) ?_
            refine rz_iload_n 1 d_Md_unask_82 rfl rfl ?_
            refine rz_imul d_Md_unask_83 ?_
            refine rz_iadd d_Md_unask_84 ?_
            refine rz_iload_n 0 d_Md_unask_85 rfl rfl ?_
            refine rz_iadd d_Md_unask_86 ?_
            refine rz_aload_n 2 d_Md_unask_87 rfl rfl ?_
            refine rz_getf f_Md_7 hMB.1 rfl d_Md_unask_88 ?_
            refine rz_bipush (v := 72) d_Md_unask_91 (by decide) ?_
            refine rz_bipush (v := 24) d_Md_unask_93 (by decide) ?_
            refine rz_iload_n 1 d_Md_unask_95 rfl rfl ?_
            refine rz_imul d_Md_unask_96 ?_
            refine rz_iadd d_Md_unask_97 ?_
            refine rz_iload_n 0 d_Md_unask_98 rfl rfl ?_
            refine rz_iadd d_Md_unask_99 ?_
            refine rz_iaload (md_a0 hMB) (by decide) (by omega) d_Md_unask_100 ?_
            refine md_st0 hMB hFB (by omega) d_Md_unask_101 (fun h4 hM4 hF4 => ?_)
            refine rz_iinc (i + 1) 0 [(3, vi (i + 1)), (2, vi b), (0, .ref x), (1, vi a)] d_Md_unask_102 rfl (by first | rfl | omega) (by decide) rfl ?_
            refine rz_goto 68 d_Md_unask_105 (by decide) ?_
            refine rz_Lsub [(3, vi (i + 1)), (2, vi b), (0, .ref x), (1, vi a)] [0, 1, 2, 3] rfl ?_
            exact ih68 (i + 1, h4) ⟨by omega, by omega, (by have q := hM4; rw [uaT_s _ (by omega) (by omega)] at q; exact q), hF4⟩ (by first | omega | (dsimp only; omega))
        · refine rz_Lsub [(3, vi 0), (2, vi b), (0, .ref x), (1, vi a)] [0, 1, 2, 3] rfl ?_
          exact LP (0, h3) ⟨by decide, by decide, (by have q := hM3; rw [uaT_0 _ (by omega)] at q; exact q), hF3⟩
    · refine rz_Lsub [(2, vi a), (0, .ref x), (1, vi a)] [0, 1, 2] rfl ?_
      exact LP (a, h1) ⟨by omega, (by have := mIn_t.mp c11; omega), (by rw [uaS_0]; exact hM1), hF1⟩
  · refine rz_iconst d_Md_unask_14 ?_
    exact rz_ireturn (st := []) rfl d_Md_unask_15 ⟨by decide, by decide⟩ ⟨_, rfl, (by rw [sp_unask, if_neg (by simp [*])]), M, hM, (by rw [sp_unask, if_neg (by simp [*])]; exact mS2.rf), rz_fr.rf⟩
end
section
/-! the reference: ranked, meets, releaseGood -/
def mVal (M : Nat → Int → Int) : Prop := vOK M ∧ ver (mAt M 1) 0 (M 1 1) = true ∧ (∀ k, 0 ≤ k → k < 24 → ¬ M 4 k = 0 → rng (mAt M (30 + k)) (M 1 (30 + k)) = true) ∧ (∀ k j, 0 ≤ k → k < 24 → 0 ≤ j → j < M 5 k → rng (mAt M (54 + (3 * k + j))) (M 1 (54 + (3 * k + j))) = true) ∧ (∀ a, 0 ≤ a → a < M 8 0 → rng (mAt M (2 + a)) (M 1 (2 + a)) = true)
def nowOK (M : Nat → Int → Int) : Prop := ∀ p, 0 ≤ p → p < 6 → -1 ≤ M 11 p ∧ M 11 p < M 2 p
theorem mVal_S2 {M M' : Nat → Int → Int} (h : mS2 M M') (hv : mVal M) : mVal M' := by
  refine ⟨vOK_S2 h hv.1, ?_, ?_, ?_, ?_⟩
  · rw [mS2_at h, h 1 (by decide) (by decide)]; exact hv.2.1
  · intro k a b c; rw [mS2_at h, h 1 (by decide) (by decide)]; rw [h 4 (by decide) (by decide)] at c; exact hv.2.2.1 k a b c
  · intro k j a b c d; rw [mS2_at h, h 1 (by decide) (by decide)]; rw [h 5 (by decide) (by decide)] at d; exact hv.2.2.2.1 k j a b c d
  · intro a b c; rw [mS2_at h, h 1 (by decide) (by decide)]; rw [h 8 (by decide) (by decide)] at c; exact hv.2.2.2.2 a b c
theorem nowOK_S2 {M M' : Nat → Int → Int} (h : mS2 M M') (hv : nowOK M) : nowOK M' := by
  intro p a b; rw [h 11 (by decide) (by decide), h 2 (by decide) (by decide)]; exact hv p a b
def cmpR (M : Nat → Int → Int) (p s r : Int) : Int := ord (mAt M (6 + 4 * p + s)) (mAt M (6 + 4 * p + r)) (M 1 (6 + 4 * p + s)) 0 (M 1 (6 + 4 * p + r))
theorem ord_in (f g : Int → Int) (n1 lo hi : Int) : -1 ≤ ord f g n1 lo hi ∧ ord f g n1 lo hi ≤ 1 := ordF_in f g n1 hi 13 0 lo
/-- how many from s on, n of them, are greater than r -/
def gtF (M : Nat → Int → Int) (p r : Int) : Nat → Int → Int
  | 0, _ => 0
  | n + 1, s => (if 0 < cmpR M p s r then 1 else 0) + gtF M p r n (s + 1)
theorem gtF_go {M : Nat → Int → Int} {p r s : Int} {n : Nat} (hn : 0 < n) : gtF M p r n s = (if 0 < cmpR M p s r then 1 else 0) + gtF M p r (n - 1) (s + 1) := by
  cases n with
  | zero => omega
  | succ n => rfl
def gtr (M : Nat → Int → Int) (p r : Int) : Int := gtF M p r (M 2 p).toNat 0
def rdF (M : Nat → Int → Int) (p g : Int) : Nat → Int → Int
  | 0, _ => -1
  | n + 1, r => if gtr M p r = g then r else rdF M p g n (r + 1)
theorem rdF_hit {M : Nat → Int → Int} {p g r : Int} {n : Nat} (hn : 0 < n) (h : gtr M p r = g) : rdF M p g n r = r := by
  cases n with
  | zero => omega
  | succ n => simp only [rdF]; rw [if_pos h]
theorem rdF_go {M : Nat → Int → Int} {p g r : Int} {n : Nat} (hn : 0 < n) (h : ¬ gtr M p r = g) : rdF M p g n r = rdF M p g (n - 1) (r + 1) := by
  cases n with
  | zero => omega
  | succ n => simp only [rdF]; rw [if_neg h]; rfl
/-- the release of p that has just g greater ones, -1 if there is none -/
def rkd (M : Nat → Int → Int) (p g : Int) : Int := rdF M p g (M 2 p).toNat 0
abbrev rm_Md_ranked : Room := { frames := 7, cells := 0, slots := 0, locals := 179 }
set_option maxRecDepth 100000 in
set_option maxHeartbeats 4000000 in
theorem c_Md_ranked {l : Launch} {Γ : rz_G} {h : rz_H} {x : Nat} {ad : Nat → Nat} {M : Nat → Int → Int} (hM : MdAt Γ h x ad M) (hw : mWF M) (hvo : vOK M) {p g : Int} (hp : 0 ≤ p ∧ p < 6) (rg : -2147483648 ≤ g ∧ g ≤ 2147483647) : Ct l Γ x_Md_ranked y_Md_ranked rm_Md_ranked [.ref x, vi p, vi g] h (pI (fun r' h' => r' = rkd M p g ∧ ∃ M', MdAt Γ h' x ad M' ∧ mS2 M M' ∧ rz_fr [10, 11] h h')) := by
  refine rz_met (by decide) rfl rfl (Nat.le_of_ble_eq_true rfl) (fun K _ => ?_)
  refine rz_Leq [(0, .ref x), (1, vi p), (2, vi g)] rfl ?_
  have l2 := hw.2.2.1 p hp.1 hp.2
  refine rz_iconst d_Md_ranked_0 ?_
  refine rz_istore_n [(3, vi 0), (0, .ref x), (1, vi p), (2, vi g)] d_Md_ranked_1 rfl (by decide) rfl ?_
  refine rz_loop (α := Int × rz_H × (Nat → Int → Int)) 0 0 2 (fun (r, hA, MA) => (M 2 p - r).toNat) (fun (r, hA, MA) => 0 ≤ r ∧ r ≤ M 2 p ∧ MdAt Γ hA x ad MA ∧ mS2 M MA ∧ rz_fr [10, 11] h hA ∧ rdF M p g (M 2 p).toNat 0 = rdF M p g (M 2 p - r).toNat r) (fun (r, hA, MA) => [(3, vi r), (0, .ref x), (1, vi p), (2, vi g)]) (fun (r, hA, MA) => []) (fun (r, hA, MA) => hA) (fun y hy ih2 => ?_) (fun LP => ?_)
  · obtain ⟨r, hA, MA⟩ := y
    try dsimp only at hy ih2 ⊢
    obtain ⟨hr0, hr1, hMA, hSA, hFA, hv⟩ := hy
    have hwA := mS2_wf hSA hw
    refine rz_iload_n 0 d_Md_ranked_2 rfl rfl ?_
    refine rz_aload_n 1 d_Md_ranked_3 rfl rfl ?_
    refine rz_getf f_Md_16 hMA.1 rfl d_Md_ranked_4 ?_
    refine rz_iload_n 2 d_Md_ranked_7 rfl rfl ?_
    refine rz_iaload (md_a2 hMA) (by decide) (by omega) d_Md_ranked_8 ?_
    rw [hSA 2 (by decide) (by decide)]
    refine rz_icmp_ge 76 d_Md_ranked_9 (by decide) (by omega) (by omega) (fun c9 => ?_) (fun c9 => ?_)
    · refine rz_iconst d_Md_ranked_76 ?_
      exact rz_ireturn (st := []) rfl d_Md_ranked_77 ⟨by decide, by decide⟩ ⟨_, rfl, (by rw [rkd, hv, show (M 2 p - r).toNat = 0 by omega]; rfl), MA, hMA, hSA, hFA⟩
    · refine rz_iconst d_Md_ranked_12 ?_
      refine rz_istore [(4, vi 0), (3, vi r), (0, .ref x), (1, vi p), (2, vi g)] d_Md_ranked_13 (by decide) rfl ?_
      refine rz_iconst d_Md_ranked_15 ?_
      refine rz_istore [(5, vi 0), (4, vi 0), (3, vi r), (0, .ref x), (1, vi p), (2, vi g)] d_Md_ranked_16 (by decide) rfl ?_
      refine rz_loop (α := Int × Int × rz_H × (Nat → Int → Int)) 0 0 18 (fun (s, n, hB, MB) => (M 2 p - s).toNat) (fun (s, n, hB, MB) => 0 ≤ s ∧ s ≤ M 2 p ∧ (0 ≤ n ∧ n ≤ s) ∧ MdAt Γ hB x ad MB ∧ mS2 M MB ∧ rz_fr [10, 11] h hB ∧ gtF M p r (M 2 p).toNat 0 = n + gtF M p r (M 2 p - s).toNat s) (fun (s, n, hB, MB) => [(5, vi s), (4, vi n), (3, vi r), (0, .ref x), (1, vi p), (2, vi g)]) (fun (s, n, hB, MB) => []) (fun (s, n, hB, MB) => hB) (fun y hy ih18 => ?_) (fun LP => ?_)
      · obtain ⟨s, n, hB, MB⟩ := y
        try dsimp only at hy ih18 ⊢
        obtain ⟨hs0, hs1, hn0, hMB, hSB, hFB, hg⟩ := hy
        have hwB := mS2_wf hSB hw
        refine rz_iload 0 d_Md_ranked_18 rfl ?_
        refine rz_aload_n 3 d_Md_ranked_20 rfl rfl ?_
        refine rz_getf f_Md_16 hMB.1 rfl d_Md_ranked_21 ?_
        refine rz_iload_n 4 d_Md_ranked_24 rfl rfl ?_
        refine rz_iaload (md_a2 hMB) (by decide) (by omega) d_Md_ranked_25 ?_
        rw [hSB 2 (by decide) (by decide)]
        refine rz_icmp_ge 62 d_Md_ranked_26 (by decide) (by omega) (by omega) (fun c26 => ?_) (fun c26 => ?_)
        · refine rz_iload 1 d_Md_ranked_62 rfl ?_
          refine rz_iload_n 5 d_Md_ranked_64 rfl rfl ?_
          refine rz_icmp_ne 70 d_Md_ranked_65 (by decide) (by omega) (by omega) (fun c65 => ?_) (fun c65 => ?_)
          · refine rz_iinc (r + 1) 2 [(3, vi (r + 1)), (5, vi s), (4, vi n), (0, .ref x), (1, vi p), (2, vi g)] d_Md_ranked_70 rfl (by first | rfl | omega) (by decide) rfl ?_
            refine rz_goto 2 d_Md_ranked_73 (by decide) ?_
            refine rz_Lsub [(3, vi (r + 1)), (0, .ref x), (1, vi p), (2, vi g)] [0, 3, 4, 5] rfl ?_
            refine ih2 (r + 1, hB, MB) ?_ ?_
            · try dsimp only
              exact ⟨by omega, by omega, hMB, hSB, hFB, (by rw [hv, rdF_go (by omega) (by rw [gtr, hg, show (M 2 p - s).toNat = 0 by omega]; simp only [gtF]; omega)]; congr 1; omega)⟩
            · exact (by first | omega | (dsimp only; omega))
          · refine rz_iload_n 2 d_Md_ranked_68 rfl rfl ?_
            exact rz_ireturn (st := []) rfl d_Md_ranked_69 ⟨by decide, by decide⟩ ⟨_, rfl, (by rw [rkd, hv, rdF_hit (by omega) (by rw [gtr, hg, show (M 2 p - s).toNat = 0 by omega]; simp only [gtF]; omega)]), MB, hMB, hSB, hFB⟩
        · refine rz_aload_n 3 d_Md_ranked_29 rfl rfl ?_
          refine rz_bipush (v := 6) d_Md_ranked_30 (by decide) ?_
          refine rz_iconst d_Md_ranked_32 ?_
          refine rz_iload_n 4 d_Md_ranked_33 rfl rfl ?_
          refine rz_imul d_Md_ranked_34 ?_
          refine rz_iadd d_Md_ranked_35 ?_
          refine rz_iload 0 d_Md_ranked_36 rfl ?_
          refine rz_iadd d_Md_ranked_38 ?_
          refine rz_bipush (v := 6) d_Md_ranked_39 (by decide) ?_
          refine rz_iconst d_Md_ranked_41 ?_
          refine rz_iload_n 4 d_Md_ranked_42 rfl rfl ?_
          refine rz_imul d_Md_ranked_43 ?_
          refine rz_iadd d_Md_ranked_44 ?_
          refine rz_iload_n 2 d_Md_ranked_45 rfl rfl ?_
          refine rz_iadd d_Md_ranked_46 ?_
          refine rz_callV (As := [vi ((6 + (4 * p)) + s), vi ((6 + (4 * p)) + r)]) (c_Md_compareTexts hMB hwB (by omega) (by omega) (by rw [mS2_at hSB, hSB 1 (by decide) (by decide)]; exact hvo p s (by omega) (by omega) (by omega) (by omega)) (by rw [mS2_at hSB, hSB 1 (by decide) (by decide)]; exact hvo p r (by omega) (by omega) (by omega) (by omega))) m_Md_170 hMB.1 rfl rfl rfl rfl (Nat.le_of_ble_eq_true rfl) ⟨by decide, by decide⟩ ⟨by decide, by decide⟩ d_Md_ranked_47 (kI (h := hB) fun r1 h1 q1 => ?_)
          obtain ⟨rfl, M1, hM1, hT1, hF1⟩ := q1
          simp only [mS2_at hSB, hSB 1 (by decide) (by decide)]
          have hS1 := hSB.tr hT1
          have hw1 := mS2_wf hS1 hw
          have hG1 := hFB.tr hF1
          refine rz_if_le 56 d_Md_ranked_50 (by decide) (by have := ord_in (mAt M (6 + 4 * p + s)) (mAt M (6 + 4 * p + r)) (M 1 (6 + 4 * p + s)) 0 (M 1 (6 + 4 * p + r)); omega) (fun c50 => ?_) (fun c50 => ?_)
          · refine rz_iinc (s + 1) 0 [(5, vi (s + 1)), (4, vi n), (3, vi r), (0, .ref x), (1, vi p), (2, vi g)] d_Md_ranked_56 rfl (by first | rfl | omega) (by decide) rfl ?_
            refine rz_goto 18 d_Md_ranked_59 (by decide) ?_
            refine rz_Lsub [(5, vi (s + 1)), (4, vi n), (3, vi r), (0, .ref x), (1, vi p), (2, vi g)] [0, 1, 2, 3, 4, 5] rfl ?_
            refine ih18 (s + 1, n, h1, M1) ?_ ?_
            · try dsimp only
              exact ⟨by omega, by omega, by omega, hM1, hS1, hG1, (by rw [hg, gtF_go (by omega), cmpR, show (M 2 p - (s + 1)).toNat = (M 2 p - s).toNat - 1 by omega]; split <;> omega)⟩
            · exact (by first | omega | (dsimp only; omega))
          · refine rz_iinc (n + 1) 1 [(4, vi (n + 1)), (5, vi s), (3, vi r), (0, .ref x), (1, vi p), (2, vi g)] d_Md_ranked_53 rfl (by first | rfl | omega) (by decide) rfl ?_
            refine rz_iinc (s + 1) 1 [(5, vi (s + 1)), (4, vi (n + 1)), (3, vi r), (0, .ref x), (1, vi p), (2, vi g)] d_Md_ranked_56 rfl (by first | rfl | omega) (by decide) rfl ?_
            refine rz_goto 18 d_Md_ranked_59 (by decide) ?_
            refine rz_Lsub [(5, vi (s + 1)), (4, vi (n + 1)), (3, vi r), (0, .ref x), (1, vi p), (2, vi g)] [0, 1, 2, 3, 4, 5] rfl ?_
            refine ih18 (s + 1, n + 1, h1, M1) ?_ ?_
            · try dsimp only
              exact ⟨by omega, by omega, by omega, hM1, hS1, hG1, (by rw [hg, gtF_go (by omega), cmpR, show (M 2 p - (s + 1)).toNat = (M 2 p - s).toNat - 1 by omega]; split <;> omega)⟩
            · exact (by first | omega | (dsimp only; omega))
      · refine rz_Lsub [(5, vi 0), (4, vi 0), (3, vi r), (0, .ref x), (1, vi p), (2, vi g)] [0, 1, 2, 3, 4, 5] rfl ?_
        refine LP (0, 0, hA, MA) ?_
        try dsimp only
        exact ⟨by omega, by omega, by omega, hMA, hSA, hFA, (by rw [Int.zero_add]; congr 1; omega)⟩
  · refine rz_Lsub [(3, vi 0), (0, .ref x), (1, vi p), (2, vi g)] [0, 1, 2, 3] rfl ?_
    refine LP (0, h, M) ?_
    try dsimp only
    exact ⟨by omega, by omega, hM, mS2.rf, rz_fr.rf, (by congr 1; omega)⟩
def metP (M : Nat → Int → Int) (p t : Int) : Bool := decide (0 ≤ M 11 p) && inR (mAt M (6 + (4 * p + M 11 p))) (M 1 (6 + (4 * p + M 11 p))) (mAt M t) (M 1 t)
abbrev rm_Md_meets : Room := { frames := 7, cells := 0, slots := 0, locals := 184 }
set_option maxRecDepth 100000 in
set_option maxHeartbeats 4000000 in
theorem c_Md_meets {l : Launch} {Γ : rz_G} {h : rz_H} {x : Nat} {ad : Nat → Nat} {M : Nat → Int → Int} (hM : MdAt Γ h x ad M) (hw : mWF M) (hvo : vOK M) (hno : nowOK M) {p t : Int} (hp : 0 ≤ p ∧ p < 6) (ht : 0 ≤ t ∧ t < 126) (kt : rng (mAt M t) (M 1 t) = true) : Ct l Γ x_Md_meets y_Md_meets rm_Md_meets [.ref x, vi p, vi t] h (pI (fun r' h' => r' = bi (metP M p t) ∧ ∃ M', MdAt Γ h' x ad M' ∧ mS2 M M' ∧ rz_fr [10, 11] h h')) := by
  refine rz_met (by decide) rfl rfl (Nat.le_of_ble_eq_true rfl) (fun K _ => ?_)
  refine rz_Leq [(0, .ref x), (1, vi p), (2, vi t)] rfl ?_
  have l2 := hw.2.2.1 p hp.1 hp.2
  have l11 := hno p hp.1 hp.2
  refine rz_aload_n 0 d_Md_meets_0 rfl rfl ?_
  refine rz_getf f_Md_41 hM.1 rfl d_Md_meets_1 ?_
  refine rz_iload_n 1 d_Md_meets_4 rfl rfl ?_
  refine rz_iaload (md_a11 hM) (by decide) (by omega) d_Md_meets_5 ?_
  refine rz_if_lt 29 d_Md_meets_6 (by decide) (by omega) (fun c6 => ?_) (fun c6 => ?_)
  · refine rz_iconst d_Md_meets_29 ?_
    exact rz_zreturn (st := []) (ty := .boolean) rfl rfl d_Md_meets_30 ⟨by decide, by decide⟩ ⟨_, rfl, bi0 (by unfold metP; first | (rw [c22]; simp; done) | (simp; omega)), M, hM, (mS2.rf (M := M)), (rz_fr.rf (rs := [10, 11]) (h := h))⟩
  · refine rz_aload_n 0 d_Md_meets_9 rfl rfl ?_
    refine rz_bipush (v := 6) d_Md_meets_10 (by decide) ?_
    refine rz_aload_n 0 d_Md_meets_12 rfl rfl ?_
    refine rz_iload_n 1 d_Md_meets_13 rfl rfl ?_
    refine rz_callV (As := [vi p]) (c_Md_slot hM (by omega)) m_Md_176 hM.1 rfl rfl rfl rfl (Nat.le_of_ble_eq_true rfl) ⟨by decide, by decide⟩ ⟨by decide, by decide⟩ d_Md_meets_14 (kE (h := h) ?_)
    refine rz_iadd d_Md_meets_17 ?_
    refine rz_iload_n 2 d_Md_meets_18 rfl rfl ?_
    refine rz_callV (As := [vi (6 + (4 * p + M 11 p)), vi t]) (c_Md_inside hM hw (by omega) ht (by exact (by have q := hvo p (M 11 p) (by omega) (by omega) (by omega) (by omega); rw [show 6 + 4 * p + M 11 p = 6 + (4 * p + M 11 p) by omega] at q; exact q)) (by exact kt)) m_Md_173 hM.1 rfl rfl rfl rfl (Nat.le_of_ble_eq_true rfl) ⟨by decide, by decide⟩ ⟨by decide, by decide⟩ d_Md_meets_19 (kI (h := h) fun r1 h1 q1 => ?_)
    obtain ⟨rfl, M1, hM1, hT1, hF1⟩ := q1
    have hS1 := (mS2.rf (M := M)).tr hT1
    have hw1 := mS2_wf hS1 hw
    have hG1 := (rz_fr.rf (rs := [10, 11]) (h := h)).tr hF1
    refine rz_if_eqB 29 d_Md_meets_22 (by decide) (fun c22 => ?_) (fun c22 => ?_)
    · refine rz_iconst d_Md_meets_29 ?_
      exact rz_zreturn (st := []) (ty := .boolean) rfl rfl d_Md_meets_30 ⟨by decide, by decide⟩ ⟨_, rfl, bi0 (by unfold metP; first | (rw [c22]; simp; done) | (simp; omega)), M1, hM1, hS1, hG1⟩
    · refine rz_iconst d_Md_meets_25 ?_
      refine rz_goto 30 d_Md_meets_26 (by decide) ?_
      exact rz_zreturn (st := []) (ty := .boolean) rfl rfl d_Md_meets_30 ⟨by decide, by decide⟩ ⟨_, rfl, bi1 (by rw [metP, c22]; simp; omega), M1, hM1, hS1, hG1⟩
end
section
/-! the reference: releaseGood, allLed -/
theorem metP_S2 {M M' : Nat → Int → Int} (h : mS2 M M') (p t : Int) : metP M' p t = metP M p t := by
  unfold metP
  rw [h 11 (by decide) (by decide), h 1 (by decide) (by decide), mS2_at h, mS2_at h]
def rgF (M : Nat → Int → Int) : Nat → Int → Bool
  | 0, _ => true
  | n + 1, i => if ¬ M 7 i = 0 ∧ M 11 (M 6 i) < 0 then rgF M n (i + 1) else if metP M (M 6 i) (54 + i) = true then rgF M n (i + 1) else false
theorem rgF_e (M : Nat → Int → Int) {n : Nat} {i : Int} (hn : 0 < n) : rgF M n i = if ¬ M 7 i = 0 ∧ M 11 (M 6 i) < 0 then rgF M (n - 1) (i + 1) else if metP M (M 6 i) (54 + i) = true then rgF M (n - 1) (i + 1) else false := by
  cases n with
  | zero => omega
  | succ n => rfl
/-- the chosen release of p is good: not withdrawn, the host, its needs -/
def rgP (M : Nat → Int → Int) (p : Int) : Bool := if ¬ M 3 (4 * p + M 11 p) = 0 ∨ (¬ M 4 (4 * p + M 11 p) = 0 ∧ inR (mAt M 1) (M 1 1) (mAt M (30 + (4 * p + M 11 p))) (M 1 (30 + (4 * p + M 11 p))) = false) then false else rgF M (M 5 (4 * p + M 11 p)).toNat (3 * (4 * p + M 11 p))
theorem rgF_S2 {M M' : Nat → Int → Int} (h : mS2 M M') : ∀ (n : Nat) (i : Int), rgF M' n i = rgF M n i
  | 0, _ => rfl
  | n + 1, i => by
    simp only [rgF, metP_S2 h, rgF_S2 h n, h 7 (by decide) (by decide), h 6 (by decide) (by decide), h 11 (by decide) (by decide)]
theorem rgP_S2 {M M' : Nat → Int → Int} (h : mS2 M M') (p : Int) : rgP M' p = rgP M p := by
  unfold rgP
  simp only [rgF_S2 h, h 3 (by decide) (by decide), h 4 (by decide) (by decide), h 5 (by decide) (by decide), h 11 (by decide) (by decide), h 1 (by decide) (by decide), mS2_at h]
abbrev rm_Md_releaseGood : Room := { frames := 8, cells := 0, slots := 0, locals := 206 }
set_option maxRecDepth 100000 in
set_option maxHeartbeats 4000000 in
theorem c_Md_releaseGood {l : Launch} {Γ : rz_G} {h : rz_H} {x : Nat} {ad : Nat → Nat} {M : Nat → Int → Int} (hM : MdAt Γ h x ad M) (hw : mWF M) (hval : mVal M) (hno : nowOK M) {p : Int} (hp : 0 ≤ p ∧ p < 6) (h11 : 0 ≤ M 11 p) : Ct l Γ x_Md_releaseGood y_Md_releaseGood rm_Md_releaseGood [.ref x, vi p] h (pI (fun r' h' => r' = bi (rgP M p) ∧ ∃ M', MdAt Γ h' x ad M' ∧ mS2 M M' ∧ rz_fr [10, 11] h h')) := by
  refine rz_met (by decide) rfl rfl (Nat.le_of_ble_eq_true rfl) (fun K _ => ?_)
  refine rz_Leq [(0, .ref x), (1, vi p)] rfl ?_
  have l2 := hw.2.2.1 p hp.1 hp.2
  have l11 := hno p hp.1 hp.2
  refine rz_aload_n 0 d_Md_releaseGood_0 rfl rfl ?_
  refine rz_iload_n 1 d_Md_releaseGood_1 rfl rfl ?_
  refine rz_callV (As := [vi p]) (c_Md_slot hM (by omega)) m_Md_176 hM.1 rfl rfl rfl rfl (Nat.le_of_ble_eq_true rfl) ⟨by decide, by decide⟩ ⟨by decide, by decide⟩ d_Md_releaseGood_2 (kE (h := h) ?_)
  refine rz_top (fun k e_k => ?_)
  replace e_k := e_k.symm
  refine rz_istore_n [(2, vi k), (0, .ref x), (1, vi p)] d_Md_releaseGood_5 rfl (by decide) rfl ?_
  have l3 := hw.2.2.2.2.2.2.2.1 k (by omega) (by omega)
  have l4 := hw.2.2.2.2.2.2.2.2.1 k (by omega) (by omega)
  have l5 := hw.2.2.2.1 k (by omega) (by omega)
  refine rz_aload_n 1 d_Md_releaseGood_6 rfl rfl ?_
  refine rz_getf f_Md_19 hM.1 rfl d_Md_releaseGood_7 ?_
  refine rz_iload_n 0 d_Md_releaseGood_10 rfl rfl ?_
  refine rz_zaload (md_a3 hM) (by decide) (by omega) d_Md_releaseGood_11 ?_
  refine rz_if_ne 36 d_Md_releaseGood_12 (by decide) (by omega) (fun c12 => ?_) (fun c12 => ?_)
  · refine rz_iconst d_Md_releaseGood_36 ?_
    exact rz_zreturn (st := []) (ty := .boolean) rfl rfl d_Md_releaseGood_37 ⟨by decide, by decide⟩ ⟨_, rfl, bi0 (by rw [rgP, e_k, if_pos (by first | exact Or.inl c12 | exact Or.inr ⟨c21, c33⟩)]), M, hM, (mS2.rf (M := M)), (rz_fr.rf (rs := [10, 11]) (h := h))⟩
  · refine rz_aload_n 1 d_Md_releaseGood_15 rfl rfl ?_
    refine rz_getf f_Md_23 hM.1 rfl d_Md_releaseGood_16 ?_
    refine rz_iload_n 0 d_Md_releaseGood_19 rfl rfl ?_
    refine rz_zaload (md_a4 hM) (by decide) (by omega) d_Md_releaseGood_20 ?_
    refine rz_if_eq 38 d_Md_releaseGood_21 (by decide) (by omega) (fun c21 => ?_) (fun c21 => ?_)
    · refine rz_iconst d_Md_releaseGood_38 ?_
      refine rz_iload_n 0 d_Md_releaseGood_39 rfl rfl ?_
      refine rz_imul d_Md_releaseGood_40 ?_
      refine rz_istore_n [(3, vi (3 * k)), (2, vi k), (0, .ref x), (1, vi p)] d_Md_releaseGood_41 rfl (by decide) rfl ?_
      refine rz_loop (α := Int × rz_H × (Nat → Int → Int)) 0 0 42 (fun (i, hA, MA) => (3 * k + M 5 k - i).toNat) (fun (i, hA, MA) => 3 * k ≤ i ∧ i ≤ 3 * k + M 5 k ∧ MdAt Γ hA x ad MA ∧ mS2 M MA ∧ rz_fr [10, 11] h hA ∧ rgF M (M 5 k).toNat (3 * k) = rgF M (3 * k + M 5 k - i).toNat i) (fun (i, hA, MA) => [(3, vi i), (2, vi k), (0, .ref x), (1, vi p)]) (fun (i, hA, MA) => []) (fun (i, hA, MA) => hA) (fun y hy ih42 => ?_) (fun LP => ?_)
      · obtain ⟨i, hA, MA⟩ := y
        try dsimp only at hy ih42 ⊢
        obtain ⟨hi0, hi1, hMA, hSA, hFA, hv⟩ := hy
        have hwA := mS2_wf hSA hw
        refine rz_iload_n 0 d_Md_releaseGood_42 rfl rfl ?_
        refine rz_iconst d_Md_releaseGood_43 ?_
        refine rz_iload_n 1 d_Md_releaseGood_44 rfl rfl ?_
        refine rz_imul d_Md_releaseGood_45 ?_
        refine rz_aload_n 2 d_Md_releaseGood_46 rfl rfl ?_
        refine rz_getf f_Md_26 hMA.1 rfl d_Md_releaseGood_47 ?_
        refine rz_iload_n 1 d_Md_releaseGood_50 rfl rfl ?_
        refine rz_iaload (md_a5 hMA) (by decide) (by omega) d_Md_releaseGood_51 ?_
        rw [hSA 5 (by decide) (by decide)]
        refine rz_iadd d_Md_releaseGood_52 ?_
        refine rz_icmp_ge 107 d_Md_releaseGood_53 (by decide) (by omega) (by omega) (fun c53 => ?_) (fun c53 => ?_)
        · refine rz_iconst d_Md_releaseGood_107 ?_
          exact rz_zreturn (st := []) (ty := .boolean) rfl rfl d_Md_releaseGood_108 ⟨by decide, by decide⟩ ⟨_, rfl, bi1 (by rw [rgP, e_k, if_neg (by first | (intro q; rcases q with q | q; exact q c12; exact q.1 c21) | (intro q; rcases q with q | q; exact q c12; rw [c33] at q; exact absurd q.2 (by decide))), hv, show (3 * k + M 5 k - i).toNat = 0 by omega]; rfl), MA, hMA, hSA, hFA⟩
        · have l6 := hw.2.2.2.2.1 i (by omega) (by omega)
          have l7 := hw.2.2.2.2.2.2.2.2.2.1 i (by omega) (by omega)
          refine rz_aload_n 2 d_Md_releaseGood_56 rfl rfl ?_
          refine rz_getf f_Md_29 hMA.1 rfl d_Md_releaseGood_57 ?_
          refine rz_iload_n 0 d_Md_releaseGood_60 rfl rfl ?_
          refine rz_iaload (md_a6 hMA) (by decide) (by omega) d_Md_releaseGood_61 ?_
          rw [hSA 6 (by decide) (by decide)]
          refine rz_top (fun o e_o => ?_)
          replace e_o := e_o.symm
          refine rz_istore [(4, vi o), (3, vi i), (2, vi k), (0, .ref x), (1, vi p)] d_Md_releaseGood_62 (by decide) rfl ?_
          have n11 := hno o (by omega) (by omega)
          have nl2 := hw.2.2.1 o (by omega) (by omega)
          refine rz_aload_n 3 d_Md_releaseGood_64 rfl rfl ?_
          refine rz_getf f_Md_32 hMA.1 rfl d_Md_releaseGood_65 ?_
          refine rz_iload_n 1 d_Md_releaseGood_68 rfl rfl ?_
          refine rz_zaload (md_a7 hMA) (by decide) (by omega) d_Md_releaseGood_69 ?_
          rw [hSA 7 (by decide) (by decide)]
          refine rz_if_eq 86 d_Md_releaseGood_70 (by decide) (by omega) (fun c70 => ?_) (fun c70 => ?_)
          · refine rz_aload_n 3 d_Md_releaseGood_86 rfl rfl ?_
            refine rz_iload 0 d_Md_releaseGood_87 rfl ?_
            refine rz_bipush (v := 54) d_Md_releaseGood_89 (by decide) ?_
            refine rz_iload_n 1 d_Md_releaseGood_91 rfl rfl ?_
            refine rz_iadd d_Md_releaseGood_92 ?_
            refine rz_callV (As := [vi o, vi (54 + i)]) (c_Md_meets hMA hwA (vOK_S2 hSA hval.1) (nowOK_S2 hSA hno) (by omega) (by omega) (by rw [mS2_at hSA, hSA 1 (by decide) (by decide)]; exact (by have q := hval.2.2.2.1 k (i - 3 * k) (by omega) (by omega) (by omega) (by omega); rw [show 3 * k + (i - 3 * k) = i by omega] at q; exact q))) m_Md_179 hMA.1 rfl rfl rfl rfl (Nat.le_of_ble_eq_true rfl) ⟨by decide, by decide⟩ ⟨by decide, by decide⟩ d_Md_releaseGood_93 (kI (h := hA) fun r1 h1 q1 => ?_)
            obtain ⟨rfl, M1, hM1, hT1, hF1⟩ := q1
            rw [metP_S2 hSA]
            have hS1 := hSA.tr hT1
            have hw1 := mS2_wf hS1 hw
            have hG1 := hFA.tr hF1
            refine rz_if_neB 101 d_Md_releaseGood_96 (by decide) (fun c96 => ?_) (fun c96 => ?_)
            · refine rz_iinc (i + 1) 1 [(3, vi (i + 1)), (4, vi o), (2, vi k), (0, .ref x), (1, vi p)] d_Md_releaseGood_101 rfl (by first | rfl | omega) (by decide) rfl ?_
              refine rz_goto 42 d_Md_releaseGood_104 (by decide) ?_
              refine rz_Lsub [(3, vi (i + 1)), (2, vi k), (0, .ref x), (1, vi p)] [0, 2, 3, 4] rfl ?_
              refine ih42 (i + 1, h1, M1) ?_ ?_
              · try dsimp only
                exact ⟨by omega, by omega, hM1, hS1, hG1, (by rw [hv, rgF_e _ (by omega)]; first | (rw [if_pos (by rw [e_o]; exact ⟨c70, by omega⟩)]; congr 1; omega) | (rw [if_neg (by rw [e_o]; first | (intro q; exact q.1 c70) | (intro q; omega)), e_o, if_pos c96]; congr 1; omega))⟩
              · exact (by first | omega | (dsimp only; omega))
            · refine rz_iconst d_Md_releaseGood_99 ?_
              exact rz_zreturn (st := []) (ty := .boolean) rfl rfl d_Md_releaseGood_100 ⟨by decide, by decide⟩ ⟨_, rfl, bi0 (by rw [rgP, e_k, if_neg (by first | (intro q; rcases q with q | q; exact q c12; exact q.1 c21) | (intro q; rcases q with q | q; exact q c12; rw [c33] at q; exact absurd q.2 (by decide))), hv, rgF_e _ (by omega), if_neg (by rw [e_o]; first | (intro q; exact q.1 c70) | (intro q; omega)), if_neg (by rw [e_o, c96]; decide)]), M1, hM1, hS1, hG1⟩
          · refine rz_aload_n 3 d_Md_releaseGood_73 rfl rfl ?_
            refine rz_getf f_Md_41 hMA.1 rfl d_Md_releaseGood_74 ?_
            refine rz_iload 0 d_Md_releaseGood_77 rfl ?_
            refine rz_iaload (md_a11 hMA) (by decide) (by omega) d_Md_releaseGood_79 ?_
            rw [hSA 11 (by decide) (by decide)]
            refine rz_if_ge 86 d_Md_releaseGood_80 (by decide) (by omega) (fun c80 => ?_) (fun c80 => ?_)
            · refine rz_aload_n 3 d_Md_releaseGood_86 rfl rfl ?_
              refine rz_iload 0 d_Md_releaseGood_87 rfl ?_
              refine rz_bipush (v := 54) d_Md_releaseGood_89 (by decide) ?_
              refine rz_iload_n 1 d_Md_releaseGood_91 rfl rfl ?_
              refine rz_iadd d_Md_releaseGood_92 ?_
              refine rz_callV (As := [vi o, vi (54 + i)]) (c_Md_meets hMA hwA (vOK_S2 hSA hval.1) (nowOK_S2 hSA hno) (by omega) (by omega) (by rw [mS2_at hSA, hSA 1 (by decide) (by decide)]; exact (by have q := hval.2.2.2.1 k (i - 3 * k) (by omega) (by omega) (by omega) (by omega); rw [show 3 * k + (i - 3 * k) = i by omega] at q; exact q))) m_Md_179 hMA.1 rfl rfl rfl rfl (Nat.le_of_ble_eq_true rfl) ⟨by decide, by decide⟩ ⟨by decide, by decide⟩ d_Md_releaseGood_93 (kI (h := hA) fun r2 h2 q2 => ?_)
              obtain ⟨rfl, M2, hM2, hT2, hF2⟩ := q2
              rw [metP_S2 hSA]
              have hS2 := hSA.tr hT2
              have hw2 := mS2_wf hS2 hw
              have hG2 := hFA.tr hF2
              refine rz_if_neB 101 d_Md_releaseGood_96 (by decide) (fun c96 => ?_) (fun c96 => ?_)
              · refine rz_iinc (i + 1) 1 [(3, vi (i + 1)), (4, vi o), (2, vi k), (0, .ref x), (1, vi p)] d_Md_releaseGood_101 rfl (by first | rfl | omega) (by decide) rfl ?_
                refine rz_goto 42 d_Md_releaseGood_104 (by decide) ?_
                refine rz_Lsub [(3, vi (i + 1)), (2, vi k), (0, .ref x), (1, vi p)] [0, 2, 3, 4] rfl ?_
                refine ih42 (i + 1, h2, M2) ?_ ?_
                · try dsimp only
                  exact ⟨by omega, by omega, hM2, hS2, hG2, (by rw [hv, rgF_e _ (by omega)]; first | (rw [if_pos (by rw [e_o]; exact ⟨c70, by omega⟩)]; congr 1; omega) | (rw [if_neg (by rw [e_o]; first | (intro q; exact q.1 c70) | (intro q; omega)), e_o, if_pos c96]; congr 1; omega))⟩
                · exact (by first | omega | (dsimp only; omega))
              · refine rz_iconst d_Md_releaseGood_99 ?_
                exact rz_zreturn (st := []) (ty := .boolean) rfl rfl d_Md_releaseGood_100 ⟨by decide, by decide⟩ ⟨_, rfl, bi0 (by rw [rgP, e_k, if_neg (by first | (intro q; rcases q with q | q; exact q c12; exact q.1 c21) | (intro q; rcases q with q | q; exact q c12; rw [c33] at q; exact absurd q.2 (by decide))), hv, rgF_e _ (by omega), if_neg (by rw [e_o]; first | (intro q; exact q.1 c70) | (intro q; omega)), if_neg (by rw [e_o, c96]; decide)]), M2, hM2, hS2, hG2⟩
            · refine rz_goto 101 d_Md_releaseGood_83 (by decide) ?_
              refine rz_iinc (i + 1) 1 [(3, vi (i + 1)), (4, vi o), (2, vi k), (0, .ref x), (1, vi p)] d_Md_releaseGood_101 rfl (by first | rfl | omega) (by decide) rfl ?_
              refine rz_goto 42 d_Md_releaseGood_104 (by decide) ?_
              refine rz_Lsub [(3, vi (i + 1)), (2, vi k), (0, .ref x), (1, vi p)] [0, 2, 3, 4] rfl ?_
              refine ih42 (i + 1, hA, MA) ?_ ?_
              · try dsimp only
                exact ⟨by omega, by omega, hMA, hSA, hFA, (by rw [hv, rgF_e _ (by omega)]; first | (rw [if_pos (by rw [e_o]; exact ⟨c70, by omega⟩)]; congr 1; omega) | (rw [if_neg (by rw [e_o]; first | (intro q; exact q.1 c70) | (intro q; omega)), e_o, if_pos c96]; congr 1; omega))⟩
              · exact (by first | omega | (dsimp only; omega))
      · refine rz_Lsub [(3, vi (3 * k)), (2, vi k), (0, .ref x), (1, vi p)] [0, 1, 2, 3] rfl ?_
        refine LP ((3 * k), h, M) ?_
        try dsimp only
        exact ⟨by omega, by omega, hM, (mS2.rf (M := M)), (rz_fr.rf (rs := [10, 11]) (h := h)), (by congr 1; omega)⟩
    · refine rz_aload_n 1 d_Md_releaseGood_24 rfl rfl ?_
      refine rz_iconst d_Md_releaseGood_25 ?_
      refine rz_bipush (v := 30) d_Md_releaseGood_26 (by decide) ?_
      refine rz_iload_n 0 d_Md_releaseGood_28 rfl rfl ?_
      refine rz_iadd d_Md_releaseGood_29 ?_
      refine rz_callV (As := [vi 1, vi (30 + k)]) (c_Md_inside hM hw (by omega) (by omega) (by exact hval.2.1) (by exact hval.2.2.1 k (by omega) (by omega) c21)) m_Md_173 hM.1 rfl rfl rfl rfl (Nat.le_of_ble_eq_true rfl) ⟨by decide, by decide⟩ ⟨by decide, by decide⟩ d_Md_releaseGood_30 (kI (h := h) fun r3 h3 q3 => ?_)
      obtain ⟨rfl, M3, hM3, hT3, hF3⟩ := q3
      have hS3 := (mS2.rf (M := M)).tr hT3
      have hw3 := mS2_wf hS3 hw
      have hG3 := (rz_fr.rf (rs := [10, 11]) (h := h)).tr hF3
      refine rz_if_neB 38 d_Md_releaseGood_33 (by decide) (fun c33 => ?_) (fun c33 => ?_)
      · refine rz_iconst d_Md_releaseGood_38 ?_
        refine rz_iload_n 0 d_Md_releaseGood_39 rfl rfl ?_
        refine rz_imul d_Md_releaseGood_40 ?_
        refine rz_istore_n [(3, vi (3 * k)), (2, vi k), (0, .ref x), (1, vi p)] d_Md_releaseGood_41 rfl (by decide) rfl ?_
        refine rz_loop (α := Int × rz_H × (Nat → Int → Int)) 0 0 42 (fun (i, hA, MA) => (3 * k + M 5 k - i).toNat) (fun (i, hA, MA) => 3 * k ≤ i ∧ i ≤ 3 * k + M 5 k ∧ MdAt Γ hA x ad MA ∧ mS2 M MA ∧ rz_fr [10, 11] h hA ∧ rgF M (M 5 k).toNat (3 * k) = rgF M (3 * k + M 5 k - i).toNat i) (fun (i, hA, MA) => [(3, vi i), (2, vi k), (0, .ref x), (1, vi p)]) (fun (i, hA, MA) => []) (fun (i, hA, MA) => hA) (fun y hy ih42 => ?_) (fun LP => ?_)
        · obtain ⟨i, hA, MA⟩ := y
          try dsimp only at hy ih42 ⊢
          obtain ⟨hi0, hi1, hMA, hSA, hFA, hv⟩ := hy
          have hwA := mS2_wf hSA hw
          refine rz_iload_n 0 d_Md_releaseGood_42 rfl rfl ?_
          refine rz_iconst d_Md_releaseGood_43 ?_
          refine rz_iload_n 1 d_Md_releaseGood_44 rfl rfl ?_
          refine rz_imul d_Md_releaseGood_45 ?_
          refine rz_aload_n 2 d_Md_releaseGood_46 rfl rfl ?_
          refine rz_getf f_Md_26 hMA.1 rfl d_Md_releaseGood_47 ?_
          refine rz_iload_n 1 d_Md_releaseGood_50 rfl rfl ?_
          refine rz_iaload (md_a5 hMA) (by decide) (by omega) d_Md_releaseGood_51 ?_
          rw [hSA 5 (by decide) (by decide)]
          refine rz_iadd d_Md_releaseGood_52 ?_
          refine rz_icmp_ge 107 d_Md_releaseGood_53 (by decide) (by omega) (by omega) (fun c53 => ?_) (fun c53 => ?_)
          · refine rz_iconst d_Md_releaseGood_107 ?_
            exact rz_zreturn (st := []) (ty := .boolean) rfl rfl d_Md_releaseGood_108 ⟨by decide, by decide⟩ ⟨_, rfl, bi1 (by rw [rgP, e_k, if_neg (by first | (intro q; rcases q with q | q; exact q c12; exact q.1 c21) | (intro q; rcases q with q | q; exact q c12; rw [c33] at q; exact absurd q.2 (by decide))), hv, show (3 * k + M 5 k - i).toNat = 0 by omega]; rfl), MA, hMA, hSA, hFA⟩
          · have l6 := hw.2.2.2.2.1 i (by omega) (by omega)
            have l7 := hw.2.2.2.2.2.2.2.2.2.1 i (by omega) (by omega)
            refine rz_aload_n 2 d_Md_releaseGood_56 rfl rfl ?_
            refine rz_getf f_Md_29 hMA.1 rfl d_Md_releaseGood_57 ?_
            refine rz_iload_n 0 d_Md_releaseGood_60 rfl rfl ?_
            refine rz_iaload (md_a6 hMA) (by decide) (by omega) d_Md_releaseGood_61 ?_
            rw [hSA 6 (by decide) (by decide)]
            refine rz_top (fun o e_o => ?_)
            replace e_o := e_o.symm
            refine rz_istore [(4, vi o), (3, vi i), (2, vi k), (0, .ref x), (1, vi p)] d_Md_releaseGood_62 (by decide) rfl ?_
            have n11 := hno o (by omega) (by omega)
            have nl2 := hw.2.2.1 o (by omega) (by omega)
            refine rz_aload_n 3 d_Md_releaseGood_64 rfl rfl ?_
            refine rz_getf f_Md_32 hMA.1 rfl d_Md_releaseGood_65 ?_
            refine rz_iload_n 1 d_Md_releaseGood_68 rfl rfl ?_
            refine rz_zaload (md_a7 hMA) (by decide) (by omega) d_Md_releaseGood_69 ?_
            rw [hSA 7 (by decide) (by decide)]
            refine rz_if_eq 86 d_Md_releaseGood_70 (by decide) (by omega) (fun c70 => ?_) (fun c70 => ?_)
            · refine rz_aload_n 3 d_Md_releaseGood_86 rfl rfl ?_
              refine rz_iload 0 d_Md_releaseGood_87 rfl ?_
              refine rz_bipush (v := 54) d_Md_releaseGood_89 (by decide) ?_
              refine rz_iload_n 1 d_Md_releaseGood_91 rfl rfl ?_
              refine rz_iadd d_Md_releaseGood_92 ?_
              refine rz_callV (As := [vi o, vi (54 + i)]) (c_Md_meets hMA hwA (vOK_S2 hSA hval.1) (nowOK_S2 hSA hno) (by omega) (by omega) (by rw [mS2_at hSA, hSA 1 (by decide) (by decide)]; exact (by have q := hval.2.2.2.1 k (i - 3 * k) (by omega) (by omega) (by omega) (by omega); rw [show 3 * k + (i - 3 * k) = i by omega] at q; exact q))) m_Md_179 hMA.1 rfl rfl rfl rfl (Nat.le_of_ble_eq_true rfl) ⟨by decide, by decide⟩ ⟨by decide, by decide⟩ d_Md_releaseGood_93 (kI (h := hA) fun r4 h4 q4 => ?_)
              obtain ⟨rfl, M4, hM4, hT4, hF4⟩ := q4
              rw [metP_S2 hSA]
              have hS4 := hSA.tr hT4
              have hw4 := mS2_wf hS4 hw
              have hG4 := hFA.tr hF4
              refine rz_if_neB 101 d_Md_releaseGood_96 (by decide) (fun c96 => ?_) (fun c96 => ?_)
              · refine rz_iinc (i + 1) 1 [(3, vi (i + 1)), (4, vi o), (2, vi k), (0, .ref x), (1, vi p)] d_Md_releaseGood_101 rfl (by first | rfl | omega) (by decide) rfl ?_
                refine rz_goto 42 d_Md_releaseGood_104 (by decide) ?_
                refine rz_Lsub [(3, vi (i + 1)), (2, vi k), (0, .ref x), (1, vi p)] [0, 2, 3, 4] rfl ?_
                refine ih42 (i + 1, h4, M4) ?_ ?_
                · try dsimp only
                  exact ⟨by omega, by omega, hM4, hS4, hG4, (by rw [hv, rgF_e _ (by omega)]; first | (rw [if_pos (by rw [e_o]; exact ⟨c70, by omega⟩)]; congr 1; omega) | (rw [if_neg (by rw [e_o]; first | (intro q; exact q.1 c70) | (intro q; omega)), e_o, if_pos c96]; congr 1; omega))⟩
                · exact (by first | omega | (dsimp only; omega))
              · refine rz_iconst d_Md_releaseGood_99 ?_
                exact rz_zreturn (st := []) (ty := .boolean) rfl rfl d_Md_releaseGood_100 ⟨by decide, by decide⟩ ⟨_, rfl, bi0 (by rw [rgP, e_k, if_neg (by first | (intro q; rcases q with q | q; exact q c12; exact q.1 c21) | (intro q; rcases q with q | q; exact q c12; rw [c33] at q; exact absurd q.2 (by decide))), hv, rgF_e _ (by omega), if_neg (by rw [e_o]; first | (intro q; exact q.1 c70) | (intro q; omega)), if_neg (by rw [e_o, c96]; decide)]), M4, hM4, hS4, hG4⟩
            · refine rz_aload_n 3 d_Md_releaseGood_73 rfl rfl ?_
              refine rz_getf f_Md_41 hMA.1 rfl d_Md_releaseGood_74 ?_
              refine rz_iload 0 d_Md_releaseGood_77 rfl ?_
              refine rz_iaload (md_a11 hMA) (by decide) (by omega) d_Md_releaseGood_79 ?_
              rw [hSA 11 (by decide) (by decide)]
              refine rz_if_ge 86 d_Md_releaseGood_80 (by decide) (by omega) (fun c80 => ?_) (fun c80 => ?_)
              · refine rz_aload_n 3 d_Md_releaseGood_86 rfl rfl ?_
                refine rz_iload 0 d_Md_releaseGood_87 rfl ?_
                refine rz_bipush (v := 54) d_Md_releaseGood_89 (by decide) ?_
                refine rz_iload_n 1 d_Md_releaseGood_91 rfl rfl ?_
                refine rz_iadd d_Md_releaseGood_92 ?_
                refine rz_callV (As := [vi o, vi (54 + i)]) (c_Md_meets hMA hwA (vOK_S2 hSA hval.1) (nowOK_S2 hSA hno) (by omega) (by omega) (by rw [mS2_at hSA, hSA 1 (by decide) (by decide)]; exact (by have q := hval.2.2.2.1 k (i - 3 * k) (by omega) (by omega) (by omega) (by omega); rw [show 3 * k + (i - 3 * k) = i by omega] at q; exact q))) m_Md_179 hMA.1 rfl rfl rfl rfl (Nat.le_of_ble_eq_true rfl) ⟨by decide, by decide⟩ ⟨by decide, by decide⟩ d_Md_releaseGood_93 (kI (h := hA) fun r5 h5 q5 => ?_)
                obtain ⟨rfl, M5, hM5, hT5, hF5⟩ := q5
                rw [metP_S2 hSA]
                have hS5 := hSA.tr hT5
                have hw5 := mS2_wf hS5 hw
                have hG5 := hFA.tr hF5
                refine rz_if_neB 101 d_Md_releaseGood_96 (by decide) (fun c96 => ?_) (fun c96 => ?_)
                · refine rz_iinc (i + 1) 1 [(3, vi (i + 1)), (4, vi o), (2, vi k), (0, .ref x), (1, vi p)] d_Md_releaseGood_101 rfl (by first | rfl | omega) (by decide) rfl ?_
                  refine rz_goto 42 d_Md_releaseGood_104 (by decide) ?_
                  refine rz_Lsub [(3, vi (i + 1)), (2, vi k), (0, .ref x), (1, vi p)] [0, 2, 3, 4] rfl ?_
                  refine ih42 (i + 1, h5, M5) ?_ ?_
                  · try dsimp only
                    exact ⟨by omega, by omega, hM5, hS5, hG5, (by rw [hv, rgF_e _ (by omega)]; first | (rw [if_pos (by rw [e_o]; exact ⟨c70, by omega⟩)]; congr 1; omega) | (rw [if_neg (by rw [e_o]; first | (intro q; exact q.1 c70) | (intro q; omega)), e_o, if_pos c96]; congr 1; omega))⟩
                  · exact (by first | omega | (dsimp only; omega))
                · refine rz_iconst d_Md_releaseGood_99 ?_
                  exact rz_zreturn (st := []) (ty := .boolean) rfl rfl d_Md_releaseGood_100 ⟨by decide, by decide⟩ ⟨_, rfl, bi0 (by rw [rgP, e_k, if_neg (by first | (intro q; rcases q with q | q; exact q c12; exact q.1 c21) | (intro q; rcases q with q | q; exact q c12; rw [c33] at q; exact absurd q.2 (by decide))), hv, rgF_e _ (by omega), if_neg (by rw [e_o]; first | (intro q; exact q.1 c70) | (intro q; omega)), if_neg (by rw [e_o, c96]; decide)]), M5, hM5, hS5, hG5⟩
              · refine rz_goto 101 d_Md_releaseGood_83 (by decide) ?_
                refine rz_iinc (i + 1) 1 [(3, vi (i + 1)), (4, vi o), (2, vi k), (0, .ref x), (1, vi p)] d_Md_releaseGood_101 rfl (by first | rfl | omega) (by decide) rfl ?_
                refine rz_goto 42 d_Md_releaseGood_104 (by decide) ?_
                refine rz_Lsub [(3, vi (i + 1)), (2, vi k), (0, .ref x), (1, vi p)] [0, 2, 3, 4] rfl ?_
                refine ih42 (i + 1, hA, MA) ?_ ?_
                · try dsimp only
                  exact ⟨by omega, by omega, hMA, hSA, hFA, (by rw [hv, rgF_e _ (by omega)]; first | (rw [if_pos (by rw [e_o]; exact ⟨c70, by omega⟩)]; congr 1; omega) | (rw [if_neg (by rw [e_o]; first | (intro q; exact q.1 c70) | (intro q; omega)), e_o, if_pos c96]; congr 1; omega))⟩
                · exact (by first | omega | (dsimp only; omega))
        · refine rz_Lsub [(3, vi (3 * k)), (2, vi k), (0, .ref x), (1, vi p)] [0, 1, 2, 3] rfl ?_
          refine LP ((3 * k), h3, M3) ?_
          try dsimp only
          exact ⟨by omega, by omega, hM3, hS3, hG3, (by congr 1; omega)⟩
      · refine rz_iconst d_Md_releaseGood_36 ?_
        exact rz_zreturn (st := []) (ty := .boolean) rfl rfl d_Md_releaseGood_37 ⟨by decide, by decide⟩ ⟨_, rfl, bi0 (by rw [rgP, e_k, if_pos (by first | exact Or.inl c12 | exact Or.inr ⟨c21, c33⟩)]), M3, hM3, hS3, hG3⟩
/-- only what the search scribbles on may differ -/
def mSk (ks : List Nat) (M M' : Nat → Int → Int) : Prop := ∀ k, k ∉ ks → M' k = M k
theorem mSk.rf {ks : List Nat} {M : Nat → Int → Int} : mSk ks M M := fun _ _ => rfl
theorem mSk.tr {ks : List Nat} {M M1 M2 : Nat → Int → Int} (h1 : mSk ks M M1) (h2 : mSk ks M1 M2) : mSk ks M M2 := fun k a => (h2 k a).trans (h1 k a)
theorem mSk.mono {ks ks' : List Nat} {M M1 : Nat → Int → Int} (h1 : mSk ks M M1) (hs : ∀ k ∈ ks, k ∈ ks') : mSk ks' M M1 := fun k a => h1 k (fun q => a (hs k q))
theorem mSk.mu {ks : List Nat} {M M1 : Nat → Int → Int} (h1 : mSk ks M M1) {k : Nat} (hk : k ∈ ks) (g : Int → Int) : mSk ks M (mu M1 k g) := fun j a => by
  rw [mu_n (fun e => a (by rw [e]; exact hk))]
  exact h1 j a
theorem mSk.of2 {ks : List Nat} {M M1 : Nat → Int → Int} (h : mS2 M M1) (h1 : 17 ∈ ks) (h2 : 18 ∈ ks) : mSk ks M M1 := fun k a => h k (fun e => a (by rw [e]; exact h1)) (fun e => a (by rw [e]; exact h2))
/-- which plugins are led to: by the asks that count; then need by need, 108 steps -/
def ldA (M : Nat → Int → Int) : Nat → Int → Int
  | 0 => fun _ => 0
  | n + 1 => if M 10 n = 0 then ldA M n else rz_u (ldA M n) (M 9 n) 1
def ldC (M : Nat → Int → Int) (l : Int → Int) (j : Int) : Prop := l (j / 3 % 6) = 0 ∨ M 11 (j / 3 % 6) < 0 ∨ M 5 (4 * (j / 3 % 6) + M 11 (j / 3 % 6)) ≤ j % 3 ∨ ¬ M 7 (3 * (4 * (j / 3 % 6) + M 11 (j / 3 % 6)) + j % 3) = 0
def ldB (M : Nat → Int → Int) (l0 : Int → Int) : Nat → Int → Int
  | 0 => l0
  | n + 1 => if ldB M l0 n (n / 3 % 6) = 0 ∨ M 11 (n / 3 % 6) < 0 ∨ M 5 (4 * (n / 3 % 6) + M 11 (n / 3 % 6)) ≤ n % 3 ∨ ¬ M 7 (3 * (4 * (n / 3 % 6) + M 11 (n / 3 % 6)) + n % 3) = 0 then ldB M l0 n else rz_u (ldB M l0 n) (M 6 (3 * (4 * (n / 3 % 6) + M 11 (n / 3 % 6)) + n % 3)) 1
def ldE (M : Nat → Int → Int) : Int → Int := ldB M (ldA M (M 8 0).toNat) 108
def ldF (M : Nat → Int → Int) (l : Int → Int) : Nat → Int → Bool
  | 0, _ => true
  | n + 1, p => if 0 ≤ M 11 p ∧ l p = 0 then false else ldF M l n (p + 1)
/-- every plugin that has a release is led to -/
def ledP (M : Nat → Int → Int) : Bool := ldF M (ldE M) 6 0
theorem ldF_e (M : Nat → Int → Int) (l : Int → Int) {n : Nat} {p : Int} (hn : 0 < n) : ldF M l n p = if 0 ≤ M 11 p ∧ l p = 0 then false else ldF M l (n - 1) (p + 1) := by
  cases n with
  | zero => omega
  | succ n => rfl
theorem ldF_c (M : Nat → Int → Int) {l l' : Int → Int} : ∀ (n : Nat) (p : Int), 0 ≤ p → p + n ≤ 6 → (∀ q, 0 ≤ q → q < 6 → l q = l' q) → ldF M l n p = ldF M l' n p
  | 0, _, _, _, _ => rfl
  | n + 1, p, h0, h, hl => by
    simp only [ldF, hl p h0 (by omega), ldF_c M n (p + 1) (by omega) (by omega) hl]
end
section
/-! the reference: allLed -/
def cOK (M : Nat → Int → Int) : Prop := ∀ a, 0 ≤ a → a < 4 → M 10 a = 0 ∨ M 10 a = 1
theorem mu_self (M : Nat → Int → Int) (k : Nat) : mu M k (M k) = M := by
  funext j
  unfold mu
  split
  · rename_i e; rw [e]
  · rfl
def eq6 (l l' : Int → Int) : Prop := ∀ q, 0 ≤ q → q < 6 → l q = l' q
theorem eq6_u {l l' : Int → Int} (h : eq6 l l') (i v : Int) : eq6 (rz_u l i v) (rz_u l' i v) := fun q a b => by
  by_cases e : q = i
  · rw [e, rz_u_s, rz_u_s]
  · rw [rz_u_n e, rz_u_n e]; exact h q a b
theorem ldA_s (M : Nat → Int → Int) {a : Int} (ha : 0 ≤ a) : ldA M (a + 1).toNat = if M 10 a = 0 then ldA M a.toNat else rz_u (ldA M a.toNat) (M 9 a) 1 := by
  rw [show (a + 1).toNat = a.toNat + 1 by omega]
  simp only [ldA, show ((a.toNat : Nat) : Int) = a by omega]
theorem ldB_s (M : Nat → Int → Int) (l0 : Int → Int) {j : Int} (hj : 0 ≤ j) : ldB M l0 (j + 1).toNat = if ldB M l0 j.toNat (j / 3 % 6) = 0 ∨ M 11 (j / 3 % 6) < 0 ∨ M 5 (4 * (j / 3 % 6) + M 11 (j / 3 % 6)) ≤ j % 3 ∨ ¬ M 7 (3 * (4 * (j / 3 % 6) + M 11 (j / 3 % 6)) + j % 3) = 0 then ldB M l0 j.toNat else rz_u (ldB M l0 j.toNat) (M 6 (3 * (4 * (j / 3 % 6) + M 11 (j / 3 % 6)) + j % 3)) 1 := by
  rw [show (j + 1).toNat = j.toNat + 1 by omega]
  simp only [ldB, show ((j.toNat : Nat) : Int) = j by omega]
def b6 (l : Int → Int) : Prop := ∀ q, 0 ≤ q → q < 6 → l q = 0 ∨ l q = 1
theorem b6_u {l : Int → Int} (h : b6 l) (i : Int) {v : Int} (hv : v = 0 ∨ v = 1) : b6 (rz_u l i v) := fun q a b => by
  by_cases e : q = i
  · rw [e, rz_u_s]; exact hv
  · rw [rz_u_n e]; exact h q a b
theorem zu {l : Int → Int} {p : Int} (h : ∀ q, 0 ≤ q → q < p → l q = 0) : ∀ q, 0 ≤ q → q < p + 1 → rz_u l p 0 q = 0 := fun q a b => by
  by_cases e : q = p
  · rw [e, rz_u_s]
  · rw [rz_u_n e]; exact h q a (by omega)
abbrev rm_Md_allLed : Room := { frames := 1, cells := 0, slots := 0, locals := 21 }
set_option maxRecDepth 100000 in
set_option maxHeartbeats 4000000 in
theorem c_Md_allLed {l : Launch} {Γ : rz_G} {h : rz_H} {x : Nat} {ad : Nat → Nat} {M : Nat → Int → Int} (hM : MdAt Γ h x ad M) (hw : mWF M) (hno : nowOK M) (hco : cOK M) : Ct l Γ x_Md_allLed y_Md_allLed rm_Md_allLed [.ref x] h (pI (fun r h' => r = bi (ledP M) ∧ ∃ M', MdAt Γ h' x ad M' ∧ mSk [16] M M' ∧ rz_fr [10, 11] h h')) := by
  refine rz_met (by decide) rfl rfl (Nat.le_of_ble_eq_true rfl) (fun K _ => ?_)
  refine rz_Leq [(0, .ref x)] rfl ?_
  have l8 := hw.2.2.2.2.2.1
  refine rz_iconst d_Md_allLed_0 ?_
  refine rz_istore_n [(1, vi 0), (0, .ref x)] d_Md_allLed_1 rfl (by decide) rfl ?_
  refine rz_loop (α := Int × rz_H × (Int → Int)) 0 0 2 (fun (p, hA, lA) => (6 - p).toNat) (fun (p, hA, lA) => 0 ≤ p ∧ p ≤ 6 ∧ MdAt Γ hA x ad (mu M 16 lA) ∧ rz_fr [10, 11] h hA ∧ (∀ q, 0 ≤ q → q < p → lA q = 0)) (fun (p, hA, lA) => [(1, vi p), (0, .ref x)]) (fun (p, hA, lA) => []) (fun (p, hA, lA) => hA) (fun y hy ih2 => ?_) (fun LP => ?_)
  · obtain ⟨p, hA, lA⟩ := y
    try dsimp only at hy ih2 ⊢
    obtain ⟨hp0, hp1, hMA, hFA, hz⟩ := hy
    refine rz_iload_n 0 d_Md_allLed_2 rfl rfl ?_
    refine rz_bipush (v := 6) d_Md_allLed_3 (by decide) ?_
    refine rz_icmp_ge 21 d_Md_allLed_5 (by decide) (by omega) ⟨by decide, by decide⟩ (fun c5 => ?_) (fun c5 => ?_)
    · refine rz_iconst d_Md_allLed_21 ?_
      refine rz_istore_n [(1, vi 0), (0, .ref x)] d_Md_allLed_22 rfl (by decide) rfl ?_
      refine rz_loop (α := Int × rz_H × (Int → Int)) 0 0 23 (fun (a, hB, lB) => (M 8 0 - a).toNat) (fun (a, hB, lB) => 0 ≤ a ∧ a ≤ M 8 0 ∧ MdAt Γ hB x ad (mu M 16 lB) ∧ rz_fr [10, 11] h hB ∧ b6 lB ∧ eq6 lB (ldA M a.toNat)) (fun (a, hB, lB) => [(1, vi a), (0, .ref x)]) (fun (a, hB, lB) => []) (fun (a, hB, lB) => hB) (fun y hy ih23 => ?_) (fun LP => ?_)
      · obtain ⟨a, hB, lB⟩ := y
        try dsimp only at hy ih23 ⊢
        obtain ⟨ha0, ha1, hMB, hFB, hb, he⟩ := hy
        refine rz_iload_n 0 d_Md_allLed_23 rfl rfl ?_
        refine rz_aload_n 1 d_Md_allLed_24 rfl rfl ?_
        refine rz_getf f_Md_167 hMB.1 rfl d_Md_allLed_25 ?_
        refine rz_Seq [vi (M 8 0), vi a] rfl ?_
        refine rz_icmp_ge 58 d_Md_allLed_28 (by decide) (by omega) (by omega) (fun c28 => ?_) (fun c28 => ?_)
        · refine rz_iconst d_Md_allLed_58 ?_
          refine rz_istore_n [(1, vi 0), (0, .ref x)] d_Md_allLed_59 rfl (by decide) rfl ?_
          refine rz_loop (α := Int × rz_H × (Int → Int)) 0 0 60 (fun (j, hC, lC) => (108 - j).toNat) (fun (j, hC, lC) => 0 ≤ j ∧ j ≤ 108 ∧ MdAt Γ hC x ad (mu M 16 lC) ∧ rz_fr [10, 11] h hC ∧ b6 lC ∧ eq6 lC (ldB M (ldA M (M 8 0).toNat) j.toNat)) (fun (j, hC, lC) => [(1, vi j), (0, .ref x)]) (fun (j, hC, lC) => []) (fun (j, hC, lC) => hC) (fun y hy ih60 => ?_) (fun LP => ?_)
          · obtain ⟨j, hC, lC⟩ := y
            try dsimp only at hy ih60 ⊢
            obtain ⟨hj0, hj1, hMC, hFC, hb, he⟩ := hy
            refine rz_iload_n 0 d_Md_allLed_60 rfl rfl ?_
            refine rz_bipush (v := 108) d_Md_allLed_61 (by decide) ?_
            refine rz_icmp_ge 149 d_Md_allLed_63 (by decide) (by omega) ⟨by decide, by decide⟩ (fun c63 => ?_) (fun c63 => ?_)
            · refine rz_iconst d_Md_allLed_149 ?_
              refine rz_istore_n [(1, vi 0), (0, .ref x)] d_Md_allLed_150 rfl (by decide) rfl ?_
              refine rz_loop (α := Int) 0 0 151 (fun p => (6 - p).toNat) (fun p => 0 ≤ p ∧ p ≤ 6 ∧ ldF M lC 6 0 = ldF M lC (6 - p).toNat p) (fun p => [(1, vi p), (0, .ref x)]) (fun p => []) (fun p => hC) (fun y hy ih151 => ?_) (fun LP => ?_)
              · obtain ⟨p, rfl⟩ : ∃ z, z = y := ⟨_, rfl⟩
                try dsimp only at hy ih151 ⊢
                obtain ⟨hp0, hp1, hv⟩ := hy
                refine rz_iload_n 0 d_Md_allLed_151 rfl rfl ?_
                refine rz_bipush (v := 6) d_Md_allLed_152 (by decide) ?_
                refine rz_icmp_ge 183 d_Md_allLed_154 (by decide) (by omega) ⟨by decide, by decide⟩ (fun c154 => ?_) (fun c154 => ?_)
                · refine rz_iconst d_Md_allLed_183 ?_
                  exact rz_zreturn (st := []) (ty := .boolean) rfl rfl d_Md_allLed_184 ⟨by decide, by decide⟩ ⟨_, rfl, bi1 (by rw [ledP, ldE, ← ldF_c M 6 0 (by omega) (by omega) (show eq6 lC _ from by have e : j = 108 := (by omega); rw [e] at he; exact he), hv, show (6 - p).toNat = 0 by omega]; rfl), _, hMC, mSk.rf.mu (by decide) _, hFC⟩
                · have lb := hb p (by omega) (by omega)
                  have l11 := hno p (by omega) (by omega)
                  have l2 := hw.2.2.1 p (by omega) (by omega)
                  refine rz_aload_n 1 d_Md_allLed_157 rfl rfl ?_
                  refine rz_getf f_Md_41 hMC.1 rfl d_Md_allLed_158 ?_
                  refine rz_iload_n 0 d_Md_allLed_161 rfl rfl ?_
                  refine rz_iaload (md_a11 hMC) (by decide) (by omega) d_Md_allLed_162 ?_
                  refine rz_Seq [vi (M 11 p)] rfl ?_
                  refine rz_if_lt 177 d_Md_allLed_163 (by decide) (by omega) (fun c163 => ?_) (fun c163 => ?_)
                  · refine rz_iinc (p + 1) 0 [(1, vi (p + 1)), (0, .ref x)] d_Md_allLed_177 rfl (by first | rfl | omega) (by decide) rfl ?_
                    refine rz_goto 151 d_Md_allLed_180 (by decide) ?_
                    refine rz_Lsub [(1, vi (p + 1)), (0, .ref x)] [0, 1] rfl ?_
                    refine ih151 (p + 1) ?_ ?_
                    · try dsimp only
                      exact ⟨by omega, by omega, (by rw [hv, ldF_e _ _ (by omega), if_neg (by omega)]; congr 1; omega)⟩
                    · exact (by first | omega | (dsimp only; omega))
                  · refine rz_aload_n 1 d_Md_allLed_166 rfl rfl ?_
                    refine rz_getf f_Md_50 hMC.1 rfl d_Md_allLed_167 ?_
                    refine rz_iload_n 0 d_Md_allLed_170 rfl rfl ?_
                    refine rz_zaload (md_a16 hMC) (by decide) (by omega) d_Md_allLed_171 ?_
                    refine rz_Seq [vi (lC p)] rfl ?_
                    refine rz_if_ne 177 d_Md_allLed_172 (by decide) (by omega) (fun c172 => ?_) (fun c172 => ?_)
                    · refine rz_iinc (p + 1) 0 [(1, vi (p + 1)), (0, .ref x)] d_Md_allLed_177 rfl (by first | rfl | omega) (by decide) rfl ?_
                      refine rz_goto 151 d_Md_allLed_180 (by decide) ?_
                      refine rz_Lsub [(1, vi (p + 1)), (0, .ref x)] [0, 1] rfl ?_
                      refine ih151 (p + 1) ?_ ?_
                      · try dsimp only
                        exact ⟨by omega, by omega, (by rw [hv, ldF_e _ _ (by omega), if_neg (by omega)]; congr 1; omega)⟩
                      · exact (by first | omega | (dsimp only; omega))
                    · refine rz_iconst d_Md_allLed_175 ?_
                      exact rz_zreturn (st := []) (ty := .boolean) rfl rfl d_Md_allLed_176 ⟨by decide, by decide⟩ ⟨_, rfl, bi0 (by rw [ledP, ldE, ← ldF_c M 6 0 (by omega) (by omega) (show eq6 lC _ from by have e : j = 108 := (by omega); rw [e] at he; exact he), hv, ldF_e _ _ (by omega), if_pos ⟨by omega, by omega⟩]), _, hMC, mSk.rf.mu (by decide) _, hFC⟩
              · refine rz_Lsub [(1, vi 0), (0, .ref x)] [0, 1] rfl ?_
                refine LP 0 ?_
                try dsimp only
                exact ⟨by decide, by decide, rfl⟩
            · refine rz_iload_n 0 d_Md_allLed_66 rfl rfl ?_
              refine rz_iconst d_Md_allLed_67 ?_
              refine rz_idiv (by omega) (by omega) d_Md_allLed_68 ?_
              refine rz_bipush (v := 6) d_Md_allLed_69 (by decide) ?_
              refine rz_irem (by omega) (by omega) d_Md_allLed_71 ?_
              refine rz_top (fun p2 e_p2 => ?_)
              replace e_p2 := e_p2.symm
              refine rz_istore_n [(2, vi p2), (1, vi j), (0, .ref x)] d_Md_allLed_72 rfl (by decide) rfl ?_
              have lb := hb p2 (by omega) (by omega)
              have l11 := hno p2 (by omega) (by omega)
              have l2 := hw.2.2.1 p2 (by omega) (by omega)
              refine rz_aload_n 2 d_Md_allLed_73 rfl rfl ?_
              refine rz_getf f_Md_50 hMC.1 rfl d_Md_allLed_74 ?_
              refine rz_iload_n 0 d_Md_allLed_77 rfl rfl ?_
              refine rz_zaload (md_a16 hMC) (by decide) (by omega) d_Md_allLed_78 ?_
              refine rz_Seq [vi (lC p2)] rfl ?_
              refine rz_if_eq 143 d_Md_allLed_79 (by decide) (by omega) (fun c79 => ?_) (fun c79 => ?_)
              · refine rz_iinc (j + 1) 1 [(1, vi (j + 1)), (2, vi p2), (0, .ref x)] d_Md_allLed_143 rfl (by first | rfl | omega) (by decide) rfl ?_
                refine rz_goto 60 d_Md_allLed_146 (by decide) ?_
                refine rz_Lsub [(1, vi (j + 1)), (0, .ref x)] [0, 2] rfl ?_
                refine ih60 (j + 1, hC, lC) ?_ ?_
                · try dsimp only
                  exact ⟨by omega, by omega, hMC, hFC, hb, (by rw [ldB_s _ _ hj0, e_p2, if_pos (by rw [← he p2 (by omega) (by omega)]; first | exact Or.inl c79 | exact Or.inr (Or.inl c88) | exact Or.inr (Or.inr (Or.inl (by omega))) | exact Or.inr (Or.inr (Or.inr (by rw [e_i]; exact c128))))]; exact he)⟩
                · exact (by first | omega | (dsimp only; omega))
              · refine rz_aload_n 2 d_Md_allLed_82 rfl rfl ?_
                refine rz_getf f_Md_41 hMC.1 rfl d_Md_allLed_83 ?_
                refine rz_iload_n 0 d_Md_allLed_86 rfl rfl ?_
                refine rz_iaload (md_a11 hMC) (by decide) (by omega) d_Md_allLed_87 ?_
                refine rz_Seq [vi (M 11 p2)] rfl ?_
                refine rz_if_lt 143 d_Md_allLed_88 (by decide) (by omega) (fun c88 => ?_) (fun c88 => ?_)
                · refine rz_iinc (j + 1) 1 [(1, vi (j + 1)), (2, vi p2), (0, .ref x)] d_Md_allLed_143 rfl (by first | rfl | omega) (by decide) rfl ?_
                  refine rz_goto 60 d_Md_allLed_146 (by decide) ?_
                  refine rz_Lsub [(1, vi (j + 1)), (0, .ref x)] [0, 2] rfl ?_
                  refine ih60 (j + 1, hC, lC) ?_ ?_
                  · try dsimp only
                    exact ⟨by omega, by omega, hMC, hFC, hb, (by rw [ldB_s _ _ hj0, e_p2, if_pos (by rw [← he p2 (by omega) (by omega)]; first | exact Or.inl c79 | exact Or.inr (Or.inl c88) | exact Or.inr (Or.inr (Or.inl (by omega))) | exact Or.inr (Or.inr (Or.inr (by rw [e_i]; exact c128))))]; exact he)⟩
                  · exact (by first | omega | (dsimp only; omega))
                · have l5 := hw.2.2.2.1 (4 * p2 + M 11 p2) (by omega) (by omega)
                  refine rz_iload_n 1 d_Md_allLed_91 rfl rfl ?_
                  refine rz_iconst d_Md_allLed_92 ?_
                  refine rz_irem (by omega) (by omega) d_Md_allLed_93 ?_
                  refine rz_aload_n 2 d_Md_allLed_94 rfl rfl ?_
                  refine rz_getf f_Md_26 hMC.1 rfl d_Md_allLed_95 ?_
                  refine rz_aload_n 2 d_Md_allLed_98 rfl rfl ?_
                  refine rz_iload_n 0 d_Md_allLed_99 rfl rfl ?_
                  refine rz_callV (As := [vi p2]) (c_Md_slot hMC (by omega)) m_Md_176 hMC.1 rfl rfl rfl rfl (Nat.le_of_ble_eq_true rfl) ⟨by decide, by decide⟩ ⟨by decide, by decide⟩ d_Md_allLed_100 (kE (h := hC) ?_)
                  refine rz_Seq [vi (4 * p2 + M 11 p2), .ref (ad 5), vi (j % 3)] rfl ?_
                  refine rz_iaload (md_a5 hMC) (by decide) (by omega) d_Md_allLed_103 ?_
                  refine rz_Seq [vi (M 5 (4 * p2 + M 11 p2)), vi (j % 3)] rfl ?_
                  refine rz_icmp_lt 110 d_Md_allLed_104 (by decide) (by omega) (by omega) (fun c104 => ?_) (fun c104 => ?_)
                  · refine rz_iconst d_Md_allLed_110 ?_
                    refine rz_aload_n 2 d_Md_allLed_111 rfl rfl ?_
                    refine rz_iload_n 0 d_Md_allLed_112 rfl rfl ?_
                    refine rz_callV (As := [vi p2]) (c_Md_slot hMC (by omega)) m_Md_176 hMC.1 rfl rfl rfl rfl (Nat.le_of_ble_eq_true rfl) ⟨by decide, by decide⟩ ⟨by decide, by decide⟩ d_Md_allLed_113 (kE (h := hC) ?_)
                    refine rz_Seq [vi (4 * p2 + M 11 p2), vi 3] rfl ?_
                    refine rz_imul d_Md_allLed_116 ?_
                    refine rz_iload_n 1 d_Md_allLed_117 rfl rfl ?_
                    refine rz_iconst d_Md_allLed_118 ?_
                    refine rz_irem (by omega) (by omega) d_Md_allLed_119 ?_
                    refine rz_iadd d_Md_allLed_120 ?_
                    refine rz_top (fun i e_i => ?_)
                    replace e_i := e_i.symm
                    refine rz_istore_n [(3, vi i), (2, vi p2), (1, vi j), (0, .ref x)] d_Md_allLed_121 rfl (by decide) rfl ?_
                    have l7 := hw.2.2.2.2.2.2.2.2.2.1 i (by omega) (by omega)
                    have l6 := hw.2.2.2.2.1 i (by omega) (by omega)
                    refine rz_aload_n 3 d_Md_allLed_122 rfl rfl ?_
                    refine rz_getf f_Md_32 hMC.1 rfl d_Md_allLed_123 ?_
                    refine rz_iload_n 0 d_Md_allLed_126 rfl rfl ?_
                    refine rz_zaload (md_a7 hMC) (by decide) (by omega) d_Md_allLed_127 ?_
                    refine rz_Seq [vi (M 7 i)] rfl ?_
                    refine rz_if_ne 143 d_Md_allLed_128 (by decide) (by omega) (fun c128 => ?_) (fun c128 => ?_)
                    · refine rz_iinc (j + 1) 2 [(1, vi (j + 1)), (3, vi i), (2, vi p2), (0, .ref x)] d_Md_allLed_143 rfl (by first | rfl | omega) (by decide) rfl ?_
                      refine rz_goto 60 d_Md_allLed_146 (by decide) ?_
                      refine rz_Lsub [(1, vi (j + 1)), (0, .ref x)] [0, 3] rfl ?_
                      refine ih60 (j + 1, hC, lC) ?_ ?_
                      · try dsimp only
                        exact ⟨by omega, by omega, hMC, hFC, hb, (by rw [ldB_s _ _ hj0, e_p2, if_pos (by rw [← he p2 (by omega) (by omega)]; first | exact Or.inl c79 | exact Or.inr (Or.inl c88) | exact Or.inr (Or.inr (Or.inl (by omega))) | exact Or.inr (Or.inr (Or.inr (by rw [e_i]; exact c128))))]; exact he)⟩
                      · exact (by first | omega | (dsimp only; omega))
                    · refine rz_aload_n 3 d_Md_allLed_131 rfl rfl ?_
                      refine rz_getf f_Md_50 hMC.1 rfl d_Md_allLed_132 ?_
                      refine rz_aload_n 3 d_Md_allLed_135 rfl rfl ?_
                      refine rz_getf f_Md_29 hMC.1 rfl d_Md_allLed_136 ?_
                      refine rz_iload_n 0 d_Md_allLed_139 rfl rfl ?_
                      refine rz_iaload (md_a6 hMC) (by decide) (by omega) d_Md_allLed_140 ?_
                      refine rz_Seq [vi (M 6 i), .ref (ad 16)] rfl ?_
                      refine rz_iconst d_Md_allLed_141 ?_
                      refine md_st16 hMC hFC (by omega) (by decide) d_Md_allLed_142 (fun h1 hM1 hF1 => ?_)
                      rw [mu_mu, mu_s] at hM1
                      refine rz_iinc (j + 1) 2 [(1, vi (j + 1)), (3, vi i), (2, vi p2), (0, .ref x)] d_Md_allLed_143 rfl (by first | rfl | omega) (by decide) rfl ?_
                      refine rz_goto 60 d_Md_allLed_146 (by decide) ?_
                      refine rz_Lsub [(1, vi (j + 1)), (0, .ref x)] [0, 3] rfl ?_
                      refine ih60 (j + 1, h1, (rz_u lC (M 6 i) 1)) ?_ ?_
                      · try dsimp only
                        exact ⟨by omega, by omega, hM1, hF1, (b6_u hb _ (Or.inr rfl)), (by rw [ldB_s _ _ hj0, e_p2, if_neg (by rw [← he p2 (by omega) (by omega), e_i]; intro q; rcases q with q | q | q | q; exact c79 q; exact c88 q; omega; exact q c128), e_i]; exact eq6_u he _ _)⟩
                      · exact (by first | omega | (dsimp only; omega))
                  · refine rz_goto 143 d_Md_allLed_107 (by decide) ?_
                    refine rz_iinc (j + 1) 1 [(1, vi (j + 1)), (2, vi p2), (0, .ref x)] d_Md_allLed_143 rfl (by first | rfl | omega) (by decide) rfl ?_
                    refine rz_goto 60 d_Md_allLed_146 (by decide) ?_
                    refine rz_Lsub [(1, vi (j + 1)), (0, .ref x)] [0, 2] rfl ?_
                    refine ih60 (j + 1, hC, lC) ?_ ?_
                    · try dsimp only
                      exact ⟨by omega, by omega, hMC, hFC, hb, (by rw [ldB_s _ _ hj0, e_p2, if_pos (by rw [← he p2 (by omega) (by omega)]; first | exact Or.inl c79 | exact Or.inr (Or.inl c88) | exact Or.inr (Or.inr (Or.inl (by omega))) | exact Or.inr (Or.inr (Or.inr (by rw [e_i]; exact c128))))]; exact he)⟩
                    · exact (by first | omega | (dsimp only; omega))
          · refine rz_Lsub [(1, vi 0), (0, .ref x)] [0, 1] rfl ?_
            refine LP (0, hB, lB) ?_
            try dsimp only
            exact ⟨by decide, by decide, hMB, hFB, hb, (by have e : a = M 8 0 := (by omega); rw [e] at he; exact he)⟩
        · have l10 := hco a (by omega) (by omega)
          have l9 := hw.2.2.2.2.2.2.1 a (by omega) (by omega)
          refine rz_aload_n 1 d_Md_allLed_31 rfl rfl ?_
          refine rz_getf f_Md_38 hMB.1 rfl d_Md_allLed_32 ?_
          refine rz_iload_n 0 d_Md_allLed_35 rfl rfl ?_
          refine rz_zaload (md_a10 hMB) (by decide) (by omega) d_Md_allLed_36 ?_
          refine rz_Seq [vi (M 10 a)] rfl ?_
          refine rz_if_eq 52 d_Md_allLed_37 (by decide) (by omega) (fun c37 => ?_) (fun c37 => ?_)
          · refine rz_iinc (a + 1) 0 [(1, vi (a + 1)), (0, .ref x)] d_Md_allLed_52 rfl (by first | rfl | omega) (by decide) rfl ?_
            refine rz_goto 23 d_Md_allLed_55 (by decide) ?_
            refine rz_Lsub [(1, vi (a + 1)), (0, .ref x)] [0, 1] rfl ?_
            refine ih23 (a + 1, hB, lB) ?_ ?_
            · try dsimp only
              exact ⟨by omega, by omega, hMB, hFB, hb, (by rw [ldA_s M ha0, if_pos c37]; exact he)⟩
            · exact (by first | omega | (dsimp only; omega))
          · refine rz_aload_n 1 d_Md_allLed_40 rfl rfl ?_
            refine rz_getf f_Md_50 hMB.1 rfl d_Md_allLed_41 ?_
            refine rz_aload_n 1 d_Md_allLed_44 rfl rfl ?_
            refine rz_getf f_Md_35 hMB.1 rfl d_Md_allLed_45 ?_
            refine rz_iload_n 0 d_Md_allLed_48 rfl rfl ?_
            refine rz_iaload (md_a9 hMB) (by decide) (by omega) d_Md_allLed_49 ?_
            refine rz_Seq [vi (M 9 a), .ref (ad 16)] rfl ?_
            refine rz_iconst d_Md_allLed_50 ?_
            refine md_st16 hMB hFB (by omega) (by decide) d_Md_allLed_51 (fun h2 hM2 hF2 => ?_)
            rw [mu_mu, mu_s] at hM2
            refine rz_iinc (a + 1) 0 [(1, vi (a + 1)), (0, .ref x)] d_Md_allLed_52 rfl (by first | rfl | omega) (by decide) rfl ?_
            refine rz_goto 23 d_Md_allLed_55 (by decide) ?_
            refine rz_Lsub [(1, vi (a + 1)), (0, .ref x)] [0, 1] rfl ?_
            refine ih23 (a + 1, h2, (rz_u lB (M 9 a) 1)) ?_ ?_
            · try dsimp only
              exact ⟨by omega, by omega, hM2, hF2, (b6_u hb _ (Or.inr rfl)), (by rw [ldA_s M ha0, if_neg c37]; exact eq6_u he _ _)⟩
            · exact (by first | omega | (dsimp only; omega))
      · refine rz_Lsub [(1, vi 0), (0, .ref x)] [0, 1] rfl ?_
        refine LP (0, hA, lA) ?_
        try dsimp only
        exact ⟨by omega, by omega, hMA, hFA, (fun q a b => Or.inl (hz q a (by omega))), (fun q a b => hz q a (by omega))⟩
    · refine rz_aload_n 1 d_Md_allLed_8 rfl rfl ?_
      refine rz_getf f_Md_50 hMA.1 rfl d_Md_allLed_9 ?_
      refine rz_iload_n 0 d_Md_allLed_12 rfl rfl ?_
      refine rz_iconst d_Md_allLed_13 ?_
      refine md_st16 hMA hFA (by omega) (by decide) d_Md_allLed_14 (fun h3 hM3 hF3 => ?_)
      rw [mu_mu, mu_s] at hM3
      refine rz_iinc (p + 1) 0 [(1, vi (p + 1)), (0, .ref x)] d_Md_allLed_15 rfl (by first | rfl | omega) (by decide) rfl ?_
      refine rz_goto 2 d_Md_allLed_18 (by decide) ?_
      refine rz_Lsub [(1, vi (p + 1)), (0, .ref x)] [0, 1] rfl ?_
      refine ih2 (p + 1, h3, (rz_u lA p 0)) ?_ ?_
      · try dsimp only
        exact ⟨by omega, by omega, hM3, hF3, (zu hz)⟩
      · exact (by first | omega | (dsimp only; omega))
  · refine rz_Lsub [(1, vi 0), (0, .ref x)] [0, 1] rfl ?_
    refine LP (0, h, (M 16)) ?_
    try dsimp only
    exact ⟨by decide, by decide, (by rw [mu_self]; exact hM), rz_fr.rf, (fun q a b => absurd b (by omega))⟩
end
section
/-! the reference: good -/
theorem cOK_S2 {M M' : Nat → Int → Int} (h : mS2 M M') (hc : cOK M) : cOK M' := by
  intro a b c; rw [h 10 (by decide) (by decide)]; exact hc a b c
theorem ldA_S2 {M M' : Nat → Int → Int} (h : mS2 M M') : ∀ n, ldA M' n = ldA M n
  | 0 => rfl
  | n + 1 => by simp only [ldA, ldA_S2 h n, h 10 (by decide) (by decide), h 9 (by decide) (by decide)]
theorem ldB_S2 {M M' : Nat → Int → Int} (h : mS2 M M') (l : Int → Int) : ∀ n, ldB M' l n = ldB M l n
  | 0 => rfl
  | n + 1 => by simp only [ldB, ldB_S2 h l n, h 11 (by decide) (by decide), h 5 (by decide) (by decide), h 7 (by decide) (by decide), h 6 (by decide) (by decide)]
theorem ldF_S2 {M M' : Nat → Int → Int} (h : mS2 M M') (l : Int → Int) : ∀ n p, ldF M' l n p = ldF M l n p
  | 0, _ => rfl
  | n + 1, p => by simp only [ldF, ldF_S2 h l n, h 11 (by decide) (by decide)]
theorem ledP_S2 {M M' : Nat → Int → Int} (h : mS2 M M') : ledP M' = ledP M := by
  unfold ledP ldE
  rw [ldF_S2 h, ldB_S2 h, ldA_S2 h, h 8 (by decide) (by decide)]
def gaF (M : Nat → Int → Int) : Nat → Int → Bool
  | 0, _ => true
  | n + 1, a => if ¬ M 10 a = 0 ∧ metP M (M 9 a) (2 + a) = false then false else gaF M n (a + 1)
theorem gaF_e (M : Nat → Int → Int) {n : Nat} {a : Int} (hn : 0 < n) : gaF M n a = if ¬ M 10 a = 0 ∧ metP M (M 9 a) (2 + a) = false then false else gaF M (n - 1) (a + 1) := by
  cases n with
  | zero => omega
  | succ n => rfl
def gpF (M : Nat → Int → Int) : Nat → Int → Bool
  | 0, _ => true
  | n + 1, p => if 0 ≤ M 11 p ∧ rgP M p = false then false else gpF M n (p + 1)
theorem gpF_e (M : Nat → Int → Int) {n : Nat} {p : Int} (hn : 0 < n) : gpF M n p = if 0 ≤ M 11 p ∧ rgP M p = false then false else gpF M (n - 1) (p + 1) := by
  cases n with
  | zero => omega
  | succ n => rfl
/-- the selection 'now' is good, of the asks that count -/
def goodP (M : Nat → Int → Int) : Bool := gaF M (M 8 0).toNat 0 && gpF M 6 0 && ledP M
abbrev rm_Md_good : Room := { frames := 9, cells := 0, slots := 0, locals := 230 }
set_option maxRecDepth 100000 in
set_option maxHeartbeats 4000000 in
theorem c_Md_good {l : Launch} {Γ : rz_G} {h : rz_H} {x : Nat} {ad : Nat → Nat} {M : Nat → Int → Int} (hM : MdAt Γ h x ad M) (hw : mWF M) (hval : mVal M) (hno : nowOK M) (hco : cOK M) : Ct l Γ x_Md_good y_Md_good rm_Md_good [.ref x] h (pI (fun r h' => r = bi (goodP M) ∧ ∃ M', MdAt Γ h' x ad M' ∧ mSk [16, 17, 18] M M' ∧ rz_fr [10, 11] h h')) := by
  refine rz_met (by decide) rfl rfl (Nat.le_of_ble_eq_true rfl) (fun K _ => ?_)
  refine rz_Leq [(0, .ref x)] rfl ?_
  have l8 := hw.2.2.2.2.2.1
  refine rz_iconst d_Md_good_0 ?_
  refine rz_istore_n [(1, vi 0), (0, .ref x)] d_Md_good_1 rfl (by decide) rfl ?_
  refine rz_loop (α := Int × rz_H × (Nat → Int → Int)) 0 0 2 (fun (a, hA, MA) => (M 8 0 - a).toNat) (fun (a, hA, MA) => 0 ≤ a ∧ a ≤ M 8 0 ∧ MdAt Γ hA x ad MA ∧ mS2 M MA ∧ rz_fr [10, 11] h hA ∧ gaF M (M 8 0).toNat 0 = gaF M (M 8 0 - a).toNat a) (fun (a, hA, MA) => [(1, vi a), (0, .ref x)]) (fun (a, hA, MA) => []) (fun (a, hA, MA) => hA) (fun y hy ih2 => ?_) (fun LP => ?_)
  · obtain ⟨a, hA, MA⟩ := y
    try dsimp only at hy ih2 ⊢
    obtain ⟨ha0, ha1, hMA, hSA, hFA, hv1⟩ := hy
    have hwA := mS2_wf hSA hw
    refine rz_iload_n 0 d_Md_good_2 rfl rfl ?_
    refine rz_aload_n 1 d_Md_good_3 rfl rfl ?_
    refine rz_getf f_Md_167 hMA.1 rfl d_Md_good_4 ?_
    rw [hSA 8 (by decide) (by decide)]
    refine rz_icmp_ge 43 d_Md_good_7 (by decide) (by omega) (by omega) (fun c7 => ?_) (fun c7 => ?_)
    · refine rz_iconst d_Md_good_43 ?_
      refine rz_istore_n [(1, vi 0), (0, .ref x)] d_Md_good_44 rfl (by decide) rfl ?_
      refine rz_loop (α := Int × rz_H × (Nat → Int → Int)) 0 0 45 (fun (p, hB, MB) => (6 - p).toNat) (fun (p, hB, MB) => 0 ≤ p ∧ p ≤ 6 ∧ MdAt Γ hB x ad MB ∧ mS2 M MB ∧ rz_fr [10, 11] h hB ∧ gpF M 6 0 = gpF M (6 - p).toNat p) (fun (p, hB, MB) => [(1, vi p), (0, .ref x)]) (fun (p, hB, MB) => []) (fun (p, hB, MB) => hB) (fun y hy ih45 => ?_) (fun LP => ?_)
      · obtain ⟨p, hB, MB⟩ := y
        try dsimp only at hy ih45 ⊢
        obtain ⟨hp0, hp1, hMB, hSB, hFB, hv2⟩ := hy
        have hwB := mS2_wf hSB hw
        refine rz_iload_n 0 d_Md_good_45 rfl rfl ?_
        refine rz_bipush (v := 6) d_Md_good_46 (by decide) ?_
        refine rz_icmp_ge 76 d_Md_good_48 (by decide) (by omega) ⟨by decide, by decide⟩ (fun c48 => ?_) (fun c48 => ?_)
        · refine rz_aload_n 1 d_Md_good_76 rfl rfl ?_
          refine rz_callV (As := []) (c_Md_allLed hMB hwB (nowOK_S2 hSB hno) (cOK_S2 hSB hco)) m_Md_185 hMB.1 rfl rfl rfl rfl (Nat.le_of_ble_eq_true rfl) ⟨by decide, by decide⟩ ⟨by decide, by decide⟩ d_Md_good_77 (kI (h := hB) fun r1 h1 q1 => ?_)
          obtain ⟨rfl, M1, hM1, hT1, hF1⟩ := q1
          rw [ledP_S2 hSB]
          have hK1 : mSk [16, 17, 18] M M1 := (mSk.of2 hSB (by decide) (by decide)).tr (hT1.mono (by decide))
          have hG1 := hFB.tr hF1
          exact rz_zreturn (st := []) (ty := .boolean) rfl (nz_b _) d_Md_good_80 ⟨by decide, by decide⟩ ⟨_, rfl, (by rw [goodP, (hv1.trans (show gaF M (M 8 0 - a).toNat a = true from by simp [show (M 8 0 - a).toNat = 0 from by omega, gaF])), hv2, show (6 - p).toNat = 0 by omega]; simp [gpF]), M1, hM1, hK1, hG1⟩
        · have l11 := hno p (by omega) (by omega)
          have l2 := hw.2.2.1 p (by omega) (by omega)
          refine rz_aload_n 1 d_Md_good_51 rfl rfl ?_
          refine rz_getf f_Md_41 hMB.1 rfl d_Md_good_52 ?_
          refine rz_iload_n 0 d_Md_good_55 rfl rfl ?_
          refine rz_iaload (md_a11 hMB) (by decide) (by omega) d_Md_good_56 ?_
          rw [hSB 11 (by decide) (by decide)]
          refine rz_if_lt 70 d_Md_good_57 (by decide) (by omega) (fun c57 => ?_) (fun c57 => ?_)
          · refine rz_iinc (p + 1) 0 [(1, vi (p + 1)), (0, .ref x)] d_Md_good_70 rfl (by first | rfl | omega) (by decide) rfl ?_
            refine rz_goto 45 d_Md_good_73 (by decide) ?_
            refine rz_Lsub [(1, vi (p + 1)), (0, .ref x)] [0, 1] rfl ?_
            refine ih45 (p + 1, hB, MB) ?_ ?_
            · try dsimp only
              exact ⟨by omega, by omega, hMB, hSB, hFB, (by rw [hv2, gpF_e _ (by omega), if_neg (by first | (intro q; omega) | (intro q; rw [c65] at q; exact absurd q.2 (by decide)))]; congr 1; omega)⟩
            · exact (by first | omega | (dsimp only; omega))
          · refine rz_aload_n 1 d_Md_good_60 rfl rfl ?_
            refine rz_iload_n 0 d_Md_good_61 rfl rfl ?_
            refine rz_callV (As := [vi p]) (c_Md_releaseGood hMB hwB (mVal_S2 hSB hval) (nowOK_S2 hSB hno) (by omega) (by rw [hSB 11 (by decide) (by decide)]; omega)) m_Md_182 hMB.1 rfl rfl rfl rfl (Nat.le_of_ble_eq_true rfl) ⟨by decide, by decide⟩ ⟨by decide, by decide⟩ d_Md_good_62 (kI (h := hB) fun r2 h2 q2 => ?_)
            obtain ⟨rfl, M2, hM2, hT2, hF2⟩ := q2
            rw [rgP_S2 hSB]
            have hS2 := hSB.tr hT2
            have hw2 := mS2_wf hS2 hw
            have hG2 := hFB.tr hF2
            refine rz_if_neB 70 d_Md_good_65 (by decide) (fun c65 => ?_) (fun c65 => ?_)
            · refine rz_iinc (p + 1) 0 [(1, vi (p + 1)), (0, .ref x)] d_Md_good_70 rfl (by first | rfl | omega) (by decide) rfl ?_
              refine rz_goto 45 d_Md_good_73 (by decide) ?_
              refine rz_Lsub [(1, vi (p + 1)), (0, .ref x)] [0, 1] rfl ?_
              refine ih45 (p + 1, h2, M2) ?_ ?_
              · try dsimp only
                exact ⟨by omega, by omega, hM2, hS2, hG2, (by rw [hv2, gpF_e _ (by omega), if_neg (by first | (intro q; omega) | (intro q; rw [c65] at q; exact absurd q.2 (by decide)))]; congr 1; omega)⟩
              · exact (by first | omega | (dsimp only; omega))
            · refine rz_iconst d_Md_good_68 ?_
              exact rz_zreturn (st := []) (ty := .boolean) rfl rfl d_Md_good_69 ⟨by decide, by decide⟩ ⟨_, rfl, bi0 (by rw [goodP, (hv1.trans (show gaF M (M 8 0 - a).toNat a = true from by simp [show (M 8 0 - a).toNat = 0 from by omega, gaF])), hv2, gpF_e _ (by omega), if_pos ⟨by omega, c65⟩]; rfl), M2, hM2, mSk.of2 hS2 (by decide) (by decide), hG2⟩
      · refine rz_Lsub [(1, vi 0), (0, .ref x)] [0, 1] rfl ?_
        refine LP (0, hA, MA) ?_
        try dsimp only
        exact ⟨by omega, by omega, hMA, hSA, hFA, rfl⟩
    · have l10 := hco a (by omega) (by omega)
      have l9 := hw.2.2.2.2.2.2.1 a (by omega) (by omega)
      refine rz_aload_n 1 d_Md_good_10 rfl rfl ?_
      refine rz_getf f_Md_38 hMA.1 rfl d_Md_good_11 ?_
      refine rz_iload_n 0 d_Md_good_14 rfl rfl ?_
      refine rz_zaload (md_a10 hMA) (by decide) (by omega) d_Md_good_15 ?_
      rw [hSA 10 (by decide) (by decide)]
      refine rz_if_eq 37 d_Md_good_16 (by decide) (by omega) (fun c16 => ?_) (fun c16 => ?_)
      · refine rz_iinc (a + 1) 0 [(1, vi (a + 1)), (0, .ref x)] d_Md_good_37 rfl (by first | rfl | omega) (by decide) rfl ?_
        refine rz_goto 2 d_Md_good_40 (by decide) ?_
        refine rz_Lsub [(1, vi (a + 1)), (0, .ref x)] [0, 1] rfl ?_
        refine ih2 (a + 1, hA, MA) ?_ ?_
        · try dsimp only
          exact ⟨by omega, by omega, hMA, hSA, hFA, (by rw [hv1, gaF_e _ (by omega), if_neg (by first | (intro q; exact q.1 c16) | (intro q; rw [c32] at q; exact absurd q.2 (by decide)))]; congr 1; omega)⟩
        · exact (by first | omega | (dsimp only; omega))
      · refine rz_aload_n 1 d_Md_good_19 rfl rfl ?_
        refine rz_aload_n 1 d_Md_good_20 rfl rfl ?_
        refine rz_getf f_Md_35 hMA.1 rfl d_Md_good_21 ?_
        refine rz_iload_n 0 d_Md_good_24 rfl rfl ?_
        refine rz_iaload (md_a9 hMA) (by decide) (by omega) d_Md_good_25 ?_
        rw [hSA 9 (by decide) (by decide)]
        refine rz_iconst d_Md_good_26 ?_
        refine rz_iload_n 0 d_Md_good_27 rfl rfl ?_
        refine rz_iadd d_Md_good_28 ?_
        refine rz_callV (As := [vi (M 9 a), vi (2 + a)]) (c_Md_meets hMA hwA (vOK_S2 hSA hval.1) (nowOK_S2 hSA hno) (by omega) (by omega) (by rw [mS2_at hSA, hSA 1 (by decide) (by decide)]; exact hval.2.2.2.2 a (by omega) (by omega))) m_Md_179 hMA.1 rfl rfl rfl rfl (Nat.le_of_ble_eq_true rfl) ⟨by decide, by decide⟩ ⟨by decide, by decide⟩ d_Md_good_29 (kI (h := hA) fun r3 h3 q3 => ?_)
        obtain ⟨rfl, M3, hM3, hT3, hF3⟩ := q3
        rw [metP_S2 hSA]
        have hS3 := hSA.tr hT3
        have hw3 := mS2_wf hS3 hw
        have hG3 := hFA.tr hF3
        refine rz_if_neB 37 d_Md_good_32 (by decide) (fun c32 => ?_) (fun c32 => ?_)
        · refine rz_iinc (a + 1) 0 [(1, vi (a + 1)), (0, .ref x)] d_Md_good_37 rfl (by first | rfl | omega) (by decide) rfl ?_
          refine rz_goto 2 d_Md_good_40 (by decide) ?_
          refine rz_Lsub [(1, vi (a + 1)), (0, .ref x)] [0, 1] rfl ?_
          refine ih2 (a + 1, h3, M3) ?_ ?_
          · try dsimp only
            exact ⟨by omega, by omega, hM3, hS3, hG3, (by rw [hv1, gaF_e _ (by omega), if_neg (by first | (intro q; exact q.1 c16) | (intro q; rw [c32] at q; exact absurd q.2 (by decide)))]; congr 1; omega)⟩
          · exact (by first | omega | (dsimp only; omega))
        · refine rz_iconst d_Md_good_35 ?_
          exact rz_zreturn (st := []) (ty := .boolean) rfl rfl d_Md_good_36 ⟨by decide, by decide⟩ ⟨_, rfl, bi0 (by rw [goodP, hv1, gaF_e _ (by omega), if_pos ⟨c16, c32⟩]; rfl), M3, hM3, mSk.of2 hS3 (by decide) (by decide), hG3⟩
  · refine rz_Lsub [(1, vi 0), (0, .ref x)] [0, 1] rfl ?_
    refine LP (0, h, M) ?_
    try dsimp only
    exact ⟨by omega, by omega, hM, mS2.rf, rz_fr.rf, (by congr 1; omega)⟩
end
section
/-! the reference: search -/
/-- what is kept behind a search: all but its scribbles -/
def mSS (M M' : Nat → Int → Int) : Prop := mSk [10, 11, 16, 17, 18, 19] M M'
theorem mSS.k {M M' : Nat → Int → Int} (h : mSS M M') (k : Nat) (hk : k ∉ [10, 11, 16, 17, 18, 19]) : M' k = M k := h k hk
theorem mSS_at {M M' : Nat → Int → Int} (h : mSS M M') (t : Int) : mAt M' t = mAt M t := by
  funext i
  unfold mAt
  rw [h.k 0 (by decide), h.k 1 (by decide)]
theorem mSS_wf {M M' : Nat → Int → Int} (h : mSS M M') (hw : mWF M) : mWF M' := by
  unfold mWF
  rw [h.k 0 (by decide), h.k 1 (by decide), h.k 2 (by decide), h.k 3 (by decide), h.k 4 (by decide), h.k 5 (by decide), h.k 6 (by decide), h.k 7 (by decide), h.k 8 (by decide), h.k 9 (by decide), h.k 12 (by decide), h.k 13 (by decide), h.k 14 (by decide), h.k 15 (by decide)]
  exact hw
theorem mSS_val {M M' : Nat → Int → Int} (h : mSS M M') (hv : mVal M) : mVal M' := by
  refine ⟨?_, ?_, ?_, ?_, ?_⟩
  · intro p r h1 h2 h3 h4; rw [mSS_at h, h.k 1 (by decide)]; rw [h.k 2 (by decide)] at h4; exact hv.1 p r h1 h2 h3 h4
  · rw [mSS_at h, h.k 1 (by decide)]; exact hv.2.1
  · intro k a b c; rw [mSS_at h, h.k 1 (by decide)]; rw [h.k 4 (by decide)] at c; exact hv.2.2.1 k a b c
  · intro k j a b c d; rw [mSS_at h, h.k 1 (by decide)]; rw [h.k 5 (by decide)] at d; exact hv.2.2.2.1 k j a b c d
  · intro a b c; rw [mSS_at h, h.k 1 (by decide)]; rw [h.k 8 (by decide)] at c; exact hv.2.2.2.2 a b c
theorem cmpR_SS {M M' : Nat → Int → Int} (h : mSS M M') (p s r : Int) : cmpR M' p s r = cmpR M p s r := by
  unfold cmpR
  rw [mSS_at h, mSS_at h, h.k 1 (by decide)]
theorem gtF_SS {M M' : Nat → Int → Int} (h : mSS M M') (p r : Int) : ∀ n s, gtF M' p r n s = gtF M p r n s
  | 0, _ => rfl
  | n + 1, s => by simp only [gtF, gtF_SS h p r n, cmpR_SS h]
theorem gtr_SS {M M' : Nat → Int → Int} (h : mSS M M') (p r : Int) : gtr M' p r = gtr M p r := by
  unfold gtr
  rw [gtF_SS h, h.k 2 (by decide)]
theorem rdF_SS {M M' : Nat → Int → Int} (h : mSS M M') (p g : Int) : ∀ n r, rdF M' p g n r = rdF M p g n r
  | 0, _ => rfl
  | n + 1, r => by simp only [rdF, rdF_SS h p g n, gtr_SS h]
theorem rkd_SS {M M' : Nat → Int → Int} (h : mSS M M') (p g : Int) : rkd M' p g = rkd M p g := by
  unfold rkd
  rw [rdF_SS h, h.k 2 (by decide)]
theorem rdF_in (M : Nat → Int → Int) (p g : Int) : ∀ (n : Nat) (r : Int), rdF M p g n r = -1 ∨ (r ≤ rdF M p g n r ∧ rdF M p g n r < r + n)
  | 0, _ => Or.inl rfl
  | n + 1, r => by
    have ih := rdF_in M p g n (r + 1)
    simp only [rdF]
    split <;> omega
theorem rkd_in (M : Nat → Int → Int) (hw : mWF M) {p : Int} (hp : 0 ≤ p ∧ p < 6) (g : Int) : -1 ≤ rkd M p g ∧ rkd M p g < M 2 p := by
  have := rdF_in M p g (M 2 p).toNat 0
  have := hw.2.2.1 p hp.1 hp.2
  unfold rkd
  omega
/-- the j-th worth: of plugin j / 5 the release with j % 5 greater ones, -1 for none -/
def wth (M : Nat → Int → Int) (j : Int) : Int := if j % 5 = 4 then -1 else rkd M (j / 5) (j % 5)
theorem wth_in (M : Nat → Int → Int) (hw : mWF M) {j : Int} (hj : 0 ≤ j ∧ j < 30) : -1 ≤ wth M j ∧ wth M j < M 2 (j / 5) := by
  have h1 := rkd_in M hw (p := j / 5) (by omega) (j % 5)
  have := hw.2.2.1 (j / 5) (by omega) (by omega)
  unfold wth
  split <;> omega
def dgt (n p : Int) : Int := n / 5 ^ (5 - p).toNat % 5
/-- the n-th selection -/
def sel (M : Nat → Int → Int) (n p : Int) : Int := wth M (5 * p + dgt n p)
def frF (M : Nat → Int → Int) (n : Int) : Nat → Bool
  | 0 => true
  | k + 1 => if dgt n (5 - k) < 4 ∧ sel M n (5 - k) < 0 then false else frF M n k
def slF (M : Nat → Int → Int) (n : Int) : Int → Int := fun q => if 0 ≤ q ∧ q < 6 then sel M n q else M 11 q
def okS (M : Nat → Int → Int) (n : Int) : Bool := frF M n 6 && goodP (mu M 11 (slF M n))
def srF (M : Nat → Int → Int) : Nat → Int → Int
  | 0, i => i
  | k + 1, i => if okS M i = true then i else srF M k (i + 1)
theorem srF_hit {M : Nat → Int → Int} {k : Nat} {i : Int} (h : okS M i = true) : srF M k i = i := by
  cases k with
  | zero => rfl
  | succ k => simp only [srF]; rw [if_pos h]
theorem srF_go {M : Nat → Int → Int} {k : Nat} {i : Int} (hk : 0 < k) (h : okS M i = false) : srF M k i = srF M (k - 1) (i + 1) := by
  cases k with
  | zero => omega
  | succ k => simp only [srF]; rw [if_neg (by rw [h]; decide)]; rfl
/-- the number of the first good selection; 15625 if there is none -/
def srch (M : Nat → Int → Int) : Int := srF M 15625 0
/-- goodP reads the first twelve alone -/
theorem metP_K {M M' : Nat → Int → Int} (h : ∀ k, k < 12 → M' k = M k) (p t : Int) : metP M' p t = metP M p t := by
  have ha : ∀ t, mAt M' t = mAt M t := fun t => by funext i; unfold mAt; rw [h 0 (by decide), h 1 (by decide)]
  unfold metP
  rw [h 11 (by decide), h 1 (by decide), ha, ha]
theorem rgF_K {M M' : Nat → Int → Int} (h : ∀ k, k < 12 → M' k = M k) : ∀ n i, rgF M' n i = rgF M n i
  | 0, _ => rfl
  | n + 1, i => by simp only [rgF, metP_K h, rgF_K h n, h 7 (by decide), h 6 (by decide), h 11 (by decide)]
theorem rgP_K {M M' : Nat → Int → Int} (h : ∀ k, k < 12 → M' k = M k) (p : Int) : rgP M' p = rgP M p := by
  have ha : ∀ t, mAt M' t = mAt M t := fun t => by funext i; unfold mAt; rw [h 0 (by decide), h 1 (by decide)]
  unfold rgP
  simp only [rgF_K h, h 3 (by decide), h 4 (by decide), h 5 (by decide), h 11 (by decide), h 1 (by decide), ha]
theorem gaF_K {M M' : Nat → Int → Int} (h : ∀ k, k < 12 → M' k = M k) : ∀ n a, gaF M' n a = gaF M n a
  | 0, _ => rfl
  | n + 1, a => by simp only [gaF, metP_K h, gaF_K h n, h 10 (by decide), h 9 (by decide)]
theorem gpF_K {M M' : Nat → Int → Int} (h : ∀ k, k < 12 → M' k = M k) : ∀ n a, gpF M' n a = gpF M n a
  | 0, _ => rfl
  | n + 1, a => by simp only [gpF, rgP_K h, gpF_K h n, h 11 (by decide)]
theorem ldA_K {M M' : Nat → Int → Int} (h : ∀ k, k < 12 → M' k = M k) : ∀ n, ldA M' n = ldA M n
  | 0 => rfl
  | n + 1 => by simp only [ldA, ldA_K h n, h 10 (by decide), h 9 (by decide)]
theorem ldB_K {M M' : Nat → Int → Int} (h : ∀ k, k < 12 → M' k = M k) (l : Int → Int) : ∀ n, ldB M' l n = ldB M l n
  | 0 => rfl
  | n + 1 => by simp only [ldB, ldB_K h l n, h 11 (by decide), h 5 (by decide), h 7 (by decide), h 6 (by decide)]
theorem ldF_K {M M' : Nat → Int → Int} (h : ∀ k, k < 12 → M' k = M k) (l : Int → Int) : ∀ n p, ldF M' l n p = ldF M l n p
  | 0, _ => rfl
  | n + 1, p => by simp only [ldF, ldF_K h l n, h 11 (by decide)]
theorem goodP_K {M M' : Nat → Int → Int} (h : ∀ k, k < 12 → M' k = M k) : goodP M' = goodP M := by
  unfold goodP ledP ldE
  rw [gaF_K h, gpF_K h, ldF_K h, ldB_K h, ldA_K h, h 8 (by decide)]
theorem pw5 {p : Int} (hp : 0 ≤ p ∧ p ≤ 5) (n : Int) : n / 5 ^ (5 - (p - 1)).toNat = n / 5 ^ (5 - p).toNat / 5 := by
  rw [show (5 - (p - 1)).toNat = (5 - p).toNat + 1 by omega, Int.pow_succ, Int.ediv_ediv_of_nonneg (Int.le_of_lt (Int.pow_pos (by decide)))]
theorem frF_s (M : Nat → Int → Int) (n : Int) {p : Int} (hp : 0 ≤ p ∧ p ≤ 5) : frF M n (5 - (p - 1)).toNat = if dgt n p < 4 ∧ sel M n p < 0 then false else frF M n (5 - p).toNat := by
  rw [show (5 - (p - 1)).toNat = (5 - p).toNat + 1 by omega]
  simp only [frF, show (5 : Int) - ((5 - p).toNat : Int) = p by omega]
/-- the places behind p are filled in -/
def nwF (M : Nat → Int → Int) (n : Int) (G : Int → Int) (p : Int) : Int → Int := fun q => if p < q ∧ q < 6 then sel M n q else G q
theorem nwF_s (M : Nat → Int → Int) (n : Int) (G : Int → Int) {p : Int} (hp : 0 ≤ p ∧ p ≤ 5) : rz_u (nwF M n G p) p (sel M n p) = nwF M n G (p - 1) := by
  funext q
  unfold nwF
  by_cases e : q = p
  · rw [e, rz_u_s, if_pos (by omega)]
  · rw [rz_u_n e]
    by_cases c : p < q ∧ q < 6
    · rw [if_pos c, if_pos (by omega)]
    · rw [if_neg c, if_neg (by omega)]
theorem nwF_e (M : Nat → Int → Int) (n : Int) {G : Int → Int} (hG : ∀ q, ¬ (0 ≤ q ∧ q < 6) → G q = M 11 q) : nwF M n G (-1) = slF M n := by
  funext q
  unfold nwF slF
  by_cases c : 0 ≤ q ∧ q < 6
  · rw [if_pos c, if_pos (by omega)]
  · rw [if_neg c, if_neg (by omega), hG q c]
theorem nwF_5 (M : Nat → Int → Int) (n : Int) (G : Int → Int) : nwF M n G 5 = G := by
  funext q
  unfold nwF
  rw [if_neg (by omega)]
theorem dgt_in (n p : Int) : 0 ≤ dgt n p ∧ dgt n p ≤ 4 := by
  unfold dgt
  omega
theorem sel_in (M : Nat → Int → Int) (hw : mWF M) (n : Int) {p : Int} (hp : 0 ≤ p ∧ p < 6) : -1 ≤ sel M n p ∧ sel M n p < M 2 p := by
  have h := dgt_in n p
  have h2 := wth_in M hw (j := 5 * p + dgt n p) (by omega)
  rw [show (5 * p + dgt n p) / 5 = p by omega] at h2
  exact h2
theorem wu {M : Nat → Int → Int} {g : Int → Int} {i v : Int} (h : ∀ j, 0 ≤ j → j < i → g j = wth M j) (hv : v = wth M i) : ∀ j, 0 ≤ j → j < i + 1 → rz_u g i v j = wth M j := fun j a b => by
  by_cases e : j = i
  · rw [e, rz_u_s, hv]
  · rw [rz_u_n e]; exact h j a (by omega)
theorem srch_e {M : Nat → Int → Int} {n : Int} (hv : srF M 15625 0 = srF M (15625 - n).toNat n) (hn : 15625 ≤ n) : srch M = n := by
  unfold srch
  rw [hv, show (15625 - n).toNat = 0 by omega]
  rfl
abbrev rm_Md_search : Room := { frames := 10, cells := 0, slots := 0, locals := 251 }
set_option maxRecDepth 100000 in
set_option maxHeartbeats 4000000 in
theorem c_Md_search {l : Launch} {Γ : rz_G} {h : rz_H} {x : Nat} {ad : Nat → Nat} {M : Nat → Int → Int} (hM : MdAt Γ h x ad M) (hw : mWF M) (hval : mVal M) (hco : cOK M) : Ct l Γ x_Md_search y_Md_search rm_Md_search [.ref x] h (pI (fun r h' => r = bi (decide (srch M < 15625)) ∧ ∃ M', MdAt Γ h' x ad M' ∧ mSk [11, 16, 17, 18, 19] M M' ∧ nowOK M' ∧ (srch M < 15625 → M' 11 = slF M (srch M)) ∧ (∀ q, ¬ (0 ≤ q ∧ q < 6) → M' 11 q = M 11 q) ∧ rz_fr [10, 11] h h')) := by
  refine rz_met (by decide) rfl rfl (Nat.le_of_ble_eq_true rfl) (fun K _ => ?_)
  refine rz_Leq [(0, .ref x)] rfl ?_
  refine rz_iconst d_Md_search_0 ?_
  refine rz_istore_n [(1, vi 0), (0, .ref x)] d_Md_search_1 rfl (by decide) rfl ?_
  refine rz_loop (α := Int × rz_H × (Nat → Int → Int)) 0 0 2 (fun (i, hA, MA) => (30 - i).toNat) (fun (i, hA, MA) => 0 ≤ i ∧ i ≤ 30 ∧ MdAt Γ hA x ad MA ∧ rz_fr [10, 11] h hA ∧ mSk [11, 16, 17, 18, 19] M MA ∧ MA 11 = M 11 ∧ (∀ j, 0 ≤ j → j < i → MA 19 j = wth M j)) (fun (i, hA, MA) => [(1, vi i), (0, .ref x)]) (fun (i, hA, MA) => []) (fun (i, hA, MA) => hA) (fun y hy ih2 => ?_) (fun LP => ?_)
  · obtain ⟨i, hA, MA⟩ := y
    try dsimp only at hy ih2 ⊢
    obtain ⟨hi0, hi1, hMA, hFA, hZA, h11, wA⟩ := hy
    refine rz_iload_n 0 d_Md_search_2 rfl rfl ?_
    refine rz_bipush (v := 30) d_Md_search_3 (by decide) ?_
    refine rz_icmp_ge 41 d_Md_search_5 (by decide) (by omega) ⟨by decide, by decide⟩ (fun c5 => ?_) (fun c5 => ?_)
    · refine rz_iconst d_Md_search_41 ?_
      refine rz_istore_n [(1, vi 0), (0, .ref x)] d_Md_search_42 rfl (by decide) rfl ?_
      refine rz_loop (α := Int × rz_H × (Nat → Int → Int)) 0 0 43 (fun (n, hB, MB) => (15625 - n).toNat) (fun (n, hB, MB) => 0 ≤ n ∧ n ≤ 15625 ∧ MdAt Γ hB x ad MB ∧ rz_fr [10, 11] h hB ∧ mSk [11, 16, 17, 18, 19] M MB ∧ (∀ j, 0 ≤ j → j < 30 → MB 19 j = wth M j) ∧ (∀ q, ¬ (0 ≤ q ∧ q < 6) → MB 11 q = M 11 q) ∧ (0 < n → nowOK MB) ∧ srF M 15625 0 = srF M (15625 - n).toNat n) (fun (n, hB, MB) => [(1, vi n), (0, .ref x)]) (fun (n, hB, MB) => []) (fun (n, hB, MB) => hB) (fun y hy ih43 => ?_) (fun LP => ?_)
      · obtain ⟨n, hB, MB⟩ := y
        try dsimp only at hy ih43 ⊢
        obtain ⟨hn0, hn1, hMB, hFB, hZB, wB, oB, nB, hv⟩ := hy
        refine rz_iload_n 0 d_Md_search_43 rfl rfl ?_
        refine rz_sipush (v := 15625) d_Md_search_44 (by decide) ?_
        refine rz_icmp_ge 133 d_Md_search_47 (by decide) (by omega) ⟨by decide, by decide⟩ (fun c47 => ?_) (fun c47 => ?_)
        · refine rz_iconst d_Md_search_133 ?_
          exact rz_zreturn (st := []) (ty := .boolean) rfl rfl d_Md_search_134 ⟨by decide, by decide⟩ ⟨_, rfl, bi0 (by rw [srch_e hv (by omega)]; simp; omega), MB, hMB, hZB, nB (by omega), (fun q => absurd q (by rw [srch_e hv (by omega)]; omega)), oB, hFB⟩
        · refine rz_iload_n 0 d_Md_search_50 rfl rfl ?_
          refine rz_istore_n [(2, vi n), (1, vi n), (0, .ref x)] d_Md_search_51 rfl (by decide) rfl ?_
          refine rz_iconst d_Md_search_52 ?_
          refine rz_istore_n [(3, vi 1), (2, vi n), (1, vi n), (0, .ref x)] d_Md_search_53 rfl (by decide) rfl ?_
          refine rz_iconst d_Md_search_54 ?_
          refine rz_istore [(4, vi 5), (3, vi 1), (2, vi n), (1, vi n), (0, .ref x)] d_Md_search_55 (by decide) rfl ?_
          refine rz_loop (α := Int × Bool × rz_H × (Nat → Int → Int)) 0 0 57 (fun (p, f, hC, MC) => (p + 1).toNat) (fun (p, f, hC, MC) => -1 ≤ p ∧ p ≤ 5 ∧ MdAt Γ hC x ad MC ∧ rz_fr [10, 11] h hC ∧ mSk [11, 16, 17, 18, 19] M MC ∧ (∀ j, 0 ≤ j → j < 30 → MC 19 j = wth M j) ∧ MC 11 = nwF M n (MB 11) p ∧ f = frF M n (5 - p).toNat) (fun (p, f, hC, MC) => [(4, vi p), (3, vi (bi f)), (2, vi (n / 5 ^ (5 - p).toNat)), (1, vi n), (0, .ref x)]) (fun (p, f, hC, MC) => []) (fun (p, f, hC, MC) => hC) (fun y hy ih57 => ?_) (fun LP => ?_)
          · obtain ⟨p, f, hC, MC⟩ := y
            try dsimp only at hy ih57 ⊢
            obtain ⟨hp0, hp1, hMC, hFC, hZC, w, g, hf⟩ := hy
            have ip : 0 ≤ n / 5 ^ (5 - p).toNat ∧ n / 5 ^ (5 - p).toNat ≤ n := ⟨Int.ediv_nonneg hn0 (Int.le_of_lt (Int.pow_pos (by decide))), Int.ediv_le_self _ hn0⟩
            refine rz_iload 0 d_Md_search_57 rfl ?_
            refine rz_if_lt 114 d_Md_search_59 (by decide) (by omega) (fun c59 => ?_) (fun c59 => ?_)
            · have gE : MC 11 = slF M n := by rw [g, show p = -1 by omega]; exact nwF_e M n oB
              have nC : nowOK MC := fun q a b => by rw [gE, hZC 2 (by decide), slF, if_pos ⟨a, b⟩]; exact sel_in M hw n ⟨a, b⟩
              have cC : cOK MC := fun q a b => by rw [hZC 10 (by decide)]; exact hco q a b
              have gC : goodP MC = goodP (mu M 11 (slF M n)) := goodP_K (fun k hk => by by_cases e : k = 11; rw [e, mu_s]; exact gE; rw [mu_n e]; exact hZC k (by simp; omega))
              refine rz_iload_n 1 d_Md_search_114 rfl rfl ?_
              refine rz_if_eqB 127 d_Md_search_115 (by decide) (fun c115 => ?_) (fun c115 => ?_)
              · refine rz_iinc (n + 1) 3 [(1, vi (n + 1)), (4, vi p), (3, vi (bi f)), (2, vi (n / 5 ^ (5 - p).toNat)), (0, .ref x)] d_Md_search_127 rfl (by first | rfl | omega) (by decide) rfl ?_
                refine rz_goto 43 d_Md_search_130 (by decide) ?_
                refine rz_Lsub [(1, vi (n + 1)), (0, .ref x)] [0, 4] rfl ?_
                refine ih43 (n + 1, hC, MC) ?_ ?_
                · try dsimp only
                  exact ⟨by omega, by omega, hMC, hFC, hZC, w, (fun q hq => by rw [gE]; exact if_neg hq), (fun _ => nC), (by rw [hv, srF_go (by omega) (by rw [okS, ← show frF M n (5 - p).toNat = frF M n 6 from by rw [show (5 - p).toNat = 6 by omega], ← hf, c115]; rfl)]; congr 1; omega)⟩
                · exact (by first | omega | (dsimp only; omega))
              · refine rz_aload_n 4 d_Md_search_118 rfl rfl ?_
                refine rz_callV (As := []) (c_Md_good hMC (mSS_wf (mSk.mono hZC (by decide)) hw) (mSS_val (mSk.mono hZC (by decide)) hval) nC cC) m_Md_192 hMC.1 rfl rfl rfl rfl (Nat.le_of_ble_eq_true rfl) ⟨by decide, by decide⟩ ⟨by decide, by decide⟩ d_Md_search_119 (kI (h := hC) fun r1 h1 q1 => ?_)
                obtain ⟨rfl, M1, hM1, hT1, hF1⟩ := q1
                rw [gC]
                have hZ1 : mSk [11, 16, 17, 18, 19] M M1 := hZC.tr (hT1.mono (by decide))
                have hG1 := hFC.tr hF1
                refine rz_if_eqB 127 d_Md_search_122 (by decide) (fun c122 => ?_) (fun c122 => ?_)
                · refine rz_iinc (n + 1) 3 [(1, vi (n + 1)), (4, vi p), (3, vi (bi f)), (2, vi (n / 5 ^ (5 - p).toNat)), (0, .ref x)] d_Md_search_127 rfl (by first | rfl | omega) (by decide) rfl ?_
                  refine rz_goto 43 d_Md_search_130 (by decide) ?_
                  refine rz_Lsub [(1, vi (n + 1)), (0, .ref x)] [0, 4] rfl ?_
                  refine ih43 (n + 1, h1, M1) ?_ ?_
                  · try dsimp only
                    exact ⟨by omega, by omega, hM1, hG1, hZ1, (fun j a b => by rw [hT1 19 (by decide)]; exact w j a b), (fun q hq => by rw [hT1 11 (by decide), gE]; exact if_neg hq), (fun _ q a b => by rw [hT1 11 (by decide), hT1 2 (by decide)]; exact nC q a b), (by rw [hv, srF_go (by omega) (by rw [okS, c122]; simp)]; congr 1; omega)⟩
                  · exact (by first | omega | (dsimp only; omega))
                · have okn : okS M n = true := by rw [okS, c122, ← show frF M n (5 - p).toNat = frF M n 6 from by rw [show (5 - p).toNat = 6 by omega], ← hf, c115]; rfl
                  refine rz_iconst d_Md_search_125 ?_
                  exact rz_zreturn (st := []) (ty := .boolean) rfl rfl d_Md_search_126 ⟨by decide, by decide⟩ ⟨_, rfl, bi1 (by rw [srch, hv, srF_hit okn]; simp; omega), M1, hM1, hZ1, (fun q a b => by rw [hT1 11 (by decide), hT1 2 (by decide)]; exact nC q a b), (fun _ => by rw [hT1 11 (by decide), srch, hv, srF_hit okn]; exact gE), (fun q hq => by rw [hT1 11 (by decide), gE]; exact if_neg hq), hG1⟩
            · refine rz_iload_n 2 d_Md_search_62 rfl rfl ?_
              refine rz_iconst d_Md_search_63 ?_
              refine rz_irem (by omega) (by omega) d_Md_search_64 ?_
              refine rz_Seq [vi (dgt n p)] rfl ?_
              have dg := dgt_in n p
              refine rz_istore [(5, vi (dgt n p)), (4, vi p), (3, vi (bi f)), (2, vi (n / 5 ^ (5 - p).toNat)), (1, vi n), (0, .ref x)] d_Md_search_65 (by decide) rfl ?_
              refine rz_iload_n 3 d_Md_search_67 rfl rfl ?_
              refine rz_iconst d_Md_search_68 ?_
              refine rz_idiv (by omega) (by omega) d_Md_search_69 ?_
              refine rz_istore_n [(2, vi ((n / 5 ^ (5 - p).toNat) / 5)), (5, vi (dgt n p)), (4, vi p), (3, vi (bi f)), (1, vi n), (0, .ref x)] d_Md_search_70 rfl (by decide) rfl ?_
              refine rz_aload_n 5 d_Md_search_71 rfl rfl ?_
              refine rz_getf f_Md_41 hMC.1 rfl d_Md_search_72 ?_
              refine rz_iload 2 d_Md_search_75 rfl ?_
              refine rz_aload_n 5 d_Md_search_77 rfl rfl ?_
              refine rz_getf f_Md_53 hMC.1 rfl d_Md_search_78 ?_
              refine rz_iconst d_Md_search_81 ?_
              refine rz_iload 2 d_Md_search_82 rfl ?_
              refine rz_imul d_Md_search_84 ?_
              refine rz_iload 1 d_Md_search_85 rfl ?_
              refine rz_iadd d_Md_search_87 ?_
              refine rz_iaload (md_a19 hMC) (by decide) (by omega) d_Md_search_88 ?_
              rw [w ((5 * p) + (dgt n p)) (by omega) (by omega)]
              refine rz_Seq [vi (sel M n p), vi p, .ref (ad 11)] rfl ?_
              refine md_st11 hMC hFC (by omega) d_Md_search_89 (fun h2 hM2 hF2 => ?_)
              obtain ⟨M2, eM2⟩ : ∃ z, z = mu MC 11 (rz_u (MC 11) p (sel M n p)) := ⟨_, rfl⟩
              rw [← eM2] at hM2
              have hZ2 : mSk [11, 16, 17, 18, 19] M M2 := by rw [eM2]; exact hZC.mu (by decide) _
              refine rz_iload 1 d_Md_search_90 rfl ?_
              refine rz_iconst d_Md_search_92 ?_
              refine rz_icmp_ge 108 d_Md_search_93 (by decide) (by omega) ⟨by decide, by decide⟩ (fun c93 => ?_) (fun c93 => ?_)
              · refine rz_iinc (p - 1) 2 [(4, vi (p - 1)), (2, vi ((n / 5 ^ (5 - p).toNat) / 5)), (5, vi (dgt n p)), (3, vi (bi f)), (1, vi n), (0, .ref x)] d_Md_search_108 rfl (by first | rfl | omega) (by decide) rfl ?_
                refine rz_goto 57 d_Md_search_111 (by decide) ?_
                refine rz_Leq [(4, vi (p - 1)), (2, vi (n / 5 ^ (5 - (p - 1)).toNat)), (5, vi (dgt n p)), (3, vi (bi f)), (1, vi n), (0, .ref x)] (by rw [pw5 (by omega)]) ?_
                refine rz_Lsub [(4, vi (p - 1)), (3, vi (bi f)), (2, vi (n / 5 ^ (5 - (p - 1)).toNat)), (1, vi n), (0, .ref x)] [0, 3, 1, 4, 5] rfl ?_
                refine ih57 (p - 1, f, h2, M2) ?_ ?_
                · try dsimp only
                  exact ⟨by omega, by omega, hM2, hF2, hZ2, (by rw [eM2, mu_n (by decide)]; exact w), (by rw [eM2, mu_s, g]; exact nwF_s M n (MB 11) (by omega)), (by rw [frF_s M n (by omega), if_neg (by omega)]; exact hf)⟩
                · exact (by first | omega | (dsimp only; omega))
              · have si := sel_in M hw n (p := p) (by omega)
                have sl2 := hw.2.2.1 p (by omega) (by omega)
                refine rz_aload_n 5 d_Md_search_96 rfl rfl ?_
                refine rz_getf f_Md_41 hM2.1 rfl d_Md_search_97 ?_
                refine rz_iload 2 d_Md_search_100 rfl ?_
                refine rz_iaload (md_a11 hM2) (by decide) (by omega) d_Md_search_102 ?_
                rw [show M2 11 p = sel M n p from by rw [eM2, mu_s, rz_u_s]]
                refine rz_if_ge 108 d_Md_search_103 (by decide) (by omega) (fun c103 => ?_) (fun c103 => ?_)
                · refine rz_iinc (p - 1) 2 [(4, vi (p - 1)), (2, vi ((n / 5 ^ (5 - p).toNat) / 5)), (5, vi (dgt n p)), (3, vi (bi f)), (1, vi n), (0, .ref x)] d_Md_search_108 rfl (by first | rfl | omega) (by decide) rfl ?_
                  refine rz_goto 57 d_Md_search_111 (by decide) ?_
                  refine rz_Leq [(4, vi (p - 1)), (2, vi (n / 5 ^ (5 - (p - 1)).toNat)), (5, vi (dgt n p)), (3, vi (bi f)), (1, vi n), (0, .ref x)] (by rw [pw5 (by omega)]) ?_
                  refine rz_Lsub [(4, vi (p - 1)), (3, vi (bi f)), (2, vi (n / 5 ^ (5 - (p - 1)).toNat)), (1, vi n), (0, .ref x)] [0, 3, 1, 4, 5] rfl ?_
                  refine ih57 (p - 1, f, h2, M2) ?_ ?_
                  · try dsimp only
                    exact ⟨by omega, by omega, hM2, hF2, hZ2, (by rw [eM2, mu_n (by decide)]; exact w), (by rw [eM2, mu_s, g]; exact nwF_s M n (MB 11) (by omega)), (by rw [frF_s M n (by omega), if_neg (by omega)]; exact hf)⟩
                  · exact (by first | omega | (dsimp only; omega))
                · refine rz_iconst d_Md_search_106 ?_
                  refine rz_istore_n [(3, vi 0), (2, vi ((n / 5 ^ (5 - p).toNat) / 5)), (5, vi (dgt n p)), (4, vi p), (1, vi n), (0, .ref x)] d_Md_search_107 rfl (by decide) rfl ?_
                  refine rz_iinc (p - 1) 3 [(4, vi (p - 1)), (3, vi 0), (2, vi ((n / 5 ^ (5 - p).toNat) / 5)), (5, vi (dgt n p)), (1, vi n), (0, .ref x)] d_Md_search_108 rfl (by first | rfl | omega) (by decide) rfl ?_
                  refine rz_goto 57 d_Md_search_111 (by decide) ?_
                  refine rz_Leq [(4, vi (p - 1)), (3, vi 0), (2, vi (n / 5 ^ (5 - (p - 1)).toNat)), (5, vi (dgt n p)), (1, vi n), (0, .ref x)] (by rw [pw5 (by omega)]) ?_
                  refine rz_Lsub [(4, vi (p - 1)), (3, vi 0), (2, vi (n / 5 ^ (5 - (p - 1)).toNat)), (1, vi n), (0, .ref x)] [0, 1, 2, 4, 5] rfl ?_
                  refine ih57 (p - 1, false, h2, M2) ?_ ?_
                  · try dsimp only
                    exact ⟨by omega, by omega, hM2, hF2, hZ2, (by rw [eM2, mu_n (by decide)]; exact w), (by rw [eM2, mu_s, g]; exact nwF_s M n (MB 11) (by omega)), (by rw [frF_s M n (by omega), if_pos ⟨by omega, by omega⟩])⟩
                  · exact (by first | omega | (dsimp only; omega))
          · refine rz_Leq [(4, vi 5), (3, vi 1), (2, vi (n / 5 ^ (5 - 5 : Int).toNat)), (1, vi n), (0, .ref x)] (by rw [show n / 5 ^ (5 - 5 : Int).toNat = n from by simp]) ?_
            refine LP (5, true, hB, MB) ?_
            try dsimp only
            exact ⟨by decide, by decide, hMB, hFB, hZB, wB, (nwF_5 M n (MB 11)).symm, rfl⟩
      · refine rz_Lsub [(1, vi 0), (0, .ref x)] [0, 1] rfl ?_
        refine LP (0, hA, MA) ?_
        try dsimp only
        exact ⟨by decide, by decide, hMA, hFA, hZA, (fun j a b => wA j a (by omega)), (fun q _ => by rw [h11]), (fun q => absurd q (by omega)), rfl⟩
    · refine rz_aload_n 1 d_Md_search_8 rfl rfl ?_
      refine rz_getf f_Md_53 hMA.1 rfl d_Md_search_9 ?_
      refine rz_iload_n 0 d_Md_search_12 rfl rfl ?_
      refine rz_iload_n 0 d_Md_search_13 rfl rfl ?_
      refine rz_iconst d_Md_search_14 ?_
      refine rz_irem (by omega) (by omega) d_Md_search_15 ?_
      refine rz_iconst d_Md_search_16 ?_
      refine rz_icmp_ne 24 d_Md_search_17 (by decide) (by omega) ⟨by decide, by decide⟩ (fun c17 => ?_) (fun c17 => ?_)
      · refine rz_aload_n 1 d_Md_search_24 rfl rfl ?_
        refine rz_iload_n 0 d_Md_search_25 rfl rfl ?_
        refine rz_iconst d_Md_search_26 ?_
        refine rz_idiv (by omega) (by omega) d_Md_search_27 ?_
        refine rz_iload_n 0 d_Md_search_28 rfl rfl ?_
        refine rz_iconst d_Md_search_29 ?_
        refine rz_irem (by omega) (by omega) d_Md_search_30 ?_
        refine rz_callV (As := [vi (i / 5), vi (i % 5)]) (c_Md_ranked hMA (mSS_wf (mSk.mono hZA (by decide)) hw) (mSS_val (mSk.mono hZA (by decide)) hval).1 (by omega) (by omega)) m_Md_189 hMA.1 rfl rfl rfl rfl (Nat.le_of_ble_eq_true rfl) ⟨by decide, by decide⟩ ⟨by decide, by decide⟩ d_Md_search_31 (kI (h := hA) fun r3 h3 q3 => ?_)
        obtain ⟨rfl, M3, hM3, hT3, hF3⟩ := q3
        rw [rkd_SS (mSk.mono hZA (by decide))]
        have hZ3 : mSk [11, 16, 17, 18, 19] M M3 := hZA.tr (mSk.of2 hT3 (by decide) (by decide))
        have hG3 := hFA.tr hF3
        have t193 : M3 19 = MA 19 := hT3 19 (by decide) (by decide)
        have t113 : M3 11 = MA 11 := hT3 11 (by decide) (by decide)
        refine md_st19 hM3 hG3 (by omega) d_Md_search_34 (fun h4 hM4 hF4 => ?_)
        obtain ⟨M4, eM4⟩ : ∃ z, z = mu M3 19 (rz_u (M3 19) i (rkd M (i / 5) (i % 5))) := ⟨_, rfl⟩
        rw [← eM4] at hM4
        have hZ4 : mSk [11, 16, 17, 18, 19] M M4 := by rw [eM4]; exact hZ3.mu (by decide) _
        refine rz_iinc (i + 1) 0 [(1, vi (i + 1)), (0, .ref x)] d_Md_search_35 rfl (by first | rfl | omega) (by decide) rfl ?_
        refine rz_goto 2 d_Md_search_38 (by decide) ?_
        refine rz_Lsub [(1, vi (i + 1)), (0, .ref x)] [0, 1] rfl ?_
        refine ih2 (i + 1, h4, M4) ?_ ?_
        · try dsimp only
          exact ⟨by omega, by omega, hM4, hF4, hZ4, (by rw [eM4, mu_n (by decide), t113]; exact h11), (by rw [eM4, mu_s, t193]; exact wu wA (by rw [wth, if_neg (by omega)]))⟩
        · exact (by first | omega | (dsimp only; omega))
      · refine rz_iconst d_Md_search_20 ?_
        refine rz_goto 34 d_Md_search_21 (by decide) ?_
        refine md_st19 hMA hFA (by omega) d_Md_search_34 (fun h5 hM5 hF5 => ?_)
        obtain ⟨M5, eM5⟩ : ∃ z, z = mu MA 19 (rz_u (MA 19) i (-1)) := ⟨_, rfl⟩
        rw [← eM5] at hM5
        have hZ5 : mSk [11, 16, 17, 18, 19] M M5 := by rw [eM5]; exact hZA.mu (by decide) _
        refine rz_iinc (i + 1) 0 [(1, vi (i + 1)), (0, .ref x)] d_Md_search_35 rfl (by first | rfl | omega) (by decide) rfl ?_
        refine rz_goto 2 d_Md_search_38 (by decide) ?_
        refine rz_Lsub [(1, vi (i + 1)), (0, .ref x)] [0, 1] rfl ?_
        refine ih2 (i + 1, h5, M5) ?_ ?_
        · try dsimp only
          exact ⟨by omega, by omega, hM5, hF5, hZ5, (by rw [eM5, mu_n (by decide)]; exact h11), (by rw [eM5, mu_s]; exact wu wA (by rw [wth, if_pos (by omega)]))⟩
        · exact (by first | omega | (dsimp only; omega))
  · refine rz_Lsub [(1, vi 0), (0, .ref x)] [0, 1] rfl ?_
    refine LP (0, h, M) ?_
    try dsimp only
    exact ⟨by decide, by decide, hM, rz_fr.rf, mSk.rf, rfl, (fun j a b => absurd b (by omega))⟩
end
section
/-! the reference: findBlame, solve, unmet -/
/-- the search reads arrays 0 to 10, and of 11 no place that counts -/
def mK (M M' : Nat → Int → Int) : Prop := (∀ k, k < 11 → M' k = M k) ∧ ∀ q, ¬ (0 ≤ q ∧ q < 6) → M' 11 q = M 11 q
theorem mK_at {M M' : Nat → Int → Int} (h : ∀ k, k < 10 → M' k = M k) (t : Int) : mAt M' t = mAt M t := by
  funext i
  unfold mAt
  rw [h 0 (by decide), h 1 (by decide)]
theorem cmpR_K {M M' : Nat → Int → Int} (h : ∀ k, k < 10 → M' k = M k) (p s r : Int) : cmpR M' p s r = cmpR M p s r := by
  unfold cmpR
  rw [mK_at h, mK_at h, h 1 (by decide)]
theorem gtF_K {M M' : Nat → Int → Int} (h : ∀ k, k < 10 → M' k = M k) (p r : Int) : ∀ n s, gtF M' p r n s = gtF M p r n s
  | 0, _ => rfl
  | n + 1, s => by simp only [gtF, gtF_K h p r n, cmpR_K h]
theorem gtr_K {M M' : Nat → Int → Int} (h : ∀ k, k < 10 → M' k = M k) (p r : Int) : gtr M' p r = gtr M p r := by
  unfold gtr
  rw [gtF_K h, h 2 (by decide)]
theorem rdF_K {M M' : Nat → Int → Int} (h : ∀ k, k < 10 → M' k = M k) (p g : Int) : ∀ n r, rdF M' p g n r = rdF M p g n r
  | 0, _ => rfl
  | n + 1, r => by simp only [rdF, rdF_K h p g n, gtr_K h]
theorem rkd_K {M M' : Nat → Int → Int} (h : ∀ k, k < 10 → M' k = M k) (p g : Int) : rkd M' p g = rkd M p g := by
  unfold rkd
  rw [rdF_K h, h 2 (by decide)]
theorem sel_K {M M' : Nat → Int → Int} (h : ∀ k, k < 10 → M' k = M k) (n p : Int) : sel M' n p = sel M n p := by
  unfold sel wth
  rw [rkd_K h]
theorem frF_K {M M' : Nat → Int → Int} (h : ∀ k, k < 10 → M' k = M k) (n : Int) : ∀ k, frF M' n k = frF M n k
  | 0 => rfl
  | k + 1 => by simp only [frF, frF_K h n k, sel_K h]
theorem slF_K {M M' : Nat → Int → Int} (h : mK M M') (n : Int) : slF M' n = slF M n := by
  funext q
  unfold slF
  split
  · exact sel_K (fun k hk => h.1 k (by omega)) n q
  · rename_i e; exact h.2 q e
theorem okS_K {M M' : Nat → Int → Int} (h : mK M M') (n : Int) : okS M' n = okS M n := by
  unfold okS
  rw [frF_K (fun k hk => h.1 k (by omega)), goodP_K (M := mu M 11 (slF M n)) (M' := mu M' 11 (slF M' n)) (fun k hk => by
    by_cases e : k = 11
    · rw [e, mu_s, mu_s]; exact slF_K h n
    · rw [mu_n e, mu_n e]; exact h.1 k (by omega))]
theorem srF_K {M M' : Nat → Int → Int} (h : mK M M') : ∀ k n, srF M' k n = srF M k n
  | 0, _ => rfl
  | k + 1, n => by simp only [srF, srF_K h k, okS_K h]
theorem srch_K {M M' : Nat → Int → Int} (h : mK M M') : srch M' = srch M := srF_K h _ _
/-- which asks still count when one after the other was left out where that didn't help -/
def blS (M : Nat → Int → Int) (a : Int) (c : Int → Int) : Int → Int := if srch (mu M 10 (rz_u c a 0)) < 15625 then rz_u (rz_u c a 0) a 1 else rz_u c a 0
def blF (M : Nat → Int → Int) : Nat → Int → (Int → Int) → Int → Int
  | 0, _, c => c
  | n + 1, a, c => blF M n (a + 1) (blS M a c)
theorem blF_e (M : Nat → Int → Int) {n : Nat} (a : Int) (c : Int → Int) (hn : 0 < n) : blF M n a c = blF M (n - 1) (a + 1) (blS M a c) := by
  cases n with
  | zero => omega
  | succ n => rfl
theorem blS_K {M M' : Nat → Int → Int} (h : mK (mu M 10 (M' 10)) M') (a : Int) (c : Int → Int) : blS M' a c = blS M a c := by
  unfold blS
  rw [srch_K (M := mu M 10 (rz_u c a 0)) (M' := mu M' 10 (rz_u c a 0))]
  refine ⟨fun k hk => ?_, fun q hq => ?_⟩
  · by_cases e : k = 10
    · rw [e, mu_s, mu_s]
    · rw [mu_n e, mu_n e, h.1 k hk, mu_n e]
  · rw [mu_n (by decide), mu_n (by decide), h.2 q hq, mu_n (by decide)]
theorem blF_K {M M' : Nat → Int → Int} (h : mK (mu M 10 (M' 10)) M') : ∀ n a c, blF M' n a c = blF M n a c
  | 0, _, _ => rfl
  | n + 1, a, c => by simp only [blF, blS_K h, blF_K h n]
def blC (M : Nat → Int → Int) : Int → Int := blF M (M 8 0).toNat 0 (M 10)
def blB (M : Nat → Int → Int) (b : Int) : Bool := decide (b < M 8 0 ∧ ¬ blC M b = 0)
theorem mSk_10 {ks : List Nat} {M MA : Nat → Int → Int} {c : Int → Int} (h : mSk ks (mu M 10 c) MA) (g : Int → Int) : mSk ks (mu M 10 g) (mu MA 10 g) := fun k hk => by
  by_cases e : k = 10
  · rw [e, mu_s, mu_s]
  · rw [mu_n e, mu_n e, h k hk, mu_n e]
theorem mSk_SS {M MA : Nat → Int → Int} {c : Int → Int} (h : mSk [11, 16, 17, 18, 19] (mu M 10 c) MA) : mSS M MA := fun k hk => by
  rw [h k (fun q => hk (by simp at q ⊢; omega)), mu_n (fun q => hk (by simp [q]))]
theorem mSk_K {M MA : Nat → Int → Int} (h : mSk [11, 16, 17, 18, 19] M MA) (ho : ∀ q, ¬ (0 ≤ q ∧ q < 6) → MA 11 q = M 11 q) : mK M MA := ⟨fun k hk => h k (by simp; omega), ho⟩
def b4 (c : Int → Int) : Prop := ∀ b, 0 ≤ b → b < 4 → c b = 0 ∨ c b = 1
theorem b4_u {c : Int → Int} (h : b4 c) (i : Int) {v : Int} (hv : v = 0 ∨ v = 1) : b4 (rz_u c i v) := fun q a b => by
  by_cases e : q = i
  · rw [e, rz_u_s]; exact hv
  · rw [rz_u_n e]; exact h q a b
theorem gu {G : Int → Int} {g : Int → Int} {i v : Int} (h : ∀ j, 0 ≤ j → j < i → g j = G j) (hv : v = G i) : ∀ j, 0 ≤ j → j < i + 1 → rz_u g i v j = G j := fun j a b => by
  by_cases e : j = i
  · rw [e, rz_u_s, hv]
  · rw [rz_u_n e]; exact h j a (by omega)
abbrev rm_Md_findBlame : Room := { frames := 11, cells := 0, slots := 0, locals := 276 }
set_option maxRecDepth 100000 in
set_option maxHeartbeats 4000000 in
theorem c_Md_findBlame {l : Launch} {Γ : rz_G} {h : rz_H} {x : Nat} {ad : Nat → Nat} {M : Nat → Int → Int} (hM : MdAt Γ h x ad M) (hw : mWF M) (hval : mVal M) (hco : cOK M) : Ct l Γ x_Md_findBlame y_Md_findBlame rm_Md_findBlame [.ref x] h (pV (fun h' => ∃ M', MdAt Γ h' x ad M' ∧ mSk [10, 11, 15, 16, 17, 18, 19] M M' ∧ (∀ b, 0 ≤ b → b < 4 → M' 15 b = bi (blB M b)) ∧ rz_fr [10, 11] h h')) := by
  refine rz_met (by decide) rfl rfl (Nat.le_of_ble_eq_true rfl) (fun K _ => ?_)
  refine rz_Leq [(0, .ref x)] rfl ?_
  have l8 := hw.2.2.2.2.2.1
  refine rz_iconst d_Md_findBlame_0 ?_
  refine rz_istore_n [(1, vi 0), (0, .ref x)] d_Md_findBlame_1 rfl (by decide) rfl ?_
  refine rz_loop (α := Int × rz_H × (Nat → Int → Int) × (Int → Int)) 0 0 2 (fun (a, hA, MA, c) => (M 8 0 - a).toNat) (fun (a, hA, MA, c) => 0 ≤ a ∧ a ≤ M 8 0 ∧ MdAt Γ hA x ad MA ∧ rz_fr [10, 11] h hA ∧ mSk [11, 16, 17, 18, 19] (mu M 10 c) MA ∧ (∀ q, ¬ (0 ≤ q ∧ q < 6) → MA 11 q = M 11 q) ∧ b4 c ∧ blC M = blF M (M 8 0 - a).toNat a c) (fun (a, hA, MA, c) => [(1, vi a), (0, .ref x)]) (fun (a, hA, MA, c) => []) (fun (a, hA, MA, c) => hA) (fun y hy ih2 => ?_) (fun LP => ?_)
  · obtain ⟨a, hA, MA, c⟩ := y
    try dsimp only at hy ih2 ⊢
    obtain ⟨ha0, ha1, hMA, hFA, hZA, hoA, hc, hv⟩ := hy
    refine rz_iload_n 0 d_Md_findBlame_2 rfl rfl ?_
    refine rz_aload_n 1 d_Md_findBlame_3 rfl rfl ?_
    refine rz_getf f_Md_167 hMA.1 rfl d_Md_findBlame_4 ?_
    refine rz_Seq [vi (M 8 0), vi a] (by rw [(hZA 8 (by decide)).trans (mu_n (by decide))]) ?_
    refine rz_icmp_ge 37 d_Md_findBlame_7 (by decide) (by omega) (by omega) (fun c7 => ?_) (fun c7 => ?_)
    · have t8A : MA 8 = M 8 := (hZA 8 (by decide)).trans (mu_n (by decide))
      have t10A : MA 10 = c := (hZA 10 (by decide)).trans (mu_s _ _ _)
      have ebl : blC M = c := by rw [hv, show (M 8 0 - a).toNat = 0 by omega]; rfl
      refine rz_iconst d_Md_findBlame_37 ?_
      refine rz_istore_n [(1, vi 0), (0, .ref x)] d_Md_findBlame_38 rfl (by decide) rfl ?_
      refine rz_loop (α := Int × rz_H × (Int → Int)) 0 0 39 (fun (b, hB, g) => (4 - b).toNat) (fun (b, hB, g) => 0 ≤ b ∧ b ≤ 4 ∧ MdAt Γ hB x ad (mu MA 15 g) ∧ rz_fr [10, 11] h hB ∧ (∀ j, 0 ≤ j → j < b → g j = bi (blB M j))) (fun (b, hB, g) => [(1, vi b), (0, .ref x)]) (fun (b, hB, g) => []) (fun (b, hB, g) => hB) (fun y hy ih39 => ?_) (fun LP => ?_)
      · obtain ⟨b, hB, g⟩ := y
        try dsimp only at hy ih39 ⊢
        obtain ⟨hb0, hb1, hMB, hFB, hg⟩ := hy
        refine rz_iload_n 0 d_Md_findBlame_39 rfl rfl ?_
        refine rz_iconst d_Md_findBlame_40 ?_
        refine rz_icmp_ge 78 d_Md_findBlame_41 (by decide) (by omega) ⟨by decide, by decide⟩ (fun c41 => ?_) (fun c41 => ?_)
        · exact rz_return (st := []) rfl d_Md_findBlame_78 ⟨by decide, by decide⟩ ⟨rfl, _, hMB, (fun k hk => by rw [mu_n (fun q => hk (by simp [q])), hZA k (fun q => hk (by simp at q ⊢; omega)), mu_n (fun q => hk (by simp [q]))]), (fun b b0 b1 => by rw [mu_s]; exact hg b b0 (by omega)), hFB⟩
        · refine rz_aload_n 1 d_Md_findBlame_44 rfl rfl ?_
          refine rz_getf f_Md_47 hMB.1 rfl d_Md_findBlame_45 ?_
          refine rz_iload_n 0 d_Md_findBlame_48 rfl rfl ?_
          refine rz_cut (α := Unit) 0 0 71 (fun _ => True) (fun _ => [(1, vi b), (0, .ref x)]) (fun _ => [vi (bi (blB M b)), vi b, .ref (ad 15)]) (fun _ => hB) (fun _ _ => ?_) (fun J71 => ?_)
          · refine md_st15 hMB hFB (by omega) (bi01 _) d_Md_findBlame_71 (fun h1 hM1 hF1 => ?_)
            rw [mu_mu, mu_s] at hM1
            refine rz_iinc (b + 1) 0 [(1, vi (b + 1)), (0, .ref x)] d_Md_findBlame_72 rfl (by first | rfl | omega) (by decide) rfl ?_
            refine rz_goto 39 d_Md_findBlame_75 (by decide) ?_
            refine rz_Lsub [(1, vi (b + 1)), (0, .ref x)] [0, 1] rfl ?_
            refine ih39 (b + 1, h1, (rz_u g b (bi (blB M b)))) ?_ ?_
            · try dsimp only
              exact ⟨by omega, by omega, hM1, hF1, (gu (G := fun j => bi (blB M j)) hg rfl)⟩
            · exact (by first | omega | (dsimp only; omega))
          · refine rz_iload_n 0 d_Md_findBlame_49 rfl rfl ?_
            refine rz_aload_n 1 d_Md_findBlame_50 rfl rfl ?_
            refine rz_getf f_Md_167 hMB.1 rfl d_Md_findBlame_51 ?_
            refine rz_Seq [vi (M 8 0), vi b, vi b, .ref (ad 15)] (by rw [mu_n (by decide), t8A]) ?_
            refine rz_icmp_ge 70 d_Md_findBlame_54 (by decide) (by omega) (by omega) (fun c54 => ?_) (fun c54 => ?_)
            · refine rz_iconst d_Md_findBlame_70 ?_
              refine rz_Seq [vi (bi (blB M b)), vi b, .ref (ad 15)] (by rw [show blB M b = false from by rw [blB, ebl]; simp; first | (intro q; exact absurd q (by omega)) | (intro _; exact c63)]; rfl) ?_
              exact J71 () trivial
            · have cb := hc b (by omega) (by omega)
              refine rz_aload_n 1 d_Md_findBlame_57 rfl rfl ?_
              refine rz_getf f_Md_38 hMB.1 rfl d_Md_findBlame_58 ?_
              refine rz_iload_n 0 d_Md_findBlame_61 rfl rfl ?_
              refine rz_zaload (md_a10 hMB) (by decide) (by omega) d_Md_findBlame_62 ?_
              refine rz_Seq [vi (c b), vi b, .ref (ad 15)] (by rw [mu_n (by decide), t10A]) ?_
              refine rz_if_eq 70 d_Md_findBlame_63 (by decide) (by omega) (fun c63 => ?_) (fun c63 => ?_)
              · refine rz_iconst d_Md_findBlame_70 ?_
                refine rz_Seq [vi (bi (blB M b)), vi b, .ref (ad 15)] (by rw [show blB M b = false from by rw [blB, ebl]; simp; first | (intro q; exact absurd q (by omega)) | (intro _; exact c63)]; rfl) ?_
                exact J71 () trivial
              · refine rz_iconst d_Md_findBlame_66 ?_
                refine rz_goto 71 d_Md_findBlame_67 (by decide) ?_
                refine rz_Seq [vi (bi (blB M b)), vi b, .ref (ad 15)] (by rw [show blB M b = true from by rw [blB, ebl]; simp [c54, c63]; omega]; rfl) ?_
                exact J71 () trivial
      · refine rz_Lsub [(1, vi 0), (0, .ref x)] [0, 1] rfl ?_
        refine LP (0, hA, (MA 15)) ?_
        try dsimp only
        exact ⟨by omega, by omega, (by rw [mu_self]; exact hMA), hFA, (fun j a b => absurd b (by omega))⟩
    · refine rz_aload_n 1 d_Md_findBlame_10 rfl rfl ?_
      refine rz_getf f_Md_38 hMA.1 rfl d_Md_findBlame_11 ?_
      refine rz_iload_n 0 d_Md_findBlame_14 rfl rfl ?_
      refine rz_iconst d_Md_findBlame_15 ?_
      refine md_st10 hMA hFA (by omega) (by omega) d_Md_findBlame_16 (fun h2 hM2 hF2 => ?_)
      rw [show MA 10 = c from (hZA 10 (by decide)).trans (mu_s _ _ _)] at hM2
      have hZ2 := mSk_10 hZA (rz_u c a 0)
      have ho2 : ∀ q, ¬ (0 ≤ q ∧ q < 6) → mu MA 10 (rz_u c a 0) 11 q = M 11 q := fun q hq => (congrFun (mu_n (by decide)) q).trans (hoA q hq)
      refine rz_aload_n 1 d_Md_findBlame_17 rfl rfl ?_
      refine rz_callV (As := []) (c_Md_search hM2 (mSS_wf (mSk_SS hZ2) hw) (mSS_val (mSk_SS hZ2) hval) (by intro b b1 b2; rw [hZ2 10 (by decide), mu_s]; exact (b4_u hc a (Or.inl rfl)) b b1 b2)) m_Md_195 hM2.1 rfl rfl rfl rfl (Nat.le_of_ble_eq_true rfl) ⟨by decide, by decide⟩ ⟨by decide, by decide⟩ d_Md_findBlame_18 (kI (h := h2) fun r3 h3 q3 => ?_)
      obtain ⟨rfl, M3, hM3, hT3, hN3, hX3, hO3, hF3⟩ := q3
      have hZ3 : mSk [11, 16, 17, 18, 19] (mu M 10 (rz_u c a 0)) M3 := hZ2.tr hT3
      have ho3 : ∀ q, ¬ (0 ≤ q ∧ q < 6) → M3 11 q = M 11 q := fun q hq => (hO3 q hq).trans (ho2 q hq)
      have eS3 : srch (mu MA 10 (rz_u c a 0)) = srch (mu M 10 (rz_u c a 0)) := srch_K (mSk_K hZ2 (fun q hq => (ho2 q hq).trans (by rw [mu_n (by decide)])))
      rw [eS3] at *
      have hG3 := hF2.tr hF3
      refine rz_if_eqB 31 d_Md_findBlame_21 (by decide) (fun c21 => ?_) (fun c21 => ?_)
      · refine rz_iinc (a + 1) 0 [(1, vi (a + 1)), (0, .ref x)] d_Md_findBlame_31 rfl (by first | rfl | omega) (by decide) rfl ?_
        refine rz_goto 2 d_Md_findBlame_34 (by decide) ?_
        refine rz_Lsub [(1, vi (a + 1)), (0, .ref x)] [0, 1] rfl ?_
        refine ih2 (a + 1, h3, M3, (rz_u c a 0)) ?_ ?_
        · try dsimp only
          exact ⟨by omega, by omega, hM3, hG3, hZ3, ho3, (b4_u hc _ (by omega)), (by rw [hv, blF_e _ _ _ (by omega), blS, if_neg (by simpa using c21)]; congr 1; omega)⟩
        · exact (by first | omega | (dsimp only; omega))
      · refine rz_aload_n 1 d_Md_findBlame_24 rfl rfl ?_
        refine rz_getf f_Md_38 hM3.1 rfl d_Md_findBlame_25 ?_
        refine rz_iload_n 0 d_Md_findBlame_28 rfl rfl ?_
        refine rz_iconst d_Md_findBlame_29 ?_
        refine md_st10 hM3 hG3 (by omega) (by omega) d_Md_findBlame_30 (fun h4 hM4 hF4 => ?_)
        rw [show M3 10 = (rz_u c a 0) from (hZ3 10 (by decide)).trans (mu_s _ _ _)] at hM4
        have hZ4 := mSk_10 hZ3 (rz_u (rz_u c a 0) a 1)
        have ho4 : ∀ q, ¬ (0 ≤ q ∧ q < 6) → mu M3 10 (rz_u (rz_u c a 0) a 1) 11 q = M 11 q := fun q hq => (congrFun (mu_n (by decide)) q).trans (ho3 q hq)
        refine rz_iinc (a + 1) 0 [(1, vi (a + 1)), (0, .ref x)] d_Md_findBlame_31 rfl (by first | rfl | omega) (by decide) rfl ?_
        refine rz_goto 2 d_Md_findBlame_34 (by decide) ?_
        refine rz_Lsub [(1, vi (a + 1)), (0, .ref x)] [0, 1] rfl ?_
        refine ih2 (a + 1, h4, (mu M3 10 (rz_u (rz_u c a 0) a 1)), (rz_u (rz_u c a 0) a 1)) ?_ ?_
        · try dsimp only
          exact ⟨by omega, by omega, hM4, hF4, hZ4, ho4, (b4_u (b4_u hc _ (by omega)) _ (by omega)), (by rw [hv, blF_e _ _ _ (by omega), blS, if_pos (by simpa using c21)]; congr 1; omega)⟩
        · exact (by first | omega | (dsimp only; omega))
  · refine rz_Lsub [(1, vi 0), (0, .ref x)] [0, 1] rfl ?_
    refine LP (0, h, M, (M 10)) ?_
    try dsimp only
    exact ⟨by omega, by omega, hM, rz_fr.rf, (by rw [mu_self]; exact mSk.rf), (fun q _ => rfl), hco, (by unfold blC; congr 1; omega)⟩
end
section
/-! the reference: solve, unmet -/
def onF (M : Nat → Int → Int) (a : Int) : Int → Int := fun j => if 0 ≤ j ∧ j < a then 1 else M 10 j
theorem onF_0 (M : Nat → Int → Int) : onF M 0 = M 10 := by funext j; exact if_neg (by omega)
theorem onF_s (M : Nat → Int → Int) {a : Int} (ha : 0 ≤ a) : rz_u (onF M a) a 1 = onF M (a + 1) := by
  funext j
  unfold onF
  by_cases e : j = a
  · rw [e, rz_u_s, if_pos (by omega)]
  · rw [rz_u_n e]
    by_cases q : 0 ≤ j ∧ j < a
    · rw [if_pos q, if_pos (by omega)]
    · rw [if_neg q, if_neg (by omega)]
theorem onF_4 (M : Nat → Int → Int) : b4 (onF M 4) := fun b b0 b1 => Or.inr (if_pos ⟨b0, b1⟩)
/-- the reference with all asks counting -/
def mAll (M : Nat → Int → Int) : Nat → Int → Int := mu M 10 (onF M 4)
def fnd (M : Nat → Int → Int) : Bool := decide (srch (mAll M) < 15625)
/-- how many of g's first n are no less than 0 -/
def cnF (g : Int → Int) : Nat → Int
  | 0 => 0
  | n + 1 => cnF g n + (if 0 ≤ g n then 1 else 0)
theorem cnF_s (g : Int → Int) {p : Int} (hp : 0 ≤ p) : cnF g (p + 1).toNat = cnF g p.toNat + (if 0 ≤ g p then 1 else 0) := by
  rw [show (p + 1).toNat = p.toNat + 1 by omega]
  simp only [cnF, show ((p.toNat : Nat) : Int) = p by omega]
theorem cnF_in (g : Int → Int) : ∀ n, 0 ≤ cnF g n ∧ cnF g n ≤ n
  | 0 => by simp [cnF]
  | n + 1 => by have := cnF_in g n; simp only [cnF]; split <;> omega
theorem cnF_c {g g' : Int → Int} : ∀ n : Nat, (∀ q : Int, 0 ≤ q → q < n → g q = g' q) → cnF g n = cnF g' n
  | 0, _ => rfl
  | n + 1, h => by simp only [cnF, cnF_c n (fun q a b => h q a (by omega)), h n (by omega) (by omega)]
def cpF (G H : Int → Int) (p : Int) : Int → Int := fun j => if 0 ≤ j ∧ j < p then G j else H j
theorem cpF_0 (G H : Int → Int) : cpF G H 0 = H := by funext j; exact if_neg (by omega)
theorem cpF_s (G H : Int → Int) {p : Int} (hp : 0 ≤ p) : rz_u (cpF G H p) p (G p) = cpF G H (p + 1) := by
  funext j
  unfold cpF
  by_cases e : j = p
  · rw [e, rz_u_s, if_pos (by omega)]
  · rw [rz_u_n e]
    by_cases q : 0 ≤ j ∧ j < p
    · rw [if_pos q, if_pos (by omega)]
    · rw [if_neg q, if_neg (by omega)]
/-- what solve leaves behind -/
def solP (M M' : Nat → Int → Int) : Prop := mSk [10, 11, 12, 13, 14, 15, 16, 17, 18, 19] M M' ∧ M' 12 0 = bi (fnd M) ∧ M' 13 0 = bi (!fnd M) ∧ (∀ p, 0 ≤ p → p < 6 → -1 ≤ M' 14 p ∧ M' 14 p < M 2 p) ∧ (fnd M = true → ∀ p, 0 ≤ p → p < 6 → M' 14 p = sel M (srch (mAll M)) p) ∧ (fnd M = true → M' 15 = M 15) ∧ (fnd M = false → ∀ b, 0 ≤ b → b < 4 → M' 15 b = bi (blB (mAll M) b))
def solR (M : Nat → Int → Int) : Int := if fnd M = true then cnF (sel M (srch (mAll M))) 6 else -4
theorem mWF_sol {M M' : Nat → Int → Int} (hw : mWF M) (h : mSk [10, 11, 12, 13, 14, 16, 17, 18, 19] M M') (h12 : M' 12 0 = 0 ∨ M' 12 0 = 1) (h13 : M' 13 0 = 0 ∨ M' 13 0 = 1) (h14 : ∀ p, 0 ≤ p → p < 6 → -1 ≤ M' 14 p ∧ M' 14 p ≤ 3) : mWF M' := by
  obtain ⟨a, b, c, d, e, f, g, i, j, k, l, m, n, q⟩ := hw
  unfold mWF
  rw [h 0 (by decide), h 1 (by decide), h 2 (by decide), h 3 (by decide), h 4 (by decide), h 5 (by decide), h 6 (by decide), h 7 (by decide), h 8 (by decide), h 9 (by decide), h 15 (by decide)]
  exact ⟨a, b, c, d, e, f, g, i, j, k, h12, h13, h14, q⟩
theorem mVal_K {M M' : Nat → Int → Int} (h : ∀ k, k < 10 → M' k = M k) (hv : mVal M) : mVal M' := by
  refine ⟨?_, ?_, ?_, ?_, ?_⟩
  · intro p r h1 h2 h3 h4; rw [mK_at h, h 1 (by decide)]; rw [h 2 (by decide)] at h4; exact hv.1 p r h1 h2 h3 h4
  · rw [mK_at h, h 1 (by decide)]; exact hv.2.1
  · intro k a b c; rw [mK_at h, h 1 (by decide)]; rw [h 4 (by decide)] at c; exact hv.2.2.1 k a b c
  · intro k j a b c d; rw [mK_at h, h 1 (by decide)]; rw [h 5 (by decide)] at d; exact hv.2.2.2.1 k j a b c d
  · intro a b c; rw [mK_at h, h 1 (by decide)]; rw [h 8 (by decide)] at c; exact hv.2.2.2.2 a b c
abbrev rm_Md_solve : Room := { frames := 12, cells := 0, slots := 0, locals := 297 }
set_option maxRecDepth 100000 in
set_option maxHeartbeats 4000000 in
theorem c_Md_solve {l : Launch} {Γ : rz_G} {h : rz_H} {x : Nat} {ad : Nat → Nat} {M : Nat → Int → Int} (hM : MdAt Γ h x ad M) (hw : mWF M) (hval : mVal M) : Ct l Γ x_Md_solve y_Md_solve rm_Md_solve [.ref x] h (pI (fun r h' => r = solR M ∧ ∃ M', MdAt Γ h' x ad M' ∧ solP M M' ∧ rz_fr [10, 11] h h')) := by
  refine rz_met (by decide) rfl rfl (Nat.le_of_ble_eq_true rfl) (fun K _ => ?_)
  refine rz_Leq [(0, .ref x)] rfl ?_
  refine rz_iconst d_Md_solve_0 ?_
  refine rz_istore_n [(1, vi 0), (0, .ref x)] d_Md_solve_1 rfl (by decide) rfl ?_
  refine rz_loop (α := Int × rz_H) 0 0 2 (fun (a, hA) => (4 - a).toNat) (fun (a, hA) => 0 ≤ a ∧ a ≤ 4 ∧ MdAt Γ hA x ad (mu M 10 (onF M a)) ∧ rz_fr [10, 11] h hA) (fun (a, hA) => [(1, vi a), (0, .ref x)]) (fun (a, hA) => []) (fun (a, hA) => hA) (fun y hy ih2 => ?_) (fun LP => ?_)
  · obtain ⟨a, hA⟩ := y
    try dsimp only at hy ih2 ⊢
    obtain ⟨ha0, ha1, hMA, hFA⟩ := hy
    refine rz_iload_n 0 d_Md_solve_2 rfl rfl ?_
    refine rz_iconst d_Md_solve_3 ?_
    refine rz_icmp_ge 20 d_Md_solve_4 (by decide) (by omega) ⟨by decide, by decide⟩ (fun c4 => ?_) (fun c4 => ?_)
    · have ea : a = 4 := by omega
      subst ea
      refine rz_aload_n 1 d_Md_solve_20 rfl rfl ?_
      refine rz_callV (As := []) (c_Md_search hMA (mSS_wf (mSk_SS (mSk.rf (ks := [11, 16, 17, 18, 19]) (M := mu M 10 (onF M 4)))) hw) (mSS_val (mSk_SS (mSk.rf (ks := [11, 16, 17, 18, 19]) (M := mu M 10 (onF M 4)))) hval) (by intro b b1 b2; rw [(mSk.rf (ks := [11, 16, 17, 18, 19]) (M := mu M 10 (onF M 4))) 10 (by decide), mu_s]; exact onF_4 M b b1 b2)) m_Md_195 hMA.1 rfl rfl rfl rfl (Nat.le_of_ble_eq_true rfl) ⟨by decide, by decide⟩ ⟨by decide, by decide⟩ d_Md_solve_21 (kI (h := hA) fun r1 h1 q1 => ?_)
      obtain ⟨rfl, M1, hM1, hT1, hN1, hX1, hO1, hF1⟩ := q1
      have hZ1 : mSk [11, 16, 17, 18, 19] (mu M 10 (onF M 4)) M1 := (mSk.rf (ks := [11, 16, 17, 18, 19]) (M := mu M 10 (onF M 4))).tr hT1
      have ho1 : ∀ q, ¬ (0 ≤ q ∧ q < 6) → M1 11 q = M 11 q := fun q hq => (hO1 q hq).trans ((fun q _ => congrFun (mu_n (M := M) (k := 10) (g := onF M 4) (by decide)) q) q hq)
      have hG1 := hFA.tr hF1
      refine rz_istore_n [(1, vi (bi (fnd M))), (0, .ref x)] d_Md_solve_24 rfl (by decide) rfl ?_
      refine rz_aload_n 1 d_Md_solve_25 rfl rfl ?_
      refine rz_iload_n 0 d_Md_solve_26 rfl rfl ?_
      refine md_ps12 hM1 hG1 (bi01 _) (fp_Md_198 _) d_Md_solve_27 (fun h2 hM2 hF2 => ?_)
      obtain ⟨M2, eM2⟩ : ∃ z, z = mu M1 12 (fun _ => (bi (fnd M))) := ⟨_, rfl⟩
      rw [← eM2] at hM2
      refine rz_aload_n 1 d_Md_solve_30 rfl rfl ?_
      refine rz_cut (α := Unit) 0 0 40 (fun _ => True) (fun _ => [(1, vi (bi (fnd M))), (0, .ref x)]) (fun _ => [vi (bi (!fnd M)), .ref x]) (fun _ => h2) (fun _ _ => ?_) (fun J40 => ?_)
      · refine md_ps13 hM2 hF2 (bi01 _) (fp_Md_202 _) d_Md_solve_40 (fun h3 hM3 hF3 => ?_)
        obtain ⟨M3, eM3⟩ : ∃ z, z = mu M2 13 (fun _ => (bi (!fnd M))) := ⟨_, rfl⟩
        rw [← eM3] at hM3
        obtain ⟨N, eN⟩ : ∃ z, z = M1 := ⟨_, rfl⟩
        rw [← eN] at hZ1 hN1 hX1 eM2
        have tN11 : M3 11 = N 11 := by rw [eM3, mu_n (by decide), eM2, mu_n (by decide)]
        have t13 : M3 13 0 = bi (!fnd M) := by rw [eM3, mu_s]
        have t12 : M3 12 0 = bi (fnd M) := by rw [eM3, mu_n (by decide), eM2, mu_s]
        have tK : mSk [10, 11, 12, 13, 16, 17, 18, 19] M M3 := fun k hk => by rw [eM3, mu_n (fun q => hk (by simp [q])), eM2, mu_n (fun q => hk (by simp [q])), hZ1 k (fun q => hk (by simp at q ⊢; omega)), mu_n (fun q => hk (by simp [q]))]
        have t10 : M3 10 = onF M 4 := by rw [eM3, mu_n (by decide), eM2, mu_n (by decide), hZ1 10 (by decide), mu_s]
        have nN : ∀ p, 0 ≤ p → p < 6 → -1 ≤ N 11 p ∧ N 11 p < M 2 p := fun p a b => by have q := hN1 p a b; rw [hZ1 2 (by decide), mu_n (by decide)] at q; exact q
        have nO : ∀ q, ¬ (0 ≤ q ∧ q < 6) → N 11 q = M 11 q := fun q hq => by rw [eN]; exact ho1 q hq
        have nX : fnd M = true → ∀ p, 0 ≤ p → p < 6 → N 11 p = sel M (srch (mAll M)) p := fun hf p a b => by rw [hX1 (of_decide_eq_true hf), slF, if_pos ⟨a, b⟩]; exact sel_K (fun k hk => mu_n (by omega)) _ p
        obtain ⟨NN, eNN⟩ : ∃ z, z = M3 := ⟨_, rfl⟩
        rw [← eNN] at tN11 t13 t12 tK t10 hM3
        refine rz_iconst d_Md_solve_43 ?_
        refine rz_istore_n [(2, vi 0), (1, vi (bi (fnd M))), (0, .ref x)] d_Md_solve_44 rfl (by decide) rfl ?_
        refine rz_iconst d_Md_solve_45 ?_
        refine rz_istore_n [(3, vi 0), (2, vi 0), (1, vi (bi (fnd M))), (0, .ref x)] d_Md_solve_46 rfl (by decide) rfl ?_
        refine rz_loop (α := Int × rz_H) 0 0 47 (fun (p, hB) => (6 - p).toNat) (fun (p, hB) => 0 ≤ p ∧ p ≤ 6 ∧ MdAt Γ hB x ad (mu NN 14 (cpF (N 11) (M 14) p)) ∧ rz_fr [10, 11] h hB) (fun (p, hB) => [(3, vi p), (2, vi (cnF (N 11) p.toNat)), (1, vi (bi (fnd M))), (0, .ref x)]) (fun (p, hB) => []) (fun (p, hB) => hB) (fun y hy ih47 => ?_) (fun LP => ?_)
        · obtain ⟨p, hB⟩ := y
          try dsimp only at hy ih47 ⊢
          obtain ⟨hp0, hp1, hMB, hFB⟩ := hy
          have cn := cnF_in (N 11) p.toNat
          refine rz_iload_n 0 d_Md_solve_47 rfl rfl ?_
          refine rz_bipush (v := 6) d_Md_solve_48 (by decide) ?_
          refine rz_icmp_ge 83 d_Md_solve_50 (by decide) (by omega) ⟨by decide, by decide⟩ (fun c50 => ?_) (fun c50 => ?_)
          · have ep : p = 6 := by omega
            subst ep
            have mK4 : mSk [10, 11, 12, 13, 14, 16, 17, 18, 19] M (mu NN 14 (cpF (N 11) (M 14) 6)) := (tK.mono (by decide)).mu (by decide) _
            have m14 : ∀ p, 0 ≤ p → p < 6 → mu NN 14 (cpF (N 11) (M 14) 6) 14 p = N 11 p := fun p a b => by rw [mu_s, cpF, if_pos ⟨a, b⟩]
            have hw4 : mWF (mu NN 14 (cpF (N 11) (M 14) 6)) := mWF_sol hw mK4 (by rw [mu_n (by decide), t12]; exact bi01 _) (by rw [mu_n (by decide), t13]; exact bi01 _) (fun p a b => by rw [m14 p a b]; have q1 := nN p a b; have q2 := hw.2.2.1 p a b; omega)
            have hv4 : mVal (mu NN 14 (cpF (N 11) (M 14) 6)) := mVal_K (fun k hk => mK4 k (by simp; omega)) hval
            have hc4 : cOK (mu NN 14 (cpF (N 11) (M 14) 6)) := fun b b0 b1 => by rw [mu_n (by decide), t10]; exact onF_4 M b b0 b1
            refine rz_aload_n 3 d_Md_solve_83 rfl rfl ?_
            refine rz_getf f_Md_202 hMB.1 rfl d_Md_solve_84 ?_
            refine rz_Seq [vi (bi (!fnd M))] (by rw [mu_n (by decide)]; simp only [t13]) ?_
            refine rz_if_eqB 94 d_Md_solve_87 (by decide) (fun c87 => ?_) (fun c87 => ?_)
            · have c87f : fnd M = true := by simpa using c87
              refine rz_iload_n 2 d_Md_solve_94 rfl rfl ?_
              refine rz_if_eqB 102 d_Md_solve_95 (by decide) (fun c95 => ?_) (fun c95 => ?_)
              · refine rz_bipush (v := (-4)) d_Md_solve_102 (by decide) ?_
                exact rz_ireturn (st := []) rfl d_Md_solve_104 ⟨by decide, by decide⟩ ⟨_, rfl, absurd c95 (by rw [c87f]; decide)⟩
              · refine rz_iload_n 1 d_Md_solve_98 rfl rfl ?_
                refine rz_goto 104 d_Md_solve_99 (by decide) ?_
                exact rz_ireturn (st := []) rfl d_Md_solve_104 ⟨by decide, by decide⟩ ⟨_, rfl, (by rw [solR, if_pos c87f, show ((6 : Int)).toNat = 6 from rfl]; exact cnF_c 6 (fun q a b => nX c87f q a (by omega))), _, hMB, ⟨mK4.mono (by decide), by rw [mu_n (by decide), t12], by rw [mu_n (by decide), t13], fun p a b => by rw [m14 p a b]; exact nN p a b, fun q p a b => by rw [m14 p a b]; exact nX q p a b, fun _ => mK4 15 (by decide), fun q => absurd q (by rw [c87f]; decide)⟩, hFB⟩
            · refine rz_aload_n 3 d_Md_solve_90 rfl rfl ?_
              refine rz_callV (As := []) (c_Md_findBlame hMB hw4 hv4 hc4) m_Md_205 hMB.1 rfl rfl rfl rfl (Nat.le_of_ble_eq_true rfl) ⟨by decide, by decide⟩ ⟨by decide, by decide⟩ d_Md_solve_91 (kV (h := hB) fun h4 q4 => ?_)
              obtain ⟨M4, hM4, hT4, hB4, hF4⟩ := q4
              have hG4 := hFB.tr hF4
              have c87f : fnd M = false := by simpa using c87
              have bE : ∀ b, blB (mu NN 14 (cpF (N 11) (M 14) 6)) b = blB (mAll M) b := fun b => by
                have tt : mu NN 14 (cpF (N 11) (M 14) 6) 10 = onF M 4 := by rw [mu_n (by decide), t10]
                unfold blB blC
                rw [mK4 8 (by decide), tt, show mAll M 8 = M 8 from mu_n (by decide), show mAll M 10 = onF M 4 from mu_s _ _ _, blF_K (M := mAll M)]
                refine ⟨fun k hk => ?_, fun q hq => ?_⟩
                · by_cases e : k = 10
                  · rw [e, mu_s]
                  · rw [mu_n e, show mAll M k = M k from mu_n e]; exact mK4 k (by simp; omega)
                · rw [mu_n (by decide), mu_n (by decide), show mAll M 11 = M 11 from mu_n (by decide), tN11]; exact nO q hq
              refine rz_iload_n 2 d_Md_solve_94 rfl rfl ?_
              refine rz_if_eqB 102 d_Md_solve_95 (by decide) (fun c95 => ?_) (fun c95 => ?_)
              · refine rz_bipush (v := (-4)) d_Md_solve_102 (by decide) ?_
                exact rz_ireturn (st := []) rfl d_Md_solve_104 ⟨by decide, by decide⟩ ⟨_, rfl, (by rw [solR, if_neg (by rw [c87f]; decide)]), M4, hM4, ⟨fun k hk => by rw [hT4 k (fun q => hk (by simp at q ⊢; omega)), mK4 k (fun q => hk (by simp at q ⊢; omega))], by rw [hT4 12 (by decide), mu_n (by decide), t12], by rw [hT4 13 (by decide), mu_n (by decide), t13], fun p a b => by rw [hT4 14 (by decide), m14 p a b]; exact nN p a b, fun q => absurd q (by rw [c87f]; decide), fun q => absurd q (by rw [c87f]; decide), fun _ b b0 b1 => by rw [hB4 b b0 b1, bE]⟩, hG4⟩
              · refine rz_iload_n 1 d_Md_solve_98 rfl rfl ?_
                refine rz_goto 104 d_Md_solve_99 (by decide) ?_
                exact rz_ireturn (st := []) rfl d_Md_solve_104 ⟨by decide, by decide⟩ ⟨_, rfl, absurd c95 (by rw [c87f]; decide)⟩
          · refine rz_aload_n 3 d_Md_solve_53 rfl rfl ?_
            refine rz_getf f_Md_44 hMB.1 rfl d_Md_solve_54 ?_
            refine rz_iload_n 0 d_Md_solve_57 rfl rfl ?_
            refine rz_aload_n 3 d_Md_solve_58 rfl rfl ?_
            refine rz_getf f_Md_41 hMB.1 rfl d_Md_solve_59 ?_
            refine rz_iload_n 0 d_Md_solve_62 rfl rfl ?_
            refine rz_iaload (md_a11 hMB) (by decide) (by omega) d_Md_solve_63 ?_
            refine rz_Seq [vi (N 11 p), vi p, .ref (ad 14)] (by rw [mu_n (by decide)]; simp only [tN11]) ?_
            refine md_st14 hMB hFB (by omega) d_Md_solve_64 (fun h5 hM5 hF5 => ?_)
            rw [mu_mu, mu_s, cpF_s _ _ hp0] at hM5
            have n11 := nN p (by omega) (by omega)
            have n2 := hw.2.2.1 p (by omega) (by omega)
            refine rz_aload_n 3 d_Md_solve_65 rfl rfl ?_
            refine rz_getf f_Md_41 hM5.1 rfl d_Md_solve_66 ?_
            refine rz_iload_n 0 d_Md_solve_69 rfl rfl ?_
            refine rz_iaload (md_a11 hM5) (by decide) (by omega) d_Md_solve_70 ?_
            refine rz_Seq [vi (N 11 p)] (by rw [mu_n (by decide)]; simp only [tN11]) ?_
            refine rz_if_lt 77 d_Md_solve_71 (by decide) (by omega) (fun c71 => ?_) (fun c71 => ?_)
            · refine rz_iinc (p + 1) 0 [(3, vi (p + 1)), (2, vi (cnF (N 11) p.toNat)), (1, vi (bi (fnd M))), (0, .ref x)] d_Md_solve_77 rfl (by first | rfl | omega) (by decide) rfl ?_
              refine rz_goto 47 d_Md_solve_80 (by decide) ?_
              refine rz_Leq [(3, vi (p + 1)), (2, vi (cnF (N 11) (p + 1).toNat)), (1, vi (bi (fnd M))), (0, .ref x)] (by rw [cnF_s _ hp0, if_neg (by omega), Int.add_zero]) ?_
              refine rz_Lsub [(3, vi (p + 1)), (2, vi (cnF (N 11) (p + 1).toNat)), (1, vi (bi (fnd M))), (0, .ref x)] [0, 1, 2, 3] rfl ?_
              refine ih47 (p + 1, h5) ?_ ?_
              · try dsimp only
                exact ⟨by omega, by omega, hM5, hF5⟩
              · exact (by first | omega | (dsimp only; omega))
            · refine rz_iinc ((cnF (N 11) p.toNat) + 1) 1 [(2, vi ((cnF (N 11) p.toNat) + 1)), (3, vi p), (1, vi (bi (fnd M))), (0, .ref x)] d_Md_solve_74 rfl (by first | rfl | omega) (by decide) rfl ?_
              refine rz_iinc (p + 1) 1 [(3, vi (p + 1)), (2, vi ((cnF (N 11) p.toNat) + 1)), (1, vi (bi (fnd M))), (0, .ref x)] d_Md_solve_77 rfl (by first | rfl | omega) (by decide) rfl ?_
              refine rz_goto 47 d_Md_solve_80 (by decide) ?_
              refine rz_Leq [(3, vi (p + 1)), (2, vi (cnF (N 11) (p + 1).toNat)), (1, vi (bi (fnd M))), (0, .ref x)] (by rw [cnF_s _ hp0, if_pos (by omega)]) ?_
              refine rz_Lsub [(3, vi (p + 1)), (2, vi (cnF (N 11) (p + 1).toNat)), (1, vi (bi (fnd M))), (0, .ref x)] [0, 1, 2, 3] rfl ?_
              refine ih47 (p + 1, h5) ?_ ?_
              · try dsimp only
                exact ⟨by omega, by omega, hM5, hF5⟩
              · exact (by first | omega | (dsimp only; omega))
        · refine rz_Lsub [(3, vi 0), (2, vi 0), (1, vi (bi (fnd M))), (0, .ref x)] [0, 1, 2, 3] rfl ?_
          refine LP (0, h3) ?_
          try dsimp only
          exact ⟨by omega, by omega, (by rw [cpF_0, ← tK 14 (by decide), mu_self]; exact hM3), hF3⟩
      · refine rz_iload_n 0 d_Md_solve_31 rfl rfl ?_
        refine rz_if_neB 39 d_Md_solve_32 (by decide) (fun c32 => ?_) (fun c32 => ?_)
        · refine rz_iconst d_Md_solve_39 ?_
          refine rz_Seq [vi (bi (!fnd M)), .ref x] (by rw [c32]; rfl) ?_
          exact J40 () trivial
        · refine rz_iconst d_Md_solve_35 ?_
          refine rz_goto 40 d_Md_solve_36 (by decide) ?_
          refine rz_Seq [vi (bi (!fnd M)), .ref x] (by rw [c32]; rfl) ?_
          exact J40 () trivial
    · refine rz_aload_n 1 d_Md_solve_7 rfl rfl ?_
      refine rz_getf f_Md_38 hMA.1 rfl d_Md_solve_8 ?_
      refine rz_iload_n 0 d_Md_solve_11 rfl rfl ?_
      refine rz_iconst d_Md_solve_12 ?_
      refine md_st10 hMA hFA (by omega) (by omega) d_Md_solve_13 (fun h6 hM6 hF6 => ?_)
      rw [mu_mu, mu_s, onF_s M ha0] at hM6
      refine rz_iinc (a + 1) 0 [(1, vi (a + 1)), (0, .ref x)] d_Md_solve_14 rfl (by first | rfl | omega) (by decide) rfl ?_
      refine rz_goto 2 d_Md_solve_17 (by decide) ?_
      refine rz_Lsub [(1, vi (a + 1)), (0, .ref x)] [0, 1] rfl ?_
      refine ih2 (a + 1, h6) ?_ ?_
      · try dsimp only
        exact ⟨by omega, by omega, hM6, hF6⟩
      · exact (by first | omega | (dsimp only; omega))
  · refine rz_Lsub [(1, vi 0), (0, .ref x)] [0, 1] rfl ?_
    refine LP (0, h) ?_
    try dsimp only
    exact ⟨by omega, by omega, (by rw [onF_0, mu_self]; exact hM), rz_fr.rf⟩
/-- how many of the asks from a on, n of them, aren't met by the selection now -/
def umF (M : Nat → Int → Int) : Nat → Int → Int
  | 0, _ => 0
  | n + 1, a => (if metP M (M 9 a) (2 + a) = true then 0 else 1) + umF M n (a + 1)
theorem umF_e (M : Nat → Int → Int) {n : Nat} (a : Int) (hn : 0 < n) : umF M n a = (if metP M (M 9 a) (2 + a) = true then 0 else 1) + umF M (n - 1) (a + 1) := by
  cases n with
  | zero => omega
  | succ n => rfl
def mCh (M : Nat → Int → Int) : Nat → Int → Int := mu M 11 (cpF (M 14) (M 11) 6)
def sp_unmet (M : Nat → Int → Int) : Int × (Nat → Int → Int) := if M 12 0 = 0 then (-4, M) else (umF (mCh M) (M 8 0).toNat 0, mCh M)
/-- what was chosen is there -/
def chOK (M : Nat → Int → Int) : Prop := ¬ M 12 0 = 0 → ∀ p, 0 ≤ p → p < 6 → -1 ≤ M 14 p ∧ M 14 p < M 2 p
abbrev rm_Md_unmet : Room := { frames := 8, cells := 0, slots := 0, locals := 206 }
set_option maxRecDepth 100000 in
set_option maxHeartbeats 4000000 in
theorem c_Md_unmet {l : Launch} {Γ : rz_G} {h : rz_H} {x : Nat} {ad : Nat → Nat} {M : Nat → Int → Int} (hM : MdAt Γ h x ad M) (hw : mWF M) (hval : mVal M) (hch : chOK M) : Ct l Γ x_Md_unmet y_Md_unmet rm_Md_unmet [.ref x] h (pI (fun r' h' => r' = (sp_unmet M).1 ∧ ∃ M', MdAt Γ h' x ad M' ∧ mS2 (sp_unmet M).2 M' ∧ rz_fr [10, 11] h h')) := by
  refine rz_met (by decide) rfl rfl (Nat.le_of_ble_eq_true rfl) (fun K _ => ?_)
  refine rz_Leq [(0, .ref x)] rfl ?_
  have l12 := hw.2.2.2.2.2.2.2.2.2.2.1
  refine rz_aload_n 0 d_Md_unmet_0 rfl rfl ?_
  refine rz_getf f_Md_198 hM.1 rfl d_Md_unmet_1 ?_
  refine rz_if_ne 10 d_Md_unmet_4 (by decide) (by omega) (fun c4 => ?_) (fun c4 => ?_)
  · refine rz_iconst d_Md_unmet_10 ?_
    refine rz_istore_n [(1, vi 0), (0, .ref x)] d_Md_unmet_11 rfl (by decide) rfl ?_
    refine rz_iconst d_Md_unmet_12 ?_
    refine rz_istore_n [(2, vi 0), (1, vi 0), (0, .ref x)] d_Md_unmet_13 rfl (by decide) rfl ?_
    refine rz_loop (α := Int × rz_H) 0 0 14 (fun (p, hA) => (6 - p).toNat) (fun (p, hA) => 0 ≤ p ∧ p ≤ 6 ∧ MdAt Γ hA x ad (mu M 11 (cpF (M 14) (M 11) p)) ∧ rz_fr [10, 11] h hA) (fun (p, hA) => [(2, vi p), (1, vi 0), (0, .ref x)]) (fun (p, hA) => []) (fun (p, hA) => hA) (fun y hy ih14 => ?_) (fun LP => ?_)
    · obtain ⟨p, hA⟩ := y
      try dsimp only at hy ih14 ⊢
      obtain ⟨hp0, hp1, hMA, hFA⟩ := hy
      refine rz_iload_n 0 d_Md_unmet_14 rfl rfl ?_
      refine rz_bipush (v := 6) d_Md_unmet_15 (by decide) ?_
      refine rz_icmp_ge 38 d_Md_unmet_17 (by decide) (by omega) ⟨by decide, by decide⟩ (fun c17 => ?_) (fun c17 => ?_)
      · have ep : p = 6 := by omega
        subst ep
        obtain ⟨C, eC⟩ : ∃ z, z = mCh M := ⟨_, rfl⟩
        replace hMA : MdAt Γ hA x ad C := eC ▸ hMA
        have kC : ∀ k, k ≠ 11 → C k = M k := fun k hk => by rw [eC]; exact mu_n hk
        have hwC : mWF C := mWF_sol hw (fun k hk => kC k (fun q => hk (by simp [q]))) (by rw [kC 12 (by decide)]; exact hw.2.2.2.2.2.2.2.2.2.2.1) (by rw [kC 13 (by decide)]; exact hw.2.2.2.2.2.2.2.2.2.2.2.1) (by rw [kC 14 (by decide)]; exact hw.2.2.2.2.2.2.2.2.2.2.2.2.1)
        have hvC : mVal C := mVal_K (fun k hk => kC k (by omega)) hval
        have hnC : nowOK C := fun p a b => by rw [kC 2 (by decide), eC, mCh, mu_s, cpF, if_pos ⟨a, b⟩]; exact hch c4 p a b
        have l8 := hwC.2.2.2.2.2.1
        refine rz_iconst d_Md_unmet_38 ?_
        refine rz_istore_n [(2, vi 0), (1, vi 0), (0, .ref x)] d_Md_unmet_39 rfl (by decide) rfl ?_
        refine rz_loop (α := Int × Int × rz_H × (Nat → Int → Int)) 0 0 40 (fun (a, n, hB, MB) => (C 8 0 - a).toNat) (fun (a, n, hB, MB) => 0 ≤ a ∧ a ≤ C 8 0 ∧ 0 ≤ n ∧ n ≤ a ∧ MdAt Γ hB x ad MB ∧ mS2 C MB ∧ rz_fr [10, 11] h hB ∧ umF C (C 8 0).toNat 0 = n + umF C (C 8 0 - a).toNat a) (fun (a, n, hB, MB) => [(2, vi a), (1, vi n), (0, .ref x)]) (fun (a, n, hB, MB) => []) (fun (a, n, hB, MB) => hB) (fun y hy ih40 => ?_) (fun LP => ?_)
        · obtain ⟨a, n, hB, MB⟩ := y
          try dsimp only at hy ih40 ⊢
          obtain ⟨ha0, ha1, hn0, hn1, hMB, hSB, hFB, hv⟩ := hy
          refine rz_iload_n 0 d_Md_unmet_40 rfl rfl ?_
          refine rz_aload_n 2 d_Md_unmet_41 rfl rfl ?_
          refine rz_getf f_Md_167 hMB.1 rfl d_Md_unmet_42 ?_
          rw [hSB 8 (by decide) (by decide)]
          refine rz_icmp_ge 73 d_Md_unmet_45 (by decide) (by omega) (by omega) (fun c45 => ?_) (fun c45 => ?_)
          · refine rz_iload_n 1 d_Md_unmet_73 rfl rfl ?_
            exact rz_ireturn (st := []) rfl d_Md_unmet_74 ⟨by decide, by decide⟩ ⟨_, rfl, (by rw [sp_unmet, if_neg c4, ← eC, ← kC 8 (by decide)]; show n = umF C _ 0; rw [hv, show (C 8 0 - a).toNat = 0 by omega]; simp only [umF]; omega), MB, hMB, (by rw [sp_unmet, if_neg c4]; show mS2 (mCh M) MB; rw [← eC]; exact hSB), hFB⟩
          · have l9 := hwC.2.2.2.2.2.2.1 a (by omega) (by omega)
            refine rz_aload_n 2 d_Md_unmet_48 rfl rfl ?_
            refine rz_aload_n 2 d_Md_unmet_49 rfl rfl ?_
            refine rz_getf f_Md_35 hMB.1 rfl d_Md_unmet_50 ?_
            refine rz_iload_n 0 d_Md_unmet_53 rfl rfl ?_
            refine rz_iaload (md_a9 hMB) (by decide) (by omega) d_Md_unmet_54 ?_
            rw [hSB 9 (by decide) (by decide)]
            refine rz_iconst d_Md_unmet_55 ?_
            refine rz_iload_n 0 d_Md_unmet_56 rfl rfl ?_
            refine rz_iadd d_Md_unmet_57 ?_
            refine rz_callV (As := [vi (C 9 a), vi (2 + a)]) (c_Md_meets hMB (mS2_wf hSB hwC) (vOK_S2 hSB hvC.1) (nowOK_S2 hSB hnC) (by omega) (by omega) (by rw [mS2_at hSB, hSB 1 (by decide) (by decide)]; exact hvC.2.2.2.2 a (by omega) (by omega))) m_Md_179 hMB.1 rfl rfl rfl rfl (Nat.le_of_ble_eq_true rfl) ⟨by decide, by decide⟩ ⟨by decide, by decide⟩ d_Md_unmet_58 (kI (h := hB) fun r1 h1 q1 => ?_)
            obtain ⟨rfl, M1, hM1, hT1, hF1⟩ := q1
            rw [metP_S2 hSB]
            have hS1 := hSB.tr hT1
            have hG1 := hFB.tr hF1
            refine rz_if_neB 67 d_Md_unmet_61 (by decide) (fun c61 => ?_) (fun c61 => ?_)
            · refine rz_iinc (a + 1) 0 [(2, vi (a + 1)), (1, vi n), (0, .ref x)] d_Md_unmet_67 rfl (by first | rfl | omega) (by decide) rfl ?_
              refine rz_goto 40 d_Md_unmet_70 (by decide) ?_
              refine rz_Lsub [(2, vi (a + 1)), (1, vi n), (0, .ref x)] [0, 1, 2] rfl ?_
              refine ih40 (a + 1, n, h1, M1) ?_ ?_
              · try dsimp only
                exact ⟨by omega, by omega, by omega, by omega, hM1, hS1, hG1, (by rw [hv, umF_e _ _ (by omega), if_pos c61, show (C 8 0 - (a + 1)).toNat = (C 8 0 - a).toNat - 1 by omega]; omega)⟩
              · exact (by first | omega | (dsimp only; omega))
            · refine rz_iinc (n + 1) 1 [(1, vi (n + 1)), (2, vi a), (0, .ref x)] d_Md_unmet_64 rfl (by first | rfl | omega) (by decide) rfl ?_
              refine rz_iinc (a + 1) 1 [(2, vi (a + 1)), (1, vi (n + 1)), (0, .ref x)] d_Md_unmet_67 rfl (by first | rfl | omega) (by decide) rfl ?_
              refine rz_goto 40 d_Md_unmet_70 (by decide) ?_
              refine rz_Lsub [(2, vi (a + 1)), (1, vi (n + 1)), (0, .ref x)] [0, 1, 2] rfl ?_
              refine ih40 (a + 1, n + 1, h1, M1) ?_ ?_
              · try dsimp only
                exact ⟨by omega, by omega, by omega, by omega, hM1, hS1, hG1, (by rw [hv, umF_e _ _ (by omega), if_neg (by rw [c61]; decide), show (C 8 0 - (a + 1)).toNat = (C 8 0 - a).toNat - 1 by omega]; omega)⟩
              · exact (by first | omega | (dsimp only; omega))
        · refine rz_Lsub [(2, vi 0), (1, vi 0), (0, .ref x)] [0, 1, 2] rfl ?_
          refine LP (0, 0, hA, C) ?_
          try dsimp only
          exact ⟨by omega, by omega, by omega, by omega, hMA, mS2.rf, hFA, (by rw [Int.zero_add]; congr 1; omega)⟩
      · refine rz_aload_n 2 d_Md_unmet_20 rfl rfl ?_
        refine rz_getf f_Md_41 hMA.1 rfl d_Md_unmet_21 ?_
        refine rz_iload_n 0 d_Md_unmet_24 rfl rfl ?_
        refine rz_aload_n 2 d_Md_unmet_25 rfl rfl ?_
        refine rz_getf f_Md_44 hMA.1 rfl d_Md_unmet_26 ?_
        refine rz_iload_n 0 d_Md_unmet_29 rfl rfl ?_
        refine rz_iaload (md_a14 hMA) (by decide) (by omega) d_Md_unmet_30 ?_
        refine rz_Seq [vi (M 14 p), vi p, .ref (ad 11)] rfl ?_
        refine md_st11 hMA hFA (by omega) d_Md_unmet_31 (fun h2 hM2 hF2 => ?_)
        rw [mu_mu, mu_s, cpF_s _ _ hp0] at hM2
        refine rz_iinc (p + 1) 0 [(2, vi (p + 1)), (1, vi 0), (0, .ref x)] d_Md_unmet_32 rfl (by first | rfl | omega) (by decide) rfl ?_
        refine rz_goto 14 d_Md_unmet_35 (by decide) ?_
        refine rz_Lsub [(2, vi (p + 1)), (1, vi 0), (0, .ref x)] [0, 1, 2] rfl ?_
        refine ih14 (p + 1, h2) ?_ ?_
        · try dsimp only
          exact ⟨by omega, by omega, hM2, hF2⟩
        · exact (by first | omega | (dsimp only; omega))
    · refine rz_Lsub [(2, vi 0), (1, vi 0), (0, .ref x)] [0, 1, 2] rfl ?_
      refine LP (0, h) ?_
      try dsimp only
      exact ⟨by omega, by omega, (by rw [cpF_0, mu_self]; exact hM), rz_fr.rf⟩
  · refine rz_bipush (v := (-4)) d_Md_unmet_7 (by decide) ?_
    exact rz_ireturn (st := []) rfl d_Md_unmet_9 ⟨by decide, by decide⟩ ⟨_, rfl, (by rw [sp_unmet, if_pos c4]), _, hM, (by rw [sp_unmet, if_pos c4]; exact mS2.rf), rz_fr.rf⟩
end
section
/-! CORE 3: bits, switches, texts, copies, inherited methods -/
theorem rz_iand {Γ : rz_G} {X : rz_X} {rm : Room} {post : Option Value → rz_H → Prop} {K : rz_K} {cells slots pc : Nat} {L : List (Nat × Value)} {st : List Value} {h : rz_H} {a b : Int} (r : Int) (hr : Int32.ofInt a &&& Int32.ofInt b = Int32.ofInt r) (hd : decode X.1 pc = .ok (.iand, 1)) (k : Wk Γ X rm post K cells slots (pc + 1) L (vi r :: st) h) : Wk Γ X rm post K cells slots pc L (vi b :: vi a :: st) h :=
  fun C H locs ls hO hS hl => lv_iand C.1 C.2.1 hd (by rw [hr]; exact k C H locs ls hO hS hl)
theorem rz_ior {Γ : rz_G} {X : rz_X} {rm : Room} {post : Option Value → rz_H → Prop} {K : rz_K} {cells slots pc : Nat} {L : List (Nat × Value)} {st : List Value} {h : rz_H} {a b : Int} (r : Int) (hr : Int32.ofInt a ||| Int32.ofInt b = Int32.ofInt r) (hd : decode X.1 pc = .ok (.ior, 1)) (k : Wk Γ X rm post K cells slots (pc + 1) L (vi r :: st) h) : Wk Γ X rm post K cells slots pc L (vi b :: vi a :: st) h :=
  fun C H locs ls hO hS hl => lv_ior C.1 C.2.1 hd (by rw [hr]; exact k C H locs ls hO hS hl)
theorem rz_ixor {Γ : rz_G} {X : rz_X} {rm : Room} {post : Option Value → rz_H → Prop} {K : rz_K} {cells slots pc : Nat} {L : List (Nat × Value)} {st : List Value} {h : rz_H} {a b : Int} (r : Int) (hr : Int32.ofInt a ^^^ Int32.ofInt b = Int32.ofInt r) (hd : decode X.1 pc = .ok (.ixor, 1)) (k : Wk Γ X rm post K cells slots (pc + 1) L (vi r :: st) h) : Wk Γ X rm post K cells slots pc L (vi b :: vi a :: st) h :=
  fun C H locs ls hO hS hl => lv_ixor C.1 C.2.1 hd (by rw [hr]; exact k C H locs ls hO hS hl)
theorem rz_ishl {Γ : rz_G} {X : rz_X} {rm : Room} {post : Option Value → rz_H → Prop} {K : rz_K} {cells slots pc : Nat} {L : List (Nat × Value)} {st : List Value} {h : rz_H} {a b : Int} (r : Int) (hr : Int32.ofInt a <<< (Int32.ofInt b &&& 31) = Int32.ofInt r) (hd : decode X.1 pc = .ok (.ishl, 1)) (k : Wk Γ X rm post K cells slots (pc + 1) L (vi r :: st) h) : Wk Γ X rm post K cells slots pc L (vi b :: vi a :: st) h :=
  fun C H locs ls hO hS hl => lv_ishl C.1 C.2.1 hd (by rw [hr]; exact k C H locs ls hO hS hl)
theorem rz_ishr {Γ : rz_G} {X : rz_X} {rm : Room} {post : Option Value → rz_H → Prop} {K : rz_K} {cells slots pc : Nat} {L : List (Nat × Value)} {st : List Value} {h : rz_H} {a b : Int} (r : Int) (hr : Int32.ofInt a >>> (Int32.ofInt b &&& 31) = Int32.ofInt r) (hd : decode X.1 pc = .ok (.ishr, 1)) (k : Wk Γ X rm post K cells slots (pc + 1) L (vi r :: st) h) : Wk Γ X rm post K cells slots pc L (vi b :: vi a :: st) h :=
  fun C H locs ls hO hS hl => lv_ishr C.1 C.2.1 hd (by rw [hr]; exact k C H locs ls hO hS hl)
theorem rz_i2b {Γ : rz_G} {X : rz_X} {rm : Room} {post : Option Value → rz_H → Prop} {K : rz_K} {cells slots pc : Nat} {L : List (Nat × Value)} {st : List Value} {h : rz_H} {a : Int} (ha : -128 ≤ a ∧ a ≤ 127) (hd : decode X.1 pc = .ok (.i2b, 1)) (k : Wk Γ X rm post K cells slots (pc + 1) L (vi a :: st) h) : Wk Γ X rm post K cells slots pc L (vi a :: st) h :=
  fun C H locs ls hO hS hl => lv_i2b C.1 C.2.1 hd (by have e := rz_nb ha; rw [vp_nar_byte] at e; exact e) (k C H locs ls hO hS hl)
theorem rz_tsOut {Γ : rz_G} {X : rz_X} {rm : Room} {post : Option Value → rz_H → Prop} {K : rz_K} {cells slots pc : Nat} {L : List (Nat × Value)} {st : List Value} {h : rz_H} {a dflt lo hi : Int} {offs : Array Int} {len : Nat} (tgt : Nat) (ra : -2147483648 ≤ a ∧ a ≤ 2147483647) (ho : a < lo ∨ hi < a) (hd : decode X.1 pc = .ok (.tableswitch dflt lo hi offs, len)) (ht : (pc : Int) + dflt = (tgt : Int)) (k : Wk Γ X rm post K cells slots tgt L st h) : Wk Γ X rm post K cells slots pc L (vi a :: st) h :=
  fun C H locs ls hO hS hl => lv_tableOut C.1 C.2.1 hd (by rw [rz_ti ra]; exact ho) ht (k C H locs ls hO hS hl)
theorem rz_tsIn {Γ : rz_G} {X : rz_X} {rm : Room} {post : Option Value → rz_H → Prop} {K : rz_K} {cells slots pc : Nat} {L : List (Nat × Value)} {st : List Value} {h : rz_H} {a dflt lo hi off : Int} {offs : Array Int} {len : Nat} (tgt : Nat) (ra : -2147483648 ≤ a ∧ a ≤ 2147483647) (h1 : ¬ a < lo) (h2 : ¬ hi < a) (ho : offs[(a - lo).toNat]? = some off) (hd : decode X.1 pc = .ok (.tableswitch dflt lo hi offs, len)) (ht : (pc : Int) + off = (tgt : Int)) (k : Wk Γ X rm post K cells slots tgt L st h) : Wk Γ X rm post K cells slots pc L (vi a :: st) h :=
  fun C H locs ls hO hS hl => lv_tableIn C.1 C.2.1 hd (by rw [rz_ti ra]; exact h1) (by rw [rz_ti ra]; exact h2) (by rw [rz_ti ra]; exact ho) ht (k C H locs ls hO hS hl)
theorem rz_acmp_ne {Γ : rz_G} {X : rz_X} {rm : Room} {post : Option Value → rz_H → Prop} {K : rz_K} {cells slots pc : Nat} {L : List (Nat × Value)} {st : List Value} {h : rz_H} {a b : Nat} {off : Int} (tgt : Nat) (hd : decode X.1 pc = .ok (.if_acmp .ne off, 3)) (ht : (pc : Int) + off = (tgt : Int)) (kt : ¬ a = b → Wk Γ X rm post K cells slots tgt L st h) (kf : a = b → Wk Γ X rm post K cells slots (pc + 3) L st h) : Wk Γ X rm post K cells slots pc L (.ref b :: .ref a :: st) h :=
  fun C H locs ls hO hS hl => lv_acmp_ne (rx := some a) (ry := some b) C.1 C.2.1 hd ht (fun q => kt (fun z => q (by rw [z])) C H locs ls hO hS hl) (fun q => kf (Option.some.inj q) C H locs ls hO hS hl)
theorem rz_acmp_eq {Γ : rz_G} {X : rz_X} {rm : Room} {post : Option Value → rz_H → Prop} {K : rz_K} {cells slots pc : Nat} {L : List (Nat × Value)} {st : List Value} {h : rz_H} {a b : Nat} {off : Int} (tgt : Nat) (hd : decode X.1 pc = .ok (.if_acmp .eq off, 3)) (ht : (pc : Int) + off = (tgt : Int)) (kt : a = b → Wk Γ X rm post K cells slots tgt L st h) (kf : ¬ a = b → Wk Γ X rm post K cells slots (pc + 3) L st h) : Wk Γ X rm post K cells slots pc L (.ref b :: .ref a :: st) h :=
  fun C H locs ls hO hS hl => lv_acmp_eq (rx := some a) (ry := some b) C.1 C.2.1 hd ht (fun q => kt (Option.some.inj q) C H locs ls hO hS hl) (fun q => kf (fun z => q (by rw [z])) C H locs ls hO hS hl)
/-- an array's length, of old or new -/
theorem rz_alenB {Γ : rz_G} {X : rz_X} {rm : Room} {post : Option Value → rz_H → Prop} {K : rz_K} {cells slots pc : Nat} {L : List (Nat × Value)} {st : List Value} {h : rz_H} {a k n : Nat} {t : Nat × Nat} {g : Int → Int} {ty : FieldType} {v : Int} (ha : h a = some (t, aI Γ k n g)) (ht : t.1 = 0 → t.2 = k) (hk : (rz_T Γ.2.1)[k]? = some (Γ.2.1 k, ty)) (hv : v = (n : Int)) (hd : decode X.1 pc = .ok (.arraylength, 1)) (kk : Wk Γ X rm post K cells slots (pc + 1) L (vi v :: st) h) : Wk Γ X rm post K cells slots pc L (.ref a :: st) h := by
  obtain ⟨t1, t2⟩ := t
  by_cases e : t1 = 0
  · subst e
    have e2 := ht rfl
    dsimp only at e2
    subst e2
    exact rz_alenF ha hv hd kk
  · exact rz_alen ha e hk hv hd kk
theorem rz_newI {Γ : rz_G} {X : rz_X} {rm : Room} {post : Option Value → rz_H → Prop} {K : rz_K} {cells slots pc : Nat} {L : List (Nat × Value)} {st : List Value} {h : rz_H} {n : Int} (N : Nat) (t : Nat × Nat) (ht : t.1 ≠ 0) (hw : Cond.arrayClass .int ∈ rz_W) (hn : n = (N : Int)) (hN : N ≤ 10000000) (hc : cells + 1 ≤ rm.cells ∧ slots + N ≤ rm.slots) (hd : decode X.1 pc = .ok (.newarray .int, 2))
    (kk : ∀ q : Nat, h q = none → Wk Γ X rm post K (cells + 1) (slots + N) (pc + 2) L (.ref q :: st) (rz_up h q (t, aI Γ 0 N (fun _ => 0)))) : Wk Γ X rm post K cells slots pc L (vi n :: st) h :=
  rz_newa (k := 0) (ty := .int) (atype := .int) N t ht rfl rfl (fun U cA q => q) (a0 := (N, .inl (fun _ => Int32.ofInt 0))) (fun cA => rfl) hw hn hN (by decide) hc hd kk
theorem rz_newZ {Γ : rz_G} {X : rz_X} {rm : Room} {post : Option Value → rz_H → Prop} {K : rz_K} {cells slots pc : Nat} {L : List (Nat × Value)} {st : List Value} {h : rz_H} {n : Int} (N : Nat) (t : Nat × Nat) (ht : t.1 ≠ 0) (hw : Cond.arrayClass .boolean ∈ rz_W) (hn : n = (N : Int)) (hN : N ≤ 10000000) (hc : cells + 1 ≤ rm.cells ∧ slots + N ≤ rm.slots) (hd : decode X.1 pc = .ok (.newarray .boolean, 2))
    (kk : ∀ q : Nat, h q = none → Wk Γ X rm post K (cells + 1) (slots + N) (pc + 2) L (.ref q :: st) (rz_up h q (t, aI Γ 1 N (fun _ => 0)))) : Wk Γ X rm post K cells slots pc L (vi n :: st) h :=
  rz_newa (k := 1) (ty := .boolean) (atype := .boolean) N t ht rfl rfl (fun U cA q => q) (a0 := (N, .inl (fun _ => Int32.ofInt 0))) (fun cA => rfl) hw hn hN (by decide) hc hd kk
theorem rz_newB {Γ : rz_G} {X : rz_X} {rm : Room} {post : Option Value → rz_H → Prop} {K : rz_K} {cells slots pc : Nat} {L : List (Nat × Value)} {st : List Value} {h : rz_H} {n : Int} (N : Nat) (t : Nat × Nat) (ht : t.1 ≠ 0) (hw : Cond.arrayClass .byte ∈ rz_W) (hn : n = (N : Int)) (hN : N ≤ 10000000) (hc : cells + 1 ≤ rm.cells ∧ slots + N ≤ rm.slots) (hd : decode X.1 pc = .ok (.newarray .byte, 2))
    (kk : ∀ q : Nat, h q = none → Wk Γ X rm post K (cells + 1) (slots + N) (pc + 2) L (.ref q :: st) (rz_up h q (t, aI Γ 2 N (fun _ => 0)))) : Wk Γ X rm post K cells slots pc L (vi n :: st) h :=
  rz_newa (k := 2) (ty := .byte) (atype := .byte) N t ht rfl rfl (fun U cA q => q) (a0 := (N, .inl (fun _ => Int32.ofInt 0))) (fun cA => rfl) hw hn hN (by decide) hc hd kk
theorem rz_newL {Γ : rz_G} {X : rz_X} {rm : Room} {post : Option Value → rz_H → Prop} {K : rz_K} {cells slots pc : Nat} {L : List (Nat × Value)} {st : List Value} {h : rz_H} {n : Int} (N : Nat) (t : Nat × Nat) (ht : t.1 ≠ 0) (hw : Cond.arrayClass .long ∈ rz_W) (hn : n = (N : Int)) (hN : N ≤ 10000000) (hc : cells + 1 ≤ rm.cells ∧ slots + N ≤ rm.slots) (hd : decode X.1 pc = .ok (.newarray .long, 2))
    (kk : ∀ q : Nat, h q = none → Wk Γ X rm post K (cells + 1) (slots + N) (pc + 2) L (.ref q :: st) (rz_up h q (t, aL Γ N (fun _ => 0)))) : Wk Γ X rm post K cells slots pc L (vi n :: st) h :=
  rz_newa (k := 3) (ty := .long) (atype := .long) N t ht rfl rfl (fun U cA q => q) (a0 := (N, .inr (.inl (fun _ => Int64.ofInt 0)))) (fun cA => rfl) hw hn hN (by decide) hc hd kk
theorem rz_aastore {Γ : rz_G} {X : rz_X} {rm : Room} {post : Option Value → rz_H → Prop} {K : rz_K} {cells slots pc : Nat} {L : List (Nat × Value)} {st : List Value} {h : rz_H} {a n k v ci : Nat} {t tv : Nat × Nat} {f : Int → Option Nat} {i : Int} {vs : List Value} {q0 : vw_C} {E : String} (ha : h a = some (t, aR Γ k n f)) (hk : (rz_T Γ.2.1)[k]? = some (Γ.2.1 k, .object E)) (ht : t.1 ≠ 0) (hv : h v = some (tv, .inr (ci, vs))) (htv : tv.1 ≠ 0) (hc : rz_cl[ci]? = some q0) (hca : q0.1 = E ∨ (q0.1, E) ∈ rz_NC) (hi : 0 ≤ i ∧ i < n ∧ i ≤ 2147483647) (hd : decode X.1 pc = .ok (.aastore, 1)) (kk : Wk Γ X rm post K cells slots (pc + 1) L st (rz_up h a (t, aR Γ k n (rz_u f i (some v))))) : Wk Γ X rm post K cells slots pc L (.ref v :: vi i :: .ref a :: st) h := by
  intro C H locs ls hO hS hl
  have hE := C.2.2.2.2.2.2.2
  obtain ⟨ws, hP, hD, hws⟩ := hO
  rcases hws a t _ ha with ⟨-, p0, hp0⟩ | ⟨h0, -⟩
  · rcases hws v tv _ hv with ⟨-, p1, hp1⟩ | ⟨h0, -⟩
    · rcases hca with hca | hca
      · subst hca
        refine va_astq C.1 C.2.1 hE.1 hP hD hS p0 k p1 ci hp0 hk hp1 hc (rz_in hi) hd (fun H1 locs1 hP1 hD1 hS1 => ?_)
        rw [rz_updQ ⟨hi.1, hi.2.2⟩] at hP1 hD1
        exact kk C H1 locs1 ls (rz_O.set hws hp0 ht hP1 hD1) hS1 hl
      · refine va_astqO C.1 C.2.1 hE.1 hP hD hS p0 k p1 ci hp0 hk (hE.2.2.2.1.2.2.1 _ hca) hp1 hc (rz_in hi) hd (fun H1 locs1 hP1 hD1 hS1 => ?_)
        rw [rz_updQ ⟨hi.1, hi.2.2⟩] at hP1 hD1
        exact kk C H1 locs1 ls (rz_O.set hws hp0 ht hP1 hD1) hS1 hl
    · exact absurd h0 htv
  · exact absurd h0 ht
theorem rz_aastoreN {Γ : rz_G} {X : rz_X} {rm : Room} {post : Option Value → rz_H → Prop} {K : rz_K} {cells slots pc : Nat} {L : List (Nat × Value)} {st : List Value} {h : rz_H} {a n k : Nat} {t : Nat × Nat} {f : Int → Option Nat} {i : Int} {E : String} (ha : h a = some (t, aR Γ k n f)) (hk : (rz_T Γ.2.1)[k]? = some (Γ.2.1 k, .object E)) (ht : t.1 ≠ 0) (hi : 0 ≤ i ∧ i < n ∧ i ≤ 2147483647) (hd : decode X.1 pc = .ok (.aastore, 1)) (kk : Wk Γ X rm post K cells slots (pc + 1) L st (rz_up h a (t, aR Γ k n (rz_u f i none)))) : Wk Γ X rm post K cells slots pc L (.null :: vi i :: .ref a :: st) h := by
  intro C H locs ls hO hS hl
  have hE := C.2.2.2.2.2.2.2
  obtain ⟨ws, hP, hD, hws⟩ := hO
  rcases hws a t _ ha with ⟨-, p0, hp0⟩ | ⟨h0, -⟩
  · refine va_astqN C.1 C.2.1 hE.1 hP hD hS p0 k hp0 hk (rz_in hi) hd (fun H1 locs1 hP1 hD1 hS1 => ?_)
    rw [rz_updQ ⟨hi.1, hi.2.2⟩] at hP1 hD1
    exact kk C H1 locs1 ls (rz_O.set hws hp0 ht hP1 hD1) hS1 hl
  · exact absurd h0 ht
/-- f's places sp .. sp+n-1 over g's dp .. -/
def rz_cp {α : Type} (f g : Int → α) (sp dp n : Int) : Int → α := fun j => if dp ≤ j ∧ j < dp + n then f (sp + (j - dp)) else g j
theorem rz_cpy {α β : Type} (w : α → β) {f g : Int → α} {sp dp n : Int} (h1 : 0 ≤ sp) (h2 : 0 ≤ dp) (h3 : 0 ≤ n) : va_cpy (fun j : Nat => w (f (j : Int))) (fun j : Nat => w (g (j : Int))) sp.toNat dp.toNat n.toNat = fun j : Nat => w (rz_cp f g sp dp n (j : Int)) := by
  funext j
  unfold rz_cp
  by_cases c : dp ≤ j ∧ (j : Int) < dp + n
  · rw [if_pos c, pk_cpy_in (by omega) (by omega)]
    congr 2
    omega
  · rw [if_neg c, pk_cpy_out (by omega)]
theorem rz_n0 {i : Int} (hi : 0 ≤ i ∧ i ≤ 2147483647) : ¬ Int32.ofInt i < 0 := by rw [rz_0, rz_lt (by omega) (by omega)]; omega
def rz_cpW (own : String) (idx : Nat) : Prop := Cond.methodLink own idx arraycopyName ∈ rz_W ∧ Cond.native arraycopyName ∈ rz_W ∧ Cond.static arraycopyName ∈ rz_W ∧ Cond.initialized "java/lang/System" ∈ rz_W
theorem rz_nfw : nativeFrameWords "java/lang/System" "arraycopy" 5 ≤ 16 := by decide +kernel
theorem rz_copyI {Γ : rz_G} {X : rz_X} {rm : Room} {post : Option Value → rz_H → Prop} {K : rz_K} {cells slots pc : Nat} {L : List (Nat × Value)} {st : List Value} {h : rz_H} {a0 a n0 n1 idx : Nat} {t0 t : Nat × Nat} {f g : Int → Int} {sp dp n : Int} (hw : rz_cpW X.2.1 idx) (ha0 : h a0 = some (t0, aI Γ 0 n0 f)) (ht0 : t0.1 ≠ 0) (ha : h a = some (t, aI Γ 0 n1 g)) (ht : t.1 ≠ 0) (h1 : 0 ≤ sp ∧ 0 ≤ dp ∧ 0 ≤ n) (h2 : sp + n ≤ n0 ∧ dp + n ≤ n1) (h3 : sp ≤ 1000000 ∧ dp ≤ 1000000 ∧ n ≤ 1000000) (hfr : 1 ≤ rm.frames) (hlo : (st.map fun v => v.category).sum + 27 ≤ rm.locals) (hd : decode X.1 pc = .ok (.invokestatic idx, 3))
    (kk : Wk Γ X rm post K cells slots (pc + 3) L st (rz_up h a (t, aI Γ 0 n1 (rz_cp f g sp dp n)))) : Wk Γ X rm post K cells slots pc L (vi n :: vi dp :: .ref a :: vi sp :: .ref a0 :: st) h := by
  intro C H locs ls hO hS hl
  have hE := C.2.2.2.2.2.2.2
  have hW := hE.2.2.1
  obtain ⟨ws, hP, hD, hws⟩ := hO
  have hnf := rz_nfw
  rcases hws a t _ ha with ⟨-, p0, hp0⟩ | ⟨h0, -⟩
  · rcases hws a0 t0 _ ha0 with ⟨-, p1, hp1⟩ | ⟨h0, -⟩
    · refine va_copyi C.1 C.2.1 (C.2.2.1.trans hl.1.symm) C.2.2.2.1 (hW _ hw.1 _) (hW _ hw.2.1 _) (hW _ hw.2.2.1 _) (hW _ hw.2.2.2 _) hE.1 hP hD hS p1 p0 0 0 hp1 hp0 rfl rfl rfl (rz_n0 (by omega)) (rz_n0 (by omega)) (rz_n0 (by omega)) (by rw [rz_cl_i (by omega), rz_cl_i (by omega)]; omega) (by rw [rz_cl_i (by omega), rz_cl_i (by omega)]; omega) (fun i _ => rfl) hfr (by omega) hd (fun H1 locs1 hP1 hD1 hS1 => ?_)
      rw [rz_cl_i (by omega), rz_cl_i (by omega), rz_cl_i (by omega), rz_cpy Int32.ofInt h1.1 h1.2.1 h1.2.2] at hP1 hD1
      exact kk C H1 locs1 ls (rz_O.set hws hp0 ht hP1 hD1) hS1 hl
    · exact absurd h0 ht0
  · exact absurd h0 ht
theorem rz_fitb {v : Int} (hv : -128 ≤ v ∧ v ≤ 127) : fits .byte (.int (Int32.ofInt v)) = true := by
  have e := rz_nb hv
  rw [vp_nar_byte] at e
  rw [← e]
  exact pk_fb _
theorem rz_copyB {Γ : rz_G} {X : rz_X} {rm : Room} {post : Option Value → rz_H → Prop} {K : rz_K} {cells slots pc : Nat} {L : List (Nat × Value)} {st : List Value} {h : rz_H} {a0 a n0 n1 idx : Nat} {t0 t : Nat × Nat} {f g : Int → Int} {sp dp n : Int} (hw : rz_cpW X.2.1 idx) (ha0 : h a0 = some (t0, aI Γ 2 n0 f)) (ht0 : t0.1 ≠ 0) (ha : h a = some (t, aI Γ 2 n1 g)) (ht : t.1 ≠ 0) (h1 : 0 ≤ sp ∧ 0 ≤ dp ∧ 0 ≤ n) (h2 : sp + n ≤ n0 ∧ dp + n ≤ n1) (h3 : sp ≤ 1000000 ∧ dp ≤ 1000000 ∧ n ≤ 1000000) (hf : ∀ j, 0 ≤ j → j < n → -128 ≤ f (sp + j) ∧ f (sp + j) ≤ 127) (hfr : 1 ≤ rm.frames) (hlo : (st.map fun v => v.category).sum + 27 ≤ rm.locals) (hd : decode X.1 pc = .ok (.invokestatic idx, 3))
    (kk : Wk Γ X rm post K cells slots (pc + 3) L st (rz_up h a (t, aI Γ 2 n1 (rz_cp f g sp dp n)))) : Wk Γ X rm post K cells slots pc L (vi n :: vi dp :: .ref a :: vi sp :: .ref a0 :: st) h := by
  intro C H locs ls hO hS hl
  have hE := C.2.2.2.2.2.2.2
  have hW := hE.2.2.1
  obtain ⟨ws, hP, hD, hws⟩ := hO
  have hnf := rz_nfw
  rcases hws a t _ ha with ⟨-, p0, hp0⟩ | ⟨h0, -⟩
  · rcases hws a0 t0 _ ha0 with ⟨-, p1, hp1⟩ | ⟨h0, -⟩
    · refine va_copyi C.1 C.2.1 (C.2.2.1.trans hl.1.symm) C.2.2.2.1 (hW _ hw.1 _) (hW _ hw.2.1 _) (hW _ hw.2.2.1 _) (hW _ hw.2.2.2 _) hE.1 hP hD hS p1 p0 2 2 hp1 hp0 rfl rfl rfl (rz_n0 (by omega)) (rz_n0 (by omega)) (rz_n0 (by omega)) (by rw [rz_cl_i (by omega), rz_cl_i (by omega)]; omega) (by rw [rz_cl_i (by omega), rz_cl_i (by omega)]; omega) (fun i hi => ?_) hfr (by omega) hd (fun H1 locs1 hP1 hD1 hS1 => ?_)
      · rw [rz_cl_i (by omega)] at hi; rw [rz_cl_i (by omega)]; exact rz_fitb (by have q := hf i (by omega) (by omega); rw [show sp + (i : Int) = ((sp.toNat + i : Nat) : Int) by omega] at q; exact q)
      · rw [rz_cl_i (by omega), rz_cl_i (by omega), rz_cl_i (by omega), rz_cpy Int32.ofInt h1.1 h1.2.1 h1.2.2] at hP1 hD1
        exact kk C H1 locs1 ls (rz_O.set hws hp0 ht hP1 hD1) hS1 hl
    · exact absurd h0 ht0
  · exact absurd h0 ht
theorem rz_copyQ {Γ : rz_G} {X : rz_X} {rm : Room} {post : Option Value → rz_H → Prop} {K : rz_K} {cells slots pc : Nat} {L : List (Nat × Value)} {st : List Value} {h : rz_H} {a n0 k idx ci : Nat} {t : Nat × Nat} {f : Int → Option Nat} {sp dp n : Int} {q0 : vw_C} {E : String} (hw : rz_cpW X.2.1 idx) (ha : h a = some (t, aR Γ k n0 f)) (ht : t.1 ≠ 0) (hk : (rz_T Γ.2.1)[k]? = some (Γ.2.1 k, .object E)) (hc : rz_cl[ci]? = some q0) (hca : (q0.1, E) ∈ rz_NC) (hel : ∀ j y, 0 ≤ j → j < n → f (sp + j) = some y → ∃ (ty : Nat × Nat) (vs : List Value), h y = some (ty, .inr (ci, vs))) (h1 : 0 ≤ sp ∧ 0 ≤ dp ∧ 0 ≤ n) (h2 : sp + n ≤ n0 ∧ dp + n ≤ n0) (h3 : sp ≤ 1000000 ∧ dp ≤ 1000000 ∧ n ≤ 1000000) (hfr : 1 ≤ rm.frames) (hlo : (st.map fun v => v.category).sum + 27 ≤ rm.locals) (hd : decode X.1 pc = .ok (.invokestatic idx, 3))
    (kk : Wk Γ X rm post K cells slots (pc + 3) L st (rz_up h a (t, aR Γ k n0 (rz_cp f f sp dp n)))) : Wk Γ X rm post K cells slots pc L (vi n :: vi dp :: .ref a :: vi sp :: .ref a :: st) h := by
  intro C H locs ls hO hS hl
  have hO0 := hO
  have hE := C.2.2.2.2.2.2.2
  have hW := hE.2.2.1
  obtain ⟨ws, hP, hD, hws⟩ := hO
  have hnf := rz_nfw
  rcases hws a t _ ha with ⟨-, p0, hp0⟩ | ⟨h0, -⟩
  · refine va_copyq (C := q0.1) C.1 C.2.1 (C.2.2.1.trans hl.1.symm) C.2.2.2.1 (hW _ hw.1 _) (hW _ hw.2.1 _) (hW _ hw.2.2.1 _) (hW _ hw.2.2.2 _) hE.1 hP hD hS p0 p0 k k hp0 hp0 hk hk (rz_n0 (by omega)) (rz_n0 (by omega)) (rz_n0 (by omega)) (by rw [rz_cl_i (by omega), rz_cl_i (by omega)]; omega) (by rw [rz_cl_i (by omega), rz_cl_i (by omega)]; omega) (fun i hi y hy => ?_) (fun comp c0 f1 f2 => ?_) hfr (by omega) hd (fun H1 locs1 hP1 hD1 hS1 => ?_)
    · rw [rz_cl_i (by omega)] at hi hy
      obtain ⟨ty, vs, hy2⟩ := hel i y (by omega) (by omega) (by rw [← hy]; congr 1; omega)
      exact rz_cell hE hO0 hS hy2 hc
    · obtain ⟨c1, t1, g1, g2, g3⟩ := Cond.castable_spec (va_Nw.use (A := #[]) rfl (hE.2.2.2.1.2.2.1 _ hca))
      cases f2.symm.trans g1
      cases f1.symm.trans g2
      exact g3
    · rw [rz_cl_i (by omega), rz_cl_i (by omega), rz_cl_i (by omega), rz_cpy (fun x : Option Nat => x) h1.1 h1.2.1 h1.2.2] at hP1 hD1
      exact kk C H1 locs1 ls (rz_O.set hws hp0 ht hP1 hD1) hS1 hl
  · exact absurd h0 ht
/-- a byte array's clone -/
def rz_clW (own : String) (idx : Nat) : Prop := Cond.methodLink own idx ⟨"[B", "clone", "()Ljava/lang/Object;"⟩ ∈ rz_W ∧ Cond.sameMethod "[B" "java/lang/Object" "clone" "()Ljava/lang/Object;" ∈ rz_W ∧ Cond.native ⟨"java/lang/Object", "clone", "()Ljava/lang/Object;"⟩ ∈ rz_W ∧ Cond.instanceMethod ⟨"java/lang/Object", "clone", "()Ljava/lang/Object;"⟩ ∈ rz_W ∧ Cond.selects "[B" ⟨"[B", "clone", "()Ljava/lang/Object;"⟩ ⟨"java/lang/Object", "clone", "()Ljava/lang/Object;"⟩ ∈ rz_W ∧ ("[B", "java/lang/Cloneable") ∈ rz_NC
theorem rz_cloneB {Γ : rz_G} {X : rz_X} {rm : Room} {post : Option Value → rz_H → Prop} {K : rz_K} {cells slots pc : Nat} {L : List (Nat × Value)} {st : List Value} {h : rz_H} {a n idx : Nat} {t0 : Nat × Nat} {g : Int → Int} (t : Nat × Nat) (htn : t.1 ≠ 0) (hw : rz_clW X.2.1 idx) (ha : h a = some (t0, aI Γ 2 n g)) (ht : t0.1 ≠ 0) (hf : ∀ j, 0 ≤ j → j < (n : Int) → -128 ≤ g j ∧ g j ≤ 127) (hfr : 1 ≤ rm.frames) (hlo : (st.map fun v => v.category).sum + 14 ≤ rm.locals) (hc : cells + 1 ≤ rm.cells ∧ slots + n ≤ rm.slots) (hd : decode X.1 pc = .ok (.invokevirtual idx, 3))
    (kk : ∀ q : Nat, h q = none → Wk Γ X rm post K (cells + 1) (slots + n) (pc + 3) L (.ref q :: st) (rz_up h q (t, aI Γ 2 n g))) : Wk Γ X rm post K cells slots pc L (.ref a :: st) h := by
  intro C H locs ls hO hS hl
  have hE := C.2.2.2.2.2.2.2
  have hW := hE.2.2.1
  obtain ⟨ws, hP, hD, hws⟩ := hO
  rcases hws a t0 _ ha with ⟨-, p0, hp0⟩ | ⟨h0, -⟩
  · refine va_clone (ad := "[B") C.1 C.2.1 (C.2.2.1.trans hl.1.symm) C.2.2.2.1 (hW _ hw.1 _) (hW _ hw.2.1 _) (hW _ hw.2.2.1 _) (hW _ hw.2.2.2.1 _) (hW _ hw.2.2.2.2.1 _) (hE.2.2.2.1.2.2.1 _ hw.2.2.2.2.2) hE.1 hP hD hS (fun q hq => Nat.le_trans hE.2.1 hq) p0 2 hp0 rfl (hE.1.2 2 _ rfl).2 (fun i v hv => ?_) hfr hlo hc.1 hc.2 hd (fun q H1 hK1 hP1 hD1 hS1 => ?_)
    · rw [vp_cell_i] at hv
      simp only [arrV, Array.getElem?_ofFn] at hv
      split at hv
      · cases hv
        exact rz_fitb (hf i (by omega) (by omega))
      · cases hv
    · obtain ⟨hq, hO1⟩ := rz_O.push hE hws htn hP1 hD1
      exact kk q hq C H1 locs ls hO1 hS1 hl
  · exact absurd h0 ht
theorem rz_castB {Γ : rz_G} {X : rz_X} {rm : Room} {post : Option Value → rz_H → Prop} {K : rz_K} {cells slots pc : Nat} {L : List (Nat × Value)} {st : List Value} {h : rz_H} {a n idx : Nat} {t : Nat × Nat} {g : Int → Int} (ha : h a = some (t, aI Γ 2 n g)) (ht : t.1 ≠ 0) (hw : Cond.classLink X.2.1 idx "[B" ∈ rz_W) (hd : decode X.1 pc = .ok (.checkcast idx, 3)) (kk : Wk Γ X rm post K cells slots (pc + 3) L (.ref a :: st) h) : Wk Γ X rm post K cells slots pc L (.ref a :: st) h := by
  intro C H locs ls hO hS hl
  have kk' := kk C H locs ls hO hS hl
  have hE := C.2.2.2.2.2.2.2
  obtain ⟨ws, hP, hD, hws⟩ := hO
  rcases hws a t _ ha with ⟨-, p0, hp0⟩ | ⟨h0, -⟩
  · exact va_castA C.1 C.2.1 C.2.2.2.1 (hE.2.2.1 _ hw _) hP p0 hp0 (hE.1.2 2 _ rfl).2 hd kk'
  · exact absurd h0 ht
/-- a private method of a class above is selected, whatever the receiver -/
def rz_mVP (own : String) (idx : Nat) (y : MethodName) (Xc : rz_X) (n : Nat) : Prop := Cond.methodLink own idx y ∈ rz_W ∧ Cond.instanceMethod y ∈ rz_W ∧ Cond.privateMethod y ∈ rz_W ∧ Cond.sameMethod y.cls y.cls y.name y.desc ∈ rz_W ∧ rz_mB y Xc n
theorem rz_selP {s : State} {args : Array Value} {y : MethodName} {C : String} {c : ClassId} (hC : s.vm.findClass C = some c) (hpriv : (Cond.privateMethod y).before args s = true) (hinst : (Cond.instanceMethod y).before args s = true) (hsame : (Cond.sameMethod y.cls y.cls y.name y.desc).before args s = true) : (Cond.selects C y y).before args s = true := by
  obtain ⟨mk, methM, hnamed, hmethM, -, -⟩ := Cond.instanceMethod_spec hinst
  obtain ⟨c2, ck, r, hc2, hck, hni, hf, hn2⟩ := Cond.sameMethod_found hsame
  cases hnamed.symm.trans hn2
  have hcls : mk.cls = c2 := Option.some.inj ((findClass_of_methodNamed hnamed).symm.trans hc2)
  have hsel : selectMethod {} s.vm c mk = .method mk := selectMethod_private hmethM (Cond.privateMethod_at hpriv mk methM hnamed hmethM)
  simp only [Cond.before, Cond.holds, Cond.value, hC, hf, hnamed, hsel, hcls, hck]
  simp
  exact hni
theorem rz_callVP {Γ : rz_G} {X : rz_X} {rm : Room} {post : Option Value → rz_H → Prop} {K : rz_K} {cells slots pc : Nat} {L : List (Nat × Value)} {st : List Value} {h : rz_H} {Xc : rz_X} {y : MethodName} {rmc : Room} {post' : Option Value → rz_H → Prop} {idx n : Nat} {st0 : List Value} {Cn : String} {As : List Value} {b ci : Nat} {tb : Nat × Nat} {fs : List Value} {q0 : vw_C} (hM : Ct K.1 Γ Xc y rmc (.ref b :: As) h post') (hm : rz_mVP X.2.1 idx y Xc n) (ha : h b = some (tb, .inr (ci, fs))) (hc : rz_cl[ci]? = some q0) (hC : q0.1 = Cn) (hn : As.length = n) (hst : st0 = As.reverse ++ .ref b :: st) (hcat : (st.map fun v => v.category).sum ≤ 8) (hR : rmc.frames + 1 ≤ rm.frames ∧ 8 + (Xc.2.2.1 + 11) + rmc.locals ≤ rm.locals) (hf : cells + rmc.cells ≤ rm.cells ∧ slots + rmc.slots ≤ rm.slots) (hd : decode X.1 pc = .ok (.invokevirtual idx, 3))
    (kk : ∀ (v : Option Value) (h' : rz_H), post' v h' → Wk Γ X rm post K (cells + rmc.cells) (slots + rmc.slots) (pc + 3) L (v.toList ++ st) h') : Wk Γ X rm post K cells slots pc L st0 h := by
  obtain ⟨hlink, hin, hpr, hsa, hini, hcd, hmh, hdl⟩ := hm
  subst hC
  intro C H locs ls hO hS hl
  have C0 := C
  obtain ⟨hx, hb, hml, hown, hr, hlk, hnm, hE⟩ := C
  have hW := hE.2.2.1
  have hcw := hW _ hcd K.2.2.2.2.2.1
  have hws : ∀ w ∈ [Cond.code y Xc.1 Xc.2.2.1 Xc.2.2.2.1], ∀ (a' : Array Value) (U : State), K.2.2.2.1.WarmedH U.vm → w.before a' U = true := fun w hw a' U hWm => by
    rw [List.mem_singleton.mp hw]
    exact word_at hWm (rz_good _ hcd) hcw
  have hcell := rz_cell hE hO hS ha hc
  have hp : PreV K.2.2.2.1 H q0.1 b (va_Pc (.ref b :: As) (fun U => rz_E Γ U ∧ rz_O Γ h U.heap)) As := ⟨rz_blind, hcell, rz_pre hE hO hS⟩
  refine rz_go (a := (Value.ref b :: As).toArray) C0 hl ?_ hS kk
  obtain ⟨cellB, hcB, hoB, hclB⟩ := hcell
  exact va_runV (Ts := rz_W) ⟨hx, hb, hml, hown, fun w hw => hW w hw _⟩ hM ⟨⟨rfl, rfl, hR.1, hR.2, hws, List.mem_singleton.mpr rfl, hcw, hW _ hini _, hmh, rz_len hdl, hW _ hlink _⟩, hW _ hin _, rz_selP hclB (hW _ hpr _) (hW _ hin _) (hW _ hsa _)⟩ hp rfl hn hl.1 hst (lv_room hcat) hd hf
/-- a method that a class above declares, and the receiver's class has its own -/
def rz_mU (own : String) (idx : Nat) (C : String) (x : MethodName) (Xx : rz_X) (y : MethodName) (Xc : rz_X) (n : Nat) : Prop := Cond.methodLink own idx x ∈ rz_W ∧ Cond.sameMethod x.cls x.cls x.name x.desc ∈ rz_W ∧ Cond.instanceMethod x ∈ rz_W ∧ Cond.code x Xx.1 Xx.2.2.1 Xx.2.2.2.1 ∈ rz_W ∧ (x.cls ≠ "java/lang/invoke/MethodHandle" ∧ x.cls ≠ "java/lang/invoke/VarHandle") ∧ (parseMethodDescriptor x.desc).map (fun d => d.parameters.length) = some n ∧ Cond.selects C x y ∈ rz_W ∧ Cond.instanceMethod y ∈ rz_W ∧ rz_mB y Xc n
theorem rz_callU {Γ : rz_G} {X : rz_X} {rm : Room} {post : Option Value → rz_H → Prop} {K : rz_K} {cells slots pc : Nat} {L : List (Nat × Value)} {st : List Value} {h : rz_H} {x : MethodName} {Xx : rz_X} {Xc : rz_X} {y : MethodName} {rmc : Room} {post' : Option Value → rz_H → Prop} {idx n : Nat} {st0 : List Value} {Cn : String} {As : List Value} {b ci : Nat} {tb : Nat × Nat} {fs : List Value} {q0 : vw_C} (hM : Ct K.1 Γ Xc y rmc (.ref b :: As) h post') (hm : rz_mU X.2.1 idx Cn x Xx y Xc n) (ha : h b = some (tb, .inr (ci, fs))) (hc : rz_cl[ci]? = some q0) (hC : q0.1 = Cn) (hn : As.length = n) (hst : st0 = As.reverse ++ .ref b :: st) (hcat : (st.map fun v => v.category).sum ≤ 8) (hR : rmc.frames + 1 ≤ rm.frames ∧ 8 + (Xc.2.2.1 + 11) + rmc.locals ≤ rm.locals) (hf : cells + rmc.cells ≤ rm.cells ∧ slots + rmc.slots ≤ rm.slots) (hd : decode X.1 pc = .ok (.invokevirtual idx, 3))
    (kk : ∀ (v : Option Value) (h' : rz_H), post' v h' → Wk Γ X rm post K (cells + rmc.cells) (slots + rmc.slots) (pc + 3) L (v.toList ++ st) h') : Wk Γ X rm post K cells slots pc L st0 h := by
  obtain ⟨hlink, hsa, hix, hcx, hxm, hxl, hse, hin, hini, hcd, hmh, hdl⟩ := hm
  subst hC
  intro C H locs ls hO hS hl
  have C0 := C
  obtain ⟨hx, hb, hml, hown, hr, hlk, hnm, hE⟩ := C
  have hW := hE.2.2.1
  have hcw := hW _ hcd K.2.2.2.2.2.1
  have hws : ∀ w ∈ [Cond.code y Xc.1 Xc.2.2.1 Xc.2.2.2.1], ∀ (a' : Array Value) (U : State), K.2.2.2.1.WarmedH U.vm → w.before a' U = true := fun w hw a' U hWm => by
    rw [List.mem_singleton.mp hw]
    exact word_at hWm (rz_good _ hcd) hcw
  have hcell := rz_cell hE hO hS ha hc
  have hp : PreV K.2.2.2.1 H q0.1 b (va_Pc (.ref b :: As) (fun U => rz_E Γ U ∧ rz_O Γ h U.heap)) As := ⟨rz_blind, hcell, rz_pre hE hO hS⟩
  refine rz_go (a := (Value.ref b :: As).toArray) C0 hl ?_ hS kk
  exact va_runU (Ts := rz_W) (owner := x.cls) ⟨hx, hb, hml, hown, fun w hw => hW w hw _⟩ hM ⟨⟨rfl, rfl, hR.1, hR.2, hws, List.mem_singleton.mpr rfl⟩, hcw, hW _ hini _, hxm, rz_len hxl, hW _ hlink _, hW _ hsa _, va_Decl.of (hW _ hix K.2.2.2.2.2.1) (hW _ hcx _), hW _ hse _, hW _ hin _⟩ hp rfl hn hl.1 hst (lv_room hcat) hd hf
/-- the method of the class above, by super -/
def rz_mSU (own : String) (idx : Nat) (y : MethodName) (Xc : rz_X) (n : Nat) : Prop := Cond.methodLink own idx y ∈ rz_W ∧ Cond.sameMethod y.cls y.cls y.name y.desc ∈ rz_W ∧ Cond.superclass own y.cls ∈ rz_W ∧ Cond.instanceMethod y ∈ rz_W ∧ y.name ≠ "<init>" ∧ rz_mB y Xc n
theorem rz_callSU {Γ : rz_G} {X : rz_X} {rm : Room} {post : Option Value → rz_H → Prop} {K : rz_K} {cells slots pc : Nat} {L : List (Nat × Value)} {st : List Value} {h : rz_H} {Xc : rz_X} {y : MethodName} {rmc : Room} {post' : Option Value → rz_H → Prop} {idx n : Nat} {st0 : List Value} {Cn : String} {As : List Value} {b ci : Nat} {tb : Nat × Nat} {fs : List Value} {q0 : vw_C} (hM : Ct K.1 Γ Xc y rmc (.ref b :: As) h post') (hm : rz_mSU X.2.1 idx y Xc n) (ha : h b = some (tb, .inr (ci, fs))) (hc : rz_cl[ci]? = some q0) (hC : q0.1 = Cn) (hn : As.length = n) (hst : st0 = As.reverse ++ .ref b :: st) (hcat : (st.map fun v => v.category).sum ≤ 8) (hR : rmc.frames + 1 ≤ rm.frames ∧ 8 + (Xc.2.2.1 + 11) + rmc.locals ≤ rm.locals) (hf : cells + rmc.cells ≤ rm.cells ∧ slots + rmc.slots ≤ rm.slots) (hd : decode X.1 pc = .ok (.invokespecial idx, 3))
    (kk : ∀ (v : Option Value) (h' : rz_H), post' v h' → Wk Γ X rm post K (cells + rmc.cells) (slots + rmc.slots) (pc + 3) L (v.toList ++ st) h') : Wk Γ X rm post K cells slots pc L st0 h := by
  obtain ⟨hlink, hsa, hsu, hin, hni, hini, hcd, hmh, hdl⟩ := hm
  subst hC
  intro C H locs ls hO hS hl
  have C0 := C
  obtain ⟨hx, hb, hml, hown, hr, hlk, hnm, hE⟩ := C
  have hW := hE.2.2.1
  have hcw := hW _ hcd K.2.2.2.2.2.1
  have hws : ∀ w ∈ [Cond.code y Xc.1 Xc.2.2.1 Xc.2.2.2.1], ∀ (a' : Array Value) (U : State), K.2.2.2.1.WarmedH U.vm → w.before a' U = true := fun w hw a' U hWm => by
    rw [List.mem_singleton.mp hw]
    exact word_at hWm (rz_good _ hcd) hcw
  have hcell := rz_cell hE hO hS ha hc
  have hp : PreV K.2.2.2.1 H q0.1 b (va_Pc (.ref b :: As) (fun U => rz_E Γ U ∧ rz_O Γ h U.heap)) As := ⟨rz_blind, hcell, rz_pre hE hO hS⟩
  refine rz_go (a := (Value.ref b :: As).toArray) C0 hl ?_ hS kk
  exact va_runSU (Ts := rz_W) (hE.1.1 ci q0 hc).2 ⟨hx, hb, hml, hown, fun w hw => hW w hw _⟩ hM ⟨⟨rfl, rfl, hR.1, hR.2, hws, List.mem_singleton.mpr rfl⟩, hW _ hlink _, hW _ hsa _, hW _ hsu _, hW _ hin _, hW _ hini _, hcw, hni, rz_len hdl⟩ hp rfl hn hl.1 hst (lv_room hcat) hd hf
end
