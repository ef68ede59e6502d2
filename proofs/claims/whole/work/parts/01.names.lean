/-- a private method of a class that the tables say can be made, by its rows of tables_1 -/
def lw_okq (q : MethodName × Nat) : Prop := (q.1.cls ≠ "java/lang/invoke/MethodHandle" ∧ q.1.cls ≠ "java/lang/invoke/VarHandle") ∧ Cond.instantiable q.1.cls q.2 ∈ tables_1 ∧ Cond.privateMethod q.1 ∈ tables_1 ∧ Cond.instanceMethod q.1 ∈ tables_1
theorem lw_p0 : lw_okq (⟨"DampLikeness$Reader", "peek", "()I"⟩, 7) := ⟨⟨by decide +kernel, by decide +kernel⟩, List.mem_of_getElem? (i := 25) (by decide +kernel), List.mem_of_getElem? (i := 349) (by decide +kernel), List.mem_of_getElem? (i := 350) (by decide +kernel)⟩
theorem lw_p1 : lw_okq (⟨"DampLikeness$Reader", "readClause", "(LDampLikeness$Plan;)V"⟩, 7) := ⟨⟨by decide +kernel, by decide +kernel⟩, List.mem_of_getElem? (i := 25) (by decide +kernel), List.mem_of_getElem? (i := 356) (by decide +kernel), List.mem_of_getElem? (i := 357) (by decide +kernel)⟩
theorem lw_p2 : lw_okq (⟨"DampLikeness$Reader", "fail", "(II)V"⟩, 7) := ⟨⟨by decide +kernel, by decide +kernel⟩, List.mem_of_getElem? (i := 25) (by decide +kernel), List.mem_of_getElem? (i := 360) (by decide +kernel), List.mem_of_getElem? (i := 361) (by decide +kernel)⟩
theorem lw_p3 : lw_okq (⟨"DampLikeness$Reader", "readSize", "(LDampLikeness$Plan;)V"⟩, 7) := ⟨⟨by decide +kernel, by decide +kernel⟩, List.mem_of_getElem? (i := 25) (by decide +kernel), List.mem_of_getElem? (i := 364) (by decide +kernel), List.mem_of_getElem? (i := 365) (by decide +kernel)⟩
theorem lw_p4 : lw_okq (⟨"DampLikeness$Reader", "takeWord", "(Z)V"⟩, 7) := ⟨⟨by decide +kernel, by decide +kernel⟩, List.mem_of_getElem? (i := 25) (by decide +kernel), List.mem_of_getElem? (i := 368) (by decide +kernel), List.mem_of_getElem? (i := 369) (by decide +kernel)⟩
theorem lw_p5 : lw_okq (⟨"DampLikeness$Reader", "takeNumber", "(II)I"⟩, 7) := ⟨⟨by decide +kernel, by decide +kernel⟩, List.mem_of_getElem? (i := 25) (by decide +kernel), List.mem_of_getElem? (i := 372) (by decide +kernel), List.mem_of_getElem? (i := 373) (by decide +kernel)⟩
theorem lw_p6 : lw_okq (⟨"DampLikeness$Reader", "takeSign", "(I)Z"⟩, 7) := ⟨⟨by decide +kernel, by decide +kernel⟩, List.mem_of_getElem? (i := 25) (by decide +kernel), List.mem_of_getElem? (i := 380) (by decide +kernel), List.mem_of_getElem? (i := 381) (by decide +kernel)⟩
theorem lw_p7 : lw_okq (⟨"DampLikeness$Reader", "readLeak", "(LDampLikeness$Plan;)V"⟩, 7) := ⟨⟨by decide +kernel, by decide +kernel⟩, List.mem_of_getElem? (i := 25) (by decide +kernel), List.mem_of_getElem? (i := 385) (by decide +kernel), List.mem_of_getElem? (i := 386) (by decide +kernel)⟩
theorem lw_p8 : lw_okq (⟨"DampLikeness$Reader", "readCrack", "(LDampLikeness$Plan;)V"⟩, 7) := ⟨⟨by decide +kernel, by decide +kernel⟩, List.mem_of_getElem? (i := 25) (by decide +kernel), List.mem_of_getElem? (i := 398) (by decide +kernel), List.mem_of_getElem? (i := 399) (by decide +kernel)⟩
theorem lw_p9 : lw_okq (⟨"DampLikeness$Reader", "readFace", "(LDampLikeness$Plan;)V"⟩, 7) := ⟨⟨by decide +kernel, by decide +kernel⟩, List.mem_of_getElem? (i := 25) (by decide +kernel), List.mem_of_getElem? (i := 424) (by decide +kernel), List.mem_of_getElem? (i := 425) (by decide +kernel)⟩
theorem lw_p10 : lw_okq (⟨"DampLikeness$Reader", "readWind", "(LDampLikeness$Plan;)V"⟩, 7) := ⟨⟨by decide +kernel, by decide +kernel⟩, List.mem_of_getElem? (i := 25) (by decide +kernel), List.mem_of_getElem? (i := 432) (by decide +kernel), List.mem_of_getElem? (i := 433) (by decide +kernel)⟩
theorem lw_p11 : lw_okq (⟨"DampLikeness", "noWall", "()Z"⟩, 10) := ⟨⟨by decide +kernel, by decide +kernel⟩, List.mem_of_getElem? (i := 17) (by decide +kernel), List.mem_of_getElem? (i := 546) (by decide +kernel), List.mem_of_getElem? (i := 547) (by decide +kernel)⟩
theorem lw_p12 : lw_okq (⟨"DampLikeness$Flow", "runDownAndByWind", "(LDampLikeness$Plan;LDampLikeness$Damp;)V"⟩, 2) := ⟨⟨by decide +kernel, by decide +kernel⟩, List.mem_of_getElem? (i := 98) (by decide +kernel), List.mem_of_getElem? (i := 576) (by decide +kernel), List.mem_of_getElem? (i := 577) (by decide +kernel)⟩
theorem lw_p13 : lw_okq (⟨"DampLikeness$Flow", "give", "(LDampLikeness$Damp;II)V"⟩, 2) := ⟨⟨by decide +kernel, by decide +kernel⟩, List.mem_of_getElem? (i := 98) (by decide +kernel), List.mem_of_getElem? (i := 584) (by decide +kernel), List.mem_of_getElem? (i := 585) (by decide +kernel)⟩
theorem lw_p14 : lw_okq (⟨"DampLikeness$Flow", "runByCracks", "(LDampLikeness$Plan;LDampLikeness$Damp;)V"⟩, 2) := ⟨⟨by decide +kernel, by decide +kernel⟩, List.mem_of_getElem? (i := 98) (by decide +kernel), List.mem_of_getElem? (i := 592) (by decide +kernel), List.mem_of_getElem? (i := 593) (by decide +kernel)⟩
theorem lw_p15 : lw_okq (⟨"DampLikeness$Flow", "settle", "(LDampLikeness$Damp;I)V"⟩, 2) := ⟨⟨by decide +kernel, by decide +kernel⟩, List.mem_of_getElem? (i := 98) (by decide +kernel), List.mem_of_getElem? (i := 597) (by decide +kernel), List.mem_of_getElem? (i := 598) (by decide +kernel)⟩
def lw_privs_1 : List (MethodName × Nat) := [(⟨"DampLikeness$Reader", "peek", "()I"⟩, 7), (⟨"DampLikeness$Reader", "readClause", "(LDampLikeness$Plan;)V"⟩, 7), (⟨"DampLikeness$Reader", "fail", "(II)V"⟩, 7), (⟨"DampLikeness$Reader", "readSize", "(LDampLikeness$Plan;)V"⟩, 7), (⟨"DampLikeness$Reader", "takeWord", "(Z)V"⟩, 7), (⟨"DampLikeness$Reader", "takeNumber", "(II)I"⟩, 7), (⟨"DampLikeness$Reader", "takeSign", "(I)Z"⟩, 7), (⟨"DampLikeness$Reader", "readLeak", "(LDampLikeness$Plan;)V"⟩, 7), (⟨"DampLikeness$Reader", "readCrack", "(LDampLikeness$Plan;)V"⟩, 7), (⟨"DampLikeness$Reader", "readFace", "(LDampLikeness$Plan;)V"⟩, 7), (⟨"DampLikeness$Reader", "readWind", "(LDampLikeness$Plan;)V"⟩, 7), (⟨"DampLikeness", "noWall", "()Z"⟩, 10), (⟨"DampLikeness$Flow", "runDownAndByWind", "(LDampLikeness$Plan;LDampLikeness$Damp;)V"⟩, 2), (⟨"DampLikeness$Flow", "give", "(LDampLikeness$Damp;II)V"⟩, 2), (⟨"DampLikeness$Flow", "runByCracks", "(LDampLikeness$Plan;LDampLikeness$Damp;)V"⟩, 2), (⟨"DampLikeness$Flow", "settle", "(LDampLikeness$Damp;I)V"⟩, 2)]
theorem lw_r1 : ∀ q ∈ lw_privs_1, lw_okq q := List.forall_mem_cons.mpr ⟨lw_p0, List.forall_mem_cons.mpr ⟨lw_p1, List.forall_mem_cons.mpr ⟨lw_p2, List.forall_mem_cons.mpr ⟨lw_p3, List.forall_mem_cons.mpr ⟨lw_p4, List.forall_mem_cons.mpr ⟨lw_p5, List.forall_mem_cons.mpr ⟨lw_p6, List.forall_mem_cons.mpr ⟨lw_p7, List.forall_mem_cons.mpr ⟨lw_p8, List.forall_mem_cons.mpr ⟨lw_p9, List.forall_mem_cons.mpr ⟨lw_p10, List.forall_mem_cons.mpr ⟨lw_p11, List.forall_mem_cons.mpr ⟨lw_p12, List.forall_mem_cons.mpr ⟨lw_p13, List.forall_mem_cons.mpr ⟨lw_p14, List.forall_mem_cons.mpr ⟨lw_p15, fun _ h => absurd h List.not_mem_nil⟩⟩⟩⟩⟩⟩⟩⟩⟩⟩⟩⟩⟩⟩⟩⟩
theorem lw_p16 : lw_okq (⟨"DampLikeness", "driftOneDay", "()V"⟩, 10) := ⟨⟨by decide +kernel, by decide +kernel⟩, List.mem_of_getElem? (i := 17) (by decide +kernel), List.mem_of_getElem? (i := 640) (by decide +kernel), List.mem_of_getElem? (i := 641) (by decide +kernel)⟩
theorem lw_p17 : lw_okq (⟨"DampLikeness$Trial", "weigh", "(LDampLikeness$Damp;I)V"⟩, 8) := ⟨⟨by decide +kernel, by decide +kernel⟩, List.mem_of_getElem? (i := 111) (by decide +kernel), List.mem_of_getElem? (i := 703) (by decide +kernel), List.mem_of_getElem? (i := 704) (by decide +kernel)⟩
theorem lw_p18 : lw_okq (⟨"DampLikenessModel", "here", "()I"⟩, 40) := ⟨⟨by decide +kernel, by decide +kernel⟩, List.mem_of_getElem? (i := 782) (by decide +kernel), List.mem_of_getElem? (i := 924) (by decide +kernel), List.mem_of_getElem? (i := 925) (by decide +kernel)⟩
theorem lw_p19 : lw_okq (⟨"DampLikenessModel", "takeClause", "()I"⟩, 40) := ⟨⟨by decide +kernel, by decide +kernel⟩, List.mem_of_getElem? (i := 782) (by decide +kernel), List.mem_of_getElem? (i := 928) (by decide +kernel), List.mem_of_getElem? (i := 929) (by decide +kernel)⟩
theorem lw_p20 : lw_okq (⟨"DampLikenessModel", "fails", "(II)I"⟩, 40) := ⟨⟨by decide +kernel, by decide +kernel⟩, List.mem_of_getElem? (i := 782) (by decide +kernel), List.mem_of_getElem? (i := 932) (by decide +kernel), List.mem_of_getElem? (i := 933) (by decide +kernel)⟩
theorem lw_p21 : lw_okq (⟨"DampLikenessModel", "isFull", "(I)Z"⟩, 40) := ⟨⟨by decide +kernel, by decide +kernel⟩, List.mem_of_getElem? (i := 782) (by decide +kernel), List.mem_of_getElem? (i := 936) (by decide +kernel), List.mem_of_getElem? (i := 937) (by decide +kernel)⟩
theorem lw_p22 : lw_okq (⟨"DampLikenessModel", "takeBody", "(I)I"⟩, 40) := ⟨⟨by decide +kernel, by decide +kernel⟩, List.mem_of_getElem? (i := 782) (by decide +kernel), List.mem_of_getElem? (i := 940) (by decide +kernel), List.mem_of_getElem? (i := 941) (by decide +kernel)⟩
theorem lw_p23 : lw_okq (⟨"DampLikenessModel", "takeWall", "()I"⟩, 40) := ⟨⟨by decide +kernel, by decide +kernel⟩, List.mem_of_getElem? (i := 782) (by decide +kernel), List.mem_of_getElem? (i := 944) (by decide +kernel), List.mem_of_getElem? (i := 945) (by decide +kernel)⟩
theorem lw_p24 : lw_okq (⟨"DampLikenessModel", "takeNumber", "(II)I"⟩, 40) := ⟨⟨by decide +kernel, by decide +kernel⟩, List.mem_of_getElem? (i := 782) (by decide +kernel), List.mem_of_getElem? (i := 948) (by decide +kernel), List.mem_of_getElem? (i := 949) (by decide +kernel)⟩
theorem lw_p25 : lw_okq (⟨"DampLikenessModel", "takeLeak", "()I"⟩, 40) := ⟨⟨by decide +kernel, by decide +kernel⟩, List.mem_of_getElem? (i := 782) (by decide +kernel), List.mem_of_getElem? (i := 954) (by decide +kernel), List.mem_of_getElem? (i := 955) (by decide +kernel)⟩
theorem lw_p26 : lw_okq (⟨"DampLikenessModel", "readCells", "()I"⟩, 40) := ⟨⟨by decide +kernel, by decide +kernel⟩, List.mem_of_getElem? (i := 782) (by decide +kernel), List.mem_of_getElem? (i := 958) (by decide +kernel), List.mem_of_getElem? (i := 959) (by decide +kernel)⟩
theorem lw_p27 : lw_okq (⟨"DampLikenessModel", "into", "([IIII)I"⟩, 40) := ⟨⟨by decide +kernel, by decide +kernel⟩, List.mem_of_getElem? (i := 782) (by decide +kernel), List.mem_of_getElem? (i := 962) (by decide +kernel), List.mem_of_getElem? (i := 963) (by decide +kernel)⟩
theorem lw_p28 : lw_okq (⟨"DampLikenessModel", "takeCrack", "()I"⟩, 40) := ⟨⟨by decide +kernel, by decide +kernel⟩, List.mem_of_getElem? (i := 782) (by decide +kernel), List.mem_of_getElem? (i := 966) (by decide +kernel), List.mem_of_getElem? (i := 967) (by decide +kernel)⟩
theorem lw_p29 : lw_okq (⟨"DampLikenessModel", "isTold", "(II)Z"⟩, 40) := ⟨⟨by decide +kernel, by decide +kernel⟩, List.mem_of_getElem? (i := 782) (by decide +kernel), List.mem_of_getElem? (i := 973) (by decide +kernel), List.mem_of_getElem? (i := 974) (by decide +kernel)⟩
theorem lw_p30 : lw_okq (⟨"DampLikenessModel", "takeLike", "()I"⟩, 40) := ⟨⟨by decide +kernel, by decide +kernel⟩, List.mem_of_getElem? (i := 782) (by decide +kernel), List.mem_of_getElem? (i := 977) (by decide +kernel), List.mem_of_getElem? (i := 978) (by decide +kernel)⟩
theorem lw_p31 : lw_okq (⟨"DampLikenessModel", "takeWind", "()I"⟩, 40) := ⟨⟨by decide +kernel, by decide +kernel⟩, List.mem_of_getElem? (i := 782) (by decide +kernel), List.mem_of_getElem? (i := 981) (by decide +kernel), List.mem_of_getElem? (i := 982) (by decide +kernel)⟩
def lw_privs_2 : List (MethodName × Nat) := [(⟨"DampLikeness", "driftOneDay", "()V"⟩, 10), (⟨"DampLikeness$Trial", "weigh", "(LDampLikeness$Damp;I)V"⟩, 8), (⟨"DampLikenessModel", "here", "()I"⟩, 40), (⟨"DampLikenessModel", "takeClause", "()I"⟩, 40), (⟨"DampLikenessModel", "fails", "(II)I"⟩, 40), (⟨"DampLikenessModel", "isFull", "(I)Z"⟩, 40), (⟨"DampLikenessModel", "takeBody", "(I)I"⟩, 40), (⟨"DampLikenessModel", "takeWall", "()I"⟩, 40), (⟨"DampLikenessModel", "takeNumber", "(II)I"⟩, 40), (⟨"DampLikenessModel", "takeLeak", "()I"⟩, 40), (⟨"DampLikenessModel", "readCells", "()I"⟩, 40), (⟨"DampLikenessModel", "into", "([IIII)I"⟩, 40), (⟨"DampLikenessModel", "takeCrack", "()I"⟩, 40), (⟨"DampLikenessModel", "isTold", "(II)Z"⟩, 40), (⟨"DampLikenessModel", "takeLike", "()I"⟩, 40), (⟨"DampLikenessModel", "takeWind", "()I"⟩, 40)]
theorem lw_r2 : ∀ q ∈ lw_privs_2, lw_okq q := List.forall_mem_cons.mpr ⟨lw_p16, List.forall_mem_cons.mpr ⟨lw_p17, List.forall_mem_cons.mpr ⟨lw_p18, List.forall_mem_cons.mpr ⟨lw_p19, List.forall_mem_cons.mpr ⟨lw_p20, List.forall_mem_cons.mpr ⟨lw_p21, List.forall_mem_cons.mpr ⟨lw_p22, List.forall_mem_cons.mpr ⟨lw_p23, List.forall_mem_cons.mpr ⟨lw_p24, List.forall_mem_cons.mpr ⟨lw_p25, List.forall_mem_cons.mpr ⟨lw_p26, List.forall_mem_cons.mpr ⟨lw_p27, List.forall_mem_cons.mpr ⟨lw_p28, List.forall_mem_cons.mpr ⟨lw_p29, List.forall_mem_cons.mpr ⟨lw_p30, List.forall_mem_cons.mpr ⟨lw_p31, fun _ h => absurd h List.not_mem_nil⟩⟩⟩⟩⟩⟩⟩⟩⟩⟩⟩⟩⟩⟩⟩⟩
theorem lw_p32 : lw_okq (⟨"DampLikenessModel", "takeRead", "()V"⟩, 40) := ⟨⟨by decide +kernel, by decide +kernel⟩, List.mem_of_getElem? (i := 782) (by decide +kernel), List.mem_of_getElem? (i := 985) (by decide +kernel), List.mem_of_getElem? (i := 986) (by decide +kernel)⟩
theorem lw_p33 : lw_okq (⟨"DampLikenessModel", "cells", "()I"⟩, 40) := ⟨⟨by decide +kernel, by decide +kernel⟩, List.mem_of_getElem? (i := 782) (by decide +kernel), List.mem_of_getElem? (i := 992) (by decide +kernel), List.mem_of_getElem? (i := 993) (by decide +kernel)⟩
theorem lw_p34 : lw_okq (⟨"DampLikenessModel", "shows", "()I"⟩, 40) := ⟨⟨by decide +kernel, by decide +kernel⟩, List.mem_of_getElem? (i := 782) (by decide +kernel), List.mem_of_getElem? (i := 1004) (by decide +kernel), List.mem_of_getElem? (i := 1005) (by decide +kernel)⟩
theorem lw_p35 : lw_okq (⟨"DampLikenessModel", "allWet", "()I"⟩, 40) := ⟨⟨by decide +kernel, by decide +kernel⟩, List.mem_of_getElem? (i := 782) (by decide +kernel), List.mem_of_getElem? (i := 1008) (by decide +kernel), List.mem_of_getElem? (i := 1009) (by decide +kernel)⟩
theorem lw_p36 : lw_okq (⟨"DampLikenessModel", "whom", "()I"⟩, 40) := ⟨⟨by decide +kernel, by decide +kernel⟩, List.mem_of_getElem? (i := 782) (by decide +kernel), List.mem_of_getElem? (i := 1012) (by decide +kernel), List.mem_of_getElem? (i := 1013) (by decide +kernel)⟩
theorem lw_p37 : lw_okq (⟨"DampLikenessModel", "likeOf", "(I)I"⟩, 40) := ⟨⟨by decide +kernel, by decide +kernel⟩, List.mem_of_getElem? (i := 782) (by decide +kernel), List.mem_of_getElem? (i := 1016) (by decide +kernel), List.mem_of_getElem? (i := 1017) (by decide +kernel)⟩
theorem lw_p38 : lw_okq (⟨"DampLikenessModel", "mayBe", "()I"⟩, 40) := ⟨⟨by decide +kernel, by decide +kernel⟩, List.mem_of_getElem? (i := 782) (by decide +kernel), List.mem_of_getElem? (i := 1023) (by decide +kernel), List.mem_of_getElem? (i := 1024) (by decide +kernel)⟩
theorem lw_p39 : lw_okq (⟨"DampLikenessModel", "groups", "(Z)I"⟩, 40) := ⟨⟨by decide +kernel, by decide +kernel⟩, List.mem_of_getElem? (i := 782) (by decide +kernel), List.mem_of_getElem? (i := 1027) (by decide +kernel), List.mem_of_getElem? (i := 1028) (by decide +kernel)⟩
theorem lw_p40 : lw_okq (⟨"DampLikenessModel", "groupOf", "(I)I"⟩, 40) := ⟨⟨by decide +kernel, by decide +kernel⟩, List.mem_of_getElem? (i := 782) (by decide +kernel), List.mem_of_getElem? (i := 1034) (by decide +kernel), List.mem_of_getElem? (i := 1035) (by decide +kernel)⟩
theorem lw_p41 : lw_okq (⟨"DampLikenessModel", "around", "(I)I"⟩, 40) := ⟨⟨by decide +kernel, by decide +kernel⟩, List.mem_of_getElem? (i := 782) (by decide +kernel), List.mem_of_getElem? (i := 1038) (by decide +kernel), List.mem_of_getElem? (i := 1039) (by decide +kernel)⟩
theorem lw_p42 : lw_okq (⟨"DampLikenessModel", "border", "()I"⟩, 40) := ⟨⟨by decide +kernel, by decide +kernel⟩, List.mem_of_getElem? (i := 782) (by decide +kernel), List.mem_of_getElem? (i := 1042) (by decide +kernel), List.mem_of_getElem? (i := 1043) (by decide +kernel)⟩
theorem lw_p43 : lw_okq (⟨"DampLikenessModel", "fullest", "()I"⟩, 40) := ⟨⟨by decide +kernel, by decide +kernel⟩, List.mem_of_getElem? (i := 782) (by decide +kernel), List.mem_of_getElem? (i := 1046) (by decide +kernel), List.mem_of_getElem? (i := 1047) (by decide +kernel)⟩
theorem lw_p44 : lw_okq (⟨"DampLikenessModel", "isCell", "(I)Z"⟩, 40) := ⟨⟨by decide +kernel, by decide +kernel⟩, List.mem_of_getElem? (i := 782) (by decide +kernel), List.mem_of_getElem? (i := 1054) (by decide +kernel), List.mem_of_getElem? (i := 1055) (by decide +kernel)⟩
theorem lw_p45 : lw_okq (⟨"DampLikenessModel", "isLeak", "(I)Z"⟩, 40) := ⟨⟨by decide +kernel, by decide +kernel⟩, List.mem_of_getElem? (i := 782) (by decide +kernel), List.mem_of_getElem? (i := 1063) (by decide +kernel), List.mem_of_getElem? (i := 1064) (by decide +kernel)⟩
theorem lw_p46 : lw_okq (⟨"DampLikenessModel", "isCrack", "(I)Z"⟩, 40) := ⟨⟨by decide +kernel, by decide +kernel⟩, List.mem_of_getElem? (i := 782) (by decide +kernel), List.mem_of_getElem? (i := 1071) (by decide +kernel), List.mem_of_getElem? (i := 1072) (by decide +kernel)⟩
theorem lw_p47 : lw_okq (⟨"DampLikenessModel", "isLike", "(I)Z"⟩, 40) := ⟨⟨by decide +kernel, by decide +kernel⟩, List.mem_of_getElem? (i := 782) (by decide +kernel), List.mem_of_getElem? (i := 1079) (by decide +kernel), List.mem_of_getElem? (i := 1080) (by decide +kernel)⟩
def lw_privs_3 : List (MethodName × Nat) := [(⟨"DampLikenessModel", "takeRead", "()V"⟩, 40), (⟨"DampLikenessModel", "cells", "()I"⟩, 40), (⟨"DampLikenessModel", "shows", "()I"⟩, 40), (⟨"DampLikenessModel", "allWet", "()I"⟩, 40), (⟨"DampLikenessModel", "whom", "()I"⟩, 40), (⟨"DampLikenessModel", "likeOf", "(I)I"⟩, 40), (⟨"DampLikenessModel", "mayBe", "()I"⟩, 40), (⟨"DampLikenessModel", "groups", "(Z)I"⟩, 40), (⟨"DampLikenessModel", "groupOf", "(I)I"⟩, 40), (⟨"DampLikenessModel", "around", "(I)I"⟩, 40), (⟨"DampLikenessModel", "border", "()I"⟩, 40), (⟨"DampLikenessModel", "fullest", "()I"⟩, 40), (⟨"DampLikenessModel", "isCell", "(I)Z"⟩, 40), (⟨"DampLikenessModel", "isLeak", "(I)Z"⟩, 40), (⟨"DampLikenessModel", "isCrack", "(I)Z"⟩, 40), (⟨"DampLikenessModel", "isLike", "(I)Z"⟩, 40)]
theorem lw_r3 : ∀ q ∈ lw_privs_3, lw_okq q := List.forall_mem_cons.mpr ⟨lw_p32, List.forall_mem_cons.mpr ⟨lw_p33, List.forall_mem_cons.mpr ⟨lw_p34, List.forall_mem_cons.mpr ⟨lw_p35, List.forall_mem_cons.mpr ⟨lw_p36, List.forall_mem_cons.mpr ⟨lw_p37, List.forall_mem_cons.mpr ⟨lw_p38, List.forall_mem_cons.mpr ⟨lw_p39, List.forall_mem_cons.mpr ⟨lw_p40, List.forall_mem_cons.mpr ⟨lw_p41, List.forall_mem_cons.mpr ⟨lw_p42, List.forall_mem_cons.mpr ⟨lw_p43, List.forall_mem_cons.mpr ⟨lw_p44, List.forall_mem_cons.mpr ⟨lw_p45, List.forall_mem_cons.mpr ⟨lw_p46, List.forall_mem_cons.mpr ⟨lw_p47, fun _ h => absurd h List.not_mem_nil⟩⟩⟩⟩⟩⟩⟩⟩⟩⟩⟩⟩⟩⟩⟩⟩
theorem lw_p48 : lw_okq (⟨"DampLikenessModel", "remember", "()V"⟩, 40) := ⟨⟨by decide +kernel, by decide +kernel⟩, List.mem_of_getElem? (i := 782) (by decide +kernel), List.mem_of_getElem? (i := 1090) (by decide +kernel), List.mem_of_getElem? (i := 1091) (by decide +kernel)⟩
theorem lw_p49 : lw_okq (⟨"DampLikenessModel", "pass", "(I)V"⟩, 40) := ⟨⟨by decide +kernel, by decide +kernel⟩, List.mem_of_getElem? (i := 782) (by decide +kernel), List.mem_of_getElem? (i := 1094) (by decide +kernel), List.mem_of_getElem? (i := 1095) (by decide +kernel)⟩
theorem lw_p50 : lw_okq (⟨"DampLikenessModel", "runFrom", "(I)V"⟩, 40) := ⟨⟨by decide +kernel, by decide +kernel⟩, List.mem_of_getElem? (i := 782) (by decide +kernel), List.mem_of_getElem? (i := 1101) (by decide +kernel), List.mem_of_getElem? (i := 1102) (by decide +kernel)⟩
theorem lw_p51 : lw_okq (⟨"DampLikenessModel", "give", "(II)V"⟩, 40) := ⟨⟨by decide +kernel, by decide +kernel⟩, List.mem_of_getElem? (i := 782) (by decide +kernel), List.mem_of_getElem? (i := 1105) (by decide +kernel), List.mem_of_getElem? (i := 1106) (by decide +kernel)⟩
theorem lw_p52 : lw_okq (⟨"DampLikenessModel", "lookNow", "()V"⟩, 40) := ⟨⟨by decide +kernel, by decide +kernel⟩, List.mem_of_getElem? (i := 782) (by decide +kernel), List.mem_of_getElem? (i := 1113) (by decide +kernel), List.mem_of_getElem? (i := 1114) (by decide +kernel)⟩
theorem lw_p53 : lw_okq (⟨"DampLikenessModel", "dayByDraws", "()V"⟩, 40) := ⟨⟨by decide +kernel, by decide +kernel⟩, List.mem_of_getElem? (i := 782) (by decide +kernel), List.mem_of_getElem? (i := 1138) (by decide +kernel), List.mem_of_getElem? (i := 1139) (by decide +kernel)⟩
theorem lw_p54 : lw_okq (⟨"DampLikenessModel", "draw", "(I)I"⟩, 40) := ⟨⟨by decide +kernel, by decide +kernel⟩, List.mem_of_getElem? (i := 782) (by decide +kernel), List.mem_of_getElem? (i := 1142) (by decide +kernel), List.mem_of_getElem? (i := 1143) (by decide +kernel)⟩
theorem lw_p55 : lw_okq (⟨"DampLikenessModel", "shownBy", "(II)I"⟩, 40) := ⟨⟨by decide +kernel, by decide +kernel⟩, List.mem_of_getElem? (i := 782) (by decide +kernel), List.mem_of_getElem? (i := 1158) (by decide +kernel), List.mem_of_getElem? (i := 1159) (by decide +kernel)⟩
theorem lw_p56 : lw_okq (⟨"DampLikenessModel", "shownByLooks", "(III)I"⟩, 40) := ⟨⟨by decide +kernel, by decide +kernel⟩, List.mem_of_getElem? (i := 782) (by decide +kernel), List.mem_of_getElem? (i := 1177) (by decide +kernel), List.mem_of_getElem? (i := 1178) (by decide +kernel)⟩
theorem lw_p57 : lw_okq (⟨"DampLikenessModel", "leftBy", "(I)I"⟩, 40) := ⟨⟨by decide +kernel, by decide +kernel⟩, List.mem_of_getElem? (i := 782) (by decide +kernel), List.mem_of_getElem? (i := 1189) (by decide +kernel), List.mem_of_getElem? (i := 1190) (by decide +kernel)⟩
def lw_privs_4 : List (MethodName × Nat) := [(⟨"DampLikenessModel", "remember", "()V"⟩, 40), (⟨"DampLikenessModel", "pass", "(I)V"⟩, 40), (⟨"DampLikenessModel", "runFrom", "(I)V"⟩, 40), (⟨"DampLikenessModel", "give", "(II)V"⟩, 40), (⟨"DampLikenessModel", "lookNow", "()V"⟩, 40), (⟨"DampLikenessModel", "dayByDraws", "()V"⟩, 40), (⟨"DampLikenessModel", "draw", "(I)I"⟩, 40), (⟨"DampLikenessModel", "shownBy", "(II)I"⟩, 40), (⟨"DampLikenessModel", "shownByLooks", "(III)I"⟩, 40), (⟨"DampLikenessModel", "leftBy", "(I)I"⟩, 40)]
theorem lw_r4 : ∀ q ∈ lw_privs_4, lw_okq q := List.forall_mem_cons.mpr ⟨lw_p48, List.forall_mem_cons.mpr ⟨lw_p49, List.forall_mem_cons.mpr ⟨lw_p50, List.forall_mem_cons.mpr ⟨lw_p51, List.forall_mem_cons.mpr ⟨lw_p52, List.forall_mem_cons.mpr ⟨lw_p53, List.forall_mem_cons.mpr ⟨lw_p54, List.forall_mem_cons.mpr ⟨lw_p55, List.forall_mem_cons.mpr ⟨lw_p56, List.forall_mem_cons.mpr ⟨lw_p57, fun _ h => absurd h List.not_mem_nil⟩⟩⟩⟩⟩⟩⟩⟩⟩⟩
def lw_privs : List (MethodName × Nat) := lw_privs_1 ++ (lw_privs_2 ++ (lw_privs_3 ++ (lw_privs_4)))
def lw_tbl : List Cond := k2_sels lw_privs ++ tables_1
theorem lw_privs_ok : ∀ q ∈ lw_privs, lw_okq q := by
  show ∀ q ∈ lw_privs_1 ++ (lw_privs_2 ++ (lw_privs_3 ++ (lw_privs_4))), lw_okq q
  exact List.forall_mem_append.mpr ⟨lw_r1, List.forall_mem_append.mpr ⟨lw_r2, List.forall_mem_append.mpr ⟨lw_r3, lw_r4⟩⟩⟩

theorem goodIn_r {big : List Cond} (ws : List Cond) (ps : List Nat) (hp : ws = ps.filterMap (fun i => big[i]?)) (h : ws.all goodWord = true) : GoodIn big ws := by
  intro w hw
  have h1 := List.all_eq_true.mp h w hw
  rw [hp] at hw
  obtain ⟨i, -, hi⟩ := List.mem_filterMap.mp hw
  have hm : w ∈ big := by first | exact List.mem_of_getElem? hi | exact List.getElem?_mem hi
  exact ⟨hm, good_of_word h1⟩
theorem goodIn_app {big a b : List Cond} (ha : GoodIn big a) (hb : GoodIn big b) : GoodIn big (a ++ b) := fun w h => (List.mem_append.mp h).elim (ha w) (hb w)
theorem goodIn_ca {big a b : List Cond} {c : Cond} (ha : GoodIn big (c :: a)) (hb : GoodIn big b) : GoodIn big (c :: (a ++ b)) := fun w h => (List.mem_cons.mp h).elim (fun e => ha w (List.mem_cons.mpr (Or.inl e))) (fun h => (List.mem_append.mp h).elim (fun h => ha w (List.mem_cons.mpr (Or.inr h))) (hb w))
theorem goodIn_sub {big ws : List Cond} (hm : ∀ w ∈ ws, w ∈ big) (h : ws.all goodWord = true) : GoodIn big ws := fun w hw => ⟨hm w hw, good_of_word (List.all_eq_true.mp h w hw)⟩
def RX0 : String := "DampLikeness$Book"
def TX0 : u_T := fun k => match k with
  | 0 => ("DampLikeness$Book", "cells", "[I", true)
  | 1 => ("DampLikeness$Book", "wets", "[I", true)
  | _ => ("DampLikeness$Book", "count", "I", false)
def tyX0 : Nat → FieldType := fun k => match k with
  | 0 => .array .int
  | 1 => .array .int
  | _ => .int
abbrev wsX00 : List Cond := u_ws RX0 TX0 3
theorem nmX0 : ∀ a, a < 3 → ∀ b, b < 3 → a ≠ b → (TX0 a).2.1 ≠ (TX0 b).2.1 := by decide +kernel
theorem tyX0_ok : ∀ k, k < 3 → parseFieldDescriptor (TX0 k).2.2.1 = some (tyX0 k) := by decide +kernel
abbrev cX0_init : ByteArray := prog_2_method_1_code
def yX0_init : MethodName := ⟨RX0, "<init>", "()V"⟩
abbrev cX0_clear : ByteArray := prog_2_method_2_code
def yX0_clear : MethodName := ⟨RX0, "clear", "()V"⟩
abbrev cX0_add : ByteArray := prog_2_method_3_code
def yX0_add : MethodName := ⟨RX0, "add", "(II)I"⟩
abbrev cX0_firstWrong : ByteArray := prog_2_method_4_code
def yX0_firstWrong : MethodName := ⟨RX0, "firstWrong", "(LDampLikeness$Damp;)I"⟩
def RX1 : String := "DampLikeness$Damp"
def TX1 : u_T := fun k => match k with
  | 0 => ("DampLikeness$Damp", "wet", "[I", true)
  | 1 => ("DampLikeness$Damp", "leakAt", "[I", true)
  | 2 => ("DampLikeness$Damp", "wind", "I", false)
  | 3 => ("DampLikeness$Damp", "filled", "I", false)
  | 4 => ("DampLikeness$Damp", "days", "I", false)
  | 5 => ("DampLikeness$Damp", "looks", "I", false)
  | _ => ("DampLikeness$Damp", "brushes", "I", false)
def tyX1 : Nat → FieldType := fun k => match k with
  | 0 => .array .int
  | 1 => .array .int
  | 2 => .int
  | 3 => .int
  | 4 => .int
  | 5 => .int
  | _ => .int
abbrev wsX10 : List Cond := u_ws RX1 TX1 7
theorem nmX1 : ∀ a, a < 7 → ∀ b, b < 7 → a ≠ b → (TX1 a).2.1 ≠ (TX1 b).2.1 := by decide +kernel
theorem tyX1_ok : ∀ k, k < 7 → parseFieldDescriptor (TX1 k).2.2.1 = some (tyX1 k) := by decide +kernel
abbrev cX1_init : ByteArray := prog_3_method_1_code
def yX1_init : MethodName := ⟨RX1, "<init>", "()V"⟩
abbrev cX1_begin : ByteArray := prog_3_method_2_code
def yX1_begin : MethodName := ⟨RX1, "begin", "(LDampLikeness$Plan;)V"⟩
abbrev cX1_copyFrom : ByteArray := prog_3_method_3_code
def yX1_copyFrom : MethodName := ⟨RX1, "copyFrom", "(LDampLikeness$Damp;)V"⟩
abbrev cX1_isFilled : ByteArray := prog_3_method_4_code
def yX1_isFilled : MethodName := ⟨RX1, "isFilled", "(I)Z"⟩
abbrev cX1_marks : ByteArray := prog_3_method_5_code
def yX1_marks : MethodName := ⟨RX1, "marks", "()I"⟩
abbrev cX1_markCount : ByteArray := prog_3_method_6_code
def yX1_markCount : MethodName := ⟨RX1, "markCount", "()I"⟩
abbrev cX1_allWet : ByteArray := prog_3_method_7_code
def yX1_allWet : MethodName := ⟨RX1, "allWet", "()I"⟩
abbrev cX1_shrink : ByteArray := prog_3_method_8_code
def yX1_shrink : MethodName := ⟨RX1, "shrink", "(LDampLikeness$Plan;)V"⟩
def RX2 : String := "DampLikeness$Draws"
def TX2 : u_T := fun k => match k with
  | _ => ("DampLikeness$Draws", "state", "I", false)
def tyX2 : Nat → FieldType := fun k => match k with
  | _ => .int
abbrev wsX20 : List Cond := u_ws RX2 TX2 1
theorem nmX2 : ∀ a, a < 1 → ∀ b, b < 1 → a ≠ b → (TX2 a).2.1 ≠ (TX2 b).2.1 := by decide +kernel
theorem tyX2_ok : ∀ k, k < 1 → parseFieldDescriptor (TX2 k).2.2.1 = some (tyX2 k) := by decide +kernel
abbrev cX2_init : ByteArray := prog_4_method_1_code
def yX2_init : MethodName := ⟨RX2, "<init>", "()V"⟩
abbrev cX2_draw : ByteArray := prog_4_method_2_code
def yX2_draw : MethodName := ⟨RX2, "draw", "(I)I"⟩
def RX3 : String := "DampLikeness$Flow"
def TX3 : u_T := fun k => match k with
  | 0 => ("DampLikeness$Flow", "ahead", "[I", true)
  | _ => ("DampLikeness$Flow", "come", "[I", true)
def tyX3 : Nat → FieldType := fun k => match k with
  | 0 => .array .int
  | _ => .array .int
abbrev wsX30 : List Cond := u_ws RX3 TX3 2
theorem nmX3 : ∀ a, a < 2 → ∀ b, b < 2 → a ≠ b → (TX3 a).2.1 ≠ (TX3 b).2.1 := by decide +kernel
theorem tyX3_ok : ∀ k, k < 2 → parseFieldDescriptor (TX3 k).2.2.1 = some (tyX3 k) := by decide +kernel
abbrev cX3_init : ByteArray := prog_5_method_1_code
def yX3_init : MethodName := ⟨RX3, "<init>", "()V"⟩
abbrev cX3_rainDays : ByteArray := prog_5_method_2_code
def yX3_rainDays : MethodName := ⟨RX3, "rainDays", "(LDampLikeness$Plan;LDampLikeness$Damp;II)V"⟩
abbrev cX3_rainDay : ByteArray := prog_5_method_3_code
def yX3_rainDay : MethodName := ⟨RX3, "rainDay", "(LDampLikeness$Plan;LDampLikeness$Damp;I)V"⟩
abbrev cX3_runDownAndByWind : ByteArray := prog_5_method_4_code
def yX3_runDownAndByWind : MethodName := ⟨RX3, "runDownAndByWind", "(LDampLikeness$Plan;LDampLikeness$Damp;)V"⟩
abbrev cX3_runByCracks : ByteArray := prog_5_method_5_code
def yX3_runByCracks : MethodName := ⟨RX3, "runByCracks", "(LDampLikeness$Plan;LDampLikeness$Damp;)V"⟩
abbrev cX3_give : ByteArray := prog_5_method_6_code
def yX3_give : MethodName := ⟨RX3, "give", "(LDampLikeness$Damp;II)V"⟩
abbrev cX3_settle : ByteArray := prog_5_method_7_code
def yX3_settle : MethodName := ⟨RX3, "settle", "(LDampLikeness$Damp;I)V"⟩
def RX4 : String := "DampLikeness$Image"
def TX4 : u_T := fun k => match k with
  | 0 => ("DampLikeness$Image", "damp", "LDampLikeness$Damp;", true)
  | 1 => ("DampLikeness$Image", "drawState", "I", false)
  | _ => ("DampLikeness$Image", "kept", "Z", false)
def tyX4 : Nat → FieldType := fun k => match k with
  | 0 => .object "DampLikeness$Damp"
  | 1 => .int
  | _ => .boolean
abbrev wsX40 : List Cond := u_ws RX4 TX4 3
theorem nmX4 : ∀ a, a < 3 → ∀ b, b < 3 → a ≠ b → (TX4 a).2.1 ≠ (TX4 b).2.1 := by decide +kernel
theorem tyX4_ok : ∀ k, k < 3 → parseFieldDescriptor (TX4 k).2.2.1 = some (tyX4 k) := by decide +kernel
abbrev cX4_init : ByteArray := prog_6_method_1_code
def yX4_init : MethodName := ⟨RX4, "<init>", "()V"⟩
def RX5 : String := "DampLikeness$Marks"
def TX5 : u_T := fun k => match k with
  | _ => ("", "", "", false)
def tyX5 : Nat → FieldType := fun k => match k with
  | _ => .int
abbrev wsX50 : List Cond := u_ws RX5 TX5 0
theorem nmX5 : ∀ a, a < 0 → ∀ b, b < 0 → a ≠ b → (TX5 a).2.1 ≠ (TX5 b).2.1 := by decide +kernel
theorem tyX5_ok : ∀ k, k < 0 → parseFieldDescriptor (TX5 k).2.2.1 = some (tyX5 k) := by decide +kernel
abbrev cX5_besideSet : ByteArray := prog_7_method_2_code
def yX5_besideSet : MethodName := ⟨RX5, "besideSet", "(LDampLikeness$Plan;II)I"⟩
abbrev cX5_lonely : ByteArray := prog_7_method_3_code
def yX5_lonely : MethodName := ⟨RX5, "lonely", "(LDampLikeness$Plan;I)I"⟩
abbrev cX5_border : ByteArray := prog_7_method_4_code
def yX5_border : MethodName := ⟨RX5, "border", "(LDampLikeness$Plan;I)I"⟩
abbrev cX5_groupOf : ByteArray := prog_7_method_5_code
def yX5_groupOf : MethodName := ⟨RX5, "groupOf", "(LDampLikeness$Plan;II)I"⟩
abbrev cX5_groups : ByteArray := prog_7_method_6_code
def yX5_groups : MethodName := ⟨RX5, "groups", "(LDampLikeness$Plan;I)I"⟩
abbrev cX5_greatestGroup : ByteArray := prog_7_method_7_code
def yX5_greatestGroup : MethodName := ⟨RX5, "greatestGroup", "(LDampLikeness$Plan;I)I"⟩
abbrev cX5_fullest : ByteArray := prog_7_method_8_code
def yX5_fullest : MethodName := ⟨RX5, "fullest", "(LDampLikeness$Plan;I)I"⟩
abbrev cX5_like : ByteArray := prog_7_method_9_code
def yX5_like : MethodName := ⟨RX5, "like", "(LDampLikeness$Plan;II)I"⟩
abbrev cX5_whom : ByteArray := prog_7_method_10_code
def yX5_whom : MethodName := ⟨RX5, "whom", "(LDampLikeness$Plan;I)I"⟩
abbrev cX5_mayBe : ByteArray := prog_7_method_11_code
def yX5_mayBe : MethodName := ⟨RX5, "mayBe", "(LDampLikeness$Plan;I)I"⟩
def RX6 : String := "DampLikeness$Past"
def TX6 : u_T := fun k => match k with
  | 0 => ("DampLikeness$Past", "ring", "[LDampLikeness$Damp;", true)
  | 1 => ("DampLikeness$Past", "end", "I", false)
  | _ => ("DampLikeness$Past", "count", "I", false)
def tyX6 : Nat → FieldType := fun k => match k with
  | 0 => .array (.object "DampLikeness$Damp")
  | 1 => .int
  | _ => .int
abbrev wsX60 : List Cond := u_ws RX6 TX6 3
theorem nmX6 : ∀ a, a < 3 → ∀ b, b < 3 → a ≠ b → (TX6 a).2.1 ≠ (TX6 b).2.1 := by decide +kernel
theorem tyX6_ok : ∀ k, k < 3 → parseFieldDescriptor (TX6 k).2.2.1 = some (tyX6 k) := by decide +kernel
abbrev cX6_init : ByteArray := prog_8_method_1_code
def yX6_init : MethodName := ⟨RX6, "<init>", "()V"⟩
abbrev cX6_clear : ByteArray := prog_8_method_2_code
def yX6_clear : MethodName := ⟨RX6, "clear", "()V"⟩
abbrev cX6_push : ByteArray := prog_8_method_3_code
def yX6_push : MethodName := ⟨RX6, "push", "(LDampLikeness$Damp;)V"⟩
abbrev cX6_pop : ByteArray := prog_8_method_4_code
def yX6_pop : MethodName := ⟨RX6, "pop", "(LDampLikeness$Damp;)Z"⟩
def RX7 : String := "DampLikeness$Plan"
def TX7 : u_T := fun k => match k with
  | 0 => ("DampLikeness$Plan", "leakAt", "[I", true)
  | 1 => ("DampLikeness$Plan", "crackA", "[I", true)
  | 2 => ("DampLikeness$Plan", "crackB", "[I", true)
  | 3 => ("DampLikeness$Plan", "faces", "[I", true)
  | 4 => ("DampLikeness$Plan", "rows", "I", false)
  | 5 => ("DampLikeness$Plan", "columns", "I", false)
  | 6 => ("DampLikeness$Plan", "firstColumn", "I", false)
  | 7 => ("DampLikeness$Plan", "wind", "I", false)
  | 8 => ("DampLikeness$Plan", "leakCount", "I", false)
  | 9 => ("DampLikeness$Plan", "crackCount", "I", false)
  | 10 => ("DampLikeness$Plan", "faceCount", "I", false)
  | _ => ("DampLikeness$Plan", "allCells", "I", false)
def tyX7 : Nat → FieldType := fun k => match k with
  | 0 => .array .int
  | 1 => .array .int
  | 2 => .array .int
  | 3 => .array .int
  | 4 => .int
  | 5 => .int
  | 6 => .int
  | 7 => .int
  | 8 => .int
  | 9 => .int
  | 10 => .int
  | _ => .int
abbrev wsX70 : List Cond := u_ws RX7 TX7 12
theorem nmX7 : ∀ a, a < 12 → ∀ b, b < 12 → a ≠ b → (TX7 a).2.1 ≠ (TX7 b).2.1 := by decide +kernel
theorem tyX7_ok : ∀ k, k < 12 → parseFieldDescriptor (TX7 k).2.2.1 = some (tyX7 k) := by decide +kernel
abbrev cX7_init : ByteArray := prog_9_method_1_code
def yX7_init : MethodName := ⟨RX7, "<init>", "()V"⟩
abbrev cX7_clear : ByteArray := prog_9_method_2_code
def yX7_clear : MethodName := ⟨RX7, "clear", "()V"⟩
abbrev cX7_cells : ByteArray := prog_9_method_3_code
def yX7_cells : MethodName := ⟨RX7, "cells", "()I"⟩
abbrev cX7_resize : ByteArray := prog_9_method_4_code
def yX7_resize : MethodName := ⟨RX7, "resize", "(II)V"⟩
abbrev cX7_columnOf : ByteArray := prog_9_method_5_code
def yX7_columnOf : MethodName := ⟨RX7, "columnOf", "(I)I"⟩
abbrev cX7_hasCell : ByteArray := prog_9_method_6_code
def yX7_hasCell : MethodName := ⟨RX7, "hasCell", "(I)Z"⟩
abbrev cX7_hasLeak : ByteArray := prog_9_method_7_code
def yX7_hasLeak : MethodName := ⟨RX7, "hasLeak", "(I)Z"⟩
abbrev cX7_hasCrack : ByteArray := prog_9_method_8_code
def yX7_hasCrack : MethodName := ⟨RX7, "hasCrack", "(I)Z"⟩
abbrev cX7_hasFace : ByteArray := prog_9_method_9_code
def yX7_hasFace : MethodName := ⟨RX7, "hasFace", "(I)Z"⟩
abbrev cX7_addLeak : ByteArray := prog_9_method_10_code
def yX7_addLeak : MethodName := ⟨RX7, "addLeak", "(I)V"⟩
abbrev cX7_addCrack : ByteArray := prog_9_method_11_code
def yX7_addCrack : MethodName := ⟨RX7, "addCrack", "(II)V"⟩
abbrev cX7_addFace : ByteArray := prog_9_method_12_code
def yX7_addFace : MethodName := ⟨RX7, "addFace", "(I)V"⟩
abbrev cX7_touch : ByteArray := prog_9_method_13_code
def yX7_touch : MethodName := ⟨RX7, "touch", "(II)Z"⟩
abbrev cX7_isCracked : ByteArray := prog_9_method_14_code
def yX7_isCracked : MethodName := ⟨RX7, "isCracked", "(II)Z"⟩
abbrev cX7_below : ByteArray := prog_9_method_15_code
def yX7_below : MethodName := ⟨RX7, "below", "(I)I"⟩
abbrev cX7_beside : ByteArray := prog_9_method_16_code
def yX7_beside : MethodName := ⟨RX7, "beside", "(II)I"⟩
def RX8 : String := "DampLikeness$Reader"
def TX8 : u_T := fun k => match k with
  | 0 => ("DampLikeness$Reader", "letters", "[I", true)
  | 1 => ("DampLikeness$Reader", "count", "I", false)
  | 2 => ("DampLikeness$Reader", "faultKind", "I", false)
  | 3 => ("DampLikeness$Reader", "faultAt", "I", false)
  | 4 => ("DampLikeness$Reader", "at", "I", false)
  | 5 => ("DampLikeness$Reader", "numberAt", "I", false)
  | _ => ("DampLikeness$Reader", "windTold", "Z", false)
def tyX8 : Nat → FieldType := fun k => match k with
  | 0 => .array .int
  | 1 => .int
  | 2 => .int
  | 3 => .int
  | 4 => .int
  | 5 => .int
  | _ => .boolean
abbrev wsX80 : List Cond := u_ws RX8 TX8 7
theorem nmX8 : ∀ a, a < 7 → ∀ b, b < 7 → a ≠ b → (TX8 a).2.1 ≠ (TX8 b).2.1 := by decide +kernel
theorem tyX8_ok : ∀ k, k < 7 → parseFieldDescriptor (TX8 k).2.2.1 = some (tyX8 k) := by decide +kernel
abbrev cX8_init : ByteArray := prog_10_method_1_code
def yX8_init : MethodName := ⟨RX8, "<init>", "()V"⟩
abbrev cX8_add : ByteArray := prog_10_method_2_code
def yX8_add : MethodName := ⟨RX8, "add", "(I)I"⟩
abbrev cX8_read : ByteArray := prog_10_method_3_code
def yX8_read : MethodName := ⟨RX8, "read", "(LDampLikeness$Plan;)Z"⟩
abbrev cX8_readClause : ByteArray := prog_10_method_4_code
def yX8_readClause : MethodName := ⟨RX8, "readClause", "(LDampLikeness$Plan;)V"⟩
abbrev cX8_readSize : ByteArray := prog_10_method_5_code
def yX8_readSize : MethodName := ⟨RX8, "readSize", "(LDampLikeness$Plan;)V"⟩
abbrev cX8_readLeak : ByteArray := prog_10_method_6_code
def yX8_readLeak : MethodName := ⟨RX8, "readLeak", "(LDampLikeness$Plan;)V"⟩
abbrev cX8_readCrack : ByteArray := prog_10_method_7_code
def yX8_readCrack : MethodName := ⟨RX8, "readCrack", "(LDampLikeness$Plan;)V"⟩
abbrev cX8_readFace : ByteArray := prog_10_method_8_code
def yX8_readFace : MethodName := ⟨RX8, "readFace", "(LDampLikeness$Plan;)V"⟩
abbrev cX8_readWind : ByteArray := prog_10_method_9_code
def yX8_readWind : MethodName := ⟨RX8, "readWind", "(LDampLikeness$Plan;)V"⟩
abbrev cX8_fail : ByteArray := prog_10_method_10_code
def yX8_fail : MethodName := ⟨RX8, "fail", "(II)V"⟩
abbrev cX8_peek : ByteArray := prog_10_method_11_code
def yX8_peek : MethodName := ⟨RX8, "peek", "()I"⟩
abbrev cX8_takeWord : ByteArray := prog_10_method_12_code
def yX8_takeWord : MethodName := ⟨RX8, "takeWord", "(Z)V"⟩
abbrev cX8_takeSign : ByteArray := prog_10_method_13_code
def yX8_takeSign : MethodName := ⟨RX8, "takeSign", "(I)Z"⟩
abbrev cX8_takeNumber : ByteArray := prog_10_method_14_code
def yX8_takeNumber : MethodName := ⟨RX8, "takeNumber", "(II)I"⟩
abbrev cX8_isFigure : ByteArray := prog_10_method_15_code
def yX8_isFigure : MethodName := ⟨RX8, "isFigure", "(I)Z"⟩
def RX9 : String := "DampLikeness$Trial"
def TX9 : u_T := fun k => match k with
  | 0 => ("DampLikeness$Trial", "flow", "LDampLikeness$Flow;", true)
  | 1 => ("DampLikeness$Trial", "damp", "LDampLikeness$Damp;", true)
  | 2 => ("DampLikeness$Trial", "stages", "[LDampLikeness$Damp;", true)
  | 3 => ("DampLikeness$Trial", "dayCount", "I", false)
  | 4 => ("DampLikeness$Trial", "rain", "I", false)
  | 5 => ("DampLikeness$Trial", "marksWanted", "I", false)
  | 6 => ("DampLikeness$Trial", "best", "I", false)
  | _ => ("DampLikeness$Trial", "bestCount", "I", false)
def tyX9 : Nat → FieldType := fun k => match k with
  | 0 => .object "DampLikeness$Flow"
  | 1 => .object "DampLikeness$Damp"
  | 2 => .array (.object "DampLikeness$Damp")
  | 3 => .int
  | 4 => .int
  | 5 => .int
  | 6 => .int
  | _ => .int
abbrev wsX90 : List Cond := u_ws RX9 TX9 8
theorem nmX9 : ∀ a, a < 8 → ∀ b, b < 8 → a ≠ b → (TX9 a).2.1 ≠ (TX9 b).2.1 := by decide +kernel
theorem tyX9_ok : ∀ k, k < 8 → parseFieldDescriptor (TX9 k).2.2.1 = some (tyX9 k) := by decide +kernel
abbrev cX9_init : ByteArray := prog_11_method_1_code
def yX9_init : MethodName := ⟨RX9, "<init>", "()V"⟩
abbrev cX9_marksBehind : ByteArray := prog_11_method_2_code
def yX9_marksBehind : MethodName := ⟨RX9, "marksBehind", "(LDampLikeness$Plan;LDampLikeness$Damp;II)I"⟩
abbrev cX9_daysTillMarks : ByteArray := prog_11_method_3_code
def yX9_daysTillMarks : MethodName := ⟨RX9, "daysTillMarks", "(LDampLikeness$Plan;LDampLikeness$Damp;II)I"⟩
abbrev cX9_daysTillDry : ByteArray := prog_11_method_4_code
def yX9_daysTillDry : MethodName := ⟨RX9, "daysTillDry", "(LDampLikeness$Plan;LDampLikeness$Damp;)I"⟩
abbrev cX9_leadBest : ByteArray := prog_11_method_5_code
def yX9_leadBest : MethodName := ⟨RX9, "leadBest", "(LDampLikeness$Plan;LDampLikeness$Damp;IIII)V"⟩
abbrev cX9_rainsThatShow : ByteArray := prog_11_method_6_code
def yX9_rainsThatShow : MethodName := ⟨RX9, "rainsThatShow", "(LDampLikeness$Plan;LDampLikeness$Damp;I)I"⟩
abbrev cX9_rainThatLeavesFewest : ByteArray := prog_11_method_7_code
def yX9_rainThatLeavesFewest : MethodName := ⟨RX9, "rainThatLeavesFewest", "(LDampLikeness$Plan;LDampLikeness$Damp;)V"⟩
abbrev cX9_lookMost : ByteArray := prog_11_method_8_code
def yX9_lookMost : MethodName := ⟨RX9, "lookMost", "(LDampLikeness$Plan;LDampLikeness$Damp;III)V"⟩
abbrev cX9_tryLooks : ByteArray := prog_11_method_9_code
def yX9_tryLooks : MethodName := ⟨RX9, "tryLooks", "(LDampLikeness$Trial;LDampLikeness$Plan;LDampLikeness$Damp;II)V"⟩
abbrev cX9_weigh : ByteArray := prog_11_method_10_code
def yX9_weigh : MethodName := ⟨RX9, "weigh", "(LDampLikeness$Damp;I)V"⟩
def RX10 : String := "DampLikeness"
def TX10 : u_T := fun k => match k with
  | 0 => ("DampLikeness", "reader", "LDampLikeness$Reader;", true)
  | 1 => ("DampLikeness", "now", "LDampLikeness$Damp;", true)
  | 2 => ("DampLikeness", "flow", "LDampLikeness$Flow;", true)
  | 3 => ("DampLikeness", "trial", "LDampLikeness$Trial;", true)
  | 4 => ("DampLikeness", "past", "LDampLikeness$Past;", true)
  | 5 => ("DampLikeness", "book", "LDampLikeness$Book;", true)
  | 6 => ("DampLikeness", "draws", "LDampLikeness$Draws;", true)
  | 7 => ("DampLikeness", "images", "[LDampLikeness$Image;", true)
  | 8 => ("DampLikeness", "plan", "LDampLikeness$Plan;", false)
  | _ => ("DampLikeness", "spare", "LDampLikeness$Plan;", false)
def tyX10 : Nat → FieldType := fun k => match k with
  | 0 => .object "DampLikeness$Reader"
  | 1 => .object "DampLikeness$Damp"
  | 2 => .object "DampLikeness$Flow"
  | 3 => .object "DampLikeness$Trial"
  | 4 => .object "DampLikeness$Past"
  | 5 => .object "DampLikeness$Book"
  | 6 => .object "DampLikeness$Draws"
  | 7 => .array (.object "DampLikeness$Image")
  | 8 => .object "DampLikeness$Plan"
  | _ => .object "DampLikeness$Plan"
abbrev wsX100 : List Cond := u_ws RX10 TX10 10
theorem nmX10 : ∀ a, a < 10 → ∀ b, b < 10 → a ≠ b → (TX10 a).2.1 ≠ (TX10 b).2.1 := by decide +kernel
theorem tyX10_ok : ∀ k, k < 10 → parseFieldDescriptor (TX10 k).2.2.1 = some (tyX10 k) := by decide +kernel
abbrev cX10_init : ByteArray := prog_1_method_1_code
def yX10_init : MethodName := ⟨RX10, "<init>", "()V"⟩
abbrev cX10_feed : ByteArray := prog_1_method_2_code
def yX10_feed : MethodName := ⟨RX10, "feed", "(I)I"⟩
abbrev cX10_wall : ByteArray := prog_1_method_3_code
def yX10_wall : MethodName := ⟨RX10, "wall", "()I"⟩
abbrev cX10_fault : ByteArray := prog_1_method_4_code
def yX10_fault : MethodName := ⟨RX10, "fault", "()I"⟩
abbrev cX10_told : ByteArray := prog_1_method_5_code
def yX10_told : MethodName := ⟨RX10, "told", "(I)I"⟩
abbrev cX10_cell : ByteArray := prog_1_method_6_code
def yX10_cell : MethodName := ⟨RX10, "cell", "(I)I"⟩
abbrev cX10_leak : ByteArray := prog_1_method_7_code
def yX10_leak : MethodName := ⟨RX10, "leak", "(I)I"⟩
abbrev cX10_crack : ByteArray := prog_1_method_8_code
def yX10_crack : MethodName := ⟨RX10, "crack", "(II)I"⟩
abbrev cX10_likeness : ByteArray := prog_1_method_9_code
def yX10_likeness : MethodName := ⟨RX10, "likeness", "(II)I"⟩
abbrev cX10_day : ByteArray := prog_1_method_10_code
def yX10_day : MethodName := ⟨RX10, "day", "(II)I"⟩
abbrev cX10_look : ByteArray := prog_1_method_11_code
def yX10_look : MethodName := ⟨RX10, "look", "()I"⟩
abbrev cX10_brush : ByteArray := prog_1_method_12_code
def yX10_brush : MethodName := ⟨RX10, "brush", "(I)I"⟩
abbrev cX10_lead : ByteArray := prog_1_method_13_code
def yX10_lead : MethodName := ⟨RX10, "lead", "(II)I"⟩
abbrev cX10_wind : ByteArray := prog_1_method_14_code
def yX10_wind : MethodName := ⟨RX10, "wind", "(I)I"⟩
abbrev cX10_fill : ByteArray := prog_1_method_15_code
def yX10_fill : MethodName := ⟨RX10, "fill", "(IZ)I"⟩
abbrev cX10_drift : ByteArray := prog_1_method_16_code
def yX10_drift : MethodName := ⟨RX10, "drift", "(I)I"⟩
abbrev cX10_undo : ByteArray := prog_1_method_17_code
def yX10_undo : MethodName := ⟨RX10, "undo", "()I"⟩
abbrev cX10_shown : ByteArray := prog_1_method_18_code
def yX10_shown : MethodName := ⟨RX10, "shown", "(II)I"⟩
abbrev cX10_first : ByteArray := prog_1_method_19_code
def yX10_first : MethodName := ⟨RX10, "first", "(II)I"⟩
abbrev cX10_leadTo : ByteArray := prog_1_method_20_code
def yX10_leadTo : MethodName := ⟨RX10, "leadTo", "(IIIII)I"⟩
abbrev cX10_often : ByteArray := prog_1_method_21_code
def yX10_often : MethodName := ⟨RX10, "often", "(IIII)I"⟩
abbrev cX10_wasRain : ByteArray := prog_1_method_22_code
def yX10_wasRain : MethodName := ⟨RX10, "wasRain", "(I)I"⟩
abbrev cX10_rainToTell : ByteArray := prog_1_method_23_code
def yX10_rainToTell : MethodName := ⟨RX10, "rainToTell", "(I)I"⟩
abbrev cX10_dryIn : ByteArray := prog_1_method_24_code
def yX10_dryIn : MethodName := ⟨RX10, "dryIn", "()I"⟩
abbrev cX10_either : ByteArray := prog_1_method_25_code
def yX10_either : MethodName := ⟨RX10, "either", "(III)I"⟩
abbrev cX10_rainy : ByteArray := prog_1_method_26_code
def yX10_rainy : MethodName := ⟨RX10, "rainy", "(II)I"⟩
abbrev cX10_write : ByteArray := prog_1_method_27_code
def yX10_write : MethodName := ⟨RX10, "write", "(II)I"⟩
abbrev cX10_tear : ByteArray := prog_1_method_28_code
def yX10_tear : MethodName := ⟨RX10, "tear", "()I"⟩
abbrev cX10_judge : ByteArray := prog_1_method_29_code
def yX10_judge : MethodName := ⟨RX10, "judge", "()I"⟩
abbrev cX10_seed : ByteArray := prog_1_method_30_code
def yX10_seed : MethodName := ⟨RX10, "seed", "(I)I"⟩
abbrev cX10_keep : ByteArray := prog_1_method_31_code
def yX10_keep : MethodName := ⟨RX10, "keep", "(I)I"⟩
abbrev cX10_goBack : ByteArray := prog_1_method_32_code
def yX10_goBack : MethodName := ⟨RX10, "goBack", "(I)I"⟩
abbrev cX10_noWall : ByteArray := prog_1_method_33_code
def yX10_noWall : MethodName := ⟨RX10, "noWall", "()Z"⟩
abbrev cX10_driftOneDay : ByteArray := prog_1_method_34_code
def yX10_driftOneDay : MethodName := ⟨RX10, "driftOneDay", "()V"⟩
abbrev cX10_outside : ByteArray := prog_1_method_35_code
def yX10_outside : MethodName := ⟨RX10, "outside", "(III)Z"⟩
abbrev cX10_pick : ByteArray := prog_1_method_36_code
def yX10_pick : MethodName := ⟨RX10, "pick", "([II)I"⟩
abbrev cX10_put : ByteArray := prog_1_method_37_code
def yX10_put : MethodName := ⟨RX10, "put", "([III)V"⟩
def RX11 : String := "DampLikenessModel"
def TX11 : u_T := fun k => match k with
  | 0 => ("DampLikenessModel", "high", "I", false)
  | 1 => ("DampLikenessModel", "wide", "I", false)
  | 2 => ("DampLikenessModel", "leaks", "I", false)
  | 3 => ("DampLikenessModel", "leakTold", "[I", true)
  | 4 => ("DampLikenessModel", "cracks", "I", false)
  | 5 => ("DampLikenessModel", "one", "[I", true)
  | 6 => ("DampLikenessModel", "other", "[I", true)
  | 7 => ("DampLikenessModel", "likes", "I", false)
  | 8 => ("DampLikenessModel", "likeSet", "[I", true)
  | 9 => ("DampLikenessModel", "windTold", "I", false)
  | 10 => ("DampLikenessModel", "now", "[I", true)
  | 11 => ("DampLikenessModel", "seed", "I", false)
  | 12 => ("DampLikenessModel", "text", "[I", true)
  | 13 => ("DampLikenessModel", "texted", "I", false)
  | 14 => ("DampLikenessModel", "faultPlace", "I", false)
  | 15 => ("DampLikenessModel", "at0", "I", false)
  | 16 => ("DampLikenessModel", "number", "I", false)
  | 17 => ("DampLikenessModel", "numberAt", "I", false)
  | 18 => ("DampLikenessModel", "readHigh", "I", false)
  | 19 => ("DampLikenessModel", "readWide", "I", false)
  | 20 => ("DampLikenessModel", "readLeaks", "I", false)
  | 21 => ("DampLikenessModel", "readLeak", "[I", true)
  | 22 => ("DampLikenessModel", "readCracks", "I", false)
  | 23 => ("DampLikenessModel", "readOne", "[I", true)
  | 24 => ("DampLikenessModel", "readOther", "[I", true)
  | 25 => ("DampLikenessModel", "readLikes", "I", false)
  | 26 => ("DampLikenessModel", "readLike", "[I", true)
  | 27 => ("DampLikenessModel", "hasWind", "Z", false)
  | 28 => ("DampLikenessModel", "readWind", "I", false)
  | 29 => ("DampLikenessModel", "had", "[I", true)
  | 30 => ("DampLikenessModel", "comes", "[I", true)
  | 31 => ("DampLikenessModel", "left", "[I", true)
  | 32 => ("DampLikenessModel", "undos", "I", false)
  | 33 => ("DampLikenessModel", "past", "[I", true)
  | 34 => ("DampLikenessModel", "before", "[I", true)
  | 35 => ("DampLikenessModel", "booked", "I", false)
  | 36 => ("DampLikenessModel", "bookOf", "[I", true)
  | 37 => ("DampLikenessModel", "bookIs", "[I", true)
  | 38 => ("DampLikenessModel", "images", "[I", true)
  | _ => ("DampLikenessModel", "isKept", "[Z", true)
def tyX11 : Nat → FieldType := fun k => match k with
  | 0 => .int
  | 1 => .int
  | 2 => .int
  | 3 => .array .int
  | 4 => .int
  | 5 => .array .int
  | 6 => .array .int
  | 7 => .int
  | 8 => .array .int
  | 9 => .int
  | 10 => .array .int
  | 11 => .int
  | 12 => .array .int
  | 13 => .int
  | 14 => .int
  | 15 => .int
  | 16 => .int
  | 17 => .int
  | 18 => .int
  | 19 => .int
  | 20 => .int
  | 21 => .array .int
  | 22 => .int
  | 23 => .array .int
  | 24 => .array .int
  | 25 => .int
  | 26 => .array .int
  | 27 => .boolean
  | 28 => .int
  | 29 => .array .int
  | 30 => .array .int
  | 31 => .array .int
  | 32 => .int
  | 33 => .array .int
  | 34 => .array .int
  | 35 => .int
  | 36 => .array .int
  | 37 => .array .int
  | 38 => .array .int
  | _ => .array .boolean
abbrev wsX110 : List Cond := u_ws RX11 TX11 40
theorem nmX11 : ∀ a, a < 40 → ∀ b, b < 40 → a ≠ b → (TX11 a).2.1 ≠ (TX11 b).2.1 := by decide +kernel
theorem tyX11_ok : ∀ k, k < 40 → parseFieldDescriptor (TX11 k).2.2.1 = some (tyX11 k) := by decide +kernel
abbrev cX11_init : ByteArray := prog_13_method_1_code
def yX11_init : MethodName := ⟨RX11, "<init>", "()V"⟩
abbrev cX11_in : ByteArray := prog_13_method_3_code
def yX11_in : MethodName := ⟨RX11, "in", "(JJJ)Z"⟩
abbrev cX11_has : ByteArray := prog_13_method_4_code
def yX11_has : MethodName := ⟨RX11, "has", "(II)Z"⟩
abbrev cX11_bits : ByteArray := prog_13_method_5_code
def yX11_bits : MethodName := ⟨RX11, "bits", "(I)I"⟩
abbrev cX11_cells : ByteArray := prog_13_method_6_code
def yX11_cells : MethodName := ⟨RX11, "cells", "()I"⟩
abbrev cX11_isCell : ByteArray := prog_13_method_7_code
def yX11_isCell : MethodName := ⟨RX11, "isCell", "(I)Z"⟩
abbrev cX11_isLeak : ByteArray := prog_13_method_8_code
def yX11_isLeak : MethodName := ⟨RX11, "isLeak", "(I)Z"⟩
abbrev cX11_isCrack : ByteArray := prog_13_method_9_code
def yX11_isCrack : MethodName := ⟨RX11, "isCrack", "(I)Z"⟩
abbrev cX11_isLike : ByteArray := prog_13_method_10_code
def yX11_isLike : MethodName := ⟨RX11, "isLike", "(I)Z"⟩
abbrev cX11_areNext : ByteArray := prog_13_method_11_code
def yX11_areNext : MethodName := ⟨RX11, "areNext", "(III)Z"⟩
abbrev cX11_feed : ByteArray := prog_13_method_12_code
def yX11_feed : MethodName := ⟨RX11, "feed", "(I)I"⟩
abbrev cX11_here : ByteArray := prog_13_method_13_code
def yX11_here : MethodName := ⟨RX11, "here", "()I"⟩
abbrev cX11_fails : ByteArray := prog_13_method_14_code
def yX11_fails : MethodName := ⟨RX11, "fails", "(II)I"⟩
abbrev cX11_takeNumber : ByteArray := prog_13_method_15_code
def yX11_takeNumber : MethodName := ⟨RX11, "takeNumber", "(II)I"⟩
abbrev cX11_into : ByteArray := prog_13_method_16_code
def yX11_into : MethodName := ⟨RX11, "into", "([IIII)I"⟩
abbrev cX11_takeWall : ByteArray := prog_13_method_17_code
def yX11_takeWall : MethodName := ⟨RX11, "takeWall", "()I"⟩
abbrev cX11_readCells : ByteArray := prog_13_method_18_code
def yX11_readCells : MethodName := ⟨RX11, "readCells", "()I"⟩
abbrev cX11_takeLeak : ByteArray := prog_13_method_19_code
def yX11_takeLeak : MethodName := ⟨RX11, "takeLeak", "()I"⟩
abbrev cX11_isTold : ByteArray := prog_13_method_20_code
def yX11_isTold : MethodName := ⟨RX11, "isTold", "(II)Z"⟩
abbrev cX11_takeCrack : ByteArray := prog_13_method_21_code
def yX11_takeCrack : MethodName := ⟨RX11, "takeCrack", "()I"⟩
abbrev cX11_takeLike : ByteArray := prog_13_method_22_code
def yX11_takeLike : MethodName := ⟨RX11, "takeLike", "()I"⟩
abbrev cX11_takeWind : ByteArray := prog_13_method_23_code
def yX11_takeWind : MethodName := ⟨RX11, "takeWind", "()I"⟩
abbrev cX11_isFull : ByteArray := prog_13_method_24_code
def yX11_isFull : MethodName := ⟨RX11, "isFull", "(I)Z"⟩
abbrev cX11_takeBody : ByteArray := prog_13_method_25_code
def yX11_takeBody : MethodName := ⟨RX11, "takeBody", "(I)I"⟩
abbrev cX11_takeClause : ByteArray := prog_13_method_26_code
def yX11_takeClause : MethodName := ⟨RX11, "takeClause", "()I"⟩
abbrev cX11_copyRow : ByteArray := prog_13_method_27_code
def yX11_copyRow : MethodName := ⟨RX11, "copyRow", "([I[II)V"⟩
abbrev cX11_takeRead : ByteArray := prog_13_method_28_code
def yX11_takeRead : MethodName := ⟨RX11, "takeRead", "()V"⟩
abbrev cX11_wall : ByteArray := prog_13_method_29_code
def yX11_wall : MethodName := ⟨RX11, "wall", "()I"⟩
abbrev cX11_fault : ByteArray := prog_13_method_30_code
def yX11_fault : MethodName := ⟨RX11, "fault", "()I"⟩
abbrev cX11_shows : ByteArray := prog_13_method_31_code
def yX11_shows : MethodName := ⟨RX11, "shows", "()I"⟩
abbrev cX11_around : ByteArray := prog_13_method_32_code
def yX11_around : MethodName := ⟨RX11, "around", "(I)I"⟩
abbrev cX11_likeOf : ByteArray := prog_13_method_33_code
def yX11_likeOf : MethodName := ⟨RX11, "likeOf", "(I)I"⟩
abbrev cX11_whom : ByteArray := prog_13_method_34_code
def yX11_whom : MethodName := ⟨RX11, "whom", "()I"⟩
abbrev cX11_mayBe : ByteArray := prog_13_method_35_code
def yX11_mayBe : MethodName := ⟨RX11, "mayBe", "()I"⟩
abbrev cX11_groupOf : ByteArray := prog_13_method_36_code
def yX11_groupOf : MethodName := ⟨RX11, "groupOf", "(I)I"⟩
abbrev cX11_groups : ByteArray := prog_13_method_37_code
def yX11_groups : MethodName := ⟨RX11, "groups", "(Z)I"⟩
abbrev cX11_border : ByteArray := prog_13_method_38_code
def yX11_border : MethodName := ⟨RX11, "border", "()I"⟩
abbrev cX11_fullest : ByteArray := prog_13_method_39_code
def yX11_fullest : MethodName := ⟨RX11, "fullest", "()I"⟩
abbrev cX11_allWet : ByteArray := prog_13_method_40_code
def yX11_allWet : MethodName := ⟨RX11, "allWet", "()I"⟩
abbrev cX11_told : ByteArray := prog_13_method_41_code
def yX11_told : MethodName := ⟨RX11, "told", "(I)I"⟩
abbrev cX11_cell : ByteArray := prog_13_method_42_code
def yX11_cell : MethodName := ⟨RX11, "cell", "(I)I"⟩
abbrev cX11_leak : ByteArray := prog_13_method_43_code
def yX11_leak : MethodName := ⟨RX11, "leak", "(I)I"⟩
abbrev cX11_crack : ByteArray := prog_13_method_44_code
def yX11_crack : MethodName := ⟨RX11, "crack", "(II)I"⟩
abbrev cX11_likeness : ByteArray := prog_13_method_45_code
def yX11_likeness : MethodName := ⟨RX11, "likeness", "(II)I"⟩
abbrev cX11_give : ByteArray := prog_13_method_46_code
def yX11_give : MethodName := ⟨RX11, "give", "(II)V"⟩
abbrev cX11_runFrom : ByteArray := prog_13_method_47_code
def yX11_runFrom : MethodName := ⟨RX11, "runFrom", "(I)V"⟩
abbrev cX11_bound : ByteArray := prog_13_method_48_code
def yX11_bound : MethodName := ⟨RX11, "bound", "(I)I"⟩
abbrev cX11_pass : ByteArray := prog_13_method_49_code
def yX11_pass : MethodName := ⟨RX11, "pass", "(I)V"⟩
abbrev cX11_lookNow : ByteArray := prog_13_method_50_code
def yX11_lookNow : MethodName := ⟨RX11, "lookNow", "()V"⟩
abbrev cX11_remember : ByteArray := prog_13_method_51_code
def yX11_remember : MethodName := ⟨RX11, "remember", "()V"⟩
abbrev cX11_day : ByteArray := prog_13_method_52_code
def yX11_day : MethodName := ⟨RX11, "day", "(II)I"⟩
abbrev cX11_look : ByteArray := prog_13_method_53_code
def yX11_look : MethodName := ⟨RX11, "look", "()I"⟩
abbrev cX11_brush : ByteArray := prog_13_method_54_code
def yX11_brush : MethodName := ⟨RX11, "brush", "(I)I"⟩
abbrev cX11_lead : ByteArray := prog_13_method_55_code
def yX11_lead : MethodName := ⟨RX11, "lead", "(II)I"⟩
abbrev cX11_wind : ByteArray := prog_13_method_56_code
def yX11_wind : MethodName := ⟨RX11, "wind", "(I)I"⟩
abbrev cX11_fill : ByteArray := prog_13_method_57_code
def yX11_fill : MethodName := ⟨RX11, "fill", "(IZ)I"⟩
abbrev cX11_draw : ByteArray := prog_13_method_58_code
def yX11_draw : MethodName := ⟨RX11, "draw", "(I)I"⟩
abbrev cX11_dayByDraws : ByteArray := prog_13_method_59_code
def yX11_dayByDraws : MethodName := ⟨RX11, "dayByDraws", "()V"⟩
abbrev cX11_drift : ByteArray := prog_13_method_60_code
def yX11_drift : MethodName := ⟨RX11, "drift", "(I)I"⟩
abbrev cX11_undo : ByteArray := prog_13_method_61_code
def yX11_undo : MethodName := ⟨RX11, "undo", "()I"⟩
abbrev cX11_shownBy : ByteArray := prog_13_method_62_code
def yX11_shownBy : MethodName := ⟨RX11, "shownBy", "(II)I"⟩
abbrev cX11_shown : ByteArray := prog_13_method_63_code
def yX11_shown : MethodName := ⟨RX11, "shown", "(II)I"⟩
abbrev cX11_first : ByteArray := prog_13_method_64_code
def yX11_first : MethodName := ⟨RX11, "first", "(II)I"⟩
abbrev cX11_leadTo : ByteArray := prog_13_method_65_code
def yX11_leadTo : MethodName := ⟨RX11, "leadTo", "(IIIII)I"⟩
abbrev cX11_shownByLooks : ByteArray := prog_13_method_66_code
def yX11_shownByLooks : MethodName := ⟨RX11, "shownByLooks", "(III)I"⟩
abbrev cX11_often : ByteArray := prog_13_method_67_code
def yX11_often : MethodName := ⟨RX11, "often", "(IIII)I"⟩
abbrev cX11_wasRain : ByteArray := prog_13_method_68_code
def yX11_wasRain : MethodName := ⟨RX11, "wasRain", "(I)I"⟩
abbrev cX11_leftBy : ByteArray := prog_13_method_69_code
def yX11_leftBy : MethodName := ⟨RX11, "leftBy", "(I)I"⟩
abbrev cX11_rainToTell : ByteArray := prog_13_method_70_code
def yX11_rainToTell : MethodName := ⟨RX11, "rainToTell", "(I)I"⟩
abbrev cX11_dryIn : ByteArray := prog_13_method_71_code
def yX11_dryIn : MethodName := ⟨RX11, "dryIn", "()I"⟩
abbrev cX11_either : ByteArray := prog_13_method_72_code
def yX11_either : MethodName := ⟨RX11, "either", "(III)I"⟩
abbrev cX11_rainy : ByteArray := prog_13_method_73_code
def yX11_rainy : MethodName := ⟨RX11, "rainy", "(II)I"⟩
abbrev cX11_write : ByteArray := prog_13_method_74_code
def yX11_write : MethodName := ⟨RX11, "write", "(II)I"⟩
abbrev cX11_tear : ByteArray := prog_13_method_75_code
def yX11_tear : MethodName := ⟨RX11, "tear", "()I"⟩
abbrev cX11_judge : ByteArray := prog_13_method_76_code
def yX11_judge : MethodName := ⟨RX11, "judge", "()I"⟩
abbrev cX11_seed : ByteArray := prog_13_method_77_code
def yX11_seed : MethodName := ⟨RX11, "seed", "(I)I"⟩
abbrev cX11_keep : ByteArray := prog_13_method_78_code
def yX11_keep : MethodName := ⟨RX11, "keep", "(I)I"⟩
abbrev cX11_goBack : ByteArray := prog_13_method_79_code
def yX11_goBack : MethodName := ⟨RX11, "goBack", "(I)I"⟩
def RJ6 : String := "java/lang/Integer"
def TJ6 : u_T := fun k => match k with
  | _ => ("", "", "", false)
def tyJ6 : Nat → FieldType := fun k => match k with
  | _ => .int
abbrev wsJ60 : List Cond := u_ws RJ6 TJ6 0
theorem nmJ6 : ∀ a, a < 0 → ∀ b, b < 0 → a ≠ b → (TJ6 a).2.1 ≠ (TJ6 b).2.1 := by decide +kernel
theorem tyJ6_ok : ∀ k, k < 0 → parseFieldDescriptor (TJ6 k).2.2.1 = some (tyJ6 k) := by decide +kernel
abbrev cJ6_bitCount_0f7a4 : ByteArray := prog_14_method_49_code
def yJ6_bitCount_0f7a4 : MethodName := ⟨RJ6, "bitCount", "(I)I"⟩
def RJ9 : String := "java/lang/Math"
def TJ9 : u_T := fun k => match k with
  | _ => ("", "", "", false)
def tyJ9 : Nat → FieldType := fun k => match k with
  | _ => .int
abbrev wsJ90 : List Cond := u_ws RJ9 TJ9 0
theorem nmJ9 : ∀ a, a < 0 → ∀ b, b < 0 → a ≠ b → (TJ9 a).2.1 ≠ (TJ9 b).2.1 := by decide +kernel
theorem tyJ9_ok : ∀ k, k < 0 → parseFieldDescriptor (TJ9 k).2.2.1 = some (tyJ9 k) := by decide +kernel
abbrev cJ9_max_7cf53 : ByteArray := prog_15_method_65_code
def yJ9_max_7cf53 : MethodName := ⟨RJ9, "max", "(II)I"⟩
abbrev cJ9_min_7cf53 : ByteArray := prog_15_method_69_code
def yJ9_min_7cf53 : MethodName := ⟨RJ9, "min", "(II)I"⟩
def RJ10 : String := "java/lang/System"
def TJ10 : u_T := fun k => match k with
  | _ => ("", "", "", false)
def tyJ10 : Nat → FieldType := fun k => match k with
  | _ => .int
abbrev wsJ100 : List Cond := u_ws RJ10 TJ10 0
theorem nmJ10 : ∀ a, a < 0 → ∀ b, b < 0 → a ≠ b → (TJ10 a).2.1 ≠ (TJ10 b).2.1 := by decide +kernel
theorem tyJ10_ok : ∀ k, k < 0 → parseFieldDescriptor (TJ10 k).2.2.1 = some (tyJ10 k) := by decide +kernel
def RL : String := "DampLikenessLaw"
abbrev cL_law : ByteArray := code
def yL_law : MethodName := ⟨RL, "law", "([I)Z"⟩
def WT : List Cond := lw_tbl.filter goodWord
theorem wt_mem {w : Cond} (i : Nat) (h : lw_tbl[i]? = some w) (hg : goodWord w = true) : w ∈ WT := List.mem_filter.mpr ⟨List.mem_of_getElem? h, hg⟩
theorem wt_good {big : List Cond} (hb : ∀ w ∈ WT, w ∈ big) : GoodIn big WT := fun w hw => ⟨hb w hw, good_of_word (List.mem_filter.mp hw).2⟩
theorem wt_code {c c' : Cond} (h : c' ∈ WT) : GoodIn (c :: WT) (c' :: WT) := fun w hw => by
  rcases List.mem_cons.mp hw with rfl | hw
  · exact ⟨List.mem_cons_of_mem _ h, good_of_word (List.mem_filter.mp h).2⟩
  · exact ⟨List.mem_cons_of_mem _ hw, good_of_word (List.mem_filter.mp hw).2⟩
theorem wt_codeL {c' : Cond} (h : c' ∈ WT) : GoodIn lw_tbl (c' :: WT) := fun w hw => by
  rcases List.mem_cons.mp hw with rfl | hw
  · exact ⟨(List.mem_filter.mp h).1, good_of_word (List.mem_filter.mp h).2⟩
  · exact ⟨(List.mem_filter.mp hw).1, good_of_word (List.mem_filter.mp hw).2⟩
abbrev jcls : List vw_C := [(RX0, TX0, 3), (RX1, TX1, 7), (RX2, TX2, 1), (RX3, TX3, 2), (RX4, TX4, 3), (RX6, TX6, 3), (RX7, TX7, 12), (RX8, TX8, 7), (RX9, TX9, 8), (RX10, TX10, 10), (RX11, TX11, 40)]
set_option maxRecDepth 20000 in
theorem jin0 : ∀ w ∈ u_ws RX0 TX0 3, w ∈ WT := fun w h => List.mem_filter.mpr ⟨(goodIn_r (big := lw_tbl) (u_ws RX0 TX0 3) [235, 237, 239] (by decide +kernel) (by decide +kernel) w h).1, List.all_eq_true.mp (by decide +kernel : (u_ws RX0 TX0 3).all goodWord = true) w h⟩
set_option maxRecDepth 20000 in
theorem jin1 : ∀ w ∈ u_ws RX1 TX1 7, w ∈ WT := fun w h => List.mem_filter.mpr ⟨(goodIn_r (big := lw_tbl) (u_ws RX1 TX1 7) [140, 142, 144, 146, 148, 150, 152] (by decide +kernel) (by decide +kernel) w h).1, List.all_eq_true.mp (by decide +kernel : (u_ws RX1 TX1 7).all goodWord = true) w h⟩
set_option maxRecDepth 20000 in
theorem jin2 : ∀ w ∈ u_ws RX2 TX2 1, w ∈ WT := fun w h => List.mem_filter.mpr ⟨(goodIn_r (big := lw_tbl) (u_ws RX2 TX2 1) [250] (by decide +kernel) (by decide +kernel) w h).1, List.all_eq_true.mp (by decide +kernel : (u_ws RX2 TX2 1).all goodWord = true) w h⟩
set_option maxRecDepth 20000 in
theorem jin3 : ∀ w ∈ u_ws RX3 TX3 2, w ∈ WT := fun w h => List.mem_filter.mpr ⟨(goodIn_r (big := lw_tbl) (u_ws RX3 TX3 2) [163, 165] (by decide +kernel) (by decide +kernel) w h).1, List.all_eq_true.mp (by decide +kernel : (u_ws RX3 TX3 2).all goodWord = true) w h⟩
set_option maxRecDepth 20000 in
theorem jin4 : ∀ w ∈ u_ws RX4 TX4 3, w ∈ WT := fun w h => List.mem_filter.mpr ⟨(goodIn_r (big := lw_tbl) (u_ws RX4 TX4 3) [336, 338, 340] (by decide +kernel) (by decide +kernel) w h).1, List.all_eq_true.mp (by decide +kernel : (u_ws RX4 TX4 3).all goodWord = true) w h⟩
set_option maxRecDepth 20000 in
theorem jin6 : ∀ w ∈ u_ws RX6 TX6 3, w ∈ WT := fun w h => List.mem_filter.mpr ⟨(goodIn_r (big := lw_tbl) (u_ws RX6 TX6 3) [218, 220, 222] (by decide +kernel) (by decide +kernel) w h).1, List.all_eq_true.mp (by decide +kernel : (u_ws RX6 TX6 3).all goodWord = true) w h⟩
set_option maxRecDepth 20000 in
theorem jin7 : ∀ w ∈ u_ws RX7 TX7 12, w ∈ WT := fun w h => List.mem_filter.mpr ⟨(goodIn_r (big := lw_tbl) (u_ws RX7 TX7 12) [300, 302, 304, 306, 308, 310, 314, 316, 318, 320, 322, 312] (by decide +kernel) (by decide +kernel) w h).1, List.all_eq_true.mp (by decide +kernel : (u_ws RX7 TX7 12).all goodWord = true) w h⟩
set_option maxRecDepth 20000 in
theorem jin8 : ∀ w ∈ u_ws RX8 TX8 7, w ∈ WT := fun w h => List.mem_filter.mpr ⟨(goodIn_r (big := lw_tbl) (u_ws RX8 TX8 7) [98, 100, 102, 104, 106, 108, 110] (by decide +kernel) (by decide +kernel) w h).1, List.all_eq_true.mp (by decide +kernel : (u_ws RX8 TX8 7).all goodWord = true) w h⟩
set_option maxRecDepth 20000 in
theorem jin9 : ∀ w ∈ u_ws RX9 TX9 8, w ∈ WT := fun w h => List.mem_filter.mpr ⟨(goodIn_r (big := lw_tbl) (u_ws RX9 TX9 8) [189, 191, 193, 195, 197, 199, 201, 203] (by decide +kernel) (by decide +kernel) w h).1, List.all_eq_true.mp (by decide +kernel : (u_ws RX9 TX9 8).all goodWord = true) w h⟩
set_option maxRecDepth 20000 in
theorem jin10 : ∀ w ∈ u_ws RX10 TX10 10, w ∈ WT := fun w h => List.mem_filter.mpr ⟨(goodIn_r (big := lw_tbl) (u_ws RX10 TX10 10) [353, 355, 357, 359, 361, 363, 365, 367, 369, 371] (by decide +kernel) (by decide +kernel) w h).1, List.all_eq_true.mp (by decide +kernel : (u_ws RX10 TX10 10).all goodWord = true) w h⟩
set_option maxRecDepth 20000 in
theorem jin11 : ∀ w ∈ u_ws RX11 TX11 40, w ∈ WT := fun w h => List.mem_filter.mpr ⟨(goodIn_r (big := lw_tbl) (u_ws RX11 TX11 40) [885, 887, 889, 891, 893, 895, 897, 899, 901, 903, 905, 907, 909, 911, 913, 915, 917, 919, 921, 923, 925, 927, 929, 931, 933, 935, 937, 939, 941, 943, 945, 947, 949, 951, 953, 955, 957, 959, 961, 963] (by decide +kernel) (by decide +kernel) w h).1, List.all_eq_true.mp (by decide +kernel : (u_ws RX11 TX11 40).all goodWord = true) w h⟩
