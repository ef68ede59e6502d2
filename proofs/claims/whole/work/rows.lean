section
/-- a private method of a class that the tables say can be made, by its rows of tables_1 -/
def lw_okq (q : MethodName × Nat) : Prop := (q.1.cls ≠ "java/lang/invoke/MethodHandle" ∧ q.1.cls ≠ "java/lang/invoke/VarHandle") ∧ Cond.instantiable q.1.cls q.2 ∈ tables_1 ∧ Cond.privateMethod q.1 ∈ tables_1 ∧ Cond.instanceMethod q.1 ∈ tables_1
theorem lw_p0 : lw_okq (⟨"DampLikeness$Reader", "peek", "()I"⟩, 7) := ⟨⟨by decide +kernel, by decide +kernel⟩, List.mem_of_getElem? (i := 25) (by decide +kernel), List.mem_of_getElem? (i := 344) (by decide +kernel), List.mem_of_getElem? (i := 345) (by decide +kernel)⟩
theorem lw_p1 : lw_okq (⟨"DampLikeness$Reader", "readClause", "(LDampLikeness$Plan;)V"⟩, 7) := ⟨⟨by decide +kernel, by decide +kernel⟩, List.mem_of_getElem? (i := 25) (by decide +kernel), List.mem_of_getElem? (i := 351) (by decide +kernel), List.mem_of_getElem? (i := 352) (by decide +kernel)⟩
theorem lw_p2 : lw_okq (⟨"DampLikeness$Reader", "fail", "(II)V"⟩, 7) := ⟨⟨by decide +kernel, by decide +kernel⟩, List.mem_of_getElem? (i := 25) (by decide +kernel), List.mem_of_getElem? (i := 355) (by decide +kernel), List.mem_of_getElem? (i := 356) (by decide +kernel)⟩
theorem lw_p3 : lw_okq (⟨"DampLikeness$Reader", "readSize", "(LDampLikeness$Plan;)V"⟩, 7) := ⟨⟨by decide +kernel, by decide +kernel⟩, List.mem_of_getElem? (i := 25) (by decide +kernel), List.mem_of_getElem? (i := 359) (by decide +kernel), List.mem_of_getElem? (i := 360) (by decide +kernel)⟩
theorem lw_p4 : lw_okq (⟨"DampLikeness$Reader", "takeWord", "(Z)V"⟩, 7) := ⟨⟨by decide +kernel, by decide +kernel⟩, List.mem_of_getElem? (i := 25) (by decide +kernel), List.mem_of_getElem? (i := 363) (by decide +kernel), List.mem_of_getElem? (i := 364) (by decide +kernel)⟩
theorem lw_p5 : lw_okq (⟨"DampLikeness$Reader", "takeNumber", "(II)I"⟩, 7) := ⟨⟨by decide +kernel, by decide +kernel⟩, List.mem_of_getElem? (i := 25) (by decide +kernel), List.mem_of_getElem? (i := 367) (by decide +kernel), List.mem_of_getElem? (i := 368) (by decide +kernel)⟩
theorem lw_p6 : lw_okq (⟨"DampLikeness$Reader", "takeSign", "(I)Z"⟩, 7) := ⟨⟨by decide +kernel, by decide +kernel⟩, List.mem_of_getElem? (i := 25) (by decide +kernel), List.mem_of_getElem? (i := 375) (by decide +kernel), List.mem_of_getElem? (i := 376) (by decide +kernel)⟩
theorem lw_p7 : lw_okq (⟨"DampLikeness$Reader", "readLeak", "(LDampLikeness$Plan;)V"⟩, 7) := ⟨⟨by decide +kernel, by decide +kernel⟩, List.mem_of_getElem? (i := 25) (by decide +kernel), List.mem_of_getElem? (i := 380) (by decide +kernel), List.mem_of_getElem? (i := 381) (by decide +kernel)⟩
theorem lw_p8 : lw_okq (⟨"DampLikeness$Reader", "readCrack", "(LDampLikeness$Plan;)V"⟩, 7) := ⟨⟨by decide +kernel, by decide +kernel⟩, List.mem_of_getElem? (i := 25) (by decide +kernel), List.mem_of_getElem? (i := 393) (by decide +kernel), List.mem_of_getElem? (i := 394) (by decide +kernel)⟩
theorem lw_p9 : lw_okq (⟨"DampLikeness$Reader", "readFace", "(LDampLikeness$Plan;)V"⟩, 7) := ⟨⟨by decide +kernel, by decide +kernel⟩, List.mem_of_getElem? (i := 25) (by decide +kernel), List.mem_of_getElem? (i := 419) (by decide +kernel), List.mem_of_getElem? (i := 420) (by decide +kernel)⟩
theorem lw_p10 : lw_okq (⟨"DampLikeness$Reader", "readWind", "(LDampLikeness$Plan;)V"⟩, 7) := ⟨⟨by decide +kernel, by decide +kernel⟩, List.mem_of_getElem? (i := 25) (by decide +kernel), List.mem_of_getElem? (i := 427) (by decide +kernel), List.mem_of_getElem? (i := 428) (by decide +kernel)⟩
theorem lw_p11 : lw_okq (⟨"DampLikeness", "noWall", "()Z"⟩, 10) := ⟨⟨by decide +kernel, by decide +kernel⟩, List.mem_of_getElem? (i := 17) (by decide +kernel), List.mem_of_getElem? (i := 545) (by decide +kernel), List.mem_of_getElem? (i := 546) (by decide +kernel)⟩
theorem lw_p12 : lw_okq (⟨"DampLikeness$Flow", "runDownAndByWind", "(LDampLikeness$Plan;LDampLikeness$Damp;)V"⟩, 2) := ⟨⟨by decide +kernel, by decide +kernel⟩, List.mem_of_getElem? (i := 98) (by decide +kernel), List.mem_of_getElem? (i := 575) (by decide +kernel), List.mem_of_getElem? (i := 576) (by decide +kernel)⟩
theorem lw_p13 : lw_okq (⟨"DampLikeness$Flow", "give", "(LDampLikeness$Damp;II)V"⟩, 2) := ⟨⟨by decide +kernel, by decide +kernel⟩, List.mem_of_getElem? (i := 98) (by decide +kernel), List.mem_of_getElem? (i := 583) (by decide +kernel), List.mem_of_getElem? (i := 584) (by decide +kernel)⟩
theorem lw_p14 : lw_okq (⟨"DampLikeness$Flow", "runByCracks", "(LDampLikeness$Plan;LDampLikeness$Damp;)V"⟩, 2) := ⟨⟨by decide +kernel, by decide +kernel⟩, List.mem_of_getElem? (i := 98) (by decide +kernel), List.mem_of_getElem? (i := 591) (by decide +kernel), List.mem_of_getElem? (i := 592) (by decide +kernel)⟩
theorem lw_p15 : lw_okq (⟨"DampLikeness$Flow", "settle", "(LDampLikeness$Damp;I)V"⟩, 2) := ⟨⟨by decide +kernel, by decide +kernel⟩, List.mem_of_getElem? (i := 98) (by decide +kernel), List.mem_of_getElem? (i := 596) (by decide +kernel), List.mem_of_getElem? (i := 597) (by decide +kernel)⟩
def lw_privs_1 : List (MethodName × Nat) := [(⟨"DampLikeness$Reader", "peek", "()I"⟩, 7), (⟨"DampLikeness$Reader", "readClause", "(LDampLikeness$Plan;)V"⟩, 7), (⟨"DampLikeness$Reader", "fail", "(II)V"⟩, 7), (⟨"DampLikeness$Reader", "readSize", "(LDampLikeness$Plan;)V"⟩, 7), (⟨"DampLikeness$Reader", "takeWord", "(Z)V"⟩, 7), (⟨"DampLikeness$Reader", "takeNumber", "(II)I"⟩, 7), (⟨"DampLikeness$Reader", "takeSign", "(I)Z"⟩, 7), (⟨"DampLikeness$Reader", "readLeak", "(LDampLikeness$Plan;)V"⟩, 7), (⟨"DampLikeness$Reader", "readCrack", "(LDampLikeness$Plan;)V"⟩, 7), (⟨"DampLikeness$Reader", "readFace", "(LDampLikeness$Plan;)V"⟩, 7), (⟨"DampLikeness$Reader", "readWind", "(LDampLikeness$Plan;)V"⟩, 7), (⟨"DampLikeness", "noWall", "()Z"⟩, 10), (⟨"DampLikeness$Flow", "runDownAndByWind", "(LDampLikeness$Plan;LDampLikeness$Damp;)V"⟩, 2), (⟨"DampLikeness$Flow", "give", "(LDampLikeness$Damp;II)V"⟩, 2), (⟨"DampLikeness$Flow", "runByCracks", "(LDampLikeness$Plan;LDampLikeness$Damp;)V"⟩, 2), (⟨"DampLikeness$Flow", "settle", "(LDampLikeness$Damp;I)V"⟩, 2)]
theorem lw_r1 : ∀ q ∈ lw_privs_1, lw_okq q := List.forall_mem_cons.mpr ⟨lw_p0, List.forall_mem_cons.mpr ⟨lw_p1, List.forall_mem_cons.mpr ⟨lw_p2, List.forall_mem_cons.mpr ⟨lw_p3, List.forall_mem_cons.mpr ⟨lw_p4, List.forall_mem_cons.mpr ⟨lw_p5, List.forall_mem_cons.mpr ⟨lw_p6, List.forall_mem_cons.mpr ⟨lw_p7, List.forall_mem_cons.mpr ⟨lw_p8, List.forall_mem_cons.mpr ⟨lw_p9, List.forall_mem_cons.mpr ⟨lw_p10, List.forall_mem_cons.mpr ⟨lw_p11, List.forall_mem_cons.mpr ⟨lw_p12, List.forall_mem_cons.mpr ⟨lw_p13, List.forall_mem_cons.mpr ⟨lw_p14, List.forall_mem_cons.mpr ⟨lw_p15, fun _ h => absurd h List.not_mem_nil⟩⟩⟩⟩⟩⟩⟩⟩⟩⟩⟩⟩⟩⟩⟩⟩
theorem lw_p16 : lw_okq (⟨"DampLikeness", "driftOneDay", "()V"⟩, 10) := ⟨⟨by decide +kernel, by decide +kernel⟩, List.mem_of_getElem? (i := 17) (by decide +kernel), List.mem_of_getElem? (i := 639) (by decide +kernel), List.mem_of_getElem? (i := 640) (by decide +kernel)⟩
theorem lw_p17 : lw_okq (⟨"DampLikeness$Trial", "weigh", "(LDampLikeness$Damp;I)V"⟩, 8) := ⟨⟨by decide +kernel, by decide +kernel⟩, List.mem_of_getElem? (i := 111) (by decide +kernel), List.mem_of_getElem? (i := 702) (by decide +kernel), List.mem_of_getElem? (i := 703) (by decide +kernel)⟩
theorem lw_p18 : lw_okq (⟨"DampLikenessModel", "here", "()I"⟩, 40) := ⟨⟨by decide +kernel, by decide +kernel⟩, List.mem_of_getElem? (i := 782) (by decide +kernel), List.mem_of_getElem? (i := 924) (by decide +kernel), List.mem_of_getElem? (i := 925) (by decide +kernel)⟩
theorem lw_p19 : lw_okq (⟨"DampLikenessModel", "takeClause", "()I"⟩, 40) := ⟨⟨by decide +kernel, by decide +kernel⟩, List.mem_of_getElem? (i := 782) (by decide +kernel), List.mem_of_getElem? (i := 928) (by decide +kernel), List.mem_of_getElem? (i := 929) (by decide +kernel)⟩
theorem lw_p20 : lw_okq (⟨"DampLikenessModel", "fails", "(II)I"⟩, 40) := ⟨⟨by decide +kernel, by decide +kernel⟩, List.mem_of_getElem? (i := 782) (by decide +kernel), List.mem_of_getElem? (i := 932) (by decide +kernel), List.mem_of_getElem? (i := 933) (by decide +kernel)⟩
theorem lw_p21 : lw_okq (⟨"DampLikenessModel", "isFull", "(I)Z"⟩, 40) := ⟨⟨by decide +kernel, by decide +kernel⟩, List.mem_of_getElem? (i := 782) (by decide +kernel), List.mem_of_getElem? (i := 936) (by decide +kernel), List.mem_of_getElem? (i := 937) (by decide +kernel)⟩
theorem lw_p22 : lw_okq (⟨"DampLikenessModel", "takeBody", "(I)I"⟩, 40) := ⟨⟨by decide +kernel, by decide +kernel⟩, List.mem_of_getElem? (i := 782) (by decide +kernel), List.mem_of_getElem? (i := 940) (by decide +kernel), List.mem_of_getElem? (i := 941) (by decide +kernel)⟩
theorem lw_p23 : lw_okq (⟨"DampLikenessModel", "takeWall", "()I"⟩, 40) := ⟨⟨by decide +kernel, by decide +kernel⟩, List.mem_of_getElem? (i := 782) (by decide +kernel), List.mem_of_getElem? (i := 944) (by decide +kernel), List.mem_of_getElem? (i := 945) (by decide +kernel)⟩
theorem lw_p24 : lw_okq (⟨"DampLikenessModel", "takeNumber", "(II)I"⟩, 40) := ⟨⟨by decide +kernel, by decide +kernel⟩, List.mem_of_getElem? (i := 782) (by decide +kernel), List.mem_of_getElem? (i := 948) (by decide +kernel), List.mem_of_getElem? (i := 949) (by decide +kernel)⟩
theorem lw_p25 : lw_okq (⟨"DampLikenessModel", "takeLeak", "()I"⟩, 40) := ⟨⟨by decide +kernel, by decide +kernel⟩, List.mem_of_getElem? (i := 782) (by decide +kernel), List.mem_of_getElem? (i := 954) (by decide +kernel), List.mem_of_getElem? (i := 955) (by decide +kernel)⟩
theorem lw_p26 : lw_okq (⟨"DampLikenessModel", "readCells", "()I"⟩, 40) := ⟨⟨by decide +kernel, by decide +kernel⟩, List.mem_of_getElem? (i := 782) (by decide +kernel), List.mem_of_getElem? (i := 958) (by decide +kernel), List.mem_of_getElem? (i := 959) (by decide +kernel)⟩
theorem lw_p27 : lw_okq (⟨"DampLikenessModel", "into", "([IIII)I"⟩, 40) := ⟨⟨by decide +kernel, by decide +kernel⟩, List.mem_of_getElem? (i := 782) (by decide +kernel), List.mem_of_getElem? (i := 962) (by decide +kernel), List.mem_of_getElem? (i := 963) (by decide +kernel)⟩
theorem lw_p28 : lw_okq (⟨"DampLikenessModel", "takeCrack", "()I"⟩, 40) := ⟨⟨by decide +kernel, by decide +kernel⟩, List.mem_of_getElem? (i := 782) (by decide +kernel), List.mem_of_getElem? (i := 966) (by decide +kernel), List.mem_of_getElem? (i := 967) (by decide +kernel)⟩
theorem lw_p29 : lw_okq (⟨"DampLikenessModel", "isTold", "(II)Z"⟩, 40) := ⟨⟨by decide +kernel, by decide +kernel⟩, List.mem_of_getElem? (i := 782) (by decide +kernel), List.mem_of_getElem? (i := 973) (by decide +kernel), List.mem_of_getElem? (i := 974) (by decide +kernel)⟩
theorem lw_p30 : lw_okq (⟨"DampLikenessModel", "takeLike", "()I"⟩, 40) := ⟨⟨by decide +kernel, by decide +kernel⟩, List.mem_of_getElem? (i := 782) (by decide +kernel), List.mem_of_getElem? (i := 977) (by decide +kernel), List.mem_of_getElem? (i := 978) (by decide +kernel)⟩
theorem lw_p31 : lw_okq (⟨"DampLikenessModel", "takeWind", "()I"⟩, 40) := ⟨⟨by decide +kernel, by decide +kernel⟩, List.mem_of_getElem? (i := 782) (by decide +kernel), List.mem_of_getElem? (i := 981) (by decide +kernel), List.mem_of_getElem? (i := 982) (by decide +kernel)⟩
def lw_privs_2 : List (MethodName × Nat) := [(⟨"DampLikeness", "driftOneDay", "()V"⟩, 10), (⟨"DampLikeness$Trial", "weigh", "(LDampLikeness$Damp;I)V"⟩, 8), (⟨"DampLikenessModel", "here", "()I"⟩, 40), (⟨"DampLikenessModel", "takeClause", "()I"⟩, 40), (⟨"DampLikenessModel", "fails", "(II)I"⟩, 40), (⟨"DampLikenessModel", "isFull", "(I)Z"⟩, 40), (⟨"DampLikenessModel", "takeBody", "(I)I"⟩, 40), (⟨"DampLikenessModel", "takeWall", "()I"⟩, 40), (⟨"DampLikenessModel", "takeNumber", "(II)I"⟩, 40), (⟨"DampLikenessModel", "takeLeak", "()I"⟩, 40), (⟨"DampLikenessModel", "readCells", "()I"⟩, 40), (⟨"DampLikenessModel", "into", "([IIII)I"⟩, 40), (⟨"DampLikenessModel", "takeCrack", "()I"⟩, 40), (⟨"DampLikenessModel", "isTold", "(II)Z"⟩, 40), (⟨"DampLikenessModel", "takeLike", "()I"⟩, 40), (⟨"DampLikenessModel", "takeWind", "()I"⟩, 40)]
theorem lw_r2 : ∀ q ∈ lw_privs_2, lw_okq q := List.forall_mem_cons.mpr ⟨lw_p16, List.forall_mem_cons.mpr ⟨lw_p17, List.forall_mem_cons.mpr ⟨lw_p18, List.forall_mem_cons.mpr ⟨lw_p19, List.forall_mem_cons.mpr ⟨lw_p20, List.forall_mem_cons.mpr ⟨lw_p21, List.forall_mem_cons.mpr ⟨lw_p22, List.forall_mem_cons.mpr ⟨lw_p23, List.forall_mem_cons.mpr ⟨lw_p24, List.forall_mem_cons.mpr ⟨lw_p25, List.forall_mem_cons.mpr ⟨lw_p26, List.forall_mem_cons.mpr ⟨lw_p27, List.forall_mem_cons.mpr ⟨lw_p28, List.forall_mem_cons.mpr ⟨lw_p29, List.forall_mem_cons.mpr ⟨lw_p30, List.forall_mem_cons.mpr ⟨lw_p31, fun _ h => absurd h List.not_mem_nil⟩⟩⟩⟩⟩⟩⟩⟩⟩⟩⟩⟩⟩⟩⟩⟩
theorem lw_p32 : lw_okq (⟨"DampLikenessModel", "takeRead", "()V"⟩, 40) := ⟨⟨by decide +kernel, by decide +kernel⟩, List.mem_of_getElem? (i := 782) (by decide +kernel), List.mem_of_getElem? (i := 985) (by decide +kernel), List.mem_of_getElem? (i := 986) (by decide +kernel)⟩
theorem lw_p33 : lw_okq (⟨"DampLikenessModel", "cells", "()I"⟩, 40) := ⟨⟨by decide +kernel, by decide +kernel⟩, List.mem_of_getElem? (i := 782) (by decide +kernel), List.mem_of_getElem? (i := 992) (by decide +kernel), List.mem_of_getElem? (i := 993) (by decide +kernel)⟩
theorem lw_p34 : lw_okq (⟨"DampLikenessModel", "shows", "()I"⟩, 40) := ⟨⟨by decide +kernel, by decide +kernel⟩, List.mem_of_getElem? (i := 782) (by decide +kernel), List.mem_of_getElem? (i := 1004) (by decide +kernel), List.mem_of_getElem? (i := 1005) (by decide +kernel)⟩
theorem lw_p35 : lw_okq (⟨"DampLikenessModel", "allWet", "()I"⟩, 40) := ⟨⟨by decide +kernel, by decide +kernel⟩, List.mem_of_getElem? (i := 782) (by decide +kernel), List.mem_of_getElem? (i := 1008) (by decide +kernel), List.mem_of_getElem? (i := 1009) (by decide +kernel)⟩
theorem lw_p36 : lw_okq (⟨"DampLikenessModel", "whom", "()I"⟩, 40) := ⟨⟨by decide +kernel, by decide +kernel⟩, List.mem_of_getElem? (i := 782) (by decide +kernel), List.mem_of_getElem? (i := 1012) (by decide +kernel), List.mem_of_getElem? (i := 1013) (by decide +kernel)⟩
theorem lw_p37 : lw_okq (⟨"DampLikenessModel", "likeOf", "(I)I"⟩, 40) := ⟨⟨by decide +kernel, by decide +kernel⟩, List.mem_of_getElem? (i := 782) (by decide +kernel), List.mem_of_getElem? (i := 1016) (by decide +kernel), List.mem_of_getElem? (i := 1017) (by decide +kernel)⟩
theorem lw_p38 : lw_okq (⟨"DampLikenessModel", "mayBe", "()I"⟩, 40) := ⟨⟨by decide +kernel, by decide +kernel⟩, List.mem_of_getElem? (i := 782) (by decide +kernel), List.mem_of_getElem? (i := 1023) (by decide +kernel), List.mem_of_getElem? (i := 1024) (by decide +kernel)⟩
theorem lw_p39 : lw_okq (⟨"DampLikenessModel", "groups", "(Z)I"⟩, 40) := ⟨⟨by decide +kernel, by decide +kernel⟩, List.mem_of_getElem? (i := 782) (by decide +kernel), List.mem_of_getElem? (i := 1027) (by decide +kernel), List.mem_of_getElem? (i := 1028) (by decide +kernel)⟩
theorem lw_p40 : lw_okq (⟨"DampLikenessModel", "groupOf", "(I)I"⟩, 40) := ⟨⟨by decide +kernel, by decide +kernel⟩, List.mem_of_getElem? (i := 782) (by decide +kernel), List.mem_of_getElem? (i := 1034) (by decide +kernel), List.mem_of_getElem? (i := 1035) (by decide +kernel)⟩
theorem lw_p41 : lw_okq (⟨"DampLikenessModel", "around", "(I)I"⟩, 40) := ⟨⟨by decide +kernel, by decide +kernel⟩, List.mem_of_getElem? (i := 782) (by decide +kernel), List.mem_of_getElem? (i := 1038) (by decide +kernel), List.mem_of_getElem? (i := 1039) (by decide +kernel)⟩
theorem lw_p42 : lw_okq (⟨"DampLikenessModel", "border", "()I"⟩, 40) := ⟨⟨by decide +kernel, by decide +kernel⟩, List.mem_of_getElem? (i := 782) (by decide +kernel), List.mem_of_getElem? (i := 1042) (by decide +kernel), List.mem_of_getElem? (i := 1043) (by decide +kernel)⟩
theorem lw_p43 : lw_okq (⟨"DampLikenessModel", "fullest", "()I"⟩, 40) := ⟨⟨by decide +kernel, by decide +kernel⟩, List.mem_of_getElem? (i := 782) (by decide +kernel), List.mem_of_getElem? (i := 1046) (by decide +kernel), List.mem_of_getElem? (i := 1047) (by decide +kernel)⟩
theorem lw_p44 : lw_okq (⟨"DampLikenessModel", "isCell", "(I)Z"⟩, 40) := ⟨⟨by decide +kernel, by decide +kernel⟩, List.mem_of_getElem? (i := 782) (by decide +kernel), List.mem_of_getElem? (i := 1054) (by decide +kernel), List.mem_of_getElem? (i := 1055) (by decide +kernel)⟩
theorem lw_p45 : lw_okq (⟨"DampLikenessModel", "isLeak", "(I)Z"⟩, 40) := ⟨⟨by decide +kernel, by decide +kernel⟩, List.mem_of_getElem? (i := 782) (by decide +kernel), List.mem_of_getElem? (i := 1063) (by decide +kernel), List.mem_of_getElem? (i := 1064) (by decide +kernel)⟩
theorem lw_p46 : lw_okq (⟨"DampLikenessModel", "isCrack", "(I)Z"⟩, 40) := ⟨⟨by decide +kernel, by decide +kernel⟩, List.mem_of_getElem? (i := 782) (by decide +kernel), List.mem_of_getElem? (i := 1071) (by decide +kernel), List.mem_of_getElem? (i := 1072) (by decide +kernel)⟩
theorem lw_p47 : lw_okq (⟨"DampLikenessModel", "isLike", "(I)Z"⟩, 40) := ⟨⟨by decide +kernel, by decide +kernel⟩, List.mem_of_getElem? (i := 782) (by decide +kernel), List.mem_of_getElem? (i := 1079) (by decide +kernel), List.mem_of_getElem? (i := 1080) (by decide +kernel)⟩
def lw_privs_3 : List (MethodName × Nat) := [(⟨"DampLikenessModel", "takeRead", "()V"⟩, 40), (⟨"DampLikenessModel", "cells", "()I"⟩, 40), (⟨"DampLikenessModel", "shows", "()I"⟩, 40), (⟨"DampLikenessModel", "allWet", "()I"⟩, 40), (⟨"DampLikenessModel", "whom", "()I"⟩, 40), (⟨"DampLikenessModel", "likeOf", "(I)I"⟩, 40), (⟨"DampLikenessModel", "mayBe", "()I"⟩, 40), (⟨"DampLikenessModel", "groups", "(Z)I"⟩, 40), (⟨"DampLikenessModel", "groupOf", "(I)I"⟩, 40), (⟨"DampLikenessModel", "around", "(I)I"⟩, 40), (⟨"DampLikenessModel", "border", "()I"⟩, 40), (⟨"DampLikenessModel", "fullest", "()I"⟩, 40), (⟨"DampLikenessModel", "isCell", "(I)Z"⟩, 40), (⟨"DampLikenessModel", "isLeak", "(I)Z"⟩, 40), (⟨"DampLikenessModel", "isCrack", "(I)Z"⟩, 40), (⟨"DampLikenessModel", "isLike", "(I)Z"⟩, 40)]
theorem lw_r3 : ∀ q ∈ lw_privs_3, lw_okq q := List.forall_mem_cons.mpr ⟨lw_p32, List.forall_mem_cons.mpr ⟨lw_p33, List.forall_mem_cons.mpr ⟨lw_p34, List.forall_mem_cons.mpr ⟨lw_p35, List.forall_mem_cons.mpr ⟨lw_p36, List.forall_mem_cons.mpr ⟨lw_p37, List.forall_mem_cons.mpr ⟨lw_p38, List.forall_mem_cons.mpr ⟨lw_p39, List.forall_mem_cons.mpr ⟨lw_p40, List.forall_mem_cons.mpr ⟨lw_p41, List.forall_mem_cons.mpr ⟨lw_p42, List.forall_mem_cons.mpr ⟨lw_p43, List.forall_mem_cons.mpr ⟨lw_p44, List.forall_mem_cons.mpr ⟨lw_p45, List.forall_mem_cons.mpr ⟨lw_p46, List.forall_mem_cons.mpr ⟨lw_p47, fun _ h => absurd h List.not_mem_nil⟩⟩⟩⟩⟩⟩⟩⟩⟩⟩⟩⟩⟩⟩⟩⟩
theorem lw_p48 : lw_okq (⟨"DampLikenessModel", "remember", "()V"⟩, 40) := ⟨⟨by decide +kernel, by decide +kernel⟩, List.mem_of_getElem? (i := 782) (by decide +kernel), List.mem_of_getElem? (i := 1090) (by decide +kernel), List.mem_of_getElem? (i := 1091) (by decide +kernel)⟩
theorem lw_p49 : lw_okq (⟨"DampLikenessModel", "pass", "(I)V"⟩, 40) := ⟨⟨by decide +kernel, by decide +kernel⟩, List.mem_of_getElem? (i := 782) (by decide +kernel), List.mem_of_getElem? (i := 1094) (by decide +kernel), List.mem_of_getElem? (i := 1095) (by decide +kernel)⟩
theorem lw_p50 : lw_okq (⟨"DampLikenessModel", "runFrom", "(I)V"⟩, 40) := ⟨⟨by decide +kernel, by decide +kernel⟩, List.mem_of_getElem? (i := 782) (by decide +kernel), List.mem_of_getElem? (i := 1101) (by decide +kernel), List.mem_of_getElem? (i := 1102) (by decide +kernel)⟩
theorem lw_p51 : lw_okq (⟨"DampLikenessModel", "give", "(II)V"⟩, 40) := ⟨⟨by decide +kernel, by decide +kernel⟩, List.mem_of_getElem? (i := 782) (by decide +kernel), List.mem_of_getElem? (i := 1105) (by decide +kernel), List.mem_of_getElem? (i := 1106) (by decide +kernel)⟩
theorem lw_p52 : lw_okq (⟨"DampLikenessModel", "lookNow", "()V"⟩, 40) := ⟨⟨by decide +kernel, by decide +kernel⟩, List.mem_of_getElem? (i := 782) (by decide +kernel), List.mem_of_getElem? (i := 1113) (by decide +kernel), List.mem_of_getElem? (i := 1114) (by decide +kernel)⟩
theorem lw_p53 : lw_okq (⟨"DampLikenessModel", "dayByDraws", "()V"⟩, 40) := ⟨⟨by decide +kernel, by decide +kernel⟩, List.mem_of_getElem? (i := 782) (by decide +kernel), List.mem_of_getElem? (i := 1138) (by decide +kernel), List.mem_of_getElem? (i := 1139) (by decide +kernel)⟩
theorem lw_p54 : lw_okq (⟨"DampLikenessModel", "draw", "(I)I"⟩, 40) := ⟨⟨by decide +kernel, by decide +kernel⟩, List.mem_of_getElem? (i := 782) (by decide +kernel), List.mem_of_getElem? (i := 1142) (by decide +kernel), List.mem_of_getElem? (i := 1143) (by decide +kernel)⟩
theorem lw_p55 : lw_okq (⟨"DampLikenessModel", "shownBy", "(II)I"⟩, 40) := ⟨⟨by decide +kernel, by decide +kernel⟩, List.mem_of_getElem? (i := 782) (by decide +kernel), List.mem_of_getElem? (i := 1158) (by decide +kernel), List.mem_of_getElem? (i := 1159) (by decide +kernel)⟩
theorem lw_p56 : lw_okq (⟨"DampLikenessModel", "shownByLooks", "(III)I"⟩, 40) := ⟨⟨by decide +kernel, by decide +kernel⟩, List.mem_of_getElem? (i := 782) (by decide +kernel), List.mem_of_getElem? (i := 1177) (by decide +kernel), List.mem_of_getElem? (i := 1178) (by decide +kernel)⟩
theorem lw_p57 : lw_okq (⟨"DampLikenessModel", "leftBy", "(I)I"⟩, 40) := ⟨⟨by decide +kernel, by decide +kernel⟩, List.mem_of_getElem? (i := 782) (by decide +kernel), List.mem_of_getElem? (i := 1189) (by decide +kernel), List.mem_of_getElem? (i := 1190) (by decide +kernel)⟩
def lw_privs_4 : List (MethodName × Nat) := [(⟨"DampLikenessModel", "remember", "()V"⟩, 40), (⟨"DampLikenessModel", "pass", "(I)V"⟩, 40), (⟨"DampLikenessModel", "runFrom", "(I)V"⟩, 40), (⟨"DampLikenessModel", "give", "(II)V"⟩, 40), (⟨"DampLikenessModel", "lookNow", "()V"⟩, 40), (⟨"DampLikenessModel", "dayByDraws", "()V"⟩, 40), (⟨"DampLikenessModel", "draw", "(I)I"⟩, 40), (⟨"DampLikenessModel", "shownBy", "(II)I"⟩, 40), (⟨"DampLikenessModel", "shownByLooks", "(III)I"⟩, 40), (⟨"DampLikenessModel", "leftBy", "(I)I"⟩, 40)]
theorem lw_r4 : ∀ q ∈ lw_privs_4, lw_okq q := List.forall_mem_cons.mpr ⟨lw_p48, List.forall_mem_cons.mpr ⟨lw_p49, List.forall_mem_cons.mpr ⟨lw_p50, List.forall_mem_cons.mpr ⟨lw_p51, List.forall_mem_cons.mpr ⟨lw_p52, List.forall_mem_cons.mpr ⟨lw_p53, List.forall_mem_cons.mpr ⟨lw_p54, List.forall_mem_cons.mpr ⟨lw_p55, List.forall_mem_cons.mpr ⟨lw_p56, List.forall_mem_cons.mpr ⟨lw_p57, fun _ h => absurd h List.not_mem_nil⟩⟩⟩⟩⟩⟩⟩⟩⟩⟩
def lw_privs : List (MethodName × Nat) := lw_privs_1 ++ (lw_privs_2 ++ (lw_privs_3 ++ (lw_privs_4)))
def lw_tbl : List Cond := k2_sels lw_privs ++ tables_1
theorem lw_privs_ok : ∀ q ∈ lw_privs, lw_okq q := by
  show ∀ q ∈ lw_privs_1 ++ (lw_privs_2 ++ (lw_privs_3 ++ (lw_privs_4))), lw_okq q
  exact List.forall_mem_append.mpr ⟨lw_r1, List.forall_mem_append.mpr ⟨lw_r2, List.forall_mem_append.mpr ⟨lw_r3, lw_r4⟩⟩⟩

theorem goodIn_r {big : List Cond} (ws : List Cond) (ps : List Nat) (hp : ws = ps.filterMap (fun i => big[i]?)) (h : ws.all goodWord = true) : GoodIn big ws := by
  intro w hw
  have h1 := List.all_eq_true.mp h w hw
  rw [hp] at hw
  obtain ⟨i, -, hi⟩ := List.mem_filterMap.mp hw
  have hm : w ∈ big := by first | exact List.mem_of_getElem? hi | exact List.getElem?_mem hi
  exact ⟨hm, good_of_word h1⟩
theorem goodIn_app {big a b : List Cond} (ha : GoodIn big a) (hb : GoodIn big b) : GoodIn big (a ++ b) := fun w h => (List.mem_append.mp h).elim (ha w) (hb w)
theorem goodIn_ca {big a b : List Cond} {c : Cond} (ha : GoodIn big (c :: a)) (hb : GoodIn big b) : GoodIn big (c :: (a ++ b)) := fun w h => (List.mem_cons.mp h).elim (fun e => ha w (List.mem_cons.mpr (Or.inl e))) (fun h => (List.mem_append.mp h).elim (fun h => ha w (List.mem_cons.mpr (Or.inr h))) (hb w))
theorem goodIn_sub {big ws : List Cond} (hm : ∀ w ∈ ws, w ∈ big) (h : ws.all goodWord = true) : GoodIn big ws := fun w hw => ⟨hm w hw, good_of_word (List.all_eq_true.mp h w hw)⟩
def RX0 : String := "DampLikeness$Book"
def TX0 : u_T := fun k => match k with
  | 0 => ("DampLikeness$Book", "cells", "[I", true)
  | 1 => ("DampLikeness$Book", "wets", "[I", true)
  | _ => ("DampLikeness$Book", "count", "I", false)
def tyX0 : Nat → FieldType := fun k => match k with
  | 0 => .array .int
  | 1 => .array .int
  | _ => .int
abbrev wsX00 : List Cond := u_ws RX0 TX0 3
theorem nmX0 : ∀ a, a < 3 → ∀ b, b < 3 → a ≠ b → (TX0 a).2.1 ≠ (TX0 b).2.1 := by decide +kernel
theorem tyX0_ok : ∀ k, k < 3 → parseFieldDescriptor (TX0 k).2.2.1 = some (tyX0 k) := by decide +kernel
abbrev cX0_init : ByteArray := prog_2_method_1_code
def yX0_init : MethodName := ⟨RX0, "<init>", "()V"⟩
abbrev cX0_clear : ByteArray := prog_2_method_2_code
def yX0_clear : MethodName := ⟨RX0, "clear", "()V"⟩
abbrev cX0_add : ByteArray := prog_2_method_3_code
def yX0_add : MethodName := ⟨RX0, "add", "(II)I"⟩
abbrev cX0_firstWrong : ByteArray := prog_2_method_4_code
def yX0_firstWrong : MethodName := ⟨RX0, "firstWrong", "(LDampLikeness$Damp;)I"⟩
def RX1 : String := "DampLikeness$Damp"
def TX1 : u_T := fun k => match k with
  | 0 => ("DampLikeness$Damp", "wet", "[I", true)
  | 1 => ("DampLikeness$Damp", "leakAt", "[I", true)
  | 2 => ("DampLikeness$Damp", "wind", "I", false)
  | 3 => ("DampLikeness$Damp", "filled", "I", false)
  | 4 => ("DampLikeness$Damp", "days", "I", false)
  | 5 => ("DampLikeness$Damp", "looks", "I", false)
  | _ => ("DampLikeness$Damp", "brushes", "I", false)
def tyX1 : Nat → FieldType := fun k => match k with
  | 0 => .array .int
  | 1 => .array .int
  | 2 => .int
  | 3 => .int
  | 4 => .int
  | 5 => .int
  | _ => .int
abbrev wsX10 : List Cond := u_ws RX1 TX1 7
theorem nmX1 : ∀ a, a < 7 → ∀ b, b < 7 → a ≠ b → (TX1 a).2.1 ≠ (TX1 b).2.1 := by decide +kernel
theorem tyX1_ok : ∀ k, k < 7 → parseFieldDescriptor (TX1 k).2.2.1 = some (tyX1 k) := by decide +kernel
abbrev cX1_init : ByteArray := prog_3_method_1_code
def yX1_init : MethodName := ⟨RX1, "<init>", "()V"⟩
abbrev cX1_begin : ByteArray := prog_3_method_2_code
def yX1_begin : MethodName := ⟨RX1, "begin", "(LDampLikeness$Plan;)V"⟩
abbrev cX1_copyFrom : ByteArray := prog_3_method_3_code
def yX1_copyFrom : MethodName := ⟨RX1, "copyFrom", "(LDampLikeness$Damp;)V"⟩
abbrev cX1_isFilled : ByteArray := prog_3_method_4_code
def yX1_isFilled : MethodName := ⟨RX1, "isFilled", "(I)Z"⟩
abbrev cX1_marks : ByteArray := prog_3_method_5_code
def yX1_marks : MethodName := ⟨RX1, "marks", "()I"⟩
abbrev cX1_markCount : ByteArray := prog_3_method_6_code
def yX1_markCount : MethodName := ⟨RX1, "markCount", "()I"⟩
abbrev cX1_allWet : ByteArray := prog_3_method_7_code
def yX1_allWet : MethodName := ⟨RX1, "allWet", "()I"⟩
abbrev cX1_shrink : ByteArray := prog_3_method_8_code
def yX1_shrink : MethodName := ⟨RX1, "shrink", "(LDampLikeness$Plan;)V"⟩
def RX2 : String := "DampLikeness$Draws"
def TX2 : u_T := fun k => match k with
  | _ => ("DampLikeness$Draws", "state", "I", false)
def tyX2 : Nat → FieldType := fun k => match k with
  | _ => .int
abbrev wsX20 : List Cond := u_ws RX2 TX2 1
theorem nmX2 : ∀ a, a < 1 → ∀ b, b < 1 → a ≠ b → (TX2 a).2.1 ≠ (TX2 b).2.1 := by decide +kernel
theorem tyX2_ok : ∀ k, k < 1 → parseFieldDescriptor (TX2 k).2.2.1 = some (tyX2 k) := by decide +kernel
abbrev cX2_init : ByteArray := prog_4_method_1_code
def yX2_init : MethodName := ⟨RX2, "<init>", "()V"⟩
abbrev cX2_draw : ByteArray := prog_4_method_2_code
def yX2_draw : MethodName := ⟨RX2, "draw", "(I)I"⟩
def RX3 : String := "DampLikeness$Flow"
def TX3 : u_T := fun k => match k with
  | 0 => ("DampLikeness$Flow", "ahead", "[I", true)
  | _ => ("DampLikeness$Flow", "come", "[I", true)
def tyX3 : Nat → FieldType := fun k => match k with
  | 0 => .array .int
  | _ => .array .int
abbrev wsX30 : List Cond := u_ws RX3 TX3 2
theorem nmX3 : ∀ a, a < 2 → ∀ b, b < 2 → a ≠ b → (TX3 a).2.1 ≠ (TX3 b).2.1 := by decide +kernel
theorem tyX3_ok : ∀ k, k < 2 → parseFieldDescriptor (TX3 k).2.2.1 = some (tyX3 k) := by decide +kernel
abbrev cX3_init : ByteArray := prog_5_method_1_code
def yX3_init : MethodName := ⟨RX3, "<init>", "()V"⟩
abbrev cX3_rainDays : ByteArray := prog_5_method_2_code
def yX3_rainDays : MethodName := ⟨RX3, "rainDays", "(LDampLikeness$Plan;LDampLikeness$Damp;II)V"⟩
abbrev cX3_rainDay : ByteArray := prog_5_method_3_code
def yX3_rainDay : MethodName := ⟨RX3, "rainDay", "(LDampLikeness$Plan;LDampLikeness$Damp;I)V"⟩
abbrev cX3_runDownAndByWind : ByteArray := prog_5_method_4_code
def yX3_runDownAndByWind : MethodName := ⟨RX3, "runDownAndByWind", "(LDampLikeness$Plan;LDampLikeness$Damp;)V"⟩
abbrev cX3_runByCracks : ByteArray := prog_5_method_5_code
def yX3_runByCracks : MethodName := ⟨RX3, "runByCracks", "(LDampLikeness$Plan;LDampLikeness$Damp;)V"⟩
abbrev cX3_give : ByteArray := prog_5_method_6_code
def yX3_give : MethodName := ⟨RX3, "give", "(LDampLikeness$Damp;II)V"⟩
abbrev cX3_settle : ByteArray := prog_5_method_7_code
def yX3_settle : MethodName := ⟨RX3, "settle", "(LDampLikeness$Damp;I)V"⟩
def RX4 : String := "DampLikeness$Image"
def TX4 : u_T := fun k => match k with
  | 0 => ("DampLikeness$Image", "damp", "LDampLikeness$Damp;", true)
  | 1 => ("DampLikeness$Image", "drawState", "I", false)
  | _ => ("DampLikeness$Image", "kept", "Z", false)
def tyX4 : Nat → FieldType := fun k => match k with
  | 0 => .object "DampLikeness$Damp"
  | 1 => .int
  | _ => .boolean
abbrev wsX40 : List Cond := u_ws RX4 TX4 3
theorem nmX4 : ∀ a, a < 3 → ∀ b, b < 3 → a ≠ b → (TX4 a).2.1 ≠ (TX4 b).2.1 := by decide +kernel
theorem tyX4_ok : ∀ k, k < 3 → parseFieldDescriptor (TX4 k).2.2.1 = some (tyX4 k) := by decide +kernel
abbrev cX4_init : ByteArray := prog_6_method_1_code
def yX4_init : MethodName := ⟨RX4, "<init>", "()V"⟩
def RX5 : String := "DampLikeness$Marks"
def TX5 : u_T := fun k => match k with
  | _ => ("", "", "", false)
def tyX5 : Nat → FieldType := fun k => match k with
  | _ => .int
abbrev wsX50 : List Cond := u_ws RX5 TX5 0
theorem nmX5 : ∀ a, a < 0 → ∀ b, b < 0 → a ≠ b → (TX5 a).2.1 ≠ (TX5 b).2.1 := by decide +kernel
theorem tyX5_ok : ∀ k, k < 0 → parseFieldDescriptor (TX5 k).2.2.1 = some (tyX5 k) := by decide +kernel
abbrev cX5_besideSet : ByteArray := prog_7_method_2_code
def yX5_besideSet : MethodName := ⟨RX5, "besideSet", "(LDampLikeness$Plan;II)I"⟩
abbrev cX5_lonely : ByteArray := prog_7_method_3_code
def yX5_lonely : MethodName := ⟨RX5, "lonely", "(LDampLikeness$Plan;I)I"⟩
abbrev cX5_border : ByteArray := prog_7_method_4_code
def yX5_border : MethodName := ⟨RX5, "border", "(LDampLikeness$Plan;I)I"⟩
abbrev cX5_groupOf : ByteArray := prog_7_method_5_code
def yX5_groupOf : MethodName := ⟨RX5, "groupOf", "(LDampLikeness$Plan;II)I"⟩
abbrev cX5_groups : ByteArray := prog_7_method_6_code
def yX5_groups : MethodName := ⟨RX5, "groups", "(LDampLikeness$Plan;I)I"⟩
abbrev cX5_greatestGroup : ByteArray := prog_7_method_7_code
def yX5_greatestGroup : MethodName := ⟨RX5, "greatestGroup", "(LDampLikeness$Plan;I)I"⟩
abbrev cX5_fullest : ByteArray := prog_7_method_8_code
def yX5_fullest : MethodName := ⟨RX5, "fullest", "(LDampLikeness$Plan;I)I"⟩
abbrev cX5_like : ByteArray := prog_7_method_9_code
def yX5_like : MethodName := ⟨RX5, "like", "(LDampLikeness$Plan;II)I"⟩
abbrev cX5_whom : ByteArray := prog_7_method_10_code
def yX5_whom : MethodName := ⟨RX5, "whom", "(LDampLikeness$Plan;I)I"⟩
abbrev cX5_mayBe : ByteArray := prog_7_method_11_code
def yX5_mayBe : MethodName := ⟨RX5, "mayBe", "(LDampLikeness$Plan;I)I"⟩
def RX6 : String := "DampLikeness$Past"
def TX6 : u_T := fun k => match k with
  | 0 => ("DampLikeness$Past", "ring", "[LDampLikeness$Damp;", true)
  | 1 => ("DampLikeness$Past", "end", "I", false)
  | _ => ("DampLikeness$Past", "count", "I", false)
def tyX6 : Nat → FieldType := fun k => match k with
  | 0 => .array (.object "DampLikeness$Damp")
  | 1 => .int
  | _ => .int
abbrev wsX60 : List Cond := u_ws RX6 TX6 3
theorem nmX6 : ∀ a, a < 3 → ∀ b, b < 3 → a ≠ b → (TX6 a).2.1 ≠ (TX6 b).2.1 := by decide +kernel
theorem tyX6_ok : ∀ k, k < 3 → parseFieldDescriptor (TX6 k).2.2.1 = some (tyX6 k) := by decide +kernel
abbrev cX6_init : ByteArray := prog_8_method_1_code
def yX6_init : MethodName := ⟨RX6, "<init>", "()V"⟩
abbrev cX6_clear : ByteArray := prog_8_method_2_code
def yX6_clear : MethodName := ⟨RX6, "clear", "()V"⟩
abbrev cX6_push : ByteArray := prog_8_method_3_code
def yX6_push : MethodName := ⟨RX6, "push", "(LDampLikeness$Damp;)V"⟩
abbrev cX6_pop : ByteArray := prog_8_method_4_code
def yX6_pop : MethodName := ⟨RX6, "pop", "(LDampLikeness$Damp;)Z"⟩
def RX7 : String := "DampLikeness$Plan"
def TX7 : u_T := fun k => match k with
  | 0 => ("DampLikeness$Plan", "leakAt", "[I", true)
  | 1 => ("DampLikeness$Plan", "crackA", "[I", true)
  | 2 => ("DampLikeness$Plan", "crackB", "[I", true)
  | 3 => ("DampLikeness$Plan", "faces", "[I", true)
  | 4 => ("DampLikeness$Plan", "rows", "I", false)
  | 5 => ("DampLikeness$Plan", "columns", "I", false)
  | 6 => ("DampLikeness$Plan", "firstColumn", "I", false)
  | 7 => ("DampLikeness$Plan", "wind", "I", false)
  | 8 => ("DampLikeness$Plan", "leakCount", "I", false)
  | 9 => ("DampLikeness$Plan", "crackCount", "I", false)
  | _ => ("DampLikeness$Plan", "faceCount", "I", false)
def tyX7 : Nat → FieldType := fun k => match k with
  | 0 => .array .int
  | 1 => .array .int
  | 2 => .array .int
  | 3 => .array .int
  | 4 => .int
  | 5 => .int
  | 6 => .int
  | 7 => .int
  | 8 => .int
  | 9 => .int
  | _ => .int
abbrev wsX70 : List Cond := u_ws RX7 TX7 11
theorem nmX7 : ∀ a, a < 11 → ∀ b, b < 11 → a ≠ b → (TX7 a).2.1 ≠ (TX7 b).2.1 := by decide +kernel
theorem tyX7_ok : ∀ k, k < 11 → parseFieldDescriptor (TX7 k).2.2.1 = some (tyX7 k) := by decide +kernel
abbrev cX7_init : ByteArray := prog_9_method_1_code
def yX7_init : MethodName := ⟨RX7, "<init>", "()V"⟩
abbrev cX7_clear : ByteArray := prog_9_method_2_code
def yX7_clear : MethodName := ⟨RX7, "clear", "()V"⟩
abbrev cX7_cells : ByteArray := prog_9_method_3_code
def yX7_cells : MethodName := ⟨RX7, "cells", "()I"⟩
abbrev cX7_allCells : ByteArray := prog_9_method_4_code
def yX7_allCells : MethodName := ⟨RX7, "allCells", "()I"⟩
abbrev cX7_resize : ByteArray := prog_9_method_5_code
def yX7_resize : MethodName := ⟨RX7, "resize", "(II)V"⟩
abbrev cX7_columnOf : ByteArray := prog_9_method_6_code
def yX7_columnOf : MethodName := ⟨RX7, "columnOf", "(I)I"⟩
abbrev cX7_hasCell : ByteArray := prog_9_method_7_code
def yX7_hasCell : MethodName := ⟨RX7, "hasCell", "(I)Z"⟩
abbrev cX7_hasLeak : ByteArray := prog_9_method_8_code
def yX7_hasLeak : MethodName := ⟨RX7, "hasLeak", "(I)Z"⟩
abbrev cX7_hasCrack : ByteArray := prog_9_method_9_code
def yX7_hasCrack : MethodName := ⟨RX7, "hasCrack", "(I)Z"⟩
abbrev cX7_hasFace : ByteArray := prog_9_method_10_code
def yX7_hasFace : MethodName := ⟨RX7, "hasFace", "(I)Z"⟩
abbrev cX7_addLeak : ByteArray := prog_9_method_11_code
def yX7_addLeak : MethodName := ⟨RX7, "addLeak", "(I)V"⟩
abbrev cX7_addCrack : ByteArray := prog_9_method_12_code
def yX7_addCrack : MethodName := ⟨RX7, "addCrack", "(II)V"⟩
abbrev cX7_addFace : ByteArray := prog_9_method_13_code
def yX7_addFace : MethodName := ⟨RX7, "addFace", "(I)V"⟩
abbrev cX7_touch : ByteArray := prog_9_method_14_code
def yX7_touch : MethodName := ⟨RX7, "touch", "(II)Z"⟩
abbrev cX7_isCracked : ByteArray := prog_9_method_15_code
def yX7_isCracked : MethodName := ⟨RX7, "isCracked", "(II)Z"⟩
abbrev cX7_below : ByteArray := prog_9_method_16_code
def yX7_below : MethodName := ⟨RX7, "below", "(I)I"⟩
abbrev cX7_beside : ByteArray := prog_9_method_17_code
def yX7_beside : MethodName := ⟨RX7, "beside", "(II)I"⟩
def RX8 : String := "DampLikeness$Reader"
def TX8 : u_T := fun k => match k with
  | 0 => ("DampLikeness$Reader", "letters", "[I", true)
  | 1 => ("DampLikeness$Reader", "count", "I", false)
  | 2 => ("DampLikeness$Reader", "faultKind", "I", false)
  | 3 => ("DampLikeness$Reader", "faultAt", "I", false)
  | 4 => ("DampLikeness$Reader", "at", "I", false)
  | 5 => ("DampLikeness$Reader", "numberAt", "I", false)
  | _ => ("DampLikeness$Reader", "windTold", "Z", false)
def tyX8 : Nat → FieldType := fun k => match k with
  | 0 => .array .int
  | 1 => .int
  | 2 => .int
  | 3 => .int
  | 4 => .int
  | 5 => .int
  | _ => .boolean
abbrev wsX80 : List Cond := u_ws RX8 TX8 7
theorem nmX8 : ∀ a, a < 7 → ∀ b, b < 7 → a ≠ b → (TX8 a).2.1 ≠ (TX8 b).2.1 := by decide +kernel
theorem tyX8_ok : ∀ k, k < 7 → parseFieldDescriptor (TX8 k).2.2.1 = some (tyX8 k) := by decide +kernel
abbrev cX8_init : ByteArray := prog_10_method_1_code
def yX8_init : MethodName := ⟨RX8, "<init>", "()V"⟩
abbrev cX8_add : ByteArray := prog_10_method_2_code
def yX8_add : MethodName := ⟨RX8, "add", "(I)I"⟩
abbrev cX8_read : ByteArray := prog_10_method_3_code
def yX8_read : MethodName := ⟨RX8, "read", "(LDampLikeness$Plan;)Z"⟩
abbrev cX8_readClause : ByteArray := prog_10_method_4_code
def yX8_readClause : MethodName := ⟨RX8, "readClause", "(LDampLikeness$Plan;)V"⟩
abbrev cX8_readSize : ByteArray := prog_10_method_5_code
def yX8_readSize : MethodName := ⟨RX8, "readSize", "(LDampLikeness$Plan;)V"⟩
abbrev cX8_readLeak : ByteArray := prog_10_method_6_code
def yX8_readLeak : MethodName := ⟨RX8, "readLeak", "(LDampLikeness$Plan;)V"⟩
abbrev cX8_readCrack : ByteArray := prog_10_method_7_code
def yX8_readCrack : MethodName := ⟨RX8, "readCrack", "(LDampLikeness$Plan;)V"⟩
abbrev cX8_readFace : ByteArray := prog_10_method_8_code
def yX8_readFace : MethodName := ⟨RX8, "readFace", "(LDampLikeness$Plan;)V"⟩
abbrev cX8_readWind : ByteArray := prog_10_method_9_code
def yX8_readWind : MethodName := ⟨RX8, "readWind", "(LDampLikeness$Plan;)V"⟩
abbrev cX8_fail : ByteArray := prog_10_method_10_code
def yX8_fail : MethodName := ⟨RX8, "fail", "(II)V"⟩
abbrev cX8_peek : ByteArray := prog_10_method_11_code
def yX8_peek : MethodName := ⟨RX8, "peek", "()I"⟩
abbrev cX8_takeWord : ByteArray := prog_10_method_12_code
def yX8_takeWord : MethodName := ⟨RX8, "takeWord", "(Z)V"⟩
abbrev cX8_takeSign : ByteArray := prog_10_method_13_code
def yX8_takeSign : MethodName := ⟨RX8, "takeSign", "(I)Z"⟩
abbrev cX8_takeNumber : ByteArray := prog_10_method_14_code
def yX8_takeNumber : MethodName := ⟨RX8, "takeNumber", "(II)I"⟩
abbrev cX8_isFigure : ByteArray := prog_10_method_15_code
def yX8_isFigure : MethodName := ⟨RX8, "isFigure", "(I)Z"⟩
def RX9 : String := "DampLikeness$Trial"
def TX9 : u_T := fun k => match k with
  | 0 => ("DampLikeness$Trial", "flow", "LDampLikeness$Flow;", true)
  | 1 => ("DampLikeness$Trial", "damp", "LDampLikeness$Damp;", true)
  | 2 => ("DampLikeness$Trial", "stages", "[LDampLikeness$Damp;", true)
  | 3 => ("DampLikeness$Trial", "dayCount", "I", false)
  | 4 => ("DampLikeness$Trial", "rain", "I", false)
  | 5 => ("DampLikeness$Trial", "marksWanted", "I", false)
  | 6 => ("DampLikeness$Trial", "best", "I", false)
  | _ => ("DampLikeness$Trial", "bestCount", "I", false)
def tyX9 : Nat → FieldType := fun k => match k with
  | 0 => .object "DampLikeness$Flow"
  | 1 => .object "DampLikeness$Damp"
  | 2 => .array (.object "DampLikeness$Damp")
  | 3 => .int
  | 4 => .int
  | 5 => .int
  | 6 => .int
  | _ => .int
abbrev wsX90 : List Cond := u_ws RX9 TX9 8
theorem nmX9 : ∀ a, a < 8 → ∀ b, b < 8 → a ≠ b → (TX9 a).2.1 ≠ (TX9 b).2.1 := by decide +kernel
theorem tyX9_ok : ∀ k, k < 8 → parseFieldDescriptor (TX9 k).2.2.1 = some (tyX9 k) := by decide +kernel
abbrev cX9_init : ByteArray := prog_11_method_1_code
def yX9_init : MethodName := ⟨RX9, "<init>", "()V"⟩
abbrev cX9_marksBehind : ByteArray := prog_11_method_2_code
def yX9_marksBehind : MethodName := ⟨RX9, "marksBehind", "(LDampLikeness$Plan;LDampLikeness$Damp;II)I"⟩
abbrev cX9_daysTillMarks : ByteArray := prog_11_method_3_code
def yX9_daysTillMarks : MethodName := ⟨RX9, "daysTillMarks", "(LDampLikeness$Plan;LDampLikeness$Damp;II)I"⟩
abbrev cX9_daysTillDry : ByteArray := prog_11_method_4_code
def yX9_daysTillDry : MethodName := ⟨RX9, "daysTillDry", "(LDampLikeness$Plan;LDampLikeness$Damp;)I"⟩
abbrev cX9_leadBest : ByteArray := prog_11_method_5_code
def yX9_leadBest : MethodName := ⟨RX9, "leadBest", "(LDampLikeness$Plan;LDampLikeness$Damp;IIII)V"⟩
abbrev cX9_rainsThatShow : ByteArray := prog_11_method_6_code
def yX9_rainsThatShow : MethodName := ⟨RX9, "rainsThatShow", "(LDampLikeness$Plan;LDampLikeness$Damp;I)I"⟩
abbrev cX9_rainThatLeavesFewest : ByteArray := prog_11_method_7_code
def yX9_rainThatLeavesFewest : MethodName := ⟨RX9, "rainThatLeavesFewest", "(LDampLikeness$Plan;LDampLikeness$Damp;)V"⟩
abbrev cX9_lookMost : ByteArray := prog_11_method_8_code
def yX9_lookMost : MethodName := ⟨RX9, "lookMost", "(LDampLikeness$Plan;LDampLikeness$Damp;III)V"⟩
abbrev cX9_tryLooks : ByteArray := prog_11_method_9_code
def yX9_tryLooks : MethodName := ⟨RX9, "tryLooks", "(LDampLikeness$Trial;LDampLikeness$Plan;LDampLikeness$Damp;II)V"⟩
abbrev cX9_weigh : ByteArray := prog_11_method_10_code
def yX9_weigh : MethodName := ⟨RX9, "weigh", "(LDampLikeness$Damp;I)V"⟩
def RX10 : String := "DampLikeness"
def TX10 : u_T := fun k => match k with
  | 0 => ("DampLikeness", "reader", "LDampLikeness$Reader;", true)
  | 1 => ("DampLikeness", "now", "LDampLikeness$Damp;", true)
  | 2 => ("DampLikeness", "flow", "LDampLikeness$Flow;", true)
  | 3 => ("DampLikeness", "trial", "LDampLikeness$Trial;", true)
  | 4 => ("DampLikeness", "past", "LDampLikeness$Past;", true)
  | 5 => ("DampLikeness", "book", "LDampLikeness$Book;", true)
  | 6 => ("DampLikeness", "draws", "LDampLikeness$Draws;", true)
  | 7 => ("DampLikeness", "images", "[LDampLikeness$Image;", true)
  | 8 => ("DampLikeness", "plan", "LDampLikeness$Plan;", false)
  | _ => ("DampLikeness", "spare", "LDampLikeness$Plan;", false)
def tyX10 : Nat → FieldType := fun k => match k with
  | 0 => .object "DampLikeness$Reader"
  | 1 => .object "DampLikeness$Damp"
  | 2 => .object "DampLikeness$Flow"
  | 3 => .object "DampLikeness$Trial"
  | 4 => .object "DampLikeness$Past"
  | 5 => .object "DampLikeness$Book"
  | 6 => .object "DampLikeness$Draws"
  | 7 => .array (.object "DampLikeness$Image")
  | 8 => .object "DampLikeness$Plan"
  | _ => .object "DampLikeness$Plan"
abbrev wsX100 : List Cond := u_ws RX10 TX10 10
theorem nmX10 : ∀ a, a < 10 → ∀ b, b < 10 → a ≠ b → (TX10 a).2.1 ≠ (TX10 b).2.1 := by decide +kernel
theorem tyX10_ok : ∀ k, k < 10 → parseFieldDescriptor (TX10 k).2.2.1 = some (tyX10 k) := by decide +kernel
abbrev cX10_init : ByteArray := prog_1_method_1_code
def yX10_init : MethodName := ⟨RX10, "<init>", "()V"⟩
abbrev cX10_feed : ByteArray := prog_1_method_2_code
def yX10_feed : MethodName := ⟨RX10, "feed", "(I)I"⟩
abbrev cX10_wall : ByteArray := prog_1_method_3_code
def yX10_wall : MethodName := ⟨RX10, "wall", "()I"⟩
abbrev cX10_fault : ByteArray := prog_1_method_4_code
def yX10_fault : MethodName := ⟨RX10, "fault", "()I"⟩
abbrev cX10_told : ByteArray := prog_1_method_5_code
def yX10_told : MethodName := ⟨RX10, "told", "(I)I"⟩
abbrev cX10_cell : ByteArray := prog_1_method_6_code
def yX10_cell : MethodName := ⟨RX10, "cell", "(I)I"⟩
abbrev cX10_leak : ByteArray := prog_1_method_7_code
def yX10_leak : MethodName := ⟨RX10, "leak", "(I)I"⟩
abbrev cX10_crack : ByteArray := prog_1_method_8_code
def yX10_crack : MethodName := ⟨RX10, "crack", "(II)I"⟩
abbrev cX10_likeness : ByteArray := prog_1_method_9_code
def yX10_likeness : MethodName := ⟨RX10, "likeness", "(II)I"⟩
abbrev cX10_day : ByteArray := prog_1_method_10_code
def yX10_day : MethodName := ⟨RX10, "day", "(II)I"⟩
abbrev cX10_look : ByteArray := prog_1_method_11_code
def yX10_look : MethodName := ⟨RX10, "look", "()I"⟩
abbrev cX10_brush : ByteArray := prog_1_method_12_code
def yX10_brush : MethodName := ⟨RX10, "brush", "(I)I"⟩
abbrev cX10_lead : ByteArray := prog_1_method_13_code
def yX10_lead : MethodName := ⟨RX10, "lead", "(II)I"⟩
abbrev cX10_wind : ByteArray := prog_1_method_14_code
def yX10_wind : MethodName := ⟨RX10, "wind", "(I)I"⟩
abbrev cX10_fill : ByteArray := prog_1_method_15_code
def yX10_fill : MethodName := ⟨RX10, "fill", "(IZ)I"⟩
abbrev cX10_drift : ByteArray := prog_1_method_16_code
def yX10_drift : MethodName := ⟨RX10, "drift", "(I)I"⟩
abbrev cX10_undo : ByteArray := prog_1_method_17_code
def yX10_undo : MethodName := ⟨RX10, "undo", "()I"⟩
abbrev cX10_shown : ByteArray := prog_1_method_18_code
def yX10_shown : MethodName := ⟨RX10, "shown", "(II)I"⟩
abbrev cX10_first : ByteArray := prog_1_method_19_code
def yX10_first : MethodName := ⟨RX10, "first", "(II)I"⟩
abbrev cX10_leadTo : ByteArray := prog_1_method_20_code
def yX10_leadTo : MethodName := ⟨RX10, "leadTo", "(IIIII)I"⟩
abbrev cX10_often : ByteArray := prog_1_method_21_code
def yX10_often : MethodName := ⟨RX10, "often", "(IIII)I"⟩
abbrev cX10_wasRain : ByteArray := prog_1_method_22_code
def yX10_wasRain : MethodName := ⟨RX10, "wasRain", "(I)I"⟩
abbrev cX10_rainToTell : ByteArray := prog_1_method_23_code
def yX10_rainToTell : MethodName := ⟨RX10, "rainToTell", "(I)I"⟩
abbrev cX10_dryIn : ByteArray := prog_1_method_24_code
def yX10_dryIn : MethodName := ⟨RX10, "dryIn", "()I"⟩
abbrev cX10_either : ByteArray := prog_1_method_25_code
def yX10_either : MethodName := ⟨RX10, "either", "(III)I"⟩
abbrev cX10_rainy : ByteArray := prog_1_method_26_code
def yX10_rainy : MethodName := ⟨RX10, "rainy", "(II)I"⟩
abbrev cX10_write : ByteArray := prog_1_method_27_code
def yX10_write : MethodName := ⟨RX10, "write", "(II)I"⟩
abbrev cX10_tear : ByteArray := prog_1_method_28_code
def yX10_tear : MethodName := ⟨RX10, "tear", "()I"⟩
abbrev cX10_judge : ByteArray := prog_1_method_29_code
def yX10_judge : MethodName := ⟨RX10, "judge", "()I"⟩
abbrev cX10_seed : ByteArray := prog_1_method_30_code
def yX10_seed : MethodName := ⟨RX10, "seed", "(I)I"⟩
abbrev cX10_keep : ByteArray := prog_1_method_31_code
def yX10_keep : MethodName := ⟨RX10, "keep", "(I)I"⟩
abbrev cX10_goBack : ByteArray := prog_1_method_32_code
def yX10_goBack : MethodName := ⟨RX10, "goBack", "(I)I"⟩
abbrev cX10_noWall : ByteArray := prog_1_method_33_code
def yX10_noWall : MethodName := ⟨RX10, "noWall", "()Z"⟩
abbrev cX10_driftOneDay : ByteArray := prog_1_method_34_code
def yX10_driftOneDay : MethodName := ⟨RX10, "driftOneDay", "()V"⟩
abbrev cX10_outside : ByteArray := prog_1_method_35_code
def yX10_outside : MethodName := ⟨RX10, "outside", "(III)Z"⟩
abbrev cX10_pick : ByteArray := prog_1_method_36_code
def yX10_pick : MethodName := ⟨RX10, "pick", "([II)I"⟩
abbrev cX10_put : ByteArray := prog_1_method_37_code
def yX10_put : MethodName := ⟨RX10, "put", "([III)V"⟩
def RX11 : String := "DampLikenessModel"
def TX11 : u_T := fun k => match k with
  | 0 => ("DampLikenessModel", "high", "I", false)
  | 1 => ("DampLikenessModel", "wide", "I", false)
  | 2 => ("DampLikenessModel", "leaks", "I", false)
  | 3 => ("DampLikenessModel", "leakTold", "[I", true)
  | 4 => ("DampLikenessModel", "cracks", "I", false)
  | 5 => ("DampLikenessModel", "one", "[I", true)
  | 6 => ("DampLikenessModel", "other", "[I", true)
  | 7 => ("DampLikenessModel", "likes", "I", false)
  | 8 => ("DampLikenessModel", "likeSet", "[I", true)
  | 9 => ("DampLikenessModel", "windTold", "I", false)
  | 10 => ("DampLikenessModel", "now", "[I", true)
  | 11 => ("DampLikenessModel", "seed", "I", false)
  | 12 => ("DampLikenessModel", "text", "[I", true)
  | 13 => ("DampLikenessModel", "texted", "I", false)
  | 14 => ("DampLikenessModel", "faultPlace", "I", false)
  | 15 => ("DampLikenessModel", "at0", "I", false)
  | 16 => ("DampLikenessModel", "number", "I", false)
  | 17 => ("DampLikenessModel", "numberAt", "I", false)
  | 18 => ("DampLikenessModel", "readHigh", "I", false)
  | 19 => ("DampLikenessModel", "readWide", "I", false)
  | 20 => ("DampLikenessModel", "readLeaks", "I", false)
  | 21 => ("DampLikenessModel", "readLeak", "[I", true)
  | 22 => ("DampLikenessModel", "readCracks", "I", false)
  | 23 => ("DampLikenessModel", "readOne", "[I", true)
  | 24 => ("DampLikenessModel", "readOther", "[I", true)
  | 25 => ("DampLikenessModel", "readLikes", "I", false)
  | 26 => ("DampLikenessModel", "readLike", "[I", true)
  | 27 => ("DampLikenessModel", "hasWind", "Z", false)
  | 28 => ("DampLikenessModel", "readWind", "I", false)
  | 29 => ("DampLikenessModel", "had", "[I", true)
  | 30 => ("DampLikenessModel", "comes", "[I", true)
  | 31 => ("DampLikenessModel", "left", "[I", true)
  | 32 => ("DampLikenessModel", "undos", "I", false)
  | 33 => ("DampLikenessModel", "past", "[I", true)
  | 34 => ("DampLikenessModel", "before", "[I", true)
  | 35 => ("DampLikenessModel", "booked", "I", false)
  | 36 => ("DampLikenessModel", "bookOf", "[I", true)
  | 37 => ("DampLikenessModel", "bookIs", "[I", true)
  | 38 => ("DampLikenessModel", "images", "[I", true)
  | _ => ("DampLikenessModel", "isKept", "[Z", true)
def tyX11 : Nat → FieldType := fun k => match k with
  | 0 => .int
  | 1 => .int
  | 2 => .int
  | 3 => .array .int
  | 4 => .int
  | 5 => .array .int
  | 6 => .array .int
  | 7 => .int
  | 8 => .array .int
  | 9 => .int
  | 10 => .array .int
  | 11 => .int
  | 12 => .array .int
  | 13 => .int
  | 14 => .int
  | 15 => .int
  | 16 => .int
  | 17 => .int
  | 18 => .int
  | 19 => .int
  | 20 => .int
  | 21 => .array .int
  | 22 => .int
  | 23 => .array .int
  | 24 => .array .int
  | 25 => .int
  | 26 => .array .int
  | 27 => .boolean
  | 28 => .int
  | 29 => .array .int
  | 30 => .array .int
  | 31 => .array .int
  | 32 => .int
  | 33 => .array .int
  | 34 => .array .int
  | 35 => .int
  | 36 => .array .int
  | 37 => .array .int
  | 38 => .array .int
  | _ => .array .boolean
abbrev wsX110 : List Cond := u_ws RX11 TX11 40
theorem nmX11 : ∀ a, a < 40 → ∀ b, b < 40 → a ≠ b → (TX11 a).2.1 ≠ (TX11 b).2.1 := by decide +kernel
theorem tyX11_ok : ∀ k, k < 40 → parseFieldDescriptor (TX11 k).2.2.1 = some (tyX11 k) := by decide +kernel
abbrev cX11_init : ByteArray := prog_13_method_1_code
def yX11_init : MethodName := ⟨RX11, "<init>", "()V"⟩
abbrev cX11_in : ByteArray := prog_13_method_3_code
def yX11_in : MethodName := ⟨RX11, "in", "(JJJ)Z"⟩
abbrev cX11_has : ByteArray := prog_13_method_4_code
def yX11_has : MethodName := ⟨RX11, "has", "(II)Z"⟩
abbrev cX11_bits : ByteArray := prog_13_method_5_code
def yX11_bits : MethodName := ⟨RX11, "bits", "(I)I"⟩
abbrev cX11_cells : ByteArray := prog_13_method_6_code
def yX11_cells : MethodName := ⟨RX11, "cells", "()I"⟩
abbrev cX11_isCell : ByteArray := prog_13_method_7_code
def yX11_isCell : MethodName := ⟨RX11, "isCell", "(I)Z"⟩
abbrev cX11_isLeak : ByteArray := prog_13_method_8_code
def yX11_isLeak : MethodName := ⟨RX11, "isLeak", "(I)Z"⟩
abbrev cX11_isCrack : ByteArray := prog_13_method_9_code
def yX11_isCrack : MethodName := ⟨RX11, "isCrack", "(I)Z"⟩
abbrev cX11_isLike : ByteArray := prog_13_method_10_code
def yX11_isLike : MethodName := ⟨RX11, "isLike", "(I)Z"⟩
abbrev cX11_areNext : ByteArray := prog_13_method_11_code
def yX11_areNext : MethodName := ⟨RX11, "areNext", "(III)Z"⟩
abbrev cX11_feed : ByteArray := prog_13_method_12_code
def yX11_feed : MethodName := ⟨RX11, "feed", "(I)I"⟩
abbrev cX11_here : ByteArray := prog_13_method_13_code
def yX11_here : MethodName := ⟨RX11, "here", "()I"⟩
abbrev cX11_fails : ByteArray := prog_13_method_14_code
def yX11_fails : MethodName := ⟨RX11, "fails", "(II)I"⟩
abbrev cX11_takeNumber : ByteArray := prog_13_method_15_code
def yX11_takeNumber : MethodName := ⟨RX11, "takeNumber", "(II)I"⟩
abbrev cX11_into : ByteArray := prog_13_method_16_code
def yX11_into : MethodName := ⟨RX11, "into", "([IIII)I"⟩
abbrev cX11_takeWall : ByteArray := prog_13_method_17_code
def yX11_takeWall : MethodName := ⟨RX11, "takeWall", "()I"⟩
abbrev cX11_readCells : ByteArray := prog_13_method_18_code
def yX11_readCells : MethodName := ⟨RX11, "readCells", "()I"⟩
abbrev cX11_takeLeak : ByteArray := prog_13_method_19_code
def yX11_takeLeak : MethodName := ⟨RX11, "takeLeak", "()I"⟩
abbrev cX11_isTold : ByteArray := prog_13_method_20_code
def yX11_isTold : MethodName := ⟨RX11, "isTold", "(II)Z"⟩
abbrev cX11_takeCrack : ByteArray := prog_13_method_21_code
def yX11_takeCrack : MethodName := ⟨RX11, "takeCrack", "()I"⟩
abbrev cX11_takeLike : ByteArray := prog_13_method_22_code
def yX11_takeLike : MethodName := ⟨RX11, "takeLike", "()I"⟩
abbrev cX11_takeWind : ByteArray := prog_13_method_23_code
def yX11_takeWind : MethodName := ⟨RX11, "takeWind", "()I"⟩
abbrev cX11_isFull : ByteArray := prog_13_method_24_code
def yX11_isFull : MethodName := ⟨RX11, "isFull", "(I)Z"⟩
abbrev cX11_takeBody : ByteArray := prog_13_method_25_code
def yX11_takeBody : MethodName := ⟨RX11, "takeBody", "(I)I"⟩
abbrev cX11_takeClause : ByteArray := prog_13_method_26_code
def yX11_takeClause : MethodName := ⟨RX11, "takeClause", "()I"⟩
abbrev cX11_copyRow : ByteArray := prog_13_method_27_code
def yX11_copyRow : MethodName := ⟨RX11, "copyRow", "([I[II)V"⟩
abbrev cX11_takeRead : ByteArray := prog_13_method_28_code
def yX11_takeRead : MethodName := ⟨RX11, "takeRead", "()V"⟩
abbrev cX11_wall : ByteArray := prog_13_method_29_code
def yX11_wall : MethodName := ⟨RX11, "wall", "()I"⟩
abbrev cX11_fault : ByteArray := prog_13_method_30_code
def yX11_fault : MethodName := ⟨RX11, "fault", "()I"⟩
abbrev cX11_shows : ByteArray := prog_13_method_31_code
def yX11_shows : MethodName := ⟨RX11, "shows", "()I"⟩
abbrev cX11_around : ByteArray := prog_13_method_32_code
def yX11_around : MethodName := ⟨RX11, "around", "(I)I"⟩
abbrev cX11_likeOf : ByteArray := prog_13_method_33_code
def yX11_likeOf : MethodName := ⟨RX11, "likeOf", "(I)I"⟩
abbrev cX11_whom : ByteArray := prog_13_method_34_code
def yX11_whom : MethodName := ⟨RX11, "whom", "()I"⟩
abbrev cX11_mayBe : ByteArray := prog_13_method_35_code
def yX11_mayBe : MethodName := ⟨RX11, "mayBe", "()I"⟩
abbrev cX11_groupOf : ByteArray := prog_13_method_36_code
def yX11_groupOf : MethodName := ⟨RX11, "groupOf", "(I)I"⟩
abbrev cX11_groups : ByteArray := prog_13_method_37_code
def yX11_groups : MethodName := ⟨RX11, "groups", "(Z)I"⟩
abbrev cX11_border : ByteArray := prog_13_method_38_code
def yX11_border : MethodName := ⟨RX11, "border", "()I"⟩
abbrev cX11_fullest : ByteArray := prog_13_method_39_code
def yX11_fullest : MethodName := ⟨RX11, "fullest", "()I"⟩
abbrev cX11_allWet : ByteArray := prog_13_method_40_code
def yX11_allWet : MethodName := ⟨RX11, "allWet", "()I"⟩
abbrev cX11_told : ByteArray := prog_13_method_41_code
def yX11_told : MethodName := ⟨RX11, "told", "(I)I"⟩
abbrev cX11_cell : ByteArray := prog_13_method_42_code
def yX11_cell : MethodName := ⟨RX11, "cell", "(I)I"⟩
abbrev cX11_leak : ByteArray := prog_13_method_43_code
def yX11_leak : MethodName := ⟨RX11, "leak", "(I)I"⟩
abbrev cX11_crack : ByteArray := prog_13_method_44_code
def yX11_crack : MethodName := ⟨RX11, "crack", "(II)I"⟩
abbrev cX11_likeness : ByteArray := prog_13_method_45_code
def yX11_likeness : MethodName := ⟨RX11, "likeness", "(II)I"⟩
abbrev cX11_give : ByteArray := prog_13_method_46_code
def yX11_give : MethodName := ⟨RX11, "give", "(II)V"⟩
abbrev cX11_runFrom : ByteArray := prog_13_method_47_code
def yX11_runFrom : MethodName := ⟨RX11, "runFrom", "(I)V"⟩
abbrev cX11_bound : ByteArray := prog_13_method_48_code
def yX11_bound : MethodName := ⟨RX11, "bound", "(I)I"⟩
abbrev cX11_pass : ByteArray := prog_13_method_49_code
def yX11_pass : MethodName := ⟨RX11, "pass", "(I)V"⟩
abbrev cX11_lookNow : ByteArray := prog_13_method_50_code
def yX11_lookNow : MethodName := ⟨RX11, "lookNow", "()V"⟩
abbrev cX11_remember : ByteArray := prog_13_method_51_code
def yX11_remember : MethodName := ⟨RX11, "remember", "()V"⟩
abbrev cX11_day : ByteArray := prog_13_method_52_code
def yX11_day : MethodName := ⟨RX11, "day", "(II)I"⟩
abbrev cX11_look : ByteArray := prog_13_method_53_code
def yX11_look : MethodName := ⟨RX11, "look", "()I"⟩
abbrev cX11_brush : ByteArray := prog_13_method_54_code
def yX11_brush : MethodName := ⟨RX11, "brush", "(I)I"⟩
abbrev cX11_lead : ByteArray := prog_13_method_55_code
def yX11_lead : MethodName := ⟨RX11, "lead", "(II)I"⟩
abbrev cX11_wind : ByteArray := prog_13_method_56_code
def yX11_wind : MethodName := ⟨RX11, "wind", "(I)I"⟩
abbrev cX11_fill : ByteArray := prog_13_method_57_code
def yX11_fill : MethodName := ⟨RX11, "fill", "(IZ)I"⟩
abbrev cX11_draw : ByteArray := prog_13_method_58_code
def yX11_draw : MethodName := ⟨RX11, "draw", "(I)I"⟩
abbrev cX11_dayByDraws : ByteArray := prog_13_method_59_code
def yX11_dayByDraws : MethodName := ⟨RX11, "dayByDraws", "()V"⟩
abbrev cX11_drift : ByteArray := prog_13_method_60_code
def yX11_drift : MethodName := ⟨RX11, "drift", "(I)I"⟩
abbrev cX11_undo : ByteArray := prog_13_method_61_code
def yX11_undo : MethodName := ⟨RX11, "undo", "()I"⟩
abbrev cX11_shownBy : ByteArray := prog_13_method_62_code
def yX11_shownBy : MethodName := ⟨RX11, "shownBy", "(II)I"⟩
abbrev cX11_shown : ByteArray := prog_13_method_63_code
def yX11_shown : MethodName := ⟨RX11, "shown", "(II)I"⟩
abbrev cX11_first : ByteArray := prog_13_method_64_code
def yX11_first : MethodName := ⟨RX11, "first", "(II)I"⟩
abbrev cX11_leadTo : ByteArray := prog_13_method_65_code
def yX11_leadTo : MethodName := ⟨RX11, "leadTo", "(IIIII)I"⟩
abbrev cX11_shownByLooks : ByteArray := prog_13_method_66_code
def yX11_shownByLooks : MethodName := ⟨RX11, "shownByLooks", "(III)I"⟩
abbrev cX11_often : ByteArray := prog_13_method_67_code
def yX11_often : MethodName := ⟨RX11, "often", "(IIII)I"⟩
abbrev cX11_wasRain : ByteArray := prog_13_method_68_code
def yX11_wasRain : MethodName := ⟨RX11, "wasRain", "(I)I"⟩
abbrev cX11_leftBy : ByteArray := prog_13_method_69_code
def yX11_leftBy : MethodName := ⟨RX11, "leftBy", "(I)I"⟩
abbrev cX11_rainToTell : ByteArray := prog_13_method_70_code
def yX11_rainToTell : MethodName := ⟨RX11, "rainToTell", "(I)I"⟩
abbrev cX11_dryIn : ByteArray := prog_13_method_71_code
def yX11_dryIn : MethodName := ⟨RX11, "dryIn", "()I"⟩
abbrev cX11_either : ByteArray := prog_13_method_72_code
def yX11_either : MethodName := ⟨RX11, "either", "(III)I"⟩
abbrev cX11_rainy : ByteArray := prog_13_method_73_code
def yX11_rainy : MethodName := ⟨RX11, "rainy", "(II)I"⟩
abbrev cX11_write : ByteArray := prog_13_method_74_code
def yX11_write : MethodName := ⟨RX11, "write", "(II)I"⟩
abbrev cX11_tear : ByteArray := prog_13_method_75_code
def yX11_tear : MethodName := ⟨RX11, "tear", "()I"⟩
abbrev cX11_judge : ByteArray := prog_13_method_76_code
def yX11_judge : MethodName := ⟨RX11, "judge", "()I"⟩
abbrev cX11_seed : ByteArray := prog_13_method_77_code
def yX11_seed : MethodName := ⟨RX11, "seed", "(I)I"⟩
abbrev cX11_keep : ByteArray := prog_13_method_78_code
def yX11_keep : MethodName := ⟨RX11, "keep", "(I)I"⟩
abbrev cX11_goBack : ByteArray := prog_13_method_79_code
def yX11_goBack : MethodName := ⟨RX11, "goBack", "(I)I"⟩
def RJ6 : String := "java/lang/Integer"
def TJ6 : u_T := fun k => match k with
  | _ => ("", "", "", false)
def tyJ6 : Nat → FieldType := fun k => match k with
  | _ => .int
abbrev wsJ60 : List Cond := u_ws RJ6 TJ6 0
theorem nmJ6 : ∀ a, a < 0 → ∀ b, b < 0 → a ≠ b → (TJ6 a).2.1 ≠ (TJ6 b).2.1 := by decide +kernel
theorem tyJ6_ok : ∀ k, k < 0 → parseFieldDescriptor (TJ6 k).2.2.1 = some (tyJ6 k) := by decide +kernel
abbrev cJ6_bitCount_0f7a4 : ByteArray := prog_14_method_49_code
def yJ6_bitCount_0f7a4 : MethodName := ⟨RJ6, "bitCount", "(I)I"⟩
def RJ9 : String := "java/lang/Math"
def TJ9 : u_T := fun k => match k with
  | _ => ("", "", "", false)
def tyJ9 : Nat → FieldType := fun k => match k with
  | _ => .int
abbrev wsJ90 : List Cond := u_ws RJ9 TJ9 0
theorem nmJ9 : ∀ a, a < 0 → ∀ b, b < 0 → a ≠ b → (TJ9 a).2.1 ≠ (TJ9 b).2.1 := by decide +kernel
theorem tyJ9_ok : ∀ k, k < 0 → parseFieldDescriptor (TJ9 k).2.2.1 = some (tyJ9 k) := by decide +kernel
abbrev cJ9_max_7cf53 : ByteArray := prog_15_method_65_code
def yJ9_max_7cf53 : MethodName := ⟨RJ9, "max", "(II)I"⟩
abbrev cJ9_min_7cf53 : ByteArray := prog_15_method_69_code
def yJ9_min_7cf53 : MethodName := ⟨RJ9, "min", "(II)I"⟩
def RJ10 : String := "java/lang/System"
def TJ10 : u_T := fun k => match k with
  | _ => ("", "", "", false)
def tyJ10 : Nat → FieldType := fun k => match k with
  | _ => .int
abbrev wsJ100 : List Cond := u_ws RJ10 TJ10 0
theorem nmJ10 : ∀ a, a < 0 → ∀ b, b < 0 → a ≠ b → (TJ10 a).2.1 ≠ (TJ10 b).2.1 := by decide +kernel
theorem tyJ10_ok : ∀ k, k < 0 → parseFieldDescriptor (TJ10 k).2.2.1 = some (tyJ10 k) := by decide +kernel
def RL : String := "DampLikenessLaw"
abbrev cL_law : ByteArray := code
def yL_law : MethodName := ⟨RL, "law", "([I)Z"⟩
def WT : List Cond := lw_tbl.filter goodWord
theorem wt_mem {w : Cond} (i : Nat) (h : lw_tbl[i]? = some w) (hg : goodWord w = true) : w ∈ WT := List.mem_filter.mpr ⟨List.mem_of_getElem? h, hg⟩
theorem wt_good {big : List Cond} (hb : ∀ w ∈ WT, w ∈ big) : GoodIn big WT := fun w hw => ⟨hb w hw, good_of_word (List.mem_filter.mp hw).2⟩
theorem wt_code {c c' : Cond} (h : c' ∈ WT) : GoodIn (c :: WT) (c' :: WT) := fun w hw => by
  rcases List.mem_cons.mp hw with rfl | hw
  · exact ⟨List.mem_cons_of_mem _ h, good_of_word (List.mem_filter.mp h).2⟩
  · exact ⟨List.mem_cons_of_mem _ hw, good_of_word (List.mem_filter.mp hw).2⟩
theorem wt_codeL {c' : Cond} (h : c' ∈ WT) : GoodIn lw_tbl (c' :: WT) := fun w hw => by
  rcases List.mem_cons.mp hw with rfl | hw
  · exact ⟨(List.mem_filter.mp h).1, good_of_word (List.mem_filter.mp h).2⟩
  · exact ⟨(List.mem_filter.mp hw).1, good_of_word (List.mem_filter.mp hw).2⟩
abbrev jcls : List vw_C := [(RX0, TX0, 3), (RX1, TX1, 7), (RX2, TX2, 1), (RX3, TX3, 2), (RX4, TX4, 3), (RX6, TX6, 3), (RX7, TX7, 11), (RX8, TX8, 7), (RX9, TX9, 8), (RX10, TX10, 10), (RX11, TX11, 40)]
set_option maxRecDepth 20000 in
theorem jin0 : ∀ w ∈ u_ws RX0 TX0 3, w ∈ WT := fun w h => List.mem_filter.mpr ⟨(goodIn_r (big := lw_tbl) (u_ws RX0 TX0 3) [235, 237, 239] (by decide +kernel) (by decide +kernel) w h).1, List.all_eq_true.mp (by decide +kernel : (u_ws RX0 TX0 3).all goodWord = true) w h⟩
set_option maxRecDepth 20000 in
theorem jin1 : ∀ w ∈ u_ws RX1 TX1 7, w ∈ WT := fun w h => List.mem_filter.mpr ⟨(goodIn_r (big := lw_tbl) (u_ws RX1 TX1 7) [140, 142, 144, 146, 148, 150, 152] (by decide +kernel) (by decide +kernel) w h).1, List.all_eq_true.mp (by decide +kernel : (u_ws RX1 TX1 7).all goodWord = true) w h⟩
set_option maxRecDepth 20000 in
theorem jin2 : ∀ w ∈ u_ws RX2 TX2 1, w ∈ WT := fun w h => List.mem_filter.mpr ⟨(goodIn_r (big := lw_tbl) (u_ws RX2 TX2 1) [250] (by decide +kernel) (by decide +kernel) w h).1, List.all_eq_true.mp (by decide +kernel : (u_ws RX2 TX2 1).all goodWord = true) w h⟩
set_option maxRecDepth 20000 in
theorem jin3 : ∀ w ∈ u_ws RX3 TX3 2, w ∈ WT := fun w h => List.mem_filter.mpr ⟨(goodIn_r (big := lw_tbl) (u_ws RX3 TX3 2) [163, 165] (by decide +kernel) (by decide +kernel) w h).1, List.all_eq_true.mp (by decide +kernel : (u_ws RX3 TX3 2).all goodWord = true) w h⟩
set_option maxRecDepth 20000 in
theorem jin4 : ∀ w ∈ u_ws RX4 TX4 3, w ∈ WT := fun w h => List.mem_filter.mpr ⟨(goodIn_r (big := lw_tbl) (u_ws RX4 TX4 3) [331, 333, 335] (by decide +kernel) (by decide +kernel) w h).1, List.all_eq_true.mp (by decide +kernel : (u_ws RX4 TX4 3).all goodWord = true) w h⟩
set_option maxRecDepth 20000 in
theorem jin6 : ∀ w ∈ u_ws RX6 TX6 3, w ∈ WT := fun w h => List.mem_filter.mpr ⟨(goodIn_r (big := lw_tbl) (u_ws RX6 TX6 3) [218, 220, 222] (by decide +kernel) (by decide +kernel) w h).1, List.all_eq_true.mp (by decide +kernel : (u_ws RX6 TX6 3).all goodWord = true) w h⟩
set_option maxRecDepth 20000 in
theorem jin7 : ∀ w ∈ u_ws RX7 TX7 11, w ∈ WT := fun w h => List.mem_filter.mpr ⟨(goodIn_r (big := lw_tbl) (u_ws RX7 TX7 11) [297, 299, 301, 303, 305, 307, 309, 311, 313, 315, 317] (by decide +kernel) (by decide +kernel) w h).1, List.all_eq_true.mp (by decide +kernel : (u_ws RX7 TX7 11).all goodWord = true) w h⟩
set_option maxRecDepth 20000 in
theorem jin8 : ∀ w ∈ u_ws RX8 TX8 7, w ∈ WT := fun w h => List.mem_filter.mpr ⟨(goodIn_r (big := lw_tbl) (u_ws RX8 TX8 7) [98, 100, 102, 104, 106, 108, 110] (by decide +kernel) (by decide +kernel) w h).1, List.all_eq_true.mp (by decide +kernel : (u_ws RX8 TX8 7).all goodWord = true) w h⟩
set_option maxRecDepth 20000 in
theorem jin9 : ∀ w ∈ u_ws RX9 TX9 8, w ∈ WT := fun w h => List.mem_filter.mpr ⟨(goodIn_r (big := lw_tbl) (u_ws RX9 TX9 8) [189, 191, 193, 195, 197, 199, 201, 203] (by decide +kernel) (by decide +kernel) w h).1, List.all_eq_true.mp (by decide +kernel : (u_ws RX9 TX9 8).all goodWord = true) w h⟩
set_option maxRecDepth 20000 in
theorem jin10 : ∀ w ∈ u_ws RX10 TX10 10, w ∈ WT := fun w h => List.mem_filter.mpr ⟨(goodIn_r (big := lw_tbl) (u_ws RX10 TX10 10) [348, 350, 352, 354, 356, 358, 360, 362, 364, 366] (by decide +kernel) (by decide +kernel) w h).1, List.all_eq_true.mp (by decide +kernel : (u_ws RX10 TX10 10).all goodWord = true) w h⟩
set_option maxRecDepth 20000 in
theorem jin11 : ∀ w ∈ u_ws RX11 TX11 40, w ∈ WT := fun w h => List.mem_filter.mpr ⟨(goodIn_r (big := lw_tbl) (u_ws RX11 TX11 40) [885, 887, 889, 891, 893, 895, 897, 899, 901, 903, 905, 907, 909, 911, 913, 915, 917, 919, 921, 923, 925, 927, 929, 931, 933, 935, 937, 939, 941, 943, 945, 947, 949, 951, 953, 955, 957, 959, 961, 963] (by decide +kernel) (by decide +kernel) w h).1, List.all_eq_true.mp (by decide +kernel : (u_ws RX11 TX11 40).all goodWord = true) w h⟩
end
section
/-! the store: one function of ints for all cells, by number; the shapes of the cells; the world that a store spells -/
abbrev Sto : Type := Nat → Nat → Int32
abbrev JC : Type := va_G × (Nat → Nat) × ClassId × ClassId × ClassId × ClassId
def upA (S : Sto) (i : Nat) (f : Nat → Int32) : Sto := fun j => if j = i then f else S j
def up2 (S : Sto) (i k : Nat) (v : Int32) : Sto := upA S i (upd (S i) k v)
/-- kinds: (0, class), (1, n) ints, (2, n) booleans, (3, n) Damps, (4, n) Images -/
abbrev jshL : List (Nat × Nat) := [(0, 9), (0, 7), (1, 240), (0, 1), (1, 25), (1, 4), (0, 3), (1, 25), (1, 25), (0, 8), (0, 3), (1, 25), (1, 25), (0, 1), (1, 25), (1, 4), (3, 8), (0, 1), (1, 25), (1, 4), (0, 1), (1, 25), (1, 4), (0, 1), (1, 25), (1, 4), (0, 1), (1, 25), (1, 4), (0, 1), (1, 25), (1, 4), (0, 1), (1, 25), (1, 4), (0, 1), (1, 25), (1, 4), (0, 1), (1, 25), (1, 4), (0, 5), (3, 16), (0, 1), (1, 25), (1, 4), (0, 1), (1, 25), (1, 4), (0, 1), (1, 25), (1, 4), (0, 1), (1, 25), (1, 4), (0, 1), (1, 25), (1, 4), (0, 1), (1, 25), (1, 4), (0, 1), (1, 25), (1, 4), (0, 1), (1, 25), (1, 4), (0, 1), (1, 25), (1, 4), (0, 1), (1, 25), (1, 4), (0, 1), (1, 25), (1, 4), (0, 1), (1, 25), (1, 4), (0, 1), (1, 25), (1, 4), (0, 1), (1, 25), (1, 4), (0, 1), (1, 25), (1, 4), (0, 1), (1, 25), (1, 4), (0, 0), (1, 15), (1, 15), (0, 2), (4, 2), (0, 6), (1, 4), (1, 6), (1, 6), (1, 5), (0, 6), (1, 4), (1, 6), (1, 6), (1, 5), (0, 4), (0, 1), (1, 25), (1, 4), (0, 4), (0, 1), (1, 25), (1, 4), (0, 10), (1, 4), (1, 6), (1, 6), (1, 5), (1, 34), (1, 240), (1, 4), (1, 6), (1, 6), (1, 5), (1, 25), (1, 25), (1, 25), (1, 544), (1, 34), (1, 15), (1, 15), (1, 70), (2, 2)]
def jsh (i : Nat) : Nat × Nat := jshL.getD i (9, 0)
abbrev NN : Nat := 134
abbrev jfk : List (List Bool) := [[true, true, false], [true, true, false, false, false, false, false], [false], [true, true], [true, false, false], [true, false, false], [true, true, true, true, false, false, false, false, false, false, false], [true, false, false, false, false, false, false], [true, true, true, false, false, false, false, false], [true, true, true, true, true, true, true, true, true, true], [false, false, false, true, false, true, true, false, true, false, true, false, true, false, false, false, false, false, false, false, false, true, false, true, true, false, true, false, false, true, true, true, false, true, true, false, true, true, true, true]]
def isR (ci k : Nat) : Bool := (jfk.getD ci []).getD k false
def nfl (ci : Nat) : Nat := (jfk.getD ci []).length
def rf (S : Sto) (i k : Nat) : Nat := if i = 0 then (if k = 8 then (S 0 8).toNatClampNeg else if k = 9 then (S 0 9).toNatClampNeg else [1, 3, 6, 9, 41, 91, 94, 95].getD k 0) else if i = 9 then [10, 13, 16].getD k 0 else if i = 114 then [0, 0, 0, 115, 0, 116, 117, 0, 118, 0, 119, 0, 120, 0, 0, 0, 0, 0, 0, 0, 0, 121, 0, 122, 123, 0, 124, 0, 0, 125, 126, 127, 0, 128, 129, 0, 130, 131, 132, 133].getD k 0 else i + 1 + k
def rfa (i j : Nat) : Nat := if i = 95 then 106 + 4 * j else i + 1 + 3 * j
def jfv (C : JC) (S : Sto) (ci i k : Nat) : Value := if isR ci k = true then .ref (C.2.1 (rf S i k)) else .int (S i k)
def jcell (C : JC) (S : Sto) (i : Nat) : va_E := match jsh i with
  | (0, ci) => .inr (ci, (List.range (nfl ci)).map (jfv C S ci i))
  | (1, n) => .inl (C.2.2.1, n, .inl (S i))
  | (2, n) => .inl (C.2.2.2.1, n, .inl (S i))
  | (3, n) => .inl (C.2.2.2.2.1, n, .inr (.inr (.inr (.inr (fun j => some (C.2.1 (rfa i j)))))))
  | (_, n) => .inl (C.2.2.2.2.2, n, .inr (.inr (.inr (.inr (fun j => some (C.2.1 (rfa i j)))))))
def jw (C : JC) (S : Sto) : va_W := (List.range NN).map (fun i => (C.2.1 i, jcell C S i))
def jty (C : JC) : List (ClassId × FieldType) := [(C.2.2.1, .int), (C.2.2.2.1, .boolean), (C.2.2.2.2.1, .object RX1), (C.2.2.2.2.2, .object RX4)]
def JInj (C : JC) : Prop := ∀ i j, i < NN → j < NN → C.2.1 i = C.2.1 j → i = j
def JA (C : JC) : Nat → Prop := fun q => ∃ i, i < NN ∧ q = C.2.1 i
abbrev nestL : List (String × Nat × MethodName × String) := [("DampLikeness", 9, ⟨"DampLikeness$Reader", "<init>", "()V"⟩, "DampLikeness"), ("DampLikeness", 18, ⟨"DampLikeness$Damp", "<init>", "()V"⟩, "DampLikeness"), ("DampLikeness", 25, ⟨"DampLikeness$Flow", "<init>", "()V"⟩, "DampLikeness"), ("DampLikeness$Trial", 11, ⟨"DampLikeness$Flow", "<init>", "()V"⟩, "DampLikeness"), ("DampLikeness$Trial", 20, ⟨"DampLikeness$Damp", "<init>", "()V"⟩, "DampLikeness"), ("DampLikeness$Past", 17, ⟨"DampLikeness$Damp", "<init>", "()V"⟩, "DampLikeness"), ("DampLikeness", 46, ⟨"DampLikeness$Book", "<init>", "()V"⟩, "DampLikeness"), ("DampLikeness", 53, ⟨"DampLikeness$Draws", "<init>", "()V"⟩, "DampLikeness"), ("DampLikeness", 66, ⟨"DampLikeness$Plan", "<init>", "()V"⟩, "DampLikeness"), ("DampLikeness", 74, ⟨"DampLikeness$Image", "<init>", "()V"⟩, "DampLikeness"), ("DampLikeness$Image", 9, ⟨"DampLikeness$Damp", "<init>", "()V"⟩, "DampLikeness"), ("DampLikeness$Reader", 23, ⟨"DampLikeness", "put", "([III)V"⟩, "DampLikeness"), ("DampLikeness$Reader", 125, ⟨"DampLikeness", "pick", "([II)I"⟩, "DampLikeness"), ("DampLikeness$Reader", 132, ⟨"DampLikeness", "outside", "(III)Z"⟩, "DampLikeness"), ("DampLikeness$Plan", 54, ⟨"DampLikeness", "put", "([III)V"⟩, "DampLikeness"), ("DampLikeness$Damp", 21, ⟨"DampLikeness", "pick", "([II)I"⟩, "DampLikeness"), ("DampLikeness$Marks", 50, ⟨"DampLikeness", "pick", "([II)I"⟩, "DampLikeness"), ("DampLikeness$Flow", 33, ⟨"DampLikeness", "pick", "([II)I"⟩, "DampLikeness"), ("DampLikeness$Flow", 46, ⟨"DampLikeness", "put", "([III)V"⟩, "DampLikeness"), ("DampLikeness$Trial", 67, ⟨"DampLikeness", "put", "([III)V"⟩, "DampLikeness"), ("DampLikeness$Book", 23, ⟨"DampLikeness", "put", "([III)V"⟩, "DampLikeness"), ("DampLikeness$Book", 32, ⟨"DampLikeness", "pick", "([II)I"⟩, "DampLikeness")]
def JN (U : State) : Prop := ∀ q ∈ nestL, va_Nw (.methodLinkNest q.1 q.2.1 q.2.2.1 q.2.2.2) U
theorem JN.warm {s U : State} (hW : s.WarmedH U.vm) (h : JN s) : JN U := fun q hq => va_Nw.warmM hW (h q hq)
theorem jw_at (C : JC) (S : Sto) {i : Nat} (h : i < NN) : (jw C S)[i]? = some (C.2.1 i, jcell C S i) := by
  simp [jw, h]
theorem jw_len (C : JC) (S : Sto) : (jw C S).length = NN := by simp [jw]
theorem jsh_lt {i a b : Nat} (h : jsh i = (a, b)) (ha : a ≠ 9) : i < NN := by
  rcases Nat.lt_or_ge i NN with q | q
  · exact q
  · exfalso
    rw [jsh, List.getD_eq_getElem?_getD, List.getElem?_eq_none (by exact q)] at h
    exact ha (by cases h; rfl)
theorem upA_same (S : Sto) (i : Nat) (f : Nat → Int32) : upA S i f i = f := if_pos rfl
theorem upA_ne (S : Sto) {i j : Nat} (f : Nat → Int32) (h : j ≠ i) : upA S i f j = S j := if_neg h
theorem up2_same (S : Sto) (i k : Nat) (v : Int32) : up2 S i k v i = upd (S i) k v := if_pos rfl
theorem up2_ne (S : Sto) {i j : Nat} (k : Nat) (v : Int32) (h : j ≠ i) : up2 S i k v j = S j := if_neg h
theorem jw_set (C : JC) (S S' : Sto) {i : Nat} (h : i < NN) {e : va_E} (he : e = jcell C S' i) (ho : ∀ j, j < NN → j ≠ i → jcell C S j = jcell C S' j) : (jw C S).set i (C.2.1 i, e) = jw C S' := by
  apply List.ext_getElem?
  intro j
  by_cases hj : j = i
  · subst hj
    rw [List.getElem?_set_self (by rw [jw_len]; exact h), jw_at C S' h, he]
  · rw [List.getElem?_set_ne (fun q => hj q.symm)]
    rcases Nat.lt_or_ge j NN with q | q
    · rw [jw_at C S q, jw_at C S' q, ho j q hj]
    · rw [List.getElem?_eq_none (by rw [jw_len]; exact q), List.getElem?_eq_none (by rw [jw_len]; exact q)]
theorem jw_D (C : JC) (S : Sto) {A : Nat → Prop} (hC : JInj C) (hA : ∀ i, i < NN → A (C.2.1 i)) : va_D A (jw C S) := by
  have lt : ∀ (i : Nat) (q : Nat × va_E), (jw C S)[i]? = some q → i < NN := fun i q h => by
    have := (List.getElem?_eq_some_iff.mp h).1
    rwa [jw_len] at this
  refine ⟨fun i j p q hi hj hpq => ?_, fun k q hk => ?_⟩
  · have h1 := lt i p hi
    have h2 := lt j q hj
    rw [jw_at C S h1] at hi
    rw [jw_at C S h2] at hj
    cases hi; cases hj
    exact hC i j h1 h2 hpq
  · have h1 := lt k q hk
    rw [jw_at C S h1] at hk
    cases hk
    exact hA k h1
theorem rf_up (S : Sto) (i k : Nat) (v : Int32) (j x : Nat) (h : ¬ (i = 0 ∧ (k = 8 ∨ k = 9))) : rf (up2 S i k v) j x = rf S j x := by
  have e8 : up2 S i k v 0 8 = S 0 8 := by
    unfold up2 upA
    by_cases q : (0 : Nat) = i
    · subst q
      have : (8 : Nat) ≠ k := fun z => h ⟨rfl, Or.inl z.symm⟩
      rw [if_pos rfl, pk_un this]
    · rw [if_neg q]
  have e9 : up2 S i k v 0 9 = S 0 9 := by
    unfold up2 upA
    by_cases q : (0 : Nat) = i
    · subst q
      have : (9 : Nat) ≠ k := fun z => h ⟨rfl, Or.inr z.symm⟩
      rw [if_pos rfl, pk_un this]
    · rw [if_neg q]
  unfold rf
  rw [e8, e9]
theorem rf_upA (S : Sto) (i : Nat) (f : Nat → Int32) (j x : Nat) (h : i ≠ 0) : rf (upA S i f) j x = rf S j x := by
  have e : upA S i f 0 = S 0 := upA_ne S f (fun q => h q.symm)
  unfold rf
  rw [e]
theorem jcell_o (C : JC) (S : Sto) {i ci : Nat} (h : jsh i = (0, ci)) : jcell C S i = .inr (ci, (List.range (nfl ci)).map (jfv C S ci i)) := by simp only [jcell, h]
theorem jcell_1 (C : JC) (S : Sto) {i n : Nat} (h : jsh i = (1, n)) : jcell C S i = .inl (C.2.2.1, n, .inl (S i)) := by simp only [jcell, h]
theorem jcell_2 (C : JC) (S : Sto) {i n : Nat} (h : jsh i = (2, n)) : jcell C S i = .inl (C.2.2.2.1, n, .inl (S i)) := by simp only [jcell, h]
theorem jcell_3 (C : JC) (S : Sto) {i n : Nat} (h : jsh i = (3, n)) : jcell C S i = .inl (C.2.2.2.2.1, n, .inr (.inr (.inr (.inr (fun j => some (C.2.1 (rfa i j))))))) := by simp only [jcell, h]
theorem jcell_4 (C : JC) (S : Sto) {i n : Nat} (h : jsh i = (4, n)) : jcell C S i = .inl (C.2.2.2.2.2, n, .inr (.inr (.inr (.inr (fun j => some (C.2.1 (rfa i j))))))) := by simp only [jcell, h]
theorem jcell_eq (C : JC) {S S' : Sto} {j : Nat} (h : S j = S' j) (hr : ∀ k, rf S j k = rf S' j k) : jcell C S j = jcell C S' j := by
  unfold jcell
  have e : ∀ ci, jfv C S ci j = jfv C S' ci j := fun ci => by
    funext k
    unfold jfv
    rw [h, hr]
  simp only [e, h]
theorem jfs_at (C : JC) (S : Sto) {ci k : Nat} (i : Nat) (h : k < nfl ci) : ((List.range (nfl ci)).map (jfv C S ci i))[k]? = some (jfv C S ci i k) := by simp [h]
/-- a field of ints is written -/
theorem jw_puti (C : JC) (S : Sto) {i ci k : Nat} {v : Int32} (hs : jsh i = (0, ci)) (hk : k < nfl ci) (hr : isR ci k = false) (h0 : i = 0 → ci = 9) : (jw C S).set i (C.2.1 i, .inr (ci, ((List.range (nfl ci)).map (jfv C S ci i)).set k (.int v))) = jw C (up2 S i k v) := by
  have hne : ¬ (i = 0 ∧ (k = 8 ∨ k = 9)) := fun ⟨a, b⟩ => by
    have := h0 a
    subst this
    rcases b with rfl | rfl <;> exact absurd hr (by decide)
  refine jw_set C S _ (jsh_lt hs (by decide)) ?_ (fun j _ hj => jcell_eq C (up2_ne S k v hj).symm (fun x => (rf_up S i k v j x hne).symm))
  rw [jcell_o C _ hs]
  congr 2
  apply List.ext_getElem?
  intro x
  by_cases hx : x = k
  · subst hx
    rw [List.getElem?_set_self (by simp [hk]), jfs_at C _ i hk]
    unfold jfv
    rw [if_neg (by rw [hr]; decide), up2_same, pk_us]
  · rw [List.getElem?_set_ne (fun q => hx q.symm)]
    rcases Nat.lt_or_ge x (nfl ci) with q | q
    · rw [jfs_at C _ i q, jfs_at C _ i q]
      unfold jfv
      rw [rf_up S i k v i x hne, up2_same, pk_un hx]
    · rw [List.getElem?_eq_none (by simp [q]), List.getElem?_eq_none (by simp [q])]
/-- an array of ints is written -/
theorem jw_arr1 (C : JC) (S : Sto) {i n : Nat} {f : Nat → Int32} (hs : jsh i = (1, n)) : (jw C S).set i (C.2.1 i, .inl (C.2.2.1, n, .inl f)) = jw C (upA S i f) := by
  have h0 : i ≠ 0 := fun q => by subst q; cases hs
  refine jw_set C S _ (jsh_lt hs (by decide)) ?_ (fun j _ hj => jcell_eq C (upA_ne S f hj).symm (fun x => (rf_upA S i f j x h0).symm))
  rw [jcell_1 C _ hs, upA_same]
theorem jw_arr2 (C : JC) (S : Sto) {i n : Nat} {f : Nat → Int32} (hs : jsh i = (2, n)) : (jw C S).set i (C.2.1 i, .inl (C.2.2.2.1, n, .inl f)) = jw C (upA S i f) := by
  have h0 : i ≠ 0 := fun q => by subst q; cases hs
  refine jw_set C S _ (jsh_lt hs (by decide)) ?_ (fun j _ hj => jcell_eq C (upA_ne S f hj).symm (fun x => (rf_upA S i f j x h0).symm))
  rw [jcell_2 C _ hs, upA_same]
/-- plan and spare are written -/
theorem jw_putp (C : JC) (S : Sto) {k x : Nat} (hk : k = 8 ∨ k = 9) (hx : x < NN) : (jw C S).set 0 (C.2.1 0, .inr (9, ((List.range (nfl 9)).map (jfv C S 9 0)).set k (.ref (C.2.1 x)))) = jw C (up2 S 0 k (nI x)) := by
  have hxn : (nI x).toNatClampNeg = x := nI_clamp (Nat.lt_trans hx (by decide))
  refine jw_set C S _ (by decide) ?_ (fun j _ hj => jcell_eq C (up2_ne S k _ hj).symm (fun y => ?_))
  · rw [jcell_o C _ (show jsh 0 = (0, 9) from rfl)]
    congr 2
    apply List.ext_getElem?
    intro y
    by_cases hy : y = k
    · subst hy
      rw [List.getElem?_set_self (by rcases hk with rfl | rfl <;> simp [nfl]), jfs_at C _ 0 (by rcases hk with rfl | rfl <;> decide)]
      unfold jfv rf
      rcases hk with rfl | rfl <;> simp [isR, up2_same, pk_us, hxn]
    · rw [List.getElem?_set_ne (fun q => hy q.symm)]
      rcases Nat.lt_or_ge y (nfl 9) with q | q
      · rw [jfs_at C _ 0 q, jfs_at C _ 0 q]
        rcases hk with rfl | rfl
        · by_cases h9 : y = 9
          · subst h9
            simp [jfv, rf, up2_same, upd]
          · simp [jfv, rf, up2_same, upd, hy, h9]
        · by_cases h8 : y = 8
          · subst h8
            simp [jfv, rf, up2_same, upd]
          · simp [jfv, rf, up2_same, upd, hy, h8]
      · rw [List.getElem?_eq_none (by simp [q]), List.getElem?_eq_none (by simp [q])]
  · unfold rf
    rw [if_neg hj, if_neg hj]
end
section
/-! the judgement J: from here, with the store S, the machine comes to its end; and what holds all the way -/
abbrev JE : Type := Program × Launch × Env × Room × State × MethodId × Array Value × List Frame × Method × Code × (Nat → Prop) × Nat × Nat × Nat × (State → Prop)
def lvH (ls : Array Slot) (nL : Nat) (lv : List (Option Value)) : Prop := ls.size = nL ∧ lv_wf ls ∧ lv.length ≤ nL ∧ ∀ (k : Nat) (v : Value), lv[k]? = some (some v) → ls[k]? = some (.val v)
def J (C : JC) (E : JE) (S : Sto) (pc : Nat) (lv : List (Option Value)) (st : List Value) : Prop := match E with
  | (p, l, e, R, s, m, args, below, meth, c, A, cells, slots, nL, Q) => ∀ (H : Heap) (locs : List Loc) (ls : Array Slot), va_P C.1 jcls (jw C S) H → va_S A s.heap H locs → lvH ls nL lv → W p l e R s m args below meth c H locs cells slots Q (F0 m pc ls st)
def Jok (l0 : Launch) (C : JC) (E : JE) (own : String) (cc : ByteArray) (d : Nat) : Prop := match E with
  | (p, l, e, R, s, m, args, below, meth, c, A, cells, slots, nL, Q) => l = l0 ∧ p.tables.exec = Jvm.exec ∧ c.code = cc ∧ c.maxLocals = nL ∧ s.vm.findClass own = some m.cls ∧ (∀ w ∈ WT, w.before args s = true) ∧ va_K C.1 jcls (jty C) s ∧ JN s ∧ JInj C ∧ (∀ i, i < NN → A (C.2.1 i)) ∧ d ≤ R.frames ∧ 128 * d ≤ R.locals ∧ cells ≤ R.cells ∧ slots ≤ R.slots
def Jret (C : JC) (E : JE) (cc : ByteArray) (ret : Option FieldType) (v : Option Value) (S' : Sto) : Prop := match E with
  | (p, l, e, R, s, m, args, below, meth, c, A, cells, slots, nL, Q) => (∀ (r : Int32) (ty : FieldType) (H : Heap) (locs : List Loc) (ls : Array Slot) (pc : Nat), ret = some ty → v = some (.int r) → narrow ty (.int r) = .int r → va_P C.1 jcls (jw C S') H → va_S A s.heap H locs → decode cc pc = .ok (.ireturn, 1) → W p l e R s m args below meth c H locs cells slots Q (F0 m pc ls [.int r])) ∧
    (∀ (H : Heap) (locs : List Loc) (ls : Array Slot) (pc : Nat), ret = none → v = none → va_P C.1 jcls (jw C S') H → va_S A s.heap H locs → decode cc pc = .ok (.return_, 1) → W p l e R s m args below meth c H locs cells slots Q (F0 m pc ls []))
def JP (C : JC) (S : Sto) (U : State) : Prop := va_P C.1 jcls (jw C S) U.heap ∧ va_K C.1 jcls (jty C) U ∧ JN U
def JQ (C : JC) (v : Option Value) (S' : Sto) : Array Value → State → Outcome → State → Prop := fun _ st oc t => (oc = .returned v ∧ va_P C.1 jcls (jw C S') t.heap) ∧ va_F (JA C) st t
/-- a method's contract: with these arguments and this store it returns v, and the store is S' -/
def Con (l : Launch) (C : JC) (y : MethodName) (cc : ByteArray) (nL : Nat) (ret : Option FieldType) (d : Nat) (av : List Value) (S : Sto) (v : Option Value) (S' : Sto) : Prop :=
  Met l y (.code y cc nL ret :: WT) ({ frames := d, cells := 0, slots := 0, locals := 128 * d }) (va_Pc av (JP C S)) (JQ C v S') 0 0 (JA C)
def lvOf : List Value → List (Option Value)
  | [] => []
  | v :: vs => if v.category = 2 then some v :: none :: lvOf vs else some v :: lvOf vs
theorem lvOf_args : ∀ (vs : List Value) (i k : Nat) (v : Value), (lvOf vs)[k]? = some (some v) → (i + k, v) ∈ lv_args i vs
  | [], i, k, v, h => by simp [lvOf] at h
  | w :: vs, i, k, v, h => by
    unfold lvOf at h
    unfold lv_args
    by_cases hw : w.category = 2
    · rw [if_pos hw] at h
      match k, h with
      | 0, h =>
        simp at h
        subst h
        simp
      | 1, h => simp at h
      | k + 2, h =>
        simp only [List.getElem?_cons_succ] at h
        have := lvOf_args vs (i + 2) k v h
        rw [if_pos hw]
        rw [show i + (k + 2) = i + 2 + k by omega]
        exact List.mem_cons_of_mem _ this
    · rw [if_neg hw] at h
      have hw1 : w.category = 1 := (lv_cat w).resolve_right hw
      match k, h with
      | 0, h =>
        simp at h
        subst h
        simp
      | k + 1, h =>
        simp only [List.getElem?_cons_succ] at h
        have := lvOf_args vs (i + 1) k v h
        rw [if_neg hw]
        rw [show i + (k + 1) = i + 1 + k by omega]
        exact List.mem_cons_of_mem _ this
theorem rep_none {n k : Nat} {v : Value} (h : (List.replicate n (none : Option Value))[k]? = some (some v)) : False := by
  rw [List.getElem?_replicate] at h
  split at h <;> cases h
theorem con_of {l : Launch} {C : JC} {y : MethodName} {cc : ByteArray} {nL : Nat} {ret : Option FieldType} {d : Nat} {av : List Value} {S : Sto} {v : Option Value} {S' : Sto} (own : String) (k : Nat) (lv0 : List (Option Value)) (hy : plainName y.cls = true) (ho : y.cls = own) (hC : JInj C)
    (hlen : (lg_sl av).length ≤ nL) (hlv : lvOf av ++ List.replicate k none = lv0) (hln : lv0.length ≤ nL) (body : ∀ E, Jok l C E own cc d → Jret C E cc ret v S' → J C E S 0 lv0 []) : Con l C y cc nL ret d av S v S' := by
  refine Met.ofW (cc := cc) (maxL := nL) (ret := ret) hy rfl ?_
  intro p e s m args below meth c s₁ B hml hv
  obtain ⟨rfl, hP, hK, hN⟩ := hv
  have hts := atoms_spec (ws := .code y cc nL ret :: WT) B.pre
  have hown : s.vm.findClass own = some m.cls := by rw [← ho]; exact findClass_of_methodNamed B.named
  have hl := lv_entry av (n := nL) hlen
  rw [lg_entry_eq]
  generalize (lg_sl av ++ List.replicate (nL - (lg_sl av).length) Slot.unset).toArray = ls at hl ⊢
  have hok : Jok l C (p, l, e, (headSpec (.code y cc nL ret :: WT) ({ frames := d, cells := 0, slots := 0, locals := 128 * d })).room, s, m, av.toArray, below, meth, c, JA C, 0, 0, nL, MQ below (JQ C v S') av.toArray s 0 0 (JA C)) own cc d :=
    ⟨rfl, B.exec, B.bytes, hml, hown, fun w hw => hts w (List.mem_cons_of_mem _ hw), hK, hN, hC, fun i hi => ⟨i, hi, rfl⟩, Nat.le_refl _, Nat.le_refl _, Nat.le_refl _, Nat.le_refl _⟩
  have hret : Jret C (p, l, e, (headSpec (.code y cc nL ret :: WT) ({ frames := d, cells := 0, slots := 0, locals := 128 * d })).room, s, m, av.toArray, below, meth, c, JA C, 0, 0, nL, MQ below (JQ C v S') av.toArray s 0 0 (JA C)) cc ret v S' := by
    refine ⟨fun r ty H locs ls pc hr hv hn hP hS hd => ?_, fun H locs ls pc hr hv hP hS hd => ?_⟩
    · subst hv
      exact W.zret (ty := ty) B.exec B.bytes (by rw [B.returns, hr]) hn (fun t ht hW => ⟨⟨rfl, by rw [ht]; exact hP⟩, hS.F ht⟩) hS.2.2 hd B.notSynchronized
    · subst hv
      exact W.vret B.exec B.bytes (by rw [B.returns, hr]) (fun t ht hW => ⟨⟨rfl, by rw [ht]; exact hP⟩, hS.F ht⟩) hS.2.2 hd B.notSynchronized
  refine body _ hok hret s.heap [] ls hP va_S.rf ⟨hl.1, hl.2.1, hln, fun q w hq => ?_⟩
  have hm : (q, w) ∈ lv_args 0 av := by
    rw [← hlv] at hq
    rcases Nat.lt_or_ge q (lvOf av).length with h | h
    · rw [List.getElem?_append_left h] at hq
      have := lvOf_args av 0 q w hq
      rwa [Nat.zero_add] at this
    · rw [List.getElem?_append_right h] at hq
      exact (rep_none hq).elim
  exact hl.2.2 (q, w) hm
section Rows
variable {l : Launch} {C : JC} {E : JE} {own : String} {cc : ByteArray} {d : Nat} {S : Sto} {pc : Nat} {lv : List (Option Value)} {st : List Value}
theorem j_iconst (hE : Jok l C E own cc d) {n : Int} (v : Int32) (hd : decode cc pc = .ok (.iconst n, 1)) (hv : Int32.ofInt n = v) (k : J C E S (pc + 1) lv (.int v :: st)) : J C E S pc lv (st) := by
  obtain ⟨p, l0, e, R, s, m, args, below, meth, c, A, cells, slots, nL, Q⟩ := E
  obtain ⟨rfl, hx, hb, hml, hown, hts, hK, hN, hC, hA, hfr, hlo, hce, hsl⟩ := hE
  intro H locs ls hP hS hv
  exact lv_iconst hx hb hd ‹_› (k H locs ls hP hS hv)
theorem j_bipush (hE : Jok l C E own cc d) {n : Int} (v : Int32) (hd : decode cc pc = .ok (.bipush n, 2)) (hv : (Int8.ofInt n).toInt32 = v) (k : J C E S (pc + 2) lv (.int v :: st)) : J C E S pc lv (st) := by
  obtain ⟨p, l0, e, R, s, m, args, below, meth, c, A, cells, slots, nL, Q⟩ := E
  obtain ⟨rfl, hx, hb, hml, hown, hts, hK, hN, hC, hA, hfr, hlo, hce, hsl⟩ := hE
  intro H locs ls hP hS hv
  exact lv_bipush hx hb hd ‹_› (k H locs ls hP hS hv)
theorem j_sipush (hE : Jok l C E own cc d) {n : Int} (v : Int32) (hd : decode cc pc = .ok (.sipush n, 3)) (hv : (Int16.ofInt n).toInt32 = v) (k : J C E S (pc + 3) lv (.int v :: st)) : J C E S pc lv (st) := by
  obtain ⟨p, l0, e, R, s, m, args, below, meth, c, A, cells, slots, nL, Q⟩ := E
  obtain ⟨rfl, hx, hb, hml, hown, hts, hK, hN, hC, hA, hfr, hlo, hce, hsl⟩ := hE
  intro H locs ls hP hS hv
  exact lv_sipush hx hb hd ‹_› (k H locs ls hP hS hv)
theorem j_lconst (hE : Jok l C E own cc d) {n : Fin 2} (v : Int64) (hd : decode cc pc = .ok (.lconst n, 1)) (hv : Int64.ofNat (n : Nat) = v) (k : J C E S (pc + 1) lv (.long v :: st)) : J C E S pc lv (st) := by
  obtain ⟨p, l0, e, R, s, m, args, below, meth, c, A, cells, slots, nL, Q⟩ := E
  obtain ⟨rfl, hx, hb, hml, hown, hts, hK, hN, hC, hA, hfr, hlo, hce, hsl⟩ := hE
  intro H locs ls hP hS hv
  exact lv_lconst hx hb hd ‹_› (k H locs ls hP hS hv)
theorem j_ldc (hE : Jok l C E own cc d) {i : Nat} {v : Int32} (hd : decode cc pc = .ok (.ldc i, 2)) (hw : Cond.constant own i v ∈ WT) (k : J C E S (pc + 2) lv (.int v :: st)) : J C E S pc lv (st) := by
  obtain ⟨p, l0, e, R, s, m, args, below, meth, c, A, cells, slots, nL, Q⟩ := E
  obtain ⟨rfl, hx, hb, hml, hown, hts, hK, hN, hC, hA, hfr, hlo, hce, hsl⟩ := hE
  intro H locs ls hP hS hv
  exact lv_ldc hx hb hown (hts _ hw) hd (k H locs ls hP hS hv)
theorem j_ldcw (hE : Jok l C E own cc d) {i : Nat} {v : Int32} (hd : decode cc pc = .ok (.ldc_w i, 3)) (hw : Cond.constant own i v ∈ WT) (k : J C E S (pc + 3) lv (.int v :: st)) : J C E S pc lv (st) := by
  obtain ⟨p, l0, e, R, s, m, args, below, meth, c, A, cells, slots, nL, Q⟩ := E
  obtain ⟨rfl, hx, hb, hml, hown, hts, hK, hN, hC, hA, hfr, hlo, hce, hsl⟩ := hE
  intro H locs ls hP hS hv
  exact lv_ldcw hx hb hown (hts _ hw) hd (k H locs ls hP hS hv)
theorem j_ldc2 (hE : Jok l C E own cc d) {i : Nat} {v : Int64} (hd : decode cc pc = .ok (.ldc2_w i, 3)) (hw : Cond.constantLong own i v ∈ WT) (k : J C E S (pc + 3) lv (.long v :: st)) : J C E S pc lv (st) := by
  obtain ⟨p, l0, e, R, s, m, args, below, meth, c, A, cells, slots, nL, Q⟩ := E
  obtain ⟨rfl, hx, hb, hml, hown, hts, hK, hN, hC, hA, hfr, hlo, hce, hsl⟩ := hE
  intro H locs ls hP hS hv
  exact lv_ldc2 hx hb hown (hts _ hw) hd (k H locs ls hP hS hv)
theorem j_iadd (hE : Jok l C E own cc d) {x y : Int32} (hd : decode cc pc = .ok (.iadd, 1)) (k : J C E S (pc + 1) lv (.int (x + y) :: st)) : J C E S pc lv (.int y :: .int x :: st) := by
  obtain ⟨p, l0, e, R, s, m, args, below, meth, c, A, cells, slots, nL, Q⟩ := E
  obtain ⟨rfl, hx, hb, hml, hown, hts, hK, hN, hC, hA, hfr, hlo, hce, hsl⟩ := hE
  intro H locs ls hP hS hv
  exact lv_iadd hx hb hd (k H locs ls hP hS hv)
theorem j_isub (hE : Jok l C E own cc d) {x y : Int32} (hd : decode cc pc = .ok (.isub, 1)) (k : J C E S (pc + 1) lv (.int (x - y) :: st)) : J C E S pc lv (.int y :: .int x :: st) := by
  obtain ⟨p, l0, e, R, s, m, args, below, meth, c, A, cells, slots, nL, Q⟩ := E
  obtain ⟨rfl, hx, hb, hml, hown, hts, hK, hN, hC, hA, hfr, hlo, hce, hsl⟩ := hE
  intro H locs ls hP hS hv
  exact lv_isub hx hb hd (k H locs ls hP hS hv)
theorem j_imul (hE : Jok l C E own cc d) {x y : Int32} (hd : decode cc pc = .ok (.imul, 1)) (k : J C E S (pc + 1) lv (.int (x * y) :: st)) : J C E S pc lv (.int y :: .int x :: st) := by
  obtain ⟨p, l0, e, R, s, m, args, below, meth, c, A, cells, slots, nL, Q⟩ := E
  obtain ⟨rfl, hx, hb, hml, hown, hts, hK, hN, hC, hA, hfr, hlo, hce, hsl⟩ := hE
  intro H locs ls hP hS hv
  exact lv_imul hx hb hd (k H locs ls hP hS hv)
theorem j_iand (hE : Jok l C E own cc d) {x y : Int32} (hd : decode cc pc = .ok (.iand, 1)) (k : J C E S (pc + 1) lv (.int (x &&& y) :: st)) : J C E S pc lv (.int y :: .int x :: st) := by
  obtain ⟨p, l0, e, R, s, m, args, below, meth, c, A, cells, slots, nL, Q⟩ := E
  obtain ⟨rfl, hx, hb, hml, hown, hts, hK, hN, hC, hA, hfr, hlo, hce, hsl⟩ := hE
  intro H locs ls hP hS hv
  exact lv_iand hx hb hd (k H locs ls hP hS hv)
theorem j_ior (hE : Jok l C E own cc d) {x y : Int32} (hd : decode cc pc = .ok (.ior, 1)) (k : J C E S (pc + 1) lv (.int (x ||| y) :: st)) : J C E S pc lv (.int y :: .int x :: st) := by
  obtain ⟨p, l0, e, R, s, m, args, below, meth, c, A, cells, slots, nL, Q⟩ := E
  obtain ⟨rfl, hx, hb, hml, hown, hts, hK, hN, hC, hA, hfr, hlo, hce, hsl⟩ := hE
  intro H locs ls hP hS hv
  exact lv_ior hx hb hd (k H locs ls hP hS hv)
theorem j_ixor (hE : Jok l C E own cc d) {x y : Int32} (hd : decode cc pc = .ok (.ixor, 1)) (k : J C E S (pc + 1) lv (.int (x ^^^ y) :: st)) : J C E S pc lv (.int y :: .int x :: st) := by
  obtain ⟨p, l0, e, R, s, m, args, below, meth, c, A, cells, slots, nL, Q⟩ := E
  obtain ⟨rfl, hx, hb, hml, hown, hts, hK, hN, hC, hA, hfr, hlo, hce, hsl⟩ := hE
  intro H locs ls hP hS hv
  exact lv_ixor hx hb hd (k H locs ls hP hS hv)
theorem j_ishl (hE : Jok l C E own cc d) {x y : Int32} (hd : decode cc pc = .ok (.ishl, 1)) (k : J C E S (pc + 1) lv (.int (x <<< (y &&& 31)) :: st)) : J C E S pc lv (.int y :: .int x :: st) := by
  obtain ⟨p, l0, e, R, s, m, args, below, meth, c, A, cells, slots, nL, Q⟩ := E
  obtain ⟨rfl, hx, hb, hml, hown, hts, hK, hN, hC, hA, hfr, hlo, hce, hsl⟩ := hE
  intro H locs ls hP hS hv
  exact lv_ishl hx hb hd (k H locs ls hP hS hv)
theorem j_ishr (hE : Jok l C E own cc d) {x y : Int32} (hd : decode cc pc = .ok (.ishr, 1)) (k : J C E S (pc + 1) lv (.int (x >>> (y &&& 31)) :: st)) : J C E S pc lv (.int y :: .int x :: st) := by
  obtain ⟨p, l0, e, R, s, m, args, below, meth, c, A, cells, slots, nL, Q⟩ := E
  obtain ⟨rfl, hx, hb, hml, hown, hts, hK, hN, hC, hA, hfr, hlo, hce, hsl⟩ := hE
  intro H locs ls hP hS hv
  exact lv_ishr hx hb hd (k H locs ls hP hS hv)
theorem j_iushr (hE : Jok l C E own cc d) {x y : Int32} (hd : decode cc pc = .ok (.iushr, 1)) (k : J C E S (pc + 1) lv (.int (x.toUInt32 >>> (y.toUInt32 &&& Int32.toUInt32 31)).toInt32 :: st)) : J C E S pc lv (.int y :: .int x :: st) := by
  obtain ⟨p, l0, e, R, s, m, args, below, meth, c, A, cells, slots, nL, Q⟩ := E
  obtain ⟨rfl, hx, hb, hml, hown, hts, hK, hN, hC, hA, hfr, hlo, hce, hsl⟩ := hE
  intro H locs ls hP hS hv
  exact lv_iushr hx hb hd rfl (k H locs ls hP hS hv)
theorem j_idiv (hE : Jok l C E own cc d) {x y : Int32} (hd : decode cc pc = .ok (.idiv, 1)) (hne : ¬ y = 0) (k : J C E S (pc + 1) lv (.int (x / y) :: st)) : J C E S pc lv (.int y :: .int x :: st) := by
  obtain ⟨p, l0, e, R, s, m, args, below, meth, c, A, cells, slots, nL, Q⟩ := E
  obtain ⟨rfl, hx, hb, hml, hown, hts, hK, hN, hC, hA, hfr, hlo, hce, hsl⟩ := hE
  intro H locs ls hP hS hv
  exact lv_idiv hx hb hd hne (k H locs ls hP hS hv)
theorem j_irem (hE : Jok l C E own cc d) {x y : Int32} (hd : decode cc pc = .ok (.irem, 1)) (hne : ¬ y = 0) (k : J C E S (pc + 1) lv (.int (x - x / y * y) :: st)) : J C E S pc lv (.int y :: .int x :: st) := by
  obtain ⟨p, l0, e, R, s, m, args, below, meth, c, A, cells, slots, nL, Q⟩ := E
  obtain ⟨rfl, hx, hb, hml, hown, hts, hK, hN, hC, hA, hfr, hlo, hce, hsl⟩ := hE
  intro H locs ls hP hS hv
  exact lv_irem hx hb hd hne (k H locs ls hP hS hv)
theorem j_ladd (hE : Jok l C E own cc d) {x y : Int64} (hd : decode cc pc = .ok (.ladd, 1)) (k : J C E S (pc + 1) lv (.long (x + y) :: st)) : J C E S pc lv (.long y :: .long x :: st) := by
  obtain ⟨p, l0, e, R, s, m, args, below, meth, c, A, cells, slots, nL, Q⟩ := E
  obtain ⟨rfl, hx, hb, hml, hown, hts, hK, hN, hC, hA, hfr, hlo, hce, hsl⟩ := hE
  intro H locs ls hP hS hv
  exact lv_ladd hx hb hd (k H locs ls hP hS hv)
theorem j_lsub (hE : Jok l C E own cc d) {x y : Int64} (hd : decode cc pc = .ok (.lsub, 1)) (k : J C E S (pc + 1) lv (.long (x - y) :: st)) : J C E S pc lv (.long y :: .long x :: st) := by
  obtain ⟨p, l0, e, R, s, m, args, below, meth, c, A, cells, slots, nL, Q⟩ := E
  obtain ⟨rfl, hx, hb, hml, hown, hts, hK, hN, hC, hA, hfr, hlo, hce, hsl⟩ := hE
  intro H locs ls hP hS hv
  exact lv_lsub hx hb hd (k H locs ls hP hS hv)
theorem j_lmul (hE : Jok l C E own cc d) {x y : Int64} (hd : decode cc pc = .ok (.lmul, 1)) (k : J C E S (pc + 1) lv (.long (x * y) :: st)) : J C E S pc lv (.long y :: .long x :: st) := by
  obtain ⟨p, l0, e, R, s, m, args, below, meth, c, A, cells, slots, nL, Q⟩ := E
  obtain ⟨rfl, hx, hb, hml, hown, hts, hK, hN, hC, hA, hfr, hlo, hce, hsl⟩ := hE
  intro H locs ls hP hS hv
  exact lv_lmul hx hb hd (k H locs ls hP hS hv)
theorem j_ldiv (hE : Jok l C E own cc d) {x y : Int64} (hd : decode cc pc = .ok (.ldiv, 1)) (hne : ¬ y = 0) (k : J C E S (pc + 1) lv (.long (x / y) :: st)) : J C E S pc lv (.long y :: .long x :: st) := by
  obtain ⟨p, l0, e, R, s, m, args, below, meth, c, A, cells, slots, nL, Q⟩ := E
  obtain ⟨rfl, hx, hb, hml, hown, hts, hK, hN, hC, hA, hfr, hlo, hce, hsl⟩ := hE
  intro H locs ls hP hS hv
  exact lv_ldiv hx hb hd hne (k H locs ls hP hS hv)
theorem j_lrem (hE : Jok l C E own cc d) {x y : Int64} (hd : decode cc pc = .ok (.lrem, 1)) (hne : ¬ y = 0) (k : J C E S (pc + 1) lv (.long (x - x / y * y) :: st)) : J C E S pc lv (.long y :: .long x :: st) := by
  obtain ⟨p, l0, e, R, s, m, args, below, meth, c, A, cells, slots, nL, Q⟩ := E
  obtain ⟨rfl, hx, hb, hml, hown, hts, hK, hN, hC, hA, hfr, hlo, hce, hsl⟩ := hE
  intro H locs ls hP hS hv
  exact lv_lrem hx hb hd hne (k H locs ls hP hS hv)
theorem j_lshl (hE : Jok l C E own cc d) {x : Int64} {y : Int32} (hd : decode cc pc = .ok (.lshl, 1)) (k : J C E S (pc + 1) lv (.long (x <<< (y.toInt64 &&& 63)) :: st)) : J C E S pc lv (.int y :: .long x :: st) := by
  obtain ⟨p, l0, e, R, s, m, args, below, meth, c, A, cells, slots, nL, Q⟩ := E
  obtain ⟨rfl, hx, hb, hml, hown, hts, hK, hN, hC, hA, hfr, hlo, hce, hsl⟩ := hE
  intro H locs ls hP hS hv
  exact lv_lshl hx hb hd rfl (k H locs ls hP hS hv)
theorem j_i2l (hE : Jok l C E own cc d) {x : Int32} (hd : decode cc pc = .ok (.i2l, 1)) (k : J C E S (pc + 1) lv (.long x.toInt64 :: st)) : J C E S pc lv (.int x :: st) := by
  obtain ⟨p, l0, e, R, s, m, args, below, meth, c, A, cells, slots, nL, Q⟩ := E
  obtain ⟨rfl, hx, hb, hml, hown, hts, hK, hN, hC, hA, hfr, hlo, hce, hsl⟩ := hE
  intro H locs ls hP hS hv
  exact lv_i2l hx hb hd rfl (k H locs ls hP hS hv)
theorem j_l2i (hE : Jok l C E own cc d) {x : Int64} (hd : decode cc pc = .ok (.l2i, 1)) (k : J C E S (pc + 1) lv (.int x.toInt32 :: st)) : J C E S pc lv (.long x :: st) := by
  obtain ⟨p, l0, e, R, s, m, args, below, meth, c, A, cells, slots, nL, Q⟩ := E
  obtain ⟨rfl, hx, hb, hml, hown, hts, hK, hN, hC, hA, hfr, hlo, hce, hsl⟩ := hE
  intro H locs ls hP hS hv
  exact lv_l2i hx hb hd rfl (k H locs ls hP hS hv)
theorem j_lcmp (hE : Jok l C E own cc d) {x y : Int64} (hd : decode cc pc = .ok (.lcmp, 1)) (k : J C E S (pc + 1) lv (.int (lg_cmp x y) :: st)) : J C E S pc lv (.long y :: .long x :: st) := by
  obtain ⟨p, l0, e, R, s, m, args, below, meth, c, A, cells, slots, nL, Q⟩ := E
  obtain ⟨rfl, hx, hb, hml, hown, hts, hK, hN, hC, hA, hfr, hlo, hce, hsl⟩ := hE
  intro H locs ls hP hS hv
  exact W.lcmp hx hb hd (k H locs ls hP hS hv)
theorem j_dup (hE : Jok l C E own cc d) {a : Value} (hd : decode cc pc = .ok (.dup, 1)) (ha : a.category = 1) (k : J C E S (pc + 1) lv (a :: a :: st)) : J C E S pc lv (a :: st) := by
  obtain ⟨p, l0, e, R, s, m, args, below, meth, c, A, cells, slots, nL, Q⟩ := E
  obtain ⟨rfl, hx, hb, hml, hown, hts, hK, hN, hC, hA, hfr, hlo, hce, hsl⟩ := hE
  intro H locs ls hP hS hv
  exact lv_dup hx hb hd ha (k H locs ls hP hS hv)
theorem j_pop (hE : Jok l C E own cc d) {a : Value} (hd : decode cc pc = .ok (.pop, 1)) (ha : a.category = 1) (k : J C E S (pc + 1) lv (st)) : J C E S pc lv (a :: st) := by
  obtain ⟨p, l0, e, R, s, m, args, below, meth, c, A, cells, slots, nL, Q⟩ := E
  obtain ⟨rfl, hx, hb, hml, hown, hts, hK, hN, hC, hA, hfr, hlo, hce, hsl⟩ := hE
  intro H locs ls hP hS hv
  exact lv_pop hx hb hd ha (k H locs ls hP hS hv)
theorem j_dup_x1 (hE : Jok l C E own cc d) {a b : Value} (hd : decode cc pc = .ok (.dup_x1, 1)) (ha : a.category = 1) (h2 : b.category = 1) (k : J C E S (pc + 1) lv (a :: b :: a :: st)) : J C E S pc lv (a :: b :: st) := by
  obtain ⟨p, l0, e, R, s, m, args, below, meth, c, A, cells, slots, nL, Q⟩ := E
  obtain ⟨rfl, hx, hb, hml, hown, hts, hK, hN, hC, hA, hfr, hlo, hce, hsl⟩ := hE
  intro H locs ls hP hS hv
  exact lv_dup_x1 hx hb hd ha h2 (k H locs ls hP hS hv)
theorem j_dup_x2 (hE : Jok l C E own cc d) {a b c0 : Value} (hd : decode cc pc = .ok (.dup_x2, 1)) (ha : a.category = 1) (h2 : b.category = 1) (h3 : c0.category = 1) (k : J C E S (pc + 1) lv (a :: b :: c0 :: a :: st)) : J C E S pc lv (a :: b :: c0 :: st) := by
  obtain ⟨p, l0, e, R, s, m, args, below, meth, c, A, cells, slots, nL, Q⟩ := E
  obtain ⟨rfl, hx, hb, hml, hown, hts, hK, hN, hC, hA, hfr, hlo, hce, hsl⟩ := hE
  intro H locs ls hP hS hv
  exact lv_dup_x2 hx hb hd ha h2 h3 (k H locs ls hP hS hv)
theorem j_dup2 (hE : Jok l C E own cc d) {a b : Value} (hd : decode cc pc = .ok (.dup2, 1)) (ha : a.category = 1) (h2 : b.category = 1) (k : J C E S (pc + 1) lv (a :: b :: a :: b :: st)) : J C E S pc lv (a :: b :: st) := by
  obtain ⟨p, l0, e, R, s, m, args, below, meth, c, A, cells, slots, nL, Q⟩ := E
  obtain ⟨rfl, hx, hb, hml, hown, hts, hK, hN, hC, hA, hfr, hlo, hce, hsl⟩ := hE
  intro H locs ls hP hS hv
  exact lv_dup2_11 hx hb hd ha h2 (k H locs ls hP hS hv)
theorem j_goto (hE : Jok l C E own cc d) {off : Int} (tgt : Nat) (hd : decode cc pc = .ok (.goto off, 3)) (ht : (pc : Int) + off = (tgt : Int)) (k : J C E S tgt lv st) : J C E S pc lv st := by
  obtain ⟨p, l0, e, R, s, m, args, below, meth, c, A, cells, slots, nL, Q⟩ := E
  obtain ⟨rfl, hx, hb, hml, hown, hts, hK, hN, hC, hA, hfr, hlo, hce, hsl⟩ := hE
  intro H locs ls hP hS hv
  exact lv_goto hx hb hd ht (k H locs ls hP hS hv)
theorem j_ifeq (hE : Jok l C E own cc d) {x : Int32} {off : Int} (tgt : Nat) (hd : decode cc pc = .ok (.ifCond .eq off, 3)) (ht : (pc : Int) + off = (tgt : Int)) (kt : x = 0 → J C E S tgt lv st) (kf : ¬ x = 0 → J C E S (pc + 3) lv st) : J C E S pc lv (.int x :: st) := by
  obtain ⟨p, l0, e, R, s, m, args, below, meth, c, A, cells, slots, nL, Q⟩ := E
  obtain ⟨rfl, hx, hb, hml, hown, hts, hK, hN, hC, hA, hfr, hlo, hce, hsl⟩ := hE
  intro H locs ls hP hS hv
  exact lv_if_eq hx hb hd ht (fun q => kt q H locs ls hP hS hv) (fun q => kf q H locs ls hP hS hv)
theorem j_ifne (hE : Jok l C E own cc d) {x : Int32} {off : Int} (tgt : Nat) (hd : decode cc pc = .ok (.ifCond .ne off, 3)) (ht : (pc : Int) + off = (tgt : Int)) (kt : ¬ x = 0 → J C E S tgt lv st) (kf : x = 0 → J C E S (pc + 3) lv st) : J C E S pc lv (.int x :: st) := by
  obtain ⟨p, l0, e, R, s, m, args, below, meth, c, A, cells, slots, nL, Q⟩ := E
  obtain ⟨rfl, hx, hb, hml, hown, hts, hK, hN, hC, hA, hfr, hlo, hce, hsl⟩ := hE
  intro H locs ls hP hS hv
  exact lv_if_ne hx hb hd ht (fun q => kt q H locs ls hP hS hv) (fun q => kf q H locs ls hP hS hv)
theorem j_iflt (hE : Jok l C E own cc d) {x : Int32} {off : Int} (tgt : Nat) (hd : decode cc pc = .ok (.ifCond .lt off, 3)) (ht : (pc : Int) + off = (tgt : Int)) (kt : x < 0 → J C E S tgt lv st) (kf : ¬ x < 0 → J C E S (pc + 3) lv st) : J C E S pc lv (.int x :: st) := by
  obtain ⟨p, l0, e, R, s, m, args, below, meth, c, A, cells, slots, nL, Q⟩ := E
  obtain ⟨rfl, hx, hb, hml, hown, hts, hK, hN, hC, hA, hfr, hlo, hce, hsl⟩ := hE
  intro H locs ls hP hS hv
  exact lv_if_lt hx hb hd ht (fun q => kt q H locs ls hP hS hv) (fun q => kf q H locs ls hP hS hv)
theorem j_ifge (hE : Jok l C E own cc d) {x : Int32} {off : Int} (tgt : Nat) (hd : decode cc pc = .ok (.ifCond .ge off, 3)) (ht : (pc : Int) + off = (tgt : Int)) (kt : 0 ≤ x → J C E S tgt lv st) (kf : ¬ 0 ≤ x → J C E S (pc + 3) lv st) : J C E S pc lv (.int x :: st) := by
  obtain ⟨p, l0, e, R, s, m, args, below, meth, c, A, cells, slots, nL, Q⟩ := E
  obtain ⟨rfl, hx, hb, hml, hown, hts, hK, hN, hC, hA, hfr, hlo, hce, hsl⟩ := hE
  intro H locs ls hP hS hv
  exact lv_if_ge hx hb hd ht (fun q => kt q H locs ls hP hS hv) (fun q => kf q H locs ls hP hS hv)
theorem j_ifgt (hE : Jok l C E own cc d) {x : Int32} {off : Int} (tgt : Nat) (hd : decode cc pc = .ok (.ifCond .gt off, 3)) (ht : (pc : Int) + off = (tgt : Int)) (kt : 0 < x → J C E S tgt lv st) (kf : ¬ 0 < x → J C E S (pc + 3) lv st) : J C E S pc lv (.int x :: st) := by
  obtain ⟨p, l0, e, R, s, m, args, below, meth, c, A, cells, slots, nL, Q⟩ := E
  obtain ⟨rfl, hx, hb, hml, hown, hts, hK, hN, hC, hA, hfr, hlo, hce, hsl⟩ := hE
  intro H locs ls hP hS hv
  exact lv_if_gt hx hb hd ht (fun q => kt q H locs ls hP hS hv) (fun q => kf q H locs ls hP hS hv)
theorem j_ifle (hE : Jok l C E own cc d) {x : Int32} {off : Int} (tgt : Nat) (hd : decode cc pc = .ok (.ifCond .le off, 3)) (ht : (pc : Int) + off = (tgt : Int)) (kt : x ≤ 0 → J C E S tgt lv st) (kf : ¬ x ≤ 0 → J C E S (pc + 3) lv st) : J C E S pc lv (.int x :: st) := by
  obtain ⟨p, l0, e, R, s, m, args, below, meth, c, A, cells, slots, nL, Q⟩ := E
  obtain ⟨rfl, hx, hb, hml, hown, hts, hK, hN, hC, hA, hfr, hlo, hce, hsl⟩ := hE
  intro H locs ls hP hS hv
  exact lv_if_le hx hb hd ht (fun q => kt q H locs ls hP hS hv) (fun q => kf q H locs ls hP hS hv)
theorem j_icmpeq (hE : Jok l C E own cc d) {x y : Int32} {off : Int} (tgt : Nat) (hd : decode cc pc = .ok (.if_icmp .eq off, 3)) (ht : (pc : Int) + off = (tgt : Int)) (kt : x = y → J C E S tgt lv st) (kf : ¬ x = y → J C E S (pc + 3) lv st) : J C E S pc lv (.int y :: .int x :: st) := by
  obtain ⟨p, l0, e, R, s, m, args, below, meth, c, A, cells, slots, nL, Q⟩ := E
  obtain ⟨rfl, hx, hb, hml, hown, hts, hK, hN, hC, hA, hfr, hlo, hce, hsl⟩ := hE
  intro H locs ls hP hS hv
  exact lv_icmp_eq hx hb hd ht (fun q => kt q H locs ls hP hS hv) (fun q => kf q H locs ls hP hS hv)
theorem j_icmpne (hE : Jok l C E own cc d) {x y : Int32} {off : Int} (tgt : Nat) (hd : decode cc pc = .ok (.if_icmp .ne off, 3)) (ht : (pc : Int) + off = (tgt : Int)) (kt : ¬ x = y → J C E S tgt lv st) (kf : x = y → J C E S (pc + 3) lv st) : J C E S pc lv (.int y :: .int x :: st) := by
  obtain ⟨p, l0, e, R, s, m, args, below, meth, c, A, cells, slots, nL, Q⟩ := E
  obtain ⟨rfl, hx, hb, hml, hown, hts, hK, hN, hC, hA, hfr, hlo, hce, hsl⟩ := hE
  intro H locs ls hP hS hv
  exact lv_icmp_ne hx hb hd ht (fun q => kt q H locs ls hP hS hv) (fun q => kf q H locs ls hP hS hv)
theorem j_icmplt (hE : Jok l C E own cc d) {x y : Int32} {off : Int} (tgt : Nat) (hd : decode cc pc = .ok (.if_icmp .lt off, 3)) (ht : (pc : Int) + off = (tgt : Int)) (kt : x < y → J C E S tgt lv st) (kf : ¬ x < y → J C E S (pc + 3) lv st) : J C E S pc lv (.int y :: .int x :: st) := by
  obtain ⟨p, l0, e, R, s, m, args, below, meth, c, A, cells, slots, nL, Q⟩ := E
  obtain ⟨rfl, hx, hb, hml, hown, hts, hK, hN, hC, hA, hfr, hlo, hce, hsl⟩ := hE
  intro H locs ls hP hS hv
  exact lv_icmp_lt hx hb hd ht (fun q => kt q H locs ls hP hS hv) (fun q => kf q H locs ls hP hS hv)
theorem j_icmpge (hE : Jok l C E own cc d) {x y : Int32} {off : Int} (tgt : Nat) (hd : decode cc pc = .ok (.if_icmp .ge off, 3)) (ht : (pc : Int) + off = (tgt : Int)) (kt : y ≤ x → J C E S tgt lv st) (kf : ¬ y ≤ x → J C E S (pc + 3) lv st) : J C E S pc lv (.int y :: .int x :: st) := by
  obtain ⟨p, l0, e, R, s, m, args, below, meth, c, A, cells, slots, nL, Q⟩ := E
  obtain ⟨rfl, hx, hb, hml, hown, hts, hK, hN, hC, hA, hfr, hlo, hce, hsl⟩ := hE
  intro H locs ls hP hS hv
  exact lv_icmp_ge hx hb hd ht (fun q => kt q H locs ls hP hS hv) (fun q => kf q H locs ls hP hS hv)
theorem j_icmpgt (hE : Jok l C E own cc d) {x y : Int32} {off : Int} (tgt : Nat) (hd : decode cc pc = .ok (.if_icmp .gt off, 3)) (ht : (pc : Int) + off = (tgt : Int)) (kt : y < x → J C E S tgt lv st) (kf : ¬ y < x → J C E S (pc + 3) lv st) : J C E S pc lv (.int y :: .int x :: st) := by
  obtain ⟨p, l0, e, R, s, m, args, below, meth, c, A, cells, slots, nL, Q⟩ := E
  obtain ⟨rfl, hx, hb, hml, hown, hts, hK, hN, hC, hA, hfr, hlo, hce, hsl⟩ := hE
  intro H locs ls hP hS hv
  exact lv_icmp_gt hx hb hd ht (fun q => kt q H locs ls hP hS hv) (fun q => kf q H locs ls hP hS hv)
theorem j_icmple (hE : Jok l C E own cc d) {x y : Int32} {off : Int} (tgt : Nat) (hd : decode cc pc = .ok (.if_icmp .le off, 3)) (ht : (pc : Int) + off = (tgt : Int)) (kt : x ≤ y → J C E S tgt lv st) (kf : ¬ x ≤ y → J C E S (pc + 3) lv st) : J C E S pc lv (.int y :: .int x :: st) := by
  obtain ⟨p, l0, e, R, s, m, args, below, meth, c, A, cells, slots, nL, Q⟩ := E
  obtain ⟨rfl, hx, hb, hml, hown, hts, hK, hN, hC, hA, hfr, hlo, hce, hsl⟩ := hE
  intro H locs ls hP hS hv
  exact lv_icmp_le hx hb hd ht (fun q => kt q H locs ls hP hS hv) (fun q => kf q H locs ls hP hS hv)
theorem j_tabIn (hE : Jok l C E own cc d) {dflt lo hi : Int} {offs : Array Int} {len : Nat} {x : Int32} {off : Int} (tgt : Nat) (hd : decode cc pc = .ok (.tableswitch dflt lo hi offs, len)) (h1 : ¬ x.toInt < lo) (h2 : ¬ hi < x.toInt) (ho : offs[(x.toInt - lo).toNat]? = some off) (ht : (pc : Int) + off = (tgt : Int)) (k : J C E S tgt lv st) : J C E S pc lv (.int x :: st) := by
  obtain ⟨p, l0, e, R, s, m, args, below, meth, c, A, cells, slots, nL, Q⟩ := E
  obtain ⟨rfl, hx, hb, hml, hown, hts, hK, hN, hC, hA, hfr, hlo, hce, hsl⟩ := hE
  intro H locs ls hP hS hv
  exact lv_tableIn hx hb hd h1 h2 ho ht (k H locs ls hP hS hv)
theorem j_tabOut (hE : Jok l C E own cc d) {dflt lo hi : Int} {offs : Array Int} {len : Nat} {x : Int32} (tgt : Nat) (hd : decode cc pc = .ok (.tableswitch dflt lo hi offs, len)) (h : x.toInt < lo ∨ hi < x.toInt) (ht : (pc : Int) + dflt = (tgt : Int)) (k : J C E S tgt lv st) : J C E S pc lv (.int x :: st) := by
  obtain ⟨p, l0, e, R, s, m, args, below, meth, c, A, cells, slots, nL, Q⟩ := E
  obtain ⟨rfl, hx, hb, hml, hown, hts, hK, hN, hC, hA, hfr, hlo, hce, hsl⟩ := hE
  intro H locs ls hP hS hv
  exact lv_tableOut hx hb hd h ht (k H locs ls hP hS hv)
theorem j_look (hE : Jok l C E own cc d) {dflt : Int} {ps : Array (Int × Int)} {len : Nat} {x : Int32} {off : Int} (tgt : Nat) (hd : decode cc pc = .ok (.lookupswitch dflt ps, len)) (hp : (ps.toList.zip (ps.toList.drop 1)).all (fun (a, next) => a.1 < next.1) = true) (ho : Op.lookupswitch.offset ps.toList dflt x.toInt = off) (ht : (pc : Int) + off = (tgt : Int)) (k : J C E S tgt lv st) : J C E S pc lv (.int x :: st) := by
  obtain ⟨p, l0, e, R, s, m, args, below, meth, c, A, cells, slots, nL, Q⟩ := E
  obtain ⟨rfl, hx, hb, hml, hown, hts, hK, hN, hC, hA, hfr, hlo, hce, hsl⟩ := hE
  intro H locs ls hP hS hv
  exact lv_lookup hx hb hd hp ho ht (k H locs ls hP hS hv)
theorem j_iload_g (hE : Jok l C E own cc d) {i : Nat} {x : Int32} (hd : decode cc pc = .ok (.iload i, 2)) (hi : lv[i]? = some (some (.int x))) (k : J C E S (pc + 2) lv (.int x :: st)) : J C E S pc lv (st) := by
  obtain ⟨p, l0, e, R, s, m, args, below, meth, c, A, cells, slots, nL, Q⟩ := E
  obtain ⟨rfl, hx, hb, hml, hown, hts, hK, hN, hC, hA, hfr, hlo, hce, hsl⟩ := hE
  intro H locs ls hP hS hv
  exact lv_iload hx hb hd (hv.2.2.2 _ _ hi) (k H locs ls hP hS hv)
theorem j_iload_n (hE : Jok l C E own cc d) {i : Fin 4} {x : Int32} (hd : decode cc pc = .ok (.iload_n i, 1)) (hi : lv[(i : Nat)]? = some (some (.int x))) (k : J C E S (pc + 1) lv (.int x :: st)) : J C E S pc lv (st) := by
  obtain ⟨p, l0, e, R, s, m, args, below, meth, c, A, cells, slots, nL, Q⟩ := E
  obtain ⟨rfl, hx, hb, hml, hown, hts, hK, hN, hC, hA, hfr, hlo, hce, hsl⟩ := hE
  intro H locs ls hP hS hv
  exact lv_iload_n hx hb hd rfl (hv.2.2.2 _ _ hi) (k H locs ls hP hS hv)
theorem j_aload_g (hE : Jok l C E own cc d) {i : Nat} {x : Nat} (hd : decode cc pc = .ok (.aload i, 2)) (hi : lv[i]? = some (some (.ref x))) (k : J C E S (pc + 2) lv (.ref x :: st)) : J C E S pc lv (st) := by
  obtain ⟨p, l0, e, R, s, m, args, below, meth, c, A, cells, slots, nL, Q⟩ := E
  obtain ⟨rfl, hx, hb, hml, hown, hts, hK, hN, hC, hA, hfr, hlo, hce, hsl⟩ := hE
  intro H locs ls hP hS hv
  exact lv_aload hx hb hd (hv.2.2.2 _ _ hi) (k H locs ls hP hS hv)
theorem j_aload_n (hE : Jok l C E own cc d) {i : Fin 4} {x : Nat} (hd : decode cc pc = .ok (.aload_n i, 1)) (hi : lv[(i : Nat)]? = some (some (.ref x))) (k : J C E S (pc + 1) lv (.ref x :: st)) : J C E S pc lv (st) := by
  obtain ⟨p, l0, e, R, s, m, args, below, meth, c, A, cells, slots, nL, Q⟩ := E
  obtain ⟨rfl, hx, hb, hml, hown, hts, hK, hN, hC, hA, hfr, hlo, hce, hsl⟩ := hE
  intro H locs ls hP hS hv
  exact lv_aload_n hx hb hd rfl (hv.2.2.2 _ _ hi) (k H locs ls hP hS hv)
theorem j_lload_g (hE : Jok l C E own cc d) {i : Nat} {x : Int64} (hd : decode cc pc = .ok (.lload i, 2)) (hi : lv[i]? = some (some (.long x))) (k : J C E S (pc + 2) lv (.long x :: st)) : J C E S pc lv (st) := by
  obtain ⟨p, l0, e, R, s, m, args, below, meth, c, A, cells, slots, nL, Q⟩ := E
  obtain ⟨rfl, hx, hb, hml, hown, hts, hK, hN, hC, hA, hfr, hlo, hce, hsl⟩ := hE
  intro H locs ls hP hS hv
  exact lv_lload hx hb hd (hv.2.2.2 _ _ hi) (k H locs ls hP hS hv)
theorem j_lload_n (hE : Jok l C E own cc d) {i : Fin 4} {x : Int64} (hd : decode cc pc = .ok (.lload_n i, 1)) (hi : lv[(i : Nat)]? = some (some (.long x))) (k : J C E S (pc + 1) lv (.long x :: st)) : J C E S pc lv (st) := by
  obtain ⟨p, l0, e, R, s, m, args, below, meth, c, A, cells, slots, nL, Q⟩ := E
  obtain ⟨rfl, hx, hb, hml, hown, hts, hK, hN, hC, hA, hfr, hlo, hce, hsl⟩ := hE
  intro H locs ls hP hS hv
  exact lv_lload_n hx hb hd rfl (hv.2.2.2 _ _ hi) (k H locs ls hP hS hv)
theorem lvH_has {ls : Array Slot} {nL : Nat} {lv : List (Option Value)} (h : lvH ls nL lv) : lv_has ls nL ((List.range lv.length).filterMap (fun k => (lv[k]?.join).map (fun v => (k, v)))) := by
  refine ⟨h.1, h.2.1, fun q hq => ?_⟩
  obtain ⟨k, -, hk⟩ := List.mem_filterMap.mp hq
  cases hj : lv[k]?.join with
  | none => rw [hj] at hk; cases hk
  | some v =>
    rw [hj] at hk
    cases hk
    exact h.2.2.2 k v (by
      cases hz : lv[k]? with
      | none => rw [hz] at hj; cases hj
      | some z => rw [hz] at hj; rw [show z = some v from hj])
theorem lvH_in {lv : List (Option Value)} {k : Nat} {v : Value} (h : lv[k]? = some (some v)) : (k, v) ∈ (List.range lv.length).filterMap (fun k => (lv[k]?.join).map (fun v => (k, v))) := by
  refine List.mem_filterMap.mpr ⟨k, List.mem_range.mpr (List.getElem?_eq_some_iff.mp h).1, ?_⟩
  rw [h]
  rfl
/-- no long stands just before place i -/
def ok1 (lv : List (Option Value)) : Nat → Bool
  | 0 => true
  | j + 1 => match lv[j]? with
    | some (some v) => v.category == 1
    | _ => true
theorem lvH_set {ls ls' : Array Slot} {nL i : Nat} {lv : List (Option Value)} {v : Value} (h : lvH ls nL lv) (hi : i < lv.length) (ho : ok1 lv i = true) (h' : lv_has ls' nL ((i, v) :: ((List.range lv.length).filterMap (fun k => (lv[k]?.join).map (fun v => (k, v)))).filter (fun q => !(q.1 == i) && !(q.1 + 1 == i && q.2.category == 2)))) : lvH ls' nL (lv.set i (some v)) := by
  refine ⟨h'.1, h'.2.1, by rw [List.length_set]; exact h.2.2.1, fun k w hk => ?_⟩
  by_cases hki : k = i
  · subst hki
    rw [List.getElem?_set_self hi] at hk
    cases hk
    exact h'.2.2 (k, v) List.mem_cons_self
  · rw [List.getElem?_set_ne (fun q => hki q.symm)] at hk
    refine h'.2.2 (k, w) (List.mem_cons_of_mem _ (List.mem_filter.mpr ⟨lvH_in hk, ?_⟩))
    simp only [Bool.and_eq_true, Bool.not_eq_true', beq_eq_false_iff_ne, ne_eq, Bool.and_eq_false_iff]
    refine ⟨hki, ?_⟩
    by_cases h1 : k + 1 = i
    · subst h1
      right
      have : w.category = 1 := by simpa [ok1, hk] using ho
      omega
    · exact Or.inl h1
theorem lvH_set2 {ls ls' : Array Slot} {nL i : Nat} {lv : List (Option Value)} {v : Value} (h : lvH ls nL lv) (hi : i + 1 < lv.length) (ho : ok1 lv i = true) (h' : lv_has ls' nL ((i, v) :: ((List.range lv.length).filterMap (fun k => (lv[k]?.join).map (fun v => (k, v)))).filter (fun q => !(q.1 == i) && (!(q.1 == i + 1) && !(q.1 + 1 == i && q.2.category == 2))))) : lvH ls' nL ((lv.set i (some v)).set (i + 1) none) := by
  refine ⟨h'.1, h'.2.1, by rw [List.length_set, List.length_set]; exact h.2.2.1, fun k w hk => ?_⟩
  by_cases hk1 : k = i + 1
  · subst hk1
    rw [List.getElem?_set_self (by rw [List.length_set]; exact hi)] at hk
    cases hk
  rw [List.getElem?_set_ne (fun q => hk1 q.symm)] at hk
  by_cases hki : k = i
  · subst hki
    rw [List.getElem?_set_self (by omega)] at hk
    cases hk
    exact h'.2.2 (k, v) List.mem_cons_self
  · rw [List.getElem?_set_ne (fun q => hki q.symm)] at hk
    refine h'.2.2 (k, w) (List.mem_cons_of_mem _ (List.mem_filter.mpr ⟨lvH_in hk, ?_⟩))
    simp only [Bool.and_eq_true, Bool.not_eq_true', beq_eq_false_iff_ne, ne_eq, Bool.and_eq_false_iff]
    refine ⟨hki, hk1, ?_⟩
    by_cases h1 : k + 1 = i
    · subst h1
      right
      have : w.category = 1 := by simpa [ok1, hk] using ho
      omega
    · exact Or.inl h1
theorem j_istore_g (hE : Jok l C E own cc d) {i : Nat} {x : Int32} (hd : decode cc pc = .ok (.istore i, 2)) (hi : i < lv.length) (ho : ok1 lv i = true) (k : J C E S (pc + 2) (lv.set i (some (.int x))) st) : J C E S pc lv (.int x :: st) := by
  obtain ⟨p, l0, e, R, s, m, args, below, meth, c, A, cells, slots, nL, Q⟩ := E
  obtain ⟨rfl, hx, hb, hml, hown, hts, hK, hN, hC, hA, hfr, hlo, hce, hsl⟩ := hE
  intro H locs ls hP hS hv
  exact lv_istore hx hb hd (lvH_has hv) (Nat.lt_of_lt_of_le hi hv.2.2.1) rfl (fun ls' hl => k H locs ls' hP hS (lvH_set hv hi ho hl))
theorem j_istore_n (hE : Jok l C E own cc d) {i : Fin 4} {x : Int32} (hd : decode cc pc = .ok (.istore_n i, 1)) (hi : (i : Nat) < lv.length) (ho : ok1 lv (i : Nat) = true) (k : J C E S (pc + 1) (lv.set (i : Nat) (some (.int x))) st) : J C E S pc lv (.int x :: st) := by
  obtain ⟨p, l0, e, R, s, m, args, below, meth, c, A, cells, slots, nL, Q⟩ := E
  obtain ⟨rfl, hx, hb, hml, hown, hts, hK, hN, hC, hA, hfr, hlo, hce, hsl⟩ := hE
  intro H locs ls hP hS hv
  exact lv_istore_n hx hb hd rfl (lvH_has hv) (Nat.lt_of_lt_of_le hi hv.2.2.1) rfl (fun ls' hl => k H locs ls' hP hS (lvH_set hv hi ho hl))
theorem j_astore_g (hE : Jok l C E own cc d) {i : Nat} {x : Nat} (hd : decode cc pc = .ok (.astore i, 2)) (hi : i < lv.length) (ho : ok1 lv i = true) (k : J C E S (pc + 2) (lv.set i (some (.ref x))) st) : J C E S pc lv (.ref x :: st) := by
  obtain ⟨p, l0, e, R, s, m, args, below, meth, c, A, cells, slots, nL, Q⟩ := E
  obtain ⟨rfl, hx, hb, hml, hown, hts, hK, hN, hC, hA, hfr, hlo, hce, hsl⟩ := hE
  intro H locs ls hP hS hv
  exact lv_astore hx hb hd (lvH_has hv) (Nat.lt_of_lt_of_le hi hv.2.2.1) rfl (fun ls' hl => k H locs ls' hP hS (lvH_set hv hi ho hl))
theorem j_astore_n (hE : Jok l C E own cc d) {i : Fin 4} {x : Nat} (hd : decode cc pc = .ok (.astore_n i, 1)) (hi : (i : Nat) < lv.length) (ho : ok1 lv (i : Nat) = true) (k : J C E S (pc + 1) (lv.set (i : Nat) (some (.ref x))) st) : J C E S pc lv (.ref x :: st) := by
  obtain ⟨p, l0, e, R, s, m, args, below, meth, c, A, cells, slots, nL, Q⟩ := E
  obtain ⟨rfl, hx, hb, hml, hown, hts, hK, hN, hC, hA, hfr, hlo, hce, hsl⟩ := hE
  intro H locs ls hP hS hv
  exact lv_astore_n hx hb hd rfl (lvH_has hv) (Nat.lt_of_lt_of_le hi hv.2.2.1) rfl (fun ls' hl => k H locs ls' hP hS (lvH_set hv hi ho hl))
theorem j_lstore_g (hE : Jok l C E own cc d) {i : Nat} {x : Int64} (hd : decode cc pc = .ok (.lstore i, 2)) (hi : i + 1 < lv.length) (ho : ok1 lv i = true) (k : J C E S (pc + 2) ((lv.set i (some (.long x))).set (i + 1) none) st) : J C E S pc lv (.long x :: st) := by
  obtain ⟨p, l0, e, R, s, m, args, below, meth, c, A, cells, slots, nL, Q⟩ := E
  obtain ⟨rfl, hx, hb, hml, hown, hts, hK, hN, hC, hA, hfr, hlo, hce, hsl⟩ := hE
  intro H locs ls hP hS hv
  exact lv_lstore hx hb hd (lvH_has hv) (Nat.lt_of_lt_of_le hi hv.2.2.1) rfl (fun ls' hl => k H locs ls' hP hS (lvH_set2 hv hi ho hl))
theorem j_lstore_n (hE : Jok l C E own cc d) {i : Fin 4} {x : Int64} (hd : decode cc pc = .ok (.lstore_n i, 1)) (hi : (i : Nat) + 1 < lv.length) (ho : ok1 lv (i : Nat) = true) (k : J C E S (pc + 1) ((lv.set (i : Nat) (some (.long x))).set ((i : Nat) + 1) none) st) : J C E S pc lv (.long x :: st) := by
  obtain ⟨p, l0, e, R, s, m, args, below, meth, c, A, cells, slots, nL, Q⟩ := E
  obtain ⟨rfl, hx, hb, hml, hown, hts, hK, hN, hC, hA, hfr, hlo, hce, hsl⟩ := hE
  intro H locs ls hP hS hv
  exact lv_lstore_n hx hb hd rfl (lvH_has hv) (Nat.lt_of_lt_of_le hi hv.2.2.1) rfl (fun ls' hl => k H locs ls' hP hS (lvH_set2 hv hi ho hl))
theorem j_iinc_g (hE : Jok l C E own cc d) {i : Nat} {n : Int} {x : Int32} (v : Int32) (hd : decode cc pc = .ok (.iinc i n, 3)) (hl : lv[i]? = some (some (.int x))) (hv : x + Int32.ofInt n = v) (ho : ok1 lv i = true) (k : J C E S (pc + 3) (lv.set i (some (.int v))) st) : J C E S pc lv st := by
  obtain ⟨p, l0, e, R, s, m, args, below, meth, c, A, cells, slots, nL, Q⟩ := E
  obtain ⟨rfl, hx, hb, hml, hown, hts, hK, hN, hC, hA, hfr, hlo, hce, hsl⟩ := hE
  intro H locs ls hP hS hvv
  obtain ⟨q, hq⟩ := List.getElem?_of_mem (lvH_in hl)
  have hi : i < lv.length := (List.getElem?_eq_some_iff.mp hl).1
  exact lv_iinc hx hb hd (lvH_has hvv) hq hv (Nat.lt_of_lt_of_le hi hvv.2.2.1) rfl (fun ls' hl' => k H locs ls' hP hS (lvH_set hvv hi ho hl'))
theorem j_iload0 (hE : Jok l C E own cc d) {r : List (Option Value)} {x : Int32} (hd : decode cc pc = .ok (.iload_n 0, 1)) (k : J C E S (pc + 1) (some (.int x) :: r) (.int x :: st)) : J C E S pc (some (.int x) :: r) st := j_iload_n hE hd rfl k
theorem j_aload0 (hE : Jok l C E own cc d) {r : List (Option Value)} {x : Nat} (hd : decode cc pc = .ok (.aload_n 0, 1)) (k : J C E S (pc + 1) (some (.ref x) :: r) (.ref x :: st)) : J C E S pc (some (.ref x) :: r) st := j_aload_n hE hd rfl k
theorem j_lload0 (hE : Jok l C E own cc d) {r : List (Option Value)} {x : Int64} (hd : decode cc pc = .ok (.lload_n 0, 1)) (k : J C E S (pc + 1) (some (.long x) :: r) (.long x :: st)) : J C E S pc (some (.long x) :: r) st := j_lload_n hE hd rfl k
theorem j_istore0 (hE : Jok l C E own cc d) {b : Option Value} {r : List (Option Value)} {x : Int32} (hd : decode cc pc = .ok (.istore_n 0, 1)) (k : J C E S (pc + 1) (some (.int x) :: r) st) : J C E S pc (b :: r) (.int x :: st) := j_istore_n hE hd (by show 0 < _; simp only [List.length_cons]; omega) rfl k
theorem j_astore0 (hE : Jok l C E own cc d) {b : Option Value} {r : List (Option Value)} {x : Nat} (hd : decode cc pc = .ok (.astore_n 0, 1)) (k : J C E S (pc + 1) (some (.ref x) :: r) st) : J C E S pc (b :: r) (.ref x :: st) := j_astore_n hE hd (by show 0 < _; simp only [List.length_cons]; omega) rfl k
theorem j_iinc0 (hE : Jok l C E own cc d) {r : List (Option Value)} {n : Int} {x : Int32} (v : Int32) (hd : decode cc pc = .ok (.iinc 0 n, 3)) (hv : x + Int32.ofInt n = v) (k : J C E S (pc + 3) (some (.int v) :: r) st) : J C E S pc (some (.int x) :: r) st := j_iinc_g hE v hd rfl hv rfl k
theorem j_iload1 (hE : Jok l C E own cc d) {a0 : Option Value} {r : List (Option Value)} {x : Int32} (hd : decode cc pc = .ok (.iload_n 1, 1)) (k : J C E S (pc + 1) (a0 :: some (.int x) :: r) (.int x :: st)) : J C E S pc (a0 :: some (.int x) :: r) st := j_iload_n hE hd rfl k
theorem j_aload1 (hE : Jok l C E own cc d) {a0 : Option Value} {r : List (Option Value)} {x : Nat} (hd : decode cc pc = .ok (.aload_n 1, 1)) (k : J C E S (pc + 1) (a0 :: some (.ref x) :: r) (.ref x :: st)) : J C E S pc (a0 :: some (.ref x) :: r) st := j_aload_n hE hd rfl k
theorem j_lload1 (hE : Jok l C E own cc d) {a0 : Option Value} {r : List (Option Value)} {x : Int64} (hd : decode cc pc = .ok (.lload_n 1, 1)) (k : J C E S (pc + 1) (a0 :: some (.long x) :: r) (.long x :: st)) : J C E S pc (a0 :: some (.long x) :: r) st := j_lload_n hE hd rfl k
theorem j_istore1 (hE : Jok l C E own cc d) {a0 : Option Value} {b : Option Value} {r : List (Option Value)} {x : Int32} (hd : decode cc pc = .ok (.istore_n 1, 1)) (ho : ok1 (a0 :: b :: r) 1 = true) (k : J C E S (pc + 1) (a0 :: some (.int x) :: r) st) : J C E S pc (a0 :: b :: r) (.int x :: st) := j_istore_n hE hd (by show 1 < _; simp only [List.length_cons]; omega) ho k
theorem j_astore1 (hE : Jok l C E own cc d) {a0 : Option Value} {b : Option Value} {r : List (Option Value)} {x : Nat} (hd : decode cc pc = .ok (.astore_n 1, 1)) (ho : ok1 (a0 :: b :: r) 1 = true) (k : J C E S (pc + 1) (a0 :: some (.ref x) :: r) st) : J C E S pc (a0 :: b :: r) (.ref x :: st) := j_astore_n hE hd (by show 1 < _; simp only [List.length_cons]; omega) ho k
theorem j_iinc1 (hE : Jok l C E own cc d) {a0 : Option Value} {r : List (Option Value)} {n : Int} {x : Int32} (v : Int32) (hd : decode cc pc = .ok (.iinc 1 n, 3)) (hv : x + Int32.ofInt n = v) (ho : ok1 (a0 :: some (.int x) :: r) 1 = true) (k : J C E S (pc + 3) (a0 :: some (.int v) :: r) st) : J C E S pc (a0 :: some (.int x) :: r) st := j_iinc_g hE v hd rfl hv ho k
theorem j_iload2 (hE : Jok l C E own cc d) {a0 a1 : Option Value} {r : List (Option Value)} {x : Int32} (hd : decode cc pc = .ok (.iload_n 2, 1)) (k : J C E S (pc + 1) (a0 :: a1 :: some (.int x) :: r) (.int x :: st)) : J C E S pc (a0 :: a1 :: some (.int x) :: r) st := j_iload_n hE hd rfl k
theorem j_aload2 (hE : Jok l C E own cc d) {a0 a1 : Option Value} {r : List (Option Value)} {x : Nat} (hd : decode cc pc = .ok (.aload_n 2, 1)) (k : J C E S (pc + 1) (a0 :: a1 :: some (.ref x) :: r) (.ref x :: st)) : J C E S pc (a0 :: a1 :: some (.ref x) :: r) st := j_aload_n hE hd rfl k
theorem j_lload2 (hE : Jok l C E own cc d) {a0 a1 : Option Value} {r : List (Option Value)} {x : Int64} (hd : decode cc pc = .ok (.lload_n 2, 1)) (k : J C E S (pc + 1) (a0 :: a1 :: some (.long x) :: r) (.long x :: st)) : J C E S pc (a0 :: a1 :: some (.long x) :: r) st := j_lload_n hE hd rfl k
theorem j_istore2 (hE : Jok l C E own cc d) {a0 a1 : Option Value} {b : Option Value} {r : List (Option Value)} {x : Int32} (hd : decode cc pc = .ok (.istore_n 2, 1)) (ho : ok1 (a0 :: a1 :: b :: r) 2 = true) (k : J C E S (pc + 1) (a0 :: a1 :: some (.int x) :: r) st) : J C E S pc (a0 :: a1 :: b :: r) (.int x :: st) := j_istore_n hE hd (by show 2 < _; simp only [List.length_cons]; omega) ho k
theorem j_astore2 (hE : Jok l C E own cc d) {a0 a1 : Option Value} {b : Option Value} {r : List (Option Value)} {x : Nat} (hd : decode cc pc = .ok (.astore_n 2, 1)) (ho : ok1 (a0 :: a1 :: b :: r) 2 = true) (k : J C E S (pc + 1) (a0 :: a1 :: some (.ref x) :: r) st) : J C E S pc (a0 :: a1 :: b :: r) (.ref x :: st) := j_astore_n hE hd (by show 2 < _; simp only [List.length_cons]; omega) ho k
theorem j_iinc2 (hE : Jok l C E own cc d) {a0 a1 : Option Value} {r : List (Option Value)} {n : Int} {x : Int32} (v : Int32) (hd : decode cc pc = .ok (.iinc 2 n, 3)) (hv : x + Int32.ofInt n = v) (ho : ok1 (a0 :: a1 :: some (.int x) :: r) 2 = true) (k : J C E S (pc + 3) (a0 :: a1 :: some (.int v) :: r) st) : J C E S pc (a0 :: a1 :: some (.int x) :: r) st := j_iinc_g hE v hd rfl hv ho k
theorem j_iload3 (hE : Jok l C E own cc d) {a0 a1 a2 : Option Value} {r : List (Option Value)} {x : Int32} (hd : decode cc pc = .ok (.iload_n 3, 1)) (k : J C E S (pc + 1) (a0 :: a1 :: a2 :: some (.int x) :: r) (.int x :: st)) : J C E S pc (a0 :: a1 :: a2 :: some (.int x) :: r) st := j_iload_n hE hd rfl k
theorem j_aload3 (hE : Jok l C E own cc d) {a0 a1 a2 : Option Value} {r : List (Option Value)} {x : Nat} (hd : decode cc pc = .ok (.aload_n 3, 1)) (k : J C E S (pc + 1) (a0 :: a1 :: a2 :: some (.ref x) :: r) (.ref x :: st)) : J C E S pc (a0 :: a1 :: a2 :: some (.ref x) :: r) st := j_aload_n hE hd rfl k
theorem j_lload3 (hE : Jok l C E own cc d) {a0 a1 a2 : Option Value} {r : List (Option Value)} {x : Int64} (hd : decode cc pc = .ok (.lload_n 3, 1)) (k : J C E S (pc + 1) (a0 :: a1 :: a2 :: some (.long x) :: r) (.long x :: st)) : J C E S pc (a0 :: a1 :: a2 :: some (.long x) :: r) st := j_lload_n hE hd rfl k
theorem j_istore3 (hE : Jok l C E own cc d) {a0 a1 a2 : Option Value} {b : Option Value} {r : List (Option Value)} {x : Int32} (hd : decode cc pc = .ok (.istore_n 3, 1)) (ho : ok1 (a0 :: a1 :: a2 :: b :: r) 3 = true) (k : J C E S (pc + 1) (a0 :: a1 :: a2 :: some (.int x) :: r) st) : J C E S pc (a0 :: a1 :: a2 :: b :: r) (.int x :: st) := j_istore_n hE hd (by show 3 < _; simp only [List.length_cons]; omega) ho k
theorem j_astore3 (hE : Jok l C E own cc d) {a0 a1 a2 : Option Value} {b : Option Value} {r : List (Option Value)} {x : Nat} (hd : decode cc pc = .ok (.astore_n 3, 1)) (ho : ok1 (a0 :: a1 :: a2 :: b :: r) 3 = true) (k : J C E S (pc + 1) (a0 :: a1 :: a2 :: some (.ref x) :: r) st) : J C E S pc (a0 :: a1 :: a2 :: b :: r) (.ref x :: st) := j_astore_n hE hd (by show 3 < _; simp only [List.length_cons]; omega) ho k
theorem j_iinc3 (hE : Jok l C E own cc d) {a0 a1 a2 : Option Value} {r : List (Option Value)} {n : Int} {x : Int32} (v : Int32) (hd : decode cc pc = .ok (.iinc 3 n, 3)) (hv : x + Int32.ofInt n = v) (ho : ok1 (a0 :: a1 :: a2 :: some (.int x) :: r) 3 = true) (k : J C E S (pc + 3) (a0 :: a1 :: a2 :: some (.int v) :: r) st) : J C E S pc (a0 :: a1 :: a2 :: some (.int x) :: r) st := j_iinc_g hE v hd rfl hv ho k
theorem j_iload4 (hE : Jok l C E own cc d) {a0 a1 a2 a3 : Option Value} {r : List (Option Value)} {x : Int32} (hd : decode cc pc = .ok (.iload 4, 2)) (k : J C E S (pc + 2) (a0 :: a1 :: a2 :: a3 :: some (.int x) :: r) (.int x :: st)) : J C E S pc (a0 :: a1 :: a2 :: a3 :: some (.int x) :: r) st := j_iload_g hE hd rfl k
theorem j_aload4 (hE : Jok l C E own cc d) {a0 a1 a2 a3 : Option Value} {r : List (Option Value)} {x : Nat} (hd : decode cc pc = .ok (.aload 4, 2)) (k : J C E S (pc + 2) (a0 :: a1 :: a2 :: a3 :: some (.ref x) :: r) (.ref x :: st)) : J C E S pc (a0 :: a1 :: a2 :: a3 :: some (.ref x) :: r) st := j_aload_g hE hd rfl k
theorem j_lload4 (hE : Jok l C E own cc d) {a0 a1 a2 a3 : Option Value} {r : List (Option Value)} {x : Int64} (hd : decode cc pc = .ok (.lload 4, 2)) (k : J C E S (pc + 2) (a0 :: a1 :: a2 :: a3 :: some (.long x) :: r) (.long x :: st)) : J C E S pc (a0 :: a1 :: a2 :: a3 :: some (.long x) :: r) st := j_lload_g hE hd rfl k
theorem j_istore4 (hE : Jok l C E own cc d) {a0 a1 a2 a3 : Option Value} {b : Option Value} {r : List (Option Value)} {x : Int32} (hd : decode cc pc = .ok (.istore 4, 2)) (ho : ok1 (a0 :: a1 :: a2 :: a3 :: b :: r) 4 = true) (k : J C E S (pc + 2) (a0 :: a1 :: a2 :: a3 :: some (.int x) :: r) st) : J C E S pc (a0 :: a1 :: a2 :: a3 :: b :: r) (.int x :: st) := j_istore_g hE hd (by show 4 < _; simp only [List.length_cons]; omega) ho k
theorem j_astore4 (hE : Jok l C E own cc d) {a0 a1 a2 a3 : Option Value} {b : Option Value} {r : List (Option Value)} {x : Nat} (hd : decode cc pc = .ok (.astore 4, 2)) (ho : ok1 (a0 :: a1 :: a2 :: a3 :: b :: r) 4 = true) (k : J C E S (pc + 2) (a0 :: a1 :: a2 :: a3 :: some (.ref x) :: r) st) : J C E S pc (a0 :: a1 :: a2 :: a3 :: b :: r) (.ref x :: st) := j_astore_g hE hd (by show 4 < _; simp only [List.length_cons]; omega) ho k
theorem j_iinc4 (hE : Jok l C E own cc d) {a0 a1 a2 a3 : Option Value} {r : List (Option Value)} {n : Int} {x : Int32} (v : Int32) (hd : decode cc pc = .ok (.iinc 4 n, 3)) (hv : x + Int32.ofInt n = v) (ho : ok1 (a0 :: a1 :: a2 :: a3 :: some (.int x) :: r) 4 = true) (k : J C E S (pc + 3) (a0 :: a1 :: a2 :: a3 :: some (.int v) :: r) st) : J C E S pc (a0 :: a1 :: a2 :: a3 :: some (.int x) :: r) st := j_iinc_g hE v hd rfl hv ho k
theorem j_iload5 (hE : Jok l C E own cc d) {a0 a1 a2 a3 a4 : Option Value} {r : List (Option Value)} {x : Int32} (hd : decode cc pc = .ok (.iload 5, 2)) (k : J C E S (pc + 2) (a0 :: a1 :: a2 :: a3 :: a4 :: some (.int x) :: r) (.int x :: st)) : J C E S pc (a0 :: a1 :: a2 :: a3 :: a4 :: some (.int x) :: r) st := j_iload_g hE hd rfl k
theorem j_aload5 (hE : Jok l C E own cc d) {a0 a1 a2 a3 a4 : Option Value} {r : List (Option Value)} {x : Nat} (hd : decode cc pc = .ok (.aload 5, 2)) (k : J C E S (pc + 2) (a0 :: a1 :: a2 :: a3 :: a4 :: some (.ref x) :: r) (.ref x :: st)) : J C E S pc (a0 :: a1 :: a2 :: a3 :: a4 :: some (.ref x) :: r) st := j_aload_g hE hd rfl k
theorem j_lload5 (hE : Jok l C E own cc d) {a0 a1 a2 a3 a4 : Option Value} {r : List (Option Value)} {x : Int64} (hd : decode cc pc = .ok (.lload 5, 2)) (k : J C E S (pc + 2) (a0 :: a1 :: a2 :: a3 :: a4 :: some (.long x) :: r) (.long x :: st)) : J C E S pc (a0 :: a1 :: a2 :: a3 :: a4 :: some (.long x) :: r) st := j_lload_g hE hd rfl k
theorem j_istore5 (hE : Jok l C E own cc d) {a0 a1 a2 a3 a4 : Option Value} {b : Option Value} {r : List (Option Value)} {x : Int32} (hd : decode cc pc = .ok (.istore 5, 2)) (ho : ok1 (a0 :: a1 :: a2 :: a3 :: a4 :: b :: r) 5 = true) (k : J C E S (pc + 2) (a0 :: a1 :: a2 :: a3 :: a4 :: some (.int x) :: r) st) : J C E S pc (a0 :: a1 :: a2 :: a3 :: a4 :: b :: r) (.int x :: st) := j_istore_g hE hd (by show 5 < _; simp only [List.length_cons]; omega) ho k
theorem j_astore5 (hE : Jok l C E own cc d) {a0 a1 a2 a3 a4 : Option Value} {b : Option Value} {r : List (Option Value)} {x : Nat} (hd : decode cc pc = .ok (.astore 5, 2)) (ho : ok1 (a0 :: a1 :: a2 :: a3 :: a4 :: b :: r) 5 = true) (k : J C E S (pc + 2) (a0 :: a1 :: a2 :: a3 :: a4 :: some (.ref x) :: r) st) : J C E S pc (a0 :: a1 :: a2 :: a3 :: a4 :: b :: r) (.ref x :: st) := j_astore_g hE hd (by show 5 < _; simp only [List.length_cons]; omega) ho k
theorem j_iinc5 (hE : Jok l C E own cc d) {a0 a1 a2 a3 a4 : Option Value} {r : List (Option Value)} {n : Int} {x : Int32} (v : Int32) (hd : decode cc pc = .ok (.iinc 5 n, 3)) (hv : x + Int32.ofInt n = v) (ho : ok1 (a0 :: a1 :: a2 :: a3 :: a4 :: some (.int x) :: r) 5 = true) (k : J C E S (pc + 3) (a0 :: a1 :: a2 :: a3 :: a4 :: some (.int v) :: r) st) : J C E S pc (a0 :: a1 :: a2 :: a3 :: a4 :: some (.int x) :: r) st := j_iinc_g hE v hd rfl hv ho k
theorem j_iload6 (hE : Jok l C E own cc d) {a0 a1 a2 a3 a4 a5 : Option Value} {r : List (Option Value)} {x : Int32} (hd : decode cc pc = .ok (.iload 6, 2)) (k : J C E S (pc + 2) (a0 :: a1 :: a2 :: a3 :: a4 :: a5 :: some (.int x) :: r) (.int x :: st)) : J C E S pc (a0 :: a1 :: a2 :: a3 :: a4 :: a5 :: some (.int x) :: r) st := j_iload_g hE hd rfl k
theorem j_aload6 (hE : Jok l C E own cc d) {a0 a1 a2 a3 a4 a5 : Option Value} {r : List (Option Value)} {x : Nat} (hd : decode cc pc = .ok (.aload 6, 2)) (k : J C E S (pc + 2) (a0 :: a1 :: a2 :: a3 :: a4 :: a5 :: some (.ref x) :: r) (.ref x :: st)) : J C E S pc (a0 :: a1 :: a2 :: a3 :: a4 :: a5 :: some (.ref x) :: r) st := j_aload_g hE hd rfl k
theorem j_lload6 (hE : Jok l C E own cc d) {a0 a1 a2 a3 a4 a5 : Option Value} {r : List (Option Value)} {x : Int64} (hd : decode cc pc = .ok (.lload 6, 2)) (k : J C E S (pc + 2) (a0 :: a1 :: a2 :: a3 :: a4 :: a5 :: some (.long x) :: r) (.long x :: st)) : J C E S pc (a0 :: a1 :: a2 :: a3 :: a4 :: a5 :: some (.long x) :: r) st := j_lload_g hE hd rfl k
theorem j_istore6 (hE : Jok l C E own cc d) {a0 a1 a2 a3 a4 a5 : Option Value} {b : Option Value} {r : List (Option Value)} {x : Int32} (hd : decode cc pc = .ok (.istore 6, 2)) (ho : ok1 (a0 :: a1 :: a2 :: a3 :: a4 :: a5 :: b :: r) 6 = true) (k : J C E S (pc + 2) (a0 :: a1 :: a2 :: a3 :: a4 :: a5 :: some (.int x) :: r) st) : J C E S pc (a0 :: a1 :: a2 :: a3 :: a4 :: a5 :: b :: r) (.int x :: st) := j_istore_g hE hd (by show 6 < _; simp only [List.length_cons]; omega) ho k
theorem j_astore6 (hE : Jok l C E own cc d) {a0 a1 a2 a3 a4 a5 : Option Value} {b : Option Value} {r : List (Option Value)} {x : Nat} (hd : decode cc pc = .ok (.astore 6, 2)) (ho : ok1 (a0 :: a1 :: a2 :: a3 :: a4 :: a5 :: b :: r) 6 = true) (k : J C E S (pc + 2) (a0 :: a1 :: a2 :: a3 :: a4 :: a5 :: some (.ref x) :: r) st) : J C E S pc (a0 :: a1 :: a2 :: a3 :: a4 :: a5 :: b :: r) (.ref x :: st) := j_astore_g hE hd (by show 6 < _; simp only [List.length_cons]; omega) ho k
theorem j_iinc6 (hE : Jok l C E own cc d) {a0 a1 a2 a3 a4 a5 : Option Value} {r : List (Option Value)} {n : Int} {x : Int32} (v : Int32) (hd : decode cc pc = .ok (.iinc 6 n, 3)) (hv : x + Int32.ofInt n = v) (ho : ok1 (a0 :: a1 :: a2 :: a3 :: a4 :: a5 :: some (.int x) :: r) 6 = true) (k : J C E S (pc + 3) (a0 :: a1 :: a2 :: a3 :: a4 :: a5 :: some (.int v) :: r) st) : J C E S pc (a0 :: a1 :: a2 :: a3 :: a4 :: a5 :: some (.int x) :: r) st := j_iinc_g hE v hd rfl hv ho k
theorem j_iload7 (hE : Jok l C E own cc d) {a0 a1 a2 a3 a4 a5 a6 : Option Value} {r : List (Option Value)} {x : Int32} (hd : decode cc pc = .ok (.iload 7, 2)) (k : J C E S (pc + 2) (a0 :: a1 :: a2 :: a3 :: a4 :: a5 :: a6 :: some (.int x) :: r) (.int x :: st)) : J C E S pc (a0 :: a1 :: a2 :: a3 :: a4 :: a5 :: a6 :: some (.int x) :: r) st := j_iload_g hE hd rfl k
theorem j_aload7 (hE : Jok l C E own cc d) {a0 a1 a2 a3 a4 a5 a6 : Option Value} {r : List (Option Value)} {x : Nat} (hd : decode cc pc = .ok (.aload 7, 2)) (k : J C E S (pc + 2) (a0 :: a1 :: a2 :: a3 :: a4 :: a5 :: a6 :: some (.ref x) :: r) (.ref x :: st)) : J C E S pc (a0 :: a1 :: a2 :: a3 :: a4 :: a5 :: a6 :: some (.ref x) :: r) st := j_aload_g hE hd rfl k
theorem j_lload7 (hE : Jok l C E own cc d) {a0 a1 a2 a3 a4 a5 a6 : Option Value} {r : List (Option Value)} {x : Int64} (hd : decode cc pc = .ok (.lload 7, 2)) (k : J C E S (pc + 2) (a0 :: a1 :: a2 :: a3 :: a4 :: a5 :: a6 :: some (.long x) :: r) (.long x :: st)) : J C E S pc (a0 :: a1 :: a2 :: a3 :: a4 :: a5 :: a6 :: some (.long x) :: r) st := j_lload_g hE hd rfl k
theorem j_istore7 (hE : Jok l C E own cc d) {a0 a1 a2 a3 a4 a5 a6 : Option Value} {b : Option Value} {r : List (Option Value)} {x : Int32} (hd : decode cc pc = .ok (.istore 7, 2)) (ho : ok1 (a0 :: a1 :: a2 :: a3 :: a4 :: a5 :: a6 :: b :: r) 7 = true) (k : J C E S (pc + 2) (a0 :: a1 :: a2 :: a3 :: a4 :: a5 :: a6 :: some (.int x) :: r) st) : J C E S pc (a0 :: a1 :: a2 :: a3 :: a4 :: a5 :: a6 :: b :: r) (.int x :: st) := j_istore_g hE hd (by show 7 < _; simp only [List.length_cons]; omega) ho k
theorem j_astore7 (hE : Jok l C E own cc d) {a0 a1 a2 a3 a4 a5 a6 : Option Value} {b : Option Value} {r : List (Option Value)} {x : Nat} (hd : decode cc pc = .ok (.astore 7, 2)) (ho : ok1 (a0 :: a1 :: a2 :: a3 :: a4 :: a5 :: a6 :: b :: r) 7 = true) (k : J C E S (pc + 2) (a0 :: a1 :: a2 :: a3 :: a4 :: a5 :: a6 :: some (.ref x) :: r) st) : J C E S pc (a0 :: a1 :: a2 :: a3 :: a4 :: a5 :: a6 :: b :: r) (.ref x :: st) := j_astore_g hE hd (by show 7 < _; simp only [List.length_cons]; omega) ho k
theorem j_iinc7 (hE : Jok l C E own cc d) {a0 a1 a2 a3 a4 a5 a6 : Option Value} {r : List (Option Value)} {n : Int} {x : Int32} (v : Int32) (hd : decode cc pc = .ok (.iinc 7 n, 3)) (hv : x + Int32.ofInt n = v) (ho : ok1 (a0 :: a1 :: a2 :: a3 :: a4 :: a5 :: a6 :: some (.int x) :: r) 7 = true) (k : J C E S (pc + 3) (a0 :: a1 :: a2 :: a3 :: a4 :: a5 :: a6 :: some (.int v) :: r) st) : J C E S pc (a0 :: a1 :: a2 :: a3 :: a4 :: a5 :: a6 :: some (.int x) :: r) st := j_iinc_g hE v hd rfl hv ho k
theorem j_iload8 (hE : Jok l C E own cc d) {a0 a1 a2 a3 a4 a5 a6 a7 : Option Value} {r : List (Option Value)} {x : Int32} (hd : decode cc pc = .ok (.iload 8, 2)) (k : J C E S (pc + 2) (a0 :: a1 :: a2 :: a3 :: a4 :: a5 :: a6 :: a7 :: some (.int x) :: r) (.int x :: st)) : J C E S pc (a0 :: a1 :: a2 :: a3 :: a4 :: a5 :: a6 :: a7 :: some (.int x) :: r) st := j_iload_g hE hd rfl k
theorem j_aload8 (hE : Jok l C E own cc d) {a0 a1 a2 a3 a4 a5 a6 a7 : Option Value} {r : List (Option Value)} {x : Nat} (hd : decode cc pc = .ok (.aload 8, 2)) (k : J C E S (pc + 2) (a0 :: a1 :: a2 :: a3 :: a4 :: a5 :: a6 :: a7 :: some (.ref x) :: r) (.ref x :: st)) : J C E S pc (a0 :: a1 :: a2 :: a3 :: a4 :: a5 :: a6 :: a7 :: some (.ref x) :: r) st := j_aload_g hE hd rfl k
theorem j_lload8 (hE : Jok l C E own cc d) {a0 a1 a2 a3 a4 a5 a6 a7 : Option Value} {r : List (Option Value)} {x : Int64} (hd : decode cc pc = .ok (.lload 8, 2)) (k : J C E S (pc + 2) (a0 :: a1 :: a2 :: a3 :: a4 :: a5 :: a6 :: a7 :: some (.long x) :: r) (.long x :: st)) : J C E S pc (a0 :: a1 :: a2 :: a3 :: a4 :: a5 :: a6 :: a7 :: some (.long x) :: r) st := j_lload_g hE hd rfl k
theorem j_istore8 (hE : Jok l C E own cc d) {a0 a1 a2 a3 a4 a5 a6 a7 : Option Value} {b : Option Value} {r : List (Option Value)} {x : Int32} (hd : decode cc pc = .ok (.istore 8, 2)) (ho : ok1 (a0 :: a1 :: a2 :: a3 :: a4 :: a5 :: a6 :: a7 :: b :: r) 8 = true) (k : J C E S (pc + 2) (a0 :: a1 :: a2 :: a3 :: a4 :: a5 :: a6 :: a7 :: some (.int x) :: r) st) : J C E S pc (a0 :: a1 :: a2 :: a3 :: a4 :: a5 :: a6 :: a7 :: b :: r) (.int x :: st) := j_istore_g hE hd (by show 8 < _; simp only [List.length_cons]; omega) ho k
theorem j_astore8 (hE : Jok l C E own cc d) {a0 a1 a2 a3 a4 a5 a6 a7 : Option Value} {b : Option Value} {r : List (Option Value)} {x : Nat} (hd : decode cc pc = .ok (.astore 8, 2)) (ho : ok1 (a0 :: a1 :: a2 :: a3 :: a4 :: a5 :: a6 :: a7 :: b :: r) 8 = true) (k : J C E S (pc + 2) (a0 :: a1 :: a2 :: a3 :: a4 :: a5 :: a6 :: a7 :: some (.ref x) :: r) st) : J C E S pc (a0 :: a1 :: a2 :: a3 :: a4 :: a5 :: a6 :: a7 :: b :: r) (.ref x :: st) := j_astore_g hE hd (by show 8 < _; simp only [List.length_cons]; omega) ho k
theorem j_iinc8 (hE : Jok l C E own cc d) {a0 a1 a2 a3 a4 a5 a6 a7 : Option Value} {r : List (Option Value)} {n : Int} {x : Int32} (v : Int32) (hd : decode cc pc = .ok (.iinc 8 n, 3)) (hv : x + Int32.ofInt n = v) (ho : ok1 (a0 :: a1 :: a2 :: a3 :: a4 :: a5 :: a6 :: a7 :: some (.int x) :: r) 8 = true) (k : J C E S (pc + 3) (a0 :: a1 :: a2 :: a3 :: a4 :: a5 :: a6 :: a7 :: some (.int v) :: r) st) : J C E S pc (a0 :: a1 :: a2 :: a3 :: a4 :: a5 :: a6 :: a7 :: some (.int x) :: r) st := j_iinc_g hE v hd rfl hv ho k
theorem j_iload9 (hE : Jok l C E own cc d) {a0 a1 a2 a3 a4 a5 a6 a7 a8 : Option Value} {r : List (Option Value)} {x : Int32} (hd : decode cc pc = .ok (.iload 9, 2)) (k : J C E S (pc + 2) (a0 :: a1 :: a2 :: a3 :: a4 :: a5 :: a6 :: a7 :: a8 :: some (.int x) :: r) (.int x :: st)) : J C E S pc (a0 :: a1 :: a2 :: a3 :: a4 :: a5 :: a6 :: a7 :: a8 :: some (.int x) :: r) st := j_iload_g hE hd rfl k
theorem j_aload9 (hE : Jok l C E own cc d) {a0 a1 a2 a3 a4 a5 a6 a7 a8 : Option Value} {r : List (Option Value)} {x : Nat} (hd : decode cc pc = .ok (.aload 9, 2)) (k : J C E S (pc + 2) (a0 :: a1 :: a2 :: a3 :: a4 :: a5 :: a6 :: a7 :: a8 :: some (.ref x) :: r) (.ref x :: st)) : J C E S pc (a0 :: a1 :: a2 :: a3 :: a4 :: a5 :: a6 :: a7 :: a8 :: some (.ref x) :: r) st := j_aload_g hE hd rfl k
theorem j_lload9 (hE : Jok l C E own cc d) {a0 a1 a2 a3 a4 a5 a6 a7 a8 : Option Value} {r : List (Option Value)} {x : Int64} (hd : decode cc pc = .ok (.lload 9, 2)) (k : J C E S (pc + 2) (a0 :: a1 :: a2 :: a3 :: a4 :: a5 :: a6 :: a7 :: a8 :: some (.long x) :: r) (.long x :: st)) : J C E S pc (a0 :: a1 :: a2 :: a3 :: a4 :: a5 :: a6 :: a7 :: a8 :: some (.long x) :: r) st := j_lload_g hE hd rfl k
theorem j_istore9 (hE : Jok l C E own cc d) {a0 a1 a2 a3 a4 a5 a6 a7 a8 : Option Value} {b : Option Value} {r : List (Option Value)} {x : Int32} (hd : decode cc pc = .ok (.istore 9, 2)) (ho : ok1 (a0 :: a1 :: a2 :: a3 :: a4 :: a5 :: a6 :: a7 :: a8 :: b :: r) 9 = true) (k : J C E S (pc + 2) (a0 :: a1 :: a2 :: a3 :: a4 :: a5 :: a6 :: a7 :: a8 :: some (.int x) :: r) st) : J C E S pc (a0 :: a1 :: a2 :: a3 :: a4 :: a5 :: a6 :: a7 :: a8 :: b :: r) (.int x :: st) := j_istore_g hE hd (by show 9 < _; simp only [List.length_cons]; omega) ho k
theorem j_astore9 (hE : Jok l C E own cc d) {a0 a1 a2 a3 a4 a5 a6 a7 a8 : Option Value} {b : Option Value} {r : List (Option Value)} {x : Nat} (hd : decode cc pc = .ok (.astore 9, 2)) (ho : ok1 (a0 :: a1 :: a2 :: a3 :: a4 :: a5 :: a6 :: a7 :: a8 :: b :: r) 9 = true) (k : J C E S (pc + 2) (a0 :: a1 :: a2 :: a3 :: a4 :: a5 :: a6 :: a7 :: a8 :: some (.ref x) :: r) st) : J C E S pc (a0 :: a1 :: a2 :: a3 :: a4 :: a5 :: a6 :: a7 :: a8 :: b :: r) (.ref x :: st) := j_astore_g hE hd (by show 9 < _; simp only [List.length_cons]; omega) ho k
theorem j_iinc9 (hE : Jok l C E own cc d) {a0 a1 a2 a3 a4 a5 a6 a7 a8 : Option Value} {r : List (Option Value)} {n : Int} {x : Int32} (v : Int32) (hd : decode cc pc = .ok (.iinc 9 n, 3)) (hv : x + Int32.ofInt n = v) (ho : ok1 (a0 :: a1 :: a2 :: a3 :: a4 :: a5 :: a6 :: a7 :: a8 :: some (.int x) :: r) 9 = true) (k : J C E S (pc + 3) (a0 :: a1 :: a2 :: a3 :: a4 :: a5 :: a6 :: a7 :: a8 :: some (.int v) :: r) st) : J C E S pc (a0 :: a1 :: a2 :: a3 :: a4 :: a5 :: a6 :: a7 :: a8 :: some (.int x) :: r) st := j_iinc_g hE v hd rfl hv ho k
end Rows
end
section
/-! class facts by number -/
theorem wt_self {c' : Cond} (h : c' ∈ WT) : GoodIn WT (c' :: WT) := fun w hw => by
  rcases List.mem_cons.mp hw with rfl | hw
  · exact ⟨h, good_of_word (List.mem_filter.mp h).2⟩
  · exact ⟨hw, good_of_word (List.mem_filter.mp hw).2⟩
abbrev jtyX : List (Nat → FieldType) := [tyX0, tyX1, tyX2, tyX3, tyX4, tyX6, tyX7, tyX8, tyX9, tyX10, tyX11]
def jT (ci : Nat) : vw_C := jcls.getD ci ("", TX0, 0)
theorem jT_lt {ci : Nat} (h : ci < 11) : jcls[ci]? = some (jT ci) := by
  match ci, h with
  | 0, _ => rfl
  | 1, _ => rfl
  | 2, _ => rfl
  | 3, _ => rfl
  | 4, _ => rfl
  | 5, _ => rfl
  | 6, _ => rfl
  | 7, _ => rfl
  | 8, _ => rfl
  | 9, _ => rfl
  | 10, _ => rfl
  | ci + 11, h => omega
theorem jT_in {ci : Nat} (h : ci < 11) : ∀ w ∈ u_ws (jT ci).1 (jT ci).2.1 (jT ci).2.2, w ∈ WT := by
  match ci, h with
  | 0, _ => exact jin0
  | 1, _ => exact jin1
  | 2, _ => exact jin2
  | 3, _ => exact jin3
  | 4, _ => exact jin4
  | 5, _ => exact jin6
  | 6, _ => exact jin7
  | 7, _ => exact jin8
  | 8, _ => exact jin9
  | 9, _ => exact jin10
  | 10, _ => exact jin11
  | ci + 11, h => omega
theorem jT_ty {ci : Nat} (h : ci < 11) : ∀ k, k < (jT ci).2.2 → parseFieldDescriptor ((jT ci).2.1 k).2.2.1 = some ((jtyX.getD ci tyX0) k) := by
  match ci, h with
  | 0, _ => exact tyX0_ok
  | 1, _ => exact tyX1_ok
  | 2, _ => exact tyX2_ok
  | 3, _ => exact tyX3_ok
  | 4, _ => exact tyX4_ok
  | 5, _ => exact tyX6_ok
  | 6, _ => exact tyX7_ok
  | 7, _ => exact tyX8_ok
  | 8, _ => exact tyX9_ok
  | 9, _ => exact tyX10_ok
  | 10, _ => exact tyX11_ok
  | ci + 11, h => omega
theorem jT_nm {ci : Nat} (h : ci < 11) : ∀ a, a < (jT ci).2.2 → ∀ b, b < (jT ci).2.2 → a ≠ b → ((jT ci).2.1 a).2.1 ≠ ((jT ci).2.1 b).2.1 := by
  match ci, h with
  | 0, _ => exact nmX0
  | 1, _ => exact nmX1
  | 2, _ => exact nmX2
  | 3, _ => exact nmX3
  | 4, _ => exact nmX4
  | 5, _ => exact nmX6
  | 6, _ => exact nmX7
  | 7, _ => exact nmX8
  | 8, _ => exact nmX9
  | 9, _ => exact nmX10
  | 10, _ => exact nmX11
  | ci + 11, h => omega
theorem jT_nf {ci : Nat} (h : ci < 11) : (jT ci).2.2 = nfl ci := by
  match ci, h with
  | 0, _ => rfl
  | 1, _ => rfl
  | 2, _ => rfl
  | 3, _ => rfl
  | 4, _ => rfl
  | 5, _ => rfl
  | 6, _ => rfl
  | 7, _ => rfl
  | 8, _ => rfl
  | 9, _ => rfl
  | 10, _ => rfl
  | ci + 11, h => omega
/-- a field that class own reads or writes by its constant idx: field k of class ci; a reference or not; final or not -/
def FL (own : String) (idx ci k : Nat) (r : Bool) : Prop := ci < 11 ∧ k < nfl ci ∧ isR ci k = r ∧ Cond.fieldLink own idx ((jT ci).2.1 k).1 ((jT ci).2.1 k).2.1 ((jT ci).2.1 k).2.2.1 ∈ WT
/-- a field that may be written: of ints (or booleans: ty) -/
def FP (own : String) (idx ci k : Nat) (ty : FieldType) : Prop := FL own idx ci k false ∧ ((jT ci).2.1 k).2.2.2 = false ∧ parseFieldDescriptor ((jT ci).2.1 k).2.2.1 = some ty
def CB (y : MethodName) (bytes : ByteArray) (nL : Nat) (ret : Option FieldType) (n : Nat) : Prop := Cond.code y bytes nL ret ∈ WT ∧ Cond.initialized y.cls ∈ WT ∧ (y.cls ≠ "java/lang/invoke/MethodHandle" ∧ y.cls ≠ "java/lang/invoke/VarHandle" ∧ (parseMethodDescriptor y.desc).map (fun d => d.parameters.length) = some n) ∧ nL ≤ 60
def CS (own : String) (idx : Nat) (y : MethodName) (bytes : ByteArray) (nL : Nat) (ret : Option FieldType) (n : Nat) : Prop := CB y bytes nL ret n ∧ Cond.methodLink own idx y ∈ WT ∧ Cond.static y ∈ WT
def CSN (own : String) (idx : Nat) (y : MethodName) (bytes : ByteArray) (nL : Nat) (ret : Option FieldType) (n : Nat) : Prop := CB y bytes nL ret n ∧ (own, idx, y, "DampLikeness") ∈ nestL ∧ Cond.static y ∈ WT
def CV (own : String) (idx : Nat) (y : MethodName) (bytes : ByteArray) (nL : Nat) (ret : Option FieldType) (n ci : Nat) : Prop := CB y bytes nL ret n ∧ Cond.methodLink own idx y ∈ WT ∧ Cond.instanceMethod y ∈ WT ∧ Cond.selects y.cls y y ∈ WT ∧ ci < 11 ∧ (jT ci).1 = y.cls
section HRows
variable {l : Launch} {C : JC} {E : JE} {own : String} {cc : ByteArray} {d : Nat} {S : Sto} {pc : Nat} {lv : List (Option Value)} {st : List Value}
theorem jw_ofs {C : JC} {S : Sto} {i ci : Nat} (hs : jsh i = (0, ci)) : (jw C S)[i]? = some (C.2.1 i, .inr (ci, (List.range (nfl ci)).map (jfv C S ci i))) := by
  rw [jw_at C S (jsh_lt hs (by decide)), jcell_o C S hs]
theorem j_geti (hE : Jok l C E own cc d) {idx ci k : Nat} (hf : FL own idx ci k false) (hd : decode cc pc = .ok (.getfield idx, 3)) {i : Nat} (hs : jsh i = (0, ci)) (kk : J C E S (pc + 3) lv (.int (S i k) :: st)) : J C E S pc lv (.ref (C.2.1 i) :: st) := by
  obtain ⟨p, l0, e, R, s, m, args, below, meth, c, A, cells, slots, nL, Q⟩ := E
  obtain ⟨rfl, hx, hb, hml, hown, hts, hK, hN, hC, hA, hfr, hlo, hce, hsl⟩ := hE
  obtain ⟨h1, h2, h3, h4⟩ := hf
  intro H locs ls hP hS hv
  exact va_get (D := C.1) (ci := ci) (C := (jT ci).1) (T := (jT ci).2.1) (N := (jT ci).2.2) hx hb hts (jT_in h1) hown hK hP i (jw_ofs hs) (jT_lt h1) k (by rw [jT_nf h1]; exact h2) (hts _ h4) (fun _ h => h) (v := .int (S i k)) (by rw [jfs_at C S i h2]; unfold jfv; rw [if_neg (by rw [h3]; decide)]) hd (kk H locs ls hP hS hv)
theorem j_getr (hE : Jok l C E own cc d) {idx ci k : Nat} (hf : FL own idx ci k true) (hd : decode cc pc = .ok (.getfield idx, 3)) {i j : Nat} (hs : jsh i = (0, ci)) (hr : rf S i k = j) (kk : J C E S (pc + 3) lv (.ref (C.2.1 j) :: st)) : J C E S pc lv (.ref (C.2.1 i) :: st) := by
  obtain ⟨p, l0, e, R, s, m, args, below, meth, c, A, cells, slots, nL, Q⟩ := E
  obtain ⟨rfl, hx, hb, hml, hown, hts, hK, hN, hC, hA, hfr, hlo, hce, hsl⟩ := hE
  obtain ⟨h1, h2, h3, h4⟩ := hf
  subst hr
  intro H locs ls hP hS hv
  exact va_get (D := C.1) (ci := ci) (C := (jT ci).1) (T := (jT ci).2.1) (N := (jT ci).2.2) hx hb hts (jT_in h1) hown hK hP i (jw_ofs hs) (jT_lt h1) k (by rw [jT_nf h1]; exact h2) (hts _ h4) (fun _ h => h) (v := .ref (C.2.1 (rf S i k))) (by rw [jfs_at C S i h2]; unfold jfv; rw [if_pos h3]) hd (kk H locs ls hP hS hv)
theorem j_puti (hE : Jok l C E own cc d) {idx ci k : Nat} {ty : FieldType} (hf : FP own idx ci k ty) (hd : decode cc pc = .ok (.putfield idx, 3)) {i : Nat} {v : Int32} (hs : jsh i = (0, ci)) (hn : narrow ty (.int v) = .int v) (hfit : fits ty (.int v) = true) (kk : J C E (up2 S i k v) (pc + 3) lv st) : J C E S pc lv (.int v :: .ref (C.2.1 i) :: st) := by
  obtain ⟨p, l0, e, R, s, m, args, below, meth, c, A, cells, slots, nL, Q⟩ := E
  obtain ⟨rfl, hx, hb, hml, hown, hts, hK, hN, hC, hA, hfr, hlo, hce, hsl⟩ := hE
  obtain ⟨⟨h1, h2, h3, h4⟩, h5, h6⟩ := hf
  intro H locs ls hP hS hv
  refine va_put (D := C.1) (ci := ci) (C := (jT ci).1) (T := (jT ci).2.1) (N := (jT ci).2.2) hx hb hts (jT_in h1) _ (jT_ty h1) (jT_nm h1) hown hK hP (jw_D C S hC hA) hS i (jw_ofs hs) (jT_lt h1) k (by rw [jT_nf h1]; exact h2) (hts _ h4) (fun _ h => h) h5 h6 hn hfit (by simp [h2]) hd (fun H1 locs1 hP1 _ hS1 => ?_)
  rw [jw_puti C S hs h2 h3 (fun q => by subst q; cases hs; rfl)] at hP1
  exact kk H1 locs1 ls hP1 hS1 hv
theorem j_putp (hE : Jok l C E own cc d) {idx k x : Nat} (hf : FL own idx 9 k true) (hk : k = 8 ∨ k = 9) (hx' : x < NN) (hd : decode cc pc = .ok (.putfield idx, 3)) (kk : J C E (up2 S 0 k (nI x)) (pc + 3) lv st) : J C E S pc lv (.ref (C.2.1 x) :: .ref (C.2.1 0) :: st) := by
  obtain ⟨p, l0, e, R, s, m, args, below, meth, c, A, cells, slots, nL, Q⟩ := E
  obtain ⟨rfl, hx, hb, hml, hown, hts, hK, hN, hC, hA, hfr, hlo, hce, hsl⟩ := hE
  obtain ⟨h1, h2, h3, h4⟩ := hf
  intro H locs ls hP hS hv
  refine va_put (D := C.1) (ci := 9) (C := (jT 9).1) (T := (jT 9).2.1) (N := (jT 9).2.2) (ty := .object "DampLikeness$Plan") hx hb hts (jT_in h1) _ (jT_ty h1) (jT_nm h1) hown hK hP (jw_D C S hC hA) hS 0 (jw_ofs (show jsh 0 = (0, 9) from rfl)) (jT_lt h1) k (by rw [jT_nf h1]; exact h2) (hts _ h4) (fun _ h => h) (by rcases hk with rfl | rfl <;> rfl) (by rcases hk with rfl | rfl <;> decide +kernel) rfl rfl (by simp [h2]) hd (fun H1 locs1 hP1 _ hS1 => ?_)
  rw [jw_putp C S hk hx'] at hP1
  exact kk H1 locs1 ls hP1 hS1 hv
theorem jw_of1 {C : JC} {S : Sto} {i n : Nat} (hs : jsh i = (1, n)) : (jw C S)[i]? = some (C.2.1 i, .inl (C.2.2.1, n, .inl (S i))) := by
  rw [jw_at C S (jsh_lt hs (by decide)), jcell_1 C S hs]
theorem jw_of2 {C : JC} {S : Sto} {i n : Nat} (hs : jsh i = (2, n)) : (jw C S)[i]? = some (C.2.1 i, .inl (C.2.2.2.1, n, .inl (S i))) := by
  rw [jw_at C S (jsh_lt hs (by decide)), jcell_2 C S hs]
theorem jw_of3 {C : JC} {S : Sto} {i n : Nat} (hs : jsh i = (3, n)) : (jw C S)[i]? = some (C.2.1 i, .inl (C.2.2.2.2.1, n, .inr (.inr (.inr (.inr (fun j => some (C.2.1 (rfa i j)))))))) := by
  rw [jw_at C S (jsh_lt hs (by decide)), jcell_3 C S hs]
theorem jw_of4 {C : JC} {S : Sto} {i n : Nat} (hs : jsh i = (4, n)) : (jw C S)[i]? = some (C.2.1 i, .inl (C.2.2.2.2.2, n, .inr (.inr (.inr (.inr (fun j => some (C.2.1 (rfa i j)))))))) := by
  rw [jw_at C S (jsh_lt hs (by decide)), jcell_4 C S hs]
theorem j_iald (hE : Jok l C E own cc d) (hd : decode cc pc = .ok (.iaload, 1)) {i n : Nat} {x : Int32} (hs : jsh i = (1, n)) (hi : vp_in x n) (kk : J C E S (pc + 1) lv (.int (S i x.toNatClampNeg) :: st)) : J C E S pc lv (.int x :: .ref (C.2.1 i) :: st) := by
  obtain ⟨p, l0, e, R, s, m, args, below, meth, c, A, cells, slots, nL, Q⟩ := E
  obtain ⟨rfl, hx, hb, hml, hown, hts, hK, hN, hC, hA, hfr, hlo, hce, hsl⟩ := hE
  intro H locs ls hP hS hv
  exact va_iald hx hb hK hP i 0 (jw_of1 hs) rfl hi hd (kk H locs ls hP hS hv)
theorem j_ialdN (hE : Jok l C E own cc d) (hd : decode cc pc = .ok (.iaload, 1)) {i n x : Nat} (hs : jsh i = (1, n)) (hi : x < n) (hn : n < 2 ^ 31) (kk : J C E S (pc + 1) lv (.int (S i x) :: st)) : J C E S pc lv (.int (nI x) :: .ref (C.2.1 i) :: st) := by
  refine j_iald hE hd hs (vp_in_nI hi hn) ?_
  rw [nI_clamp (Nat.lt_trans hi hn)]
  exact kk
theorem j_iast (hE : Jok l C E own cc d) (hd : decode cc pc = .ok (.iastore, 1)) {i n : Nat} {x v : Int32} (hs : jsh i = (1, n)) (hi : vp_in x n) (kk : J C E (up2 S i x.toNatClampNeg v) (pc + 1) lv st) : J C E S pc lv (.int v :: .int x :: .ref (C.2.1 i) :: st) := by
  obtain ⟨p, l0, e, R, s, m, args, below, meth, c, A, cells, slots, nL, Q⟩ := E
  obtain ⟨rfl, hx, hb, hml, hown, hts, hK, hN, hC, hA, hfr, hlo, hce, hsl⟩ := hE
  intro H locs ls hP hS hv
  refine va_iast hx hb hK hP (jw_D C S hC hA) hS i 0 (jw_of1 hs) rfl hi hd (fun H1 locs1 hP1 _ hS1 => ?_)
  rw [jw_arr1 C S hs] at hP1
  exact kk H1 locs1 ls hP1 hS1 hv
theorem j_iastN (hE : Jok l C E own cc d) (hd : decode cc pc = .ok (.iastore, 1)) {i n x : Nat} {v : Int32} (hs : jsh i = (1, n)) (hi : x < n) (hn : n < 2 ^ 31) (kk : J C E (up2 S i x v) (pc + 1) lv st) : J C E S pc lv (.int v :: .int (nI x) :: .ref (C.2.1 i) :: st) := by
  refine j_iast hE hd hs (vp_in_nI hi hn) ?_
  rw [nI_clamp (Nat.lt_trans hi hn)]
  exact kk
theorem j_zald (hE : Jok l C E own cc d) (hd : decode cc pc = .ok (.baload, 1)) {i n : Nat} {x : Int32} (hs : jsh i = (2, n)) (hi : vp_in x n) (kk : J C E S (pc + 1) lv (.int (S i x.toNatClampNeg) :: st)) : J C E S pc lv (.int x :: .ref (C.2.1 i) :: st) := by
  obtain ⟨p, l0, e, R, s, m, args, below, meth, c, A, cells, slots, nL, Q⟩ := E
  obtain ⟨rfl, hx, hb, hml, hown, hts, hK, hN, hC, hA, hfr, hlo, hce, hsl⟩ := hE
  intro H locs ls hP hS hv
  exact va_zald hx hb hK hP i 1 (jw_of2 hs) rfl hi hd (kk H locs ls hP hS hv)
theorem j_zast (hE : Jok l C E own cc d) (hd : decode cc pc = .ok (.bastore, 1)) {i n : Nat} {x v : Int32} (hs : jsh i = (2, n)) (hi : vp_in x n) (hv0 : vp_nar .boolean v = v) (kk : J C E (up2 S i x.toNatClampNeg v) (pc + 1) lv st) : J C E S pc lv (.int v :: .int x :: .ref (C.2.1 i) :: st) := by
  obtain ⟨p, l0, e, R, s, m, args, below, meth, c, A, cells, slots, nL, Q⟩ := E
  obtain ⟨rfl, hx, hb, hml, hown, hts, hK, hN, hC, hA, hfr, hlo, hce, hsl⟩ := hE
  intro H locs ls hP hS hv
  refine va_zast hx hb hK hP (jw_D C S hC hA) hS i 1 (jw_of2 hs) rfl hi hd (fun H1 locs1 hP1 _ hS1 => ?_)
  rw [hv0, jw_arr2 C S hs] at hP1
  exact kk H1 locs1 ls hP1 hS1 hv
theorem j_aald3 (hE : Jok l C E own cc d) (hd : decode cc pc = .ok (.aaload, 1)) {i n j : Nat} {x : Int32} (hs : jsh i = (3, n)) (hi : vp_in x n) (hj : rfa i x.toNatClampNeg = j) (kk : J C E S (pc + 1) lv (.ref (C.2.1 j) :: st)) : J C E S pc lv (.int x :: .ref (C.2.1 i) :: st) := by
  obtain ⟨p, l0, e, R, s, m, args, below, meth, c, A, cells, slots, nL, Q⟩ := E
  obtain ⟨rfl, hx, hb, hml, hown, hts, hK, hN, hC, hA, hfr, hlo, hce, hsl⟩ := hE
  subst hj
  intro H locs ls hP hS hv
  exact va_aldq hx hb hK hP i 2 (jw_of3 hs) rfl hi hd (kk H locs ls hP hS hv)
theorem j_aald4 (hE : Jok l C E own cc d) (hd : decode cc pc = .ok (.aaload, 1)) {i n j : Nat} {x : Int32} (hs : jsh i = (4, n)) (hi : vp_in x n) (hj : rfa i x.toNatClampNeg = j) (kk : J C E S (pc + 1) lv (.ref (C.2.1 j) :: st)) : J C E S pc lv (.int x :: .ref (C.2.1 i) :: st) := by
  obtain ⟨p, l0, e, R, s, m, args, below, meth, c, A, cells, slots, nL, Q⟩ := E
  obtain ⟨rfl, hx, hb, hml, hown, hts, hK, hN, hC, hA, hfr, hlo, hce, hsl⟩ := hE
  subst hj
  intro H locs ls hP hS hv
  exact va_aldq hx hb hK hP i 3 (jw_of4 hs) rfl hi hd (kk H locs ls hP hS hv)
theorem j_alen (hE : Jok l C E own cc d) (hd : decode cc pc = .ok (.arraylength, 1)) {i n : Nat} (v : Int32) (hs : jsh i = (1, n)) (hv0 : Int32.ofNat n = v) (kk : J C E S (pc + 1) lv (.int v :: st)) : J C E S pc lv (.ref (C.2.1 i) :: st) := by
  obtain ⟨p, l0, e, R, s, m, args, below, meth, c, A, cells, slots, nL, Q⟩ := E
  obtain ⟨rfl, hx, hb, hml, hown, hts, hK, hN, hC, hA, hfr, hlo, hce, hsl⟩ := hE
  intro H locs ls hP hS hv
  exact va_alen hx hb hK hP i 0 (jw_of1 hs) rfl hv0 hd (kk H locs ls hP hS hv)
theorem j_alen3 (hE : Jok l C E own cc d) (hd : decode cc pc = .ok (.arraylength, 1)) {i n : Nat} (v : Int32) (hs : jsh i = (3, n)) (hv0 : Int32.ofNat n = v) (kk : J C E S (pc + 1) lv (.int v :: st)) : J C E S pc lv (.ref (C.2.1 i) :: st) := by
  obtain ⟨p, l0, e, R, s, m, args, below, meth, c, A, cells, slots, nL, Q⟩ := E
  obtain ⟨rfl, hx, hb, hml, hown, hts, hK, hN, hC, hA, hfr, hlo, hce, hsl⟩ := hE
  intro H locs ls hP hS hv
  exact va_alen hx hb hK hP i 2 (jw_of3 hs) rfl hv0 hd (kk H locs ls hP hS hv)
theorem j_alen4 (hE : Jok l C E own cc d) (hd : decode cc pc = .ok (.arraylength, 1)) {i n : Nat} (v : Int32) (hs : jsh i = (4, n)) (hv0 : Int32.ofNat n = v) (kk : J C E S (pc + 1) lv (.int v :: st)) : J C E S pc lv (.ref (C.2.1 i) :: st) := by
  obtain ⟨p, l0, e, R, s, m, args, below, meth, c, A, cells, slots, nL, Q⟩ := E
  obtain ⟨rfl, hx, hb, hml, hown, hts, hK, hN, hC, hA, hfr, hlo, hce, hsl⟩ := hE
  intro H locs ls hP hS hv
  exact va_alen hx hb hK hP i 3 (jw_of4 hs) rfl hv0 hd (kk H locs ls hP hS hv)
/-- the first N of f, then g -/
def cpN (N : Nat) (f g : Nat → Int32) : Nat → Int32 := fun k => if k < N then f k else g k
theorem cpN_eq (N : Nat) (f g : Nat → Int32) : va_cpy f g 0 0 N = cpN N f g := by
  funext k
  unfold va_cpy cpN
  simp
theorem j_copy (hE : Jok l C E own cc d) {idx : Nat} (hl : Cond.methodLink own idx arraycopyName ∈ WT) (hn1 : Cond.native arraycopyName ∈ WT) (hn2 : Cond.static arraycopyName ∈ WT) (hn3 : Cond.initialized "java/lang/System" ∈ WT) (hd : decode cc pc = .ok (.invokestatic idx, 3)) {a0 a1 n0 n1 : Nat} {n : Int32} (N : Nat) (hd1 : 1 ≤ d) (h0 : jsh a0 = (1, n0)) (h1 : jsh a1 = (1, n1)) (hNn : n.toNatClampNeg = N) (hp : ¬ n < 0) (h4 : N ≤ n0) (h5 : N ≤ n1) (kk : J C E (upA S a1 (cpN N (S a0) (S a1))) (pc + 3) lv []) : J C E S pc lv (.int n :: .int 0 :: .ref (C.2.1 a1) :: .int 0 :: .ref (C.2.1 a0) :: []) := by
  obtain ⟨p, l0, e, R, s, m, args, below, meth, c, A, cells, slots, nL, Q⟩ := E
  obtain ⟨rfl, hx, hb, hml, hown, hts, hK, hN, hC, hA, hfr, hlo, hce, hsl⟩ := hE
  intro H locs ls hP hS hv
  refine va_copyi hx hb (hml.trans hv.1.symm) hown (hts _ hl) (hts _ hn1) (hts _ hn2) (hts _ hn3) hK hP (jw_D C S hC hA) hS a0 a1 0 0 (jw_of1 h0) (jw_of1 h1) rfl rfl rfl (by decide) (by decide) hp (by rw [hNn]; show 0 + N ≤ n0; omega) (by rw [hNn]; show 0 + N ≤ n1; omega) (fun i _ => rfl) (Nat.le_trans hd1 hfr) (Nat.le_trans (by decide : _ ≤ 128) (Nat.le_trans (by omega : 128 ≤ 128 * d) hlo)) hd (fun H1 locs1 hP1 _ hS1 => ?_)
  rw [hNn, show (0 : Int32).toNatClampNeg = 0 from rfl, cpN_eq, jw_arr1 C S h1] at hP1
  exact kk H1 locs1 ls hP1 hS1 hv
/-! calls -/
theorem j_after {p : Program} {l0 : Launch} {e : Env} {R : Room} {s : State} {m : MethodId} {args : Array Value} {below : List Frame} {meth : Method} {c : Code} {A : Nat → Prop} {cells slots : Nat} {Q : State → Prop} {H : Heap} {locs : List Loc} {ls : Array Slot} {st0 rest : List Value} {a : Array Value} {v : Option Value} {S' : Sto}
    (hr : va_Run p l0 e R s m args below meth c H locs cells slots 0 0 (F0 m pc ls st0) rest (JQ C v S' a) (JA C)) (hS : va_S A s.heap H locs) (hA : ∀ i, i < NN → A (C.2.1 i))
    (kk : ∀ (H1 : Heap) (locs1 : List Loc), va_P C.1 jcls (jw C S') H1 → va_S A s.heap H1 locs1 → W p l0 e R s m args below meth c H1 locs1 cells slots Q (F0 m (pc + 3) ls (v.toList ++ rest))) : W p l0 e R s m args below meth c H locs cells slots Q (F0 m pc ls st0) := by
  intro T hT X
  obtain ⟨v', st₀, t, T', L, h0, X', hL, e1, e2, ⟨⟨hv, hb⟩, hz, hk⟩, st⟩ := hr T hT X
  cases hv
  rw [h0] at hz hk
  have hAA : ∀ q, JA C q → A q := fun q ⟨i, hi, e⟩ => e ▸ hA i hi
  obtain ⟨t2, a1, b1⟩ := kk T'.heap (locs ++ L) (by rw [e1]; exact hb)
    ⟨Nat.le_trans hS.1 (by rw [e1]; exact hz), fun q h1 h2 => by rw [e1, hk q (Nat.lt_of_lt_of_le h1 hS.1) (fun z => h2 (hAA q z))]; exact hS.2.1 q h1 h2, fun q hq => by
      rcases List.mem_append.mp hq with h | h
      · exact hS.2.2 q h
      · exact hAA _ (hL q h)⟩ T' rfl X'
  exact ⟨t2, st t2 a1, b1⟩
theorem JP_blind (C : JC) (S : Sto) (av : List Value) : FrameBlind (va_Pc av (JP C S)) := fun a U g mk q => by
  obtain ⟨q0, qP, qK, qN⟩ := q
  exact ⟨q0, qP, va_K.moved (u := U) (U := U.calling g mk a) (Vm.Alike.refl U.vm) qK, fun w hw => va_Nw.same (u := U) (U := U.calling g mk a) rfl rfl (qN w hw)⟩
theorem JP_pre {C : JC} {S : Sto} {av : List Value} {s : State} {H : Heap} (hK : va_K C.1 jcls (jty C) s) (hN : JN s) (hP : va_P C.1 jcls (jw C S) H) : ∀ U : State, U.heap = H → s.WarmedH U.vm → va_Pc av (JP C S) av.toArray U := fun U hU hW => ⟨rfl, by rw [hU]; exact hP, va_K.moved hW.alike hK, JN.warm hW hN⟩
theorem j_invS (hE : Jok l C E own cc d) {y : MethodName} {bytes : ByteArray} {nL' : Nat} {ret : Option FieldType} {d' n idx : Nat} {av rest : List Value} {v : Option Value} {S' : Sto} (hc : CS own idx y bytes nL' ret n) (hM : Con l C y bytes nL' ret d' av S v S') (hd : decode cc pc = .ok (.invokestatic idx, 3)) (hd' : d' + 1 ≤ d) (hn : av.length = n) (hr : (rest.map fun v => v.category).sum ≤ 8) (kk : J C E S' (pc + 3) lv (v.toList ++ rest)) : J C E S pc lv (av.reverse ++ rest) := by
  obtain ⟨p, l0, e, R, s, m, args, below, meth, c, A, cells, slots, nL, Q⟩ := E
  obtain ⟨rfl, hx, hb, hml, hown, hts, hK, hN, hC, hA, hfr, hlo, hce, hsl⟩ := hE
  obtain ⟨⟨c1, c2, c3, c4⟩, c5, c6⟩ := hc
  intro H locs ls hP hS hv
  exact j_after (va_runS (As := av) (rest := rest) (Ts := WT) ⟨hx, hb, rfl, hown, hts⟩ hM ⟨callB_of n hts (wt_self c1) rfl rfl rfl (hts _ c2) (hts _ c5) c3 ⟨Nat.le_trans hd' hfr, Nat.le_trans (by show 8 + (nL' + 11) + 128 * d' ≤ 128 * d; omega) hlo⟩, hts _ c6⟩ ⟨JP_blind C S av, JP_pre hK hN hP⟩ rfl hn (hv.1.trans hml.symm) rfl (lv_room hr) hd ⟨hce, hsl⟩) hS hA (fun H1 locs1 hP1 hS1 => kk H1 locs1 ls hP1 hS1 hv)
theorem j_invSN (hE : Jok l C E own cc d) {y : MethodName} {bytes : ByteArray} {nL' : Nat} {ret : Option FieldType} {d' n idx : Nat} {av rest : List Value} {v : Option Value} {S' : Sto} (hc : CSN own idx y bytes nL' ret n) (hM : Con l C y bytes nL' ret d' av S v S') (hd : decode cc pc = .ok (.invokestatic idx, 3)) (hd' : d' + 1 ≤ d) (hn : av.length = n) (hr : (rest.map fun v => v.category).sum ≤ 8) (kk : J C E S' (pc + 3) lv (v.toList ++ rest)) : J C E S pc lv (av.reverse ++ rest) := by
  obtain ⟨p, l0, e, R, s, m, args, below, meth, c, A, cells, slots, nL, Q⟩ := E
  obtain ⟨rfl, hx, hb, hml, hown, hts, hK, hN, hC, hA, hfr, hlo, hce, hsl⟩ := hE
  obtain ⟨⟨c1, c2, c3, c4⟩, c5, c6⟩ := hc
  intro H locs ls hP hS hv
  exact j_after (va_runSN (As := av) (rest := rest) (Ts := WT) ⟨hx, hb, rfl, hown, hts⟩ hM ⟨va_cnB n hts (wt_self c1) rfl rfl rfl (hN _ c5) (hts _ c2) c3 ⟨Nat.le_trans hd' hfr, Nat.le_trans (by show 8 + (nL' + 11) + 128 * d' ≤ 128 * d; omega) hlo⟩, hts _ c6, trivial⟩ ⟨JP_blind C S av, JP_pre hK hN hP⟩ rfl hn (hv.1.trans hml.symm) rfl (lv_room hr) hd ⟨hce, hsl⟩) hS hA (fun H1 locs1 hP1 hS1 => kk H1 locs1 ls hP1 hS1 hv)
theorem j_invV (hE : Jok l C E own cc d) {y : MethodName} {bytes : ByteArray} {nL' : Nat} {ret : Option FieldType} {d' n idx ci i : Nat} {av rest : List Value} {v : Option Value} {S' : Sto} (hc : CV own idx y bytes nL' ret n ci) (hM : Con l C y bytes nL' ret d' (.ref (C.2.1 i) :: av) S v S') (hd : decode cc pc = .ok (.invokevirtual idx, 3)) (hs : jsh i = (0, ci)) (hd' : d' + 1 ≤ d) (hn : av.length = n) (hr : (rest.map fun v => v.category).sum ≤ 8) (kk : J C E S' (pc + 3) lv (v.toList ++ rest)) : J C E S pc lv (av.reverse ++ .ref (C.2.1 i) :: rest) := by
  obtain ⟨p, l0, e, R, s, m, args, below, meth, c, A, cells, slots, nL, Q⟩ := E
  obtain ⟨rfl, hx, hb, hml, hown, hts, hK, hN, hC, hA, hfr, hlo, hce, hsl⟩ := hE
  obtain ⟨⟨c1, c2, c3, c4⟩, c5, c6, c7, c8, c9⟩ := hc
  intro H locs ls hP hS hv
  exact j_after (va_runV (C := y.cls) (As := av) (rest := rest) (Ts := WT) ⟨hx, hb, rfl, hown, hts⟩ hM ⟨callB_of n hts (wt_self c1) rfl rfl rfl (hts _ c2) (hts _ c5) c3 ⟨Nat.le_trans hd' hfr, Nat.le_trans (by show 8 + (nL' + 11) + 128 * d' ≤ 128 * d; omega) hlo⟩, hts _ c6, hts _ c7⟩ ⟨JP_blind C S _, by rw [← c9]; exact va_recv hK hP (jT_lt c8) (jw_ofs hs), JP_pre (av := .ref (C.2.1 i) :: av) hK hN hP⟩ rfl hn (hv.1.trans hml.symm) rfl (lv_room hr) hd ⟨hce, hsl⟩) hS hA (fun H1 locs1 hP1 hS1 => kk H1 locs1 ls hP1 hS1 hv)
/-! returns -/
theorem j_iret (hE : Jok l C E own cc d) {r r' : Int32} {S' : Sto} (hR : Jret C E cc (some .int) (some (.int r')) S') (hd : decode cc pc = .ok (.ireturn, 1)) (hr : r = r') (hS' : S = S') : J C E S pc lv [.int r] := by
  obtain ⟨p, l0, e, R, s, m, args, below, meth, c, A, cells, slots, nL, Q⟩ := E
  subst hr
  subst hS'
  intro H locs ls hP hS hv
  exact hR.1 r .int H locs ls pc rfl rfl (vp_nar_int r) hP hS hd
theorem j_zret (hE : Jok l C E own cc d) {r r' : Int32} {S' : Sto} (hR : Jret C E cc (some .boolean) (some (.int r')) S') (hd : decode cc pc = .ok (.ireturn, 1)) (hr : r = r') (hS' : S = S') (hn : narrow .boolean (.int r') = .int r') : J C E S pc lv [.int r] := by
  obtain ⟨p, l0, e, R, s, m, args, below, meth, c, A, cells, slots, nL, Q⟩ := E
  subst hr
  subst hS'
  intro H locs ls hP hS hv
  exact hR.1 r .boolean H locs ls pc rfl rfl hn hP hS hd
theorem j_vret (hE : Jok l C E own cc d) {S' : Sto} (hR : Jret C E cc none none S') (hd : decode cc pc = .ok (.return_, 1)) (hS' : S = S') : J C E S pc lv [] := by
  obtain ⟨p, l0, e, R, s, m, args, below, meth, c, A, cells, slots, nL, Q⟩ := E
  subst hS'
  intro H locs ls hP hS hv
  exact hR.2 H locs ls pc rfl rfl hP hS hd
theorem j_eqS {S' : Sto} (h : S = S') (k : J C E S' pc lv st) : J C E S pc lv st := h ▸ k
theorem j_top {x y : Int32} (h : x = y) (k : J C E S pc lv (.int y :: st)) : J C E S pc lv (.int x :: st) := h ▸ k
theorem j_inj (hE : Jok l C E own cc d) : JInj C := by
  obtain ⟨p, l0, e, R, s, m, args, below, meth, c, A, cells, slots, nL, Q⟩ := E
  obtain ⟨rfl, hx, hb, hml, hown, hts, hK, hN, hC, hA, hfr, hlo, hce, hsl⟩ := hE
  exact hC
theorem nar_b {c : Prop} [Decidable c] : narrow .boolean (.int (if c then 1 else 0)) = .int (if c then 1 else 0) := by
  by_cases h : c
  · rw [if_pos h]; rfl
  · rw [if_neg h]; rfl
theorem j_S0i (hE : Jok l C E own cc d) {y : MethodName} {bytes : ByteArray} {nL' : Nat} {ret : Option FieldType} {d' idx : Nat} {rest : List Value} {r : Int32} {S' : Sto} (hc : CS own idx y bytes nL' ret 0) (hM : Con l C y bytes nL' ret d' [] S (some (.int r)) S') (hd : decode cc pc = .ok (.invokestatic idx, 3)) (hd' : d' + 1 ≤ d) (hr : (rest.map fun v => v.category).sum ≤ 8) (kk : J C E S' (pc + 3) lv (.int r :: rest)) : J C E S pc lv (rest) := j_invS hE hc hM hd hd' rfl hr kk
theorem j_S0v (hE : Jok l C E own cc d) {y : MethodName} {bytes : ByteArray} {nL' : Nat} {ret : Option FieldType} {d' idx : Nat} {rest : List Value} {S' : Sto} (hc : CS own idx y bytes nL' ret 0) (hM : Con l C y bytes nL' ret d' [] S none S') (hd : decode cc pc = .ok (.invokestatic idx, 3)) (hd' : d' + 1 ≤ d) (hr : (rest.map fun v => v.category).sum ≤ 8) (kk : J C E S' (pc + 3) lv (rest)) : J C E S pc lv (rest) := j_invS hE hc hM hd hd' rfl hr kk
theorem j_SN0i (hE : Jok l C E own cc d) {y : MethodName} {bytes : ByteArray} {nL' : Nat} {ret : Option FieldType} {d' idx : Nat} {rest : List Value} {r : Int32} {S' : Sto} (hc : CSN own idx y bytes nL' ret 0) (hM : Con l C y bytes nL' ret d' [] S (some (.int r)) S') (hd : decode cc pc = .ok (.invokestatic idx, 3)) (hd' : d' + 1 ≤ d) (hr : (rest.map fun v => v.category).sum ≤ 8) (kk : J C E S' (pc + 3) lv (.int r :: rest)) : J C E S pc lv (rest) := j_invSN hE hc hM hd hd' rfl hr kk
theorem j_SN0v (hE : Jok l C E own cc d) {y : MethodName} {bytes : ByteArray} {nL' : Nat} {ret : Option FieldType} {d' idx : Nat} {rest : List Value} {S' : Sto} (hc : CSN own idx y bytes nL' ret 0) (hM : Con l C y bytes nL' ret d' [] S none S') (hd : decode cc pc = .ok (.invokestatic idx, 3)) (hd' : d' + 1 ≤ d) (hr : (rest.map fun v => v.category).sum ≤ 8) (kk : J C E S' (pc + 3) lv (rest)) : J C E S pc lv (rest) := j_invSN hE hc hM hd hd' rfl hr kk
theorem j_V0i (hE : Jok l C E own cc d) {y : MethodName} {bytes : ByteArray} {nL' : Nat} {ret : Option FieldType} {d' idx ci i : Nat} {rest : List Value} {r : Int32} {S' : Sto} (hc : CV own idx y bytes nL' ret 0 ci) (hM : Con l C y bytes nL' ret d' [.ref (C.2.1 i)] S (some (.int r)) S') (hd : decode cc pc = .ok (.invokevirtual idx, 3)) (hs : jsh i = (0, ci)) (hd' : d' + 1 ≤ d) (hr : (rest.map fun v => v.category).sum ≤ 8) (kk : J C E S' (pc + 3) lv (.int r :: rest)) : J C E S pc lv (.ref (C.2.1 i) :: rest) := j_invV hE hc hM hd hs hd' rfl hr kk
theorem j_V0v (hE : Jok l C E own cc d) {y : MethodName} {bytes : ByteArray} {nL' : Nat} {ret : Option FieldType} {d' idx ci i : Nat} {rest : List Value} {S' : Sto} (hc : CV own idx y bytes nL' ret 0 ci) (hM : Con l C y bytes nL' ret d' [.ref (C.2.1 i)] S none S') (hd : decode cc pc = .ok (.invokevirtual idx, 3)) (hs : jsh i = (0, ci)) (hd' : d' + 1 ≤ d) (hr : (rest.map fun v => v.category).sum ≤ 8) (kk : J C E S' (pc + 3) lv (rest)) : J C E S pc lv (.ref (C.2.1 i) :: rest) := j_invV hE hc hM hd hs hd' rfl hr kk
theorem j_S1i (hE : Jok l C E own cc d) {y : MethodName} {bytes : ByteArray} {nL' : Nat} {ret : Option FieldType} {d' idx : Nat} {x0 : Value} {rest : List Value} {r : Int32} {S' : Sto} (hc : CS own idx y bytes nL' ret 1) (hM : Con l C y bytes nL' ret d' [x0] S (some (.int r)) S') (hd : decode cc pc = .ok (.invokestatic idx, 3)) (hd' : d' + 1 ≤ d) (hr : (rest.map fun v => v.category).sum ≤ 8) (kk : J C E S' (pc + 3) lv (.int r :: rest)) : J C E S pc lv (x0 :: rest) := j_invS hE hc hM hd hd' rfl hr kk
theorem j_S1v (hE : Jok l C E own cc d) {y : MethodName} {bytes : ByteArray} {nL' : Nat} {ret : Option FieldType} {d' idx : Nat} {x0 : Value} {rest : List Value} {S' : Sto} (hc : CS own idx y bytes nL' ret 1) (hM : Con l C y bytes nL' ret d' [x0] S none S') (hd : decode cc pc = .ok (.invokestatic idx, 3)) (hd' : d' + 1 ≤ d) (hr : (rest.map fun v => v.category).sum ≤ 8) (kk : J C E S' (pc + 3) lv (rest)) : J C E S pc lv (x0 :: rest) := j_invS hE hc hM hd hd' rfl hr kk
theorem j_SN1i (hE : Jok l C E own cc d) {y : MethodName} {bytes : ByteArray} {nL' : Nat} {ret : Option FieldType} {d' idx : Nat} {x0 : Value} {rest : List Value} {r : Int32} {S' : Sto} (hc : CSN own idx y bytes nL' ret 1) (hM : Con l C y bytes nL' ret d' [x0] S (some (.int r)) S') (hd : decode cc pc = .ok (.invokestatic idx, 3)) (hd' : d' + 1 ≤ d) (hr : (rest.map fun v => v.category).sum ≤ 8) (kk : J C E S' (pc + 3) lv (.int r :: rest)) : J C E S pc lv (x0 :: rest) := j_invSN hE hc hM hd hd' rfl hr kk
theorem j_SN1v (hE : Jok l C E own cc d) {y : MethodName} {bytes : ByteArray} {nL' : Nat} {ret : Option FieldType} {d' idx : Nat} {x0 : Value} {rest : List Value} {S' : Sto} (hc : CSN own idx y bytes nL' ret 1) (hM : Con l C y bytes nL' ret d' [x0] S none S') (hd : decode cc pc = .ok (.invokestatic idx, 3)) (hd' : d' + 1 ≤ d) (hr : (rest.map fun v => v.category).sum ≤ 8) (kk : J C E S' (pc + 3) lv (rest)) : J C E S pc lv (x0 :: rest) := j_invSN hE hc hM hd hd' rfl hr kk
theorem j_V1i (hE : Jok l C E own cc d) {y : MethodName} {bytes : ByteArray} {nL' : Nat} {ret : Option FieldType} {d' idx ci i : Nat} {x0 : Value} {rest : List Value} {r : Int32} {S' : Sto} (hc : CV own idx y bytes nL' ret 1 ci) (hM : Con l C y bytes nL' ret d' [.ref (C.2.1 i), x0] S (some (.int r)) S') (hd : decode cc pc = .ok (.invokevirtual idx, 3)) (hs : jsh i = (0, ci)) (hd' : d' + 1 ≤ d) (hr : (rest.map fun v => v.category).sum ≤ 8) (kk : J C E S' (pc + 3) lv (.int r :: rest)) : J C E S pc lv (x0 :: .ref (C.2.1 i) :: rest) := j_invV hE hc hM hd hs hd' rfl hr kk
theorem j_V1v (hE : Jok l C E own cc d) {y : MethodName} {bytes : ByteArray} {nL' : Nat} {ret : Option FieldType} {d' idx ci i : Nat} {x0 : Value} {rest : List Value} {S' : Sto} (hc : CV own idx y bytes nL' ret 1 ci) (hM : Con l C y bytes nL' ret d' [.ref (C.2.1 i), x0] S none S') (hd : decode cc pc = .ok (.invokevirtual idx, 3)) (hs : jsh i = (0, ci)) (hd' : d' + 1 ≤ d) (hr : (rest.map fun v => v.category).sum ≤ 8) (kk : J C E S' (pc + 3) lv (rest)) : J C E S pc lv (x0 :: .ref (C.2.1 i) :: rest) := j_invV hE hc hM hd hs hd' rfl hr kk
theorem j_S2i (hE : Jok l C E own cc d) {y : MethodName} {bytes : ByteArray} {nL' : Nat} {ret : Option FieldType} {d' idx : Nat} {x0 x1 : Value} {rest : List Value} {r : Int32} {S' : Sto} (hc : CS own idx y bytes nL' ret 2) (hM : Con l C y bytes nL' ret d' [x0, x1] S (some (.int r)) S') (hd : decode cc pc = .ok (.invokestatic idx, 3)) (hd' : d' + 1 ≤ d) (hr : (rest.map fun v => v.category).sum ≤ 8) (kk : J C E S' (pc + 3) lv (.int r :: rest)) : J C E S pc lv (x1 :: x0 :: rest) := j_invS hE hc hM hd hd' rfl hr kk
theorem j_S2v (hE : Jok l C E own cc d) {y : MethodName} {bytes : ByteArray} {nL' : Nat} {ret : Option FieldType} {d' idx : Nat} {x0 x1 : Value} {rest : List Value} {S' : Sto} (hc : CS own idx y bytes nL' ret 2) (hM : Con l C y bytes nL' ret d' [x0, x1] S none S') (hd : decode cc pc = .ok (.invokestatic idx, 3)) (hd' : d' + 1 ≤ d) (hr : (rest.map fun v => v.category).sum ≤ 8) (kk : J C E S' (pc + 3) lv (rest)) : J C E S pc lv (x1 :: x0 :: rest) := j_invS hE hc hM hd hd' rfl hr kk
theorem j_SN2i (hE : Jok l C E own cc d) {y : MethodName} {bytes : ByteArray} {nL' : Nat} {ret : Option FieldType} {d' idx : Nat} {x0 x1 : Value} {rest : List Value} {r : Int32} {S' : Sto} (hc : CSN own idx y bytes nL' ret 2) (hM : Con l C y bytes nL' ret d' [x0, x1] S (some (.int r)) S') (hd : decode cc pc = .ok (.invokestatic idx, 3)) (hd' : d' + 1 ≤ d) (hr : (rest.map fun v => v.category).sum ≤ 8) (kk : J C E S' (pc + 3) lv (.int r :: rest)) : J C E S pc lv (x1 :: x0 :: rest) := j_invSN hE hc hM hd hd' rfl hr kk
theorem j_SN2v (hE : Jok l C E own cc d) {y : MethodName} {bytes : ByteArray} {nL' : Nat} {ret : Option FieldType} {d' idx : Nat} {x0 x1 : Value} {rest : List Value} {S' : Sto} (hc : CSN own idx y bytes nL' ret 2) (hM : Con l C y bytes nL' ret d' [x0, x1] S none S') (hd : decode cc pc = .ok (.invokestatic idx, 3)) (hd' : d' + 1 ≤ d) (hr : (rest.map fun v => v.category).sum ≤ 8) (kk : J C E S' (pc + 3) lv (rest)) : J C E S pc lv (x1 :: x0 :: rest) := j_invSN hE hc hM hd hd' rfl hr kk
theorem j_V2i (hE : Jok l C E own cc d) {y : MethodName} {bytes : ByteArray} {nL' : Nat} {ret : Option FieldType} {d' idx ci i : Nat} {x0 x1 : Value} {rest : List Value} {r : Int32} {S' : Sto} (hc : CV own idx y bytes nL' ret 2 ci) (hM : Con l C y bytes nL' ret d' [.ref (C.2.1 i), x0, x1] S (some (.int r)) S') (hd : decode cc pc = .ok (.invokevirtual idx, 3)) (hs : jsh i = (0, ci)) (hd' : d' + 1 ≤ d) (hr : (rest.map fun v => v.category).sum ≤ 8) (kk : J C E S' (pc + 3) lv (.int r :: rest)) : J C E S pc lv (x1 :: x0 :: .ref (C.2.1 i) :: rest) := j_invV hE hc hM hd hs hd' rfl hr kk
theorem j_V2v (hE : Jok l C E own cc d) {y : MethodName} {bytes : ByteArray} {nL' : Nat} {ret : Option FieldType} {d' idx ci i : Nat} {x0 x1 : Value} {rest : List Value} {S' : Sto} (hc : CV own idx y bytes nL' ret 2 ci) (hM : Con l C y bytes nL' ret d' [.ref (C.2.1 i), x0, x1] S none S') (hd : decode cc pc = .ok (.invokevirtual idx, 3)) (hs : jsh i = (0, ci)) (hd' : d' + 1 ≤ d) (hr : (rest.map fun v => v.category).sum ≤ 8) (kk : J C E S' (pc + 3) lv (rest)) : J C E S pc lv (x1 :: x0 :: .ref (C.2.1 i) :: rest) := j_invV hE hc hM hd hs hd' rfl hr kk
theorem j_S3i (hE : Jok l C E own cc d) {y : MethodName} {bytes : ByteArray} {nL' : Nat} {ret : Option FieldType} {d' idx : Nat} {x0 x1 x2 : Value} {rest : List Value} {r : Int32} {S' : Sto} (hc : CS own idx y bytes nL' ret 3) (hM : Con l C y bytes nL' ret d' [x0, x1, x2] S (some (.int r)) S') (hd : decode cc pc = .ok (.invokestatic idx, 3)) (hd' : d' + 1 ≤ d) (hr : (rest.map fun v => v.category).sum ≤ 8) (kk : J C E S' (pc + 3) lv (.int r :: rest)) : J C E S pc lv (x2 :: x1 :: x0 :: rest) := j_invS hE hc hM hd hd' rfl hr kk
theorem j_S3v (hE : Jok l C E own cc d) {y : MethodName} {bytes : ByteArray} {nL' : Nat} {ret : Option FieldType} {d' idx : Nat} {x0 x1 x2 : Value} {rest : List Value} {S' : Sto} (hc : CS own idx y bytes nL' ret 3) (hM : Con l C y bytes nL' ret d' [x0, x1, x2] S none S') (hd : decode cc pc = .ok (.invokestatic idx, 3)) (hd' : d' + 1 ≤ d) (hr : (rest.map fun v => v.category).sum ≤ 8) (kk : J C E S' (pc + 3) lv (rest)) : J C E S pc lv (x2 :: x1 :: x0 :: rest) := j_invS hE hc hM hd hd' rfl hr kk
theorem j_SN3i (hE : Jok l C E own cc d) {y : MethodName} {bytes : ByteArray} {nL' : Nat} {ret : Option FieldType} {d' idx : Nat} {x0 x1 x2 : Value} {rest : List Value} {r : Int32} {S' : Sto} (hc : CSN own idx y bytes nL' ret 3) (hM : Con l C y bytes nL' ret d' [x0, x1, x2] S (some (.int r)) S') (hd : decode cc pc = .ok (.invokestatic idx, 3)) (hd' : d' + 1 ≤ d) (hr : (rest.map fun v => v.category).sum ≤ 8) (kk : J C E S' (pc + 3) lv (.int r :: rest)) : J C E S pc lv (x2 :: x1 :: x0 :: rest) := j_invSN hE hc hM hd hd' rfl hr kk
theorem j_SN3v (hE : Jok l C E own cc d) {y : MethodName} {bytes : ByteArray} {nL' : Nat} {ret : Option FieldType} {d' idx : Nat} {x0 x1 x2 : Value} {rest : List Value} {S' : Sto} (hc : CSN own idx y bytes nL' ret 3) (hM : Con l C y bytes nL' ret d' [x0, x1, x2] S none S') (hd : decode cc pc = .ok (.invokestatic idx, 3)) (hd' : d' + 1 ≤ d) (hr : (rest.map fun v => v.category).sum ≤ 8) (kk : J C E S' (pc + 3) lv (rest)) : J C E S pc lv (x2 :: x1 :: x0 :: rest) := j_invSN hE hc hM hd hd' rfl hr kk
theorem j_V3i (hE : Jok l C E own cc d) {y : MethodName} {bytes : ByteArray} {nL' : Nat} {ret : Option FieldType} {d' idx ci i : Nat} {x0 x1 x2 : Value} {rest : List Value} {r : Int32} {S' : Sto} (hc : CV own idx y bytes nL' ret 3 ci) (hM : Con l C y bytes nL' ret d' [.ref (C.2.1 i), x0, x1, x2] S (some (.int r)) S') (hd : decode cc pc = .ok (.invokevirtual idx, 3)) (hs : jsh i = (0, ci)) (hd' : d' + 1 ≤ d) (hr : (rest.map fun v => v.category).sum ≤ 8) (kk : J C E S' (pc + 3) lv (.int r :: rest)) : J C E S pc lv (x2 :: x1 :: x0 :: .ref (C.2.1 i) :: rest) := j_invV hE hc hM hd hs hd' rfl hr kk
theorem j_V3v (hE : Jok l C E own cc d) {y : MethodName} {bytes : ByteArray} {nL' : Nat} {ret : Option FieldType} {d' idx ci i : Nat} {x0 x1 x2 : Value} {rest : List Value} {S' : Sto} (hc : CV own idx y bytes nL' ret 3 ci) (hM : Con l C y bytes nL' ret d' [.ref (C.2.1 i), x0, x1, x2] S none S') (hd : decode cc pc = .ok (.invokevirtual idx, 3)) (hs : jsh i = (0, ci)) (hd' : d' + 1 ≤ d) (hr : (rest.map fun v => v.category).sum ≤ 8) (kk : J C E S' (pc + 3) lv (rest)) : J C E S pc lv (x2 :: x1 :: x0 :: .ref (C.2.1 i) :: rest) := j_invV hE hc hM hd hs hd' rfl hr kk
theorem j_S4i (hE : Jok l C E own cc d) {y : MethodName} {bytes : ByteArray} {nL' : Nat} {ret : Option FieldType} {d' idx : Nat} {x0 x1 x2 x3 : Value} {rest : List Value} {r : Int32} {S' : Sto} (hc : CS own idx y bytes nL' ret 4) (hM : Con l C y bytes nL' ret d' [x0, x1, x2, x3] S (some (.int r)) S') (hd : decode cc pc = .ok (.invokestatic idx, 3)) (hd' : d' + 1 ≤ d) (hr : (rest.map fun v => v.category).sum ≤ 8) (kk : J C E S' (pc + 3) lv (.int r :: rest)) : J C E S pc lv (x3 :: x2 :: x1 :: x0 :: rest) := j_invS hE hc hM hd hd' rfl hr kk
theorem j_S4v (hE : Jok l C E own cc d) {y : MethodName} {bytes : ByteArray} {nL' : Nat} {ret : Option FieldType} {d' idx : Nat} {x0 x1 x2 x3 : Value} {rest : List Value} {S' : Sto} (hc : CS own idx y bytes nL' ret 4) (hM : Con l C y bytes nL' ret d' [x0, x1, x2, x3] S none S') (hd : decode cc pc = .ok (.invokestatic idx, 3)) (hd' : d' + 1 ≤ d) (hr : (rest.map fun v => v.category).sum ≤ 8) (kk : J C E S' (pc + 3) lv (rest)) : J C E S pc lv (x3 :: x2 :: x1 :: x0 :: rest) := j_invS hE hc hM hd hd' rfl hr kk
theorem j_SN4i (hE : Jok l C E own cc d) {y : MethodName} {bytes : ByteArray} {nL' : Nat} {ret : Option FieldType} {d' idx : Nat} {x0 x1 x2 x3 : Value} {rest : List Value} {r : Int32} {S' : Sto} (hc : CSN own idx y bytes nL' ret 4) (hM : Con l C y bytes nL' ret d' [x0, x1, x2, x3] S (some (.int r)) S') (hd : decode cc pc = .ok (.invokestatic idx, 3)) (hd' : d' + 1 ≤ d) (hr : (rest.map fun v => v.category).sum ≤ 8) (kk : J C E S' (pc + 3) lv (.int r :: rest)) : J C E S pc lv (x3 :: x2 :: x1 :: x0 :: rest) := j_invSN hE hc hM hd hd' rfl hr kk
theorem j_SN4v (hE : Jok l C E own cc d) {y : MethodName} {bytes : ByteArray} {nL' : Nat} {ret : Option FieldType} {d' idx : Nat} {x0 x1 x2 x3 : Value} {rest : List Value} {S' : Sto} (hc : CSN own idx y bytes nL' ret 4) (hM : Con l C y bytes nL' ret d' [x0, x1, x2, x3] S none S') (hd : decode cc pc = .ok (.invokestatic idx, 3)) (hd' : d' + 1 ≤ d) (hr : (rest.map fun v => v.category).sum ≤ 8) (kk : J C E S' (pc + 3) lv (rest)) : J C E S pc lv (x3 :: x2 :: x1 :: x0 :: rest) := j_invSN hE hc hM hd hd' rfl hr kk
theorem j_V4i (hE : Jok l C E own cc d) {y : MethodName} {bytes : ByteArray} {nL' : Nat} {ret : Option FieldType} {d' idx ci i : Nat} {x0 x1 x2 x3 : Value} {rest : List Value} {r : Int32} {S' : Sto} (hc : CV own idx y bytes nL' ret 4 ci) (hM : Con l C y bytes nL' ret d' [.ref (C.2.1 i), x0, x1, x2, x3] S (some (.int r)) S') (hd : decode cc pc = .ok (.invokevirtual idx, 3)) (hs : jsh i = (0, ci)) (hd' : d' + 1 ≤ d) (hr : (rest.map fun v => v.category).sum ≤ 8) (kk : J C E S' (pc + 3) lv (.int r :: rest)) : J C E S pc lv (x3 :: x2 :: x1 :: x0 :: .ref (C.2.1 i) :: rest) := j_invV hE hc hM hd hs hd' rfl hr kk
theorem j_V4v (hE : Jok l C E own cc d) {y : MethodName} {bytes : ByteArray} {nL' : Nat} {ret : Option FieldType} {d' idx ci i : Nat} {x0 x1 x2 x3 : Value} {rest : List Value} {S' : Sto} (hc : CV own idx y bytes nL' ret 4 ci) (hM : Con l C y bytes nL' ret d' [.ref (C.2.1 i), x0, x1, x2, x3] S none S') (hd : decode cc pc = .ok (.invokevirtual idx, 3)) (hs : jsh i = (0, ci)) (hd' : d' + 1 ≤ d) (hr : (rest.map fun v => v.category).sum ≤ 8) (kk : J C E S' (pc + 3) lv (rest)) : J C E S pc lv (x3 :: x2 :: x1 :: x0 :: .ref (C.2.1 i) :: rest) := j_invV hE hc hM hd hs hd' rfl hr kk
theorem j_S5i (hE : Jok l C E own cc d) {y : MethodName} {bytes : ByteArray} {nL' : Nat} {ret : Option FieldType} {d' idx : Nat} {x0 x1 x2 x3 x4 : Value} {rest : List Value} {r : Int32} {S' : Sto} (hc : CS own idx y bytes nL' ret 5) (hM : Con l C y bytes nL' ret d' [x0, x1, x2, x3, x4] S (some (.int r)) S') (hd : decode cc pc = .ok (.invokestatic idx, 3)) (hd' : d' + 1 ≤ d) (hr : (rest.map fun v => v.category).sum ≤ 8) (kk : J C E S' (pc + 3) lv (.int r :: rest)) : J C E S pc lv (x4 :: x3 :: x2 :: x1 :: x0 :: rest) := j_invS hE hc hM hd hd' rfl hr kk
theorem j_S5v (hE : Jok l C E own cc d) {y : MethodName} {bytes : ByteArray} {nL' : Nat} {ret : Option FieldType} {d' idx : Nat} {x0 x1 x2 x3 x4 : Value} {rest : List Value} {S' : Sto} (hc : CS own idx y bytes nL' ret 5) (hM : Con l C y bytes nL' ret d' [x0, x1, x2, x3, x4] S none S') (hd : decode cc pc = .ok (.invokestatic idx, 3)) (hd' : d' + 1 ≤ d) (hr : (rest.map fun v => v.category).sum ≤ 8) (kk : J C E S' (pc + 3) lv (rest)) : J C E S pc lv (x4 :: x3 :: x2 :: x1 :: x0 :: rest) := j_invS hE hc hM hd hd' rfl hr kk
theorem j_SN5i (hE : Jok l C E own cc d) {y : MethodName} {bytes : ByteArray} {nL' : Nat} {ret : Option FieldType} {d' idx : Nat} {x0 x1 x2 x3 x4 : Value} {rest : List Value} {r : Int32} {S' : Sto} (hc : CSN own idx y bytes nL' ret 5) (hM : Con l C y bytes nL' ret d' [x0, x1, x2, x3, x4] S (some (.int r)) S') (hd : decode cc pc = .ok (.invokestatic idx, 3)) (hd' : d' + 1 ≤ d) (hr : (rest.map fun v => v.category).sum ≤ 8) (kk : J C E S' (pc + 3) lv (.int r :: rest)) : J C E S pc lv (x4 :: x3 :: x2 :: x1 :: x0 :: rest) := j_invSN hE hc hM hd hd' rfl hr kk
theorem j_SN5v (hE : Jok l C E own cc d) {y : MethodName} {bytes : ByteArray} {nL' : Nat} {ret : Option FieldType} {d' idx : Nat} {x0 x1 x2 x3 x4 : Value} {rest : List Value} {S' : Sto} (hc : CSN own idx y bytes nL' ret 5) (hM : Con l C y bytes nL' ret d' [x0, x1, x2, x3, x4] S none S') (hd : decode cc pc = .ok (.invokestatic idx, 3)) (hd' : d' + 1 ≤ d) (hr : (rest.map fun v => v.category).sum ≤ 8) (kk : J C E S' (pc + 3) lv (rest)) : J C E S pc lv (x4 :: x3 :: x2 :: x1 :: x0 :: rest) := j_invSN hE hc hM hd hd' rfl hr kk
theorem j_V5i (hE : Jok l C E own cc d) {y : MethodName} {bytes : ByteArray} {nL' : Nat} {ret : Option FieldType} {d' idx ci i : Nat} {x0 x1 x2 x3 x4 : Value} {rest : List Value} {r : Int32} {S' : Sto} (hc : CV own idx y bytes nL' ret 5 ci) (hM : Con l C y bytes nL' ret d' [.ref (C.2.1 i), x0, x1, x2, x3, x4] S (some (.int r)) S') (hd : decode cc pc = .ok (.invokevirtual idx, 3)) (hs : jsh i = (0, ci)) (hd' : d' + 1 ≤ d) (hr : (rest.map fun v => v.category).sum ≤ 8) (kk : J C E S' (pc + 3) lv (.int r :: rest)) : J C E S pc lv (x4 :: x3 :: x2 :: x1 :: x0 :: .ref (C.2.1 i) :: rest) := j_invV hE hc hM hd hs hd' rfl hr kk
theorem j_V5v (hE : Jok l C E own cc d) {y : MethodName} {bytes : ByteArray} {nL' : Nat} {ret : Option FieldType} {d' idx ci i : Nat} {x0 x1 x2 x3 x4 : Value} {rest : List Value} {S' : Sto} (hc : CV own idx y bytes nL' ret 5 ci) (hM : Con l C y bytes nL' ret d' [.ref (C.2.1 i), x0, x1, x2, x3, x4] S none S') (hd : decode cc pc = .ok (.invokevirtual idx, 3)) (hs : jsh i = (0, ci)) (hd' : d' + 1 ≤ d) (hr : (rest.map fun v => v.category).sum ≤ 8) (kk : J C E S' (pc + 3) lv (rest)) : J C E S pc lv (x4 :: x3 :: x2 :: x1 :: x0 :: .ref (C.2.1 i) :: rest) := j_invV hE hc hM hd hs hd' rfl hr kk
theorem j_S6i (hE : Jok l C E own cc d) {y : MethodName} {bytes : ByteArray} {nL' : Nat} {ret : Option FieldType} {d' idx : Nat} {x0 x1 x2 x3 x4 x5 : Value} {rest : List Value} {r : Int32} {S' : Sto} (hc : CS own idx y bytes nL' ret 6) (hM : Con l C y bytes nL' ret d' [x0, x1, x2, x3, x4, x5] S (some (.int r)) S') (hd : decode cc pc = .ok (.invokestatic idx, 3)) (hd' : d' + 1 ≤ d) (hr : (rest.map fun v => v.category).sum ≤ 8) (kk : J C E S' (pc + 3) lv (.int r :: rest)) : J C E S pc lv (x5 :: x4 :: x3 :: x2 :: x1 :: x0 :: rest) := j_invS hE hc hM hd hd' rfl hr kk
theorem j_S6v (hE : Jok l C E own cc d) {y : MethodName} {bytes : ByteArray} {nL' : Nat} {ret : Option FieldType} {d' idx : Nat} {x0 x1 x2 x3 x4 x5 : Value} {rest : List Value} {S' : Sto} (hc : CS own idx y bytes nL' ret 6) (hM : Con l C y bytes nL' ret d' [x0, x1, x2, x3, x4, x5] S none S') (hd : decode cc pc = .ok (.invokestatic idx, 3)) (hd' : d' + 1 ≤ d) (hr : (rest.map fun v => v.category).sum ≤ 8) (kk : J C E S' (pc + 3) lv (rest)) : J C E S pc lv (x5 :: x4 :: x3 :: x2 :: x1 :: x0 :: rest) := j_invS hE hc hM hd hd' rfl hr kk
theorem j_SN6i (hE : Jok l C E own cc d) {y : MethodName} {bytes : ByteArray} {nL' : Nat} {ret : Option FieldType} {d' idx : Nat} {x0 x1 x2 x3 x4 x5 : Value} {rest : List Value} {r : Int32} {S' : Sto} (hc : CSN own idx y bytes nL' ret 6) (hM : Con l C y bytes nL' ret d' [x0, x1, x2, x3, x4, x5] S (some (.int r)) S') (hd : decode cc pc = .ok (.invokestatic idx, 3)) (hd' : d' + 1 ≤ d) (hr : (rest.map fun v => v.category).sum ≤ 8) (kk : J C E S' (pc + 3) lv (.int r :: rest)) : J C E S pc lv (x5 :: x4 :: x3 :: x2 :: x1 :: x0 :: rest) := j_invSN hE hc hM hd hd' rfl hr kk
theorem j_SN6v (hE : Jok l C E own cc d) {y : MethodName} {bytes : ByteArray} {nL' : Nat} {ret : Option FieldType} {d' idx : Nat} {x0 x1 x2 x3 x4 x5 : Value} {rest : List Value} {S' : Sto} (hc : CSN own idx y bytes nL' ret 6) (hM : Con l C y bytes nL' ret d' [x0, x1, x2, x3, x4, x5] S none S') (hd : decode cc pc = .ok (.invokestatic idx, 3)) (hd' : d' + 1 ≤ d) (hr : (rest.map fun v => v.category).sum ≤ 8) (kk : J C E S' (pc + 3) lv (rest)) : J C E S pc lv (x5 :: x4 :: x3 :: x2 :: x1 :: x0 :: rest) := j_invSN hE hc hM hd hd' rfl hr kk
theorem j_V6i (hE : Jok l C E own cc d) {y : MethodName} {bytes : ByteArray} {nL' : Nat} {ret : Option FieldType} {d' idx ci i : Nat} {x0 x1 x2 x3 x4 x5 : Value} {rest : List Value} {r : Int32} {S' : Sto} (hc : CV own idx y bytes nL' ret 6 ci) (hM : Con l C y bytes nL' ret d' [.ref (C.2.1 i), x0, x1, x2, x3, x4, x5] S (some (.int r)) S') (hd : decode cc pc = .ok (.invokevirtual idx, 3)) (hs : jsh i = (0, ci)) (hd' : d' + 1 ≤ d) (hr : (rest.map fun v => v.category).sum ≤ 8) (kk : J C E S' (pc + 3) lv (.int r :: rest)) : J C E S pc lv (x5 :: x4 :: x3 :: x2 :: x1 :: x0 :: .ref (C.2.1 i) :: rest) := j_invV hE hc hM hd hs hd' rfl hr kk
theorem j_V6v (hE : Jok l C E own cc d) {y : MethodName} {bytes : ByteArray} {nL' : Nat} {ret : Option FieldType} {d' idx ci i : Nat} {x0 x1 x2 x3 x4 x5 : Value} {rest : List Value} {S' : Sto} (hc : CV own idx y bytes nL' ret 6 ci) (hM : Con l C y bytes nL' ret d' [.ref (C.2.1 i), x0, x1, x2, x3, x4, x5] S none S') (hd : decode cc pc = .ok (.invokevirtual idx, 3)) (hs : jsh i = (0, ci)) (hd' : d' + 1 ≤ d) (hr : (rest.map fun v => v.category).sum ≤ 8) (kk : J C E S' (pc + 3) lv (rest)) : J C E S pc lv (x5 :: x4 :: x3 :: x2 :: x1 :: x0 :: .ref (C.2.1 i) :: rest) := j_invV hE hc hM hd hs hd' rfl hr kk
end HRows
end
section
set_option maxRecDepth 20000 in
theorem fX8_9 : FL RX8 9 7 0 true := ⟨by decide, by decide, rfl, wt_mem 88 (by decide +kernel) rfl⟩
set_option maxRecDepth 20000 in
theorem fX8_19 : FL RX8 19 7 1 false := ⟨by decide, by decide, rfl, wt_mem 89 (by decide +kernel) rfl⟩
set_option maxRecDepth 20000 in
theorem pX8_19 : FP RX8 19 7 1 .int := ⟨fX8_19, rfl, by decide +kernel⟩
set_option maxRecDepth 20000 in
theorem fX10_126 : FL RX10 126 7 1 false := ⟨by decide, by decide, rfl, wt_mem 90 (by decide +kernel) rfl⟩
set_option maxRecDepth 20000 in
theorem pX10_126 : FP RX10 126 7 1 .int := ⟨fX10_126, rfl, by decide +kernel⟩
set_option maxRecDepth 20000 in
theorem fX8_30 : FL RX8 30 7 2 false := ⟨by decide, by decide, rfl, wt_mem 91 (by decide +kernel) rfl⟩
set_option maxRecDepth 20000 in
theorem pX8_30 : FP RX8 30 7 2 .int := ⟨fX8_30, rfl, by decide +kernel⟩
set_option maxRecDepth 20000 in
theorem fX10_88 : FL RX10 88 7 2 false := ⟨by decide, by decide, rfl, wt_mem 92 (by decide +kernel) rfl⟩
set_option maxRecDepth 20000 in
theorem pX10_88 : FP RX10 88 7 2 .int := ⟨fX10_88, rfl, by decide +kernel⟩
set_option maxRecDepth 20000 in
theorem fX8_15 : FL RX8 15 7 3 false := ⟨by decide, by decide, rfl, wt_mem 93 (by decide +kernel) rfl⟩
set_option maxRecDepth 20000 in
theorem pX8_15 : FP RX8 15 7 3 .int := ⟨fX8_15, rfl, by decide +kernel⟩
set_option maxRecDepth 20000 in
theorem fX10_108 : FL RX10 108 7 3 false := ⟨by decide, by decide, rfl, wt_mem 94 (by decide +kernel) rfl⟩
set_option maxRecDepth 20000 in
theorem pX10_108 : FP RX10 108 7 3 .int := ⟨fX10_108, rfl, by decide +kernel⟩
set_option maxRecDepth 20000 in
theorem fX8_27 : FL RX8 27 7 4 false := ⟨by decide, by decide, rfl, wt_mem 95 (by decide +kernel) rfl⟩
set_option maxRecDepth 20000 in
theorem pX8_27 : FP RX8 27 7 4 .int := ⟨fX8_27, rfl, by decide +kernel⟩
set_option maxRecDepth 20000 in
theorem fX8_107 : FL RX8 107 7 5 false := ⟨by decide, by decide, rfl, wt_mem 96 (by decide +kernel) rfl⟩
set_option maxRecDepth 20000 in
theorem pX8_107 : FP RX8 107 7 5 .int := ⟨fX8_107, rfl, by decide +kernel⟩
set_option maxRecDepth 20000 in
theorem fX8_33 : FL RX8 33 7 6 false := ⟨by decide, by decide, rfl, wt_mem 97 (by decide +kernel) rfl⟩
set_option maxRecDepth 20000 in
theorem pX8_33 : FP RX8 33 7 6 .boolean := ⟨fX8_33, rfl, by decide +kernel⟩
set_option maxRecDepth 20000 in
theorem fX1_9 : FL RX1 9 1 0 true := ⟨by decide, by decide, rfl, wt_mem 120 (by decide +kernel) rfl⟩
set_option maxRecDepth 20000 in
theorem fX3_37 : FL RX3 37 1 0 true := ⟨by decide, by decide, rfl, wt_mem 121 (by decide +kernel) rfl⟩
set_option maxRecDepth 20000 in
theorem fX0_27 : FL RX0 27 1 0 true := ⟨by decide, by decide, rfl, wt_mem 122 (by decide +kernel) rfl⟩
set_option maxRecDepth 20000 in
theorem fX10_177 : FL RX10 177 1 0 true := ⟨by decide, by decide, rfl, wt_mem 123 (by decide +kernel) rfl⟩
set_option maxRecDepth 20000 in
theorem fX1_15 : FL RX1 15 1 1 true := ⟨by decide, by decide, rfl, wt_mem 124 (by decide +kernel) rfl⟩
set_option maxRecDepth 20000 in
theorem fX3_28 : FL RX3 28 1 1 true := ⟨by decide, by decide, rfl, wt_mem 125 (by decide +kernel) rfl⟩
set_option maxRecDepth 20000 in
theorem fX9_63 : FL RX9 63 1 1 true := ⟨by decide, by decide, rfl, wt_mem 126 (by decide +kernel) rfl⟩
set_option maxRecDepth 20000 in
theorem fX10_189 : FL RX10 189 1 1 true := ⟨by decide, by decide, rfl, wt_mem 127 (by decide +kernel) rfl⟩
set_option maxRecDepth 20000 in
theorem fX1_29 : FL RX1 29 1 2 false := ⟨by decide, by decide, rfl, wt_mem 128 (by decide +kernel) rfl⟩
set_option maxRecDepth 20000 in
theorem pX1_29 : FP RX1 29 1 2 .int := ⟨fX1_29, rfl, by decide +kernel⟩
set_option maxRecDepth 20000 in
theorem fX3_78 : FL RX3 78 1 2 false := ⟨by decide, by decide, rfl, wt_mem 129 (by decide +kernel) rfl⟩
set_option maxRecDepth 20000 in
theorem pX3_78 : FP RX3 78 1 2 .int := ⟨fX3_78, rfl, by decide +kernel⟩
set_option maxRecDepth 20000 in
theorem fX10_132 : FL RX10 132 1 2 false := ⟨by decide, by decide, rfl, wt_mem 130 (by decide +kernel) rfl⟩
set_option maxRecDepth 20000 in
theorem pX10_132 : FP RX10 132 1 2 .int := ⟨fX10_132, rfl, by decide +kernel⟩
set_option maxRecDepth 20000 in
theorem fX1_30 : FL RX1 30 1 3 false := ⟨by decide, by decide, rfl, wt_mem 131 (by decide +kernel) rfl⟩
set_option maxRecDepth 20000 in
theorem pX1_30 : FP RX1 30 1 3 .int := ⟨fX1_30, rfl, by decide +kernel⟩
set_option maxRecDepth 20000 in
theorem fX10_138 : FL RX10 138 1 3 false := ⟨by decide, by decide, rfl, wt_mem 132 (by decide +kernel) rfl⟩
set_option maxRecDepth 20000 in
theorem pX10_138 : FP RX10 138 1 3 .int := ⟨fX10_138, rfl, by decide +kernel⟩
set_option maxRecDepth 20000 in
theorem fX1_33 : FL RX1 33 1 4 false := ⟨by decide, by decide, rfl, wt_mem 133 (by decide +kernel) rfl⟩
set_option maxRecDepth 20000 in
theorem pX1_33 : FP RX1 33 1 4 .int := ⟨fX1_33, rfl, by decide +kernel⟩
set_option maxRecDepth 20000 in
theorem fX3_67 : FL RX3 67 1 4 false := ⟨by decide, by decide, rfl, wt_mem 134 (by decide +kernel) rfl⟩
set_option maxRecDepth 20000 in
theorem pX3_67 : FP RX3 67 1 4 .int := ⟨fX3_67, rfl, by decide +kernel⟩
set_option maxRecDepth 20000 in
theorem fX10_129 : FL RX10 129 1 4 false := ⟨by decide, by decide, rfl, wt_mem 135 (by decide +kernel) rfl⟩
set_option maxRecDepth 20000 in
theorem pX10_129 : FP RX10 129 1 4 .int := ⟨fX10_129, rfl, by decide +kernel⟩
set_option maxRecDepth 20000 in
theorem fX1_36 : FL RX1 36 1 5 false := ⟨by decide, by decide, rfl, wt_mem 136 (by decide +kernel) rfl⟩
set_option maxRecDepth 20000 in
theorem pX1_36 : FP RX1 36 1 5 .int := ⟨fX1_36, rfl, by decide +kernel⟩
set_option maxRecDepth 20000 in
theorem fX10_141 : FL RX10 141 1 5 false := ⟨by decide, by decide, rfl, wt_mem 137 (by decide +kernel) rfl⟩
set_option maxRecDepth 20000 in
theorem pX10_141 : FP RX10 141 1 5 .int := ⟨fX10_141, rfl, by decide +kernel⟩
set_option maxRecDepth 20000 in
theorem fX1_39 : FL RX1 39 1 6 false := ⟨by decide, by decide, rfl, wt_mem 138 (by decide +kernel) rfl⟩
set_option maxRecDepth 20000 in
theorem pX1_39 : FP RX1 39 1 6 .int := ⟨fX1_39, rfl, by decide +kernel⟩
set_option maxRecDepth 20000 in
theorem fX10_144 : FL RX10 144 1 6 false := ⟨by decide, by decide, rfl, wt_mem 139 (by decide +kernel) rfl⟩
set_option maxRecDepth 20000 in
theorem pX10_144 : FP RX10 144 1 6 .int := ⟨fX10_144, rfl, by decide +kernel⟩
set_option maxRecDepth 20000 in
theorem fX3_9 : FL RX3 9 3 0 true := ⟨by decide, by decide, rfl, wt_mem 161 (by decide +kernel) rfl⟩
set_option maxRecDepth 20000 in
theorem fX3_15 : FL RX3 15 3 1 true := ⟨by decide, by decide, rfl, wt_mem 162 (by decide +kernel) rfl⟩
set_option maxRecDepth 20000 in
theorem fX9_12 : FL RX9 12 8 0 true := ⟨by decide, by decide, rfl, wt_mem 179 (by decide +kernel) rfl⟩
set_option maxRecDepth 20000 in
theorem fX9_21 : FL RX9 21 8 1 true := ⟨by decide, by decide, rfl, wt_mem 180 (by decide +kernel) rfl⟩
set_option maxRecDepth 20000 in
theorem fX9_25 : FL RX9 25 8 2 true := ⟨by decide, by decide, rfl, wt_mem 181 (by decide +kernel) rfl⟩
set_option maxRecDepth 20000 in
theorem fX9_91 : FL RX9 91 8 3 false := ⟨by decide, by decide, rfl, wt_mem 182 (by decide +kernel) rfl⟩
set_option maxRecDepth 20000 in
theorem pX9_91 : FP RX9 91 8 3 .int := ⟨fX9_91, rfl, by decide +kernel⟩
set_option maxRecDepth 20000 in
theorem fX9_94 : FL RX9 94 8 4 false := ⟨by decide, by decide, rfl, wt_mem 183 (by decide +kernel) rfl⟩
set_option maxRecDepth 20000 in
theorem pX9_94 : FP RX9 94 8 4 .int := ⟨fX9_94, rfl, by decide +kernel⟩
set_option maxRecDepth 20000 in
theorem fX9_97 : FL RX9 97 8 5 false := ⟨by decide, by decide, rfl, wt_mem 184 (by decide +kernel) rfl⟩
set_option maxRecDepth 20000 in
theorem pX9_97 : FP RX9 97 8 5 .int := ⟨fX9_97, rfl, by decide +kernel⟩
set_option maxRecDepth 20000 in
theorem fX9_51 : FL RX9 51 8 6 false := ⟨by decide, by decide, rfl, wt_mem 185 (by decide +kernel) rfl⟩
set_option maxRecDepth 20000 in
theorem pX9_51 : FP RX9 51 8 6 .int := ⟨fX9_51, rfl, by decide +kernel⟩
set_option maxRecDepth 20000 in
theorem fX10_261 : FL RX10 261 8 6 false := ⟨by decide, by decide, rfl, wt_mem 186 (by decide +kernel) rfl⟩
set_option maxRecDepth 20000 in
theorem pX10_261 : FP RX10 261 8 6 .int := ⟨fX10_261, rfl, by decide +kernel⟩
set_option maxRecDepth 20000 in
theorem fX9_55 : FL RX9 55 8 7 false := ⟨by decide, by decide, rfl, wt_mem 187 (by decide +kernel) rfl⟩
set_option maxRecDepth 20000 in
theorem pX9_55 : FP RX9 55 8 7 .int := ⟨fX9_55, rfl, by decide +kernel⟩
set_option maxRecDepth 20000 in
theorem fX10_264 : FL RX10 264 8 7 false := ⟨by decide, by decide, rfl, wt_mem 188 (by decide +kernel) rfl⟩
set_option maxRecDepth 20000 in
theorem pX10_264 : FP RX10 264 8 7 .int := ⟨fX10_264, rfl, by decide +kernel⟩
set_option maxRecDepth 20000 in
theorem fX6_11 : FL RX6 11 5 0 true := ⟨by decide, by decide, rfl, wt_mem 214 (by decide +kernel) rfl⟩
set_option maxRecDepth 20000 in
theorem fX6_22 : FL RX6 22 5 1 false := ⟨by decide, by decide, rfl, wt_mem 215 (by decide +kernel) rfl⟩
set_option maxRecDepth 20000 in
theorem pX6_22 : FP RX6 22 5 1 .int := ⟨fX6_22, rfl, by decide +kernel⟩
set_option maxRecDepth 20000 in
theorem fX6_18 : FL RX6 18 5 2 false := ⟨by decide, by decide, rfl, wt_mem 216 (by decide +kernel) rfl⟩
set_option maxRecDepth 20000 in
theorem pX6_18 : FP RX6 18 5 2 .int := ⟨fX6_18, rfl, by decide +kernel⟩
set_option maxRecDepth 20000 in
theorem fX10_172 : FL RX10 172 5 2 false := ⟨by decide, by decide, rfl, wt_mem 217 (by decide +kernel) rfl⟩
set_option maxRecDepth 20000 in
theorem pX10_172 : FP RX10 172 5 2 .int := ⟨fX10_172, rfl, by decide +kernel⟩
set_option maxRecDepth 20000 in
theorem fX0_9 : FL RX0 9 0 0 true := ⟨by decide, by decide, rfl, wt_mem 231 (by decide +kernel) rfl⟩
set_option maxRecDepth 20000 in
theorem fX0_15 : FL RX0 15 0 1 true := ⟨by decide, by decide, rfl, wt_mem 232 (by decide +kernel) rfl⟩
set_option maxRecDepth 20000 in
theorem fX0_18 : FL RX0 18 0 2 false := ⟨by decide, by decide, rfl, wt_mem 233 (by decide +kernel) rfl⟩
set_option maxRecDepth 20000 in
theorem pX0_18 : FP RX0 18 0 2 .int := ⟨fX0_18, rfl, by decide +kernel⟩
set_option maxRecDepth 20000 in
theorem fX10_171 : FL RX10 171 0 2 false := ⟨by decide, by decide, rfl, wt_mem 234 (by decide +kernel) rfl⟩
set_option maxRecDepth 20000 in
theorem pX10_171 : FP RX10 171 0 2 .int := ⟨fX10_171, rfl, by decide +kernel⟩
set_option maxRecDepth 20000 in
theorem fX2_7 : FL RX2 7 2 0 false := ⟨by decide, by decide, rfl, wt_mem 248 (by decide +kernel) rfl⟩
set_option maxRecDepth 20000 in
theorem pX2_7 : FP RX2 7 2 0 .int := ⟨fX2_7, rfl, by decide +kernel⟩
set_option maxRecDepth 20000 in
theorem fX10_297 : FL RX10 297 2 0 false := ⟨by decide, by decide, rfl, wt_mem 249 (by decide +kernel) rfl⟩
set_option maxRecDepth 20000 in
theorem pX10_297 : FP RX10 297 2 0 .int := ⟨fX10_297, rfl, by decide +kernel⟩
set_option maxRecDepth 20000 in
theorem fX7_9 : FL RX7 9 6 0 true := ⟨by decide, by decide, rfl, wt_mem 261 (by decide +kernel) rfl⟩
set_option maxRecDepth 20000 in
theorem fX1_18 : FL RX1 18 6 0 true := ⟨by decide, by decide, rfl, wt_mem 262 (by decide +kernel) rfl⟩
set_option maxRecDepth 20000 in
theorem fX7_15 : FL RX7 15 6 1 true := ⟨by decide, by decide, rfl, wt_mem 263 (by decide +kernel) rfl⟩
set_option maxRecDepth 20000 in
theorem fX3_91 : FL RX3 91 6 1 true := ⟨by decide, by decide, rfl, wt_mem 264 (by decide +kernel) rfl⟩
set_option maxRecDepth 20000 in
theorem fX10_195 : FL RX10 195 6 1 true := ⟨by decide, by decide, rfl, wt_mem 265 (by decide +kernel) rfl⟩
set_option maxRecDepth 20000 in
theorem fX7_18 : FL RX7 18 6 2 true := ⟨by decide, by decide, rfl, wt_mem 266 (by decide +kernel) rfl⟩
set_option maxRecDepth 20000 in
theorem fX3_94 : FL RX3 94 6 2 true := ⟨by decide, by decide, rfl, wt_mem 267 (by decide +kernel) rfl⟩
set_option maxRecDepth 20000 in
theorem fX10_198 : FL RX10 198 6 2 true := ⟨by decide, by decide, rfl, wt_mem 268 (by decide +kernel) rfl⟩
set_option maxRecDepth 20000 in
theorem fX7_21 : FL RX7 21 6 3 true := ⟨by decide, by decide, rfl, wt_mem 269 (by decide +kernel) rfl⟩
set_option maxRecDepth 20000 in
theorem fX10_207 : FL RX10 207 6 3 true := ⟨by decide, by decide, rfl, wt_mem 270 (by decide +kernel) rfl⟩
set_option maxRecDepth 20000 in
theorem fX5_46 : FL RX5 46 6 3 true := ⟨by decide, by decide, rfl, wt_mem 271 (by decide +kernel) rfl⟩
set_option maxRecDepth 20000 in
theorem fX7_41 : FL RX7 41 6 4 false := ⟨by decide, by decide, rfl, wt_mem 272 (by decide +kernel) rfl⟩
set_option maxRecDepth 20000 in
theorem pX7_41 : FP RX7 41 6 4 .int := ⟨fX7_41, rfl, by decide +kernel⟩
set_option maxRecDepth 20000 in
theorem fX8_50 : FL RX8 50 6 4 false := ⟨by decide, by decide, rfl, wt_mem 273 (by decide +kernel) rfl⟩
set_option maxRecDepth 20000 in
theorem pX8_50 : FP RX8 50 6 4 .int := ⟨fX8_50, rfl, by decide +kernel⟩
set_option maxRecDepth 20000 in
theorem fX10_111 : FL RX10 111 6 4 false := ⟨by decide, by decide, rfl, wt_mem 274 (by decide +kernel) rfl⟩
set_option maxRecDepth 20000 in
theorem pX10_111 : FP RX10 111 6 4 .int := ⟨fX10_111, rfl, by decide +kernel⟩
set_option maxRecDepth 20000 in
theorem fX5_40 : FL RX5 40 6 4 false := ⟨by decide, by decide, rfl, wt_mem 275 (by decide +kernel) rfl⟩
set_option maxRecDepth 20000 in
theorem pX5_40 : FP RX5 40 6 4 .int := ⟨fX5_40, rfl, by decide +kernel⟩
set_option maxRecDepth 20000 in
theorem fX5_9 : FL RX5 9 6 5 false := ⟨by decide, by decide, rfl, wt_mem 276 (by decide +kernel) rfl⟩
set_option maxRecDepth 20000 in
theorem pX5_9 : FP RX5 9 6 5 .int := ⟨fX5_9, rfl, by decide +kernel⟩
set_option maxRecDepth 20000 in
theorem fX7_44 : FL RX7 44 6 5 false := ⟨by decide, by decide, rfl, wt_mem 277 (by decide +kernel) rfl⟩
set_option maxRecDepth 20000 in
theorem pX7_44 : FP RX7 44 6 5 .int := ⟨fX7_44, rfl, by decide +kernel⟩
set_option maxRecDepth 20000 in
theorem fX10_114 : FL RX10 114 6 5 false := ⟨by decide, by decide, rfl, wt_mem 278 (by decide +kernel) rfl⟩
set_option maxRecDepth 20000 in
theorem pX10_114 : FP RX10 114 6 5 .int := ⟨fX10_114, rfl, by decide +kernel⟩
set_option maxRecDepth 20000 in
theorem fX8_116 : FL RX8 116 6 5 false := ⟨by decide, by decide, rfl, wt_mem 279 (by decide +kernel) rfl⟩
set_option maxRecDepth 20000 in
theorem pX8_116 : FP RX8 116 6 5 .int := ⟨fX8_116, rfl, by decide +kernel⟩
set_option maxRecDepth 20000 in
theorem fX5_19 : FL RX5 19 6 6 false := ⟨by decide, by decide, rfl, wt_mem 280 (by decide +kernel) rfl⟩
set_option maxRecDepth 20000 in
theorem pX5_19 : FP RX5 19 6 6 .int := ⟨fX5_19, rfl, by decide +kernel⟩
set_option maxRecDepth 20000 in
theorem fX7_51 : FL RX7 51 6 6 false := ⟨by decide, by decide, rfl, wt_mem 281 (by decide +kernel) rfl⟩
set_option maxRecDepth 20000 in
theorem pX7_51 : FP RX7 51 6 6 .int := ⟨fX7_51, rfl, by decide +kernel⟩
set_option maxRecDepth 20000 in
theorem fX7_28 : FL RX7 28 6 7 false := ⟨by decide, by decide, rfl, wt_mem 282 (by decide +kernel) rfl⟩
set_option maxRecDepth 20000 in
theorem pX7_28 : FP RX7 28 6 7 .int := ⟨fX7_28, rfl, by decide +kernel⟩
set_option maxRecDepth 20000 in
theorem fX1_25 : FL RX1 25 6 7 false := ⟨by decide, by decide, rfl, wt_mem 283 (by decide +kernel) rfl⟩
set_option maxRecDepth 20000 in
theorem pX1_25 : FP RX1 25 6 7 .int := ⟨fX1_25, rfl, by decide +kernel⟩
set_option maxRecDepth 20000 in
theorem fX8_122 : FL RX8 122 6 7 false := ⟨by decide, by decide, rfl, wt_mem 284 (by decide +kernel) rfl⟩
set_option maxRecDepth 20000 in
theorem pX8_122 : FP RX8 122 6 7 .int := ⟨fX8_122, rfl, by decide +kernel⟩
set_option maxRecDepth 20000 in
theorem fX7_32 : FL RX7 32 6 8 false := ⟨by decide, by decide, rfl, wt_mem 285 (by decide +kernel) rfl⟩
set_option maxRecDepth 20000 in
theorem pX7_32 : FP RX7 32 6 8 .int := ⟨fX7_32, rfl, by decide +kernel⟩
set_option maxRecDepth 20000 in
theorem fX3_22 : FL RX3 22 6 8 false := ⟨by decide, by decide, rfl, wt_mem 286 (by decide +kernel) rfl⟩
set_option maxRecDepth 20000 in
theorem pX3_22 : FP RX3 22 6 8 .int := ⟨fX3_22, rfl, by decide +kernel⟩
set_option maxRecDepth 20000 in
theorem fX10_117 : FL RX10 117 6 8 false := ⟨by decide, by decide, rfl, wt_mem 287 (by decide +kernel) rfl⟩
set_option maxRecDepth 20000 in
theorem pX10_117 : FP RX10 117 6 8 .int := ⟨fX10_117, rfl, by decide +kernel⟩
set_option maxRecDepth 20000 in
theorem fX8_87 : FL RX8 87 6 8 false := ⟨by decide, by decide, rfl, wt_mem 288 (by decide +kernel) rfl⟩
set_option maxRecDepth 20000 in
theorem pX8_87 : FP RX8 87 6 8 .int := ⟨fX8_87, rfl, by decide +kernel⟩
set_option maxRecDepth 20000 in
theorem fX7_35 : FL RX7 35 6 9 false := ⟨by decide, by decide, rfl, wt_mem 289 (by decide +kernel) rfl⟩
set_option maxRecDepth 20000 in
theorem pX7_35 : FP RX7 35 6 9 .int := ⟨fX7_35, rfl, by decide +kernel⟩
set_option maxRecDepth 20000 in
theorem fX3_84 : FL RX3 84 6 9 false := ⟨by decide, by decide, rfl, wt_mem 290 (by decide +kernel) rfl⟩
set_option maxRecDepth 20000 in
theorem pX3_84 : FP RX3 84 6 9 .int := ⟨fX3_84, rfl, by decide +kernel⟩
set_option maxRecDepth 20000 in
theorem fX10_120 : FL RX10 120 6 9 false := ⟨by decide, by decide, rfl, wt_mem 291 (by decide +kernel) rfl⟩
set_option maxRecDepth 20000 in
theorem pX10_120 : FP RX10 120 6 9 .int := ⟨fX10_120, rfl, by decide +kernel⟩
set_option maxRecDepth 20000 in
theorem fX8_97 : FL RX8 97 6 9 false := ⟨by decide, by decide, rfl, wt_mem 292 (by decide +kernel) rfl⟩
set_option maxRecDepth 20000 in
theorem pX8_97 : FP RX8 97 6 9 .int := ⟨fX8_97, rfl, by decide +kernel⟩
set_option maxRecDepth 20000 in
theorem fX7_38 : FL RX7 38 6 10 false := ⟨by decide, by decide, rfl, wt_mem 293 (by decide +kernel) rfl⟩
set_option maxRecDepth 20000 in
theorem pX7_38 : FP RX7 38 6 10 .int := ⟨fX7_38, rfl, by decide +kernel⟩
set_option maxRecDepth 20000 in
theorem fX10_123 : FL RX10 123 6 10 false := ⟨by decide, by decide, rfl, wt_mem 294 (by decide +kernel) rfl⟩
set_option maxRecDepth 20000 in
theorem pX10_123 : FP RX10 123 6 10 .int := ⟨fX10_123, rfl, by decide +kernel⟩
set_option maxRecDepth 20000 in
theorem fX8_113 : FL RX8 113 6 10 false := ⟨by decide, by decide, rfl, wt_mem 295 (by decide +kernel) rfl⟩
set_option maxRecDepth 20000 in
theorem pX8_113 : FP RX8 113 6 10 .int := ⟨fX8_113, rfl, by decide +kernel⟩
set_option maxRecDepth 20000 in
theorem fX5_43 : FL RX5 43 6 10 false := ⟨by decide, by decide, rfl, wt_mem 296 (by decide +kernel) rfl⟩
set_option maxRecDepth 20000 in
theorem pX5_43 : FP RX5 43 6 10 .int := ⟨fX5_43, rfl, by decide +kernel⟩
set_option maxRecDepth 20000 in
theorem fX4_10 : FL RX4 10 4 0 true := ⟨by decide, by decide, rfl, wt_mem 327 (by decide +kernel) rfl⟩
set_option maxRecDepth 20000 in
theorem fX10_300 : FL RX10 300 4 0 true := ⟨by decide, by decide, rfl, wt_mem 328 (by decide +kernel) rfl⟩
set_option maxRecDepth 20000 in
theorem fX10_306 : FL RX10 306 4 1 false := ⟨by decide, by decide, rfl, wt_mem 329 (by decide +kernel) rfl⟩
set_option maxRecDepth 20000 in
theorem pX10_306 : FP RX10 306 4 1 .int := ⟨fX10_306, rfl, by decide +kernel⟩
set_option maxRecDepth 20000 in
theorem fX10_100 : FL RX10 100 4 2 false := ⟨by decide, by decide, rfl, wt_mem 330 (by decide +kernel) rfl⟩
set_option maxRecDepth 20000 in
theorem pX10_100 : FP RX10 100 4 2 .boolean := ⟨fX10_100, rfl, by decide +kernel⟩
set_option maxRecDepth 20000 in
theorem fX10_10 : FL RX10 10 9 0 true := ⟨by decide, by decide, rfl, wt_mem 338 (by decide +kernel) rfl⟩
set_option maxRecDepth 20000 in
theorem fX10_19 : FL RX10 19 9 1 true := ⟨by decide, by decide, rfl, wt_mem 339 (by decide +kernel) rfl⟩
set_option maxRecDepth 20000 in
theorem fX10_26 : FL RX10 26 9 2 true := ⟨by decide, by decide, rfl, wt_mem 340 (by decide +kernel) rfl⟩
set_option maxRecDepth 20000 in
theorem fX10_33 : FL RX10 33 9 3 true := ⟨by decide, by decide, rfl, wt_mem 341 (by decide +kernel) rfl⟩
set_option maxRecDepth 20000 in
theorem fX10_40 : FL RX10 40 9 4 true := ⟨by decide, by decide, rfl, wt_mem 342 (by decide +kernel) rfl⟩
set_option maxRecDepth 20000 in
theorem fX10_47 : FL RX10 47 9 5 true := ⟨by decide, by decide, rfl, wt_mem 343 (by decide +kernel) rfl⟩
set_option maxRecDepth 20000 in
theorem fX10_54 : FL RX10 54 9 6 true := ⟨by decide, by decide, rfl, wt_mem 344 (by decide +kernel) rfl⟩
set_option maxRecDepth 20000 in
theorem fX10_60 : FL RX10 60 9 7 true := ⟨by decide, by decide, rfl, wt_mem 345 (by decide +kernel) rfl⟩
set_option maxRecDepth 20000 in
theorem fX10_67 : FL RX10 67 9 8 true := ⟨by decide, by decide, rfl, wt_mem 346 (by decide +kernel) rfl⟩
set_option maxRecDepth 20000 in
theorem fX10_71 : FL RX10 71 9 9 true := ⟨by decide, by decide, rfl, wt_mem 347 (by decide +kernel) rfl⟩
set_option maxRecDepth 20000 in
theorem fX11_72 : FL RX11 72 10 0 false := ⟨by decide, by decide, rfl, wt_mem 845 (by decide +kernel) rfl⟩
set_option maxRecDepth 20000 in
theorem pX11_72 : FP RX11 72 10 0 .int := ⟨fX11_72, rfl, by decide +kernel⟩
set_option maxRecDepth 20000 in
theorem fX11_75 : FL RX11 75 10 1 false := ⟨by decide, by decide, rfl, wt_mem 846 (by decide +kernel) rfl⟩
set_option maxRecDepth 20000 in
theorem pX11_75 : FP RX11 75 10 1 .int := ⟨fX11_75, rfl, by decide +kernel⟩
set_option maxRecDepth 20000 in
theorem fX11_86 : FL RX11 86 10 2 false := ⟨by decide, by decide, rfl, wt_mem 847 (by decide +kernel) rfl⟩
set_option maxRecDepth 20000 in
theorem pX11_86 : FP RX11 86 10 2 .int := ⟨fX11_86, rfl, by decide +kernel⟩
set_option maxRecDepth 20000 in
theorem fX11_7 : FL RX11 7 10 3 true := ⟨by decide, by decide, rfl, wt_mem 848 (by decide +kernel) rfl⟩
set_option maxRecDepth 20000 in
theorem fX11_89 : FL RX11 89 10 4 false := ⟨by decide, by decide, rfl, wt_mem 849 (by decide +kernel) rfl⟩
set_option maxRecDepth 20000 in
theorem pX11_89 : FP RX11 89 10 4 .int := ⟨fX11_89, rfl, by decide +kernel⟩
set_option maxRecDepth 20000 in
theorem fX11_13 : FL RX11 13 10 5 true := ⟨by decide, by decide, rfl, wt_mem 850 (by decide +kernel) rfl⟩
set_option maxRecDepth 20000 in
theorem fX11_16 : FL RX11 16 10 6 true := ⟨by decide, by decide, rfl, wt_mem 851 (by decide +kernel) rfl⟩
set_option maxRecDepth 20000 in
theorem fX11_92 : FL RX11 92 10 7 false := ⟨by decide, by decide, rfl, wt_mem 852 (by decide +kernel) rfl⟩
set_option maxRecDepth 20000 in
theorem pX11_92 : FP RX11 92 10 7 .int := ⟨fX11_92, rfl, by decide +kernel⟩
set_option maxRecDepth 20000 in
theorem fX11_19 : FL RX11 19 10 8 true := ⟨by decide, by decide, rfl, wt_mem 853 (by decide +kernel) rfl⟩
set_option maxRecDepth 20000 in
theorem fX11_185 : FL RX11 185 10 9 false := ⟨by decide, by decide, rfl, wt_mem 854 (by decide +kernel) rfl⟩
set_option maxRecDepth 20000 in
theorem pX11_185 : FP RX11 185 10 9 .int := ⟨fX11_185, rfl, by decide +kernel⟩
set_option maxRecDepth 20000 in
theorem fX11_22 : FL RX11 22 10 10 true := ⟨by decide, by decide, rfl, wt_mem 855 (by decide +kernel) rfl⟩
set_option maxRecDepth 20000 in
theorem fX11_281 : FL RX11 281 10 11 false := ⟨by decide, by decide, rfl, wt_mem 856 (by decide +kernel) rfl⟩
set_option maxRecDepth 20000 in
theorem pX11_281 : FP RX11 281 10 11 .int := ⟨fX11_281, rfl, by decide +kernel⟩
set_option maxRecDepth 20000 in
theorem fX11_25 : FL RX11 25 10 12 true := ⟨by decide, by decide, rfl, wt_mem 857 (by decide +kernel) rfl⟩
set_option maxRecDepth 20000 in
theorem fX11_98 : FL RX11 98 10 13 false := ⟨by decide, by decide, rfl, wt_mem 858 (by decide +kernel) rfl⟩
set_option maxRecDepth 20000 in
theorem pX11_98 : FP RX11 98 10 13 .int := ⟨fX11_98, rfl, by decide +kernel⟩
set_option maxRecDepth 20000 in
theorem fX11_28 : FL RX11 28 10 14 false := ⟨by decide, by decide, rfl, wt_mem 859 (by decide +kernel) rfl⟩
set_option maxRecDepth 20000 in
theorem pX11_28 : FP RX11 28 10 14 .int := ⟨fX11_28, rfl, by decide +kernel⟩
set_option maxRecDepth 20000 in
theorem fX11_102 : FL RX11 102 10 15 false := ⟨by decide, by decide, rfl, wt_mem 860 (by decide +kernel) rfl⟩
set_option maxRecDepth 20000 in
theorem pX11_102 : FP RX11 102 10 15 .int := ⟨fX11_102, rfl, by decide +kernel⟩
set_option maxRecDepth 20000 in
theorem fX11_119 : FL RX11 119 10 16 false := ⟨by decide, by decide, rfl, wt_mem 861 (by decide +kernel) rfl⟩
set_option maxRecDepth 20000 in
theorem pX11_119 : FP RX11 119 10 16 .int := ⟨fX11_119, rfl, by decide +kernel⟩
set_option maxRecDepth 20000 in
theorem fX11_116 : FL RX11 116 10 17 false := ⟨by decide, by decide, rfl, wt_mem 862 (by decide +kernel) rfl⟩
set_option maxRecDepth 20000 in
theorem pX11_116 : FP RX11 116 10 17 .int := ⟨fX11_116, rfl, by decide +kernel⟩
set_option maxRecDepth 20000 in
theorem fX11_125 : FL RX11 125 10 18 false := ⟨by decide, by decide, rfl, wt_mem 863 (by decide +kernel) rfl⟩
set_option maxRecDepth 20000 in
theorem pX11_125 : FP RX11 125 10 18 .int := ⟨fX11_125, rfl, by decide +kernel⟩
set_option maxRecDepth 20000 in
theorem fX11_128 : FL RX11 128 10 19 false := ⟨by decide, by decide, rfl, wt_mem 864 (by decide +kernel) rfl⟩
set_option maxRecDepth 20000 in
theorem pX11_128 : FP RX11 128 10 19 .int := ⟨fX11_128, rfl, by decide +kernel⟩
set_option maxRecDepth 20000 in
theorem fX11_131 : FL RX11 131 10 20 false := ⟨by decide, by decide, rfl, wt_mem 865 (by decide +kernel) rfl⟩
set_option maxRecDepth 20000 in
theorem pX11_131 : FP RX11 131 10 20 .int := ⟨fX11_131, rfl, by decide +kernel⟩
set_option maxRecDepth 20000 in
theorem fX11_32 : FL RX11 32 10 21 true := ⟨by decide, by decide, rfl, wt_mem 866 (by decide +kernel) rfl⟩
set_option maxRecDepth 20000 in
theorem fX11_141 : FL RX11 141 10 22 false := ⟨by decide, by decide, rfl, wt_mem 867 (by decide +kernel) rfl⟩
set_option maxRecDepth 20000 in
theorem pX11_141 : FP RX11 141 10 22 .int := ⟨fX11_141, rfl, by decide +kernel⟩
set_option maxRecDepth 20000 in
theorem fX11_35 : FL RX11 35 10 23 true := ⟨by decide, by decide, rfl, wt_mem 868 (by decide +kernel) rfl⟩
set_option maxRecDepth 20000 in
theorem fX11_38 : FL RX11 38 10 24 true := ⟨by decide, by decide, rfl, wt_mem 869 (by decide +kernel) rfl⟩
set_option maxRecDepth 20000 in
theorem fX11_152 : FL RX11 152 10 25 false := ⟨by decide, by decide, rfl, wt_mem 870 (by decide +kernel) rfl⟩
set_option maxRecDepth 20000 in
theorem pX11_152 : FP RX11 152 10 25 .int := ⟨fX11_152, rfl, by decide +kernel⟩
set_option maxRecDepth 20000 in
theorem fX11_41 : FL RX11 41 10 26 true := ⟨by decide, by decide, rfl, wt_mem 871 (by decide +kernel) rfl⟩
set_option maxRecDepth 20000 in
theorem fX11_155 : FL RX11 155 10 27 false := ⟨by decide, by decide, rfl, wt_mem 872 (by decide +kernel) rfl⟩
set_option maxRecDepth 20000 in
theorem pX11_155 : FP RX11 155 10 27 .boolean := ⟨fX11_155, rfl, by decide +kernel⟩
set_option maxRecDepth 20000 in
theorem fX11_159 : FL RX11 159 10 28 false := ⟨by decide, by decide, rfl, wt_mem 873 (by decide +kernel) rfl⟩
set_option maxRecDepth 20000 in
theorem pX11_159 : FP RX11 159 10 28 .int := ⟨fX11_159, rfl, by decide +kernel⟩
set_option maxRecDepth 20000 in
theorem fX11_44 : FL RX11 44 10 29 true := ⟨by decide, by decide, rfl, wt_mem 874 (by decide +kernel) rfl⟩
set_option maxRecDepth 20000 in
theorem fX11_47 : FL RX11 47 10 30 true := ⟨by decide, by decide, rfl, wt_mem 875 (by decide +kernel) rfl⟩
set_option maxRecDepth 20000 in
theorem fX11_50 : FL RX11 50 10 31 true := ⟨by decide, by decide, rfl, wt_mem 876 (by decide +kernel) rfl⟩
set_option maxRecDepth 20000 in
theorem fX11_201 : FL RX11 201 10 32 false := ⟨by decide, by decide, rfl, wt_mem 877 (by decide +kernel) rfl⟩
set_option maxRecDepth 20000 in
theorem pX11_201 : FP RX11 201 10 32 .int := ⟨fX11_201, rfl, by decide +kernel⟩
set_option maxRecDepth 20000 in
theorem fX11_53 : FL RX11 53 10 33 true := ⟨by decide, by decide, rfl, wt_mem 878 (by decide +kernel) rfl⟩
set_option maxRecDepth 20000 in
theorem fX11_56 : FL RX11 56 10 34 true := ⟨by decide, by decide, rfl, wt_mem 879 (by decide +kernel) rfl⟩
set_option maxRecDepth 20000 in
theorem fX11_198 : FL RX11 198 10 35 false := ⟨by decide, by decide, rfl, wt_mem 880 (by decide +kernel) rfl⟩
set_option maxRecDepth 20000 in
theorem pX11_198 : FP RX11 198 10 35 .int := ⟨fX11_198, rfl, by decide +kernel⟩
set_option maxRecDepth 20000 in
theorem fX11_59 : FL RX11 59 10 36 true := ⟨by decide, by decide, rfl, wt_mem 881 (by decide +kernel) rfl⟩
set_option maxRecDepth 20000 in
theorem fX11_62 : FL RX11 62 10 37 true := ⟨by decide, by decide, rfl, wt_mem 882 (by decide +kernel) rfl⟩
set_option maxRecDepth 20000 in
theorem fX11_65 : FL RX11 65 10 38 true := ⟨by decide, by decide, rfl, wt_mem 883 (by decide +kernel) rfl⟩
set_option maxRecDepth 20000 in
theorem fX11_68 : FL RX11 68 10 39 true := ⟨by decide, by decide, rfl, wt_mem 884 (by decide +kernel) rfl⟩
set_option maxRecDepth 20000 in
theorem cbX10_feed : CB yX10_feed cX10_feed 2 (some .int) 1 := ⟨wt_mem 372 (by decide +kernel) rfl, wt_mem 59 (by decide +kernel) rfl, by decide +kernel, by decide⟩
set_option maxRecDepth 20000 in
theorem cbX10_outside : CB yX10_outside cX10_outside 3 (some .boolean) 3 := ⟨wt_mem 375 (by decide +kernel) rfl, wt_mem 59 (by decide +kernel) rfl, by decide +kernel, by decide⟩
set_option maxRecDepth 20000 in
theorem cbX8_add : CB yX8_add cX8_add 2 (some .int) 1 := ⟨wt_mem 380 (by decide +kernel) rfl, wt_mem 60 (by decide +kernel) rfl, by decide +kernel, by decide⟩
set_option maxRecDepth 20000 in
theorem cbX10_put : CB yX10_put cX10_put 3 none 3 := ⟨wt_mem 384 (by decide +kernel) rfl, wt_mem 59 (by decide +kernel) rfl, by decide +kernel, by decide⟩
set_option maxRecDepth 20000 in
theorem cbX10_wall : CB yX10_wall cX10_wall 3 (some .int) 0 := ⟨wt_mem 388 (by decide +kernel) rfl, wt_mem 59 (by decide +kernel) rfl, by decide +kernel, by decide⟩
set_option maxRecDepth 20000 in
theorem cbX8_read : CB yX8_read cX8_read 3 (some .boolean) 1 := ⟨wt_mem 392 (by decide +kernel) rfl, wt_mem 60 (by decide +kernel) rfl, by decide +kernel, by decide⟩
set_option maxRecDepth 20000 in
theorem cbX7_clear : CB yX7_clear cX7_clear 1 none 0 := ⟨wt_mem 396 (by decide +kernel) rfl, wt_mem 67 (by decide +kernel) rfl, by decide +kernel, by decide⟩
set_option maxRecDepth 20000 in
theorem cbX7_resize : CB yX7_resize cX7_resize 4 none 2 := ⟨wt_mem 400 (by decide +kernel) rfl, wt_mem 67 (by decide +kernel) rfl, by decide +kernel, by decide⟩
set_option maxRecDepth 20000 in
theorem cbX8_peek : CB yX8_peek cX8_peek 1 (some .int) 0 := ⟨wt_mem 404 (by decide +kernel) rfl, wt_mem 60 (by decide +kernel) rfl, by decide +kernel, by decide⟩
set_option maxRecDepth 20000 in
theorem cbX10_pick : CB yX10_pick cX10_pick 2 (some .int) 2 := ⟨wt_mem 407 (by decide +kernel) rfl, wt_mem 59 (by decide +kernel) rfl, by decide +kernel, by decide⟩
set_option maxRecDepth 20000 in
theorem cbX8_readClause : CB yX8_readClause cX8_readClause 3 none 1 := ⟨wt_mem 411 (by decide +kernel) rfl, wt_mem 60 (by decide +kernel) rfl, by decide +kernel, by decide⟩
set_option maxRecDepth 20000 in
theorem cbX8_fail : CB yX8_fail cX8_fail 3 none 2 := ⟨wt_mem 415 (by decide +kernel) rfl, wt_mem 60 (by decide +kernel) rfl, by decide +kernel, by decide⟩
set_option maxRecDepth 20000 in
theorem cbX8_readSize : CB yX8_readSize cX8_readSize 4 none 1 := ⟨wt_mem 419 (by decide +kernel) rfl, wt_mem 60 (by decide +kernel) rfl, by decide +kernel, by decide⟩
set_option maxRecDepth 20000 in
theorem cbX8_takeWord : CB yX8_takeWord cX8_takeWord 2 none 1 := ⟨wt_mem 423 (by decide +kernel) rfl, wt_mem 60 (by decide +kernel) rfl, by decide +kernel, by decide⟩
set_option maxRecDepth 20000 in
theorem cbX8_takeNumber : CB yX8_takeNumber cX8_takeNumber 4 (some .int) 2 := ⟨wt_mem 427 (by decide +kernel) rfl, wt_mem 60 (by decide +kernel) rfl, by decide +kernel, by decide⟩
set_option maxRecDepth 20000 in
theorem cbX8_isFigure : CB yX8_isFigure cX8_isFigure 1 (some .boolean) 1 := ⟨wt_mem 430 (by decide +kernel) rfl, wt_mem 60 (by decide +kernel) rfl, by decide +kernel, by decide⟩
set_option maxRecDepth 20000 in
theorem cbX8_takeSign : CB yX8_takeSign cX8_takeSign 2 (some .boolean) 1 := ⟨wt_mem 435 (by decide +kernel) rfl, wt_mem 60 (by decide +kernel) rfl, by decide +kernel, by decide⟩
set_option maxRecDepth 20000 in
theorem cbX8_readLeak : CB yX8_readLeak cX8_readLeak 3 none 1 := ⟨wt_mem 440 (by decide +kernel) rfl, wt_mem 60 (by decide +kernel) rfl, by decide +kernel, by decide⟩
set_option maxRecDepth 20000 in
theorem cbX7_cells : CB yX7_cells cX7_cells 1 (some .int) 0 := ⟨wt_mem 444 (by decide +kernel) rfl, wt_mem 67 (by decide +kernel) rfl, by decide +kernel, by decide⟩
set_option maxRecDepth 20000 in
theorem cbX7_addLeak : CB yX7_addLeak cX7_addLeak 2 none 1 := ⟨wt_mem 448 (by decide +kernel) rfl, wt_mem 67 (by decide +kernel) rfl, by decide +kernel, by decide⟩
set_option maxRecDepth 20000 in
theorem cbX8_readCrack : CB yX8_readCrack cX8_readCrack 4 none 1 := ⟨wt_mem 453 (by decide +kernel) rfl, wt_mem 60 (by decide +kernel) rfl, by decide +kernel, by decide⟩
set_option maxRecDepth 20000 in
theorem cbX7_touch : CB yX7_touch cX7_touch 5 (some .boolean) 2 := ⟨wt_mem 457 (by decide +kernel) rfl, wt_mem 67 (by decide +kernel) rfl, by decide +kernel, by decide⟩
set_option maxRecDepth 20000 in
theorem cbJ9_min_7cf53 : CB yJ9_min_7cf53 cJ9_min_7cf53 2 (some .int) 2 := ⟨wt_mem 460 (by decide +kernel) rfl, wt_mem 70 (by decide +kernel) rfl, by decide +kernel, by decide⟩
set_option maxRecDepth 20000 in
theorem cbJ9_max_7cf53 : CB yJ9_max_7cf53 cJ9_max_7cf53 2 (some .int) 2 := ⟨wt_mem 463 (by decide +kernel) rfl, wt_mem 70 (by decide +kernel) rfl, by decide +kernel, by decide⟩
set_option maxRecDepth 20000 in
theorem cbX7_columnOf : CB yX7_columnOf cX7_columnOf 2 (some .int) 1 := ⟨wt_mem 467 (by decide +kernel) rfl, wt_mem 67 (by decide +kernel) rfl, by decide +kernel, by decide⟩
set_option maxRecDepth 20000 in
theorem cbX7_isCracked : CB yX7_isCracked cX7_isCracked 4 (some .boolean) 2 := ⟨wt_mem 471 (by decide +kernel) rfl, wt_mem 67 (by decide +kernel) rfl, by decide +kernel, by decide⟩
set_option maxRecDepth 20000 in
theorem cbX7_addCrack : CB yX7_addCrack cX7_addCrack 3 none 2 := ⟨wt_mem 475 (by decide +kernel) rfl, wt_mem 67 (by decide +kernel) rfl, by decide +kernel, by decide⟩
set_option maxRecDepth 20000 in
theorem cbX8_readFace : CB yX8_readFace cX8_readFace 4 none 1 := ⟨wt_mem 479 (by decide +kernel) rfl, wt_mem 60 (by decide +kernel) rfl, by decide +kernel, by decide⟩
set_option maxRecDepth 20000 in
theorem cbX7_addFace : CB yX7_addFace cX7_addFace 2 none 1 := ⟨wt_mem 483 (by decide +kernel) rfl, wt_mem 67 (by decide +kernel) rfl, by decide +kernel, by decide⟩
set_option maxRecDepth 20000 in
theorem cbX8_readWind : CB yX8_readWind cX8_readWind 3 none 1 := ⟨wt_mem 487 (by decide +kernel) rfl, wt_mem 60 (by decide +kernel) rfl, by decide +kernel, by decide⟩
set_option maxRecDepth 20000 in
theorem cbX1_begin : CB yX1_begin cX1_begin 3 none 1 := ⟨wt_mem 491 (by decide +kernel) rfl, wt_mem 61 (by decide +kernel) rfl, by decide +kernel, by decide⟩
set_option maxRecDepth 20000 in
theorem cbX0_clear : CB yX0_clear cX0_clear 1 none 0 := ⟨wt_mem 496 (by decide +kernel) rfl, wt_mem 65 (by decide +kernel) rfl, by decide +kernel, by decide⟩
set_option maxRecDepth 20000 in
theorem cbX6_clear : CB yX6_clear cX6_clear 1 none 0 := ⟨wt_mem 500 (by decide +kernel) rfl, wt_mem 64 (by decide +kernel) rfl, by decide +kernel, by decide⟩
set_option maxRecDepth 20000 in
theorem cbX10_fault : CB yX10_fault cX10_fault 1 (some .int) 0 := ⟨wt_mem 505 (by decide +kernel) rfl, wt_mem 59 (by decide +kernel) rfl, by decide +kernel, by decide⟩
set_option maxRecDepth 20000 in
theorem cbX10_told : CB yX10_told cX10_told 2 (some .int) 1 := ⟨wt_mem 509 (by decide +kernel) rfl, wt_mem 59 (by decide +kernel) rfl, by decide +kernel, by decide⟩
set_option maxRecDepth 20000 in
theorem cbX1_marks : CB yX1_marks cX1_marks 3 (some .int) 0 := ⟨wt_mem 513 (by decide +kernel) rfl, wt_mem 61 (by decide +kernel) rfl, by decide +kernel, by decide⟩
set_option maxRecDepth 20000 in
theorem cbX1_allWet : CB yX1_allWet cX1_allWet 3 (some .int) 0 := ⟨wt_mem 517 (by decide +kernel) rfl, wt_mem 61 (by decide +kernel) rfl, by decide +kernel, by decide⟩
set_option maxRecDepth 20000 in
theorem cbX5_whom : CB yX5_whom cX5_whom 6 (some .int) 2 := ⟨wt_mem 520 (by decide +kernel) rfl, wt_mem 71 (by decide +kernel) rfl, by decide +kernel, by decide⟩
set_option maxRecDepth 20000 in
theorem cbX5_like : CB yX5_like cX5_like 3 (some .int) 3 := ⟨wt_mem 524 (by decide +kernel) rfl, wt_mem 71 (by decide +kernel) rfl, by decide +kernel, by decide⟩
set_option maxRecDepth 20000 in
theorem cbJ6_bitCount_0f7a4 : CB yJ6_bitCount_0f7a4 cJ6_bitCount_0f7a4 1 (some .int) 1 := ⟨wt_mem 528 (by decide +kernel) rfl, wt_mem 72 (by decide +kernel) rfl, by decide +kernel, by decide⟩
set_option maxRecDepth 20000 in
theorem cbX5_mayBe : CB yX5_mayBe cX5_mayBe 4 (some .int) 2 := ⟨wt_mem 534 (by decide +kernel) rfl, wt_mem 71 (by decide +kernel) rfl, by decide +kernel, by decide⟩
set_option maxRecDepth 20000 in
theorem cbX5_groups : CB yX5_groups cX5_groups 5 (some .int) 2 := ⟨wt_mem 537 (by decide +kernel) rfl, wt_mem 71 (by decide +kernel) rfl, by decide +kernel, by decide⟩
set_option maxRecDepth 20000 in
theorem cbX5_groupOf : CB yX5_groupOf cX5_groupOf 7 (some .int) 3 := ⟨wt_mem 540 (by decide +kernel) rfl, wt_mem 71 (by decide +kernel) rfl, by decide +kernel, by decide⟩
set_option maxRecDepth 20000 in
theorem cbX5_besideSet : CB yX5_besideSet cX5_besideSet 3 (some .int) 3 := ⟨wt_mem 543 (by decide +kernel) rfl, wt_mem 71 (by decide +kernel) rfl, by decide +kernel, by decide⟩
set_option maxRecDepth 20000 in
theorem cbX7_allCells : CB yX7_allCells cX7_allCells 1 (some .int) 0 := ⟨wt_mem 547 (by decide +kernel) rfl, wt_mem 67 (by decide +kernel) rfl, by decide +kernel, by decide⟩
set_option maxRecDepth 20000 in
theorem cbX5_greatestGroup : CB yX5_greatestGroup cX5_greatestGroup 6 (some .int) 2 := ⟨wt_mem 551 (by decide +kernel) rfl, wt_mem 71 (by decide +kernel) rfl, by decide +kernel, by decide⟩
set_option maxRecDepth 20000 in
theorem cbX5_border : CB yX5_border cX5_border 4 (some .int) 2 := ⟨wt_mem 554 (by decide +kernel) rfl, wt_mem 71 (by decide +kernel) rfl, by decide +kernel, by decide⟩
set_option maxRecDepth 20000 in
theorem cbX5_fullest : CB yX5_fullest cX5_fullest 6 (some .int) 2 := ⟨wt_mem 557 (by decide +kernel) rfl, wt_mem 71 (by decide +kernel) rfl, by decide +kernel, by decide⟩
set_option maxRecDepth 20000 in
theorem cbX10_cell : CB yX10_cell cX10_cell 2 (some .int) 1 := ⟨wt_mem 561 (by decide +kernel) rfl, wt_mem 59 (by decide +kernel) rfl, by decide +kernel, by decide⟩
set_option maxRecDepth 20000 in
theorem cbX7_hasCell : CB yX7_hasCell cX7_hasCell 2 (some .boolean) 1 := ⟨wt_mem 565 (by decide +kernel) rfl, wt_mem 67 (by decide +kernel) rfl, by decide +kernel, by decide⟩
set_option maxRecDepth 20000 in
theorem cbX10_leak : CB yX10_leak cX10_leak 2 (some .int) 1 := ⟨wt_mem 571 (by decide +kernel) rfl, wt_mem 59 (by decide +kernel) rfl, by decide +kernel, by decide⟩
set_option maxRecDepth 20000 in
theorem cbX7_hasLeak : CB yX7_hasLeak cX7_hasLeak 2 (some .boolean) 1 := ⟨wt_mem 575 (by decide +kernel) rfl, wt_mem 67 (by decide +kernel) rfl, by decide +kernel, by decide⟩
set_option maxRecDepth 20000 in
theorem cbX10_crack : CB yX10_crack cX10_crack 3 (some .int) 2 := ⟨wt_mem 579 (by decide +kernel) rfl, wt_mem 59 (by decide +kernel) rfl, by decide +kernel, by decide⟩
set_option maxRecDepth 20000 in
theorem cbX7_hasCrack : CB yX7_hasCrack cX7_hasCrack 2 (some .boolean) 1 := ⟨wt_mem 583 (by decide +kernel) rfl, wt_mem 67 (by decide +kernel) rfl, by decide +kernel, by decide⟩
set_option maxRecDepth 20000 in
theorem cbX1_isFilled : CB yX1_isFilled cX1_isFilled 2 (some .boolean) 1 := ⟨wt_mem 587 (by decide +kernel) rfl, wt_mem 61 (by decide +kernel) rfl, by decide +kernel, by decide⟩
set_option maxRecDepth 20000 in
theorem cbX10_likeness : CB yX10_likeness cX10_likeness 4 (some .int) 2 := ⟨wt_mem 591 (by decide +kernel) rfl, wt_mem 59 (by decide +kernel) rfl, by decide +kernel, by decide⟩
set_option maxRecDepth 20000 in
theorem cbX7_hasFace : CB yX7_hasFace cX7_hasFace 2 (some .boolean) 1 := ⟨wt_mem 595 (by decide +kernel) rfl, wt_mem 67 (by decide +kernel) rfl, by decide +kernel, by decide⟩
set_option maxRecDepth 20000 in
theorem cbX10_day : CB yX10_day cX10_day 3 (some .int) 2 := ⟨wt_mem 601 (by decide +kernel) rfl, wt_mem 59 (by decide +kernel) rfl, by decide +kernel, by decide⟩
set_option maxRecDepth 20000 in
theorem cbX10_noWall : CB yX10_noWall cX10_noWall 1 (some .boolean) 0 := ⟨wt_mem 605 (by decide +kernel) rfl, wt_mem 59 (by decide +kernel) rfl, by decide +kernel, by decide⟩
set_option maxRecDepth 20000 in
theorem cbX6_push : CB yX6_push cX6_push 2 none 1 := ⟨wt_mem 611 (by decide +kernel) rfl, wt_mem 64 (by decide +kernel) rfl, by decide +kernel, by decide⟩
set_option maxRecDepth 20000 in
theorem cbX1_copyFrom : CB yX1_copyFrom cX1_copyFrom 2 none 1 := ⟨wt_mem 615 (by decide +kernel) rfl, wt_mem 61 (by decide +kernel) rfl, by decide +kernel, by decide⟩
set_option maxRecDepth 20000 in
theorem cbX3_rainDays : CB yX3_rainDays cX3_rainDays 6 none 4 := ⟨wt_mem 623 (by decide +kernel) rfl, wt_mem 62 (by decide +kernel) rfl, by decide +kernel, by decide⟩
set_option maxRecDepth 20000 in
theorem cbX3_rainDay : CB yX3_rainDay cX3_rainDay 6 none 3 := ⟨wt_mem 627 (by decide +kernel) rfl, wt_mem 62 (by decide +kernel) rfl, by decide +kernel, by decide⟩
set_option maxRecDepth 20000 in
theorem cbX3_runDownAndByWind : CB yX3_runDownAndByWind cX3_runDownAndByWind 4 none 2 := ⟨wt_mem 635 (by decide +kernel) rfl, wt_mem 62 (by decide +kernel) rfl, by decide +kernel, by decide⟩
set_option maxRecDepth 20000 in
theorem cbX7_below : CB yX7_below cX7_below 2 (some .int) 1 := ⟨wt_mem 639 (by decide +kernel) rfl, wt_mem 67 (by decide +kernel) rfl, by decide +kernel, by decide⟩
set_option maxRecDepth 20000 in
theorem cbX3_give : CB yX3_give cX3_give 4 none 3 := ⟨wt_mem 643 (by decide +kernel) rfl, wt_mem 62 (by decide +kernel) rfl, by decide +kernel, by decide⟩
set_option maxRecDepth 20000 in
theorem cbX7_beside : CB yX7_beside cX7_beside 3 (some .int) 2 := ⟨wt_mem 647 (by decide +kernel) rfl, wt_mem 67 (by decide +kernel) rfl, by decide +kernel, by decide⟩
set_option maxRecDepth 20000 in
theorem cbX3_runByCracks : CB yX3_runByCracks cX3_runByCracks 7 none 2 := ⟨wt_mem 651 (by decide +kernel) rfl, wt_mem 62 (by decide +kernel) rfl, by decide +kernel, by decide⟩
set_option maxRecDepth 20000 in
theorem cbX3_settle : CB yX3_settle cX3_settle 5 none 2 := ⟨wt_mem 656 (by decide +kernel) rfl, wt_mem 62 (by decide +kernel) rfl, by decide +kernel, by decide⟩
set_option maxRecDepth 20000 in
theorem cbX1_markCount : CB yX1_markCount cX1_markCount 1 (some .int) 0 := ⟨wt_mem 661 (by decide +kernel) rfl, wt_mem 61 (by decide +kernel) rfl, by decide +kernel, by decide⟩
set_option maxRecDepth 20000 in
theorem cbX10_look : CB yX10_look cX10_look 1 (some .int) 0 := ⟨wt_mem 667 (by decide +kernel) rfl, wt_mem 59 (by decide +kernel) rfl, by decide +kernel, by decide⟩
set_option maxRecDepth 20000 in
theorem cbX1_shrink : CB yX1_shrink cX1_shrink 4 none 1 := ⟨wt_mem 671 (by decide +kernel) rfl, wt_mem 61 (by decide +kernel) rfl, by decide +kernel, by decide⟩
set_option maxRecDepth 20000 in
theorem cbX5_lonely : CB yX5_lonely cX5_lonely 6 (some .int) 2 := ⟨wt_mem 674 (by decide +kernel) rfl, wt_mem 71 (by decide +kernel) rfl, by decide +kernel, by decide⟩
set_option maxRecDepth 20000 in
theorem cbX10_brush : CB yX10_brush cX10_brush 3 (some .int) 1 := ⟨wt_mem 678 (by decide +kernel) rfl, wt_mem 59 (by decide +kernel) rfl, by decide +kernel, by decide⟩
set_option maxRecDepth 20000 in
theorem cbX10_lead : CB yX10_lead cX10_lead 4 (some .int) 2 := ⟨wt_mem 683 (by decide +kernel) rfl, wt_mem 59 (by decide +kernel) rfl, by decide +kernel, by decide⟩
set_option maxRecDepth 20000 in
theorem cbX10_wind : CB yX10_wind cX10_wind 3 (some .int) 1 := ⟨wt_mem 687 (by decide +kernel) rfl, wt_mem 59 (by decide +kernel) rfl, by decide +kernel, by decide⟩
set_option maxRecDepth 20000 in
theorem cbX10_fill : CB yX10_fill cX10_fill 4 (some .int) 2 := ⟨wt_mem 691 (by decide +kernel) rfl, wt_mem 59 (by decide +kernel) rfl, by decide +kernel, by decide⟩
set_option maxRecDepth 20000 in
theorem cbX10_drift : CB yX10_drift cX10_drift 3 (some .int) 1 := ⟨wt_mem 695 (by decide +kernel) rfl, wt_mem 59 (by decide +kernel) rfl, by decide +kernel, by decide⟩
set_option maxRecDepth 20000 in
theorem cbX10_driftOneDay : CB yX10_driftOneDay cX10_driftOneDay 3 none 0 := ⟨wt_mem 699 (by decide +kernel) rfl, wt_mem 59 (by decide +kernel) rfl, by decide +kernel, by decide⟩
set_option maxRecDepth 20000 in
theorem cbX2_draw : CB yX2_draw cX2_draw 2 (some .int) 1 := ⟨wt_mem 703 (by decide +kernel) rfl, wt_mem 66 (by decide +kernel) rfl, by decide +kernel, by decide⟩
set_option maxRecDepth 20000 in
theorem cbX10_undo : CB yX10_undo cX10_undo 1 (some .int) 0 := ⟨wt_mem 711 (by decide +kernel) rfl, wt_mem 59 (by decide +kernel) rfl, by decide +kernel, by decide⟩
set_option maxRecDepth 20000 in
theorem cbX6_pop : CB yX6_pop cX6_pop 2 (some .boolean) 1 := ⟨wt_mem 715 (by decide +kernel) rfl, wt_mem 64 (by decide +kernel) rfl, by decide +kernel, by decide⟩
set_option maxRecDepth 20000 in
theorem cbX10_shown : CB yX10_shown cX10_shown 3 (some .int) 2 := ⟨wt_mem 719 (by decide +kernel) rfl, wt_mem 59 (by decide +kernel) rfl, by decide +kernel, by decide⟩
set_option maxRecDepth 20000 in
theorem cbX9_marksBehind : CB yX9_marksBehind cX9_marksBehind 5 (some .int) 4 := ⟨wt_mem 723 (by decide +kernel) rfl, wt_mem 63 (by decide +kernel) rfl, by decide +kernel, by decide⟩
set_option maxRecDepth 20000 in
theorem cbX10_first : CB yX10_first cX10_first 3 (some .int) 2 := ⟨wt_mem 730 (by decide +kernel) rfl, wt_mem 59 (by decide +kernel) rfl, by decide +kernel, by decide⟩
set_option maxRecDepth 20000 in
theorem cbX9_daysTillMarks : CB yX9_daysTillMarks cX9_daysTillMarks 6 (some .int) 4 := ⟨wt_mem 734 (by decide +kernel) rfl, wt_mem 63 (by decide +kernel) rfl, by decide +kernel, by decide⟩
set_option maxRecDepth 20000 in
theorem cbX10_leadTo : CB yX10_leadTo cX10_leadTo 6 (some .int) 5 := ⟨wt_mem 740 (by decide +kernel) rfl, wt_mem 59 (by decide +kernel) rfl, by decide +kernel, by decide⟩
set_option maxRecDepth 20000 in
theorem cbX9_leadBest : CB yX9_leadBest cX9_leadBest 9 none 6 := ⟨wt_mem 744 (by decide +kernel) rfl, wt_mem 63 (by decide +kernel) rfl, by decide +kernel, by decide⟩
set_option maxRecDepth 20000 in
theorem cbX10_often : CB yX10_often cX10_often 5 (some .int) 4 := ⟨wt_mem 751 (by decide +kernel) rfl, wt_mem 59 (by decide +kernel) rfl, by decide +kernel, by decide⟩
set_option maxRecDepth 20000 in
theorem cbX9_lookMost : CB yX9_lookMost cX9_lookMost 6 none 5 := ⟨wt_mem 755 (by decide +kernel) rfl, wt_mem 63 (by decide +kernel) rfl, by decide +kernel, by decide⟩
set_option maxRecDepth 20000 in
theorem cbX9_tryLooks : CB yX9_tryLooks cX9_tryLooks 6 none 5 := ⟨wt_mem 758 (by decide +kernel) rfl, wt_mem 63 (by decide +kernel) rfl, by decide +kernel, by decide⟩
set_option maxRecDepth 20000 in
theorem cbX9_weigh : CB yX9_weigh cX9_weigh 5 none 2 := ⟨wt_mem 762 (by decide +kernel) rfl, wt_mem 63 (by decide +kernel) rfl, by decide +kernel, by decide⟩
set_option maxRecDepth 20000 in
theorem cbX10_wasRain : CB yX10_wasRain cX10_wasRain 2 (some .int) 1 := ⟨wt_mem 768 (by decide +kernel) rfl, wt_mem 59 (by decide +kernel) rfl, by decide +kernel, by decide⟩
set_option maxRecDepth 20000 in
theorem cbX9_rainsThatShow : CB yX9_rainsThatShow cX9_rainsThatShow 6 (some .int) 3 := ⟨wt_mem 773 (by decide +kernel) rfl, wt_mem 63 (by decide +kernel) rfl, by decide +kernel, by decide⟩
set_option maxRecDepth 20000 in
theorem cbX10_rainToTell : CB yX10_rainToTell cX10_rainToTell 2 (some .int) 1 := ⟨wt_mem 778 (by decide +kernel) rfl, wt_mem 59 (by decide +kernel) rfl, by decide +kernel, by decide⟩
set_option maxRecDepth 20000 in
theorem cbX9_rainThatLeavesFewest : CB yX9_rainThatLeavesFewest cX9_rainThatLeavesFewest 5 none 2 := ⟨wt_mem 782 (by decide +kernel) rfl, wt_mem 63 (by decide +kernel) rfl, by decide +kernel, by decide⟩
set_option maxRecDepth 20000 in
theorem cbX10_dryIn : CB yX10_dryIn cX10_dryIn 1 (some .int) 0 := ⟨wt_mem 787 (by decide +kernel) rfl, wt_mem 59 (by decide +kernel) rfl, by decide +kernel, by decide⟩
set_option maxRecDepth 20000 in
theorem cbX9_daysTillDry : CB yX9_daysTillDry cX9_daysTillDry 4 (some .int) 2 := ⟨wt_mem 791 (by decide +kernel) rfl, wt_mem 63 (by decide +kernel) rfl, by decide +kernel, by decide⟩
set_option maxRecDepth 20000 in
theorem cbX10_either : CB yX10_either cX10_either 6 (some .int) 3 := ⟨wt_mem 796 (by decide +kernel) rfl, wt_mem 59 (by decide +kernel) rfl, by decide +kernel, by decide⟩
set_option maxRecDepth 20000 in
theorem cbX10_rainy : CB yX10_rainy cX10_rainy 6 (some .int) 2 := ⟨wt_mem 800 (by decide +kernel) rfl, wt_mem 59 (by decide +kernel) rfl, by decide +kernel, by decide⟩
set_option maxRecDepth 20000 in
theorem cbX10_write : CB yX10_write cX10_write 3 (some .int) 2 := ⟨wt_mem 806 (by decide +kernel) rfl, wt_mem 59 (by decide +kernel) rfl, by decide +kernel, by decide⟩
set_option maxRecDepth 20000 in
theorem cbX0_add : CB yX0_add cX0_add 3 (some .int) 2 := ⟨wt_mem 810 (by decide +kernel) rfl, wt_mem 65 (by decide +kernel) rfl, by decide +kernel, by decide⟩
set_option maxRecDepth 20000 in
theorem cbX10_tear : CB yX10_tear cX10_tear 2 (some .int) 0 := ⟨wt_mem 816 (by decide +kernel) rfl, wt_mem 59 (by decide +kernel) rfl, by decide +kernel, by decide⟩
set_option maxRecDepth 20000 in
theorem cbX10_judge : CB yX10_judge cX10_judge 1 (some .int) 0 := ⟨wt_mem 820 (by decide +kernel) rfl, wt_mem 59 (by decide +kernel) rfl, by decide +kernel, by decide⟩
set_option maxRecDepth 20000 in
theorem cbX0_firstWrong : CB yX0_firstWrong cX0_firstWrong 3 (some .int) 1 := ⟨wt_mem 824 (by decide +kernel) rfl, wt_mem 65 (by decide +kernel) rfl, by decide +kernel, by decide⟩
set_option maxRecDepth 20000 in
theorem cbX10_seed : CB yX10_seed cX10_seed 3 (some .int) 1 := ⟨wt_mem 829 (by decide +kernel) rfl, wt_mem 59 (by decide +kernel) rfl, by decide +kernel, by decide⟩
set_option maxRecDepth 20000 in
theorem cbX10_keep : CB yX10_keep cX10_keep 3 (some .int) 1 := ⟨wt_mem 833 (by decide +kernel) rfl, wt_mem 59 (by decide +kernel) rfl, by decide +kernel, by decide⟩
set_option maxRecDepth 20000 in
theorem cbX10_goBack : CB yX10_goBack cX10_goBack 3 (some .int) 1 := ⟨wt_mem 838 (by decide +kernel) rfl, wt_mem 59 (by decide +kernel) rfl, by decide +kernel, by decide⟩
set_option maxRecDepth 20000 in
theorem cbX11_feed : CB yX11_feed cX11_feed 2 (some .int) 1 := ⟨wt_mem 970 (by decide +kernel) rfl, wt_mem 69 (by decide +kernel) rfl, by decide +kernel, by decide⟩
set_option maxRecDepth 20000 in
theorem cbX11_in : CB yX11_in cX11_in 6 (some .boolean) 3 := ⟨wt_mem 974 (by decide +kernel) rfl, wt_mem 69 (by decide +kernel) rfl, by decide +kernel, by decide⟩
set_option maxRecDepth 20000 in
theorem cbX11_wall : CB yX11_wall cX11_wall 2 (some .int) 0 := ⟨wt_mem 980 (by decide +kernel) rfl, wt_mem 69 (by decide +kernel) rfl, by decide +kernel, by decide⟩
set_option maxRecDepth 20000 in
theorem cbX11_here : CB yX11_here cX11_here 1 (some .int) 0 := ⟨wt_mem 984 (by decide +kernel) rfl, wt_mem 69 (by decide +kernel) rfl, by decide +kernel, by decide⟩
set_option maxRecDepth 20000 in
theorem cbX11_takeClause : CB yX11_takeClause cX11_takeClause 4 (some .int) 0 := ⟨wt_mem 988 (by decide +kernel) rfl, wt_mem 69 (by decide +kernel) rfl, by decide +kernel, by decide⟩
set_option maxRecDepth 20000 in
theorem cbX11_fails : CB yX11_fails cX11_fails 3 (some .int) 2 := ⟨wt_mem 992 (by decide +kernel) rfl, wt_mem 69 (by decide +kernel) rfl, by decide +kernel, by decide⟩
set_option maxRecDepth 20000 in
theorem cbX11_isFull : CB yX11_isFull cX11_isFull 2 (some .boolean) 1 := ⟨wt_mem 996 (by decide +kernel) rfl, wt_mem 69 (by decide +kernel) rfl, by decide +kernel, by decide⟩
set_option maxRecDepth 20000 in
theorem cbX11_takeBody : CB yX11_takeBody cX11_takeBody 2 (some .int) 1 := ⟨wt_mem 1000 (by decide +kernel) rfl, wt_mem 69 (by decide +kernel) rfl, by decide +kernel, by decide⟩
set_option maxRecDepth 20000 in
theorem cbX11_takeWall : CB yX11_takeWall cX11_takeWall 2 (some .int) 0 := ⟨wt_mem 1004 (by decide +kernel) rfl, wt_mem 69 (by decide +kernel) rfl, by decide +kernel, by decide⟩
set_option maxRecDepth 20000 in
theorem cbX11_takeNumber : CB yX11_takeNumber cX11_takeNumber 4 (some .int) 2 := ⟨wt_mem 1008 (by decide +kernel) rfl, wt_mem 69 (by decide +kernel) rfl, by decide +kernel, by decide⟩
set_option maxRecDepth 20000 in
theorem cbX11_takeLeak : CB yX11_takeLeak cX11_takeLeak 1 (some .int) 0 := ⟨wt_mem 1014 (by decide +kernel) rfl, wt_mem 69 (by decide +kernel) rfl, by decide +kernel, by decide⟩
set_option maxRecDepth 20000 in
theorem cbX11_readCells : CB yX11_readCells cX11_readCells 1 (some .int) 0 := ⟨wt_mem 1018 (by decide +kernel) rfl, wt_mem 69 (by decide +kernel) rfl, by decide +kernel, by decide⟩
set_option maxRecDepth 20000 in
theorem cbX11_into : CB yX11_into cX11_into 6 (some .int) 4 := ⟨wt_mem 1022 (by decide +kernel) rfl, wt_mem 69 (by decide +kernel) rfl, by decide +kernel, by decide⟩
set_option maxRecDepth 20000 in
theorem cbX11_takeCrack : CB yX11_takeCrack cX11_takeCrack 3 (some .int) 0 := ⟨wt_mem 1026 (by decide +kernel) rfl, wt_mem 69 (by decide +kernel) rfl, by decide +kernel, by decide⟩
set_option maxRecDepth 20000 in
theorem cbX11_areNext : CB yX11_areNext cX11_areNext 5 (some .boolean) 3 := ⟨wt_mem 1029 (by decide +kernel) rfl, wt_mem 69 (by decide +kernel) rfl, by decide +kernel, by decide⟩
set_option maxRecDepth 20000 in
theorem cbX11_isTold : CB yX11_isTold cX11_isTold 5 (some .boolean) 2 := ⟨wt_mem 1033 (by decide +kernel) rfl, wt_mem 69 (by decide +kernel) rfl, by decide +kernel, by decide⟩
set_option maxRecDepth 20000 in
theorem cbX11_takeLike : CB yX11_takeLike cX11_takeLike 4 (some .int) 0 := ⟨wt_mem 1037 (by decide +kernel) rfl, wt_mem 69 (by decide +kernel) rfl, by decide +kernel, by decide⟩
set_option maxRecDepth 20000 in
theorem cbX11_takeWind : CB yX11_takeWind cX11_takeWind 2 (some .int) 0 := ⟨wt_mem 1041 (by decide +kernel) rfl, wt_mem 69 (by decide +kernel) rfl, by decide +kernel, by decide⟩
set_option maxRecDepth 20000 in
theorem cbX11_takeRead : CB yX11_takeRead cX11_takeRead 2 none 0 := ⟨wt_mem 1045 (by decide +kernel) rfl, wt_mem 69 (by decide +kernel) rfl, by decide +kernel, by decide⟩
set_option maxRecDepth 20000 in
theorem cbX11_copyRow : CB yX11_copyRow cX11_copyRow 4 none 3 := ⟨wt_mem 1048 (by decide +kernel) rfl, wt_mem 69 (by decide +kernel) rfl, by decide +kernel, by decide⟩
set_option maxRecDepth 20000 in
theorem cbX11_cells : CB yX11_cells cX11_cells 1 (some .int) 0 := ⟨wt_mem 1052 (by decide +kernel) rfl, wt_mem 69 (by decide +kernel) rfl, by decide +kernel, by decide⟩
set_option maxRecDepth 20000 in
theorem cbX11_fault : CB yX11_fault cX11_fault 1 (some .int) 0 := ⟨wt_mem 1056 (by decide +kernel) rfl, wt_mem 69 (by decide +kernel) rfl, by decide +kernel, by decide⟩
set_option maxRecDepth 20000 in
theorem cbX11_told : CB yX11_told cX11_told 2 (some .int) 1 := ⟨wt_mem 1060 (by decide +kernel) rfl, wt_mem 69 (by decide +kernel) rfl, by decide +kernel, by decide⟩
set_option maxRecDepth 20000 in
theorem cbX11_shows : CB yX11_shows cX11_shows 3 (some .int) 0 := ⟨wt_mem 1064 (by decide +kernel) rfl, wt_mem 69 (by decide +kernel) rfl, by decide +kernel, by decide⟩
set_option maxRecDepth 20000 in
theorem cbX11_allWet : CB yX11_allWet cX11_allWet 3 (some .int) 0 := ⟨wt_mem 1068 (by decide +kernel) rfl, wt_mem 69 (by decide +kernel) rfl, by decide +kernel, by decide⟩
set_option maxRecDepth 20000 in
theorem cbX11_whom : CB yX11_whom cX11_whom 5 (some .int) 0 := ⟨wt_mem 1072 (by decide +kernel) rfl, wt_mem 69 (by decide +kernel) rfl, by decide +kernel, by decide⟩
set_option maxRecDepth 20000 in
theorem cbX11_likeOf : CB yX11_likeOf cX11_likeOf 2 (some .int) 1 := ⟨wt_mem 1076 (by decide +kernel) rfl, wt_mem 69 (by decide +kernel) rfl, by decide +kernel, by decide⟩
set_option maxRecDepth 20000 in
theorem cbX11_bits : CB yX11_bits cX11_bits 3 (some .int) 1 := ⟨wt_mem 1079 (by decide +kernel) rfl, wt_mem 69 (by decide +kernel) rfl, by decide +kernel, by decide⟩
set_option maxRecDepth 20000 in
theorem cbX11_mayBe : CB yX11_mayBe cX11_mayBe 3 (some .int) 0 := ⟨wt_mem 1083 (by decide +kernel) rfl, wt_mem 69 (by decide +kernel) rfl, by decide +kernel, by decide⟩
set_option maxRecDepth 20000 in
theorem cbX11_groups : CB yX11_groups cX11_groups 7 (some .int) 1 := ⟨wt_mem 1087 (by decide +kernel) rfl, wt_mem 69 (by decide +kernel) rfl, by decide +kernel, by decide⟩
set_option maxRecDepth 20000 in
theorem cbX11_has : CB yX11_has cX11_has 2 (some .boolean) 2 := ⟨wt_mem 1090 (by decide +kernel) rfl, wt_mem 69 (by decide +kernel) rfl, by decide +kernel, by decide⟩
set_option maxRecDepth 20000 in
theorem cbX11_groupOf : CB yX11_groupOf cX11_groupOf 7 (some .int) 1 := ⟨wt_mem 1094 (by decide +kernel) rfl, wt_mem 69 (by decide +kernel) rfl, by decide +kernel, by decide⟩
set_option maxRecDepth 20000 in
theorem cbX11_around : CB yX11_around cX11_around 4 (some .int) 1 := ⟨wt_mem 1098 (by decide +kernel) rfl, wt_mem 69 (by decide +kernel) rfl, by decide +kernel, by decide⟩
set_option maxRecDepth 20000 in
theorem cbX11_border : CB yX11_border cX11_border 4 (some .int) 0 := ⟨wt_mem 1102 (by decide +kernel) rfl, wt_mem 69 (by decide +kernel) rfl, by decide +kernel, by decide⟩
set_option maxRecDepth 20000 in
theorem cbX11_fullest : CB yX11_fullest cX11_fullest 6 (some .int) 0 := ⟨wt_mem 1106 (by decide +kernel) rfl, wt_mem 69 (by decide +kernel) rfl, by decide +kernel, by decide⟩
set_option maxRecDepth 20000 in
theorem cbX11_cell : CB yX11_cell cX11_cell 2 (some .int) 1 := ⟨wt_mem 1110 (by decide +kernel) rfl, wt_mem 69 (by decide +kernel) rfl, by decide +kernel, by decide⟩
set_option maxRecDepth 20000 in
theorem cbX11_isCell : CB yX11_isCell cX11_isCell 2 (some .boolean) 1 := ⟨wt_mem 1114 (by decide +kernel) rfl, wt_mem 69 (by decide +kernel) rfl, by decide +kernel, by decide⟩
set_option maxRecDepth 20000 in
theorem cbX11_leak : CB yX11_leak cX11_leak 2 (some .int) 1 := ⟨wt_mem 1119 (by decide +kernel) rfl, wt_mem 69 (by decide +kernel) rfl, by decide +kernel, by decide⟩
set_option maxRecDepth 20000 in
theorem cbX11_isLeak : CB yX11_isLeak cX11_isLeak 2 (some .boolean) 1 := ⟨wt_mem 1123 (by decide +kernel) rfl, wt_mem 69 (by decide +kernel) rfl, by decide +kernel, by decide⟩
set_option maxRecDepth 20000 in
theorem cbX11_crack : CB yX11_crack cX11_crack 3 (some .int) 2 := ⟨wt_mem 1127 (by decide +kernel) rfl, wt_mem 69 (by decide +kernel) rfl, by decide +kernel, by decide⟩
set_option maxRecDepth 20000 in
theorem cbX11_isCrack : CB yX11_isCrack cX11_isCrack 2 (some .boolean) 1 := ⟨wt_mem 1131 (by decide +kernel) rfl, wt_mem 69 (by decide +kernel) rfl, by decide +kernel, by decide⟩
set_option maxRecDepth 20000 in
theorem cbX11_likeness : CB yX11_likeness cX11_likeness 3 (some .int) 2 := ⟨wt_mem 1135 (by decide +kernel) rfl, wt_mem 69 (by decide +kernel) rfl, by decide +kernel, by decide⟩
set_option maxRecDepth 20000 in
theorem cbX11_isLike : CB yX11_isLike cX11_isLike 2 (some .boolean) 1 := ⟨wt_mem 1139 (by decide +kernel) rfl, wt_mem 69 (by decide +kernel) rfl, by decide +kernel, by decide⟩
set_option maxRecDepth 20000 in
theorem cbX11_day : CB yX11_day cX11_day 4 (some .int) 2 := ⟨wt_mem 1143 (by decide +kernel) rfl, wt_mem 69 (by decide +kernel) rfl, by decide +kernel, by decide⟩
set_option maxRecDepth 20000 in
theorem cbX11_remember : CB yX11_remember cX11_remember 2 none 0 := ⟨wt_mem 1150 (by decide +kernel) rfl, wt_mem 69 (by decide +kernel) rfl, by decide +kernel, by decide⟩
set_option maxRecDepth 20000 in
theorem cbX11_pass : CB yX11_pass cX11_pass 4 none 1 := ⟨wt_mem 1154 (by decide +kernel) rfl, wt_mem 69 (by decide +kernel) rfl, by decide +kernel, by decide⟩
set_option maxRecDepth 20000 in
theorem cbX11_bound : CB yX11_bound cX11_bound 1 (some .int) 1 := ⟨wt_mem 1157 (by decide +kernel) rfl, wt_mem 69 (by decide +kernel) rfl, by decide +kernel, by decide⟩
set_option maxRecDepth 20000 in
theorem cbX11_runFrom : CB yX11_runFrom cX11_runFrom 5 none 1 := ⟨wt_mem 1161 (by decide +kernel) rfl, wt_mem 69 (by decide +kernel) rfl, by decide +kernel, by decide⟩
set_option maxRecDepth 20000 in
theorem cbX11_give : CB yX11_give cX11_give 3 none 2 := ⟨wt_mem 1165 (by decide +kernel) rfl, wt_mem 69 (by decide +kernel) rfl, by decide +kernel, by decide⟩
set_option maxRecDepth 20000 in
theorem cbX11_look : CB yX11_look cX11_look 1 (some .int) 0 := ⟨wt_mem 1169 (by decide +kernel) rfl, wt_mem 69 (by decide +kernel) rfl, by decide +kernel, by decide⟩
set_option maxRecDepth 20000 in
theorem cbX11_lookNow : CB yX11_lookNow cX11_lookNow 4 none 0 := ⟨wt_mem 1173 (by decide +kernel) rfl, wt_mem 69 (by decide +kernel) rfl, by decide +kernel, by decide⟩
set_option maxRecDepth 20000 in
theorem cbX11_brush : CB yX11_brush cX11_brush 3 (some .int) 1 := ⟨wt_mem 1177 (by decide +kernel) rfl, wt_mem 69 (by decide +kernel) rfl, by decide +kernel, by decide⟩
set_option maxRecDepth 20000 in
theorem cbX11_lead : CB yX11_lead cX11_lead 4 (some .int) 2 := ⟨wt_mem 1181 (by decide +kernel) rfl, wt_mem 69 (by decide +kernel) rfl, by decide +kernel, by decide⟩
set_option maxRecDepth 20000 in
theorem cbX11_wind : CB yX11_wind cX11_wind 3 (some .int) 1 := ⟨wt_mem 1185 (by decide +kernel) rfl, wt_mem 69 (by decide +kernel) rfl, by decide +kernel, by decide⟩
set_option maxRecDepth 20000 in
theorem cbX11_fill : CB yX11_fill cX11_fill 4 (some .int) 2 := ⟨wt_mem 1190 (by decide +kernel) rfl, wt_mem 69 (by decide +kernel) rfl, by decide +kernel, by decide⟩
set_option maxRecDepth 20000 in
theorem cbX11_drift : CB yX11_drift cX11_drift 3 (some .int) 1 := ⟨wt_mem 1194 (by decide +kernel) rfl, wt_mem 69 (by decide +kernel) rfl, by decide +kernel, by decide⟩
set_option maxRecDepth 20000 in
theorem cbX11_dayByDraws : CB yX11_dayByDraws cX11_dayByDraws 3 none 0 := ⟨wt_mem 1198 (by decide +kernel) rfl, wt_mem 69 (by decide +kernel) rfl, by decide +kernel, by decide⟩
set_option maxRecDepth 20000 in
theorem cbX11_draw : CB yX11_draw cX11_draw 2 (some .int) 1 := ⟨wt_mem 1202 (by decide +kernel) rfl, wt_mem 69 (by decide +kernel) rfl, by decide +kernel, by decide⟩
set_option maxRecDepth 20000 in
theorem cbX11_undo : CB yX11_undo cX11_undo 2 (some .int) 0 := ⟨wt_mem 1210 (by decide +kernel) rfl, wt_mem 69 (by decide +kernel) rfl, by decide +kernel, by decide⟩
set_option maxRecDepth 20000 in
theorem cbX11_shown : CB yX11_shown cX11_shown 3 (some .int) 2 := ⟨wt_mem 1214 (by decide +kernel) rfl, wt_mem 69 (by decide +kernel) rfl, by decide +kernel, by decide⟩
set_option maxRecDepth 20000 in
theorem cbX11_shownBy : CB yX11_shownBy cX11_shownBy 4 (some .int) 2 := ⟨wt_mem 1218 (by decide +kernel) rfl, wt_mem 69 (by decide +kernel) rfl, by decide +kernel, by decide⟩
set_option maxRecDepth 20000 in
theorem cbX11_first : CB yX11_first cX11_first 4 (some .int) 2 := ⟨wt_mem 1222 (by decide +kernel) rfl, wt_mem 69 (by decide +kernel) rfl, by decide +kernel, by decide⟩
set_option maxRecDepth 20000 in
theorem cbX11_leadTo : CB yX11_leadTo cX11_leadTo 11 (some .int) 5 := ⟨wt_mem 1227 (by decide +kernel) rfl, wt_mem 69 (by decide +kernel) rfl, by decide +kernel, by decide⟩
set_option maxRecDepth 20000 in
theorem cbX11_often : CB yX11_often cX11_often 8 (some .int) 4 := ⟨wt_mem 1232 (by decide +kernel) rfl, wt_mem 69 (by decide +kernel) rfl, by decide +kernel, by decide⟩
set_option maxRecDepth 20000 in
theorem cbX11_shownByLooks : CB yX11_shownByLooks cX11_shownByLooks 5 (some .int) 3 := ⟨wt_mem 1237 (by decide +kernel) rfl, wt_mem 69 (by decide +kernel) rfl, by decide +kernel, by decide⟩
set_option maxRecDepth 20000 in
theorem cbX11_wasRain : CB yX11_wasRain cX11_wasRain 4 (some .int) 1 := ⟨wt_mem 1241 (by decide +kernel) rfl, wt_mem 69 (by decide +kernel) rfl, by decide +kernel, by decide⟩
set_option maxRecDepth 20000 in
theorem cbX11_rainToTell : CB yX11_rainToTell cX11_rainToTell 6 (some .int) 1 := ⟨wt_mem 1245 (by decide +kernel) rfl, wt_mem 69 (by decide +kernel) rfl, by decide +kernel, by decide⟩
set_option maxRecDepth 20000 in
theorem cbX11_leftBy : CB yX11_leftBy cX11_leftBy 5 (some .int) 1 := ⟨wt_mem 1249 (by decide +kernel) rfl, wt_mem 69 (by decide +kernel) rfl, by decide +kernel, by decide⟩
set_option maxRecDepth 20000 in
theorem cbX11_dryIn : CB yX11_dryIn cX11_dryIn 3 (some .int) 0 := ⟨wt_mem 1253 (by decide +kernel) rfl, wt_mem 69 (by decide +kernel) rfl, by decide +kernel, by decide⟩
set_option maxRecDepth 20000 in
theorem cbX11_either : CB yX11_either cX11_either 5 (some .int) 3 := ⟨wt_mem 1257 (by decide +kernel) rfl, wt_mem 69 (by decide +kernel) rfl, by decide +kernel, by decide⟩
set_option maxRecDepth 20000 in
theorem cbX11_rainy : CB yX11_rainy cX11_rainy 6 (some .int) 2 := ⟨wt_mem 1261 (by decide +kernel) rfl, wt_mem 69 (by decide +kernel) rfl, by decide +kernel, by decide⟩
set_option maxRecDepth 20000 in
theorem cbX11_write : CB yX11_write cX11_write 3 (some .int) 2 := ⟨wt_mem 1267 (by decide +kernel) rfl, wt_mem 69 (by decide +kernel) rfl, by decide +kernel, by decide⟩
set_option maxRecDepth 20000 in
theorem cbX11_tear : CB yX11_tear cX11_tear 2 (some .int) 0 := ⟨wt_mem 1271 (by decide +kernel) rfl, wt_mem 69 (by decide +kernel) rfl, by decide +kernel, by decide⟩
set_option maxRecDepth 20000 in
theorem cbX11_judge : CB yX11_judge cX11_judge 2 (some .int) 0 := ⟨wt_mem 1275 (by decide +kernel) rfl, wt_mem 69 (by decide +kernel) rfl, by decide +kernel, by decide⟩
set_option maxRecDepth 20000 in
theorem cbX11_seed : CB yX11_seed cX11_seed 3 (some .int) 1 := ⟨wt_mem 1279 (by decide +kernel) rfl, wt_mem 69 (by decide +kernel) rfl, by decide +kernel, by decide⟩
set_option maxRecDepth 20000 in
theorem cbX11_keep : CB yX11_keep cX11_keep 3 (some .int) 1 := ⟨wt_mem 1283 (by decide +kernel) rfl, wt_mem 69 (by decide +kernel) rfl, by decide +kernel, by decide⟩
set_option maxRecDepth 20000 in
theorem cbX11_goBack : CB yX11_goBack cX11_goBack 3 (some .int) 1 := ⟨wt_mem 1287 (by decide +kernel) rfl, wt_mem 69 (by decide +kernel) rfl, by decide +kernel, by decide⟩
set_option maxRecDepth 20000 in
theorem mL_13 : CV RL 13 yX10_feed cX10_feed 2 (some .int) 1 9 := ⟨cbX10_feed, wt_mem 369 (by decide +kernel) rfl, wt_mem 370 (by decide +kernel) rfl, wt_mem 371 (by decide +kernel) rfl, by decide, rfl⟩
set_option maxRecDepth 20000 in
theorem mX10_75 : CS RX10 75 yX10_outside cX10_outside 3 (some .boolean) 3 := ⟨cbX10_outside, wt_mem 373 (by decide +kernel) rfl, wt_mem 374 (by decide +kernel) rfl⟩
set_option maxRecDepth 20000 in
theorem mX10_80 : CV RX10 80 yX8_add cX8_add 2 (some .int) 1 7 := ⟨cbX8_add, wt_mem 377 (by decide +kernel) rfl, wt_mem 378 (by decide +kernel) rfl, wt_mem 379 (by decide +kernel) rfl, by decide, rfl⟩
set_option maxRecDepth 20000 in
theorem mL_18 : CV RL 18 yX10_wall cX10_wall 3 (some .int) 0 9 := ⟨cbX10_wall, wt_mem 385 (by decide +kernel) rfl, wt_mem 386 (by decide +kernel) rfl, wt_mem 387 (by decide +kernel) rfl, by decide, rfl⟩
set_option maxRecDepth 20000 in
theorem mX10_84 : CV RX10 84 yX8_read cX8_read 3 (some .boolean) 1 7 := ⟨cbX8_read, wt_mem 389 (by decide +kernel) rfl, wt_mem 390 (by decide +kernel) rfl, wt_mem 391 (by decide +kernel) rfl, by decide, rfl⟩
set_option maxRecDepth 20000 in
theorem mX8_37 : CV RX8 37 yX7_clear cX7_clear 1 none 0 6 := ⟨cbX7_clear, wt_mem 393 (by decide +kernel) rfl, wt_mem 394 (by decide +kernel) rfl, wt_mem 395 (by decide +kernel) rfl, by decide, rfl⟩
set_option maxRecDepth 20000 in
theorem mX7_24 : CV RX7 24 yX7_resize cX7_resize 4 none 2 6 := ⟨cbX7_resize, wt_mem 397 (by decide +kernel) rfl, wt_mem 398 (by decide +kernel) rfl, wt_mem 399 (by decide +kernel) rfl, by decide, rfl⟩
set_option maxRecDepth 20000 in
theorem mX8_42 : CV RX8 42 yX8_peek cX8_peek 1 (some .int) 0 7 := ⟨cbX8_peek, wt_mem 401 (by decide +kernel) rfl, wt_mem 403 (by decide +kernel) rfl, wt_mem 0 (by decide +kernel) rfl, by decide, rfl⟩
set_option maxRecDepth 20000 in
theorem mX8_46 : CV RX8 46 yX8_readClause cX8_readClause 3 none 1 7 := ⟨cbX8_readClause, wt_mem 408 (by decide +kernel) rfl, wt_mem 410 (by decide +kernel) rfl, wt_mem 1 (by decide +kernel) rfl, by decide, rfl⟩
set_option maxRecDepth 20000 in
theorem mX8_53 : CV RX8 53 yX8_fail cX8_fail 3 none 2 7 := ⟨cbX8_fail, wt_mem 412 (by decide +kernel) rfl, wt_mem 414 (by decide +kernel) rfl, wt_mem 2 (by decide +kernel) rfl, by decide, rfl⟩
set_option maxRecDepth 20000 in
theorem mX8_57 : CV RX8 57 yX8_readSize cX8_readSize 4 none 1 7 := ⟨cbX8_readSize, wt_mem 416 (by decide +kernel) rfl, wt_mem 418 (by decide +kernel) rfl, wt_mem 3 (by decide +kernel) rfl, by decide, rfl⟩
set_option maxRecDepth 20000 in
theorem mX8_72 : CV RX8 72 yX8_takeWord cX8_takeWord 2 none 1 7 := ⟨cbX8_takeWord, wt_mem 420 (by decide +kernel) rfl, wt_mem 422 (by decide +kernel) rfl, wt_mem 4 (by decide +kernel) rfl, by decide, rfl⟩
set_option maxRecDepth 20000 in
theorem mX8_76 : CV RX8 76 yX8_takeNumber cX8_takeNumber 4 (some .int) 2 7 := ⟨cbX8_takeNumber, wt_mem 424 (by decide +kernel) rfl, wt_mem 426 (by decide +kernel) rfl, wt_mem 5 (by decide +kernel) rfl, by decide, rfl⟩
set_option maxRecDepth 20000 in
theorem mX8_129 : CS RX8 129 yX8_isFigure cX8_isFigure 1 (some .boolean) 1 := ⟨cbX8_isFigure, wt_mem 428 (by decide +kernel) rfl, wt_mem 429 (by decide +kernel) rfl⟩
set_option maxRecDepth 20000 in
theorem mX8_80 : CV RX8 80 yX8_takeSign cX8_takeSign 2 (some .boolean) 1 7 := ⟨cbX8_takeSign, wt_mem 432 (by decide +kernel) rfl, wt_mem 434 (by decide +kernel) rfl, wt_mem 6 (by decide +kernel) rfl, by decide, rfl⟩
set_option maxRecDepth 20000 in
theorem mX8_84 : CV RX8 84 yX7_resize cX7_resize 4 none 2 6 := ⟨cbX7_resize, wt_mem 436 (by decide +kernel) rfl, wt_mem 398 (by decide +kernel) rfl, wt_mem 399 (by decide +kernel) rfl, by decide, rfl⟩
set_option maxRecDepth 20000 in
theorem mX8_60 : CV RX8 60 yX8_readLeak cX8_readLeak 3 none 1 7 := ⟨cbX8_readLeak, wt_mem 437 (by decide +kernel) rfl, wt_mem 439 (by decide +kernel) rfl, wt_mem 7 (by decide +kernel) rfl, by decide, rfl⟩
set_option maxRecDepth 20000 in
theorem mX8_90 : CV RX8 90 yX7_cells cX7_cells 1 (some .int) 0 6 := ⟨cbX7_cells, wt_mem 441 (by decide +kernel) rfl, wt_mem 442 (by decide +kernel) rfl, wt_mem 443 (by decide +kernel) rfl, by decide, rfl⟩
set_option maxRecDepth 20000 in
theorem mX8_93 : CV RX8 93 yX7_addLeak cX7_addLeak 2 none 1 6 := ⟨cbX7_addLeak, wt_mem 445 (by decide +kernel) rfl, wt_mem 446 (by decide +kernel) rfl, wt_mem 447 (by decide +kernel) rfl, by decide, rfl⟩
set_option maxRecDepth 20000 in
theorem mX8_63 : CV RX8 63 yX8_readCrack cX8_readCrack 4 none 1 7 := ⟨cbX8_readCrack, wt_mem 450 (by decide +kernel) rfl, wt_mem 452 (by decide +kernel) rfl, wt_mem 8 (by decide +kernel) rfl, by decide, rfl⟩
set_option maxRecDepth 20000 in
theorem mX8_100 : CV RX8 100 yX7_touch cX7_touch 5 (some .boolean) 2 6 := ⟨cbX7_touch, wt_mem 454 (by decide +kernel) rfl, wt_mem 455 (by decide +kernel) rfl, wt_mem 456 (by decide +kernel) rfl, by decide, rfl⟩
set_option maxRecDepth 20000 in
theorem mX7_58 : CS RX7 58 yJ9_min_7cf53 cJ9_min_7cf53 2 (some .int) 2 := ⟨cbJ9_min_7cf53, wt_mem 458 (by decide +kernel) rfl, wt_mem 459 (by decide +kernel) rfl⟩
set_option maxRecDepth 20000 in
theorem mX7_64 : CS RX7 64 yJ9_max_7cf53 cJ9_max_7cf53 2 (some .int) 2 := ⟨cbJ9_max_7cf53, wt_mem 461 (by decide +kernel) rfl, wt_mem 462 (by decide +kernel) rfl⟩
set_option maxRecDepth 20000 in
theorem mX7_67 : CV RX7 67 yX7_columnOf cX7_columnOf 2 (some .int) 1 6 := ⟨cbX7_columnOf, wt_mem 464 (by decide +kernel) rfl, wt_mem 465 (by decide +kernel) rfl, wt_mem 466 (by decide +kernel) rfl, by decide, rfl⟩
set_option maxRecDepth 20000 in
theorem mX8_104 : CV RX8 104 yX7_isCracked cX7_isCracked 4 (some .boolean) 2 6 := ⟨cbX7_isCracked, wt_mem 468 (by decide +kernel) rfl, wt_mem 469 (by decide +kernel) rfl, wt_mem 470 (by decide +kernel) rfl, by decide, rfl⟩
set_option maxRecDepth 20000 in
theorem mX8_110 : CV RX8 110 yX7_addCrack cX7_addCrack 3 none 2 6 := ⟨cbX7_addCrack, wt_mem 472 (by decide +kernel) rfl, wt_mem 473 (by decide +kernel) rfl, wt_mem 474 (by decide +kernel) rfl, by decide, rfl⟩
set_option maxRecDepth 20000 in
theorem mX8_66 : CV RX8 66 yX8_readFace cX8_readFace 4 none 1 7 := ⟨cbX8_readFace, wt_mem 476 (by decide +kernel) rfl, wt_mem 478 (by decide +kernel) rfl, wt_mem 9 (by decide +kernel) rfl, by decide, rfl⟩
set_option maxRecDepth 20000 in
theorem mX8_119 : CV RX8 119 yX7_addFace cX7_addFace 2 none 1 6 := ⟨cbX7_addFace, wt_mem 480 (by decide +kernel) rfl, wt_mem 481 (by decide +kernel) rfl, wt_mem 482 (by decide +kernel) rfl, by decide, rfl⟩
set_option maxRecDepth 20000 in
theorem mX8_69 : CV RX8 69 yX8_readWind cX8_readWind 3 none 1 7 := ⟨cbX8_readWind, wt_mem 484 (by decide +kernel) rfl, wt_mem 486 (by decide +kernel) rfl, wt_mem 10 (by decide +kernel) rfl, by decide, rfl⟩
set_option maxRecDepth 20000 in
theorem mX10_92 : CV RX10 92 yX1_begin cX1_begin 3 none 1 1 := ⟨cbX1_begin, wt_mem 488 (by decide +kernel) rfl, wt_mem 489 (by decide +kernel) rfl, wt_mem 490 (by decide +kernel) rfl, by decide, rfl⟩
set_option maxRecDepth 20000 in
theorem mX10_96 : CV RX10 96 yX0_clear cX0_clear 1 none 0 0 := ⟨cbX0_clear, wt_mem 493 (by decide +kernel) rfl, wt_mem 494 (by decide +kernel) rfl, wt_mem 495 (by decide +kernel) rfl, by decide, rfl⟩
set_option maxRecDepth 20000 in
theorem mX10_99 : CV RX10 99 yX6_clear cX6_clear 1 none 0 5 := ⟨cbX6_clear, wt_mem 497 (by decide +kernel) rfl, wt_mem 498 (by decide +kernel) rfl, wt_mem 499 (by decide +kernel) rfl, by decide, rfl⟩
set_option maxRecDepth 20000 in
theorem mX10_104 : CV RX10 104 yX7_cells cX7_cells 1 (some .int) 0 6 := ⟨cbX7_cells, wt_mem 501 (by decide +kernel) rfl, wt_mem 442 (by decide +kernel) rfl, wt_mem 443 (by decide +kernel) rfl, by decide, rfl⟩
set_option maxRecDepth 20000 in
theorem mL_23 : CV RL 23 yX10_fault cX10_fault 1 (some .int) 0 9 := ⟨cbX10_fault, wt_mem 502 (by decide +kernel) rfl, wt_mem 503 (by decide +kernel) rfl, wt_mem 504 (by decide +kernel) rfl, by decide, rfl⟩
set_option maxRecDepth 20000 in
theorem mL_27 : CV RL 27 yX10_told cX10_told 2 (some .int) 1 9 := ⟨cbX10_told, wt_mem 506 (by decide +kernel) rfl, wt_mem 507 (by decide +kernel) rfl, wt_mem 508 (by decide +kernel) rfl, by decide, rfl⟩
set_option maxRecDepth 20000 in
theorem mX10_135 : CV RX10 135 yX1_marks cX1_marks 3 (some .int) 0 1 := ⟨cbX1_marks, wt_mem 510 (by decide +kernel) rfl, wt_mem 511 (by decide +kernel) rfl, wt_mem 512 (by decide +kernel) rfl, by decide, rfl⟩
set_option maxRecDepth 20000 in
theorem mX10_147 : CV RX10 147 yX1_allWet cX1_allWet 3 (some .int) 0 1 := ⟨cbX1_allWet, wt_mem 514 (by decide +kernel) rfl, wt_mem 515 (by decide +kernel) rfl, wt_mem 516 (by decide +kernel) rfl, by decide, rfl⟩
set_option maxRecDepth 20000 in
theorem mX10_150 : CS RX10 150 yX5_whom cX5_whom 6 (some .int) 2 := ⟨cbX5_whom, wt_mem 518 (by decide +kernel) rfl, wt_mem 519 (by decide +kernel) rfl⟩
set_option maxRecDepth 20000 in
theorem mX5_54 : CS RX5 54 yX5_like cX5_like 3 (some .int) 3 := ⟨cbX5_like, wt_mem 522 (by decide +kernel) rfl, wt_mem 523 (by decide +kernel) rfl⟩
set_option maxRecDepth 20000 in
theorem mX5_34 : CV RX5 34 yX7_cells cX7_cells 1 (some .int) 0 6 := ⟨cbX7_cells, wt_mem 525 (by decide +kernel) rfl, wt_mem 442 (by decide +kernel) rfl, wt_mem 443 (by decide +kernel) rfl, by decide, rfl⟩
set_option maxRecDepth 20000 in
theorem mX5_28 : CS RX5 28 yJ6_bitCount_0f7a4 cJ6_bitCount_0f7a4 1 (some .int) 1 := ⟨cbJ6_bitCount_0f7a4, wt_mem 526 (by decide +kernel) rfl, wt_mem 527 (by decide +kernel) rfl⟩
set_option maxRecDepth 20000 in
theorem mX10_156 : CS RX10 156 yX5_mayBe cX5_mayBe 4 (some .int) 2 := ⟨cbX5_mayBe, wt_mem 532 (by decide +kernel) rfl, wt_mem 533 (by decide +kernel) rfl⟩
set_option maxRecDepth 20000 in
theorem mX10_159 : CS RX10 159 yX5_groups cX5_groups 5 (some .int) 2 := ⟨cbX5_groups, wt_mem 535 (by decide +kernel) rfl, wt_mem 536 (by decide +kernel) rfl⟩
set_option maxRecDepth 20000 in
theorem mX5_37 : CS RX5 37 yX5_groupOf cX5_groupOf 7 (some .int) 3 := ⟨cbX5_groupOf, wt_mem 538 (by decide +kernel) rfl, wt_mem 539 (by decide +kernel) rfl⟩
set_option maxRecDepth 20000 in
theorem mX5_22 : CS RX5 22 yX5_besideSet cX5_besideSet 3 (some .int) 3 := ⟨cbX5_besideSet, wt_mem 541 (by decide +kernel) rfl, wt_mem 542 (by decide +kernel) rfl⟩
set_option maxRecDepth 20000 in
theorem mX5_15 : CV RX5 15 yX7_allCells cX7_allCells 1 (some .int) 0 6 := ⟨cbX7_allCells, wt_mem 544 (by decide +kernel) rfl, wt_mem 545 (by decide +kernel) rfl, wt_mem 546 (by decide +kernel) rfl, by decide, rfl⟩
set_option maxRecDepth 20000 in
theorem mX7_47 : CV RX7 47 yX7_cells cX7_cells 1 (some .int) 0 6 := ⟨cbX7_cells, wt_mem 548 (by decide +kernel) rfl, wt_mem 442 (by decide +kernel) rfl, wt_mem 443 (by decide +kernel) rfl, by decide, rfl⟩
set_option maxRecDepth 20000 in
theorem mX10_162 : CS RX10 162 yX5_greatestGroup cX5_greatestGroup 6 (some .int) 2 := ⟨cbX5_greatestGroup, wt_mem 549 (by decide +kernel) rfl, wt_mem 550 (by decide +kernel) rfl⟩
set_option maxRecDepth 20000 in
theorem mX10_165 : CS RX10 165 yX5_border cX5_border 4 (some .int) 2 := ⟨cbX5_border, wt_mem 552 (by decide +kernel) rfl, wt_mem 553 (by decide +kernel) rfl⟩
set_option maxRecDepth 20000 in
theorem mX10_168 : CS RX10 168 yX5_fullest cX5_fullest 6 (some .int) 2 := ⟨cbX5_fullest, wt_mem 555 (by decide +kernel) rfl, wt_mem 556 (by decide +kernel) rfl⟩
set_option maxRecDepth 20000 in
theorem mL_31 : CV RL 31 yX10_cell cX10_cell 2 (some .int) 1 9 := ⟨cbX10_cell, wt_mem 558 (by decide +kernel) rfl, wt_mem 559 (by decide +kernel) rfl, wt_mem 560 (by decide +kernel) rfl, by decide, rfl⟩
set_option maxRecDepth 20000 in
theorem mX10_173 : CV RX10 173 yX7_hasCell cX7_hasCell 2 (some .boolean) 1 6 := ⟨cbX7_hasCell, wt_mem 562 (by decide +kernel) rfl, wt_mem 563 (by decide +kernel) rfl, wt_mem 564 (by decide +kernel) rfl, by decide, rfl⟩
set_option maxRecDepth 20000 in
theorem mX10_181 : CS RX10 181 yX10_pick cX10_pick 2 (some .int) 2 := ⟨cbX10_pick, wt_mem 566 (by decide +kernel) rfl, wt_mem 406 (by decide +kernel) rfl⟩
set_option maxRecDepth 20000 in
theorem mL_35 : CV RL 35 yX10_leak cX10_leak 2 (some .int) 1 9 := ⟨cbX10_leak, wt_mem 568 (by decide +kernel) rfl, wt_mem 569 (by decide +kernel) rfl, wt_mem 570 (by decide +kernel) rfl, by decide, rfl⟩
set_option maxRecDepth 20000 in
theorem mX10_186 : CV RX10 186 yX7_hasLeak cX7_hasLeak 2 (some .boolean) 1 6 := ⟨cbX7_hasLeak, wt_mem 572 (by decide +kernel) rfl, wt_mem 573 (by decide +kernel) rfl, wt_mem 574 (by decide +kernel) rfl, by decide, rfl⟩
set_option maxRecDepth 20000 in
theorem mL_39 : CV RL 39 yX10_crack cX10_crack 3 (some .int) 2 9 := ⟨cbX10_crack, wt_mem 576 (by decide +kernel) rfl, wt_mem 577 (by decide +kernel) rfl, wt_mem 578 (by decide +kernel) rfl, by decide, rfl⟩
set_option maxRecDepth 20000 in
theorem mX10_192 : CV RX10 192 yX7_hasCrack cX7_hasCrack 2 (some .boolean) 1 6 := ⟨cbX7_hasCrack, wt_mem 580 (by decide +kernel) rfl, wt_mem 581 (by decide +kernel) rfl, wt_mem 582 (by decide +kernel) rfl, by decide, rfl⟩
set_option maxRecDepth 20000 in
theorem mX10_201 : CV RX10 201 yX1_isFilled cX1_isFilled 2 (some .boolean) 1 1 := ⟨cbX1_isFilled, wt_mem 584 (by decide +kernel) rfl, wt_mem 585 (by decide +kernel) rfl, wt_mem 586 (by decide +kernel) rfl, by decide, rfl⟩
set_option maxRecDepth 20000 in
theorem mL_44 : CV RL 44 yX10_likeness cX10_likeness 4 (some .int) 2 9 := ⟨cbX10_likeness, wt_mem 588 (by decide +kernel) rfl, wt_mem 589 (by decide +kernel) rfl, wt_mem 590 (by decide +kernel) rfl, by decide, rfl⟩
set_option maxRecDepth 20000 in
theorem mX10_204 : CV RX10 204 yX7_hasFace cX7_hasFace 2 (some .boolean) 1 6 := ⟨cbX7_hasFace, wt_mem 592 (by decide +kernel) rfl, wt_mem 593 (by decide +kernel) rfl, wt_mem 594 (by decide +kernel) rfl, by decide, rfl⟩
set_option maxRecDepth 20000 in
theorem mX10_210 : CS RX10 210 yX5_like cX5_like 3 (some .int) 3 := ⟨cbX5_like, wt_mem 596 (by decide +kernel) rfl, wt_mem 523 (by decide +kernel) rfl⟩
set_option maxRecDepth 20000 in
theorem mX10_214 : CS RX10 214 yJ6_bitCount_0f7a4 cJ6_bitCount_0f7a4 1 (some .int) 1 := ⟨cbJ6_bitCount_0f7a4, wt_mem 597 (by decide +kernel) rfl, wt_mem 527 (by decide +kernel) rfl⟩
set_option maxRecDepth 20000 in
theorem mL_48 : CV RL 48 yX10_day cX10_day 3 (some .int) 2 9 := ⟨cbX10_day, wt_mem 598 (by decide +kernel) rfl, wt_mem 599 (by decide +kernel) rfl, wt_mem 600 (by decide +kernel) rfl, by decide, rfl⟩
set_option maxRecDepth 20000 in
theorem mX10_219 : CV RX10 219 yX10_noWall cX10_noWall 1 (some .boolean) 0 9 := ⟨cbX10_noWall, wt_mem 602 (by decide +kernel) rfl, wt_mem 604 (by decide +kernel) rfl, wt_mem 11 (by decide +kernel) rfl, by decide, rfl⟩
set_option maxRecDepth 20000 in
theorem mX10_225 : CV RX10 225 yX6_push cX6_push 2 none 1 5 := ⟨cbX6_push, wt_mem 608 (by decide +kernel) rfl, wt_mem 609 (by decide +kernel) rfl, wt_mem 610 (by decide +kernel) rfl, by decide, rfl⟩
set_option maxRecDepth 20000 in
theorem mX6_25 : CV RX6 25 yX1_copyFrom cX1_copyFrom 2 none 1 1 := ⟨cbX1_copyFrom, wt_mem 612 (by decide +kernel) rfl, wt_mem 613 (by decide +kernel) rfl, wt_mem 614 (by decide +kernel) rfl, by decide, rfl⟩
set_option maxRecDepth 20000 in
theorem mX1_42 : Cond.methodLink RX1 42 arraycopyName ∈ WT := wt_mem 616 (by decide +kernel) rfl
set_option maxRecDepth 20000 in
theorem mX6_29 : CS RX6 29 yJ9_min_7cf53 cJ9_min_7cf53 2 (some .int) 2 := ⟨cbJ9_min_7cf53, wt_mem 619 (by decide +kernel) rfl, wt_mem 459 (by decide +kernel) rfl⟩
set_option maxRecDepth 20000 in
theorem mX10_229 : CV RX10 229 yX3_rainDays cX3_rainDays 6 none 4 3 := ⟨cbX3_rainDays, wt_mem 620 (by decide +kernel) rfl, wt_mem 621 (by decide +kernel) rfl, wt_mem 622 (by decide +kernel) rfl, by decide, rfl⟩
set_option maxRecDepth 20000 in
theorem mX3_18 : CV RX3 18 yX3_rainDay cX3_rainDay 6 none 3 3 := ⟨cbX3_rainDay, wt_mem 624 (by decide +kernel) rfl, wt_mem 625 (by decide +kernel) rfl, wt_mem 626 (by decide +kernel) rfl, by decide, rfl⟩
set_option maxRecDepth 20000 in
theorem mX3_40 : CS RX3 40 yJ9_min_7cf53 cJ9_min_7cf53 2 (some .int) 2 := ⟨cbJ9_min_7cf53, wt_mem 629 (by decide +kernel) rfl, wt_mem 459 (by decide +kernel) rfl⟩
set_option maxRecDepth 20000 in
theorem mX3_50 : Cond.methodLink RX3 50 arraycopyName ∈ WT := wt_mem 631 (by decide +kernel) rfl
set_option maxRecDepth 20000 in
theorem mX3_56 : CV RX3 56 yX3_runDownAndByWind cX3_runDownAndByWind 4 none 2 3 := ⟨cbX3_runDownAndByWind, wt_mem 632 (by decide +kernel) rfl, wt_mem 634 (by decide +kernel) rfl, wt_mem 12 (by decide +kernel) rfl, by decide, rfl⟩
set_option maxRecDepth 20000 in
theorem mX3_70 : CV RX3 70 yX7_below cX7_below 2 (some .int) 1 6 := ⟨cbX7_below, wt_mem 636 (by decide +kernel) rfl, wt_mem 637 (by decide +kernel) rfl, wt_mem 638 (by decide +kernel) rfl, by decide, rfl⟩
set_option maxRecDepth 20000 in
theorem mX3_74 : CV RX3 74 yX3_give cX3_give 4 none 3 3 := ⟨cbX3_give, wt_mem 640 (by decide +kernel) rfl, wt_mem 642 (by decide +kernel) rfl, wt_mem 13 (by decide +kernel) rfl, by decide, rfl⟩
set_option maxRecDepth 20000 in
theorem mX3_81 : CV RX3 81 yX7_beside cX7_beside 3 (some .int) 2 6 := ⟨cbX7_beside, wt_mem 644 (by decide +kernel) rfl, wt_mem 645 (by decide +kernel) rfl, wt_mem 646 (by decide +kernel) rfl, by decide, rfl⟩
set_option maxRecDepth 20000 in
theorem mX3_60 : CV RX3 60 yX3_runByCracks cX3_runByCracks 7 none 2 3 := ⟨cbX3_runByCracks, wt_mem 648 (by decide +kernel) rfl, wt_mem 650 (by decide +kernel) rfl, wt_mem 14 (by decide +kernel) rfl, by decide, rfl⟩
set_option maxRecDepth 20000 in
theorem mX3_87 : CV RX3 87 yX1_isFilled cX1_isFilled 2 (some .boolean) 1 1 := ⟨cbX1_isFilled, wt_mem 652 (by decide +kernel) rfl, wt_mem 585 (by decide +kernel) rfl, wt_mem 586 (by decide +kernel) rfl, by decide, rfl⟩
set_option maxRecDepth 20000 in
theorem mX3_63 : CV RX3 63 yX3_settle cX3_settle 5 none 2 3 := ⟨cbX3_settle, wt_mem 653 (by decide +kernel) rfl, wt_mem 655 (by decide +kernel) rfl, wt_mem 15 (by decide +kernel) rfl, by decide, rfl⟩
set_option maxRecDepth 20000 in
theorem mX3_97 : CS RX3 97 yJ9_max_7cf53 cJ9_max_7cf53 2 (some .int) 2 := ⟨cbJ9_max_7cf53, wt_mem 657 (by decide +kernel) rfl, wt_mem 462 (by decide +kernel) rfl⟩
set_option maxRecDepth 20000 in
theorem mX10_233 : CV RX10 233 yX1_markCount cX1_markCount 1 (some .int) 0 1 := ⟨cbX1_markCount, wt_mem 658 (by decide +kernel) rfl, wt_mem 659 (by decide +kernel) rfl, wt_mem 660 (by decide +kernel) rfl, by decide, rfl⟩
set_option maxRecDepth 20000 in
theorem mX1_48 : CV RX1 48 yX1_marks cX1_marks 3 (some .int) 0 1 := ⟨cbX1_marks, wt_mem 662 (by decide +kernel) rfl, wt_mem 511 (by decide +kernel) rfl, wt_mem 512 (by decide +kernel) rfl, by decide, rfl⟩
set_option maxRecDepth 20000 in
theorem mX1_52 : CS RX1 52 yJ6_bitCount_0f7a4 cJ6_bitCount_0f7a4 1 (some .int) 1 := ⟨cbJ6_bitCount_0f7a4, wt_mem 663 (by decide +kernel) rfl, wt_mem 527 (by decide +kernel) rfl⟩
set_option maxRecDepth 20000 in
theorem mL_52 : CV RL 52 yX10_look cX10_look 1 (some .int) 0 9 := ⟨cbX10_look, wt_mem 664 (by decide +kernel) rfl, wt_mem 665 (by decide +kernel) rfl, wt_mem 666 (by decide +kernel) rfl, by decide, rfl⟩
set_option maxRecDepth 20000 in
theorem mX10_236 : CV RX10 236 yX1_shrink cX1_shrink 4 none 1 1 := ⟨cbX1_shrink, wt_mem 668 (by decide +kernel) rfl, wt_mem 669 (by decide +kernel) rfl, wt_mem 670 (by decide +kernel) rfl, by decide, rfl⟩
set_option maxRecDepth 20000 in
theorem mX1_58 : CS RX1 58 yX5_lonely cX5_lonely 6 (some .int) 2 := ⟨cbX5_lonely, wt_mem 672 (by decide +kernel) rfl, wt_mem 673 (by decide +kernel) rfl⟩
set_option maxRecDepth 20000 in
theorem mL_56 : CV RL 56 yX10_brush cX10_brush 3 (some .int) 1 9 := ⟨cbX10_brush, wt_mem 675 (by decide +kernel) rfl, wt_mem 676 (by decide +kernel) rfl, wt_mem 677 (by decide +kernel) rfl, by decide, rfl⟩
set_option maxRecDepth 20000 in
theorem mX10_239 : CS RX10 239 yX10_put cX10_put 3 none 3 := ⟨cbX10_put, wt_mem 679 (by decide +kernel) rfl, wt_mem 383 (by decide +kernel) rfl⟩
set_option maxRecDepth 20000 in
theorem mL_60 : CV RL 60 yX10_lead cX10_lead 4 (some .int) 2 9 := ⟨cbX10_lead, wt_mem 680 (by decide +kernel) rfl, wt_mem 681 (by decide +kernel) rfl, wt_mem 682 (by decide +kernel) rfl, by decide, rfl⟩
set_option maxRecDepth 20000 in
theorem mL_64 : CV RL 64 yX10_wind cX10_wind 3 (some .int) 1 9 := ⟨cbX10_wind, wt_mem 684 (by decide +kernel) rfl, wt_mem 685 (by decide +kernel) rfl, wt_mem 686 (by decide +kernel) rfl, by decide, rfl⟩
set_option maxRecDepth 20000 in
theorem mL_68 : CV RL 68 yX10_fill cX10_fill 4 (some .int) 2 9 := ⟨cbX10_fill, wt_mem 688 (by decide +kernel) rfl, wt_mem 689 (by decide +kernel) rfl, wt_mem 690 (by decide +kernel) rfl, by decide, rfl⟩
set_option maxRecDepth 20000 in
theorem mL_73 : CV RL 73 yX10_drift cX10_drift 3 (some .int) 1 9 := ⟨cbX10_drift, wt_mem 692 (by decide +kernel) rfl, wt_mem 693 (by decide +kernel) rfl, wt_mem 694 (by decide +kernel) rfl, by decide, rfl⟩
set_option maxRecDepth 20000 in
theorem mX10_243 : CV RX10 243 yX10_driftOneDay cX10_driftOneDay 3 none 0 9 := ⟨cbX10_driftOneDay, wt_mem 696 (by decide +kernel) rfl, wt_mem 698 (by decide +kernel) rfl, wt_mem 16 (by decide +kernel) rfl, by decide, rfl⟩
set_option maxRecDepth 20000 in
theorem mX10_309 : CV RX10 309 yX2_draw cX2_draw 2 (some .int) 1 2 := ⟨cbX2_draw, wt_mem 700 (by decide +kernel) rfl, wt_mem 701 (by decide +kernel) rfl, wt_mem 702 (by decide +kernel) rfl, by decide, rfl⟩
set_option maxRecDepth 20000 in
theorem mX10_312 : CV RX10 312 yX3_rainDay cX3_rainDay 6 none 3 3 := ⟨cbX3_rainDay, wt_mem 707 (by decide +kernel) rfl, wt_mem 625 (by decide +kernel) rfl, wt_mem 626 (by decide +kernel) rfl, by decide, rfl⟩
set_option maxRecDepth 20000 in
theorem mL_77 : CV RL 77 yX10_undo cX10_undo 1 (some .int) 0 9 := ⟨cbX10_undo, wt_mem 708 (by decide +kernel) rfl, wt_mem 709 (by decide +kernel) rfl, wt_mem 710 (by decide +kernel) rfl, by decide, rfl⟩
set_option maxRecDepth 20000 in
theorem mX10_246 : CV RX10 246 yX6_pop cX6_pop 2 (some .boolean) 1 5 := ⟨cbX6_pop, wt_mem 712 (by decide +kernel) rfl, wt_mem 713 (by decide +kernel) rfl, wt_mem 714 (by decide +kernel) rfl, by decide, rfl⟩
set_option maxRecDepth 20000 in
theorem mL_81 : CV RL 81 yX10_shown cX10_shown 3 (some .int) 2 9 := ⟨cbX10_shown, wt_mem 716 (by decide +kernel) rfl, wt_mem 717 (by decide +kernel) rfl, wt_mem 718 (by decide +kernel) rfl, by decide, rfl⟩
set_option maxRecDepth 20000 in
theorem mX10_250 : CV RX10 250 yX9_marksBehind cX9_marksBehind 5 (some .int) 4 8 := ⟨cbX9_marksBehind, wt_mem 720 (by decide +kernel) rfl, wt_mem 721 (by decide +kernel) rfl, wt_mem 722 (by decide +kernel) rfl, by decide, rfl⟩
set_option maxRecDepth 20000 in
theorem mX9_29 : CV RX9 29 yX1_copyFrom cX1_copyFrom 2 none 1 1 := ⟨cbX1_copyFrom, wt_mem 724 (by decide +kernel) rfl, wt_mem 613 (by decide +kernel) rfl, wt_mem 614 (by decide +kernel) rfl, by decide, rfl⟩
set_option maxRecDepth 20000 in
theorem mX9_33 : CV RX9 33 yX3_rainDays cX3_rainDays 6 none 4 3 := ⟨cbX3_rainDays, wt_mem 725 (by decide +kernel) rfl, wt_mem 621 (by decide +kernel) rfl, wt_mem 622 (by decide +kernel) rfl, by decide, rfl⟩
set_option maxRecDepth 20000 in
theorem mX9_37 : CV RX9 37 yX1_marks cX1_marks 3 (some .int) 0 1 := ⟨cbX1_marks, wt_mem 726 (by decide +kernel) rfl, wt_mem 511 (by decide +kernel) rfl, wt_mem 512 (by decide +kernel) rfl, by decide, rfl⟩
set_option maxRecDepth 20000 in
theorem mL_85 : CV RL 85 yX10_first cX10_first 3 (some .int) 2 9 := ⟨cbX10_first, wt_mem 727 (by decide +kernel) rfl, wt_mem 728 (by decide +kernel) rfl, wt_mem 729 (by decide +kernel) rfl, by decide, rfl⟩
set_option maxRecDepth 20000 in
theorem mX10_254 : CV RX10 254 yX9_daysTillMarks cX9_daysTillMarks 6 (some .int) 4 8 := ⟨cbX9_daysTillMarks, wt_mem 731 (by decide +kernel) rfl, wt_mem 732 (by decide +kernel) rfl, wt_mem 733 (by decide +kernel) rfl, by decide, rfl⟩
set_option maxRecDepth 20000 in
theorem mX9_41 : CV RX9 41 yX1_markCount cX1_markCount 1 (some .int) 0 1 := ⟨cbX1_markCount, wt_mem 735 (by decide +kernel) rfl, wt_mem 659 (by decide +kernel) rfl, wt_mem 660 (by decide +kernel) rfl, by decide, rfl⟩
set_option maxRecDepth 20000 in
theorem mX9_44 : CV RX9 44 yX3_rainDay cX3_rainDay 6 none 3 3 := ⟨cbX3_rainDay, wt_mem 736 (by decide +kernel) rfl, wt_mem 625 (by decide +kernel) rfl, wt_mem 626 (by decide +kernel) rfl, by decide, rfl⟩
set_option maxRecDepth 20000 in
theorem mL_89 : CV RL 89 yX10_leadTo cX10_leadTo 6 (some .int) 5 9 := ⟨cbX10_leadTo, wt_mem 737 (by decide +kernel) rfl, wt_mem 738 (by decide +kernel) rfl, wt_mem 739 (by decide +kernel) rfl, by decide, rfl⟩
set_option maxRecDepth 20000 in
theorem mX10_257 : CV RX10 257 yX9_leadBest cX9_leadBest 9 none 6 8 := ⟨cbX9_leadBest, wt_mem 741 (by decide +kernel) rfl, wt_mem 742 (by decide +kernel) rfl, wt_mem 743 (by decide +kernel) rfl, by decide, rfl⟩
set_option maxRecDepth 20000 in
theorem mX9_58 : CV RX9 58 yX7_cells cX7_cells 1 (some .int) 0 6 := ⟨cbX7_cells, wt_mem 745 (by decide +kernel) rfl, wt_mem 442 (by decide +kernel) rfl, wt_mem 443 (by decide +kernel) rfl, by decide, rfl⟩
set_option maxRecDepth 20000 in
theorem mX9_71 : CS RX9 71 yX5_like cX5_like 3 (some .int) 3 := ⟨cbX5_like, wt_mem 747 (by decide +kernel) rfl, wt_mem 523 (by decide +kernel) rfl⟩
set_option maxRecDepth 20000 in
theorem mL_94 : CV RL 94 yX10_often cX10_often 5 (some .int) 4 9 := ⟨cbX10_often, wt_mem 748 (by decide +kernel) rfl, wt_mem 749 (by decide +kernel) rfl, wt_mem 750 (by decide +kernel) rfl, by decide, rfl⟩
set_option maxRecDepth 20000 in
theorem mX10_267 : CV RX10 267 yX9_lookMost cX9_lookMost 6 none 5 8 := ⟨cbX9_lookMost, wt_mem 752 (by decide +kernel) rfl, wt_mem 753 (by decide +kernel) rfl, wt_mem 754 (by decide +kernel) rfl, by decide, rfl⟩
set_option maxRecDepth 20000 in
theorem mX9_100 : CS RX9 100 yX9_tryLooks cX9_tryLooks 6 none 5 := ⟨cbX9_tryLooks, wt_mem 756 (by decide +kernel) rfl, wt_mem 757 (by decide +kernel) rfl⟩
set_option maxRecDepth 20000 in
theorem mX9_104 : CV RX9 104 yX9_weigh cX9_weigh 5 none 2 8 := ⟨cbX9_weigh, wt_mem 759 (by decide +kernel) rfl, wt_mem 761 (by decide +kernel) rfl, wt_mem 17 (by decide +kernel) rfl, by decide, rfl⟩
set_option maxRecDepth 20000 in
theorem mX9_85 : CS RX9 85 yJ6_bitCount_0f7a4 cJ6_bitCount_0f7a4 1 (some .int) 1 := ⟨cbJ6_bitCount_0f7a4, wt_mem 763 (by decide +kernel) rfl, wt_mem 527 (by decide +kernel) rfl⟩
set_option maxRecDepth 20000 in
theorem mX9_108 : CV RX9 108 yX1_shrink cX1_shrink 4 none 1 1 := ⟨cbX1_shrink, wt_mem 764 (by decide +kernel) rfl, wt_mem 669 (by decide +kernel) rfl, wt_mem 670 (by decide +kernel) rfl, by decide, rfl⟩
set_option maxRecDepth 20000 in
theorem mL_99 : CV RL 99 yX10_wasRain cX10_wasRain 2 (some .int) 1 9 := ⟨cbX10_wasRain, wt_mem 765 (by decide +kernel) rfl, wt_mem 766 (by decide +kernel) rfl, wt_mem 767 (by decide +kernel) rfl, by decide, rfl⟩
set_option maxRecDepth 20000 in
theorem mX10_271 : CV RX10 271 yX7_allCells cX7_allCells 1 (some .int) 0 6 := ⟨cbX7_allCells, wt_mem 769 (by decide +kernel) rfl, wt_mem 545 (by decide +kernel) rfl, wt_mem 546 (by decide +kernel) rfl, by decide, rfl⟩
set_option maxRecDepth 20000 in
theorem mX10_274 : CV RX10 274 yX9_rainsThatShow cX9_rainsThatShow 6 (some .int) 3 8 := ⟨cbX9_rainsThatShow, wt_mem 770 (by decide +kernel) rfl, wt_mem 771 (by decide +kernel) rfl, wt_mem 772 (by decide +kernel) rfl, by decide, rfl⟩
set_option maxRecDepth 20000 in
theorem mX9_77 : CV RX9 77 yX9_marksBehind cX9_marksBehind 5 (some .int) 4 8 := ⟨cbX9_marksBehind, wt_mem 774 (by decide +kernel) rfl, wt_mem 721 (by decide +kernel) rfl, wt_mem 722 (by decide +kernel) rfl, by decide, rfl⟩
set_option maxRecDepth 20000 in
theorem mL_103 : CV RL 103 yX10_rainToTell cX10_rainToTell 2 (some .int) 1 9 := ⟨cbX10_rainToTell, wt_mem 775 (by decide +kernel) rfl, wt_mem 776 (by decide +kernel) rfl, wt_mem 777 (by decide +kernel) rfl, by decide, rfl⟩
set_option maxRecDepth 20000 in
theorem mX10_278 : CV RX10 278 yX9_rainThatLeavesFewest cX9_rainThatLeavesFewest 5 none 2 8 := ⟨cbX9_rainThatLeavesFewest, wt_mem 779 (by decide +kernel) rfl, wt_mem 780 (by decide +kernel) rfl, wt_mem 781 (by decide +kernel) rfl, by decide, rfl⟩
set_option maxRecDepth 20000 in
theorem mX9_81 : CS RX9 81 yX5_mayBe cX5_mayBe 4 (some .int) 2 := ⟨cbX5_mayBe, wt_mem 783 (by decide +kernel) rfl, wt_mem 533 (by decide +kernel) rfl⟩
set_option maxRecDepth 20000 in
theorem mL_107 : CV RL 107 yX10_dryIn cX10_dryIn 1 (some .int) 0 9 := ⟨cbX10_dryIn, wt_mem 784 (by decide +kernel) rfl, wt_mem 785 (by decide +kernel) rfl, wt_mem 786 (by decide +kernel) rfl, by decide, rfl⟩
set_option maxRecDepth 20000 in
theorem mX10_282 : CV RX10 282 yX9_daysTillDry cX9_daysTillDry 4 (some .int) 2 8 := ⟨cbX9_daysTillDry, wt_mem 788 (by decide +kernel) rfl, wt_mem 789 (by decide +kernel) rfl, wt_mem 790 (by decide +kernel) rfl, by decide, rfl⟩
set_option maxRecDepth 20000 in
theorem mX9_48 : CV RX9 48 yX1_allWet cX1_allWet 3 (some .int) 0 1 := ⟨cbX1_allWet, wt_mem 792 (by decide +kernel) rfl, wt_mem 515 (by decide +kernel) rfl, wt_mem 516 (by decide +kernel) rfl, by decide, rfl⟩
set_option maxRecDepth 20000 in
theorem mL_111 : CV RL 111 yX10_either cX10_either 6 (some .int) 3 9 := ⟨cbX10_either, wt_mem 793 (by decide +kernel) rfl, wt_mem 794 (by decide +kernel) rfl, wt_mem 795 (by decide +kernel) rfl, by decide, rfl⟩
set_option maxRecDepth 20000 in
theorem mL_116 : CV RL 116 yX10_rainy cX10_rainy 6 (some .int) 2 9 := ⟨cbX10_rainy, wt_mem 797 (by decide +kernel) rfl, wt_mem 798 (by decide +kernel) rfl, wt_mem 799 (by decide +kernel) rfl, by decide, rfl⟩
set_option maxRecDepth 20000 in
theorem mL_120 : CV RL 120 yX10_write cX10_write 3 (some .int) 2 9 := ⟨cbX10_write, wt_mem 803 (by decide +kernel) rfl, wt_mem 804 (by decide +kernel) rfl, wt_mem 805 (by decide +kernel) rfl, by decide, rfl⟩
set_option maxRecDepth 20000 in
theorem mX10_290 : CV RX10 290 yX0_add cX0_add 3 (some .int) 2 0 := ⟨cbX0_add, wt_mem 807 (by decide +kernel) rfl, wt_mem 808 (by decide +kernel) rfl, wt_mem 809 (by decide +kernel) rfl, by decide, rfl⟩
set_option maxRecDepth 20000 in
theorem mL_124 : CV RL 124 yX10_tear cX10_tear 2 (some .int) 0 9 := ⟨cbX10_tear, wt_mem 813 (by decide +kernel) rfl, wt_mem 814 (by decide +kernel) rfl, wt_mem 815 (by decide +kernel) rfl, by decide, rfl⟩
set_option maxRecDepth 20000 in
theorem mL_128 : CV RL 128 yX10_judge cX10_judge 1 (some .int) 0 9 := ⟨cbX10_judge, wt_mem 817 (by decide +kernel) rfl, wt_mem 818 (by decide +kernel) rfl, wt_mem 819 (by decide +kernel) rfl, by decide, rfl⟩
set_option maxRecDepth 20000 in
theorem mX10_293 : CV RX10 293 yX0_firstWrong cX0_firstWrong 3 (some .int) 1 0 := ⟨cbX0_firstWrong, wt_mem 821 (by decide +kernel) rfl, wt_mem 822 (by decide +kernel) rfl, wt_mem 823 (by decide +kernel) rfl, by decide, rfl⟩
set_option maxRecDepth 20000 in
theorem mL_132 : CV RL 132 yX10_seed cX10_seed 3 (some .int) 1 9 := ⟨cbX10_seed, wt_mem 826 (by decide +kernel) rfl, wt_mem 827 (by decide +kernel) rfl, wt_mem 828 (by decide +kernel) rfl, by decide, rfl⟩
set_option maxRecDepth 20000 in
theorem mL_136 : CV RL 136 yX10_keep cX10_keep 3 (some .int) 1 9 := ⟨cbX10_keep, wt_mem 830 (by decide +kernel) rfl, wt_mem 831 (by decide +kernel) rfl, wt_mem 832 (by decide +kernel) rfl, by decide, rfl⟩
set_option maxRecDepth 20000 in
theorem mX10_303 : CV RX10 303 yX1_copyFrom cX1_copyFrom 2 none 1 1 := ⟨cbX1_copyFrom, wt_mem 834 (by decide +kernel) rfl, wt_mem 613 (by decide +kernel) rfl, wt_mem 614 (by decide +kernel) rfl, by decide, rfl⟩
set_option maxRecDepth 20000 in
theorem mL_140 : CV RL 140 yX10_goBack cX10_goBack 3 (some .int) 1 9 := ⟨cbX10_goBack, wt_mem 835 (by decide +kernel) rfl, wt_mem 836 (by decide +kernel) rfl, wt_mem 837 (by decide +kernel) rfl, by decide, rfl⟩
set_option maxRecDepth 20000 in
theorem mL_17 : CV RL 17 yX11_feed cX11_feed 2 (some .int) 1 10 := ⟨cbX11_feed, wt_mem 967 (by decide +kernel) rfl, wt_mem 968 (by decide +kernel) rfl, wt_mem 969 (by decide +kernel) rfl, by decide, rfl⟩
set_option maxRecDepth 20000 in
theorem mX11_82 : CS RX11 82 yX11_in cX11_in 6 (some .boolean) 3 := ⟨cbX11_in, wt_mem 972 (by decide +kernel) rfl, wt_mem 973 (by decide +kernel) rfl⟩
set_option maxRecDepth 20000 in
theorem mL_22 : CV RL 22 yX11_wall cX11_wall 2 (some .int) 0 10 := ⟨cbX11_wall, wt_mem 977 (by decide +kernel) rfl, wt_mem 978 (by decide +kernel) rfl, wt_mem 979 (by decide +kernel) rfl, by decide, rfl⟩
set_option maxRecDepth 20000 in
theorem mX11_105 : CV RX11 105 yX11_here cX11_here 1 (some .int) 0 10 := ⟨cbX11_here, wt_mem 981 (by decide +kernel) rfl, wt_mem 983 (by decide +kernel) rfl, wt_mem 18 (by decide +kernel) rfl, by decide, rfl⟩
set_option maxRecDepth 20000 in
theorem mX11_192 : CV RX11 192 yX11_takeClause cX11_takeClause 4 (some .int) 0 10 := ⟨cbX11_takeClause, wt_mem 985 (by decide +kernel) rfl, wt_mem 987 (by decide +kernel) rfl, wt_mem 19 (by decide +kernel) rfl, by decide, rfl⟩
set_option maxRecDepth 20000 in
theorem mX11_112 : CV RX11 112 yX11_fails cX11_fails 3 (some .int) 2 10 := ⟨cbX11_fails, wt_mem 989 (by decide +kernel) rfl, wt_mem 991 (by decide +kernel) rfl, wt_mem 20 (by decide +kernel) rfl, by decide, rfl⟩
set_option maxRecDepth 20000 in
theorem mX11_177 : CV RX11 177 yX11_isFull cX11_isFull 2 (some .boolean) 1 10 := ⟨cbX11_isFull, wt_mem 993 (by decide +kernel) rfl, wt_mem 995 (by decide +kernel) rfl, wt_mem 21 (by decide +kernel) rfl, by decide, rfl⟩
set_option maxRecDepth 20000 in
theorem mX11_181 : CV RX11 181 yX11_takeBody cX11_takeBody 2 (some .int) 1 10 := ⟨cbX11_takeBody, wt_mem 997 (by decide +kernel) rfl, wt_mem 999 (by decide +kernel) rfl, wt_mem 22 (by decide +kernel) rfl, by decide, rfl⟩
set_option maxRecDepth 20000 in
theorem mX11_162 : CV RX11 162 yX11_takeWall cX11_takeWall 2 (some .int) 0 10 := ⟨cbX11_takeWall, wt_mem 1001 (by decide +kernel) rfl, wt_mem 1003 (by decide +kernel) rfl, wt_mem 23 (by decide +kernel) rfl, by decide, rfl⟩
set_option maxRecDepth 20000 in
theorem mX11_122 : CV RX11 122 yX11_takeNumber cX11_takeNumber 4 (some .int) 2 10 := ⟨cbX11_takeNumber, wt_mem 1005 (by decide +kernel) rfl, wt_mem 1007 (by decide +kernel) rfl, wt_mem 24 (by decide +kernel) rfl, by decide, rfl⟩
set_option maxRecDepth 20000 in
theorem mX11_165 : CV RX11 165 yX11_takeLeak cX11_takeLeak 1 (some .int) 0 10 := ⟨cbX11_takeLeak, wt_mem 1011 (by decide +kernel) rfl, wt_mem 1013 (by decide +kernel) rfl, wt_mem 25 (by decide +kernel) rfl, by decide, rfl⟩
set_option maxRecDepth 20000 in
theorem mX11_134 : CV RX11 134 yX11_readCells cX11_readCells 1 (some .int) 0 10 := ⟨cbX11_readCells, wt_mem 1015 (by decide +kernel) rfl, wt_mem 1017 (by decide +kernel) rfl, wt_mem 26 (by decide +kernel) rfl, by decide, rfl⟩
set_option maxRecDepth 20000 in
theorem mX11_137 : CV RX11 137 yX11_into cX11_into 6 (some .int) 4 10 := ⟨cbX11_into, wt_mem 1019 (by decide +kernel) rfl, wt_mem 1021 (by decide +kernel) rfl, wt_mem 27 (by decide +kernel) rfl, by decide, rfl⟩
set_option maxRecDepth 20000 in
theorem mX11_168 : CV RX11 168 yX11_takeCrack cX11_takeCrack 3 (some .int) 0 10 := ⟨cbX11_takeCrack, wt_mem 1023 (by decide +kernel) rfl, wt_mem 1025 (by decide +kernel) rfl, wt_mem 28 (by decide +kernel) rfl, by decide, rfl⟩
set_option maxRecDepth 20000 in
theorem mX11_144 : CS RX11 144 yX11_areNext cX11_areNext 5 (some .boolean) 3 := ⟨cbX11_areNext, wt_mem 1027 (by decide +kernel) rfl, wt_mem 1028 (by decide +kernel) rfl⟩
set_option maxRecDepth 20000 in
theorem mX11_148 : CV RX11 148 yX11_isTold cX11_isTold 5 (some .boolean) 2 10 := ⟨cbX11_isTold, wt_mem 1030 (by decide +kernel) rfl, wt_mem 1032 (by decide +kernel) rfl, wt_mem 29 (by decide +kernel) rfl, by decide, rfl⟩
set_option maxRecDepth 20000 in
theorem mX11_171 : CV RX11 171 yX11_takeLike cX11_takeLike 4 (some .int) 0 10 := ⟨cbX11_takeLike, wt_mem 1034 (by decide +kernel) rfl, wt_mem 1036 (by decide +kernel) rfl, wt_mem 30 (by decide +kernel) rfl, by decide, rfl⟩
set_option maxRecDepth 20000 in
theorem mX11_174 : CV RX11 174 yX11_takeWind cX11_takeWind 2 (some .int) 0 10 := ⟨cbX11_takeWind, wt_mem 1038 (by decide +kernel) rfl, wt_mem 1040 (by decide +kernel) rfl, wt_mem 31 (by decide +kernel) rfl, by decide, rfl⟩
set_option maxRecDepth 20000 in
theorem mX11_195 : CV RX11 195 yX11_takeRead cX11_takeRead 2 none 0 10 := ⟨cbX11_takeRead, wt_mem 1042 (by decide +kernel) rfl, wt_mem 1044 (by decide +kernel) rfl, wt_mem 32 (by decide +kernel) rfl, by decide, rfl⟩
set_option maxRecDepth 20000 in
theorem mX11_188 : CS RX11 188 yX11_copyRow cX11_copyRow 4 none 3 := ⟨cbX11_copyRow, wt_mem 1046 (by decide +kernel) rfl, wt_mem 1047 (by decide +kernel) rfl⟩
set_option maxRecDepth 20000 in
theorem mX11_78 : CV RX11 78 yX11_cells cX11_cells 1 (some .int) 0 10 := ⟨cbX11_cells, wt_mem 1049 (by decide +kernel) rfl, wt_mem 1051 (by decide +kernel) rfl, wt_mem 33 (by decide +kernel) rfl, by decide, rfl⟩
set_option maxRecDepth 20000 in
theorem mL_26 : CV RL 26 yX11_fault cX11_fault 1 (some .int) 0 10 := ⟨cbX11_fault, wt_mem 1053 (by decide +kernel) rfl, wt_mem 1054 (by decide +kernel) rfl, wt_mem 1055 (by decide +kernel) rfl, by decide, rfl⟩
set_option maxRecDepth 20000 in
theorem mL_30 : CV RL 30 yX11_told cX11_told 2 (some .int) 1 10 := ⟨cbX11_told, wt_mem 1057 (by decide +kernel) rfl, wt_mem 1058 (by decide +kernel) rfl, wt_mem 1059 (by decide +kernel) rfl, by decide, rfl⟩
set_option maxRecDepth 20000 in
theorem mX11_204 : CV RX11 204 yX11_shows cX11_shows 3 (some .int) 0 10 := ⟨cbX11_shows, wt_mem 1061 (by decide +kernel) rfl, wt_mem 1063 (by decide +kernel) rfl, wt_mem 34 (by decide +kernel) rfl, by decide, rfl⟩
set_option maxRecDepth 20000 in
theorem mX11_222 : CV RX11 222 yX11_allWet cX11_allWet 3 (some .int) 0 10 := ⟨cbX11_allWet, wt_mem 1065 (by decide +kernel) rfl, wt_mem 1067 (by decide +kernel) rfl, wt_mem 35 (by decide +kernel) rfl, by decide, rfl⟩
set_option maxRecDepth 20000 in
theorem mX11_225 : CV RX11 225 yX11_whom cX11_whom 5 (some .int) 0 10 := ⟨cbX11_whom, wt_mem 1069 (by decide +kernel) rfl, wt_mem 1071 (by decide +kernel) rfl, wt_mem 36 (by decide +kernel) rfl, by decide, rfl⟩
set_option maxRecDepth 20000 in
theorem mX11_210 : CV RX11 210 yX11_likeOf cX11_likeOf 2 (some .int) 1 10 := ⟨cbX11_likeOf, wt_mem 1073 (by decide +kernel) rfl, wt_mem 1075 (by decide +kernel) rfl, wt_mem 37 (by decide +kernel) rfl, by decide, rfl⟩
set_option maxRecDepth 20000 in
theorem mX11_207 : CS RX11 207 yX11_bits cX11_bits 3 (some .int) 1 := ⟨cbX11_bits, wt_mem 1077 (by decide +kernel) rfl, wt_mem 1078 (by decide +kernel) rfl⟩
set_option maxRecDepth 20000 in
theorem mX11_228 : CV RX11 228 yX11_mayBe cX11_mayBe 3 (some .int) 0 10 := ⟨cbX11_mayBe, wt_mem 1080 (by decide +kernel) rfl, wt_mem 1082 (by decide +kernel) rfl, wt_mem 38 (by decide +kernel) rfl, by decide, rfl⟩
set_option maxRecDepth 20000 in
theorem mX11_231 : CV RX11 231 yX11_groups cX11_groups 7 (some .int) 1 10 := ⟨cbX11_groups, wt_mem 1084 (by decide +kernel) rfl, wt_mem 1086 (by decide +kernel) rfl, wt_mem 39 (by decide +kernel) rfl, by decide, rfl⟩
set_option maxRecDepth 20000 in
theorem mX11_213 : CS RX11 213 yX11_has cX11_has 2 (some .boolean) 2 := ⟨cbX11_has, wt_mem 1088 (by decide +kernel) rfl, wt_mem 1089 (by decide +kernel) rfl⟩
set_option maxRecDepth 20000 in
theorem mX11_219 : CV RX11 219 yX11_groupOf cX11_groupOf 7 (some .int) 1 10 := ⟨cbX11_groupOf, wt_mem 1091 (by decide +kernel) rfl, wt_mem 1093 (by decide +kernel) rfl, wt_mem 40 (by decide +kernel) rfl, by decide, rfl⟩
set_option maxRecDepth 20000 in
theorem mX11_216 : CV RX11 216 yX11_around cX11_around 4 (some .int) 1 10 := ⟨cbX11_around, wt_mem 1095 (by decide +kernel) rfl, wt_mem 1097 (by decide +kernel) rfl, wt_mem 41 (by decide +kernel) rfl, by decide, rfl⟩
set_option maxRecDepth 20000 in
theorem mX11_235 : CV RX11 235 yX11_border cX11_border 4 (some .int) 0 10 := ⟨cbX11_border, wt_mem 1099 (by decide +kernel) rfl, wt_mem 1101 (by decide +kernel) rfl, wt_mem 42 (by decide +kernel) rfl, by decide, rfl⟩
set_option maxRecDepth 20000 in
theorem mX11_238 : CV RX11 238 yX11_fullest cX11_fullest 6 (some .int) 0 10 := ⟨cbX11_fullest, wt_mem 1103 (by decide +kernel) rfl, wt_mem 1105 (by decide +kernel) rfl, wt_mem 43 (by decide +kernel) rfl, by decide, rfl⟩
set_option maxRecDepth 20000 in
theorem mL_34 : CV RL 34 yX11_cell cX11_cell 2 (some .int) 1 10 := ⟨cbX11_cell, wt_mem 1107 (by decide +kernel) rfl, wt_mem 1108 (by decide +kernel) rfl, wt_mem 1109 (by decide +kernel) rfl, by decide, rfl⟩
set_option maxRecDepth 20000 in
theorem mX11_241 : CV RX11 241 yX11_isCell cX11_isCell 2 (some .boolean) 1 10 := ⟨cbX11_isCell, wt_mem 1111 (by decide +kernel) rfl, wt_mem 1113 (by decide +kernel) rfl, wt_mem 44 (by decide +kernel) rfl, by decide, rfl⟩
set_option maxRecDepth 20000 in
theorem mL_38 : CV RL 38 yX11_leak cX11_leak 2 (some .int) 1 10 := ⟨cbX11_leak, wt_mem 1116 (by decide +kernel) rfl, wt_mem 1117 (by decide +kernel) rfl, wt_mem 1118 (by decide +kernel) rfl, by decide, rfl⟩
set_option maxRecDepth 20000 in
theorem mX11_245 : CV RX11 245 yX11_isLeak cX11_isLeak 2 (some .boolean) 1 10 := ⟨cbX11_isLeak, wt_mem 1120 (by decide +kernel) rfl, wt_mem 1122 (by decide +kernel) rfl, wt_mem 45 (by decide +kernel) rfl, by decide, rfl⟩
set_option maxRecDepth 20000 in
theorem mL_43 : CV RL 43 yX11_crack cX11_crack 3 (some .int) 2 10 := ⟨cbX11_crack, wt_mem 1124 (by decide +kernel) rfl, wt_mem 1125 (by decide +kernel) rfl, wt_mem 1126 (by decide +kernel) rfl, by decide, rfl⟩
set_option maxRecDepth 20000 in
theorem mX11_248 : CV RX11 248 yX11_isCrack cX11_isCrack 2 (some .boolean) 1 10 := ⟨cbX11_isCrack, wt_mem 1128 (by decide +kernel) rfl, wt_mem 1130 (by decide +kernel) rfl, wt_mem 46 (by decide +kernel) rfl, by decide, rfl⟩
set_option maxRecDepth 20000 in
theorem mL_47 : CV RL 47 yX11_likeness cX11_likeness 3 (some .int) 2 10 := ⟨cbX11_likeness, wt_mem 1132 (by decide +kernel) rfl, wt_mem 1133 (by decide +kernel) rfl, wt_mem 1134 (by decide +kernel) rfl, by decide, rfl⟩
set_option maxRecDepth 20000 in
theorem mX11_251 : CV RX11 251 yX11_isLike cX11_isLike 2 (some .boolean) 1 10 := ⟨cbX11_isLike, wt_mem 1136 (by decide +kernel) rfl, wt_mem 1138 (by decide +kernel) rfl, wt_mem 47 (by decide +kernel) rfl, by decide, rfl⟩
set_option maxRecDepth 20000 in
theorem mL_51 : CV RL 51 yX11_day cX11_day 4 (some .int) 2 10 := ⟨cbX11_day, wt_mem 1140 (by decide +kernel) rfl, wt_mem 1141 (by decide +kernel) rfl, wt_mem 1142 (by decide +kernel) rfl, by decide, rfl⟩
set_option maxRecDepth 20000 in
theorem mX11_270 : CV RX11 270 yX11_remember cX11_remember 2 none 0 10 := ⟨cbX11_remember, wt_mem 1147 (by decide +kernel) rfl, wt_mem 1149 (by decide +kernel) rfl, wt_mem 48 (by decide +kernel) rfl, by decide, rfl⟩
set_option maxRecDepth 20000 in
theorem mX11_273 : CV RX11 273 yX11_pass cX11_pass 4 none 1 10 := ⟨cbX11_pass, wt_mem 1151 (by decide +kernel) rfl, wt_mem 1153 (by decide +kernel) rfl, wt_mem 49 (by decide +kernel) rfl, by decide, rfl⟩
set_option maxRecDepth 20000 in
theorem mX11_258 : CS RX11 258 yX11_bound cX11_bound 1 (some .int) 1 := ⟨cbX11_bound, wt_mem 1155 (by decide +kernel) rfl, wt_mem 1156 (by decide +kernel) rfl⟩
set_option maxRecDepth 20000 in
theorem mX11_261 : CV RX11 261 yX11_runFrom cX11_runFrom 5 none 1 10 := ⟨cbX11_runFrom, wt_mem 1158 (by decide +kernel) rfl, wt_mem 1160 (by decide +kernel) rfl, wt_mem 50 (by decide +kernel) rfl, by decide, rfl⟩
set_option maxRecDepth 20000 in
theorem mX11_254 : CV RX11 254 yX11_give cX11_give 3 none 2 10 := ⟨cbX11_give, wt_mem 1162 (by decide +kernel) rfl, wt_mem 1164 (by decide +kernel) rfl, wt_mem 51 (by decide +kernel) rfl, by decide, rfl⟩
set_option maxRecDepth 20000 in
theorem mL_55 : CV RL 55 yX11_look cX11_look 1 (some .int) 0 10 := ⟨cbX11_look, wt_mem 1166 (by decide +kernel) rfl, wt_mem 1167 (by decide +kernel) rfl, wt_mem 1168 (by decide +kernel) rfl, by decide, rfl⟩
set_option maxRecDepth 20000 in
theorem mX11_276 : CV RX11 276 yX11_lookNow cX11_lookNow 4 none 0 10 := ⟨cbX11_lookNow, wt_mem 1170 (by decide +kernel) rfl, wt_mem 1172 (by decide +kernel) rfl, wt_mem 52 (by decide +kernel) rfl, by decide, rfl⟩
set_option maxRecDepth 20000 in
theorem mL_59 : CV RL 59 yX11_brush cX11_brush 3 (some .int) 1 10 := ⟨cbX11_brush, wt_mem 1174 (by decide +kernel) rfl, wt_mem 1175 (by decide +kernel) rfl, wt_mem 1176 (by decide +kernel) rfl, by decide, rfl⟩
set_option maxRecDepth 20000 in
theorem mL_63 : CV RL 63 yX11_lead cX11_lead 4 (some .int) 2 10 := ⟨cbX11_lead, wt_mem 1178 (by decide +kernel) rfl, wt_mem 1179 (by decide +kernel) rfl, wt_mem 1180 (by decide +kernel) rfl, by decide, rfl⟩
set_option maxRecDepth 20000 in
theorem mL_67 : CV RL 67 yX11_wind cX11_wind 3 (some .int) 1 10 := ⟨cbX11_wind, wt_mem 1182 (by decide +kernel) rfl, wt_mem 1183 (by decide +kernel) rfl, wt_mem 1184 (by decide +kernel) rfl, by decide, rfl⟩
set_option maxRecDepth 20000 in
theorem mL_72 : CV RL 72 yX11_fill cX11_fill 4 (some .int) 2 10 := ⟨cbX11_fill, wt_mem 1187 (by decide +kernel) rfl, wt_mem 1188 (by decide +kernel) rfl, wt_mem 1189 (by decide +kernel) rfl, by decide, rfl⟩
set_option maxRecDepth 20000 in
theorem mL_76 : CV RL 76 yX11_drift cX11_drift 3 (some .int) 1 10 := ⟨cbX11_drift, wt_mem 1191 (by decide +kernel) rfl, wt_mem 1192 (by decide +kernel) rfl, wt_mem 1193 (by decide +kernel) rfl, by decide, rfl⟩
set_option maxRecDepth 20000 in
theorem mX11_294 : CV RX11 294 yX11_dayByDraws cX11_dayByDraws 3 none 0 10 := ⟨cbX11_dayByDraws, wt_mem 1195 (by decide +kernel) rfl, wt_mem 1197 (by decide +kernel) rfl, wt_mem 53 (by decide +kernel) rfl, by decide, rfl⟩
set_option maxRecDepth 20000 in
theorem mX11_291 : CV RX11 291 yX11_draw cX11_draw 2 (some .int) 1 10 := ⟨cbX11_draw, wt_mem 1199 (by decide +kernel) rfl, wt_mem 1201 (by decide +kernel) rfl, wt_mem 54 (by decide +kernel) rfl, by decide, rfl⟩
set_option maxRecDepth 20000 in
theorem mL_80 : CV RL 80 yX11_undo cX11_undo 2 (some .int) 0 10 := ⟨cbX11_undo, wt_mem 1207 (by decide +kernel) rfl, wt_mem 1208 (by decide +kernel) rfl, wt_mem 1209 (by decide +kernel) rfl, by decide, rfl⟩
set_option maxRecDepth 20000 in
theorem mL_84 : CV RL 84 yX11_shown cX11_shown 3 (some .int) 2 10 := ⟨cbX11_shown, wt_mem 1211 (by decide +kernel) rfl, wt_mem 1212 (by decide +kernel) rfl, wt_mem 1213 (by decide +kernel) rfl, by decide, rfl⟩
set_option maxRecDepth 20000 in
theorem mX11_297 : CV RX11 297 yX11_shownBy cX11_shownBy 4 (some .int) 2 10 := ⟨cbX11_shownBy, wt_mem 1215 (by decide +kernel) rfl, wt_mem 1217 (by decide +kernel) rfl, wt_mem 55 (by decide +kernel) rfl, by decide, rfl⟩
set_option maxRecDepth 20000 in
theorem mL_88 : CV RL 88 yX11_first cX11_first 4 (some .int) 2 10 := ⟨cbX11_first, wt_mem 1219 (by decide +kernel) rfl, wt_mem 1220 (by decide +kernel) rfl, wt_mem 1221 (by decide +kernel) rfl, by decide, rfl⟩
set_option maxRecDepth 20000 in
theorem mL_93 : CV RL 93 yX11_leadTo cX11_leadTo 11 (some .int) 5 10 := ⟨cbX11_leadTo, wt_mem 1224 (by decide +kernel) rfl, wt_mem 1225 (by decide +kernel) rfl, wt_mem 1226 (by decide +kernel) rfl, by decide, rfl⟩
set_option maxRecDepth 20000 in
theorem mL_98 : CV RL 98 yX11_often cX11_often 8 (some .int) 4 10 := ⟨cbX11_often, wt_mem 1229 (by decide +kernel) rfl, wt_mem 1230 (by decide +kernel) rfl, wt_mem 1231 (by decide +kernel) rfl, by decide, rfl⟩
set_option maxRecDepth 20000 in
theorem mX11_306 : CV RX11 306 yX11_shownByLooks cX11_shownByLooks 5 (some .int) 3 10 := ⟨cbX11_shownByLooks, wt_mem 1234 (by decide +kernel) rfl, wt_mem 1236 (by decide +kernel) rfl, wt_mem 56 (by decide +kernel) rfl, by decide, rfl⟩
set_option maxRecDepth 20000 in
theorem mL_102 : CV RL 102 yX11_wasRain cX11_wasRain 4 (some .int) 1 10 := ⟨cbX11_wasRain, wt_mem 1238 (by decide +kernel) rfl, wt_mem 1239 (by decide +kernel) rfl, wt_mem 1240 (by decide +kernel) rfl, by decide, rfl⟩
set_option maxRecDepth 20000 in
theorem mL_106 : CV RL 106 yX11_rainToTell cX11_rainToTell 6 (some .int) 1 10 := ⟨cbX11_rainToTell, wt_mem 1242 (by decide +kernel) rfl, wt_mem 1243 (by decide +kernel) rfl, wt_mem 1244 (by decide +kernel) rfl, by decide, rfl⟩
set_option maxRecDepth 20000 in
theorem mX11_310 : CV RX11 310 yX11_leftBy cX11_leftBy 5 (some .int) 1 10 := ⟨cbX11_leftBy, wt_mem 1246 (by decide +kernel) rfl, wt_mem 1248 (by decide +kernel) rfl, wt_mem 57 (by decide +kernel) rfl, by decide, rfl⟩
set_option maxRecDepth 20000 in
theorem mL_110 : CV RL 110 yX11_dryIn cX11_dryIn 3 (some .int) 0 10 := ⟨cbX11_dryIn, wt_mem 1250 (by decide +kernel) rfl, wt_mem 1251 (by decide +kernel) rfl, wt_mem 1252 (by decide +kernel) rfl, by decide, rfl⟩
set_option maxRecDepth 20000 in
theorem mL_115 : CV RL 115 yX11_either cX11_either 5 (some .int) 3 10 := ⟨cbX11_either, wt_mem 1254 (by decide +kernel) rfl, wt_mem 1255 (by decide +kernel) rfl, wt_mem 1256 (by decide +kernel) rfl, by decide, rfl⟩
set_option maxRecDepth 20000 in
theorem mL_119 : CV RL 119 yX11_rainy cX11_rainy 6 (some .int) 2 10 := ⟨cbX11_rainy, wt_mem 1258 (by decide +kernel) rfl, wt_mem 1259 (by decide +kernel) rfl, wt_mem 1260 (by decide +kernel) rfl, by decide, rfl⟩
set_option maxRecDepth 20000 in
theorem mL_123 : CV RL 123 yX11_write cX11_write 3 (some .int) 2 10 := ⟨cbX11_write, wt_mem 1264 (by decide +kernel) rfl, wt_mem 1265 (by decide +kernel) rfl, wt_mem 1266 (by decide +kernel) rfl, by decide, rfl⟩
set_option maxRecDepth 20000 in
theorem mL_127 : CV RL 127 yX11_tear cX11_tear 2 (some .int) 0 10 := ⟨cbX11_tear, wt_mem 1268 (by decide +kernel) rfl, wt_mem 1269 (by decide +kernel) rfl, wt_mem 1270 (by decide +kernel) rfl, by decide, rfl⟩
set_option maxRecDepth 20000 in
theorem mL_131 : CV RL 131 yX11_judge cX11_judge 2 (some .int) 0 10 := ⟨cbX11_judge, wt_mem 1272 (by decide +kernel) rfl, wt_mem 1273 (by decide +kernel) rfl, wt_mem 1274 (by decide +kernel) rfl, by decide, rfl⟩
set_option maxRecDepth 20000 in
theorem mL_135 : CV RL 135 yX11_seed cX11_seed 3 (some .int) 1 10 := ⟨cbX11_seed, wt_mem 1276 (by decide +kernel) rfl, wt_mem 1277 (by decide +kernel) rfl, wt_mem 1278 (by decide +kernel) rfl, by decide, rfl⟩
set_option maxRecDepth 20000 in
theorem mL_139 : CV RL 139 yX11_keep cX11_keep 3 (some .int) 1 10 := ⟨cbX11_keep, wt_mem 1280 (by decide +kernel) rfl, wt_mem 1281 (by decide +kernel) rfl, wt_mem 1282 (by decide +kernel) rfl, by decide, rfl⟩
set_option maxRecDepth 20000 in
theorem mL_143 : CV RL 143 yX11_goBack cX11_goBack 3 (some .int) 1 10 := ⟨cbX11_goBack, wt_mem 1284 (by decide +kernel) rfl, wt_mem 1285 (by decide +kernel) rfl, wt_mem 1286 (by decide +kernel) rfl, by decide, rfl⟩
set_option maxRecDepth 20000 in
theorem mX8_23 : CSN RX8 23 yX10_put cX10_put 3 none 3 := ⟨cbX10_put, by decide +kernel, wt_mem 383 (by decide +kernel) rfl⟩
set_option maxRecDepth 20000 in
theorem mX8_125 : CSN RX8 125 yX10_pick cX10_pick 2 (some .int) 2 := ⟨cbX10_pick, by decide +kernel, wt_mem 406 (by decide +kernel) rfl⟩
set_option maxRecDepth 20000 in
theorem mX8_132 : CSN RX8 132 yX10_outside cX10_outside 3 (some .boolean) 3 := ⟨cbX10_outside, by decide +kernel, wt_mem 374 (by decide +kernel) rfl⟩
set_option maxRecDepth 20000 in
theorem mX7_54 : CSN RX7 54 yX10_put cX10_put 3 none 3 := ⟨cbX10_put, by decide +kernel, wt_mem 383 (by decide +kernel) rfl⟩
set_option maxRecDepth 20000 in
theorem mX1_21 : CSN RX1 21 yX10_pick cX10_pick 2 (some .int) 2 := ⟨cbX10_pick, by decide +kernel, wt_mem 406 (by decide +kernel) rfl⟩
set_option maxRecDepth 20000 in
theorem mX5_50 : CSN RX5 50 yX10_pick cX10_pick 2 (some .int) 2 := ⟨cbX10_pick, by decide +kernel, wt_mem 406 (by decide +kernel) rfl⟩
set_option maxRecDepth 20000 in
theorem mX3_33 : CSN RX3 33 yX10_pick cX10_pick 2 (some .int) 2 := ⟨cbX10_pick, by decide +kernel, wt_mem 406 (by decide +kernel) rfl⟩
set_option maxRecDepth 20000 in
theorem mX3_46 : CSN RX3 46 yX10_put cX10_put 3 none 3 := ⟨cbX10_put, by decide +kernel, wt_mem 383 (by decide +kernel) rfl⟩
set_option maxRecDepth 20000 in
theorem mX9_67 : CSN RX9 67 yX10_put cX10_put 3 none 3 := ⟨cbX10_put, by decide +kernel, wt_mem 383 (by decide +kernel) rfl⟩
set_option maxRecDepth 20000 in
theorem mX0_23 : CSN RX0 23 yX10_put cX10_put 3 none 3 := ⟨cbX10_put, by decide +kernel, wt_mem 383 (by decide +kernel) rfl⟩
set_option maxRecDepth 20000 in
theorem mX0_32 : CSN RX0 32 yX10_pick cX10_pick 2 (some .int) 2 := ⟨cbX10_pick, by decide +kernel, wt_mem 406 (by decide +kernel) rfl⟩
set_option maxRecDepth 20000 in
theorem kX10_79 : Cond.constant RX10 79 (-1000000002) ∈ WT := wt_mem 376 (by decide +kernel) rfl
set_option maxRecDepth 20000 in
theorem kX8_22 : Cond.constant RX8 22 (-1000000004) ∈ WT := wt_mem 381 (by decide +kernel) rfl
set_option maxRecDepth 20000 in
theorem kJ6_265 : Cond.constant RJ6 265 (1431655765) ∈ WT := wt_mem 529 (by decide +kernel) rfl
set_option maxRecDepth 20000 in
theorem kJ6_266 : Cond.constant RJ6 266 (858993459) ∈ WT := wt_mem 530 (by decide +kernel) rfl
set_option maxRecDepth 20000 in
theorem kJ6_267 : Cond.constant RJ6 267 (252645135) ∈ WT := wt_mem 531 (by decide +kernel) rfl
set_option maxRecDepth 20000 in
theorem kX10_185 : Cond.constant RX10 185 (-1000000001) ∈ WT := wt_mem 567 (by decide +kernel) rfl
set_option maxRecDepth 20000 in
theorem kX10_223 : Cond.constant RX10 223 (-1000000003) ∈ WT := wt_mem 606 (by decide +kernel) rfl
set_option maxRecDepth 20000 in
theorem kX10_224 : Cond.constant RX10 224 (-1000000004) ∈ WT := wt_mem 607 (by decide +kernel) rfl
set_option maxRecDepth 20000 in
theorem kX2_13 : Cond.constant RX2 13 (1103515245) ∈ WT := wt_mem 704 (by decide +kernel) rfl
set_option maxRecDepth 20000 in
theorem kX2_14 : Cond.constant RX2 14 (2147483647) ∈ WT := wt_mem 705 (by decide +kernel) rfl
set_option maxRecDepth 20000 in
theorem kX2_15 : Cond.constant RX2 15 (65536) ∈ WT := wt_mem 706 (by decide +kernel) rfl
set_option maxRecDepth 20000 in
theorem kX10_286 : Cond.constantLong RX10 286 (1000000000) ∈ WT := wt_mem 801 (by decide +kernel) rfl
set_option maxRecDepth 20000 in
theorem kX10_288 : Cond.constantLong RX10 288 (100) ∈ WT := wt_mem 802 (by decide +kernel) rfl
set_option maxRecDepth 20000 in
theorem kX0_22 : Cond.constant RX0 22 (-1000000004) ∈ WT := wt_mem 811 (by decide +kernel) rfl
set_option maxRecDepth 20000 in
theorem kX11_95 : Cond.constantLong RX11 95 (255) ∈ WT := wt_mem 971 (by decide +kernel) rfl
set_option maxRecDepth 20000 in
theorem kX11_97 : Cond.constant RX11 97 (-1000000002) ∈ WT := wt_mem 975 (by decide +kernel) rfl
set_option maxRecDepth 20000 in
theorem kX11_101 : Cond.constant RX11 101 (-1000000004) ∈ WT := wt_mem 976 (by decide +kernel) rfl
set_option maxRecDepth 20000 in
theorem kX11_108 : Cond.constantLong RX11 108 (48) ∈ WT := wt_mem 1009 (by decide +kernel) rfl
set_option maxRecDepth 20000 in
theorem kX11_110 : Cond.constantLong RX11 110 (57) ∈ WT := wt_mem 1010 (by decide +kernel) rfl
set_option maxRecDepth 20000 in
theorem kX11_244 : Cond.constant RX11 244 (-1000000001) ∈ WT := wt_mem 1115 (by decide +kernel) rfl
set_option maxRecDepth 20000 in
theorem kX11_265 : Cond.constantLong RX11 265 (60) ∈ WT := wt_mem 1144 (by decide +kernel) rfl
set_option maxRecDepth 20000 in
theorem kX11_267 : Cond.constantLong RX11 267 (9) ∈ WT := wt_mem 1145 (by decide +kernel) rfl
set_option maxRecDepth 20000 in
theorem kX11_269 : Cond.constant RX11 269 (-1000000003) ∈ WT := wt_mem 1146 (by decide +kernel) rfl
set_option maxRecDepth 20000 in
theorem kX11_279 : Cond.constantLong RX11 279 (2) ∈ WT := wt_mem 1186 (by decide +kernel) rfl
set_option maxRecDepth 20000 in
theorem kX11_284 : Cond.constantLong RX11 284 (1103515245) ∈ WT := wt_mem 1203 (by decide +kernel) rfl
set_option maxRecDepth 20000 in
theorem kX11_286 : Cond.constantLong RX11 286 (12345) ∈ WT := wt_mem 1204 (by decide +kernel) rfl
set_option maxRecDepth 20000 in
theorem kX11_288 : Cond.constantLong RX11 288 (2147483648) ∈ WT := wt_mem 1205 (by decide +kernel) rfl
set_option maxRecDepth 20000 in
theorem kX11_290 : Cond.constant RX11 290 (65536) ∈ WT := wt_mem 1206 (by decide +kernel) rfl
set_option maxRecDepth 20000 in
theorem kX11_300 : Cond.constantLong RX11 300 (25) ∈ WT := wt_mem 1223 (by decide +kernel) rfl
set_option maxRecDepth 20000 in
theorem kX11_302 : Cond.constantLong RX11 302 (20) ∈ WT := wt_mem 1228 (by decide +kernel) rfl
set_option maxRecDepth 20000 in
theorem kX11_304 : Cond.constantLong RX11 304 (8) ∈ WT := wt_mem 1233 (by decide +kernel) rfl
set_option maxRecDepth 20000 in
theorem kX11_313 : Cond.constantLong RX11 313 (100) ∈ WT := wt_mem 1262 (by decide +kernel) rfl
set_option maxRecDepth 20000 in
theorem kX11_315 : Cond.constantLong RX11 315 (1000000000) ∈ WT := wt_mem 1263 (by decide +kernel) rfl
set_option maxRecDepth 20000 in
theorem ac_n : Cond.native arraycopyName ∈ WT := wt_mem 618 (by decide +kernel) rfl
set_option maxRecDepth 20000 in
theorem ac_s : Cond.static arraycopyName ∈ WT := wt_mem 617 (by decide +kernel) rfl
set_option maxRecDepth 20000 in
theorem ac_i : Cond.initialized "java/lang/System" ∈ WT := wt_mem 73 (by decide +kernel) rfl
end
section
theorem dX0_init_0 : decode cX0_init 0 = .ok (.aload_n 0, 1) := by decide +kernel
theorem dX0_init_1 : decode cX0_init 1 = .ok (.invokespecial 3, 3) := by decide +kernel
theorem dX0_init_4 : decode cX0_init 4 = .ok (.aload_n 0, 1) := by decide +kernel
theorem dX0_init_5 : decode cX0_init 5 = .ok (.bipush 15, 2) := by decide +kernel
theorem dX0_init_7 : decode cX0_init 7 = .ok (.newarray .int, 2) := by decide +kernel
theorem dX0_init_9 : decode cX0_init 9 = .ok (.putfield 9, 3) := by decide +kernel
theorem dX0_init_12 : decode cX0_init 12 = .ok (.aload_n 0, 1) := by decide +kernel
theorem dX0_init_13 : decode cX0_init 13 = .ok (.bipush 15, 2) := by decide +kernel
theorem dX0_init_15 : decode cX0_init 15 = .ok (.newarray .int, 2) := by decide +kernel
theorem dX0_init_17 : decode cX0_init 17 = .ok (.putfield 15, 3) := by decide +kernel
theorem dX0_init_20 : decode cX0_init 20 = .ok (.return_, 1) := by decide +kernel
theorem dX0_clear_0 : decode cX0_clear 0 = .ok (.aload_n 0, 1) := by decide +kernel
theorem dX0_clear_1 : decode cX0_clear 1 = .ok (.iconst 0, 1) := by decide +kernel
theorem dX0_clear_2 : decode cX0_clear 2 = .ok (.putfield 18, 3) := by decide +kernel
theorem dX0_clear_5 : decode cX0_clear 5 = .ok (.return_, 1) := by decide +kernel
theorem dX0_add_0 : decode cX0_add 0 = .ok (.aload_n 0, 1) := by decide +kernel
theorem dX0_add_1 : decode cX0_add 1 = .ok (.getfield 18, 3) := by decide +kernel
theorem dX0_add_4 : decode cX0_add 4 = .ok (.bipush 15, 2) := by decide +kernel
theorem dX0_add_6 : decode cX0_add 6 = .ok (.if_icmp .lt 6, 3) := by decide +kernel
theorem dX0_add_9 : decode cX0_add 9 = .ok (.ldc 22, 2) := by decide +kernel
theorem dX0_add_11 : decode cX0_add 11 = .ok (.ireturn, 1) := by decide +kernel
theorem dX0_add_12 : decode cX0_add 12 = .ok (.aload_n 0, 1) := by decide +kernel
theorem dX0_add_13 : decode cX0_add 13 = .ok (.getfield 9, 3) := by decide +kernel
theorem dX0_add_16 : decode cX0_add 16 = .ok (.aload_n 0, 1) := by decide +kernel
theorem dX0_add_17 : decode cX0_add 17 = .ok (.getfield 18, 3) := by decide +kernel
theorem dX0_add_20 : decode cX0_add 20 = .ok (.iload_n 1, 1) := by decide +kernel
theorem dX0_add_21 : decode cX0_add 21 = .ok (.invokestatic 23, 3) := by decide +kernel
theorem dX0_add_24 : decode cX0_add 24 = .ok (.aload_n 0, 1) := by decide +kernel
theorem dX0_add_25 : decode cX0_add 25 = .ok (.getfield 15, 3) := by decide +kernel
theorem dX0_add_28 : decode cX0_add 28 = .ok (.aload_n 0, 1) := by decide +kernel
theorem dX0_add_29 : decode cX0_add 29 = .ok (.getfield 18, 3) := by decide +kernel
theorem dX0_add_32 : decode cX0_add 32 = .ok (.iload_n 2, 1) := by decide +kernel
theorem dX0_add_33 : decode cX0_add 33 = .ok (.invokestatic 23, 3) := by decide +kernel
theorem dX0_add_36 : decode cX0_add 36 = .ok (.aload_n 0, 1) := by decide +kernel
theorem dX0_add_37 : decode cX0_add 37 = .ok (.dup, 1) := by decide +kernel
theorem dX0_add_38 : decode cX0_add 38 = .ok (.getfield 18, 3) := by decide +kernel
theorem dX0_add_41 : decode cX0_add 41 = .ok (.iconst 1, 1) := by decide +kernel
theorem dX0_add_42 : decode cX0_add 42 = .ok (.iadd, 1) := by decide +kernel
theorem dX0_add_43 : decode cX0_add 43 = .ok (.putfield 18, 3) := by decide +kernel
theorem dX0_add_46 : decode cX0_add 46 = .ok (.aload_n 0, 1) := by decide +kernel
theorem dX0_add_47 : decode cX0_add 47 = .ok (.getfield 18, 3) := by decide +kernel
theorem dX0_add_50 : decode cX0_add 50 = .ok (.ireturn, 1) := by decide +kernel
theorem dX0_firstWrong_0 : decode cX0_firstWrong 0 = .ok (.iconst 0, 1) := by decide +kernel
theorem dX0_firstWrong_1 : decode cX0_firstWrong 1 = .ok (.istore_n 2, 1) := by decide +kernel
theorem dX0_firstWrong_2 : decode cX0_firstWrong 2 = .ok (.iload_n 2, 1) := by decide +kernel
theorem dX0_firstWrong_3 : decode cX0_firstWrong 3 = .ok (.aload_n 0, 1) := by decide +kernel
theorem dX0_firstWrong_4 : decode cX0_firstWrong 4 = .ok (.getfield 18, 3) := by decide +kernel
theorem dX0_firstWrong_7 : decode cX0_firstWrong 7 = .ok (.if_icmp .ge 37, 3) := by decide +kernel
theorem dX0_firstWrong_10 : decode cX0_firstWrong 10 = .ok (.aload_n 1, 1) := by decide +kernel
theorem dX0_firstWrong_11 : decode cX0_firstWrong 11 = .ok (.getfield 27, 3) := by decide +kernel
theorem dX0_firstWrong_14 : decode cX0_firstWrong 14 = .ok (.aload_n 0, 1) := by decide +kernel
theorem dX0_firstWrong_15 : decode cX0_firstWrong 15 = .ok (.getfield 9, 3) := by decide +kernel
theorem dX0_firstWrong_18 : decode cX0_firstWrong 18 = .ok (.iload_n 2, 1) := by decide +kernel
theorem dX0_firstWrong_19 : decode cX0_firstWrong 19 = .ok (.invokestatic 32, 3) := by decide +kernel
theorem dX0_firstWrong_22 : decode cX0_firstWrong 22 = .ok (.invokestatic 32, 3) := by decide +kernel
theorem dX0_firstWrong_25 : decode cX0_firstWrong 25 = .ok (.aload_n 0, 1) := by decide +kernel
theorem dX0_firstWrong_26 : decode cX0_firstWrong 26 = .ok (.getfield 15, 3) := by decide +kernel
theorem dX0_firstWrong_29 : decode cX0_firstWrong 29 = .ok (.iload_n 2, 1) := by decide +kernel
theorem dX0_firstWrong_30 : decode cX0_firstWrong 30 = .ok (.invokestatic 32, 3) := by decide +kernel
theorem dX0_firstWrong_33 : decode cX0_firstWrong 33 = .ok (.if_icmp .eq 5, 3) := by decide +kernel
theorem dX0_firstWrong_36 : decode cX0_firstWrong 36 = .ok (.iload_n 2, 1) := by decide +kernel
theorem dX0_firstWrong_37 : decode cX0_firstWrong 37 = .ok (.ireturn, 1) := by decide +kernel
theorem dX0_firstWrong_38 : decode cX0_firstWrong 38 = .ok (.iinc 2 1, 3) := by decide +kernel
theorem dX0_firstWrong_41 : decode cX0_firstWrong 41 = .ok (.goto (-39), 3) := by decide +kernel
theorem dX0_firstWrong_44 : decode cX0_firstWrong 44 = .ok (.iconst (-1), 1) := by decide +kernel
theorem dX0_firstWrong_45 : decode cX0_firstWrong 45 = .ok (.ireturn, 1) := by decide +kernel
theorem dX1_init_0 : decode cX1_init 0 = .ok (.aload_n 0, 1) := by decide +kernel
theorem dX1_init_1 : decode cX1_init 1 = .ok (.invokespecial 3, 3) := by decide +kernel
theorem dX1_init_4 : decode cX1_init 4 = .ok (.aload_n 0, 1) := by decide +kernel
theorem dX1_init_5 : decode cX1_init 5 = .ok (.bipush 25, 2) := by decide +kernel
theorem dX1_init_7 : decode cX1_init 7 = .ok (.newarray .int, 2) := by decide +kernel
theorem dX1_init_9 : decode cX1_init 9 = .ok (.putfield 9, 3) := by decide +kernel
theorem dX1_init_12 : decode cX1_init 12 = .ok (.aload_n 0, 1) := by decide +kernel
theorem dX1_init_13 : decode cX1_init 13 = .ok (.iconst 4, 1) := by decide +kernel
theorem dX1_init_14 : decode cX1_init 14 = .ok (.newarray .int, 2) := by decide +kernel
theorem dX1_init_16 : decode cX1_init 16 = .ok (.putfield 15, 3) := by decide +kernel
theorem dX1_init_19 : decode cX1_init 19 = .ok (.return_, 1) := by decide +kernel
theorem dX1_begin_0 : decode cX1_begin 0 = .ok (.iconst 0, 1) := by decide +kernel
theorem dX1_begin_1 : decode cX1_begin 1 = .ok (.istore_n 2, 1) := by decide +kernel
theorem dX1_begin_2 : decode cX1_begin 2 = .ok (.iload_n 2, 1) := by decide +kernel
theorem dX1_begin_3 : decode cX1_begin 3 = .ok (.aload_n 0, 1) := by decide +kernel
theorem dX1_begin_4 : decode cX1_begin 4 = .ok (.getfield 9, 3) := by decide +kernel
theorem dX1_begin_7 : decode cX1_begin 7 = .ok (.arraylength, 1) := by decide +kernel
theorem dX1_begin_8 : decode cX1_begin 8 = .ok (.if_icmp .ge 16, 3) := by decide +kernel
theorem dX1_begin_11 : decode cX1_begin 11 = .ok (.aload_n 0, 1) := by decide +kernel
theorem dX1_begin_12 : decode cX1_begin 12 = .ok (.getfield 9, 3) := by decide +kernel
theorem dX1_begin_15 : decode cX1_begin 15 = .ok (.iload_n 2, 1) := by decide +kernel
theorem dX1_begin_16 : decode cX1_begin 16 = .ok (.iconst 0, 1) := by decide +kernel
theorem dX1_begin_17 : decode cX1_begin 17 = .ok (.iastore, 1) := by decide +kernel
theorem dX1_begin_18 : decode cX1_begin 18 = .ok (.iinc 2 1, 3) := by decide +kernel
theorem dX1_begin_21 : decode cX1_begin 21 = .ok (.goto (-19), 3) := by decide +kernel
theorem dX1_begin_24 : decode cX1_begin 24 = .ok (.iconst 0, 1) := by decide +kernel
theorem dX1_begin_25 : decode cX1_begin 25 = .ok (.istore_n 2, 1) := by decide +kernel
theorem dX1_begin_26 : decode cX1_begin 26 = .ok (.iload_n 2, 1) := by decide +kernel
theorem dX1_begin_27 : decode cX1_begin 27 = .ok (.aload_n 0, 1) := by decide +kernel
theorem dX1_begin_28 : decode cX1_begin 28 = .ok (.getfield 15, 3) := by decide +kernel
theorem dX1_begin_31 : decode cX1_begin 31 = .ok (.arraylength, 1) := by decide +kernel
theorem dX1_begin_32 : decode cX1_begin 32 = .ok (.if_icmp .ge 23, 3) := by decide +kernel
theorem dX1_begin_35 : decode cX1_begin 35 = .ok (.aload_n 0, 1) := by decide +kernel
theorem dX1_begin_36 : decode cX1_begin 36 = .ok (.getfield 15, 3) := by decide +kernel
theorem dX1_begin_39 : decode cX1_begin 39 = .ok (.iload_n 2, 1) := by decide +kernel
theorem dX1_begin_40 : decode cX1_begin 40 = .ok (.aload_n 1, 1) := by decide +kernel
theorem dX1_begin_41 : decode cX1_begin 41 = .ok (.getfield 18, 3) := by decide +kernel
theorem dX1_begin_44 : decode cX1_begin 44 = .ok (.iload_n 2, 1) := by decide +kernel
theorem dX1_begin_45 : decode cX1_begin 45 = .ok (.invokestatic 21, 3) := by decide +kernel
theorem dX1_begin_48 : decode cX1_begin 48 = .ok (.iastore, 1) := by decide +kernel
theorem dX1_begin_49 : decode cX1_begin 49 = .ok (.iinc 2 1, 3) := by decide +kernel
theorem dX1_begin_52 : decode cX1_begin 52 = .ok (.goto (-26), 3) := by decide +kernel
theorem dX1_begin_55 : decode cX1_begin 55 = .ok (.aload_n 0, 1) := by decide +kernel
theorem dX1_begin_56 : decode cX1_begin 56 = .ok (.aload_n 1, 1) := by decide +kernel
theorem dX1_begin_57 : decode cX1_begin 57 = .ok (.getfield 25, 3) := by decide +kernel
theorem dX1_begin_60 : decode cX1_begin 60 = .ok (.putfield 29, 3) := by decide +kernel
theorem dX1_begin_63 : decode cX1_begin 63 = .ok (.aload_n 0, 1) := by decide +kernel
theorem dX1_begin_64 : decode cX1_begin 64 = .ok (.iconst 0, 1) := by decide +kernel
theorem dX1_begin_65 : decode cX1_begin 65 = .ok (.putfield 30, 3) := by decide +kernel
theorem dX1_begin_68 : decode cX1_begin 68 = .ok (.aload_n 0, 1) := by decide +kernel
theorem dX1_begin_69 : decode cX1_begin 69 = .ok (.iconst 0, 1) := by decide +kernel
theorem dX1_begin_70 : decode cX1_begin 70 = .ok (.putfield 33, 3) := by decide +kernel
theorem dX1_begin_73 : decode cX1_begin 73 = .ok (.aload_n 0, 1) := by decide +kernel
theorem dX1_begin_74 : decode cX1_begin 74 = .ok (.iconst 0, 1) := by decide +kernel
theorem dX1_begin_75 : decode cX1_begin 75 = .ok (.putfield 36, 3) := by decide +kernel
theorem dX1_begin_78 : decode cX1_begin 78 = .ok (.aload_n 0, 1) := by decide +kernel
theorem dX1_begin_79 : decode cX1_begin 79 = .ok (.iconst 0, 1) := by decide +kernel
theorem dX1_begin_80 : decode cX1_begin 80 = .ok (.putfield 39, 3) := by decide +kernel
theorem dX1_begin_83 : decode cX1_begin 83 = .ok (.return_, 1) := by decide +kernel
theorem dX1_copyFrom_0 : decode cX1_copyFrom 0 = .ok (.aload_n 1, 1) := by decide +kernel
theorem dX1_copyFrom_1 : decode cX1_copyFrom 1 = .ok (.getfield 9, 3) := by decide +kernel
theorem dX1_copyFrom_4 : decode cX1_copyFrom 4 = .ok (.iconst 0, 1) := by decide +kernel
theorem dX1_copyFrom_5 : decode cX1_copyFrom 5 = .ok (.aload_n 0, 1) := by decide +kernel
theorem dX1_copyFrom_6 : decode cX1_copyFrom 6 = .ok (.getfield 9, 3) := by decide +kernel
theorem dX1_copyFrom_9 : decode cX1_copyFrom 9 = .ok (.iconst 0, 1) := by decide +kernel
theorem dX1_copyFrom_10 : decode cX1_copyFrom 10 = .ok (.bipush 25, 2) := by decide +kernel
theorem dX1_copyFrom_12 : decode cX1_copyFrom 12 = .ok (.invokestatic 42, 3) := by decide +kernel
theorem dX1_copyFrom_15 : decode cX1_copyFrom 15 = .ok (.aload_n 1, 1) := by decide +kernel
theorem dX1_copyFrom_16 : decode cX1_copyFrom 16 = .ok (.getfield 15, 3) := by decide +kernel
theorem dX1_copyFrom_19 : decode cX1_copyFrom 19 = .ok (.iconst 0, 1) := by decide +kernel
theorem dX1_copyFrom_20 : decode cX1_copyFrom 20 = .ok (.aload_n 0, 1) := by decide +kernel
theorem dX1_copyFrom_21 : decode cX1_copyFrom 21 = .ok (.getfield 15, 3) := by decide +kernel
theorem dX1_copyFrom_24 : decode cX1_copyFrom 24 = .ok (.iconst 0, 1) := by decide +kernel
theorem dX1_copyFrom_25 : decode cX1_copyFrom 25 = .ok (.iconst 4, 1) := by decide +kernel
theorem dX1_copyFrom_26 : decode cX1_copyFrom 26 = .ok (.invokestatic 42, 3) := by decide +kernel
theorem dX1_copyFrom_29 : decode cX1_copyFrom 29 = .ok (.aload_n 0, 1) := by decide +kernel
theorem dX1_copyFrom_30 : decode cX1_copyFrom 30 = .ok (.aload_n 1, 1) := by decide +kernel
theorem dX1_copyFrom_31 : decode cX1_copyFrom 31 = .ok (.getfield 29, 3) := by decide +kernel
theorem dX1_copyFrom_34 : decode cX1_copyFrom 34 = .ok (.putfield 29, 3) := by decide +kernel
theorem dX1_copyFrom_37 : decode cX1_copyFrom 37 = .ok (.aload_n 0, 1) := by decide +kernel
theorem dX1_copyFrom_38 : decode cX1_copyFrom 38 = .ok (.aload_n 1, 1) := by decide +kernel
theorem dX1_copyFrom_39 : decode cX1_copyFrom 39 = .ok (.getfield 30, 3) := by decide +kernel
theorem dX1_copyFrom_42 : decode cX1_copyFrom 42 = .ok (.putfield 30, 3) := by decide +kernel
theorem dX1_copyFrom_45 : decode cX1_copyFrom 45 = .ok (.aload_n 0, 1) := by decide +kernel
theorem dX1_copyFrom_46 : decode cX1_copyFrom 46 = .ok (.aload_n 1, 1) := by decide +kernel
theorem dX1_copyFrom_47 : decode cX1_copyFrom 47 = .ok (.getfield 33, 3) := by decide +kernel
theorem dX1_copyFrom_50 : decode cX1_copyFrom 50 = .ok (.putfield 33, 3) := by decide +kernel
theorem dX1_copyFrom_53 : decode cX1_copyFrom 53 = .ok (.aload_n 0, 1) := by decide +kernel
theorem dX1_copyFrom_54 : decode cX1_copyFrom 54 = .ok (.aload_n 1, 1) := by decide +kernel
theorem dX1_copyFrom_55 : decode cX1_copyFrom 55 = .ok (.getfield 36, 3) := by decide +kernel
theorem dX1_copyFrom_58 : decode cX1_copyFrom 58 = .ok (.putfield 36, 3) := by decide +kernel
theorem dX1_copyFrom_61 : decode cX1_copyFrom 61 = .ok (.aload_n 0, 1) := by decide +kernel
theorem dX1_copyFrom_62 : decode cX1_copyFrom 62 = .ok (.aload_n 1, 1) := by decide +kernel
theorem dX1_copyFrom_63 : decode cX1_copyFrom 63 = .ok (.getfield 39, 3) := by decide +kernel
theorem dX1_copyFrom_66 : decode cX1_copyFrom 66 = .ok (.putfield 39, 3) := by decide +kernel
theorem dX1_copyFrom_69 : decode cX1_copyFrom 69 = .ok (.return_, 1) := by decide +kernel
theorem dX1_isFilled_0 : decode cX1_isFilled 0 = .ok (.aload_n 0, 1) := by decide +kernel
theorem dX1_isFilled_1 : decode cX1_isFilled 1 = .ok (.getfield 30, 3) := by decide +kernel
theorem dX1_isFilled_4 : decode cX1_isFilled 4 = .ok (.iload_n 1, 1) := by decide +kernel
theorem dX1_isFilled_5 : decode cX1_isFilled 5 = .ok (.ishr, 1) := by decide +kernel
theorem dX1_isFilled_6 : decode cX1_isFilled 6 = .ok (.iconst 1, 1) := by decide +kernel
theorem dX1_isFilled_7 : decode cX1_isFilled 7 = .ok (.iand, 1) := by decide +kernel
theorem dX1_isFilled_8 : decode cX1_isFilled 8 = .ok (.ifCond .eq 7, 3) := by decide +kernel
theorem dX1_isFilled_11 : decode cX1_isFilled 11 = .ok (.iconst 1, 1) := by decide +kernel
theorem dX1_isFilled_12 : decode cX1_isFilled 12 = .ok (.goto 4, 3) := by decide +kernel
theorem dX1_isFilled_15 : decode cX1_isFilled 15 = .ok (.iconst 0, 1) := by decide +kernel
theorem dX1_isFilled_16 : decode cX1_isFilled 16 = .ok (.ireturn, 1) := by decide +kernel
theorem dX1_marks_0 : decode cX1_marks 0 = .ok (.iconst 0, 1) := by decide +kernel
theorem dX1_marks_1 : decode cX1_marks 1 = .ok (.istore_n 1, 1) := by decide +kernel
theorem dX1_marks_2 : decode cX1_marks 2 = .ok (.iconst 0, 1) := by decide +kernel
theorem dX1_marks_3 : decode cX1_marks 3 = .ok (.istore_n 2, 1) := by decide +kernel
theorem dX1_marks_4 : decode cX1_marks 4 = .ok (.iload_n 2, 1) := by decide +kernel
theorem dX1_marks_5 : decode cX1_marks 5 = .ok (.aload_n 0, 1) := by decide +kernel
theorem dX1_marks_6 : decode cX1_marks 6 = .ok (.getfield 9, 3) := by decide +kernel
theorem dX1_marks_9 : decode cX1_marks 9 = .ok (.arraylength, 1) := by decide +kernel
theorem dX1_marks_10 : decode cX1_marks 10 = .ok (.if_icmp .ge 25, 3) := by decide +kernel
theorem dX1_marks_13 : decode cX1_marks 13 = .ok (.aload_n 0, 1) := by decide +kernel
theorem dX1_marks_14 : decode cX1_marks 14 = .ok (.getfield 9, 3) := by decide +kernel
theorem dX1_marks_17 : decode cX1_marks 17 = .ok (.iload_n 2, 1) := by decide +kernel
theorem dX1_marks_18 : decode cX1_marks 18 = .ok (.iaload, 1) := by decide +kernel
theorem dX1_marks_19 : decode cX1_marks 19 = .ok (.iconst 3, 1) := by decide +kernel
theorem dX1_marks_20 : decode cX1_marks 20 = .ok (.if_icmp .lt 9, 3) := by decide +kernel
theorem dX1_marks_23 : decode cX1_marks 23 = .ok (.iload_n 1, 1) := by decide +kernel
theorem dX1_marks_24 : decode cX1_marks 24 = .ok (.iconst 1, 1) := by decide +kernel
theorem dX1_marks_25 : decode cX1_marks 25 = .ok (.iload_n 2, 1) := by decide +kernel
theorem dX1_marks_26 : decode cX1_marks 26 = .ok (.ishl, 1) := by decide +kernel
theorem dX1_marks_27 : decode cX1_marks 27 = .ok (.ior, 1) := by decide +kernel
theorem dX1_marks_28 : decode cX1_marks 28 = .ok (.istore_n 1, 1) := by decide +kernel
theorem dX1_marks_29 : decode cX1_marks 29 = .ok (.iinc 2 1, 3) := by decide +kernel
theorem dX1_marks_32 : decode cX1_marks 32 = .ok (.goto (-28), 3) := by decide +kernel
theorem dX1_marks_35 : decode cX1_marks 35 = .ok (.iload_n 1, 1) := by decide +kernel
theorem dX1_marks_36 : decode cX1_marks 36 = .ok (.ireturn, 1) := by decide +kernel
theorem dX1_markCount_0 : decode cX1_markCount 0 = .ok (.aload_n 0, 1) := by decide +kernel
theorem dX1_markCount_1 : decode cX1_markCount 1 = .ok (.invokevirtual 48, 3) := by decide +kernel
theorem dX1_markCount_4 : decode cX1_markCount 4 = .ok (.invokestatic 52, 3) := by decide +kernel
theorem dX1_markCount_7 : decode cX1_markCount 7 = .ok (.ireturn, 1) := by decide +kernel
theorem dX1_allWet_0 : decode cX1_allWet 0 = .ok (.iconst 0, 1) := by decide +kernel
theorem dX1_allWet_1 : decode cX1_allWet 1 = .ok (.istore_n 1, 1) := by decide +kernel
theorem dX1_allWet_2 : decode cX1_allWet 2 = .ok (.iconst 0, 1) := by decide +kernel
theorem dX1_allWet_3 : decode cX1_allWet 3 = .ok (.istore_n 2, 1) := by decide +kernel
theorem dX1_allWet_4 : decode cX1_allWet 4 = .ok (.iload_n 2, 1) := by decide +kernel
theorem dX1_allWet_5 : decode cX1_allWet 5 = .ok (.aload_n 0, 1) := by decide +kernel
theorem dX1_allWet_6 : decode cX1_allWet 6 = .ok (.getfield 9, 3) := by decide +kernel
theorem dX1_allWet_9 : decode cX1_allWet 9 = .ok (.arraylength, 1) := by decide +kernel
theorem dX1_allWet_10 : decode cX1_allWet 10 = .ok (.if_icmp .ge 18, 3) := by decide +kernel
theorem dX1_allWet_13 : decode cX1_allWet 13 = .ok (.iload_n 1, 1) := by decide +kernel
theorem dX1_allWet_14 : decode cX1_allWet 14 = .ok (.aload_n 0, 1) := by decide +kernel
theorem dX1_allWet_15 : decode cX1_allWet 15 = .ok (.getfield 9, 3) := by decide +kernel
theorem dX1_allWet_18 : decode cX1_allWet 18 = .ok (.iload_n 2, 1) := by decide +kernel
theorem dX1_allWet_19 : decode cX1_allWet 19 = .ok (.iaload, 1) := by decide +kernel
theorem dX1_allWet_20 : decode cX1_allWet 20 = .ok (.iadd, 1) := by decide +kernel
theorem dX1_allWet_21 : decode cX1_allWet 21 = .ok (.istore_n 1, 1) := by decide +kernel
theorem dX1_allWet_22 : decode cX1_allWet 22 = .ok (.iinc 2 1, 3) := by decide +kernel
theorem dX1_allWet_25 : decode cX1_allWet 25 = .ok (.goto (-21), 3) := by decide +kernel
theorem dX1_allWet_28 : decode cX1_allWet 28 = .ok (.iload_n 1, 1) := by decide +kernel
theorem dX1_allWet_29 : decode cX1_allWet 29 = .ok (.ireturn, 1) := by decide +kernel
theorem dX1_shrink_0 : decode cX1_shrink 0 = .ok (.aload_n 1, 1) := by decide +kernel
theorem dX1_shrink_1 : decode cX1_shrink 1 = .ok (.aload_n 0, 1) := by decide +kernel
theorem dX1_shrink_2 : decode cX1_shrink 2 = .ok (.invokevirtual 48, 3) := by decide +kernel
theorem dX1_shrink_5 : decode cX1_shrink 5 = .ok (.invokestatic 58, 3) := by decide +kernel
theorem dX1_shrink_8 : decode cX1_shrink 8 = .ok (.istore_n 2, 1) := by decide +kernel
theorem dX1_shrink_9 : decode cX1_shrink 9 = .ok (.iconst 0, 1) := by decide +kernel
theorem dX1_shrink_10 : decode cX1_shrink 10 = .ok (.istore_n 3, 1) := by decide +kernel
theorem dX1_shrink_11 : decode cX1_shrink 11 = .ok (.iload_n 3, 1) := by decide +kernel
theorem dX1_shrink_12 : decode cX1_shrink 12 = .ok (.aload_n 0, 1) := by decide +kernel
theorem dX1_shrink_13 : decode cX1_shrink 13 = .ok (.getfield 9, 3) := by decide +kernel
theorem dX1_shrink_16 : decode cX1_shrink 16 = .ok (.arraylength, 1) := by decide +kernel
theorem dX1_shrink_17 : decode cX1_shrink 17 = .ok (.if_icmp .ge 27, 3) := by decide +kernel
theorem dX1_shrink_20 : decode cX1_shrink 20 = .ok (.iload_n 2, 1) := by decide +kernel
theorem dX1_shrink_21 : decode cX1_shrink 21 = .ok (.iload_n 3, 1) := by decide +kernel
theorem dX1_shrink_22 : decode cX1_shrink 22 = .ok (.ishr, 1) := by decide +kernel
theorem dX1_shrink_23 : decode cX1_shrink 23 = .ok (.iconst 1, 1) := by decide +kernel
theorem dX1_shrink_24 : decode cX1_shrink 24 = .ok (.iand, 1) := by decide +kernel
theorem dX1_shrink_25 : decode cX1_shrink 25 = .ok (.ifCond .eq 13, 3) := by decide +kernel
theorem dX1_shrink_28 : decode cX1_shrink 28 = .ok (.aload_n 0, 1) := by decide +kernel
theorem dX1_shrink_29 : decode cX1_shrink 29 = .ok (.getfield 9, 3) := by decide +kernel
theorem dX1_shrink_32 : decode cX1_shrink 32 = .ok (.iload_n 3, 1) := by decide +kernel
theorem dX1_shrink_33 : decode cX1_shrink 33 = .ok (.dup2, 1) := by decide +kernel
theorem dX1_shrink_34 : decode cX1_shrink 34 = .ok (.iaload, 1) := by decide +kernel
theorem dX1_shrink_35 : decode cX1_shrink 35 = .ok (.iconst 2, 1) := by decide +kernel
theorem dX1_shrink_36 : decode cX1_shrink 36 = .ok (.isub, 1) := by decide +kernel
theorem dX1_shrink_37 : decode cX1_shrink 37 = .ok (.iastore, 1) := by decide +kernel
theorem dX1_shrink_38 : decode cX1_shrink 38 = .ok (.iinc 3 1, 3) := by decide +kernel
theorem dX1_shrink_41 : decode cX1_shrink 41 = .ok (.goto (-30), 3) := by decide +kernel
theorem dX1_shrink_44 : decode cX1_shrink 44 = .ok (.aload_n 0, 1) := by decide +kernel
theorem dX1_shrink_45 : decode cX1_shrink 45 = .ok (.dup, 1) := by decide +kernel
theorem dX1_shrink_46 : decode cX1_shrink 46 = .ok (.getfield 36, 3) := by decide +kernel
theorem dX1_shrink_49 : decode cX1_shrink 49 = .ok (.iconst 1, 1) := by decide +kernel
theorem dX1_shrink_50 : decode cX1_shrink 50 = .ok (.iadd, 1) := by decide +kernel
theorem dX1_shrink_51 : decode cX1_shrink 51 = .ok (.putfield 36, 3) := by decide +kernel
theorem dX1_shrink_54 : decode cX1_shrink 54 = .ok (.return_, 1) := by decide +kernel
theorem dX2_init_0 : decode cX2_init 0 = .ok (.aload_n 0, 1) := by decide +kernel
theorem dX2_init_1 : decode cX2_init 1 = .ok (.invokespecial 1, 3) := by decide +kernel
theorem dX2_init_4 : decode cX2_init 4 = .ok (.return_, 1) := by decide +kernel
theorem dX2_draw_0 : decode cX2_draw 0 = .ok (.aload_n 0, 1) := by decide +kernel
theorem dX2_draw_1 : decode cX2_draw 1 = .ok (.aload_n 0, 1) := by decide +kernel
theorem dX2_draw_2 : decode cX2_draw 2 = .ok (.getfield 7, 3) := by decide +kernel
theorem dX2_draw_5 : decode cX2_draw 5 = .ok (.ldc 13, 2) := by decide +kernel
theorem dX2_draw_7 : decode cX2_draw 7 = .ok (.imul, 1) := by decide +kernel
theorem dX2_draw_8 : decode cX2_draw 8 = .ok (.sipush 12345, 3) := by decide +kernel
theorem dX2_draw_11 : decode cX2_draw 11 = .ok (.iadd, 1) := by decide +kernel
theorem dX2_draw_12 : decode cX2_draw 12 = .ok (.ldc 14, 2) := by decide +kernel
theorem dX2_draw_14 : decode cX2_draw 14 = .ok (.iand, 1) := by decide +kernel
theorem dX2_draw_15 : decode cX2_draw 15 = .ok (.putfield 7, 3) := by decide +kernel
theorem dX2_draw_18 : decode cX2_draw 18 = .ok (.iload_n 1, 1) := by decide +kernel
theorem dX2_draw_19 : decode cX2_draw 19 = .ok (.ifCond .le 15, 3) := by decide +kernel
theorem dX2_draw_22 : decode cX2_draw 22 = .ok (.aload_n 0, 1) := by decide +kernel
theorem dX2_draw_23 : decode cX2_draw 23 = .ok (.getfield 7, 3) := by decide +kernel
theorem dX2_draw_26 : decode cX2_draw 26 = .ok (.ldc 15, 2) := by decide +kernel
theorem dX2_draw_28 : decode cX2_draw 28 = .ok (.idiv, 1) := by decide +kernel
theorem dX2_draw_29 : decode cX2_draw 29 = .ok (.iload_n 1, 1) := by decide +kernel
theorem dX2_draw_30 : decode cX2_draw 30 = .ok (.irem, 1) := by decide +kernel
theorem dX2_draw_31 : decode cX2_draw 31 = .ok (.goto 4, 3) := by decide +kernel
theorem dX2_draw_34 : decode cX2_draw 34 = .ok (.iconst 0, 1) := by decide +kernel
theorem dX2_draw_35 : decode cX2_draw 35 = .ok (.ireturn, 1) := by decide +kernel
theorem dX3_init_0 : decode cX3_init 0 = .ok (.aload_n 0, 1) := by decide +kernel
theorem dX3_init_1 : decode cX3_init 1 = .ok (.invokespecial 3, 3) := by decide +kernel
theorem dX3_init_4 : decode cX3_init 4 = .ok (.aload_n 0, 1) := by decide +kernel
theorem dX3_init_5 : decode cX3_init 5 = .ok (.bipush 25, 2) := by decide +kernel
theorem dX3_init_7 : decode cX3_init 7 = .ok (.newarray .int, 2) := by decide +kernel
theorem dX3_init_9 : decode cX3_init 9 = .ok (.putfield 9, 3) := by decide +kernel
theorem dX3_init_12 : decode cX3_init 12 = .ok (.aload_n 0, 1) := by decide +kernel
theorem dX3_init_13 : decode cX3_init 13 = .ok (.bipush 25, 2) := by decide +kernel
theorem dX3_init_15 : decode cX3_init 15 = .ok (.newarray .int, 2) := by decide +kernel
theorem dX3_init_17 : decode cX3_init 17 = .ok (.putfield 15, 3) := by decide +kernel
theorem dX3_init_20 : decode cX3_init 20 = .ok (.return_, 1) := by decide +kernel
theorem dX3_rainDays_0 : decode cX3_rainDays 0 = .ok (.iconst 0, 1) := by decide +kernel
theorem dX3_rainDays_1 : decode cX3_rainDays 1 = .ok (.istore 5, 2) := by decide +kernel
theorem dX3_rainDays_3 : decode cX3_rainDays 3 = .ok (.iload 5, 2) := by decide +kernel
theorem dX3_rainDays_5 : decode cX3_rainDays 5 = .ok (.iload_n 3, 1) := by decide +kernel
theorem dX3_rainDays_6 : decode cX3_rainDays 6 = .ok (.if_icmp .ge 17, 3) := by decide +kernel
theorem dX3_rainDays_9 : decode cX3_rainDays 9 = .ok (.aload_n 0, 1) := by decide +kernel
theorem dX3_rainDays_10 : decode cX3_rainDays 10 = .ok (.aload_n 1, 1) := by decide +kernel
theorem dX3_rainDays_11 : decode cX3_rainDays 11 = .ok (.aload_n 2, 1) := by decide +kernel
theorem dX3_rainDays_12 : decode cX3_rainDays 12 = .ok (.iload 4, 2) := by decide +kernel
theorem dX3_rainDays_14 : decode cX3_rainDays 14 = .ok (.invokevirtual 18, 3) := by decide +kernel
theorem dX3_rainDays_17 : decode cX3_rainDays 17 = .ok (.iinc 5 1, 3) := by decide +kernel
theorem dX3_rainDays_20 : decode cX3_rainDays 20 = .ok (.goto (-17), 3) := by decide +kernel
theorem dX3_rainDays_23 : decode cX3_rainDays 23 = .ok (.return_, 1) := by decide +kernel
theorem dX3_rainDay_0 : decode cX3_rainDay 0 = .ok (.iconst 0, 1) := by decide +kernel
theorem dX3_rainDay_1 : decode cX3_rainDay 1 = .ok (.istore 4, 2) := by decide +kernel
theorem dX3_rainDay_3 : decode cX3_rainDay 3 = .ok (.iload 4, 2) := by decide +kernel
theorem dX3_rainDay_5 : decode cX3_rainDay 5 = .ok (.aload_n 1, 1) := by decide +kernel
theorem dX3_rainDay_6 : decode cX3_rainDay 6 = .ok (.getfield 22, 3) := by decide +kernel
theorem dX3_rainDay_9 : decode cX3_rainDay 9 = .ok (.if_icmp .ge 45, 3) := by decide +kernel
theorem dX3_rainDay_12 : decode cX3_rainDay 12 = .ok (.aload_n 2, 1) := by decide +kernel
theorem dX3_rainDay_13 : decode cX3_rainDay 13 = .ok (.getfield 28, 3) := by decide +kernel
theorem dX3_rainDay_16 : decode cX3_rainDay 16 = .ok (.iload 4, 2) := by decide +kernel
theorem dX3_rainDay_18 : decode cX3_rainDay 18 = .ok (.invokestatic 33, 3) := by decide +kernel
theorem dX3_rainDay_21 : decode cX3_rainDay 21 = .ok (.istore 5, 2) := by decide +kernel
theorem dX3_rainDay_23 : decode cX3_rainDay 23 = .ok (.aload_n 2, 1) := by decide +kernel
theorem dX3_rainDay_24 : decode cX3_rainDay 24 = .ok (.getfield 37, 3) := by decide +kernel
theorem dX3_rainDay_27 : decode cX3_rainDay 27 = .ok (.iload 5, 2) := by decide +kernel
theorem dX3_rainDay_29 : decode cX3_rainDay 29 = .ok (.bipush 9, 2) := by decide +kernel
theorem dX3_rainDay_31 : decode cX3_rainDay 31 = .ok (.aload_n 2, 1) := by decide +kernel
theorem dX3_rainDay_32 : decode cX3_rainDay 32 = .ok (.getfield 37, 3) := by decide +kernel
theorem dX3_rainDay_35 : decode cX3_rainDay 35 = .ok (.iload 5, 2) := by decide +kernel
theorem dX3_rainDay_37 : decode cX3_rainDay 37 = .ok (.invokestatic 33, 3) := by decide +kernel
theorem dX3_rainDay_40 : decode cX3_rainDay 40 = .ok (.iload_n 3, 1) := by decide +kernel
theorem dX3_rainDay_41 : decode cX3_rainDay 41 = .ok (.iadd, 1) := by decide +kernel
theorem dX3_rainDay_42 : decode cX3_rainDay 42 = .ok (.invokestatic 40, 3) := by decide +kernel
theorem dX3_rainDay_45 : decode cX3_rainDay 45 = .ok (.invokestatic 46, 3) := by decide +kernel
theorem dX3_rainDay_48 : decode cX3_rainDay 48 = .ok (.iinc 4 1, 3) := by decide +kernel
theorem dX3_rainDay_51 : decode cX3_rainDay 51 = .ok (.goto (-48), 3) := by decide +kernel
theorem dX3_rainDay_54 : decode cX3_rainDay 54 = .ok (.aload_n 2, 1) := by decide +kernel
theorem dX3_rainDay_55 : decode cX3_rainDay 55 = .ok (.getfield 37, 3) := by decide +kernel
theorem dX3_rainDay_58 : decode cX3_rainDay 58 = .ok (.iconst 0, 1) := by decide +kernel
theorem dX3_rainDay_59 : decode cX3_rainDay 59 = .ok (.aload_n 0, 1) := by decide +kernel
theorem dX3_rainDay_60 : decode cX3_rainDay 60 = .ok (.getfield 9, 3) := by decide +kernel
theorem dX3_rainDay_63 : decode cX3_rainDay 63 = .ok (.iconst 0, 1) := by decide +kernel
theorem dX3_rainDay_64 : decode cX3_rainDay 64 = .ok (.bipush 25, 2) := by decide +kernel
theorem dX3_rainDay_66 : decode cX3_rainDay 66 = .ok (.invokestatic 50, 3) := by decide +kernel
theorem dX3_rainDay_69 : decode cX3_rainDay 69 = .ok (.aload_n 0, 1) := by decide +kernel
theorem dX3_rainDay_70 : decode cX3_rainDay 70 = .ok (.aload_n 1, 1) := by decide +kernel
theorem dX3_rainDay_71 : decode cX3_rainDay 71 = .ok (.aload_n 2, 1) := by decide +kernel
theorem dX3_rainDay_72 : decode cX3_rainDay 72 = .ok (.invokevirtual 56, 3) := by decide +kernel
theorem dX3_rainDay_75 : decode cX3_rainDay 75 = .ok (.aload_n 0, 1) := by decide +kernel
theorem dX3_rainDay_76 : decode cX3_rainDay 76 = .ok (.aload_n 1, 1) := by decide +kernel
theorem dX3_rainDay_77 : decode cX3_rainDay 77 = .ok (.aload_n 2, 1) := by decide +kernel
theorem dX3_rainDay_78 : decode cX3_rainDay 78 = .ok (.invokevirtual 60, 3) := by decide +kernel
theorem dX3_rainDay_81 : decode cX3_rainDay 81 = .ok (.aload_n 0, 1) := by decide +kernel
theorem dX3_rainDay_82 : decode cX3_rainDay 82 = .ok (.aload_n 2, 1) := by decide +kernel
theorem dX3_rainDay_83 : decode cX3_rainDay 83 = .ok (.iload_n 3, 1) := by decide +kernel
theorem dX3_rainDay_84 : decode cX3_rainDay 84 = .ok (.ifCond .ne 7, 3) := by decide +kernel
theorem dX3_rainDay_87 : decode cX3_rainDay 87 = .ok (.iconst 1, 1) := by decide +kernel
theorem dX3_rainDay_88 : decode cX3_rainDay 88 = .ok (.goto 4, 3) := by decide +kernel
theorem dX3_rainDay_91 : decode cX3_rainDay 91 = .ok (.iconst 0, 1) := by decide +kernel
theorem dX3_rainDay_92 : decode cX3_rainDay 92 = .ok (.invokevirtual 63, 3) := by decide +kernel
theorem dX3_rainDay_95 : decode cX3_rainDay 95 = .ok (.aload_n 2, 1) := by decide +kernel
theorem dX3_rainDay_96 : decode cX3_rainDay 96 = .ok (.dup, 1) := by decide +kernel
theorem dX3_rainDay_97 : decode cX3_rainDay 97 = .ok (.getfield 67, 3) := by decide +kernel
theorem dX3_rainDay_100 : decode cX3_rainDay 100 = .ok (.iconst 1, 1) := by decide +kernel
theorem dX3_rainDay_101 : decode cX3_rainDay 101 = .ok (.iadd, 1) := by decide +kernel
theorem dX3_rainDay_102 : decode cX3_rainDay 102 = .ok (.putfield 67, 3) := by decide +kernel
theorem dX3_rainDay_105 : decode cX3_rainDay 105 = .ok (.return_, 1) := by decide +kernel
theorem dX3_runDownAndByWind_0 : decode cX3_runDownAndByWind 0 = .ok (.iconst 0, 1) := by decide +kernel
theorem dX3_runDownAndByWind_1 : decode cX3_runDownAndByWind 1 = .ok (.istore_n 3, 1) := by decide +kernel
theorem dX3_runDownAndByWind_2 : decode cX3_runDownAndByWind 2 = .ok (.iload_n 3, 1) := by decide +kernel
theorem dX3_runDownAndByWind_3 : decode cX3_runDownAndByWind 3 = .ok (.aload_n 0, 1) := by decide +kernel
theorem dX3_runDownAndByWind_4 : decode cX3_runDownAndByWind 4 = .ok (.getfield 9, 3) := by decide +kernel
theorem dX3_runDownAndByWind_7 : decode cX3_runDownAndByWind 7 = .ok (.arraylength, 1) := by decide +kernel
theorem dX3_runDownAndByWind_8 : decode cX3_runDownAndByWind 8 = .ok (.if_icmp .ge 55, 3) := by decide +kernel
theorem dX3_runDownAndByWind_11 : decode cX3_runDownAndByWind 11 = .ok (.aload_n 0, 1) := by decide +kernel
theorem dX3_runDownAndByWind_12 : decode cX3_runDownAndByWind 12 = .ok (.getfield 9, 3) := by decide +kernel
theorem dX3_runDownAndByWind_15 : decode cX3_runDownAndByWind 15 = .ok (.iload_n 3, 1) := by decide +kernel
theorem dX3_runDownAndByWind_16 : decode cX3_runDownAndByWind 16 = .ok (.iaload, 1) := by decide +kernel
theorem dX3_runDownAndByWind_17 : decode cX3_runDownAndByWind 17 = .ok (.iconst 2, 1) := by decide +kernel
theorem dX3_runDownAndByWind_18 : decode cX3_runDownAndByWind 18 = .ok (.if_icmp .lt 14, 3) := by decide +kernel
theorem dX3_runDownAndByWind_21 : decode cX3_runDownAndByWind 21 = .ok (.aload_n 0, 1) := by decide +kernel
theorem dX3_runDownAndByWind_22 : decode cX3_runDownAndByWind 22 = .ok (.aload_n 2, 1) := by decide +kernel
theorem dX3_runDownAndByWind_23 : decode cX3_runDownAndByWind 23 = .ok (.iload_n 3, 1) := by decide +kernel
theorem dX3_runDownAndByWind_24 : decode cX3_runDownAndByWind 24 = .ok (.aload_n 1, 1) := by decide +kernel
theorem dX3_runDownAndByWind_25 : decode cX3_runDownAndByWind 25 = .ok (.iload_n 3, 1) := by decide +kernel
theorem dX3_runDownAndByWind_26 : decode cX3_runDownAndByWind 26 = .ok (.invokevirtual 70, 3) := by decide +kernel
theorem dX3_runDownAndByWind_29 : decode cX3_runDownAndByWind 29 = .ok (.invokevirtual 74, 3) := by decide +kernel
theorem dX3_runDownAndByWind_32 : decode cX3_runDownAndByWind 32 = .ok (.aload_n 0, 1) := by decide +kernel
theorem dX3_runDownAndByWind_33 : decode cX3_runDownAndByWind 33 = .ok (.getfield 9, 3) := by decide +kernel
theorem dX3_runDownAndByWind_36 : decode cX3_runDownAndByWind 36 = .ok (.iload_n 3, 1) := by decide +kernel
theorem dX3_runDownAndByWind_37 : decode cX3_runDownAndByWind 37 = .ok (.iaload, 1) := by decide +kernel
theorem dX3_runDownAndByWind_38 : decode cX3_runDownAndByWind 38 = .ok (.iconst 4, 1) := by decide +kernel
theorem dX3_runDownAndByWind_39 : decode cX3_runDownAndByWind 39 = .ok (.if_icmp .lt 18, 3) := by decide +kernel
theorem dX3_runDownAndByWind_42 : decode cX3_runDownAndByWind 42 = .ok (.aload_n 0, 1) := by decide +kernel
theorem dX3_runDownAndByWind_43 : decode cX3_runDownAndByWind 43 = .ok (.aload_n 2, 1) := by decide +kernel
theorem dX3_runDownAndByWind_44 : decode cX3_runDownAndByWind 44 = .ok (.iload_n 3, 1) := by decide +kernel
theorem dX3_runDownAndByWind_45 : decode cX3_runDownAndByWind 45 = .ok (.aload_n 1, 1) := by decide +kernel
theorem dX3_runDownAndByWind_46 : decode cX3_runDownAndByWind 46 = .ok (.iload_n 3, 1) := by decide +kernel
theorem dX3_runDownAndByWind_47 : decode cX3_runDownAndByWind 47 = .ok (.aload_n 2, 1) := by decide +kernel
theorem dX3_runDownAndByWind_48 : decode cX3_runDownAndByWind 48 = .ok (.getfield 78, 3) := by decide +kernel
theorem dX3_runDownAndByWind_51 : decode cX3_runDownAndByWind 51 = .ok (.invokevirtual 81, 3) := by decide +kernel
theorem dX3_runDownAndByWind_54 : decode cX3_runDownAndByWind 54 = .ok (.invokevirtual 74, 3) := by decide +kernel
theorem dX3_runDownAndByWind_57 : decode cX3_runDownAndByWind 57 = .ok (.iinc 3 1, 3) := by decide +kernel
theorem dX3_runDownAndByWind_60 : decode cX3_runDownAndByWind 60 = .ok (.goto (-58), 3) := by decide +kernel
theorem dX3_runDownAndByWind_63 : decode cX3_runDownAndByWind 63 = .ok (.return_, 1) := by decide +kernel
theorem dX3_runByCracks_0 : decode cX3_runByCracks 0 = .ok (.iconst 0, 1) := by decide +kernel
theorem dX3_runByCracks_1 : decode cX3_runByCracks 1 = .ok (.istore_n 3, 1) := by decide +kernel
theorem dX3_runByCracks_2 : decode cX3_runByCracks 2 = .ok (.iload_n 3, 1) := by decide +kernel
theorem dX3_runByCracks_3 : decode cX3_runByCracks 3 = .ok (.aload_n 1, 1) := by decide +kernel
theorem dX3_runByCracks_4 : decode cX3_runByCracks 4 = .ok (.getfield 84, 3) := by decide +kernel
theorem dX3_runByCracks_7 : decode cX3_runByCracks 7 = .ok (.if_icmp .ge 95, 3) := by decide +kernel
theorem dX3_runByCracks_10 : decode cX3_runByCracks 10 = .ok (.aload_n 2, 1) := by decide +kernel
theorem dX3_runByCracks_11 : decode cX3_runByCracks 11 = .ok (.iload_n 3, 1) := by decide +kernel
theorem dX3_runByCracks_12 : decode cX3_runByCracks 12 = .ok (.invokevirtual 87, 3) := by decide +kernel
theorem dX3_runByCracks_15 : decode cX3_runByCracks 15 = .ok (.ifCond .eq 6, 3) := by decide +kernel
theorem dX3_runByCracks_18 : decode cX3_runByCracks 18 = .ok (.goto 78, 3) := by decide +kernel
theorem dX3_runByCracks_21 : decode cX3_runByCracks 21 = .ok (.aload_n 1, 1) := by decide +kernel
theorem dX3_runByCracks_22 : decode cX3_runByCracks 22 = .ok (.getfield 91, 3) := by decide +kernel
theorem dX3_runByCracks_25 : decode cX3_runByCracks 25 = .ok (.iload_n 3, 1) := by decide +kernel
theorem dX3_runByCracks_26 : decode cX3_runByCracks 26 = .ok (.invokestatic 33, 3) := by decide +kernel
theorem dX3_runByCracks_29 : decode cX3_runByCracks 29 = .ok (.istore 4, 2) := by decide +kernel
theorem dX3_runByCracks_31 : decode cX3_runByCracks 31 = .ok (.aload_n 1, 1) := by decide +kernel
theorem dX3_runByCracks_32 : decode cX3_runByCracks 32 = .ok (.getfield 94, 3) := by decide +kernel
theorem dX3_runByCracks_35 : decode cX3_runByCracks 35 = .ok (.iload_n 3, 1) := by decide +kernel
theorem dX3_runByCracks_36 : decode cX3_runByCracks 36 = .ok (.invokestatic 33, 3) := by decide +kernel
theorem dX3_runByCracks_39 : decode cX3_runByCracks 39 = .ok (.istore 5, 2) := by decide +kernel
theorem dX3_runByCracks_41 : decode cX3_runByCracks 41 = .ok (.aload_n 0, 1) := by decide +kernel
theorem dX3_runByCracks_42 : decode cX3_runByCracks 42 = .ok (.getfield 9, 3) := by decide +kernel
theorem dX3_runByCracks_45 : decode cX3_runByCracks 45 = .ok (.iload 4, 2) := by decide +kernel
theorem dX3_runByCracks_47 : decode cX3_runByCracks 47 = .ok (.invokestatic 33, 3) := by decide +kernel
theorem dX3_runByCracks_50 : decode cX3_runByCracks 50 = .ok (.aload_n 0, 1) := by decide +kernel
theorem dX3_runByCracks_51 : decode cX3_runByCracks 51 = .ok (.getfield 9, 3) := by decide +kernel
theorem dX3_runByCracks_54 : decode cX3_runByCracks 54 = .ok (.iload 5, 2) := by decide +kernel
theorem dX3_runByCracks_56 : decode cX3_runByCracks 56 = .ok (.invokestatic 33, 3) := by decide +kernel
theorem dX3_runByCracks_59 : decode cX3_runByCracks 59 = .ok (.isub, 1) := by decide +kernel
theorem dX3_runByCracks_60 : decode cX3_runByCracks 60 = .ok (.istore 6, 2) := by decide +kernel
theorem dX3_runByCracks_62 : decode cX3_runByCracks 62 = .ok (.iload 6, 2) := by decide +kernel
theorem dX3_runByCracks_64 : decode cX3_runByCracks 64 = .ok (.iconst 2, 1) := by decide +kernel
theorem dX3_runByCracks_65 : decode cX3_runByCracks 65 = .ok (.if_icmp .lt 15, 3) := by decide +kernel
theorem dX3_runByCracks_68 : decode cX3_runByCracks 68 = .ok (.aload_n 0, 1) := by decide +kernel
theorem dX3_runByCracks_69 : decode cX3_runByCracks 69 = .ok (.aload_n 2, 1) := by decide +kernel
theorem dX3_runByCracks_70 : decode cX3_runByCracks 70 = .ok (.iload 4, 2) := by decide +kernel
theorem dX3_runByCracks_72 : decode cX3_runByCracks 72 = .ok (.iload 5, 2) := by decide +kernel
theorem dX3_runByCracks_74 : decode cX3_runByCracks 74 = .ok (.invokevirtual 74, 3) := by decide +kernel
theorem dX3_runByCracks_77 : decode cX3_runByCracks 77 = .ok (.goto 19, 3) := by decide +kernel
theorem dX3_runByCracks_80 : decode cX3_runByCracks 80 = .ok (.iload 6, 2) := by decide +kernel
theorem dX3_runByCracks_82 : decode cX3_runByCracks 82 = .ok (.bipush (-2), 2) := by decide +kernel
theorem dX3_runByCracks_84 : decode cX3_runByCracks 84 = .ok (.if_icmp .gt 12, 3) := by decide +kernel
theorem dX3_runByCracks_87 : decode cX3_runByCracks 87 = .ok (.aload_n 0, 1) := by decide +kernel
theorem dX3_runByCracks_88 : decode cX3_runByCracks 88 = .ok (.aload_n 2, 1) := by decide +kernel
theorem dX3_runByCracks_89 : decode cX3_runByCracks 89 = .ok (.iload 5, 2) := by decide +kernel
theorem dX3_runByCracks_91 : decode cX3_runByCracks 91 = .ok (.iload 4, 2) := by decide +kernel
theorem dX3_runByCracks_93 : decode cX3_runByCracks 93 = .ok (.invokevirtual 74, 3) := by decide +kernel
theorem dX3_runByCracks_96 : decode cX3_runByCracks 96 = .ok (.iinc 3 1, 3) := by decide +kernel
theorem dX3_runByCracks_99 : decode cX3_runByCracks 99 = .ok (.goto (-97), 3) := by decide +kernel
theorem dX3_runByCracks_102 : decode cX3_runByCracks 102 = .ok (.return_, 1) := by decide +kernel
theorem dX3_give_0 : decode cX3_give 0 = .ok (.iload_n 3, 1) := by decide +kernel
theorem dX3_give_1 : decode cX3_give 1 = .ok (.iconst (-1), 1) := by decide +kernel
theorem dX3_give_2 : decode cX3_give 2 = .ok (.if_icmp .eq 50, 3) := by decide +kernel
theorem dX3_give_5 : decode cX3_give 5 = .ok (.aload_n 1, 1) := by decide +kernel
theorem dX3_give_6 : decode cX3_give 6 = .ok (.getfield 37, 3) := by decide +kernel
theorem dX3_give_9 : decode cX3_give 9 = .ok (.iload_n 2, 1) := by decide +kernel
theorem dX3_give_10 : decode cX3_give 10 = .ok (.invokestatic 33, 3) := by decide +kernel
theorem dX3_give_13 : decode cX3_give 13 = .ok (.ifCond .le 39, 3) := by decide +kernel
theorem dX3_give_16 : decode cX3_give 16 = .ok (.aload_n 1, 1) := by decide +kernel
theorem dX3_give_17 : decode cX3_give 17 = .ok (.getfield 37, 3) := by decide +kernel
theorem dX3_give_20 : decode cX3_give 20 = .ok (.iload_n 2, 1) := by decide +kernel
theorem dX3_give_21 : decode cX3_give 21 = .ok (.aload_n 1, 1) := by decide +kernel
theorem dX3_give_22 : decode cX3_give 22 = .ok (.getfield 37, 3) := by decide +kernel
theorem dX3_give_25 : decode cX3_give 25 = .ok (.iload_n 2, 1) := by decide +kernel
theorem dX3_give_26 : decode cX3_give 26 = .ok (.invokestatic 33, 3) := by decide +kernel
theorem dX3_give_29 : decode cX3_give 29 = .ok (.iconst 1, 1) := by decide +kernel
theorem dX3_give_30 : decode cX3_give 30 = .ok (.isub, 1) := by decide +kernel
theorem dX3_give_31 : decode cX3_give 31 = .ok (.invokestatic 46, 3) := by decide +kernel
theorem dX3_give_34 : decode cX3_give 34 = .ok (.aload_n 0, 1) := by decide +kernel
theorem dX3_give_35 : decode cX3_give 35 = .ok (.getfield 15, 3) := by decide +kernel
theorem dX3_give_38 : decode cX3_give 38 = .ok (.iload_n 3, 1) := by decide +kernel
theorem dX3_give_39 : decode cX3_give 39 = .ok (.aload_n 0, 1) := by decide +kernel
theorem dX3_give_40 : decode cX3_give 40 = .ok (.getfield 15, 3) := by decide +kernel
theorem dX3_give_43 : decode cX3_give 43 = .ok (.iload_n 3, 1) := by decide +kernel
theorem dX3_give_44 : decode cX3_give 44 = .ok (.invokestatic 33, 3) := by decide +kernel
theorem dX3_give_47 : decode cX3_give 47 = .ok (.iconst 1, 1) := by decide +kernel
theorem dX3_give_48 : decode cX3_give 48 = .ok (.iadd, 1) := by decide +kernel
theorem dX3_give_49 : decode cX3_give 49 = .ok (.invokestatic 46, 3) := by decide +kernel
theorem dX3_give_52 : decode cX3_give 52 = .ok (.return_, 1) := by decide +kernel
theorem dX3_settle_0 : decode cX3_settle 0 = .ok (.iconst 0, 1) := by decide +kernel
theorem dX3_settle_1 : decode cX3_settle 1 = .ok (.istore_n 3, 1) := by decide +kernel
theorem dX3_settle_2 : decode cX3_settle 2 = .ok (.iload_n 3, 1) := by decide +kernel
theorem dX3_settle_3 : decode cX3_settle 3 = .ok (.aload_n 0, 1) := by decide +kernel
theorem dX3_settle_4 : decode cX3_settle 4 = .ok (.getfield 15, 3) := by decide +kernel
theorem dX3_settle_7 : decode cX3_settle 7 = .ok (.arraylength, 1) := by decide +kernel
theorem dX3_settle_8 : decode cX3_settle 8 = .ok (.if_icmp .ge 54, 3) := by decide +kernel
theorem dX3_settle_11 : decode cX3_settle 11 = .ok (.bipush 9, 2) := by decide +kernel
theorem dX3_settle_13 : decode cX3_settle 13 = .ok (.aload_n 1, 1) := by decide +kernel
theorem dX3_settle_14 : decode cX3_settle 14 = .ok (.getfield 37, 3) := by decide +kernel
theorem dX3_settle_17 : decode cX3_settle 17 = .ok (.iload_n 3, 1) := by decide +kernel
theorem dX3_settle_18 : decode cX3_settle 18 = .ok (.invokestatic 33, 3) := by decide +kernel
theorem dX3_settle_21 : decode cX3_settle 21 = .ok (.aload_n 0, 1) := by decide +kernel
theorem dX3_settle_22 : decode cX3_settle 22 = .ok (.getfield 15, 3) := by decide +kernel
theorem dX3_settle_25 : decode cX3_settle 25 = .ok (.iload_n 3, 1) := by decide +kernel
theorem dX3_settle_26 : decode cX3_settle 26 = .ok (.iaload, 1) := by decide +kernel
theorem dX3_settle_27 : decode cX3_settle 27 = .ok (.iadd, 1) := by decide +kernel
theorem dX3_settle_28 : decode cX3_settle 28 = .ok (.invokestatic 40, 3) := by decide +kernel
theorem dX3_settle_31 : decode cX3_settle 31 = .ok (.istore 4, 2) := by decide +kernel
theorem dX3_settle_33 : decode cX3_settle 33 = .ok (.aload_n 1, 1) := by decide +kernel
theorem dX3_settle_34 : decode cX3_settle 34 = .ok (.getfield 37, 3) := by decide +kernel
theorem dX3_settle_37 : decode cX3_settle 37 = .ok (.iload_n 3, 1) := by decide +kernel
theorem dX3_settle_38 : decode cX3_settle 38 = .ok (.iconst 0, 1) := by decide +kernel
theorem dX3_settle_39 : decode cX3_settle 39 = .ok (.iload 4, 2) := by decide +kernel
theorem dX3_settle_41 : decode cX3_settle 41 = .ok (.iload_n 2, 1) := by decide +kernel
theorem dX3_settle_42 : decode cX3_settle 42 = .ok (.isub, 1) := by decide +kernel
theorem dX3_settle_43 : decode cX3_settle 43 = .ok (.invokestatic 97, 3) := by decide +kernel
theorem dX3_settle_46 : decode cX3_settle 46 = .ok (.invokestatic 46, 3) := by decide +kernel
theorem dX3_settle_49 : decode cX3_settle 49 = .ok (.aload_n 0, 1) := by decide +kernel
theorem dX3_settle_50 : decode cX3_settle 50 = .ok (.getfield 15, 3) := by decide +kernel
theorem dX3_settle_53 : decode cX3_settle 53 = .ok (.iload_n 3, 1) := by decide +kernel
theorem dX3_settle_54 : decode cX3_settle 54 = .ok (.iconst 0, 1) := by decide +kernel
theorem dX3_settle_55 : decode cX3_settle 55 = .ok (.iastore, 1) := by decide +kernel
theorem dX3_settle_56 : decode cX3_settle 56 = .ok (.iinc 3 1, 3) := by decide +kernel
theorem dX3_settle_59 : decode cX3_settle 59 = .ok (.goto (-57), 3) := by decide +kernel
theorem dX3_settle_62 : decode cX3_settle 62 = .ok (.return_, 1) := by decide +kernel
theorem dX4_init_0 : decode cX4_init 0 = .ok (.aload_n 0, 1) := by decide +kernel
theorem dX4_init_1 : decode cX4_init 1 = .ok (.invokespecial 1, 3) := by decide +kernel
theorem dX4_init_4 : decode cX4_init 4 = .ok (.aload_n 0, 1) := by decide +kernel
theorem dX4_init_5 : decode cX4_init 5 = .ok (.new 7, 3) := by decide +kernel
theorem dX4_init_8 : decode cX4_init 8 = .ok (.dup, 1) := by decide +kernel
theorem dX4_init_9 : decode cX4_init 9 = .ok (.invokespecial 9, 3) := by decide +kernel
theorem dX4_init_12 : decode cX4_init 12 = .ok (.putfield 10, 3) := by decide +kernel
theorem dX4_init_15 : decode cX4_init 15 = .ok (.return_, 1) := by decide +kernel
theorem dX5_besideSet_0 : decode cX5_besideSet 0 = .ok (.iload_n 2, 1) := by decide +kernel
theorem dX5_besideSet_1 : decode cX5_besideSet 1 = .ok (.tableswitch 62 0 2 #[27, 39, 46], 27) := by decide +kernel
theorem dX5_besideSet_28 : decode cX5_besideSet 28 = .ok (.iload_n 1, 1) := by decide +kernel
theorem dX5_besideSet_29 : decode cX5_besideSet 29 = .ok (.aload_n 0, 1) := by decide +kernel
theorem dX5_besideSet_30 : decode cX5_besideSet 30 = .ok (.getfield 9, 3) := by decide +kernel
theorem dX5_besideSet_33 : decode cX5_besideSet 33 = .ok (.ishl, 1) := by decide +kernel
theorem dX5_besideSet_34 : decode cX5_besideSet 34 = .ok (.aload_n 0, 1) := by decide +kernel
theorem dX5_besideSet_35 : decode cX5_besideSet 35 = .ok (.invokevirtual 15, 3) := by decide +kernel
theorem dX5_besideSet_38 : decode cX5_besideSet 38 = .ok (.iand, 1) := by decide +kernel
theorem dX5_besideSet_39 : decode cX5_besideSet 39 = .ok (.ireturn, 1) := by decide +kernel
theorem dX5_besideSet_40 : decode cX5_besideSet 40 = .ok (.iload_n 1, 1) := by decide +kernel
theorem dX5_besideSet_41 : decode cX5_besideSet 41 = .ok (.aload_n 0, 1) := by decide +kernel
theorem dX5_besideSet_42 : decode cX5_besideSet 42 = .ok (.getfield 9, 3) := by decide +kernel
theorem dX5_besideSet_45 : decode cX5_besideSet 45 = .ok (.ishr, 1) := by decide +kernel
theorem dX5_besideSet_46 : decode cX5_besideSet 46 = .ok (.ireturn, 1) := by decide +kernel
theorem dX5_besideSet_47 : decode cX5_besideSet 47 = .ok (.iload_n 1, 1) := by decide +kernel
theorem dX5_besideSet_48 : decode cX5_besideSet 48 = .ok (.iconst 1, 1) := by decide +kernel
theorem dX5_besideSet_49 : decode cX5_besideSet 49 = .ok (.ishl, 1) := by decide +kernel
theorem dX5_besideSet_50 : decode cX5_besideSet 50 = .ok (.aload_n 0, 1) := by decide +kernel
theorem dX5_besideSet_51 : decode cX5_besideSet 51 = .ok (.invokevirtual 15, 3) := by decide +kernel
theorem dX5_besideSet_54 : decode cX5_besideSet 54 = .ok (.iand, 1) := by decide +kernel
theorem dX5_besideSet_55 : decode cX5_besideSet 55 = .ok (.aload_n 0, 1) := by decide +kernel
theorem dX5_besideSet_56 : decode cX5_besideSet 56 = .ok (.getfield 19, 3) := by decide +kernel
theorem dX5_besideSet_59 : decode cX5_besideSet 59 = .ok (.iconst (-1), 1) := by decide +kernel
theorem dX5_besideSet_60 : decode cX5_besideSet 60 = .ok (.ixor, 1) := by decide +kernel
theorem dX5_besideSet_61 : decode cX5_besideSet 61 = .ok (.iand, 1) := by decide +kernel
theorem dX5_besideSet_62 : decode cX5_besideSet 62 = .ok (.ireturn, 1) := by decide +kernel
theorem dX5_besideSet_63 : decode cX5_besideSet 63 = .ok (.iload_n 1, 1) := by decide +kernel
theorem dX5_besideSet_64 : decode cX5_besideSet 64 = .ok (.aload_n 0, 1) := by decide +kernel
theorem dX5_besideSet_65 : decode cX5_besideSet 65 = .ok (.getfield 19, 3) := by decide +kernel
theorem dX5_besideSet_68 : decode cX5_besideSet 68 = .ok (.iconst (-1), 1) := by decide +kernel
theorem dX5_besideSet_69 : decode cX5_besideSet 69 = .ok (.ixor, 1) := by decide +kernel
theorem dX5_besideSet_70 : decode cX5_besideSet 70 = .ok (.iand, 1) := by decide +kernel
theorem dX5_besideSet_71 : decode cX5_besideSet 71 = .ok (.iconst 1, 1) := by decide +kernel
theorem dX5_besideSet_72 : decode cX5_besideSet 72 = .ok (.ishr, 1) := by decide +kernel
theorem dX5_besideSet_73 : decode cX5_besideSet 73 = .ok (.ireturn, 1) := by decide +kernel
theorem dX5_lonely_0 : decode cX5_lonely 0 = .ok (.iconst 0, 1) := by decide +kernel
theorem dX5_lonely_1 : decode cX5_lonely 1 = .ok (.istore_n 2, 1) := by decide +kernel
theorem dX5_lonely_2 : decode cX5_lonely 2 = .ok (.iconst 0, 1) := by decide +kernel
theorem dX5_lonely_3 : decode cX5_lonely 3 = .ok (.istore_n 3, 1) := by decide +kernel
theorem dX5_lonely_4 : decode cX5_lonely 4 = .ok (.iconst 0, 1) := by decide +kernel
theorem dX5_lonely_5 : decode cX5_lonely 5 = .ok (.istore 4, 2) := by decide +kernel
theorem dX5_lonely_7 : decode cX5_lonely 7 = .ok (.iload 4, 2) := by decide +kernel
theorem dX5_lonely_9 : decode cX5_lonely 9 = .ok (.iconst 4, 1) := by decide +kernel
theorem dX5_lonely_10 : decode cX5_lonely 10 = .ok (.if_icmp .ge 30, 3) := by decide +kernel
theorem dX5_lonely_13 : decode cX5_lonely 13 = .ok (.aload_n 0, 1) := by decide +kernel
theorem dX5_lonely_14 : decode cX5_lonely 14 = .ok (.iload_n 1, 1) := by decide +kernel
theorem dX5_lonely_15 : decode cX5_lonely 15 = .ok (.iload 4, 2) := by decide +kernel
theorem dX5_lonely_17 : decode cX5_lonely 17 = .ok (.invokestatic 22, 3) := by decide +kernel
theorem dX5_lonely_20 : decode cX5_lonely 20 = .ok (.istore 5, 2) := by decide +kernel
theorem dX5_lonely_22 : decode cX5_lonely 22 = .ok (.iload_n 3, 1) := by decide +kernel
theorem dX5_lonely_23 : decode cX5_lonely 23 = .ok (.iload_n 2, 1) := by decide +kernel
theorem dX5_lonely_24 : decode cX5_lonely 24 = .ok (.iload 5, 2) := by decide +kernel
theorem dX5_lonely_26 : decode cX5_lonely 26 = .ok (.iand, 1) := by decide +kernel
theorem dX5_lonely_27 : decode cX5_lonely 27 = .ok (.ior, 1) := by decide +kernel
theorem dX5_lonely_28 : decode cX5_lonely 28 = .ok (.istore_n 3, 1) := by decide +kernel
theorem dX5_lonely_29 : decode cX5_lonely 29 = .ok (.iload_n 2, 1) := by decide +kernel
theorem dX5_lonely_30 : decode cX5_lonely 30 = .ok (.iload 5, 2) := by decide +kernel
theorem dX5_lonely_32 : decode cX5_lonely 32 = .ok (.ior, 1) := by decide +kernel
theorem dX5_lonely_33 : decode cX5_lonely 33 = .ok (.istore_n 2, 1) := by decide +kernel
theorem dX5_lonely_34 : decode cX5_lonely 34 = .ok (.iinc 4 1, 3) := by decide +kernel
theorem dX5_lonely_37 : decode cX5_lonely 37 = .ok (.goto (-30), 3) := by decide +kernel
theorem dX5_lonely_40 : decode cX5_lonely 40 = .ok (.iload_n 1, 1) := by decide +kernel
theorem dX5_lonely_41 : decode cX5_lonely 41 = .ok (.iload_n 3, 1) := by decide +kernel
theorem dX5_lonely_42 : decode cX5_lonely 42 = .ok (.iconst (-1), 1) := by decide +kernel
theorem dX5_lonely_43 : decode cX5_lonely 43 = .ok (.ixor, 1) := by decide +kernel
theorem dX5_lonely_44 : decode cX5_lonely 44 = .ok (.iand, 1) := by decide +kernel
theorem dX5_lonely_45 : decode cX5_lonely 45 = .ok (.ireturn, 1) := by decide +kernel
theorem dX5_border_0 : decode cX5_border 0 = .ok (.iconst 0, 1) := by decide +kernel
theorem dX5_border_1 : decode cX5_border 1 = .ok (.istore_n 2, 1) := by decide +kernel
theorem dX5_border_2 : decode cX5_border 2 = .ok (.iconst 0, 1) := by decide +kernel
theorem dX5_border_3 : decode cX5_border 3 = .ok (.istore_n 3, 1) := by decide +kernel
theorem dX5_border_4 : decode cX5_border 4 = .ok (.iload_n 3, 1) := by decide +kernel
theorem dX5_border_5 : decode cX5_border 5 = .ok (.iconst 4, 1) := by decide +kernel
theorem dX5_border_6 : decode cX5_border 6 = .ok (.if_icmp .ge 25, 3) := by decide +kernel
theorem dX5_border_9 : decode cX5_border 9 = .ok (.iload_n 2, 1) := by decide +kernel
theorem dX5_border_10 : decode cX5_border 10 = .ok (.iload_n 1, 1) := by decide +kernel
theorem dX5_border_11 : decode cX5_border 11 = .ok (.aload_n 0, 1) := by decide +kernel
theorem dX5_border_12 : decode cX5_border 12 = .ok (.iload_n 1, 1) := by decide +kernel
theorem dX5_border_13 : decode cX5_border 13 = .ok (.iload_n 3, 1) := by decide +kernel
theorem dX5_border_14 : decode cX5_border 14 = .ok (.invokestatic 22, 3) := by decide +kernel
theorem dX5_border_17 : decode cX5_border 17 = .ok (.iconst (-1), 1) := by decide +kernel
theorem dX5_border_18 : decode cX5_border 18 = .ok (.ixor, 1) := by decide +kernel
theorem dX5_border_19 : decode cX5_border 19 = .ok (.iand, 1) := by decide +kernel
theorem dX5_border_20 : decode cX5_border 20 = .ok (.invokestatic 28, 3) := by decide +kernel
theorem dX5_border_23 : decode cX5_border 23 = .ok (.iadd, 1) := by decide +kernel
theorem dX5_border_24 : decode cX5_border 24 = .ok (.istore_n 2, 1) := by decide +kernel
theorem dX5_border_25 : decode cX5_border 25 = .ok (.iinc 3 1, 3) := by decide +kernel
theorem dX5_border_28 : decode cX5_border 28 = .ok (.goto (-24), 3) := by decide +kernel
theorem dX5_border_31 : decode cX5_border 31 = .ok (.iload_n 2, 1) := by decide +kernel
theorem dX5_border_32 : decode cX5_border 32 = .ok (.ireturn, 1) := by decide +kernel
theorem dX5_groupOf_0 : decode cX5_groupOf 0 = .ok (.iconst 1, 1) := by decide +kernel
theorem dX5_groupOf_1 : decode cX5_groupOf 1 = .ok (.iload_n 2, 1) := by decide +kernel
theorem dX5_groupOf_2 : decode cX5_groupOf 2 = .ok (.ishl, 1) := by decide +kernel
theorem dX5_groupOf_3 : decode cX5_groupOf 3 = .ok (.istore_n 3, 1) := by decide +kernel
theorem dX5_groupOf_4 : decode cX5_groupOf 4 = .ok (.iconst 0, 1) := by decide +kernel
theorem dX5_groupOf_5 : decode cX5_groupOf 5 = .ok (.istore 4, 2) := by decide +kernel
theorem dX5_groupOf_7 : decode cX5_groupOf 7 = .ok (.iload 4, 2) := by decide +kernel
theorem dX5_groupOf_9 : decode cX5_groupOf 9 = .ok (.bipush 25, 2) := by decide +kernel
theorem dX5_groupOf_11 : decode cX5_groupOf 11 = .ok (.if_icmp .ge 53, 3) := by decide +kernel
theorem dX5_groupOf_14 : decode cX5_groupOf 14 = .ok (.iload_n 3, 1) := by decide +kernel
theorem dX5_groupOf_15 : decode cX5_groupOf 15 = .ok (.istore 5, 2) := by decide +kernel
theorem dX5_groupOf_17 : decode cX5_groupOf 17 = .ok (.iconst 0, 1) := by decide +kernel
theorem dX5_groupOf_18 : decode cX5_groupOf 18 = .ok (.istore 6, 2) := by decide +kernel
theorem dX5_groupOf_20 : decode cX5_groupOf 20 = .ok (.iload 6, 2) := by decide +kernel
theorem dX5_groupOf_22 : decode cX5_groupOf 22 = .ok (.iconst 4, 1) := by decide +kernel
theorem dX5_groupOf_23 : decode cX5_groupOf 23 = .ok (.if_icmp .ge 23, 3) := by decide +kernel
theorem dX5_groupOf_26 : decode cX5_groupOf 26 = .ok (.iload 5, 2) := by decide +kernel
theorem dX5_groupOf_28 : decode cX5_groupOf 28 = .ok (.aload_n 0, 1) := by decide +kernel
theorem dX5_groupOf_29 : decode cX5_groupOf 29 = .ok (.iload_n 3, 1) := by decide +kernel
theorem dX5_groupOf_30 : decode cX5_groupOf 30 = .ok (.iload 6, 2) := by decide +kernel
theorem dX5_groupOf_32 : decode cX5_groupOf 32 = .ok (.invokestatic 22, 3) := by decide +kernel
theorem dX5_groupOf_35 : decode cX5_groupOf 35 = .ok (.iload_n 1, 1) := by decide +kernel
theorem dX5_groupOf_36 : decode cX5_groupOf 36 = .ok (.iand, 1) := by decide +kernel
theorem dX5_groupOf_37 : decode cX5_groupOf 37 = .ok (.ior, 1) := by decide +kernel
theorem dX5_groupOf_38 : decode cX5_groupOf 38 = .ok (.istore 5, 2) := by decide +kernel
theorem dX5_groupOf_40 : decode cX5_groupOf 40 = .ok (.iinc 6 1, 3) := by decide +kernel
theorem dX5_groupOf_43 : decode cX5_groupOf 43 = .ok (.goto (-23), 3) := by decide +kernel
theorem dX5_groupOf_46 : decode cX5_groupOf 46 = .ok (.iload 5, 2) := by decide +kernel
theorem dX5_groupOf_48 : decode cX5_groupOf 48 = .ok (.iload_n 3, 1) := by decide +kernel
theorem dX5_groupOf_49 : decode cX5_groupOf 49 = .ok (.if_icmp .ne 6, 3) := by decide +kernel
theorem dX5_groupOf_52 : decode cX5_groupOf 52 = .ok (.goto 12, 3) := by decide +kernel
theorem dX5_groupOf_55 : decode cX5_groupOf 55 = .ok (.iload 5, 2) := by decide +kernel
theorem dX5_groupOf_57 : decode cX5_groupOf 57 = .ok (.istore_n 3, 1) := by decide +kernel
theorem dX5_groupOf_58 : decode cX5_groupOf 58 = .ok (.iinc 4 1, 3) := by decide +kernel
theorem dX5_groupOf_61 : decode cX5_groupOf 61 = .ok (.goto (-54), 3) := by decide +kernel
theorem dX5_groupOf_64 : decode cX5_groupOf 64 = .ok (.iload_n 3, 1) := by decide +kernel
theorem dX5_groupOf_65 : decode cX5_groupOf 65 = .ok (.ireturn, 1) := by decide +kernel
theorem dX5_groups_0 : decode cX5_groups 0 = .ok (.iload_n 1, 1) := by decide +kernel
theorem dX5_groups_1 : decode cX5_groups 1 = .ok (.istore_n 2, 1) := by decide +kernel
theorem dX5_groups_2 : decode cX5_groups 2 = .ok (.iconst 0, 1) := by decide +kernel
theorem dX5_groups_3 : decode cX5_groups 3 = .ok (.istore_n 3, 1) := by decide +kernel
theorem dX5_groups_4 : decode cX5_groups 4 = .ok (.iconst 0, 1) := by decide +kernel
theorem dX5_groups_5 : decode cX5_groups 5 = .ok (.istore 4, 2) := by decide +kernel
theorem dX5_groups_7 : decode cX5_groups 7 = .ok (.iload 4, 2) := by decide +kernel
theorem dX5_groups_9 : decode cX5_groups 9 = .ok (.aload_n 0, 1) := by decide +kernel
theorem dX5_groups_10 : decode cX5_groups 10 = .ok (.invokevirtual 34, 3) := by decide +kernel
theorem dX5_groups_13 : decode cX5_groups 13 = .ok (.if_icmp .ge 33, 3) := by decide +kernel
theorem dX5_groups_16 : decode cX5_groups 16 = .ok (.iload_n 2, 1) := by decide +kernel
theorem dX5_groups_17 : decode cX5_groups 17 = .ok (.iload 4, 2) := by decide +kernel
theorem dX5_groups_19 : decode cX5_groups 19 = .ok (.ishr, 1) := by decide +kernel
theorem dX5_groups_20 : decode cX5_groups 20 = .ok (.iconst 1, 1) := by decide +kernel
theorem dX5_groups_21 : decode cX5_groups 21 = .ok (.iand, 1) := by decide +kernel
theorem dX5_groups_22 : decode cX5_groups 22 = .ok (.ifCond .eq 18, 3) := by decide +kernel
theorem dX5_groups_25 : decode cX5_groups 25 = .ok (.iload_n 2, 1) := by decide +kernel
theorem dX5_groups_26 : decode cX5_groups 26 = .ok (.aload_n 0, 1) := by decide +kernel
theorem dX5_groups_27 : decode cX5_groups 27 = .ok (.iload_n 1, 1) := by decide +kernel
theorem dX5_groups_28 : decode cX5_groups 28 = .ok (.iload 4, 2) := by decide +kernel
theorem dX5_groups_30 : decode cX5_groups 30 = .ok (.invokestatic 37, 3) := by decide +kernel
theorem dX5_groups_33 : decode cX5_groups 33 = .ok (.iconst (-1), 1) := by decide +kernel
theorem dX5_groups_34 : decode cX5_groups 34 = .ok (.ixor, 1) := by decide +kernel
theorem dX5_groups_35 : decode cX5_groups 35 = .ok (.iand, 1) := by decide +kernel
theorem dX5_groups_36 : decode cX5_groups 36 = .ok (.istore_n 2, 1) := by decide +kernel
theorem dX5_groups_37 : decode cX5_groups 37 = .ok (.iinc 3 1, 3) := by decide +kernel
theorem dX5_groups_40 : decode cX5_groups 40 = .ok (.iinc 4 1, 3) := by decide +kernel
theorem dX5_groups_43 : decode cX5_groups 43 = .ok (.goto (-36), 3) := by decide +kernel
theorem dX5_groups_46 : decode cX5_groups 46 = .ok (.iload_n 3, 1) := by decide +kernel
theorem dX5_groups_47 : decode cX5_groups 47 = .ok (.ireturn, 1) := by decide +kernel
theorem dX5_greatestGroup_0 : decode cX5_greatestGroup 0 = .ok (.iload_n 1, 1) := by decide +kernel
theorem dX5_greatestGroup_1 : decode cX5_greatestGroup 1 = .ok (.istore_n 2, 1) := by decide +kernel
theorem dX5_greatestGroup_2 : decode cX5_greatestGroup 2 = .ok (.iconst 0, 1) := by decide +kernel
theorem dX5_greatestGroup_3 : decode cX5_greatestGroup 3 = .ok (.istore_n 3, 1) := by decide +kernel
theorem dX5_greatestGroup_4 : decode cX5_greatestGroup 4 = .ok (.iconst 0, 1) := by decide +kernel
theorem dX5_greatestGroup_5 : decode cX5_greatestGroup 5 = .ok (.istore 4, 2) := by decide +kernel
theorem dX5_greatestGroup_7 : decode cX5_greatestGroup 7 = .ok (.iload 4, 2) := by decide +kernel
theorem dX5_greatestGroup_9 : decode cX5_greatestGroup 9 = .ok (.aload_n 0, 1) := by decide +kernel
theorem dX5_greatestGroup_10 : decode cX5_greatestGroup 10 = .ok (.invokevirtual 34, 3) := by decide +kernel
theorem dX5_greatestGroup_13 : decode cX5_greatestGroup 13 = .ok (.if_icmp .ge 49, 3) := by decide +kernel
theorem dX5_greatestGroup_16 : decode cX5_greatestGroup 16 = .ok (.iload_n 2, 1) := by decide +kernel
theorem dX5_greatestGroup_17 : decode cX5_greatestGroup 17 = .ok (.iload 4, 2) := by decide +kernel
theorem dX5_greatestGroup_19 : decode cX5_greatestGroup 19 = .ok (.ishr, 1) := by decide +kernel
theorem dX5_greatestGroup_20 : decode cX5_greatestGroup 20 = .ok (.iconst 1, 1) := by decide +kernel
theorem dX5_greatestGroup_21 : decode cX5_greatestGroup 21 = .ok (.iand, 1) := by decide +kernel
theorem dX5_greatestGroup_22 : decode cX5_greatestGroup 22 = .ok (.ifCond .eq 34, 3) := by decide +kernel
theorem dX5_greatestGroup_25 : decode cX5_greatestGroup 25 = .ok (.aload_n 0, 1) := by decide +kernel
theorem dX5_greatestGroup_26 : decode cX5_greatestGroup 26 = .ok (.iload_n 1, 1) := by decide +kernel
theorem dX5_greatestGroup_27 : decode cX5_greatestGroup 27 = .ok (.iload 4, 2) := by decide +kernel
theorem dX5_greatestGroup_29 : decode cX5_greatestGroup 29 = .ok (.invokestatic 37, 3) := by decide +kernel
theorem dX5_greatestGroup_32 : decode cX5_greatestGroup 32 = .ok (.istore 5, 2) := by decide +kernel
theorem dX5_greatestGroup_34 : decode cX5_greatestGroup 34 = .ok (.iload_n 2, 1) := by decide +kernel
theorem dX5_greatestGroup_35 : decode cX5_greatestGroup 35 = .ok (.iload 5, 2) := by decide +kernel
theorem dX5_greatestGroup_37 : decode cX5_greatestGroup 37 = .ok (.iconst (-1), 1) := by decide +kernel
theorem dX5_greatestGroup_38 : decode cX5_greatestGroup 38 = .ok (.ixor, 1) := by decide +kernel
theorem dX5_greatestGroup_39 : decode cX5_greatestGroup 39 = .ok (.iand, 1) := by decide +kernel
theorem dX5_greatestGroup_40 : decode cX5_greatestGroup 40 = .ok (.istore_n 2, 1) := by decide +kernel
theorem dX5_greatestGroup_41 : decode cX5_greatestGroup 41 = .ok (.iload 5, 2) := by decide +kernel
theorem dX5_greatestGroup_43 : decode cX5_greatestGroup 43 = .ok (.invokestatic 28, 3) := by decide +kernel
theorem dX5_greatestGroup_46 : decode cX5_greatestGroup 46 = .ok (.iload_n 3, 1) := by decide +kernel
theorem dX5_greatestGroup_47 : decode cX5_greatestGroup 47 = .ok (.invokestatic 28, 3) := by decide +kernel
theorem dX5_greatestGroup_50 : decode cX5_greatestGroup 50 = .ok (.if_icmp .le 6, 3) := by decide +kernel
theorem dX5_greatestGroup_53 : decode cX5_greatestGroup 53 = .ok (.iload 5, 2) := by decide +kernel
theorem dX5_greatestGroup_55 : decode cX5_greatestGroup 55 = .ok (.istore_n 3, 1) := by decide +kernel
theorem dX5_greatestGroup_56 : decode cX5_greatestGroup 56 = .ok (.iinc 4 1, 3) := by decide +kernel
theorem dX5_greatestGroup_59 : decode cX5_greatestGroup 59 = .ok (.goto (-52), 3) := by decide +kernel
theorem dX5_greatestGroup_62 : decode cX5_greatestGroup 62 = .ok (.iload_n 3, 1) := by decide +kernel
theorem dX5_greatestGroup_63 : decode cX5_greatestGroup 63 = .ok (.ireturn, 1) := by decide +kernel
theorem dX5_fullest_0 : decode cX5_fullest 0 = .ok (.iconst (-1), 1) := by decide +kernel
theorem dX5_fullest_1 : decode cX5_fullest 1 = .ok (.istore_n 2, 1) := by decide +kernel
theorem dX5_fullest_2 : decode cX5_fullest 2 = .ok (.iconst 0, 1) := by decide +kernel
theorem dX5_fullest_3 : decode cX5_fullest 3 = .ok (.istore_n 3, 1) := by decide +kernel
theorem dX5_fullest_4 : decode cX5_fullest 4 = .ok (.iconst 0, 1) := by decide +kernel
theorem dX5_fullest_5 : decode cX5_fullest 5 = .ok (.istore 4, 2) := by decide +kernel
theorem dX5_fullest_7 : decode cX5_fullest 7 = .ok (.iload 4, 2) := by decide +kernel
theorem dX5_fullest_9 : decode cX5_fullest 9 = .ok (.aload_n 0, 1) := by decide +kernel
theorem dX5_fullest_10 : decode cX5_fullest 10 = .ok (.getfield 40, 3) := by decide +kernel
theorem dX5_fullest_13 : decode cX5_fullest 13 = .ok (.if_icmp .ge 47, 3) := by decide +kernel
theorem dX5_fullest_16 : decode cX5_fullest 16 = .ok (.iload_n 1, 1) := by decide +kernel
theorem dX5_fullest_17 : decode cX5_fullest 17 = .ok (.iload 4, 2) := by decide +kernel
theorem dX5_fullest_19 : decode cX5_fullest 19 = .ok (.aload_n 0, 1) := by decide +kernel
theorem dX5_fullest_20 : decode cX5_fullest 20 = .ok (.getfield 9, 3) := by decide +kernel
theorem dX5_fullest_23 : decode cX5_fullest 23 = .ok (.imul, 1) := by decide +kernel
theorem dX5_fullest_24 : decode cX5_fullest 24 = .ok (.ishr, 1) := by decide +kernel
theorem dX5_fullest_25 : decode cX5_fullest 25 = .ok (.iconst 1, 1) := by decide +kernel
theorem dX5_fullest_26 : decode cX5_fullest 26 = .ok (.aload_n 0, 1) := by decide +kernel
theorem dX5_fullest_27 : decode cX5_fullest 27 = .ok (.getfield 9, 3) := by decide +kernel
theorem dX5_fullest_30 : decode cX5_fullest 30 = .ok (.ishl, 1) := by decide +kernel
theorem dX5_fullest_31 : decode cX5_fullest 31 = .ok (.iconst 1, 1) := by decide +kernel
theorem dX5_fullest_32 : decode cX5_fullest 32 = .ok (.isub, 1) := by decide +kernel
theorem dX5_fullest_33 : decode cX5_fullest 33 = .ok (.iand, 1) := by decide +kernel
theorem dX5_fullest_34 : decode cX5_fullest 34 = .ok (.istore 5, 2) := by decide +kernel
theorem dX5_fullest_36 : decode cX5_fullest 36 = .ok (.iload 5, 2) := by decide +kernel
theorem dX5_fullest_38 : decode cX5_fullest 38 = .ok (.invokestatic 28, 3) := by decide +kernel
theorem dX5_fullest_41 : decode cX5_fullest 41 = .ok (.iload_n 3, 1) := by decide +kernel
theorem dX5_fullest_42 : decode cX5_fullest 42 = .ok (.if_icmp .le 12, 3) := by decide +kernel
theorem dX5_fullest_45 : decode cX5_fullest 45 = .ok (.iload 5, 2) := by decide +kernel
theorem dX5_fullest_47 : decode cX5_fullest 47 = .ok (.invokestatic 28, 3) := by decide +kernel
theorem dX5_fullest_50 : decode cX5_fullest 50 = .ok (.istore_n 3, 1) := by decide +kernel
theorem dX5_fullest_51 : decode cX5_fullest 51 = .ok (.iload 4, 2) := by decide +kernel
theorem dX5_fullest_53 : decode cX5_fullest 53 = .ok (.istore_n 2, 1) := by decide +kernel
theorem dX5_fullest_54 : decode cX5_fullest 54 = .ok (.iinc 4 1, 3) := by decide +kernel
theorem dX5_fullest_57 : decode cX5_fullest 57 = .ok (.goto (-50), 3) := by decide +kernel
theorem dX5_fullest_60 : decode cX5_fullest 60 = .ok (.iload_n 2, 1) := by decide +kernel
theorem dX5_fullest_61 : decode cX5_fullest 61 = .ok (.ireturn, 1) := by decide +kernel
theorem dX5_like_0 : decode cX5_like 0 = .ok (.aload_n 0, 1) := by decide +kernel
theorem dX5_like_1 : decode cX5_like 1 = .ok (.invokevirtual 34, 3) := by decide +kernel
theorem dX5_like_4 : decode cX5_like 4 = .ok (.iload_n 1, 1) := by decide +kernel
theorem dX5_like_5 : decode cX5_like 5 = .ok (.iload_n 2, 1) := by decide +kernel
theorem dX5_like_6 : decode cX5_like 6 = .ok (.ixor, 1) := by decide +kernel
theorem dX5_like_7 : decode cX5_like 7 = .ok (.invokestatic 28, 3) := by decide +kernel
theorem dX5_like_10 : decode cX5_like 10 = .ok (.isub, 1) := by decide +kernel
theorem dX5_like_11 : decode cX5_like 11 = .ok (.ireturn, 1) := by decide +kernel
theorem dX5_whom_0 : decode cX5_whom 0 = .ok (.iconst (-1), 1) := by decide +kernel
theorem dX5_whom_1 : decode cX5_whom 1 = .ok (.istore_n 2, 1) := by decide +kernel
theorem dX5_whom_2 : decode cX5_whom 2 = .ok (.iconst (-1), 1) := by decide +kernel
theorem dX5_whom_3 : decode cX5_whom 3 = .ok (.istore_n 3, 1) := by decide +kernel
theorem dX5_whom_4 : decode cX5_whom 4 = .ok (.iconst 0, 1) := by decide +kernel
theorem dX5_whom_5 : decode cX5_whom 5 = .ok (.istore 4, 2) := by decide +kernel
theorem dX5_whom_7 : decode cX5_whom 7 = .ok (.iload 4, 2) := by decide +kernel
theorem dX5_whom_9 : decode cX5_whom 9 = .ok (.aload_n 0, 1) := by decide +kernel
theorem dX5_whom_10 : decode cX5_whom 10 = .ok (.getfield 43, 3) := by decide +kernel
theorem dX5_whom_13 : decode cX5_whom 13 = .ok (.if_icmp .ge 37, 3) := by decide +kernel
theorem dX5_whom_16 : decode cX5_whom 16 = .ok (.aload_n 0, 1) := by decide +kernel
theorem dX5_whom_17 : decode cX5_whom 17 = .ok (.iload_n 1, 1) := by decide +kernel
theorem dX5_whom_18 : decode cX5_whom 18 = .ok (.aload_n 0, 1) := by decide +kernel
theorem dX5_whom_19 : decode cX5_whom 19 = .ok (.getfield 46, 3) := by decide +kernel
theorem dX5_whom_22 : decode cX5_whom 22 = .ok (.iload 4, 2) := by decide +kernel
theorem dX5_whom_24 : decode cX5_whom 24 = .ok (.invokestatic 50, 3) := by decide +kernel
theorem dX5_whom_27 : decode cX5_whom 27 = .ok (.invokestatic 54, 3) := by decide +kernel
theorem dX5_whom_30 : decode cX5_whom 30 = .ok (.istore 5, 2) := by decide +kernel
theorem dX5_whom_32 : decode cX5_whom 32 = .ok (.iload 5, 2) := by decide +kernel
theorem dX5_whom_34 : decode cX5_whom 34 = .ok (.iload_n 3, 1) := by decide +kernel
theorem dX5_whom_35 : decode cX5_whom 35 = .ok (.if_icmp .le 9, 3) := by decide +kernel
theorem dX5_whom_38 : decode cX5_whom 38 = .ok (.iload 5, 2) := by decide +kernel
theorem dX5_whom_40 : decode cX5_whom 40 = .ok (.istore_n 3, 1) := by decide +kernel
theorem dX5_whom_41 : decode cX5_whom 41 = .ok (.iload 4, 2) := by decide +kernel
theorem dX5_whom_43 : decode cX5_whom 43 = .ok (.istore_n 2, 1) := by decide +kernel
theorem dX5_whom_44 : decode cX5_whom 44 = .ok (.iinc 4 1, 3) := by decide +kernel
theorem dX5_whom_47 : decode cX5_whom 47 = .ok (.goto (-40), 3) := by decide +kernel
theorem dX5_whom_50 : decode cX5_whom 50 = .ok (.iload_n 2, 1) := by decide +kernel
theorem dX5_whom_51 : decode cX5_whom 51 = .ok (.ireturn, 1) := by decide +kernel
theorem dX5_mayBe_0 : decode cX5_mayBe 0 = .ok (.iconst 0, 1) := by decide +kernel
theorem dX5_mayBe_1 : decode cX5_mayBe 1 = .ok (.istore_n 2, 1) := by decide +kernel
theorem dX5_mayBe_2 : decode cX5_mayBe 2 = .ok (.iconst 0, 1) := by decide +kernel
theorem dX5_mayBe_3 : decode cX5_mayBe 3 = .ok (.istore_n 3, 1) := by decide +kernel
theorem dX5_mayBe_4 : decode cX5_mayBe 4 = .ok (.iload_n 3, 1) := by decide +kernel
theorem dX5_mayBe_5 : decode cX5_mayBe 5 = .ok (.aload_n 0, 1) := by decide +kernel
theorem dX5_mayBe_6 : decode cX5_mayBe 6 = .ok (.getfield 43, 3) := by decide +kernel
theorem dX5_mayBe_9 : decode cX5_mayBe 9 = .ok (.if_icmp .ge 30, 3) := by decide +kernel
theorem dX5_mayBe_12 : decode cX5_mayBe 12 = .ok (.iload_n 1, 1) := by decide +kernel
theorem dX5_mayBe_13 : decode cX5_mayBe 13 = .ok (.aload_n 0, 1) := by decide +kernel
theorem dX5_mayBe_14 : decode cX5_mayBe 14 = .ok (.getfield 46, 3) := by decide +kernel
theorem dX5_mayBe_17 : decode cX5_mayBe 17 = .ok (.iload_n 3, 1) := by decide +kernel
theorem dX5_mayBe_18 : decode cX5_mayBe 18 = .ok (.invokestatic 50, 3) := by decide +kernel
theorem dX5_mayBe_21 : decode cX5_mayBe 21 = .ok (.iconst (-1), 1) := by decide +kernel
theorem dX5_mayBe_22 : decode cX5_mayBe 22 = .ok (.ixor, 1) := by decide +kernel
theorem dX5_mayBe_23 : decode cX5_mayBe 23 = .ok (.iand, 1) := by decide +kernel
theorem dX5_mayBe_24 : decode cX5_mayBe 24 = .ok (.ifCond .ne 9, 3) := by decide +kernel
theorem dX5_mayBe_27 : decode cX5_mayBe 27 = .ok (.iload_n 2, 1) := by decide +kernel
theorem dX5_mayBe_28 : decode cX5_mayBe 28 = .ok (.iconst 1, 1) := by decide +kernel
theorem dX5_mayBe_29 : decode cX5_mayBe 29 = .ok (.iload_n 3, 1) := by decide +kernel
theorem dX5_mayBe_30 : decode cX5_mayBe 30 = .ok (.ishl, 1) := by decide +kernel
theorem dX5_mayBe_31 : decode cX5_mayBe 31 = .ok (.ior, 1) := by decide +kernel
theorem dX5_mayBe_32 : decode cX5_mayBe 32 = .ok (.istore_n 2, 1) := by decide +kernel
theorem dX5_mayBe_33 : decode cX5_mayBe 33 = .ok (.iinc 3 1, 3) := by decide +kernel
theorem dX5_mayBe_36 : decode cX5_mayBe 36 = .ok (.goto (-32), 3) := by decide +kernel
theorem dX5_mayBe_39 : decode cX5_mayBe 39 = .ok (.iload_n 2, 1) := by decide +kernel
theorem dX5_mayBe_40 : decode cX5_mayBe 40 = .ok (.ireturn, 1) := by decide +kernel
theorem dX6_init_0 : decode cX6_init 0 = .ok (.aload_n 0, 1) := by decide +kernel
theorem dX6_init_1 : decode cX6_init 1 = .ok (.invokespecial 3, 3) := by decide +kernel
theorem dX6_init_4 : decode cX6_init 4 = .ok (.aload_n 0, 1) := by decide +kernel
theorem dX6_init_5 : decode cX6_init 5 = .ok (.bipush 16, 2) := by decide +kernel
theorem dX6_init_7 : decode cX6_init 7 = .ok (.anewarray 9, 3) := by decide +kernel
theorem dX6_init_10 : decode cX6_init 10 = .ok (.putfield 11, 3) := by decide +kernel
theorem dX6_init_13 : decode cX6_init 13 = .ok (.iconst 0, 1) := by decide +kernel
theorem dX6_init_14 : decode cX6_init 14 = .ok (.istore_n 1, 1) := by decide +kernel
theorem dX6_init_15 : decode cX6_init 15 = .ok (.iload_n 1, 1) := by decide +kernel
theorem dX6_init_16 : decode cX6_init 16 = .ok (.aload_n 0, 1) := by decide +kernel
theorem dX6_init_17 : decode cX6_init 17 = .ok (.getfield 11, 3) := by decide +kernel
theorem dX6_init_20 : decode cX6_init 20 = .ok (.arraylength, 1) := by decide +kernel
theorem dX6_init_21 : decode cX6_init 21 = .ok (.if_icmp .ge 22, 3) := by decide +kernel
theorem dX6_init_24 : decode cX6_init 24 = .ok (.aload_n 0, 1) := by decide +kernel
theorem dX6_init_25 : decode cX6_init 25 = .ok (.getfield 11, 3) := by decide +kernel
theorem dX6_init_28 : decode cX6_init 28 = .ok (.iload_n 1, 1) := by decide +kernel
theorem dX6_init_29 : decode cX6_init 29 = .ok (.new 9, 3) := by decide +kernel
theorem dX6_init_32 : decode cX6_init 32 = .ok (.dup, 1) := by decide +kernel
theorem dX6_init_33 : decode cX6_init 33 = .ok (.invokespecial 17, 3) := by decide +kernel
theorem dX6_init_36 : decode cX6_init 36 = .ok (.aastore, 1) := by decide +kernel
theorem dX6_init_37 : decode cX6_init 37 = .ok (.iinc 1 1, 3) := by decide +kernel
theorem dX6_init_40 : decode cX6_init 40 = .ok (.goto (-25), 3) := by decide +kernel
theorem dX6_init_43 : decode cX6_init 43 = .ok (.return_, 1) := by decide +kernel
theorem dX6_clear_0 : decode cX6_clear 0 = .ok (.aload_n 0, 1) := by decide +kernel
theorem dX6_clear_1 : decode cX6_clear 1 = .ok (.iconst 0, 1) := by decide +kernel
theorem dX6_clear_2 : decode cX6_clear 2 = .ok (.putfield 18, 3) := by decide +kernel
theorem dX6_clear_5 : decode cX6_clear 5 = .ok (.return_, 1) := by decide +kernel
theorem dX6_push_0 : decode cX6_push 0 = .ok (.aload_n 0, 1) := by decide +kernel
theorem dX6_push_1 : decode cX6_push 1 = .ok (.getfield 22, 3) := by decide +kernel
theorem dX6_push_4 : decode cX6_push 4 = .ok (.ifCond .lt 28, 3) := by decide +kernel
theorem dX6_push_7 : decode cX6_push 7 = .ok (.aload_n 0, 1) := by decide +kernel
theorem dX6_push_8 : decode cX6_push 8 = .ok (.getfield 22, 3) := by decide +kernel
theorem dX6_push_11 : decode cX6_push 11 = .ok (.aload_n 0, 1) := by decide +kernel
theorem dX6_push_12 : decode cX6_push 12 = .ok (.getfield 11, 3) := by decide +kernel
theorem dX6_push_15 : decode cX6_push 15 = .ok (.arraylength, 1) := by decide +kernel
theorem dX6_push_16 : decode cX6_push 16 = .ok (.if_icmp .ge 16, 3) := by decide +kernel
theorem dX6_push_19 : decode cX6_push 19 = .ok (.aload_n 0, 1) := by decide +kernel
theorem dX6_push_20 : decode cX6_push 20 = .ok (.getfield 11, 3) := by decide +kernel
theorem dX6_push_23 : decode cX6_push 23 = .ok (.aload_n 0, 1) := by decide +kernel
theorem dX6_push_24 : decode cX6_push 24 = .ok (.getfield 22, 3) := by decide +kernel
theorem dX6_push_27 : decode cX6_push 27 = .ok (.aaload, 1) := by decide +kernel
theorem dX6_push_28 : decode cX6_push 28 = .ok (.aload_n 1, 1) := by decide +kernel
theorem dX6_push_29 : decode cX6_push 29 = .ok (.invokevirtual 25, 3) := by decide +kernel
theorem dX6_push_32 : decode cX6_push 32 = .ok (.aload_n 0, 1) := by decide +kernel
theorem dX6_push_33 : decode cX6_push 33 = .ok (.aload_n 0, 1) := by decide +kernel
theorem dX6_push_34 : decode cX6_push 34 = .ok (.getfield 22, 3) := by decide +kernel
theorem dX6_push_37 : decode cX6_push 37 = .ok (.iconst 1, 1) := by decide +kernel
theorem dX6_push_38 : decode cX6_push 38 = .ok (.iadd, 1) := by decide +kernel
theorem dX6_push_39 : decode cX6_push 39 = .ok (.bipush 16, 2) := by decide +kernel
theorem dX6_push_41 : decode cX6_push 41 = .ok (.if_icmp .ge 12, 3) := by decide +kernel
theorem dX6_push_44 : decode cX6_push 44 = .ok (.aload_n 0, 1) := by decide +kernel
theorem dX6_push_45 : decode cX6_push 45 = .ok (.getfield 22, 3) := by decide +kernel
theorem dX6_push_48 : decode cX6_push 48 = .ok (.iconst 1, 1) := by decide +kernel
theorem dX6_push_49 : decode cX6_push 49 = .ok (.iadd, 1) := by decide +kernel
theorem dX6_push_50 : decode cX6_push 50 = .ok (.goto 4, 3) := by decide +kernel
theorem dX6_push_53 : decode cX6_push 53 = .ok (.iconst 0, 1) := by decide +kernel
theorem dX6_push_54 : decode cX6_push 54 = .ok (.putfield 22, 3) := by decide +kernel
theorem dX6_push_57 : decode cX6_push 57 = .ok (.aload_n 0, 1) := by decide +kernel
theorem dX6_push_58 : decode cX6_push 58 = .ok (.bipush 16, 2) := by decide +kernel
theorem dX6_push_60 : decode cX6_push 60 = .ok (.aload_n 0, 1) := by decide +kernel
theorem dX6_push_61 : decode cX6_push 61 = .ok (.getfield 18, 3) := by decide +kernel
theorem dX6_push_64 : decode cX6_push 64 = .ok (.iconst 1, 1) := by decide +kernel
theorem dX6_push_65 : decode cX6_push 65 = .ok (.iadd, 1) := by decide +kernel
theorem dX6_push_66 : decode cX6_push 66 = .ok (.invokestatic 29, 3) := by decide +kernel
theorem dX6_push_69 : decode cX6_push 69 = .ok (.putfield 18, 3) := by decide +kernel
theorem dX6_push_72 : decode cX6_push 72 = .ok (.return_, 1) := by decide +kernel
theorem dX6_pop_0 : decode cX6_pop 0 = .ok (.aload_n 0, 1) := by decide +kernel
theorem dX6_pop_1 : decode cX6_pop 1 = .ok (.getfield 18, 3) := by decide +kernel
theorem dX6_pop_4 : decode cX6_pop 4 = .ok (.ifCond .gt 5, 3) := by decide +kernel
theorem dX6_pop_7 : decode cX6_pop 7 = .ok (.iconst 0, 1) := by decide +kernel
theorem dX6_pop_8 : decode cX6_pop 8 = .ok (.ireturn, 1) := by decide +kernel
theorem dX6_pop_9 : decode cX6_pop 9 = .ok (.aload_n 0, 1) := by decide +kernel
theorem dX6_pop_10 : decode cX6_pop 10 = .ok (.dup, 1) := by decide +kernel
theorem dX6_pop_11 : decode cX6_pop 11 = .ok (.getfield 18, 3) := by decide +kernel
theorem dX6_pop_14 : decode cX6_pop 14 = .ok (.iconst 1, 1) := by decide +kernel
theorem dX6_pop_15 : decode cX6_pop 15 = .ok (.isub, 1) := by decide +kernel
theorem dX6_pop_16 : decode cX6_pop 16 = .ok (.putfield 18, 3) := by decide +kernel
theorem dX6_pop_19 : decode cX6_pop 19 = .ok (.aload_n 0, 1) := by decide +kernel
theorem dX6_pop_20 : decode cX6_pop 20 = .ok (.aload_n 0, 1) := by decide +kernel
theorem dX6_pop_21 : decode cX6_pop 21 = .ok (.getfield 22, 3) := by decide +kernel
theorem dX6_pop_24 : decode cX6_pop 24 = .ok (.ifCond .le 12, 3) := by decide +kernel
theorem dX6_pop_27 : decode cX6_pop 27 = .ok (.aload_n 0, 1) := by decide +kernel
theorem dX6_pop_28 : decode cX6_pop 28 = .ok (.getfield 22, 3) := by decide +kernel
theorem dX6_pop_31 : decode cX6_pop 31 = .ok (.iconst 1, 1) := by decide +kernel
theorem dX6_pop_32 : decode cX6_pop 32 = .ok (.isub, 1) := by decide +kernel
theorem dX6_pop_33 : decode cX6_pop 33 = .ok (.goto 5, 3) := by decide +kernel
theorem dX6_pop_36 : decode cX6_pop 36 = .ok (.bipush 15, 2) := by decide +kernel
theorem dX6_pop_38 : decode cX6_pop 38 = .ok (.putfield 22, 3) := by decide +kernel
theorem dX6_pop_41 : decode cX6_pop 41 = .ok (.aload_n 0, 1) := by decide +kernel
theorem dX6_pop_42 : decode cX6_pop 42 = .ok (.getfield 22, 3) := by decide +kernel
theorem dX6_pop_45 : decode cX6_pop 45 = .ok (.ifCond .lt 28, 3) := by decide +kernel
theorem dX6_pop_48 : decode cX6_pop 48 = .ok (.aload_n 0, 1) := by decide +kernel
theorem dX6_pop_49 : decode cX6_pop 49 = .ok (.getfield 22, 3) := by decide +kernel
theorem dX6_pop_52 : decode cX6_pop 52 = .ok (.aload_n 0, 1) := by decide +kernel
theorem dX6_pop_53 : decode cX6_pop 53 = .ok (.getfield 11, 3) := by decide +kernel
theorem dX6_pop_56 : decode cX6_pop 56 = .ok (.arraylength, 1) := by decide +kernel
theorem dX6_pop_57 : decode cX6_pop 57 = .ok (.if_icmp .ge 16, 3) := by decide +kernel
theorem dX6_pop_60 : decode cX6_pop 60 = .ok (.aload_n 1, 1) := by decide +kernel
theorem dX6_pop_61 : decode cX6_pop 61 = .ok (.aload_n 0, 1) := by decide +kernel
theorem dX6_pop_62 : decode cX6_pop 62 = .ok (.getfield 11, 3) := by decide +kernel
theorem dX6_pop_65 : decode cX6_pop 65 = .ok (.aload_n 0, 1) := by decide +kernel
theorem dX6_pop_66 : decode cX6_pop 66 = .ok (.getfield 22, 3) := by decide +kernel
theorem dX6_pop_69 : decode cX6_pop 69 = .ok (.aaload, 1) := by decide +kernel
theorem dX6_pop_70 : decode cX6_pop 70 = .ok (.invokevirtual 25, 3) := by decide +kernel
theorem dX6_pop_73 : decode cX6_pop 73 = .ok (.iconst 1, 1) := by decide +kernel
theorem dX6_pop_74 : decode cX6_pop 74 = .ok (.ireturn, 1) := by decide +kernel
theorem dX7_init_0 : decode cX7_init 0 = .ok (.aload_n 0, 1) := by decide +kernel
theorem dX7_init_1 : decode cX7_init 1 = .ok (.invokespecial 3, 3) := by decide +kernel
theorem dX7_init_4 : decode cX7_init 4 = .ok (.aload_n 0, 1) := by decide +kernel
theorem dX7_init_5 : decode cX7_init 5 = .ok (.iconst 4, 1) := by decide +kernel
theorem dX7_init_6 : decode cX7_init 6 = .ok (.newarray .int, 2) := by decide +kernel
theorem dX7_init_8 : decode cX7_init 8 = .ok (.putfield 9, 3) := by decide +kernel
theorem dX7_init_11 : decode cX7_init 11 = .ok (.aload_n 0, 1) := by decide +kernel
theorem dX7_init_12 : decode cX7_init 12 = .ok (.bipush 6, 2) := by decide +kernel
theorem dX7_init_14 : decode cX7_init 14 = .ok (.newarray .int, 2) := by decide +kernel
theorem dX7_init_16 : decode cX7_init 16 = .ok (.putfield 15, 3) := by decide +kernel
theorem dX7_init_19 : decode cX7_init 19 = .ok (.aload_n 0, 1) := by decide +kernel
theorem dX7_init_20 : decode cX7_init 20 = .ok (.bipush 6, 2) := by decide +kernel
theorem dX7_init_22 : decode cX7_init 22 = .ok (.newarray .int, 2) := by decide +kernel
theorem dX7_init_24 : decode cX7_init 24 = .ok (.putfield 18, 3) := by decide +kernel
theorem dX7_init_27 : decode cX7_init 27 = .ok (.aload_n 0, 1) := by decide +kernel
theorem dX7_init_28 : decode cX7_init 28 = .ok (.iconst 5, 1) := by decide +kernel
theorem dX7_init_29 : decode cX7_init 29 = .ok (.newarray .int, 2) := by decide +kernel
theorem dX7_init_31 : decode cX7_init 31 = .ok (.putfield 21, 3) := by decide +kernel
theorem dX7_init_34 : decode cX7_init 34 = .ok (.return_, 1) := by decide +kernel
theorem dX7_clear_0 : decode cX7_clear 0 = .ok (.aload_n 0, 1) := by decide +kernel
theorem dX7_clear_1 : decode cX7_clear 1 = .ok (.iconst 0, 1) := by decide +kernel
theorem dX7_clear_2 : decode cX7_clear 2 = .ok (.iconst 0, 1) := by decide +kernel
theorem dX7_clear_3 : decode cX7_clear 3 = .ok (.invokevirtual 24, 3) := by decide +kernel
theorem dX7_clear_6 : decode cX7_clear 6 = .ok (.aload_n 0, 1) := by decide +kernel
theorem dX7_clear_7 : decode cX7_clear 7 = .ok (.iconst 0, 1) := by decide +kernel
theorem dX7_clear_8 : decode cX7_clear 8 = .ok (.putfield 28, 3) := by decide +kernel
theorem dX7_clear_11 : decode cX7_clear 11 = .ok (.aload_n 0, 1) := by decide +kernel
theorem dX7_clear_12 : decode cX7_clear 12 = .ok (.iconst 0, 1) := by decide +kernel
theorem dX7_clear_13 : decode cX7_clear 13 = .ok (.putfield 32, 3) := by decide +kernel
theorem dX7_clear_16 : decode cX7_clear 16 = .ok (.aload_n 0, 1) := by decide +kernel
theorem dX7_clear_17 : decode cX7_clear 17 = .ok (.iconst 0, 1) := by decide +kernel
theorem dX7_clear_18 : decode cX7_clear 18 = .ok (.putfield 35, 3) := by decide +kernel
theorem dX7_clear_21 : decode cX7_clear 21 = .ok (.aload_n 0, 1) := by decide +kernel
theorem dX7_clear_22 : decode cX7_clear 22 = .ok (.iconst 0, 1) := by decide +kernel
theorem dX7_clear_23 : decode cX7_clear 23 = .ok (.putfield 38, 3) := by decide +kernel
theorem dX7_clear_26 : decode cX7_clear 26 = .ok (.return_, 1) := by decide +kernel
theorem dX7_cells_0 : decode cX7_cells 0 = .ok (.aload_n 0, 1) := by decide +kernel
theorem dX7_cells_1 : decode cX7_cells 1 = .ok (.getfield 41, 3) := by decide +kernel
theorem dX7_cells_4 : decode cX7_cells 4 = .ok (.aload_n 0, 1) := by decide +kernel
theorem dX7_cells_5 : decode cX7_cells 5 = .ok (.getfield 44, 3) := by decide +kernel
theorem dX7_cells_8 : decode cX7_cells 8 = .ok (.imul, 1) := by decide +kernel
theorem dX7_cells_9 : decode cX7_cells 9 = .ok (.ireturn, 1) := by decide +kernel
theorem dX7_allCells_0 : decode cX7_allCells 0 = .ok (.iconst 1, 1) := by decide +kernel
theorem dX7_allCells_1 : decode cX7_allCells 1 = .ok (.aload_n 0, 1) := by decide +kernel
theorem dX7_allCells_2 : decode cX7_allCells 2 = .ok (.invokevirtual 47, 3) := by decide +kernel
theorem dX7_allCells_5 : decode cX7_allCells 5 = .ok (.ishl, 1) := by decide +kernel
theorem dX7_allCells_6 : decode cX7_allCells 6 = .ok (.iconst 1, 1) := by decide +kernel
theorem dX7_allCells_7 : decode cX7_allCells 7 = .ok (.isub, 1) := by decide +kernel
theorem dX7_allCells_8 : decode cX7_allCells 8 = .ok (.ireturn, 1) := by decide +kernel
theorem dX7_resize_0 : decode cX7_resize 0 = .ok (.aload_n 0, 1) := by decide +kernel
theorem dX7_resize_1 : decode cX7_resize 1 = .ok (.iload_n 1, 1) := by decide +kernel
theorem dX7_resize_2 : decode cX7_resize 2 = .ok (.putfield 41, 3) := by decide +kernel
theorem dX7_resize_5 : decode cX7_resize 5 = .ok (.aload_n 0, 1) := by decide +kernel
theorem dX7_resize_6 : decode cX7_resize 6 = .ok (.iload_n 2, 1) := by decide +kernel
theorem dX7_resize_7 : decode cX7_resize 7 = .ok (.putfield 44, 3) := by decide +kernel
theorem dX7_resize_10 : decode cX7_resize 10 = .ok (.aload_n 0, 1) := by decide +kernel
theorem dX7_resize_11 : decode cX7_resize 11 = .ok (.iconst 0, 1) := by decide +kernel
theorem dX7_resize_12 : decode cX7_resize 12 = .ok (.putfield 51, 3) := by decide +kernel
theorem dX7_resize_15 : decode cX7_resize 15 = .ok (.iconst 0, 1) := by decide +kernel
theorem dX7_resize_16 : decode cX7_resize 16 = .ok (.istore_n 3, 1) := by decide +kernel
theorem dX7_resize_17 : decode cX7_resize 17 = .ok (.iload_n 3, 1) := by decide +kernel
theorem dX7_resize_18 : decode cX7_resize 18 = .ok (.iload_n 1, 1) := by decide +kernel
theorem dX7_resize_19 : decode cX7_resize 19 = .ok (.if_icmp .ge 23, 3) := by decide +kernel
theorem dX7_resize_22 : decode cX7_resize 22 = .ok (.aload_n 0, 1) := by decide +kernel
theorem dX7_resize_23 : decode cX7_resize 23 = .ok (.dup, 1) := by decide +kernel
theorem dX7_resize_24 : decode cX7_resize 24 = .ok (.getfield 51, 3) := by decide +kernel
theorem dX7_resize_27 : decode cX7_resize 27 = .ok (.iconst 1, 1) := by decide +kernel
theorem dX7_resize_28 : decode cX7_resize 28 = .ok (.iload_n 3, 1) := by decide +kernel
theorem dX7_resize_29 : decode cX7_resize 29 = .ok (.iload_n 2, 1) := by decide +kernel
theorem dX7_resize_30 : decode cX7_resize 30 = .ok (.imul, 1) := by decide +kernel
theorem dX7_resize_31 : decode cX7_resize 31 = .ok (.ishl, 1) := by decide +kernel
theorem dX7_resize_32 : decode cX7_resize 32 = .ok (.ior, 1) := by decide +kernel
theorem dX7_resize_33 : decode cX7_resize 33 = .ok (.putfield 51, 3) := by decide +kernel
theorem dX7_resize_36 : decode cX7_resize 36 = .ok (.iinc 3 1, 3) := by decide +kernel
theorem dX7_resize_39 : decode cX7_resize 39 = .ok (.goto (-22), 3) := by decide +kernel
theorem dX7_resize_42 : decode cX7_resize 42 = .ok (.return_, 1) := by decide +kernel
theorem dX7_columnOf_0 : decode cX7_columnOf 0 = .ok (.aload_n 0, 1) := by decide +kernel
theorem dX7_columnOf_1 : decode cX7_columnOf 1 = .ok (.getfield 44, 3) := by decide +kernel
theorem dX7_columnOf_4 : decode cX7_columnOf 4 = .ok (.ifCond .le 12, 3) := by decide +kernel
theorem dX7_columnOf_7 : decode cX7_columnOf 7 = .ok (.iload_n 1, 1) := by decide +kernel
theorem dX7_columnOf_8 : decode cX7_columnOf 8 = .ok (.aload_n 0, 1) := by decide +kernel
theorem dX7_columnOf_9 : decode cX7_columnOf 9 = .ok (.getfield 44, 3) := by decide +kernel
theorem dX7_columnOf_12 : decode cX7_columnOf 12 = .ok (.irem, 1) := by decide +kernel
theorem dX7_columnOf_13 : decode cX7_columnOf 13 = .ok (.goto 4, 3) := by decide +kernel
theorem dX7_columnOf_16 : decode cX7_columnOf 16 = .ok (.iconst 0, 1) := by decide +kernel
theorem dX7_columnOf_17 : decode cX7_columnOf 17 = .ok (.ireturn, 1) := by decide +kernel
theorem dX7_hasCell_0 : decode cX7_hasCell 0 = .ok (.iload_n 1, 1) := by decide +kernel
theorem dX7_hasCell_1 : decode cX7_hasCell 1 = .ok (.ifCond .lt 15, 3) := by decide +kernel
theorem dX7_hasCell_4 : decode cX7_hasCell 4 = .ok (.iload_n 1, 1) := by decide +kernel
theorem dX7_hasCell_5 : decode cX7_hasCell 5 = .ok (.aload_n 0, 1) := by decide +kernel
theorem dX7_hasCell_6 : decode cX7_hasCell 6 = .ok (.invokevirtual 47, 3) := by decide +kernel
theorem dX7_hasCell_9 : decode cX7_hasCell 9 = .ok (.if_icmp .ge 7, 3) := by decide +kernel
theorem dX7_hasCell_12 : decode cX7_hasCell 12 = .ok (.iconst 1, 1) := by decide +kernel
theorem dX7_hasCell_13 : decode cX7_hasCell 13 = .ok (.goto 4, 3) := by decide +kernel
theorem dX7_hasCell_16 : decode cX7_hasCell 16 = .ok (.iconst 0, 1) := by decide +kernel
theorem dX7_hasCell_17 : decode cX7_hasCell 17 = .ok (.ireturn, 1) := by decide +kernel
theorem dX7_hasLeak_0 : decode cX7_hasLeak 0 = .ok (.iload_n 1, 1) := by decide +kernel
theorem dX7_hasLeak_1 : decode cX7_hasLeak 1 = .ok (.ifCond .lt 15, 3) := by decide +kernel
theorem dX7_hasLeak_4 : decode cX7_hasLeak 4 = .ok (.iload_n 1, 1) := by decide +kernel
theorem dX7_hasLeak_5 : decode cX7_hasLeak 5 = .ok (.aload_n 0, 1) := by decide +kernel
theorem dX7_hasLeak_6 : decode cX7_hasLeak 6 = .ok (.getfield 32, 3) := by decide +kernel
theorem dX7_hasLeak_9 : decode cX7_hasLeak 9 = .ok (.if_icmp .ge 7, 3) := by decide +kernel
theorem dX7_hasLeak_12 : decode cX7_hasLeak 12 = .ok (.iconst 1, 1) := by decide +kernel
theorem dX7_hasLeak_13 : decode cX7_hasLeak 13 = .ok (.goto 4, 3) := by decide +kernel
theorem dX7_hasLeak_16 : decode cX7_hasLeak 16 = .ok (.iconst 0, 1) := by decide +kernel
theorem dX7_hasLeak_17 : decode cX7_hasLeak 17 = .ok (.ireturn, 1) := by decide +kernel
theorem dX7_hasCrack_0 : decode cX7_hasCrack 0 = .ok (.iload_n 1, 1) := by decide +kernel
theorem dX7_hasCrack_1 : decode cX7_hasCrack 1 = .ok (.ifCond .lt 15, 3) := by decide +kernel
theorem dX7_hasCrack_4 : decode cX7_hasCrack 4 = .ok (.iload_n 1, 1) := by decide +kernel
theorem dX7_hasCrack_5 : decode cX7_hasCrack 5 = .ok (.aload_n 0, 1) := by decide +kernel
theorem dX7_hasCrack_6 : decode cX7_hasCrack 6 = .ok (.getfield 35, 3) := by decide +kernel
theorem dX7_hasCrack_9 : decode cX7_hasCrack 9 = .ok (.if_icmp .ge 7, 3) := by decide +kernel
theorem dX7_hasCrack_12 : decode cX7_hasCrack 12 = .ok (.iconst 1, 1) := by decide +kernel
theorem dX7_hasCrack_13 : decode cX7_hasCrack 13 = .ok (.goto 4, 3) := by decide +kernel
theorem dX7_hasCrack_16 : decode cX7_hasCrack 16 = .ok (.iconst 0, 1) := by decide +kernel
theorem dX7_hasCrack_17 : decode cX7_hasCrack 17 = .ok (.ireturn, 1) := by decide +kernel
theorem dX7_hasFace_0 : decode cX7_hasFace 0 = .ok (.iload_n 1, 1) := by decide +kernel
theorem dX7_hasFace_1 : decode cX7_hasFace 1 = .ok (.ifCond .lt 15, 3) := by decide +kernel
theorem dX7_hasFace_4 : decode cX7_hasFace 4 = .ok (.iload_n 1, 1) := by decide +kernel
theorem dX7_hasFace_5 : decode cX7_hasFace 5 = .ok (.aload_n 0, 1) := by decide +kernel
theorem dX7_hasFace_6 : decode cX7_hasFace 6 = .ok (.getfield 38, 3) := by decide +kernel
theorem dX7_hasFace_9 : decode cX7_hasFace 9 = .ok (.if_icmp .ge 7, 3) := by decide +kernel
theorem dX7_hasFace_12 : decode cX7_hasFace 12 = .ok (.iconst 1, 1) := by decide +kernel
theorem dX7_hasFace_13 : decode cX7_hasFace 13 = .ok (.goto 4, 3) := by decide +kernel
theorem dX7_hasFace_16 : decode cX7_hasFace 16 = .ok (.iconst 0, 1) := by decide +kernel
theorem dX7_hasFace_17 : decode cX7_hasFace 17 = .ok (.ireturn, 1) := by decide +kernel
theorem dX7_addLeak_0 : decode cX7_addLeak 0 = .ok (.aload_n 0, 1) := by decide +kernel
theorem dX7_addLeak_1 : decode cX7_addLeak 1 = .ok (.getfield 9, 3) := by decide +kernel
theorem dX7_addLeak_4 : decode cX7_addLeak 4 = .ok (.aload_n 0, 1) := by decide +kernel
theorem dX7_addLeak_5 : decode cX7_addLeak 5 = .ok (.getfield 32, 3) := by decide +kernel
theorem dX7_addLeak_8 : decode cX7_addLeak 8 = .ok (.iload_n 1, 1) := by decide +kernel
theorem dX7_addLeak_9 : decode cX7_addLeak 9 = .ok (.invokestatic 54, 3) := by decide +kernel
theorem dX7_addLeak_12 : decode cX7_addLeak 12 = .ok (.aload_n 0, 1) := by decide +kernel
theorem dX7_addLeak_13 : decode cX7_addLeak 13 = .ok (.dup, 1) := by decide +kernel
theorem dX7_addLeak_14 : decode cX7_addLeak 14 = .ok (.getfield 32, 3) := by decide +kernel
theorem dX7_addLeak_17 : decode cX7_addLeak 17 = .ok (.iconst 1, 1) := by decide +kernel
theorem dX7_addLeak_18 : decode cX7_addLeak 18 = .ok (.iadd, 1) := by decide +kernel
theorem dX7_addLeak_19 : decode cX7_addLeak 19 = .ok (.putfield 32, 3) := by decide +kernel
theorem dX7_addLeak_22 : decode cX7_addLeak 22 = .ok (.return_, 1) := by decide +kernel
theorem dX7_addCrack_0 : decode cX7_addCrack 0 = .ok (.aload_n 0, 1) := by decide +kernel
theorem dX7_addCrack_1 : decode cX7_addCrack 1 = .ok (.getfield 15, 3) := by decide +kernel
theorem dX7_addCrack_4 : decode cX7_addCrack 4 = .ok (.aload_n 0, 1) := by decide +kernel
theorem dX7_addCrack_5 : decode cX7_addCrack 5 = .ok (.getfield 35, 3) := by decide +kernel
theorem dX7_addCrack_8 : decode cX7_addCrack 8 = .ok (.iload_n 1, 1) := by decide +kernel
theorem dX7_addCrack_9 : decode cX7_addCrack 9 = .ok (.invokestatic 54, 3) := by decide +kernel
theorem dX7_addCrack_12 : decode cX7_addCrack 12 = .ok (.aload_n 0, 1) := by decide +kernel
theorem dX7_addCrack_13 : decode cX7_addCrack 13 = .ok (.getfield 18, 3) := by decide +kernel
theorem dX7_addCrack_16 : decode cX7_addCrack 16 = .ok (.aload_n 0, 1) := by decide +kernel
theorem dX7_addCrack_17 : decode cX7_addCrack 17 = .ok (.getfield 35, 3) := by decide +kernel
theorem dX7_addCrack_20 : decode cX7_addCrack 20 = .ok (.iload_n 2, 1) := by decide +kernel
theorem dX7_addCrack_21 : decode cX7_addCrack 21 = .ok (.invokestatic 54, 3) := by decide +kernel
theorem dX7_addCrack_24 : decode cX7_addCrack 24 = .ok (.aload_n 0, 1) := by decide +kernel
theorem dX7_addCrack_25 : decode cX7_addCrack 25 = .ok (.dup, 1) := by decide +kernel
theorem dX7_addCrack_26 : decode cX7_addCrack 26 = .ok (.getfield 35, 3) := by decide +kernel
theorem dX7_addCrack_29 : decode cX7_addCrack 29 = .ok (.iconst 1, 1) := by decide +kernel
theorem dX7_addCrack_30 : decode cX7_addCrack 30 = .ok (.iadd, 1) := by decide +kernel
theorem dX7_addCrack_31 : decode cX7_addCrack 31 = .ok (.putfield 35, 3) := by decide +kernel
theorem dX7_addCrack_34 : decode cX7_addCrack 34 = .ok (.return_, 1) := by decide +kernel
theorem dX7_addFace_0 : decode cX7_addFace 0 = .ok (.aload_n 0, 1) := by decide +kernel
theorem dX7_addFace_1 : decode cX7_addFace 1 = .ok (.getfield 21, 3) := by decide +kernel
theorem dX7_addFace_4 : decode cX7_addFace 4 = .ok (.aload_n 0, 1) := by decide +kernel
theorem dX7_addFace_5 : decode cX7_addFace 5 = .ok (.getfield 38, 3) := by decide +kernel
theorem dX7_addFace_8 : decode cX7_addFace 8 = .ok (.iload_n 1, 1) := by decide +kernel
theorem dX7_addFace_9 : decode cX7_addFace 9 = .ok (.invokestatic 54, 3) := by decide +kernel
theorem dX7_addFace_12 : decode cX7_addFace 12 = .ok (.aload_n 0, 1) := by decide +kernel
theorem dX7_addFace_13 : decode cX7_addFace 13 = .ok (.dup, 1) := by decide +kernel
theorem dX7_addFace_14 : decode cX7_addFace 14 = .ok (.getfield 38, 3) := by decide +kernel
theorem dX7_addFace_17 : decode cX7_addFace 17 = .ok (.iconst 1, 1) := by decide +kernel
theorem dX7_addFace_18 : decode cX7_addFace 18 = .ok (.iadd, 1) := by decide +kernel
theorem dX7_addFace_19 : decode cX7_addFace 19 = .ok (.putfield 38, 3) := by decide +kernel
theorem dX7_addFace_22 : decode cX7_addFace 22 = .ok (.return_, 1) := by decide +kernel
theorem dX7_touch_0 : decode cX7_touch 0 = .ok (.iload_n 1, 1) := by decide +kernel
theorem dX7_touch_1 : decode cX7_touch 1 = .ok (.iload_n 2, 1) := by decide +kernel
theorem dX7_touch_2 : decode cX7_touch 2 = .ok (.invokestatic 58, 3) := by decide +kernel
theorem dX7_touch_5 : decode cX7_touch 5 = .ok (.istore_n 3, 1) := by decide +kernel
theorem dX7_touch_6 : decode cX7_touch 6 = .ok (.iload_n 1, 1) := by decide +kernel
theorem dX7_touch_7 : decode cX7_touch 7 = .ok (.iload_n 2, 1) := by decide +kernel
theorem dX7_touch_8 : decode cX7_touch 8 = .ok (.invokestatic 64, 3) := by decide +kernel
theorem dX7_touch_11 : decode cX7_touch 11 = .ok (.iload_n 3, 1) := by decide +kernel
theorem dX7_touch_12 : decode cX7_touch 12 = .ok (.isub, 1) := by decide +kernel
theorem dX7_touch_13 : decode cX7_touch 13 = .ok (.istore 4, 2) := by decide +kernel
theorem dX7_touch_15 : decode cX7_touch 15 = .ok (.iload 4, 2) := by decide +kernel
theorem dX7_touch_17 : decode cX7_touch 17 = .ok (.aload_n 0, 1) := by decide +kernel
theorem dX7_touch_18 : decode cX7_touch 18 = .ok (.getfield 44, 3) := by decide +kernel
theorem dX7_touch_21 : decode cX7_touch 21 = .ok (.if_icmp .eq 23, 3) := by decide +kernel
theorem dX7_touch_24 : decode cX7_touch 24 = .ok (.iload 4, 2) := by decide +kernel
theorem dX7_touch_26 : decode cX7_touch 26 = .ok (.iconst 1, 1) := by decide +kernel
theorem dX7_touch_27 : decode cX7_touch 27 = .ok (.if_icmp .ne 21, 3) := by decide +kernel
theorem dX7_touch_30 : decode cX7_touch 30 = .ok (.aload_n 0, 1) := by decide +kernel
theorem dX7_touch_31 : decode cX7_touch 31 = .ok (.iload_n 3, 1) := by decide +kernel
theorem dX7_touch_32 : decode cX7_touch 32 = .ok (.invokevirtual 67, 3) := by decide +kernel
theorem dX7_touch_35 : decode cX7_touch 35 = .ok (.iconst 1, 1) := by decide +kernel
theorem dX7_touch_36 : decode cX7_touch 36 = .ok (.iadd, 1) := by decide +kernel
theorem dX7_touch_37 : decode cX7_touch 37 = .ok (.aload_n 0, 1) := by decide +kernel
theorem dX7_touch_38 : decode cX7_touch 38 = .ok (.getfield 44, 3) := by decide +kernel
theorem dX7_touch_41 : decode cX7_touch 41 = .ok (.if_icmp .ge 7, 3) := by decide +kernel
theorem dX7_touch_44 : decode cX7_touch 44 = .ok (.iconst 1, 1) := by decide +kernel
theorem dX7_touch_45 : decode cX7_touch 45 = .ok (.goto 4, 3) := by decide +kernel
theorem dX7_touch_48 : decode cX7_touch 48 = .ok (.iconst 0, 1) := by decide +kernel
theorem dX7_touch_49 : decode cX7_touch 49 = .ok (.ireturn, 1) := by decide +kernel
theorem dX7_isCracked_0 : decode cX7_isCracked 0 = .ok (.iconst 0, 1) := by decide +kernel
theorem dX7_isCracked_1 : decode cX7_isCracked 1 = .ok (.istore_n 3, 1) := by decide +kernel
theorem dX7_isCracked_2 : decode cX7_isCracked 2 = .ok (.iload_n 3, 1) := by decide +kernel
theorem dX7_isCracked_3 : decode cX7_isCracked 3 = .ok (.aload_n 0, 1) := by decide +kernel
theorem dX7_isCracked_4 : decode cX7_isCracked 4 = .ok (.getfield 35, 3) := by decide +kernel
theorem dX7_isCracked_7 : decode cX7_isCracked 7 = .ok (.if_icmp .ge 69, 3) := by decide +kernel
theorem dX7_isCracked_10 : decode cX7_isCracked 10 = .ok (.iload_n 3, 1) := by decide +kernel
theorem dX7_isCracked_11 : decode cX7_isCracked 11 = .ok (.aload_n 0, 1) := by decide +kernel
theorem dX7_isCracked_12 : decode cX7_isCracked 12 = .ok (.getfield 15, 3) := by decide +kernel
theorem dX7_isCracked_15 : decode cX7_isCracked 15 = .ok (.arraylength, 1) := by decide +kernel
theorem dX7_isCracked_16 : decode cX7_isCracked 16 = .ok (.if_icmp .ge 60, 3) := by decide +kernel
theorem dX7_isCracked_19 : decode cX7_isCracked 19 = .ok (.iload_n 3, 1) := by decide +kernel
theorem dX7_isCracked_20 : decode cX7_isCracked 20 = .ok (.aload_n 0, 1) := by decide +kernel
theorem dX7_isCracked_21 : decode cX7_isCracked 21 = .ok (.getfield 18, 3) := by decide +kernel
theorem dX7_isCracked_24 : decode cX7_isCracked 24 = .ok (.arraylength, 1) := by decide +kernel
theorem dX7_isCracked_25 : decode cX7_isCracked 25 = .ok (.if_icmp .ge 51, 3) := by decide +kernel
theorem dX7_isCracked_28 : decode cX7_isCracked 28 = .ok (.aload_n 0, 1) := by decide +kernel
theorem dX7_isCracked_29 : decode cX7_isCracked 29 = .ok (.getfield 15, 3) := by decide +kernel
theorem dX7_isCracked_32 : decode cX7_isCracked 32 = .ok (.iload_n 3, 1) := by decide +kernel
theorem dX7_isCracked_33 : decode cX7_isCracked 33 = .ok (.iaload, 1) := by decide +kernel
theorem dX7_isCracked_34 : decode cX7_isCracked 34 = .ok (.iload_n 1, 1) := by decide +kernel
theorem dX7_isCracked_35 : decode cX7_isCracked 35 = .ok (.if_icmp .ne 13, 3) := by decide +kernel
theorem dX7_isCracked_38 : decode cX7_isCracked 38 = .ok (.aload_n 0, 1) := by decide +kernel
theorem dX7_isCracked_39 : decode cX7_isCracked 39 = .ok (.getfield 18, 3) := by decide +kernel
theorem dX7_isCracked_42 : decode cX7_isCracked 42 = .ok (.iload_n 3, 1) := by decide +kernel
theorem dX7_isCracked_43 : decode cX7_isCracked 43 = .ok (.iaload, 1) := by decide +kernel
theorem dX7_isCracked_44 : decode cX7_isCracked 44 = .ok (.iload_n 2, 1) := by decide +kernel
theorem dX7_isCracked_45 : decode cX7_isCracked 45 = .ok (.if_icmp .eq 23, 3) := by decide +kernel
theorem dX7_isCracked_48 : decode cX7_isCracked 48 = .ok (.aload_n 0, 1) := by decide +kernel
theorem dX7_isCracked_49 : decode cX7_isCracked 49 = .ok (.getfield 15, 3) := by decide +kernel
theorem dX7_isCracked_52 : decode cX7_isCracked 52 = .ok (.iload_n 3, 1) := by decide +kernel
theorem dX7_isCracked_53 : decode cX7_isCracked 53 = .ok (.iaload, 1) := by decide +kernel
theorem dX7_isCracked_54 : decode cX7_isCracked 54 = .ok (.iload_n 2, 1) := by decide +kernel
theorem dX7_isCracked_55 : decode cX7_isCracked 55 = .ok (.if_icmp .ne 15, 3) := by decide +kernel
theorem dX7_isCracked_58 : decode cX7_isCracked 58 = .ok (.aload_n 0, 1) := by decide +kernel
theorem dX7_isCracked_59 : decode cX7_isCracked 59 = .ok (.getfield 18, 3) := by decide +kernel
theorem dX7_isCracked_62 : decode cX7_isCracked 62 = .ok (.iload_n 3, 1) := by decide +kernel
theorem dX7_isCracked_63 : decode cX7_isCracked 63 = .ok (.iaload, 1) := by decide +kernel
theorem dX7_isCracked_64 : decode cX7_isCracked 64 = .ok (.iload_n 1, 1) := by decide +kernel
theorem dX7_isCracked_65 : decode cX7_isCracked 65 = .ok (.if_icmp .ne 5, 3) := by decide +kernel
theorem dX7_isCracked_68 : decode cX7_isCracked 68 = .ok (.iconst 1, 1) := by decide +kernel
theorem dX7_isCracked_69 : decode cX7_isCracked 69 = .ok (.ireturn, 1) := by decide +kernel
theorem dX7_isCracked_70 : decode cX7_isCracked 70 = .ok (.iinc 3 1, 3) := by decide +kernel
theorem dX7_isCracked_73 : decode cX7_isCracked 73 = .ok (.goto (-71), 3) := by decide +kernel
theorem dX7_isCracked_76 : decode cX7_isCracked 76 = .ok (.iconst 0, 1) := by decide +kernel
theorem dX7_isCracked_77 : decode cX7_isCracked 77 = .ok (.ireturn, 1) := by decide +kernel
theorem dX7_below_0 : decode cX7_below 0 = .ok (.iload_n 1, 1) := by decide +kernel
theorem dX7_below_1 : decode cX7_below 1 = .ok (.aload_n 0, 1) := by decide +kernel
theorem dX7_below_2 : decode cX7_below 2 = .ok (.getfield 44, 3) := by decide +kernel
theorem dX7_below_5 : decode cX7_below 5 = .ok (.iadd, 1) := by decide +kernel
theorem dX7_below_6 : decode cX7_below 6 = .ok (.aload_n 0, 1) := by decide +kernel
theorem dX7_below_7 : decode cX7_below 7 = .ok (.invokevirtual 47, 3) := by decide +kernel
theorem dX7_below_10 : decode cX7_below 10 = .ok (.if_icmp .ge 12, 3) := by decide +kernel
theorem dX7_below_13 : decode cX7_below 13 = .ok (.iload_n 1, 1) := by decide +kernel
theorem dX7_below_14 : decode cX7_below 14 = .ok (.aload_n 0, 1) := by decide +kernel
theorem dX7_below_15 : decode cX7_below 15 = .ok (.getfield 44, 3) := by decide +kernel
theorem dX7_below_18 : decode cX7_below 18 = .ok (.iadd, 1) := by decide +kernel
theorem dX7_below_19 : decode cX7_below 19 = .ok (.goto 4, 3) := by decide +kernel
theorem dX7_below_22 : decode cX7_below 22 = .ok (.iconst (-1), 1) := by decide +kernel
theorem dX7_below_23 : decode cX7_below 23 = .ok (.ireturn, 1) := by decide +kernel
theorem dX7_beside_0 : decode cX7_beside 0 = .ok (.iload_n 2, 1) := by decide +kernel
theorem dX7_beside_1 : decode cX7_beside 1 = .ok (.iconst 1, 1) := by decide +kernel
theorem dX7_beside_2 : decode cX7_beside 2 = .ok (.if_icmp .ne 19, 3) := by decide +kernel
theorem dX7_beside_5 : decode cX7_beside 5 = .ok (.aload_n 0, 1) := by decide +kernel
theorem dX7_beside_6 : decode cX7_beside 6 = .ok (.iload_n 1, 1) := by decide +kernel
theorem dX7_beside_7 : decode cX7_beside 7 = .ok (.invokevirtual 67, 3) := by decide +kernel
theorem dX7_beside_10 : decode cX7_beside 10 = .ok (.ifCond .le 9, 3) := by decide +kernel
theorem dX7_beside_13 : decode cX7_beside 13 = .ok (.iload_n 1, 1) := by decide +kernel
theorem dX7_beside_14 : decode cX7_beside 14 = .ok (.iconst 1, 1) := by decide +kernel
theorem dX7_beside_15 : decode cX7_beside 15 = .ok (.isub, 1) := by decide +kernel
theorem dX7_beside_16 : decode cX7_beside 16 = .ok (.goto 4, 3) := by decide +kernel
theorem dX7_beside_19 : decode cX7_beside 19 = .ok (.iconst (-1), 1) := by decide +kernel
theorem dX7_beside_20 : decode cX7_beside 20 = .ok (.ireturn, 1) := by decide +kernel
theorem dX7_beside_21 : decode cX7_beside 21 = .ok (.iload_n 2, 1) := by decide +kernel
theorem dX7_beside_22 : decode cX7_beside 22 = .ok (.iconst 2, 1) := by decide +kernel
theorem dX7_beside_23 : decode cX7_beside 23 = .ok (.if_icmp .ne 23, 3) := by decide +kernel
theorem dX7_beside_26 : decode cX7_beside 26 = .ok (.aload_n 0, 1) := by decide +kernel
theorem dX7_beside_27 : decode cX7_beside 27 = .ok (.iload_n 1, 1) := by decide +kernel
theorem dX7_beside_28 : decode cX7_beside 28 = .ok (.invokevirtual 67, 3) := by decide +kernel
theorem dX7_beside_31 : decode cX7_beside 31 = .ok (.iconst 1, 1) := by decide +kernel
theorem dX7_beside_32 : decode cX7_beside 32 = .ok (.iadd, 1) := by decide +kernel
theorem dX7_beside_33 : decode cX7_beside 33 = .ok (.aload_n 0, 1) := by decide +kernel
theorem dX7_beside_34 : decode cX7_beside 34 = .ok (.getfield 44, 3) := by decide +kernel
theorem dX7_beside_37 : decode cX7_beside 37 = .ok (.if_icmp .ge 9, 3) := by decide +kernel
theorem dX7_beside_40 : decode cX7_beside 40 = .ok (.iload_n 1, 1) := by decide +kernel
theorem dX7_beside_41 : decode cX7_beside 41 = .ok (.iconst 1, 1) := by decide +kernel
theorem dX7_beside_42 : decode cX7_beside 42 = .ok (.iadd, 1) := by decide +kernel
theorem dX7_beside_43 : decode cX7_beside 43 = .ok (.goto 4, 3) := by decide +kernel
theorem dX7_beside_46 : decode cX7_beside 46 = .ok (.iconst (-1), 1) := by decide +kernel
theorem dX7_beside_47 : decode cX7_beside 47 = .ok (.ireturn, 1) := by decide +kernel
theorem dX8_init_0 : decode cX8_init 0 = .ok (.aload_n 0, 1) := by decide +kernel
theorem dX8_init_1 : decode cX8_init 1 = .ok (.invokespecial 3, 3) := by decide +kernel
theorem dX8_init_4 : decode cX8_init 4 = .ok (.aload_n 0, 1) := by decide +kernel
theorem dX8_init_5 : decode cX8_init 5 = .ok (.sipush 240, 3) := by decide +kernel
theorem dX8_init_8 : decode cX8_init 8 = .ok (.newarray .int, 2) := by decide +kernel
theorem dX8_init_10 : decode cX8_init 10 = .ok (.putfield 9, 3) := by decide +kernel
theorem dX8_init_13 : decode cX8_init 13 = .ok (.aload_n 0, 1) := by decide +kernel
theorem dX8_init_14 : decode cX8_init 14 = .ok (.iconst (-1), 1) := by decide +kernel
theorem dX8_init_15 : decode cX8_init 15 = .ok (.putfield 15, 3) := by decide +kernel
theorem dX8_init_18 : decode cX8_init 18 = .ok (.return_, 1) := by decide +kernel
theorem dX8_add_0 : decode cX8_add 0 = .ok (.aload_n 0, 1) := by decide +kernel
theorem dX8_add_1 : decode cX8_add 1 = .ok (.getfield 19, 3) := by decide +kernel
theorem dX8_add_4 : decode cX8_add 4 = .ok (.aload_n 0, 1) := by decide +kernel
theorem dX8_add_5 : decode cX8_add 5 = .ok (.getfield 9, 3) := by decide +kernel
theorem dX8_add_8 : decode cX8_add 8 = .ok (.arraylength, 1) := by decide +kernel
theorem dX8_add_9 : decode cX8_add 9 = .ok (.if_icmp .lt 6, 3) := by decide +kernel
theorem dX8_add_12 : decode cX8_add 12 = .ok (.ldc 22, 2) := by decide +kernel
theorem dX8_add_14 : decode cX8_add 14 = .ok (.ireturn, 1) := by decide +kernel
theorem dX8_add_15 : decode cX8_add 15 = .ok (.aload_n 0, 1) := by decide +kernel
theorem dX8_add_16 : decode cX8_add 16 = .ok (.getfield 9, 3) := by decide +kernel
theorem dX8_add_19 : decode cX8_add 19 = .ok (.aload_n 0, 1) := by decide +kernel
theorem dX8_add_20 : decode cX8_add 20 = .ok (.getfield 19, 3) := by decide +kernel
theorem dX8_add_23 : decode cX8_add 23 = .ok (.iload_n 1, 1) := by decide +kernel
theorem dX8_add_24 : decode cX8_add 24 = .ok (.invokestatic 23, 3) := by decide +kernel
theorem dX8_add_27 : decode cX8_add 27 = .ok (.aload_n 0, 1) := by decide +kernel
theorem dX8_add_28 : decode cX8_add 28 = .ok (.dup, 1) := by decide +kernel
theorem dX8_add_29 : decode cX8_add 29 = .ok (.getfield 19, 3) := by decide +kernel
theorem dX8_add_32 : decode cX8_add 32 = .ok (.iconst 1, 1) := by decide +kernel
theorem dX8_add_33 : decode cX8_add 33 = .ok (.iadd, 1) := by decide +kernel
theorem dX8_add_34 : decode cX8_add 34 = .ok (.putfield 19, 3) := by decide +kernel
theorem dX8_add_37 : decode cX8_add 37 = .ok (.aload_n 0, 1) := by decide +kernel
theorem dX8_add_38 : decode cX8_add 38 = .ok (.getfield 19, 3) := by decide +kernel
theorem dX8_add_41 : decode cX8_add 41 = .ok (.ireturn, 1) := by decide +kernel
theorem dX8_read_0 : decode cX8_read 0 = .ok (.aload_n 0, 1) := by decide +kernel
theorem dX8_read_1 : decode cX8_read 1 = .ok (.iconst 0, 1) := by decide +kernel
theorem dX8_read_2 : decode cX8_read 2 = .ok (.putfield 27, 3) := by decide +kernel
theorem dX8_read_5 : decode cX8_read 5 = .ok (.aload_n 0, 1) := by decide +kernel
theorem dX8_read_6 : decode cX8_read 6 = .ok (.iconst 0, 1) := by decide +kernel
theorem dX8_read_7 : decode cX8_read 7 = .ok (.putfield 30, 3) := by decide +kernel
theorem dX8_read_10 : decode cX8_read 10 = .ok (.aload_n 0, 1) := by decide +kernel
theorem dX8_read_11 : decode cX8_read 11 = .ok (.iconst (-1), 1) := by decide +kernel
theorem dX8_read_12 : decode cX8_read 12 = .ok (.putfield 15, 3) := by decide +kernel
theorem dX8_read_15 : decode cX8_read 15 = .ok (.aload_n 0, 1) := by decide +kernel
theorem dX8_read_16 : decode cX8_read 16 = .ok (.iconst 0, 1) := by decide +kernel
theorem dX8_read_17 : decode cX8_read 17 = .ok (.putfield 33, 3) := by decide +kernel
theorem dX8_read_20 : decode cX8_read 20 = .ok (.aload_n 1, 1) := by decide +kernel
theorem dX8_read_21 : decode cX8_read 21 = .ok (.invokevirtual 37, 3) := by decide +kernel
theorem dX8_read_24 : decode cX8_read 24 = .ok (.iconst 0, 1) := by decide +kernel
theorem dX8_read_25 : decode cX8_read 25 = .ok (.istore_n 2, 1) := by decide +kernel
theorem dX8_read_26 : decode cX8_read 26 = .ok (.iload_n 2, 1) := by decide +kernel
theorem dX8_read_27 : decode cX8_read 27 = .ok (.sipush 240, 3) := by decide +kernel
theorem dX8_read_30 : decode cX8_read 30 = .ok (.if_icmp .ge 29, 3) := by decide +kernel
theorem dX8_read_33 : decode cX8_read 33 = .ok (.aload_n 0, 1) := by decide +kernel
theorem dX8_read_34 : decode cX8_read 34 = .ok (.getfield 30, 3) := by decide +kernel
theorem dX8_read_37 : decode cX8_read 37 = .ok (.ifCond .ne 22, 3) := by decide +kernel
theorem dX8_read_40 : decode cX8_read 40 = .ok (.aload_n 0, 1) := by decide +kernel
theorem dX8_read_41 : decode cX8_read 41 = .ok (.invokevirtual 42, 3) := by decide +kernel
theorem dX8_read_44 : decode cX8_read 44 = .ok (.iconst (-1), 1) := by decide +kernel
theorem dX8_read_45 : decode cX8_read 45 = .ok (.if_icmp .eq 14, 3) := by decide +kernel
theorem dX8_read_48 : decode cX8_read 48 = .ok (.aload_n 0, 1) := by decide +kernel
theorem dX8_read_49 : decode cX8_read 49 = .ok (.aload_n 1, 1) := by decide +kernel
theorem dX8_read_50 : decode cX8_read 50 = .ok (.invokevirtual 46, 3) := by decide +kernel
theorem dX8_read_53 : decode cX8_read 53 = .ok (.iinc 2 1, 3) := by decide +kernel
theorem dX8_read_56 : decode cX8_read 56 = .ok (.goto (-30), 3) := by decide +kernel
theorem dX8_read_59 : decode cX8_read 59 = .ok (.aload_n 0, 1) := by decide +kernel
theorem dX8_read_60 : decode cX8_read 60 = .ok (.iconst 0, 1) := by decide +kernel
theorem dX8_read_61 : decode cX8_read 61 = .ok (.putfield 19, 3) := by decide +kernel
theorem dX8_read_64 : decode cX8_read 64 = .ok (.aload_n 0, 1) := by decide +kernel
theorem dX8_read_65 : decode cX8_read 65 = .ok (.getfield 30, 3) := by decide +kernel
theorem dX8_read_68 : decode cX8_read 68 = .ok (.ifCond .ne 7, 3) := by decide +kernel
theorem dX8_read_71 : decode cX8_read 71 = .ok (.iconst 1, 1) := by decide +kernel
theorem dX8_read_72 : decode cX8_read 72 = .ok (.goto 4, 3) := by decide +kernel
theorem dX8_read_75 : decode cX8_read 75 = .ok (.iconst 0, 1) := by decide +kernel
theorem dX8_read_76 : decode cX8_read 76 = .ok (.ireturn, 1) := by decide +kernel
theorem dX8_readClause_0 : decode cX8_readClause 0 = .ok (.aload_n 0, 1) := by decide +kernel
theorem dX8_readClause_1 : decode cX8_readClause 1 = .ok (.invokevirtual 42, 3) := by decide +kernel
theorem dX8_readClause_4 : decode cX8_readClause 4 = .ok (.istore_n 2, 1) := by decide +kernel
theorem dX8_readClause_5 : decode cX8_readClause 5 = .ok (.aload_n 1, 1) := by decide +kernel
theorem dX8_readClause_6 : decode cX8_readClause 6 = .ok (.getfield 50, 3) := by decide +kernel
theorem dX8_readClause_9 : decode cX8_readClause 9 = .ok (.ifCond .ne 19, 3) := by decide +kernel
theorem dX8_readClause_12 : decode cX8_readClause 12 = .ok (.iload_n 2, 1) := by decide +kernel
theorem dX8_readClause_13 : decode cX8_readClause 13 = .ok (.bipush 119, 2) := by decide +kernel
theorem dX8_readClause_15 : decode cX8_readClause 15 = .ok (.if_icmp .eq 13, 3) := by decide +kernel
theorem dX8_readClause_18 : decode cX8_readClause 18 = .ok (.aload_n 0, 1) := by decide +kernel
theorem dX8_readClause_19 : decode cX8_readClause 19 = .ok (.iconst 1, 1) := by decide +kernel
theorem dX8_readClause_20 : decode cX8_readClause 20 = .ok (.aload_n 0, 1) := by decide +kernel
theorem dX8_readClause_21 : decode cX8_readClause 21 = .ok (.getfield 27, 3) := by decide +kernel
theorem dX8_readClause_24 : decode cX8_readClause 24 = .ok (.invokevirtual 53, 3) := by decide +kernel
theorem dX8_readClause_27 : decode cX8_readClause 27 = .ok (.return_, 1) := by decide +kernel
theorem dX8_readClause_28 : decode cX8_readClause 28 = .ok (.iload_n 2, 1) := by decide +kernel
theorem dX8_readClause_29 : decode cX8_readClause 29 = .ok (.lookupswitch 91 #[(99, 67), (102, 75), (108, 59), (110, 83), (119, 51)], 51) := by decide +kernel
theorem dX8_readClause_80 : decode cX8_readClause 80 = .ok (.aload_n 0, 1) := by decide +kernel
theorem dX8_readClause_81 : decode cX8_readClause 81 = .ok (.aload_n 1, 1) := by decide +kernel
theorem dX8_readClause_82 : decode cX8_readClause 82 = .ok (.invokevirtual 57, 3) := by decide +kernel
theorem dX8_readClause_85 : decode cX8_readClause 85 = .ok (.goto 44, 3) := by decide +kernel
theorem dX8_readClause_88 : decode cX8_readClause 88 = .ok (.aload_n 0, 1) := by decide +kernel
theorem dX8_readClause_89 : decode cX8_readClause 89 = .ok (.aload_n 1, 1) := by decide +kernel
theorem dX8_readClause_90 : decode cX8_readClause 90 = .ok (.invokevirtual 60, 3) := by decide +kernel
theorem dX8_readClause_93 : decode cX8_readClause 93 = .ok (.goto 36, 3) := by decide +kernel
theorem dX8_readClause_96 : decode cX8_readClause 96 = .ok (.aload_n 0, 1) := by decide +kernel
theorem dX8_readClause_97 : decode cX8_readClause 97 = .ok (.aload_n 1, 1) := by decide +kernel
theorem dX8_readClause_98 : decode cX8_readClause 98 = .ok (.invokevirtual 63, 3) := by decide +kernel
theorem dX8_readClause_101 : decode cX8_readClause 101 = .ok (.goto 28, 3) := by decide +kernel
theorem dX8_readClause_104 : decode cX8_readClause 104 = .ok (.aload_n 0, 1) := by decide +kernel
theorem dX8_readClause_105 : decode cX8_readClause 105 = .ok (.aload_n 1, 1) := by decide +kernel
theorem dX8_readClause_106 : decode cX8_readClause 106 = .ok (.invokevirtual 66, 3) := by decide +kernel
theorem dX8_readClause_109 : decode cX8_readClause 109 = .ok (.goto 20, 3) := by decide +kernel
theorem dX8_readClause_112 : decode cX8_readClause 112 = .ok (.aload_n 0, 1) := by decide +kernel
theorem dX8_readClause_113 : decode cX8_readClause 113 = .ok (.aload_n 1, 1) := by decide +kernel
theorem dX8_readClause_114 : decode cX8_readClause 114 = .ok (.invokevirtual 69, 3) := by decide +kernel
theorem dX8_readClause_117 : decode cX8_readClause 117 = .ok (.goto 12, 3) := by decide +kernel
theorem dX8_readClause_120 : decode cX8_readClause 120 = .ok (.aload_n 0, 1) := by decide +kernel
theorem dX8_readClause_121 : decode cX8_readClause 121 = .ok (.iconst 1, 1) := by decide +kernel
theorem dX8_readClause_122 : decode cX8_readClause 122 = .ok (.aload_n 0, 1) := by decide +kernel
theorem dX8_readClause_123 : decode cX8_readClause 123 = .ok (.getfield 27, 3) := by decide +kernel
theorem dX8_readClause_126 : decode cX8_readClause 126 = .ok (.invokevirtual 53, 3) := by decide +kernel
theorem dX8_readClause_129 : decode cX8_readClause 129 = .ok (.return_, 1) := by decide +kernel
theorem dX8_readSize_0 : decode cX8_readSize 0 = .ok (.aload_n 0, 1) := by decide +kernel
theorem dX8_readSize_1 : decode cX8_readSize 1 = .ok (.aload_n 1, 1) := by decide +kernel
theorem dX8_readSize_2 : decode cX8_readSize 2 = .ok (.getfield 50, 3) := by decide +kernel
theorem dX8_readSize_5 : decode cX8_readSize 5 = .ok (.ifCond .le 7, 3) := by decide +kernel
theorem dX8_readSize_8 : decode cX8_readSize 8 = .ok (.iconst 1, 1) := by decide +kernel
theorem dX8_readSize_9 : decode cX8_readSize 9 = .ok (.goto 4, 3) := by decide +kernel
theorem dX8_readSize_12 : decode cX8_readSize 12 = .ok (.iconst 0, 1) := by decide +kernel
theorem dX8_readSize_13 : decode cX8_readSize 13 = .ok (.invokevirtual 72, 3) := by decide +kernel
theorem dX8_readSize_16 : decode cX8_readSize 16 = .ok (.aload_n 0, 1) := by decide +kernel
theorem dX8_readSize_17 : decode cX8_readSize 17 = .ok (.iconst 2, 1) := by decide +kernel
theorem dX8_readSize_18 : decode cX8_readSize 18 = .ok (.iconst 5, 1) := by decide +kernel
theorem dX8_readSize_19 : decode cX8_readSize 19 = .ok (.invokevirtual 76, 3) := by decide +kernel
theorem dX8_readSize_22 : decode cX8_readSize 22 = .ok (.istore_n 2, 1) := by decide +kernel
theorem dX8_readSize_23 : decode cX8_readSize 23 = .ok (.aload_n 0, 1) := by decide +kernel
theorem dX8_readSize_24 : decode cX8_readSize 24 = .ok (.iconst 2, 1) := by decide +kernel
theorem dX8_readSize_25 : decode cX8_readSize 25 = .ok (.iconst 5, 1) := by decide +kernel
theorem dX8_readSize_26 : decode cX8_readSize 26 = .ok (.invokevirtual 76, 3) := by decide +kernel
theorem dX8_readSize_29 : decode cX8_readSize 29 = .ok (.istore_n 3, 1) := by decide +kernel
theorem dX8_readSize_30 : decode cX8_readSize 30 = .ok (.aload_n 0, 1) := by decide +kernel
theorem dX8_readSize_31 : decode cX8_readSize 31 = .ok (.bipush 59, 2) := by decide +kernel
theorem dX8_readSize_33 : decode cX8_readSize 33 = .ok (.invokevirtual 80, 3) := by decide +kernel
theorem dX8_readSize_36 : decode cX8_readSize 36 = .ok (.ifCond .eq 9, 3) := by decide +kernel
theorem dX8_readSize_39 : decode cX8_readSize 39 = .ok (.aload_n 1, 1) := by decide +kernel
theorem dX8_readSize_40 : decode cX8_readSize 40 = .ok (.iload_n 2, 1) := by decide +kernel
theorem dX8_readSize_41 : decode cX8_readSize 41 = .ok (.iload_n 3, 1) := by decide +kernel
theorem dX8_readSize_42 : decode cX8_readSize 42 = .ok (.invokevirtual 84, 3) := by decide +kernel
theorem dX8_readSize_45 : decode cX8_readSize 45 = .ok (.return_, 1) := by decide +kernel
theorem dX8_readLeak_0 : decode cX8_readLeak 0 = .ok (.aload_n 0, 1) := by decide +kernel
theorem dX8_readLeak_1 : decode cX8_readLeak 1 = .ok (.aload_n 1, 1) := by decide +kernel
theorem dX8_readLeak_2 : decode cX8_readLeak 2 = .ok (.getfield 87, 3) := by decide +kernel
theorem dX8_readLeak_5 : decode cX8_readLeak 5 = .ok (.iconst 4, 1) := by decide +kernel
theorem dX8_readLeak_6 : decode cX8_readLeak 6 = .ok (.if_icmp .lt 7, 3) := by decide +kernel
theorem dX8_readLeak_9 : decode cX8_readLeak 9 = .ok (.iconst 1, 1) := by decide +kernel
theorem dX8_readLeak_10 : decode cX8_readLeak 10 = .ok (.goto 4, 3) := by decide +kernel
theorem dX8_readLeak_13 : decode cX8_readLeak 13 = .ok (.iconst 0, 1) := by decide +kernel
theorem dX8_readLeak_14 : decode cX8_readLeak 14 = .ok (.invokevirtual 72, 3) := by decide +kernel
theorem dX8_readLeak_17 : decode cX8_readLeak 17 = .ok (.aload_n 0, 1) := by decide +kernel
theorem dX8_readLeak_18 : decode cX8_readLeak 18 = .ok (.iconst 0, 1) := by decide +kernel
theorem dX8_readLeak_19 : decode cX8_readLeak 19 = .ok (.aload_n 1, 1) := by decide +kernel
theorem dX8_readLeak_20 : decode cX8_readLeak 20 = .ok (.invokevirtual 90, 3) := by decide +kernel
theorem dX8_readLeak_23 : decode cX8_readLeak 23 = .ok (.iconst 1, 1) := by decide +kernel
theorem dX8_readLeak_24 : decode cX8_readLeak 24 = .ok (.isub, 1) := by decide +kernel
theorem dX8_readLeak_25 : decode cX8_readLeak 25 = .ok (.invokevirtual 76, 3) := by decide +kernel
theorem dX8_readLeak_28 : decode cX8_readLeak 28 = .ok (.istore_n 2, 1) := by decide +kernel
theorem dX8_readLeak_29 : decode cX8_readLeak 29 = .ok (.aload_n 0, 1) := by decide +kernel
theorem dX8_readLeak_30 : decode cX8_readLeak 30 = .ok (.bipush 59, 2) := by decide +kernel
theorem dX8_readLeak_32 : decode cX8_readLeak 32 = .ok (.invokevirtual 80, 3) := by decide +kernel
theorem dX8_readLeak_35 : decode cX8_readLeak 35 = .ok (.ifCond .eq 8, 3) := by decide +kernel
theorem dX8_readLeak_38 : decode cX8_readLeak 38 = .ok (.aload_n 1, 1) := by decide +kernel
theorem dX8_readLeak_39 : decode cX8_readLeak 39 = .ok (.iload_n 2, 1) := by decide +kernel
theorem dX8_readLeak_40 : decode cX8_readLeak 40 = .ok (.invokevirtual 93, 3) := by decide +kernel
theorem dX8_readLeak_43 : decode cX8_readLeak 43 = .ok (.return_, 1) := by decide +kernel
theorem dX8_readCrack_0 : decode cX8_readCrack 0 = .ok (.aload_n 0, 1) := by decide +kernel
theorem dX8_readCrack_1 : decode cX8_readCrack 1 = .ok (.aload_n 1, 1) := by decide +kernel
theorem dX8_readCrack_2 : decode cX8_readCrack 2 = .ok (.getfield 97, 3) := by decide +kernel
theorem dX8_readCrack_5 : decode cX8_readCrack 5 = .ok (.bipush 6, 2) := by decide +kernel
theorem dX8_readCrack_7 : decode cX8_readCrack 7 = .ok (.if_icmp .lt 7, 3) := by decide +kernel
theorem dX8_readCrack_10 : decode cX8_readCrack 10 = .ok (.iconst 1, 1) := by decide +kernel
theorem dX8_readCrack_11 : decode cX8_readCrack 11 = .ok (.goto 4, 3) := by decide +kernel
theorem dX8_readCrack_14 : decode cX8_readCrack 14 = .ok (.iconst 0, 1) := by decide +kernel
theorem dX8_readCrack_15 : decode cX8_readCrack 15 = .ok (.invokevirtual 72, 3) := by decide +kernel
theorem dX8_readCrack_18 : decode cX8_readCrack 18 = .ok (.aload_n 0, 1) := by decide +kernel
theorem dX8_readCrack_19 : decode cX8_readCrack 19 = .ok (.iconst 0, 1) := by decide +kernel
theorem dX8_readCrack_20 : decode cX8_readCrack 20 = .ok (.aload_n 1, 1) := by decide +kernel
theorem dX8_readCrack_21 : decode cX8_readCrack 21 = .ok (.invokevirtual 90, 3) := by decide +kernel
theorem dX8_readCrack_24 : decode cX8_readCrack 24 = .ok (.iconst 1, 1) := by decide +kernel
theorem dX8_readCrack_25 : decode cX8_readCrack 25 = .ok (.isub, 1) := by decide +kernel
theorem dX8_readCrack_26 : decode cX8_readCrack 26 = .ok (.invokevirtual 76, 3) := by decide +kernel
theorem dX8_readCrack_29 : decode cX8_readCrack 29 = .ok (.istore_n 2, 1) := by decide +kernel
theorem dX8_readCrack_30 : decode cX8_readCrack 30 = .ok (.aload_n 0, 1) := by decide +kernel
theorem dX8_readCrack_31 : decode cX8_readCrack 31 = .ok (.iconst 0, 1) := by decide +kernel
theorem dX8_readCrack_32 : decode cX8_readCrack 32 = .ok (.aload_n 1, 1) := by decide +kernel
theorem dX8_readCrack_33 : decode cX8_readCrack 33 = .ok (.invokevirtual 90, 3) := by decide +kernel
theorem dX8_readCrack_36 : decode cX8_readCrack 36 = .ok (.iconst 1, 1) := by decide +kernel
theorem dX8_readCrack_37 : decode cX8_readCrack 37 = .ok (.isub, 1) := by decide +kernel
theorem dX8_readCrack_38 : decode cX8_readCrack 38 = .ok (.invokevirtual 76, 3) := by decide +kernel
theorem dX8_readCrack_41 : decode cX8_readCrack 41 = .ok (.istore_n 3, 1) := by decide +kernel
theorem dX8_readCrack_42 : decode cX8_readCrack 42 = .ok (.aload_n 1, 1) := by decide +kernel
theorem dX8_readCrack_43 : decode cX8_readCrack 43 = .ok (.iload_n 2, 1) := by decide +kernel
theorem dX8_readCrack_44 : decode cX8_readCrack 44 = .ok (.iload_n 3, 1) := by decide +kernel
theorem dX8_readCrack_45 : decode cX8_readCrack 45 = .ok (.invokevirtual 100, 3) := by decide +kernel
theorem dX8_readCrack_48 : decode cX8_readCrack 48 = .ok (.ifCond .eq 12, 3) := by decide +kernel
theorem dX8_readCrack_51 : decode cX8_readCrack 51 = .ok (.aload_n 1, 1) := by decide +kernel
theorem dX8_readCrack_52 : decode cX8_readCrack 52 = .ok (.iload_n 2, 1) := by decide +kernel
theorem dX8_readCrack_53 : decode cX8_readCrack 53 = .ok (.iload_n 3, 1) := by decide +kernel
theorem dX8_readCrack_54 : decode cX8_readCrack 54 = .ok (.invokevirtual 104, 3) := by decide +kernel
theorem dX8_readCrack_57 : decode cX8_readCrack 57 = .ok (.ifCond .eq 12, 3) := by decide +kernel
theorem dX8_readCrack_60 : decode cX8_readCrack 60 = .ok (.aload_n 0, 1) := by decide +kernel
theorem dX8_readCrack_61 : decode cX8_readCrack 61 = .ok (.iconst 4, 1) := by decide +kernel
theorem dX8_readCrack_62 : decode cX8_readCrack 62 = .ok (.aload_n 0, 1) := by decide +kernel
theorem dX8_readCrack_63 : decode cX8_readCrack 63 = .ok (.getfield 107, 3) := by decide +kernel
theorem dX8_readCrack_66 : decode cX8_readCrack 66 = .ok (.invokevirtual 53, 3) := by decide +kernel
theorem dX8_readCrack_69 : decode cX8_readCrack 69 = .ok (.aload_n 0, 1) := by decide +kernel
theorem dX8_readCrack_70 : decode cX8_readCrack 70 = .ok (.bipush 59, 2) := by decide +kernel
theorem dX8_readCrack_72 : decode cX8_readCrack 72 = .ok (.invokevirtual 80, 3) := by decide +kernel
theorem dX8_readCrack_75 : decode cX8_readCrack 75 = .ok (.ifCond .eq 9, 3) := by decide +kernel
theorem dX8_readCrack_78 : decode cX8_readCrack 78 = .ok (.aload_n 1, 1) := by decide +kernel
theorem dX8_readCrack_79 : decode cX8_readCrack 79 = .ok (.iload_n 2, 1) := by decide +kernel
theorem dX8_readCrack_80 : decode cX8_readCrack 80 = .ok (.iload_n 3, 1) := by decide +kernel
theorem dX8_readCrack_81 : decode cX8_readCrack 81 = .ok (.invokevirtual 110, 3) := by decide +kernel
theorem dX8_readCrack_84 : decode cX8_readCrack 84 = .ok (.return_, 1) := by decide +kernel
theorem dX8_readFace_0 : decode cX8_readFace 0 = .ok (.aload_n 0, 1) := by decide +kernel
theorem dX8_readFace_1 : decode cX8_readFace 1 = .ok (.aload_n 1, 1) := by decide +kernel
theorem dX8_readFace_2 : decode cX8_readFace 2 = .ok (.getfield 113, 3) := by decide +kernel
theorem dX8_readFace_5 : decode cX8_readFace 5 = .ok (.iconst 5, 1) := by decide +kernel
theorem dX8_readFace_6 : decode cX8_readFace 6 = .ok (.if_icmp .lt 7, 3) := by decide +kernel
theorem dX8_readFace_9 : decode cX8_readFace 9 = .ok (.iconst 1, 1) := by decide +kernel
theorem dX8_readFace_10 : decode cX8_readFace 10 = .ok (.goto 4, 3) := by decide +kernel
theorem dX8_readFace_13 : decode cX8_readFace 13 = .ok (.iconst 0, 1) := by decide +kernel
theorem dX8_readFace_14 : decode cX8_readFace 14 = .ok (.invokevirtual 72, 3) := by decide +kernel
theorem dX8_readFace_17 : decode cX8_readFace 17 = .ok (.iconst 0, 1) := by decide +kernel
theorem dX8_readFace_18 : decode cX8_readFace 18 = .ok (.istore_n 2, 1) := by decide +kernel
theorem dX8_readFace_19 : decode cX8_readFace 19 = .ok (.iconst 0, 1) := by decide +kernel
theorem dX8_readFace_20 : decode cX8_readFace 20 = .ok (.istore_n 3, 1) := by decide +kernel
theorem dX8_readFace_21 : decode cX8_readFace 21 = .ok (.iload_n 3, 1) := by decide +kernel
theorem dX8_readFace_22 : decode cX8_readFace 22 = .ok (.aload_n 1, 1) := by decide +kernel
theorem dX8_readFace_23 : decode cX8_readFace 23 = .ok (.getfield 50, 3) := by decide +kernel
theorem dX8_readFace_26 : decode cX8_readFace 26 = .ok (.if_icmp .ge 43, 3) := by decide +kernel
theorem dX8_readFace_29 : decode cX8_readFace 29 = .ok (.iload_n 3, 1) := by decide +kernel
theorem dX8_readFace_30 : decode cX8_readFace 30 = .ok (.ifCond .le 10, 3) := by decide +kernel
theorem dX8_readFace_33 : decode cX8_readFace 33 = .ok (.aload_n 0, 1) := by decide +kernel
theorem dX8_readFace_34 : decode cX8_readFace 34 = .ok (.bipush 44, 2) := by decide +kernel
theorem dX8_readFace_36 : decode cX8_readFace 36 = .ok (.invokevirtual 80, 3) := by decide +kernel
theorem dX8_readFace_39 : decode cX8_readFace 39 = .ok (.pop, 1) := by decide +kernel
theorem dX8_readFace_40 : decode cX8_readFace 40 = .ok (.iload_n 2, 1) := by decide +kernel
theorem dX8_readFace_41 : decode cX8_readFace 41 = .ok (.aload_n 0, 1) := by decide +kernel
theorem dX8_readFace_42 : decode cX8_readFace 42 = .ok (.iconst 0, 1) := by decide +kernel
theorem dX8_readFace_43 : decode cX8_readFace 43 = .ok (.iconst 1, 1) := by decide +kernel
theorem dX8_readFace_44 : decode cX8_readFace 44 = .ok (.aload_n 1, 1) := by decide +kernel
theorem dX8_readFace_45 : decode cX8_readFace 45 = .ok (.getfield 116, 3) := by decide +kernel
theorem dX8_readFace_48 : decode cX8_readFace 48 = .ok (.ishl, 1) := by decide +kernel
theorem dX8_readFace_49 : decode cX8_readFace 49 = .ok (.iconst 1, 1) := by decide +kernel
theorem dX8_readFace_50 : decode cX8_readFace 50 = .ok (.isub, 1) := by decide +kernel
theorem dX8_readFace_51 : decode cX8_readFace 51 = .ok (.invokevirtual 76, 3) := by decide +kernel
theorem dX8_readFace_54 : decode cX8_readFace 54 = .ok (.iload_n 3, 1) := by decide +kernel
theorem dX8_readFace_55 : decode cX8_readFace 55 = .ok (.aload_n 1, 1) := by decide +kernel
theorem dX8_readFace_56 : decode cX8_readFace 56 = .ok (.getfield 116, 3) := by decide +kernel
theorem dX8_readFace_59 : decode cX8_readFace 59 = .ok (.imul, 1) := by decide +kernel
theorem dX8_readFace_60 : decode cX8_readFace 60 = .ok (.ishl, 1) := by decide +kernel
theorem dX8_readFace_61 : decode cX8_readFace 61 = .ok (.ior, 1) := by decide +kernel
theorem dX8_readFace_62 : decode cX8_readFace 62 = .ok (.istore_n 2, 1) := by decide +kernel
theorem dX8_readFace_63 : decode cX8_readFace 63 = .ok (.iinc 3 1, 3) := by decide +kernel
theorem dX8_readFace_66 : decode cX8_readFace 66 = .ok (.goto (-45), 3) := by decide +kernel
theorem dX8_readFace_69 : decode cX8_readFace 69 = .ok (.aload_n 0, 1) := by decide +kernel
theorem dX8_readFace_70 : decode cX8_readFace 70 = .ok (.bipush 59, 2) := by decide +kernel
theorem dX8_readFace_72 : decode cX8_readFace 72 = .ok (.invokevirtual 80, 3) := by decide +kernel
theorem dX8_readFace_75 : decode cX8_readFace 75 = .ok (.ifCond .eq 8, 3) := by decide +kernel
theorem dX8_readFace_78 : decode cX8_readFace 78 = .ok (.aload_n 1, 1) := by decide +kernel
theorem dX8_readFace_79 : decode cX8_readFace 79 = .ok (.iload_n 2, 1) := by decide +kernel
theorem dX8_readFace_80 : decode cX8_readFace 80 = .ok (.invokevirtual 119, 3) := by decide +kernel
theorem dX8_readFace_83 : decode cX8_readFace 83 = .ok (.return_, 1) := by decide +kernel
theorem dX8_readWind_0 : decode cX8_readWind 0 = .ok (.aload_n 0, 1) := by decide +kernel
theorem dX8_readWind_1 : decode cX8_readWind 1 = .ok (.aload_n 0, 1) := by decide +kernel
theorem dX8_readWind_2 : decode cX8_readWind 2 = .ok (.getfield 33, 3) := by decide +kernel
theorem dX8_readWind_5 : decode cX8_readWind 5 = .ok (.invokevirtual 72, 3) := by decide +kernel
theorem dX8_readWind_8 : decode cX8_readWind 8 = .ok (.aload_n 0, 1) := by decide +kernel
theorem dX8_readWind_9 : decode cX8_readWind 9 = .ok (.iconst 0, 1) := by decide +kernel
theorem dX8_readWind_10 : decode cX8_readWind 10 = .ok (.iconst 2, 1) := by decide +kernel
theorem dX8_readWind_11 : decode cX8_readWind 11 = .ok (.invokevirtual 76, 3) := by decide +kernel
theorem dX8_readWind_14 : decode cX8_readWind 14 = .ok (.istore_n 2, 1) := by decide +kernel
theorem dX8_readWind_15 : decode cX8_readWind 15 = .ok (.aload_n 0, 1) := by decide +kernel
theorem dX8_readWind_16 : decode cX8_readWind 16 = .ok (.bipush 59, 2) := by decide +kernel
theorem dX8_readWind_18 : decode cX8_readWind 18 = .ok (.invokevirtual 80, 3) := by decide +kernel
theorem dX8_readWind_21 : decode cX8_readWind 21 = .ok (.ifCond .eq 13, 3) := by decide +kernel
theorem dX8_readWind_24 : decode cX8_readWind 24 = .ok (.aload_n 1, 1) := by decide +kernel
theorem dX8_readWind_25 : decode cX8_readWind 25 = .ok (.iload_n 2, 1) := by decide +kernel
theorem dX8_readWind_26 : decode cX8_readWind 26 = .ok (.putfield 122, 3) := by decide +kernel
theorem dX8_readWind_29 : decode cX8_readWind 29 = .ok (.aload_n 0, 1) := by decide +kernel
theorem dX8_readWind_30 : decode cX8_readWind 30 = .ok (.iconst 1, 1) := by decide +kernel
theorem dX8_readWind_31 : decode cX8_readWind 31 = .ok (.putfield 33, 3) := by decide +kernel
theorem dX8_readWind_34 : decode cX8_readWind 34 = .ok (.return_, 1) := by decide +kernel
theorem dX8_fail_0 : decode cX8_fail 0 = .ok (.aload_n 0, 1) := by decide +kernel
theorem dX8_fail_1 : decode cX8_fail 1 = .ok (.getfield 30, 3) := by decide +kernel
theorem dX8_fail_4 : decode cX8_fail 4 = .ok (.ifCond .ne 13, 3) := by decide +kernel
theorem dX8_fail_7 : decode cX8_fail 7 = .ok (.aload_n 0, 1) := by decide +kernel
theorem dX8_fail_8 : decode cX8_fail 8 = .ok (.iload_n 1, 1) := by decide +kernel
theorem dX8_fail_9 : decode cX8_fail 9 = .ok (.putfield 30, 3) := by decide +kernel
theorem dX8_fail_12 : decode cX8_fail 12 = .ok (.aload_n 0, 1) := by decide +kernel
theorem dX8_fail_13 : decode cX8_fail 13 = .ok (.iload_n 2, 1) := by decide +kernel
theorem dX8_fail_14 : decode cX8_fail 14 = .ok (.putfield 15, 3) := by decide +kernel
theorem dX8_fail_17 : decode cX8_fail 17 = .ok (.return_, 1) := by decide +kernel
theorem dX8_peek_0 : decode cX8_peek 0 = .ok (.aload_n 0, 1) := by decide +kernel
theorem dX8_peek_1 : decode cX8_peek 1 = .ok (.getfield 27, 3) := by decide +kernel
theorem dX8_peek_4 : decode cX8_peek 4 = .ok (.aload_n 0, 1) := by decide +kernel
theorem dX8_peek_5 : decode cX8_peek 5 = .ok (.getfield 19, 3) := by decide +kernel
theorem dX8_peek_8 : decode cX8_peek 8 = .ok (.if_icmp .ge 32, 3) := by decide +kernel
theorem dX8_peek_11 : decode cX8_peek 11 = .ok (.aload_n 0, 1) := by decide +kernel
theorem dX8_peek_12 : decode cX8_peek 12 = .ok (.getfield 9, 3) := by decide +kernel
theorem dX8_peek_15 : decode cX8_peek 15 = .ok (.aload_n 0, 1) := by decide +kernel
theorem dX8_peek_16 : decode cX8_peek 16 = .ok (.getfield 27, 3) := by decide +kernel
theorem dX8_peek_19 : decode cX8_peek 19 = .ok (.invokestatic 125, 3) := by decide +kernel
theorem dX8_peek_22 : decode cX8_peek 22 = .ok (.bipush 32, 2) := by decide +kernel
theorem dX8_peek_24 : decode cX8_peek 24 = .ok (.if_icmp .ne 16, 3) := by decide +kernel
theorem dX8_peek_27 : decode cX8_peek 27 = .ok (.aload_n 0, 1) := by decide +kernel
theorem dX8_peek_28 : decode cX8_peek 28 = .ok (.dup, 1) := by decide +kernel
theorem dX8_peek_29 : decode cX8_peek 29 = .ok (.getfield 27, 3) := by decide +kernel
theorem dX8_peek_32 : decode cX8_peek 32 = .ok (.iconst 1, 1) := by decide +kernel
theorem dX8_peek_33 : decode cX8_peek 33 = .ok (.iadd, 1) := by decide +kernel
theorem dX8_peek_34 : decode cX8_peek 34 = .ok (.putfield 27, 3) := by decide +kernel
theorem dX8_peek_37 : decode cX8_peek 37 = .ok (.goto (-37), 3) := by decide +kernel
theorem dX8_peek_40 : decode cX8_peek 40 = .ok (.aload_n 0, 1) := by decide +kernel
theorem dX8_peek_41 : decode cX8_peek 41 = .ok (.getfield 27, 3) := by decide +kernel
theorem dX8_peek_44 : decode cX8_peek 44 = .ok (.aload_n 0, 1) := by decide +kernel
theorem dX8_peek_45 : decode cX8_peek 45 = .ok (.getfield 19, 3) := by decide +kernel
theorem dX8_peek_48 : decode cX8_peek 48 = .ok (.if_icmp .ge 17, 3) := by decide +kernel
theorem dX8_peek_51 : decode cX8_peek 51 = .ok (.aload_n 0, 1) := by decide +kernel
theorem dX8_peek_52 : decode cX8_peek 52 = .ok (.getfield 9, 3) := by decide +kernel
theorem dX8_peek_55 : decode cX8_peek 55 = .ok (.aload_n 0, 1) := by decide +kernel
theorem dX8_peek_56 : decode cX8_peek 56 = .ok (.getfield 27, 3) := by decide +kernel
theorem dX8_peek_59 : decode cX8_peek 59 = .ok (.invokestatic 125, 3) := by decide +kernel
theorem dX8_peek_62 : decode cX8_peek 62 = .ok (.goto 4, 3) := by decide +kernel
theorem dX8_peek_65 : decode cX8_peek 65 = .ok (.iconst (-1), 1) := by decide +kernel
theorem dX8_peek_66 : decode cX8_peek 66 = .ok (.ireturn, 1) := by decide +kernel
theorem dX8_takeWord_0 : decode cX8_takeWord 0 = .ok (.iload_n 1, 1) := by decide +kernel
theorem dX8_takeWord_1 : decode cX8_takeWord 1 = .ok (.ifCond .eq 12, 3) := by decide +kernel
theorem dX8_takeWord_4 : decode cX8_takeWord 4 = .ok (.aload_n 0, 1) := by decide +kernel
theorem dX8_takeWord_5 : decode cX8_takeWord 5 = .ok (.iconst 3, 1) := by decide +kernel
theorem dX8_takeWord_6 : decode cX8_takeWord 6 = .ok (.aload_n 0, 1) := by decide +kernel
theorem dX8_takeWord_7 : decode cX8_takeWord 7 = .ok (.getfield 27, 3) := by decide +kernel
theorem dX8_takeWord_10 : decode cX8_takeWord 10 = .ok (.invokevirtual 53, 3) := by decide +kernel
theorem dX8_takeWord_13 : decode cX8_takeWord 13 = .ok (.aload_n 0, 1) := by decide +kernel
theorem dX8_takeWord_14 : decode cX8_takeWord 14 = .ok (.dup, 1) := by decide +kernel
theorem dX8_takeWord_15 : decode cX8_takeWord 15 = .ok (.getfield 27, 3) := by decide +kernel
theorem dX8_takeWord_18 : decode cX8_takeWord 18 = .ok (.iconst 1, 1) := by decide +kernel
theorem dX8_takeWord_19 : decode cX8_takeWord 19 = .ok (.iadd, 1) := by decide +kernel
theorem dX8_takeWord_20 : decode cX8_takeWord 20 = .ok (.putfield 27, 3) := by decide +kernel
theorem dX8_takeWord_23 : decode cX8_takeWord 23 = .ok (.return_, 1) := by decide +kernel
theorem dX8_takeSign_0 : decode cX8_takeSign 0 = .ok (.aload_n 0, 1) := by decide +kernel
theorem dX8_takeSign_1 : decode cX8_takeSign 1 = .ok (.getfield 30, 3) := by decide +kernel
theorem dX8_takeSign_4 : decode cX8_takeSign 4 = .ok (.ifCond .ne 20, 3) := by decide +kernel
theorem dX8_takeSign_7 : decode cX8_takeSign 7 = .ok (.aload_n 0, 1) := by decide +kernel
theorem dX8_takeSign_8 : decode cX8_takeSign 8 = .ok (.invokevirtual 42, 3) := by decide +kernel
theorem dX8_takeSign_11 : decode cX8_takeSign 11 = .ok (.iload_n 1, 1) := by decide +kernel
theorem dX8_takeSign_12 : decode cX8_takeSign 12 = .ok (.if_icmp .eq 12, 3) := by decide +kernel
theorem dX8_takeSign_15 : decode cX8_takeSign 15 = .ok (.aload_n 0, 1) := by decide +kernel
theorem dX8_takeSign_16 : decode cX8_takeSign 16 = .ok (.iconst 1, 1) := by decide +kernel
theorem dX8_takeSign_17 : decode cX8_takeSign 17 = .ok (.aload_n 0, 1) := by decide +kernel
theorem dX8_takeSign_18 : decode cX8_takeSign 18 = .ok (.getfield 27, 3) := by decide +kernel
theorem dX8_takeSign_21 : decode cX8_takeSign 21 = .ok (.invokevirtual 53, 3) := by decide +kernel
theorem dX8_takeSign_24 : decode cX8_takeSign 24 = .ok (.aload_n 0, 1) := by decide +kernel
theorem dX8_takeSign_25 : decode cX8_takeSign 25 = .ok (.getfield 30, 3) := by decide +kernel
theorem dX8_takeSign_28 : decode cX8_takeSign 28 = .ok (.ifCond .eq 5, 3) := by decide +kernel
theorem dX8_takeSign_31 : decode cX8_takeSign 31 = .ok (.iconst 0, 1) := by decide +kernel
theorem dX8_takeSign_32 : decode cX8_takeSign 32 = .ok (.ireturn, 1) := by decide +kernel
theorem dX8_takeSign_33 : decode cX8_takeSign 33 = .ok (.aload_n 0, 1) := by decide +kernel
theorem dX8_takeSign_34 : decode cX8_takeSign 34 = .ok (.dup, 1) := by decide +kernel
theorem dX8_takeSign_35 : decode cX8_takeSign 35 = .ok (.getfield 27, 3) := by decide +kernel
theorem dX8_takeSign_38 : decode cX8_takeSign 38 = .ok (.iconst 1, 1) := by decide +kernel
theorem dX8_takeSign_39 : decode cX8_takeSign 39 = .ok (.iadd, 1) := by decide +kernel
theorem dX8_takeSign_40 : decode cX8_takeSign 40 = .ok (.putfield 27, 3) := by decide +kernel
theorem dX8_takeSign_43 : decode cX8_takeSign 43 = .ok (.iconst 1, 1) := by decide +kernel
theorem dX8_takeSign_44 : decode cX8_takeSign 44 = .ok (.ireturn, 1) := by decide +kernel
theorem dX8_takeNumber_0 : decode cX8_takeNumber 0 = .ok (.aload_n 0, 1) := by decide +kernel
theorem dX8_takeNumber_1 : decode cX8_takeNumber 1 = .ok (.getfield 30, 3) := by decide +kernel
theorem dX8_takeNumber_4 : decode cX8_takeNumber 4 = .ok (.ifCond .ne 22, 3) := by decide +kernel
theorem dX8_takeNumber_7 : decode cX8_takeNumber 7 = .ok (.aload_n 0, 1) := by decide +kernel
theorem dX8_takeNumber_8 : decode cX8_takeNumber 8 = .ok (.invokevirtual 42, 3) := by decide +kernel
theorem dX8_takeNumber_11 : decode cX8_takeNumber 11 = .ok (.invokestatic 129, 3) := by decide +kernel
theorem dX8_takeNumber_14 : decode cX8_takeNumber 14 = .ok (.ifCond .ne 12, 3) := by decide +kernel
theorem dX8_takeNumber_17 : decode cX8_takeNumber 17 = .ok (.aload_n 0, 1) := by decide +kernel
theorem dX8_takeNumber_18 : decode cX8_takeNumber 18 = .ok (.iconst 1, 1) := by decide +kernel
theorem dX8_takeNumber_19 : decode cX8_takeNumber 19 = .ok (.aload_n 0, 1) := by decide +kernel
theorem dX8_takeNumber_20 : decode cX8_takeNumber 20 = .ok (.getfield 27, 3) := by decide +kernel
theorem dX8_takeNumber_23 : decode cX8_takeNumber 23 = .ok (.invokevirtual 53, 3) := by decide +kernel
theorem dX8_takeNumber_26 : decode cX8_takeNumber 26 = .ok (.aload_n 0, 1) := by decide +kernel
theorem dX8_takeNumber_27 : decode cX8_takeNumber 27 = .ok (.getfield 30, 3) := by decide +kernel
theorem dX8_takeNumber_30 : decode cX8_takeNumber 30 = .ok (.ifCond .eq 5, 3) := by decide +kernel
theorem dX8_takeNumber_33 : decode cX8_takeNumber 33 = .ok (.iconst 0, 1) := by decide +kernel
theorem dX8_takeNumber_34 : decode cX8_takeNumber 34 = .ok (.ireturn, 1) := by decide +kernel
theorem dX8_takeNumber_35 : decode cX8_takeNumber 35 = .ok (.aload_n 0, 1) := by decide +kernel
theorem dX8_takeNumber_36 : decode cX8_takeNumber 36 = .ok (.aload_n 0, 1) := by decide +kernel
theorem dX8_takeNumber_37 : decode cX8_takeNumber 37 = .ok (.getfield 27, 3) := by decide +kernel
theorem dX8_takeNumber_40 : decode cX8_takeNumber 40 = .ok (.putfield 107, 3) := by decide +kernel
theorem dX8_takeNumber_43 : decode cX8_takeNumber 43 = .ok (.iconst 0, 1) := by decide +kernel
theorem dX8_takeNumber_44 : decode cX8_takeNumber 44 = .ok (.istore_n 3, 1) := by decide +kernel
theorem dX8_takeNumber_45 : decode cX8_takeNumber 45 = .ok (.aload_n 0, 1) := by decide +kernel
theorem dX8_takeNumber_46 : decode cX8_takeNumber 46 = .ok (.getfield 27, 3) := by decide +kernel
theorem dX8_takeNumber_49 : decode cX8_takeNumber 49 = .ok (.aload_n 0, 1) := by decide +kernel
theorem dX8_takeNumber_50 : decode cX8_takeNumber 50 = .ok (.getfield 19, 3) := by decide +kernel
theorem dX8_takeNumber_53 : decode cX8_takeNumber 53 = .ok (.if_icmp .ge 66, 3) := by decide +kernel
theorem dX8_takeNumber_56 : decode cX8_takeNumber 56 = .ok (.aload_n 0, 1) := by decide +kernel
theorem dX8_takeNumber_57 : decode cX8_takeNumber 57 = .ok (.getfield 9, 3) := by decide +kernel
theorem dX8_takeNumber_60 : decode cX8_takeNumber 60 = .ok (.aload_n 0, 1) := by decide +kernel
theorem dX8_takeNumber_61 : decode cX8_takeNumber 61 = .ok (.getfield 27, 3) := by decide +kernel
theorem dX8_takeNumber_64 : decode cX8_takeNumber 64 = .ok (.invokestatic 125, 3) := by decide +kernel
theorem dX8_takeNumber_67 : decode cX8_takeNumber 67 = .ok (.invokestatic 129, 3) := by decide +kernel
theorem dX8_takeNumber_70 : decode cX8_takeNumber 70 = .ok (.ifCond .eq 49, 3) := by decide +kernel
theorem dX8_takeNumber_73 : decode cX8_takeNumber 73 = .ok (.aload_n 0, 1) := by decide +kernel
theorem dX8_takeNumber_74 : decode cX8_takeNumber 74 = .ok (.getfield 27, 3) := by decide +kernel
theorem dX8_takeNumber_77 : decode cX8_takeNumber 77 = .ok (.aload_n 0, 1) := by decide +kernel
theorem dX8_takeNumber_78 : decode cX8_takeNumber 78 = .ok (.getfield 107, 3) := by decide +kernel
theorem dX8_takeNumber_81 : decode cX8_takeNumber 81 = .ok (.isub, 1) := by decide +kernel
theorem dX8_takeNumber_82 : decode cX8_takeNumber 82 = .ok (.iconst 3, 1) := by decide +kernel
theorem dX8_takeNumber_83 : decode cX8_takeNumber 83 = .ok (.if_icmp .ge 23, 3) := by decide +kernel
theorem dX8_takeNumber_86 : decode cX8_takeNumber 86 = .ok (.iload_n 3, 1) := by decide +kernel
theorem dX8_takeNumber_87 : decode cX8_takeNumber 87 = .ok (.bipush 10, 2) := by decide +kernel
theorem dX8_takeNumber_89 : decode cX8_takeNumber 89 = .ok (.imul, 1) := by decide +kernel
theorem dX8_takeNumber_90 : decode cX8_takeNumber 90 = .ok (.aload_n 0, 1) := by decide +kernel
theorem dX8_takeNumber_91 : decode cX8_takeNumber 91 = .ok (.getfield 9, 3) := by decide +kernel
theorem dX8_takeNumber_94 : decode cX8_takeNumber 94 = .ok (.aload_n 0, 1) := by decide +kernel
theorem dX8_takeNumber_95 : decode cX8_takeNumber 95 = .ok (.getfield 27, 3) := by decide +kernel
theorem dX8_takeNumber_98 : decode cX8_takeNumber 98 = .ok (.invokestatic 125, 3) := by decide +kernel
theorem dX8_takeNumber_101 : decode cX8_takeNumber 101 = .ok (.iadd, 1) := by decide +kernel
theorem dX8_takeNumber_102 : decode cX8_takeNumber 102 = .ok (.bipush 48, 2) := by decide +kernel
theorem dX8_takeNumber_104 : decode cX8_takeNumber 104 = .ok (.isub, 1) := by decide +kernel
theorem dX8_takeNumber_105 : decode cX8_takeNumber 105 = .ok (.istore_n 3, 1) := by decide +kernel
theorem dX8_takeNumber_106 : decode cX8_takeNumber 106 = .ok (.aload_n 0, 1) := by decide +kernel
theorem dX8_takeNumber_107 : decode cX8_takeNumber 107 = .ok (.dup, 1) := by decide +kernel
theorem dX8_takeNumber_108 : decode cX8_takeNumber 108 = .ok (.getfield 27, 3) := by decide +kernel
theorem dX8_takeNumber_111 : decode cX8_takeNumber 111 = .ok (.iconst 1, 1) := by decide +kernel
theorem dX8_takeNumber_112 : decode cX8_takeNumber 112 = .ok (.iadd, 1) := by decide +kernel
theorem dX8_takeNumber_113 : decode cX8_takeNumber 113 = .ok (.putfield 27, 3) := by decide +kernel
theorem dX8_takeNumber_116 : decode cX8_takeNumber 116 = .ok (.goto (-71), 3) := by decide +kernel
theorem dX8_takeNumber_119 : decode cX8_takeNumber 119 = .ok (.aload_n 0, 1) := by decide +kernel
theorem dX8_takeNumber_120 : decode cX8_takeNumber 120 = .ok (.getfield 27, 3) := by decide +kernel
theorem dX8_takeNumber_123 : decode cX8_takeNumber 123 = .ok (.aload_n 0, 1) := by decide +kernel
theorem dX8_takeNumber_124 : decode cX8_takeNumber 124 = .ok (.getfield 107, 3) := by decide +kernel
theorem dX8_takeNumber_127 : decode cX8_takeNumber 127 = .ok (.isub, 1) := by decide +kernel
theorem dX8_takeNumber_128 : decode cX8_takeNumber 128 = .ok (.iconst 3, 1) := by decide +kernel
theorem dX8_takeNumber_129 : decode cX8_takeNumber 129 = .ok (.if_icmp .gt 12, 3) := by decide +kernel
theorem dX8_takeNumber_132 : decode cX8_takeNumber 132 = .ok (.iload_n 3, 1) := by decide +kernel
theorem dX8_takeNumber_133 : decode cX8_takeNumber 133 = .ok (.iload_n 1, 1) := by decide +kernel
theorem dX8_takeNumber_134 : decode cX8_takeNumber 134 = .ok (.iload_n 2, 1) := by decide +kernel
theorem dX8_takeNumber_135 : decode cX8_takeNumber 135 = .ok (.invokestatic 132, 3) := by decide +kernel
theorem dX8_takeNumber_138 : decode cX8_takeNumber 138 = .ok (.ifCond .eq 12, 3) := by decide +kernel
theorem dX8_takeNumber_141 : decode cX8_takeNumber 141 = .ok (.aload_n 0, 1) := by decide +kernel
theorem dX8_takeNumber_142 : decode cX8_takeNumber 142 = .ok (.iconst 2, 1) := by decide +kernel
theorem dX8_takeNumber_143 : decode cX8_takeNumber 143 = .ok (.aload_n 0, 1) := by decide +kernel
theorem dX8_takeNumber_144 : decode cX8_takeNumber 144 = .ok (.getfield 107, 3) := by decide +kernel
theorem dX8_takeNumber_147 : decode cX8_takeNumber 147 = .ok (.invokevirtual 53, 3) := by decide +kernel
theorem dX8_takeNumber_150 : decode cX8_takeNumber 150 = .ok (.iload_n 3, 1) := by decide +kernel
theorem dX8_takeNumber_151 : decode cX8_takeNumber 151 = .ok (.ireturn, 1) := by decide +kernel
theorem dX8_isFigure_0 : decode cX8_isFigure 0 = .ok (.iload_n 0, 1) := by decide +kernel
theorem dX8_isFigure_1 : decode cX8_isFigure 1 = .ok (.bipush 48, 2) := by decide +kernel
theorem dX8_isFigure_3 : decode cX8_isFigure 3 = .ok (.if_icmp .lt 13, 3) := by decide +kernel
theorem dX8_isFigure_6 : decode cX8_isFigure 6 = .ok (.iload_n 0, 1) := by decide +kernel
theorem dX8_isFigure_7 : decode cX8_isFigure 7 = .ok (.bipush 57, 2) := by decide +kernel
theorem dX8_isFigure_9 : decode cX8_isFigure 9 = .ok (.if_icmp .gt 7, 3) := by decide +kernel
theorem dX8_isFigure_12 : decode cX8_isFigure 12 = .ok (.iconst 1, 1) := by decide +kernel
theorem dX8_isFigure_13 : decode cX8_isFigure 13 = .ok (.goto 4, 3) := by decide +kernel
theorem dX8_isFigure_16 : decode cX8_isFigure 16 = .ok (.iconst 0, 1) := by decide +kernel
theorem dX8_isFigure_17 : decode cX8_isFigure 17 = .ok (.ireturn, 1) := by decide +kernel
theorem dX9_init_0 : decode cX9_init 0 = .ok (.aload_n 0, 1) := by decide +kernel
theorem dX9_init_1 : decode cX9_init 1 = .ok (.invokespecial 3, 3) := by decide +kernel
theorem dX9_init_4 : decode cX9_init 4 = .ok (.aload_n 0, 1) := by decide +kernel
theorem dX9_init_5 : decode cX9_init 5 = .ok (.new 9, 3) := by decide +kernel
theorem dX9_init_8 : decode cX9_init 8 = .ok (.dup, 1) := by decide +kernel
theorem dX9_init_9 : decode cX9_init 9 = .ok (.invokespecial 11, 3) := by decide +kernel
theorem dX9_init_12 : decode cX9_init 12 = .ok (.putfield 12, 3) := by decide +kernel
theorem dX9_init_15 : decode cX9_init 15 = .ok (.aload_n 0, 1) := by decide +kernel
theorem dX9_init_16 : decode cX9_init 16 = .ok (.new 18, 3) := by decide +kernel
theorem dX9_init_19 : decode cX9_init 19 = .ok (.dup, 1) := by decide +kernel
theorem dX9_init_20 : decode cX9_init 20 = .ok (.invokespecial 20, 3) := by decide +kernel
theorem dX9_init_23 : decode cX9_init 23 = .ok (.putfield 21, 3) := by decide +kernel
theorem dX9_init_26 : decode cX9_init 26 = .ok (.aload_n 0, 1) := by decide +kernel
theorem dX9_init_27 : decode cX9_init 27 = .ok (.bipush 8, 2) := by decide +kernel
theorem dX9_init_29 : decode cX9_init 29 = .ok (.anewarray 18, 3) := by decide +kernel
theorem dX9_init_32 : decode cX9_init 32 = .ok (.putfield 25, 3) := by decide +kernel
theorem dX9_init_35 : decode cX9_init 35 = .ok (.iconst 0, 1) := by decide +kernel
theorem dX9_init_36 : decode cX9_init 36 = .ok (.istore_n 1, 1) := by decide +kernel
theorem dX9_init_37 : decode cX9_init 37 = .ok (.iload_n 1, 1) := by decide +kernel
theorem dX9_init_38 : decode cX9_init 38 = .ok (.aload_n 0, 1) := by decide +kernel
theorem dX9_init_39 : decode cX9_init 39 = .ok (.getfield 25, 3) := by decide +kernel
theorem dX9_init_42 : decode cX9_init 42 = .ok (.arraylength, 1) := by decide +kernel
theorem dX9_init_43 : decode cX9_init 43 = .ok (.if_icmp .ge 22, 3) := by decide +kernel
theorem dX9_init_46 : decode cX9_init 46 = .ok (.aload_n 0, 1) := by decide +kernel
theorem dX9_init_47 : decode cX9_init 47 = .ok (.getfield 25, 3) := by decide +kernel
end
section
theorem dX9_init_50 : decode cX9_init 50 = .ok (.iload_n 1, 1) := by decide +kernel
theorem dX9_init_51 : decode cX9_init 51 = .ok (.new 18, 3) := by decide +kernel
theorem dX9_init_54 : decode cX9_init 54 = .ok (.dup, 1) := by decide +kernel
theorem dX9_init_55 : decode cX9_init 55 = .ok (.invokespecial 20, 3) := by decide +kernel
theorem dX9_init_58 : decode cX9_init 58 = .ok (.aastore, 1) := by decide +kernel
theorem dX9_init_59 : decode cX9_init 59 = .ok (.iinc 1 1, 3) := by decide +kernel
theorem dX9_init_62 : decode cX9_init 62 = .ok (.goto (-25), 3) := by decide +kernel
theorem dX9_init_65 : decode cX9_init 65 = .ok (.return_, 1) := by decide +kernel
theorem dX9_marksBehind_0 : decode cX9_marksBehind 0 = .ok (.aload_n 0, 1) := by decide +kernel
theorem dX9_marksBehind_1 : decode cX9_marksBehind 1 = .ok (.getfield 21, 3) := by decide +kernel
theorem dX9_marksBehind_4 : decode cX9_marksBehind 4 = .ok (.aload_n 2, 1) := by decide +kernel
theorem dX9_marksBehind_5 : decode cX9_marksBehind 5 = .ok (.invokevirtual 29, 3) := by decide +kernel
theorem dX9_marksBehind_8 : decode cX9_marksBehind 8 = .ok (.aload_n 0, 1) := by decide +kernel
theorem dX9_marksBehind_9 : decode cX9_marksBehind 9 = .ok (.getfield 12, 3) := by decide +kernel
theorem dX9_marksBehind_12 : decode cX9_marksBehind 12 = .ok (.aload_n 1, 1) := by decide +kernel
theorem dX9_marksBehind_13 : decode cX9_marksBehind 13 = .ok (.aload_n 0, 1) := by decide +kernel
theorem dX9_marksBehind_14 : decode cX9_marksBehind 14 = .ok (.getfield 21, 3) := by decide +kernel
theorem dX9_marksBehind_17 : decode cX9_marksBehind 17 = .ok (.iload_n 3, 1) := by decide +kernel
theorem dX9_marksBehind_18 : decode cX9_marksBehind 18 = .ok (.iload 4, 2) := by decide +kernel
theorem dX9_marksBehind_20 : decode cX9_marksBehind 20 = .ok (.invokevirtual 33, 3) := by decide +kernel
theorem dX9_marksBehind_23 : decode cX9_marksBehind 23 = .ok (.aload_n 0, 1) := by decide +kernel
theorem dX9_marksBehind_24 : decode cX9_marksBehind 24 = .ok (.getfield 21, 3) := by decide +kernel
theorem dX9_marksBehind_27 : decode cX9_marksBehind 27 = .ok (.invokevirtual 37, 3) := by decide +kernel
theorem dX9_marksBehind_30 : decode cX9_marksBehind 30 = .ok (.ireturn, 1) := by decide +kernel
theorem dX9_daysTillMarks_0 : decode cX9_daysTillMarks 0 = .ok (.aload_n 0, 1) := by decide +kernel
theorem dX9_daysTillMarks_1 : decode cX9_daysTillMarks 1 = .ok (.getfield 21, 3) := by decide +kernel
theorem dX9_daysTillMarks_4 : decode cX9_daysTillMarks 4 = .ok (.aload_n 2, 1) := by decide +kernel
theorem dX9_daysTillMarks_5 : decode cX9_daysTillMarks 5 = .ok (.invokevirtual 29, 3) := by decide +kernel
theorem dX9_daysTillMarks_8 : decode cX9_daysTillMarks 8 = .ok (.iconst 0, 1) := by decide +kernel
theorem dX9_daysTillMarks_9 : decode cX9_daysTillMarks 9 = .ok (.istore 5, 2) := by decide +kernel
theorem dX9_daysTillMarks_11 : decode cX9_daysTillMarks 11 = .ok (.iload 5, 2) := by decide +kernel
theorem dX9_daysTillMarks_13 : decode cX9_daysTillMarks 13 = .ok (.bipush 60, 2) := by decide +kernel
theorem dX9_daysTillMarks_15 : decode cX9_daysTillMarks 15 = .ok (.if_icmp .gt 37, 3) := by decide +kernel
theorem dX9_daysTillMarks_18 : decode cX9_daysTillMarks 18 = .ok (.aload_n 0, 1) := by decide +kernel
theorem dX9_daysTillMarks_19 : decode cX9_daysTillMarks 19 = .ok (.getfield 21, 3) := by decide +kernel
theorem dX9_daysTillMarks_22 : decode cX9_daysTillMarks 22 = .ok (.invokevirtual 41, 3) := by decide +kernel
theorem dX9_daysTillMarks_25 : decode cX9_daysTillMarks 25 = .ok (.iload_n 3, 1) := by decide +kernel
theorem dX9_daysTillMarks_26 : decode cX9_daysTillMarks 26 = .ok (.if_icmp .lt 6, 3) := by decide +kernel
theorem dX9_daysTillMarks_29 : decode cX9_daysTillMarks 29 = .ok (.iload 5, 2) := by decide +kernel
theorem dX9_daysTillMarks_31 : decode cX9_daysTillMarks 31 = .ok (.ireturn, 1) := by decide +kernel
theorem dX9_daysTillMarks_32 : decode cX9_daysTillMarks 32 = .ok (.aload_n 0, 1) := by decide +kernel
theorem dX9_daysTillMarks_33 : decode cX9_daysTillMarks 33 = .ok (.getfield 12, 3) := by decide +kernel
theorem dX9_daysTillMarks_36 : decode cX9_daysTillMarks 36 = .ok (.aload_n 1, 1) := by decide +kernel
theorem dX9_daysTillMarks_37 : decode cX9_daysTillMarks 37 = .ok (.aload_n 0, 1) := by decide +kernel
theorem dX9_daysTillMarks_38 : decode cX9_daysTillMarks 38 = .ok (.getfield 21, 3) := by decide +kernel
theorem dX9_daysTillMarks_41 : decode cX9_daysTillMarks 41 = .ok (.iload 4, 2) := by decide +kernel
theorem dX9_daysTillMarks_43 : decode cX9_daysTillMarks 43 = .ok (.invokevirtual 44, 3) := by decide +kernel
theorem dX9_daysTillMarks_46 : decode cX9_daysTillMarks 46 = .ok (.iinc 5 1, 3) := by decide +kernel
theorem dX9_daysTillMarks_49 : decode cX9_daysTillMarks 49 = .ok (.goto (-38), 3) := by decide +kernel
theorem dX9_daysTillMarks_52 : decode cX9_daysTillMarks 52 = .ok (.iconst (-1), 1) := by decide +kernel
theorem dX9_daysTillMarks_53 : decode cX9_daysTillMarks 53 = .ok (.ireturn, 1) := by decide +kernel
theorem dX9_daysTillDry_0 : decode cX9_daysTillDry 0 = .ok (.aload_n 0, 1) := by decide +kernel
theorem dX9_daysTillDry_1 : decode cX9_daysTillDry 1 = .ok (.getfield 21, 3) := by decide +kernel
theorem dX9_daysTillDry_4 : decode cX9_daysTillDry 4 = .ok (.aload_n 2, 1) := by decide +kernel
theorem dX9_daysTillDry_5 : decode cX9_daysTillDry 5 = .ok (.invokevirtual 29, 3) := by decide +kernel
theorem dX9_daysTillDry_8 : decode cX9_daysTillDry 8 = .ok (.iconst 0, 1) := by decide +kernel
theorem dX9_daysTillDry_9 : decode cX9_daysTillDry 9 = .ok (.istore_n 3, 1) := by decide +kernel
theorem dX9_daysTillDry_10 : decode cX9_daysTillDry 10 = .ok (.iload_n 3, 1) := by decide +kernel
theorem dX9_daysTillDry_11 : decode cX9_daysTillDry 11 = .ok (.bipush 60, 2) := by decide +kernel
theorem dX9_daysTillDry_13 : decode cX9_daysTillDry 13 = .ok (.if_icmp .gt 34, 3) := by decide +kernel
theorem dX9_daysTillDry_16 : decode cX9_daysTillDry 16 = .ok (.aload_n 0, 1) := by decide +kernel
theorem dX9_daysTillDry_17 : decode cX9_daysTillDry 17 = .ok (.getfield 21, 3) := by decide +kernel
theorem dX9_daysTillDry_20 : decode cX9_daysTillDry 20 = .ok (.invokevirtual 48, 3) := by decide +kernel
theorem dX9_daysTillDry_23 : decode cX9_daysTillDry 23 = .ok (.ifCond .ne 5, 3) := by decide +kernel
theorem dX9_daysTillDry_26 : decode cX9_daysTillDry 26 = .ok (.iload_n 3, 1) := by decide +kernel
theorem dX9_daysTillDry_27 : decode cX9_daysTillDry 27 = .ok (.ireturn, 1) := by decide +kernel
theorem dX9_daysTillDry_28 : decode cX9_daysTillDry 28 = .ok (.aload_n 0, 1) := by decide +kernel
theorem dX9_daysTillDry_29 : decode cX9_daysTillDry 29 = .ok (.getfield 12, 3) := by decide +kernel
theorem dX9_daysTillDry_32 : decode cX9_daysTillDry 32 = .ok (.aload_n 1, 1) := by decide +kernel
theorem dX9_daysTillDry_33 : decode cX9_daysTillDry 33 = .ok (.aload_n 0, 1) := by decide +kernel
theorem dX9_daysTillDry_34 : decode cX9_daysTillDry 34 = .ok (.getfield 21, 3) := by decide +kernel
theorem dX9_daysTillDry_37 : decode cX9_daysTillDry 37 = .ok (.iconst 0, 1) := by decide +kernel
theorem dX9_daysTillDry_38 : decode cX9_daysTillDry 38 = .ok (.invokevirtual 44, 3) := by decide +kernel
theorem dX9_daysTillDry_41 : decode cX9_daysTillDry 41 = .ok (.iinc 3 1, 3) := by decide +kernel
theorem dX9_daysTillDry_44 : decode cX9_daysTillDry 44 = .ok (.goto (-34), 3) := by decide +kernel
theorem dX9_daysTillDry_47 : decode cX9_daysTillDry 47 = .ok (.iconst (-1), 1) := by decide +kernel
theorem dX9_daysTillDry_48 : decode cX9_daysTillDry 48 = .ok (.ireturn, 1) := by decide +kernel
theorem dX9_leadBest_0 : decode cX9_leadBest 0 = .ok (.aload_n 0, 1) := by decide +kernel
theorem dX9_leadBest_1 : decode cX9_leadBest 1 = .ok (.iconst (-1), 1) := by decide +kernel
theorem dX9_leadBest_2 : decode cX9_leadBest 2 = .ok (.putfield 51, 3) := by decide +kernel
theorem dX9_leadBest_5 : decode cX9_leadBest 5 = .ok (.aload_n 0, 1) := by decide +kernel
theorem dX9_leadBest_6 : decode cX9_leadBest 6 = .ok (.iconst (-1), 1) := by decide +kernel
theorem dX9_leadBest_7 : decode cX9_leadBest 7 = .ok (.putfield 55, 3) := by decide +kernel
theorem dX9_leadBest_10 : decode cX9_leadBest 10 = .ok (.iconst 0, 1) := by decide +kernel
theorem dX9_leadBest_11 : decode cX9_leadBest 11 = .ok (.istore 7, 2) := by decide +kernel
theorem dX9_leadBest_13 : decode cX9_leadBest 13 = .ok (.iload 7, 2) := by decide +kernel
theorem dX9_leadBest_15 : decode cX9_leadBest 15 = .ok (.aload_n 1, 1) := by decide +kernel
theorem dX9_leadBest_16 : decode cX9_leadBest 16 = .ok (.invokevirtual 58, 3) := by decide +kernel
theorem dX9_leadBest_19 : decode cX9_leadBest 19 = .ok (.if_icmp .ge 82, 3) := by decide +kernel
theorem dX9_leadBest_22 : decode cX9_leadBest 22 = .ok (.aload_n 0, 1) := by decide +kernel
theorem dX9_leadBest_23 : decode cX9_leadBest 23 = .ok (.getfield 21, 3) := by decide +kernel
theorem dX9_leadBest_26 : decode cX9_leadBest 26 = .ok (.aload_n 2, 1) := by decide +kernel
theorem dX9_leadBest_27 : decode cX9_leadBest 27 = .ok (.invokevirtual 29, 3) := by decide +kernel
theorem dX9_leadBest_30 : decode cX9_leadBest 30 = .ok (.aload_n 0, 1) := by decide +kernel
theorem dX9_leadBest_31 : decode cX9_leadBest 31 = .ok (.getfield 21, 3) := by decide +kernel
theorem dX9_leadBest_34 : decode cX9_leadBest 34 = .ok (.getfield 63, 3) := by decide +kernel
theorem dX9_leadBest_37 : decode cX9_leadBest 37 = .ok (.iload_n 3, 1) := by decide +kernel
theorem dX9_leadBest_38 : decode cX9_leadBest 38 = .ok (.iload 7, 2) := by decide +kernel
theorem dX9_leadBest_40 : decode cX9_leadBest 40 = .ok (.invokestatic 67, 3) := by decide +kernel
theorem dX9_leadBest_43 : decode cX9_leadBest 43 = .ok (.aload_n 0, 1) := by decide +kernel
theorem dX9_leadBest_44 : decode cX9_leadBest 44 = .ok (.getfield 12, 3) := by decide +kernel
theorem dX9_leadBest_47 : decode cX9_leadBest 47 = .ok (.aload_n 1, 1) := by decide +kernel
theorem dX9_leadBest_48 : decode cX9_leadBest 48 = .ok (.aload_n 0, 1) := by decide +kernel
theorem dX9_leadBest_49 : decode cX9_leadBest 49 = .ok (.getfield 21, 3) := by decide +kernel
theorem dX9_leadBest_52 : decode cX9_leadBest 52 = .ok (.iload 5, 2) := by decide +kernel
theorem dX9_leadBest_54 : decode cX9_leadBest 54 = .ok (.iload 6, 2) := by decide +kernel
theorem dX9_leadBest_56 : decode cX9_leadBest 56 = .ok (.invokevirtual 33, 3) := by decide +kernel
theorem dX9_leadBest_59 : decode cX9_leadBest 59 = .ok (.aload_n 1, 1) := by decide +kernel
theorem dX9_leadBest_60 : decode cX9_leadBest 60 = .ok (.aload_n 0, 1) := by decide +kernel
theorem dX9_leadBest_61 : decode cX9_leadBest 61 = .ok (.getfield 21, 3) := by decide +kernel
theorem dX9_leadBest_64 : decode cX9_leadBest 64 = .ok (.invokevirtual 37, 3) := by decide +kernel
theorem dX9_leadBest_67 : decode cX9_leadBest 67 = .ok (.iload 4, 2) := by decide +kernel
theorem dX9_leadBest_69 : decode cX9_leadBest 69 = .ok (.invokestatic 71, 3) := by decide +kernel
theorem dX9_leadBest_72 : decode cX9_leadBest 72 = .ok (.istore 8, 2) := by decide +kernel
theorem dX9_leadBest_74 : decode cX9_leadBest 74 = .ok (.iload 8, 2) := by decide +kernel
theorem dX9_leadBest_76 : decode cX9_leadBest 76 = .ok (.aload_n 0, 1) := by decide +kernel
theorem dX9_leadBest_77 : decode cX9_leadBest 77 = .ok (.getfield 55, 3) := by decide +kernel
theorem dX9_leadBest_80 : decode cX9_leadBest 80 = .ok (.if_icmp .le 15, 3) := by decide +kernel
theorem dX9_leadBest_83 : decode cX9_leadBest 83 = .ok (.aload_n 0, 1) := by decide +kernel
theorem dX9_leadBest_84 : decode cX9_leadBest 84 = .ok (.iload 8, 2) := by decide +kernel
theorem dX9_leadBest_86 : decode cX9_leadBest 86 = .ok (.putfield 55, 3) := by decide +kernel
theorem dX9_leadBest_89 : decode cX9_leadBest 89 = .ok (.aload_n 0, 1) := by decide +kernel
theorem dX9_leadBest_90 : decode cX9_leadBest 90 = .ok (.iload 7, 2) := by decide +kernel
theorem dX9_leadBest_92 : decode cX9_leadBest 92 = .ok (.putfield 51, 3) := by decide +kernel
theorem dX9_leadBest_95 : decode cX9_leadBest 95 = .ok (.iinc 7 1, 3) := by decide +kernel
theorem dX9_leadBest_98 : decode cX9_leadBest 98 = .ok (.goto (-85), 3) := by decide +kernel
theorem dX9_leadBest_101 : decode cX9_leadBest 101 = .ok (.return_, 1) := by decide +kernel
theorem dX9_rainsThatShow_0 : decode cX9_rainsThatShow 0 = .ok (.iconst 0, 1) := by decide +kernel
theorem dX9_rainsThatShow_1 : decode cX9_rainsThatShow 1 = .ok (.istore 4, 2) := by decide +kernel
theorem dX9_rainsThatShow_3 : decode cX9_rainsThatShow 3 = .ok (.iconst 0, 1) := by decide +kernel
theorem dX9_rainsThatShow_4 : decode cX9_rainsThatShow 4 = .ok (.istore 5, 2) := by decide +kernel
theorem dX9_rainsThatShow_6 : decode cX9_rainsThatShow 6 = .ok (.iload 5, 2) := by decide +kernel
theorem dX9_rainsThatShow_8 : decode cX9_rainsThatShow 8 = .ok (.bipush 9, 2) := by decide +kernel
theorem dX9_rainsThatShow_10 : decode cX9_rainsThatShow 10 = .ok (.if_icmp .gt 31, 3) := by decide +kernel
theorem dX9_rainsThatShow_13 : decode cX9_rainsThatShow 13 = .ok (.aload_n 0, 1) := by decide +kernel
theorem dX9_rainsThatShow_14 : decode cX9_rainsThatShow 14 = .ok (.aload_n 1, 1) := by decide +kernel
theorem dX9_rainsThatShow_15 : decode cX9_rainsThatShow 15 = .ok (.aload_n 2, 1) := by decide +kernel
theorem dX9_rainsThatShow_16 : decode cX9_rainsThatShow 16 = .ok (.iconst 1, 1) := by decide +kernel
theorem dX9_rainsThatShow_17 : decode cX9_rainsThatShow 17 = .ok (.iload 5, 2) := by decide +kernel
theorem dX9_rainsThatShow_19 : decode cX9_rainsThatShow 19 = .ok (.invokevirtual 77, 3) := by decide +kernel
theorem dX9_rainsThatShow_22 : decode cX9_rainsThatShow 22 = .ok (.iload_n 3, 1) := by decide +kernel
theorem dX9_rainsThatShow_23 : decode cX9_rainsThatShow 23 = .ok (.if_icmp .ne 12, 3) := by decide +kernel
theorem dX9_rainsThatShow_26 : decode cX9_rainsThatShow 26 = .ok (.iload 4, 2) := by decide +kernel
theorem dX9_rainsThatShow_28 : decode cX9_rainsThatShow 28 = .ok (.iconst 1, 1) := by decide +kernel
theorem dX9_rainsThatShow_29 : decode cX9_rainsThatShow 29 = .ok (.iload 5, 2) := by decide +kernel
theorem dX9_rainsThatShow_31 : decode cX9_rainsThatShow 31 = .ok (.ishl, 1) := by decide +kernel
theorem dX9_rainsThatShow_32 : decode cX9_rainsThatShow 32 = .ok (.ior, 1) := by decide +kernel
theorem dX9_rainsThatShow_33 : decode cX9_rainsThatShow 33 = .ok (.istore 4, 2) := by decide +kernel
theorem dX9_rainsThatShow_35 : decode cX9_rainsThatShow 35 = .ok (.iinc 5 1, 3) := by decide +kernel
theorem dX9_rainsThatShow_38 : decode cX9_rainsThatShow 38 = .ok (.goto (-32), 3) := by decide +kernel
theorem dX9_rainsThatShow_41 : decode cX9_rainsThatShow 41 = .ok (.iload 4, 2) := by decide +kernel
theorem dX9_rainsThatShow_43 : decode cX9_rainsThatShow 43 = .ok (.ireturn, 1) := by decide +kernel
theorem dX9_rainThatLeavesFewest_0 : decode cX9_rainThatLeavesFewest 0 = .ok (.aload_n 0, 1) := by decide +kernel
theorem dX9_rainThatLeavesFewest_1 : decode cX9_rainThatLeavesFewest 1 = .ok (.iconst (-1), 1) := by decide +kernel
theorem dX9_rainThatLeavesFewest_2 : decode cX9_rainThatLeavesFewest 2 = .ok (.putfield 51, 3) := by decide +kernel
theorem dX9_rainThatLeavesFewest_5 : decode cX9_rainThatLeavesFewest 5 = .ok (.aload_n 0, 1) := by decide +kernel
theorem dX9_rainThatLeavesFewest_6 : decode cX9_rainThatLeavesFewest 6 = .ok (.bipush 6, 2) := by decide +kernel
theorem dX9_rainThatLeavesFewest_8 : decode cX9_rainThatLeavesFewest 8 = .ok (.putfield 55, 3) := by decide +kernel
theorem dX9_rainThatLeavesFewest_11 : decode cX9_rainThatLeavesFewest 11 = .ok (.iconst 0, 1) := by decide +kernel
theorem dX9_rainThatLeavesFewest_12 : decode cX9_rainThatLeavesFewest 12 = .ok (.istore_n 3, 1) := by decide +kernel
theorem dX9_rainThatLeavesFewest_13 : decode cX9_rainThatLeavesFewest 13 = .ok (.iload_n 3, 1) := by decide +kernel
theorem dX9_rainThatLeavesFewest_14 : decode cX9_rainThatLeavesFewest 14 = .ok (.bipush 9, 2) := by decide +kernel
theorem dX9_rainThatLeavesFewest_16 : decode cX9_rainThatLeavesFewest 16 = .ok (.if_icmp .gt 46, 3) := by decide +kernel
theorem dX9_rainThatLeavesFewest_19 : decode cX9_rainThatLeavesFewest 19 = .ok (.aload_n 1, 1) := by decide +kernel
theorem dX9_rainThatLeavesFewest_20 : decode cX9_rainThatLeavesFewest 20 = .ok (.aload_n 0, 1) := by decide +kernel
theorem dX9_rainThatLeavesFewest_21 : decode cX9_rainThatLeavesFewest 21 = .ok (.aload_n 1, 1) := by decide +kernel
theorem dX9_rainThatLeavesFewest_22 : decode cX9_rainThatLeavesFewest 22 = .ok (.aload_n 2, 1) := by decide +kernel
theorem dX9_rainThatLeavesFewest_23 : decode cX9_rainThatLeavesFewest 23 = .ok (.iconst 1, 1) := by decide +kernel
theorem dX9_rainThatLeavesFewest_24 : decode cX9_rainThatLeavesFewest 24 = .ok (.iload_n 3, 1) := by decide +kernel
theorem dX9_rainThatLeavesFewest_25 : decode cX9_rainThatLeavesFewest 25 = .ok (.invokevirtual 77, 3) := by decide +kernel
theorem dX9_rainThatLeavesFewest_28 : decode cX9_rainThatLeavesFewest 28 = .ok (.invokestatic 81, 3) := by decide +kernel
theorem dX9_rainThatLeavesFewest_31 : decode cX9_rainThatLeavesFewest 31 = .ok (.invokestatic 85, 3) := by decide +kernel
theorem dX9_rainThatLeavesFewest_34 : decode cX9_rainThatLeavesFewest 34 = .ok (.istore 4, 2) := by decide +kernel
theorem dX9_rainThatLeavesFewest_36 : decode cX9_rainThatLeavesFewest 36 = .ok (.iload 4, 2) := by decide +kernel
theorem dX9_rainThatLeavesFewest_38 : decode cX9_rainThatLeavesFewest 38 = .ok (.aload_n 0, 1) := by decide +kernel
theorem dX9_rainThatLeavesFewest_39 : decode cX9_rainThatLeavesFewest 39 = .ok (.getfield 55, 3) := by decide +kernel
theorem dX9_rainThatLeavesFewest_42 : decode cX9_rainThatLeavesFewest 42 = .ok (.if_icmp .ge 14, 3) := by decide +kernel
theorem dX9_rainThatLeavesFewest_45 : decode cX9_rainThatLeavesFewest 45 = .ok (.aload_n 0, 1) := by decide +kernel
theorem dX9_rainThatLeavesFewest_46 : decode cX9_rainThatLeavesFewest 46 = .ok (.iload 4, 2) := by decide +kernel
theorem dX9_rainThatLeavesFewest_48 : decode cX9_rainThatLeavesFewest 48 = .ok (.putfield 55, 3) := by decide +kernel
theorem dX9_rainThatLeavesFewest_51 : decode cX9_rainThatLeavesFewest 51 = .ok (.aload_n 0, 1) := by decide +kernel
theorem dX9_rainThatLeavesFewest_52 : decode cX9_rainThatLeavesFewest 52 = .ok (.iload_n 3, 1) := by decide +kernel
theorem dX9_rainThatLeavesFewest_53 : decode cX9_rainThatLeavesFewest 53 = .ok (.putfield 51, 3) := by decide +kernel
theorem dX9_rainThatLeavesFewest_56 : decode cX9_rainThatLeavesFewest 56 = .ok (.iinc 3 1, 3) := by decide +kernel
theorem dX9_rainThatLeavesFewest_59 : decode cX9_rainThatLeavesFewest 59 = .ok (.goto (-46), 3) := by decide +kernel
theorem dX9_rainThatLeavesFewest_62 : decode cX9_rainThatLeavesFewest 62 = .ok (.return_, 1) := by decide +kernel
theorem dX9_lookMost_0 : decode cX9_lookMost 0 = .ok (.aload_n 0, 1) := by decide +kernel
theorem dX9_lookMost_1 : decode cX9_lookMost 1 = .ok (.iload_n 3, 1) := by decide +kernel
theorem dX9_lookMost_2 : decode cX9_lookMost 2 = .ok (.putfield 91, 3) := by decide +kernel
theorem dX9_lookMost_5 : decode cX9_lookMost 5 = .ok (.aload_n 0, 1) := by decide +kernel
theorem dX9_lookMost_6 : decode cX9_lookMost 6 = .ok (.iload 4, 2) := by decide +kernel
theorem dX9_lookMost_8 : decode cX9_lookMost 8 = .ok (.putfield 94, 3) := by decide +kernel
theorem dX9_lookMost_11 : decode cX9_lookMost 11 = .ok (.aload_n 0, 1) := by decide +kernel
theorem dX9_lookMost_12 : decode cX9_lookMost 12 = .ok (.iload 5, 2) := by decide +kernel
theorem dX9_lookMost_14 : decode cX9_lookMost 14 = .ok (.putfield 97, 3) := by decide +kernel
theorem dX9_lookMost_17 : decode cX9_lookMost 17 = .ok (.aload_n 0, 1) := by decide +kernel
theorem dX9_lookMost_18 : decode cX9_lookMost 18 = .ok (.iconst (-1), 1) := by decide +kernel
theorem dX9_lookMost_19 : decode cX9_lookMost 19 = .ok (.putfield 51, 3) := by decide +kernel
theorem dX9_lookMost_22 : decode cX9_lookMost 22 = .ok (.aload_n 0, 1) := by decide +kernel
theorem dX9_lookMost_23 : decode cX9_lookMost 23 = .ok (.iconst (-1), 1) := by decide +kernel
theorem dX9_lookMost_24 : decode cX9_lookMost 24 = .ok (.putfield 55, 3) := by decide +kernel
theorem dX9_lookMost_27 : decode cX9_lookMost 27 = .ok (.aload_n 0, 1) := by decide +kernel
theorem dX9_lookMost_28 : decode cX9_lookMost 28 = .ok (.aload_n 1, 1) := by decide +kernel
theorem dX9_lookMost_29 : decode cX9_lookMost 29 = .ok (.aload_n 2, 1) := by decide +kernel
theorem dX9_lookMost_30 : decode cX9_lookMost 30 = .ok (.iconst 0, 1) := by decide +kernel
theorem dX9_lookMost_31 : decode cX9_lookMost 31 = .ok (.iconst 0, 1) := by decide +kernel
theorem dX9_lookMost_32 : decode cX9_lookMost 32 = .ok (.invokestatic 100, 3) := by decide +kernel
theorem dX9_lookMost_35 : decode cX9_lookMost 35 = .ok (.return_, 1) := by decide +kernel
theorem dX9_tryLooks_0 : decode cX9_tryLooks 0 = .ok (.iload_n 3, 1) := by decide +kernel
theorem dX9_tryLooks_1 : decode cX9_tryLooks 1 = .ok (.aload_n 0, 1) := by decide +kernel
theorem dX9_tryLooks_2 : decode cX9_tryLooks 2 = .ok (.getfield 91, 3) := by decide +kernel
theorem dX9_tryLooks_5 : decode cX9_tryLooks 5 = .ok (.if_icmp .ge 12, 3) := by decide +kernel
theorem dX9_tryLooks_8 : decode cX9_tryLooks 8 = .ok (.iload_n 3, 1) := by decide +kernel
theorem dX9_tryLooks_9 : decode cX9_tryLooks 9 = .ok (.aload_n 0, 1) := by decide +kernel
theorem dX9_tryLooks_10 : decode cX9_tryLooks 10 = .ok (.getfield 25, 3) := by decide +kernel
theorem dX9_tryLooks_13 : decode cX9_tryLooks 13 = .ok (.arraylength, 1) := by decide +kernel
theorem dX9_tryLooks_14 : decode cX9_tryLooks 14 = .ok (.if_icmp .lt 11, 3) := by decide +kernel
theorem dX9_tryLooks_17 : decode cX9_tryLooks 17 = .ok (.aload_n 0, 1) := by decide +kernel
theorem dX9_tryLooks_18 : decode cX9_tryLooks 18 = .ok (.aload_n 2, 1) := by decide +kernel
theorem dX9_tryLooks_19 : decode cX9_tryLooks 19 = .ok (.iload 4, 2) := by decide +kernel
theorem dX9_tryLooks_21 : decode cX9_tryLooks 21 = .ok (.invokevirtual 104, 3) := by decide +kernel
theorem dX9_tryLooks_24 : decode cX9_tryLooks 24 = .ok (.return_, 1) := by decide +kernel
theorem dX9_tryLooks_25 : decode cX9_tryLooks 25 = .ok (.aload_n 0, 1) := by decide +kernel
theorem dX9_tryLooks_26 : decode cX9_tryLooks 26 = .ok (.getfield 25, 3) := by decide +kernel
theorem dX9_tryLooks_29 : decode cX9_tryLooks 29 = .ok (.iload_n 3, 1) := by decide +kernel
theorem dX9_tryLooks_30 : decode cX9_tryLooks 30 = .ok (.aaload, 1) := by decide +kernel
theorem dX9_tryLooks_31 : decode cX9_tryLooks 31 = .ok (.astore 5, 2) := by decide +kernel
theorem dX9_tryLooks_33 : decode cX9_tryLooks 33 = .ok (.aload 5, 2) := by decide +kernel
theorem dX9_tryLooks_35 : decode cX9_tryLooks 35 = .ok (.aload_n 2, 1) := by decide +kernel
theorem dX9_tryLooks_36 : decode cX9_tryLooks 36 = .ok (.invokevirtual 29, 3) := by decide +kernel
theorem dX9_tryLooks_39 : decode cX9_tryLooks 39 = .ok (.aload_n 0, 1) := by decide +kernel
theorem dX9_tryLooks_40 : decode cX9_tryLooks 40 = .ok (.getfield 12, 3) := by decide +kernel
theorem dX9_tryLooks_43 : decode cX9_tryLooks 43 = .ok (.aload_n 1, 1) := by decide +kernel
theorem dX9_tryLooks_44 : decode cX9_tryLooks 44 = .ok (.aload 5, 2) := by decide +kernel
theorem dX9_tryLooks_46 : decode cX9_tryLooks 46 = .ok (.aload_n 0, 1) := by decide +kernel
theorem dX9_tryLooks_47 : decode cX9_tryLooks 47 = .ok (.getfield 94, 3) := by decide +kernel
theorem dX9_tryLooks_50 : decode cX9_tryLooks 50 = .ok (.invokevirtual 44, 3) := by decide +kernel
theorem dX9_tryLooks_53 : decode cX9_tryLooks 53 = .ok (.aload_n 0, 1) := by decide +kernel
theorem dX9_tryLooks_54 : decode cX9_tryLooks 54 = .ok (.aload_n 1, 1) := by decide +kernel
theorem dX9_tryLooks_55 : decode cX9_tryLooks 55 = .ok (.aload 5, 2) := by decide +kernel
theorem dX9_tryLooks_57 : decode cX9_tryLooks 57 = .ok (.iload_n 3, 1) := by decide +kernel
theorem dX9_tryLooks_58 : decode cX9_tryLooks 58 = .ok (.iconst 1, 1) := by decide +kernel
theorem dX9_tryLooks_59 : decode cX9_tryLooks 59 = .ok (.iadd, 1) := by decide +kernel
theorem dX9_tryLooks_60 : decode cX9_tryLooks 60 = .ok (.iload 4, 2) := by decide +kernel
theorem dX9_tryLooks_62 : decode cX9_tryLooks 62 = .ok (.invokestatic 100, 3) := by decide +kernel
theorem dX9_tryLooks_65 : decode cX9_tryLooks 65 = .ok (.aload 5, 2) := by decide +kernel
theorem dX9_tryLooks_67 : decode cX9_tryLooks 67 = .ok (.aload_n 1, 1) := by decide +kernel
theorem dX9_tryLooks_68 : decode cX9_tryLooks 68 = .ok (.invokevirtual 108, 3) := by decide +kernel
theorem dX9_tryLooks_71 : decode cX9_tryLooks 71 = .ok (.aload_n 0, 1) := by decide +kernel
theorem dX9_tryLooks_72 : decode cX9_tryLooks 72 = .ok (.aload_n 1, 1) := by decide +kernel
theorem dX9_tryLooks_73 : decode cX9_tryLooks 73 = .ok (.aload 5, 2) := by decide +kernel
theorem dX9_tryLooks_75 : decode cX9_tryLooks 75 = .ok (.iload_n 3, 1) := by decide +kernel
theorem dX9_tryLooks_76 : decode cX9_tryLooks 76 = .ok (.iconst 1, 1) := by decide +kernel
theorem dX9_tryLooks_77 : decode cX9_tryLooks 77 = .ok (.iadd, 1) := by decide +kernel
theorem dX9_tryLooks_78 : decode cX9_tryLooks 78 = .ok (.iload 4, 2) := by decide +kernel
theorem dX9_tryLooks_80 : decode cX9_tryLooks 80 = .ok (.iconst 1, 1) := by decide +kernel
theorem dX9_tryLooks_81 : decode cX9_tryLooks 81 = .ok (.iload_n 3, 1) := by decide +kernel
theorem dX9_tryLooks_82 : decode cX9_tryLooks 82 = .ok (.ishl, 1) := by decide +kernel
theorem dX9_tryLooks_83 : decode cX9_tryLooks 83 = .ok (.ior, 1) := by decide +kernel
theorem dX9_tryLooks_84 : decode cX9_tryLooks 84 = .ok (.invokestatic 100, 3) := by decide +kernel
theorem dX9_tryLooks_87 : decode cX9_tryLooks 87 = .ok (.return_, 1) := by decide +kernel
theorem dX9_weigh_0 : decode cX9_weigh 0 = .ok (.iload_n 2, 1) := by decide +kernel
theorem dX9_weigh_1 : decode cX9_weigh 1 = .ok (.invokestatic 85, 3) := by decide +kernel
theorem dX9_weigh_4 : decode cX9_weigh 4 = .ok (.istore_n 3, 1) := by decide +kernel
theorem dX9_weigh_5 : decode cX9_weigh 5 = .ok (.iload_n 3, 1) := by decide +kernel
theorem dX9_weigh_6 : decode cX9_weigh 6 = .ok (.aload_n 0, 1) := by decide +kernel
theorem dX9_weigh_7 : decode cX9_weigh 7 = .ok (.getfield 55, 3) := by decide +kernel
theorem dX9_weigh_10 : decode cX9_weigh 10 = .ok (.if_icmp .gt 19, 3) := by decide +kernel
theorem dX9_weigh_13 : decode cX9_weigh 13 = .ok (.iload_n 3, 1) := by decide +kernel
theorem dX9_weigh_14 : decode cX9_weigh 14 = .ok (.aload_n 0, 1) := by decide +kernel
theorem dX9_weigh_15 : decode cX9_weigh 15 = .ok (.getfield 55, 3) := by decide +kernel
theorem dX9_weigh_18 : decode cX9_weigh 18 = .ok (.if_icmp .ne 15, 3) := by decide +kernel
theorem dX9_weigh_21 : decode cX9_weigh 21 = .ok (.iload_n 2, 1) := by decide +kernel
theorem dX9_weigh_22 : decode cX9_weigh 22 = .ok (.aload_n 0, 1) := by decide +kernel
theorem dX9_weigh_23 : decode cX9_weigh 23 = .ok (.getfield 51, 3) := by decide +kernel
theorem dX9_weigh_26 : decode cX9_weigh 26 = .ok (.if_icmp .ge 7, 3) := by decide +kernel
theorem dX9_weigh_29 : decode cX9_weigh 29 = .ok (.iconst 1, 1) := by decide +kernel
theorem dX9_weigh_30 : decode cX9_weigh 30 = .ok (.goto 4, 3) := by decide +kernel
theorem dX9_weigh_33 : decode cX9_weigh 33 = .ok (.iconst 0, 1) := by decide +kernel
theorem dX9_weigh_34 : decode cX9_weigh 34 = .ok (.istore 4, 2) := by decide +kernel
theorem dX9_weigh_36 : decode cX9_weigh 36 = .ok (.iload 4, 2) := by decide +kernel
theorem dX9_weigh_38 : decode cX9_weigh 38 = .ok (.ifCond .eq 24, 3) := by decide +kernel
theorem dX9_weigh_41 : decode cX9_weigh 41 = .ok (.aload_n 1, 1) := by decide +kernel
theorem dX9_weigh_42 : decode cX9_weigh 42 = .ok (.invokevirtual 41, 3) := by decide +kernel
theorem dX9_weigh_45 : decode cX9_weigh 45 = .ok (.aload_n 0, 1) := by decide +kernel
theorem dX9_weigh_46 : decode cX9_weigh 46 = .ok (.getfield 97, 3) := by decide +kernel
theorem dX9_weigh_49 : decode cX9_weigh 49 = .ok (.if_icmp .lt 13, 3) := by decide +kernel
theorem dX9_weigh_52 : decode cX9_weigh 52 = .ok (.aload_n 0, 1) := by decide +kernel
theorem dX9_weigh_53 : decode cX9_weigh 53 = .ok (.iload_n 3, 1) := by decide +kernel
theorem dX9_weigh_54 : decode cX9_weigh 54 = .ok (.putfield 55, 3) := by decide +kernel
theorem dX9_weigh_57 : decode cX9_weigh 57 = .ok (.aload_n 0, 1) := by decide +kernel
theorem dX9_weigh_58 : decode cX9_weigh 58 = .ok (.iload_n 2, 1) := by decide +kernel
theorem dX9_weigh_59 : decode cX9_weigh 59 = .ok (.putfield 51, 3) := by decide +kernel
theorem dX9_weigh_62 : decode cX9_weigh 62 = .ok (.return_, 1) := by decide +kernel
theorem dX10_init_0 : decode cX10_init 0 = .ok (.aload_n 0, 1) := by decide +kernel
theorem dX10_init_1 : decode cX10_init 1 = .ok (.invokespecial 1, 3) := by decide +kernel
theorem dX10_init_4 : decode cX10_init 4 = .ok (.aload_n 0, 1) := by decide +kernel
theorem dX10_init_5 : decode cX10_init 5 = .ok (.new 7, 3) := by decide +kernel
theorem dX10_init_8 : decode cX10_init 8 = .ok (.dup, 1) := by decide +kernel
theorem dX10_init_9 : decode cX10_init 9 = .ok (.invokespecial 9, 3) := by decide +kernel
theorem dX10_init_12 : decode cX10_init 12 = .ok (.putfield 10, 3) := by decide +kernel
theorem dX10_init_15 : decode cX10_init 15 = .ok (.aload_n 0, 1) := by decide +kernel
theorem dX10_init_16 : decode cX10_init 16 = .ok (.new 16, 3) := by decide +kernel
theorem dX10_init_19 : decode cX10_init 19 = .ok (.dup, 1) := by decide +kernel
theorem dX10_init_20 : decode cX10_init 20 = .ok (.invokespecial 18, 3) := by decide +kernel
theorem dX10_init_23 : decode cX10_init 23 = .ok (.putfield 19, 3) := by decide +kernel
theorem dX10_init_26 : decode cX10_init 26 = .ok (.aload_n 0, 1) := by decide +kernel
theorem dX10_init_27 : decode cX10_init 27 = .ok (.new 23, 3) := by decide +kernel
theorem dX10_init_30 : decode cX10_init 30 = .ok (.dup, 1) := by decide +kernel
theorem dX10_init_31 : decode cX10_init 31 = .ok (.invokespecial 25, 3) := by decide +kernel
theorem dX10_init_34 : decode cX10_init 34 = .ok (.putfield 26, 3) := by decide +kernel
theorem dX10_init_37 : decode cX10_init 37 = .ok (.aload_n 0, 1) := by decide +kernel
theorem dX10_init_38 : decode cX10_init 38 = .ok (.new 30, 3) := by decide +kernel
theorem dX10_init_41 : decode cX10_init 41 = .ok (.dup, 1) := by decide +kernel
theorem dX10_init_42 : decode cX10_init 42 = .ok (.invokespecial 32, 3) := by decide +kernel
theorem dX10_init_45 : decode cX10_init 45 = .ok (.putfield 33, 3) := by decide +kernel
theorem dX10_init_48 : decode cX10_init 48 = .ok (.aload_n 0, 1) := by decide +kernel
theorem dX10_init_49 : decode cX10_init 49 = .ok (.new 37, 3) := by decide +kernel
theorem dX10_init_52 : decode cX10_init 52 = .ok (.dup, 1) := by decide +kernel
theorem dX10_init_53 : decode cX10_init 53 = .ok (.invokespecial 39, 3) := by decide +kernel
theorem dX10_init_56 : decode cX10_init 56 = .ok (.putfield 40, 3) := by decide +kernel
theorem dX10_init_59 : decode cX10_init 59 = .ok (.aload_n 0, 1) := by decide +kernel
theorem dX10_init_60 : decode cX10_init 60 = .ok (.new 44, 3) := by decide +kernel
theorem dX10_init_63 : decode cX10_init 63 = .ok (.dup, 1) := by decide +kernel
theorem dX10_init_64 : decode cX10_init 64 = .ok (.invokespecial 46, 3) := by decide +kernel
theorem dX10_init_67 : decode cX10_init 67 = .ok (.putfield 47, 3) := by decide +kernel
theorem dX10_init_70 : decode cX10_init 70 = .ok (.aload_n 0, 1) := by decide +kernel
theorem dX10_init_71 : decode cX10_init 71 = .ok (.new 51, 3) := by decide +kernel
theorem dX10_init_74 : decode cX10_init 74 = .ok (.dup, 1) := by decide +kernel
theorem dX10_init_75 : decode cX10_init 75 = .ok (.invokespecial 53, 3) := by decide +kernel
theorem dX10_init_78 : decode cX10_init 78 = .ok (.putfield 54, 3) := by decide +kernel
theorem dX10_init_81 : decode cX10_init 81 = .ok (.aload_n 0, 1) := by decide +kernel
theorem dX10_init_82 : decode cX10_init 82 = .ok (.iconst 2, 1) := by decide +kernel
theorem dX10_init_83 : decode cX10_init 83 = .ok (.anewarray 58, 3) := by decide +kernel
theorem dX10_init_86 : decode cX10_init 86 = .ok (.putfield 60, 3) := by decide +kernel
theorem dX10_init_89 : decode cX10_init 89 = .ok (.aload_n 0, 1) := by decide +kernel
theorem dX10_init_90 : decode cX10_init 90 = .ok (.new 64, 3) := by decide +kernel
theorem dX10_init_93 : decode cX10_init 93 = .ok (.dup, 1) := by decide +kernel
theorem dX10_init_94 : decode cX10_init 94 = .ok (.invokespecial 66, 3) := by decide +kernel
theorem dX10_init_97 : decode cX10_init 97 = .ok (.putfield 67, 3) := by decide +kernel
theorem dX10_init_100 : decode cX10_init 100 = .ok (.aload_n 0, 1) := by decide +kernel
theorem dX10_init_101 : decode cX10_init 101 = .ok (.new 64, 3) := by decide +kernel
theorem dX10_init_104 : decode cX10_init 104 = .ok (.dup, 1) := by decide +kernel
theorem dX10_init_105 : decode cX10_init 105 = .ok (.invokespecial 66, 3) := by decide +kernel
theorem dX10_init_108 : decode cX10_init 108 = .ok (.putfield 71, 3) := by decide +kernel
theorem dX10_init_111 : decode cX10_init 111 = .ok (.iconst 0, 1) := by decide +kernel
theorem dX10_init_112 : decode cX10_init 112 = .ok (.istore_n 1, 1) := by decide +kernel
theorem dX10_init_113 : decode cX10_init 113 = .ok (.iload_n 1, 1) := by decide +kernel
theorem dX10_init_114 : decode cX10_init 114 = .ok (.aload_n 0, 1) := by decide +kernel
theorem dX10_init_115 : decode cX10_init 115 = .ok (.getfield 60, 3) := by decide +kernel
theorem dX10_init_118 : decode cX10_init 118 = .ok (.arraylength, 1) := by decide +kernel
theorem dX10_init_119 : decode cX10_init 119 = .ok (.if_icmp .ge 22, 3) := by decide +kernel
theorem dX10_init_122 : decode cX10_init 122 = .ok (.aload_n 0, 1) := by decide +kernel
theorem dX10_init_123 : decode cX10_init 123 = .ok (.getfield 60, 3) := by decide +kernel
theorem dX10_init_126 : decode cX10_init 126 = .ok (.iload_n 1, 1) := by decide +kernel
theorem dX10_init_127 : decode cX10_init 127 = .ok (.new 58, 3) := by decide +kernel
theorem dX10_init_130 : decode cX10_init 130 = .ok (.dup, 1) := by decide +kernel
theorem dX10_init_131 : decode cX10_init 131 = .ok (.invokespecial 74, 3) := by decide +kernel
theorem dX10_init_134 : decode cX10_init 134 = .ok (.aastore, 1) := by decide +kernel
theorem dX10_init_135 : decode cX10_init 135 = .ok (.iinc 1 1, 3) := by decide +kernel
theorem dX10_init_138 : decode cX10_init 138 = .ok (.goto (-25), 3) := by decide +kernel
theorem dX10_init_141 : decode cX10_init 141 = .ok (.return_, 1) := by decide +kernel
theorem dX10_feed_0 : decode cX10_feed 0 = .ok (.iload_n 1, 1) := by decide +kernel
theorem dX10_feed_1 : decode cX10_feed 1 = .ok (.iconst 0, 1) := by decide +kernel
theorem dX10_feed_2 : decode cX10_feed 2 = .ok (.sipush 255, 3) := by decide +kernel
theorem dX10_feed_5 : decode cX10_feed 5 = .ok (.invokestatic 75, 3) := by decide +kernel
theorem dX10_feed_8 : decode cX10_feed 8 = .ok (.ifCond .eq 8, 3) := by decide +kernel
theorem dX10_feed_11 : decode cX10_feed 11 = .ok (.ldc 79, 2) := by decide +kernel
theorem dX10_feed_13 : decode cX10_feed 13 = .ok (.goto 11, 3) := by decide +kernel
theorem dX10_feed_16 : decode cX10_feed 16 = .ok (.aload_n 0, 1) := by decide +kernel
theorem dX10_feed_17 : decode cX10_feed 17 = .ok (.getfield 10, 3) := by decide +kernel
theorem dX10_feed_20 : decode cX10_feed 20 = .ok (.iload_n 1, 1) := by decide +kernel
theorem dX10_feed_21 : decode cX10_feed 21 = .ok (.invokevirtual 80, 3) := by decide +kernel
theorem dX10_feed_24 : decode cX10_feed 24 = .ok (.ireturn, 1) := by decide +kernel
theorem dX10_wall_0 : decode cX10_wall 0 = .ok (.aload_n 0, 1) := by decide +kernel
theorem dX10_wall_1 : decode cX10_wall 1 = .ok (.getfield 10, 3) := by decide +kernel
theorem dX10_wall_4 : decode cX10_wall 4 = .ok (.aload_n 0, 1) := by decide +kernel
theorem dX10_wall_5 : decode cX10_wall 5 = .ok (.getfield 71, 3) := by decide +kernel
theorem dX10_wall_8 : decode cX10_wall 8 = .ok (.invokevirtual 84, 3) := by decide +kernel
theorem dX10_wall_11 : decode cX10_wall 11 = .ok (.ifCond .ne 14, 3) := by decide +kernel
theorem dX10_wall_14 : decode cX10_wall 14 = .ok (.bipush (-10), 2) := by decide +kernel
theorem dX10_wall_16 : decode cX10_wall 16 = .ok (.aload_n 0, 1) := by decide +kernel
theorem dX10_wall_17 : decode cX10_wall 17 = .ok (.getfield 10, 3) := by decide +kernel
theorem dX10_wall_20 : decode cX10_wall 20 = .ok (.getfield 88, 3) := by decide +kernel
theorem dX10_wall_23 : decode cX10_wall 23 = .ok (.isub, 1) := by decide +kernel
theorem dX10_wall_24 : decode cX10_wall 24 = .ok (.ireturn, 1) := by decide +kernel
theorem dX10_wall_25 : decode cX10_wall 25 = .ok (.aload_n 0, 1) := by decide +kernel
theorem dX10_wall_26 : decode cX10_wall 26 = .ok (.getfield 67, 3) := by decide +kernel
theorem dX10_wall_29 : decode cX10_wall 29 = .ok (.astore_n 1, 1) := by decide +kernel
theorem dX10_wall_30 : decode cX10_wall 30 = .ok (.aload_n 0, 1) := by decide +kernel
theorem dX10_wall_31 : decode cX10_wall 31 = .ok (.aload_n 0, 1) := by decide +kernel
theorem dX10_wall_32 : decode cX10_wall 32 = .ok (.getfield 71, 3) := by decide +kernel
theorem dX10_wall_35 : decode cX10_wall 35 = .ok (.putfield 67, 3) := by decide +kernel
theorem dX10_wall_38 : decode cX10_wall 38 = .ok (.aload_n 0, 1) := by decide +kernel
theorem dX10_wall_39 : decode cX10_wall 39 = .ok (.aload_n 1, 1) := by decide +kernel
theorem dX10_wall_40 : decode cX10_wall 40 = .ok (.putfield 71, 3) := by decide +kernel
theorem dX10_wall_43 : decode cX10_wall 43 = .ok (.aload_n 0, 1) := by decide +kernel
theorem dX10_wall_44 : decode cX10_wall 44 = .ok (.getfield 19, 3) := by decide +kernel
theorem dX10_wall_47 : decode cX10_wall 47 = .ok (.aload_n 0, 1) := by decide +kernel
theorem dX10_wall_48 : decode cX10_wall 48 = .ok (.getfield 67, 3) := by decide +kernel
theorem dX10_wall_51 : decode cX10_wall 51 = .ok (.invokevirtual 92, 3) := by decide +kernel
theorem dX10_wall_54 : decode cX10_wall 54 = .ok (.aload_n 0, 1) := by decide +kernel
theorem dX10_wall_55 : decode cX10_wall 55 = .ok (.getfield 47, 3) := by decide +kernel
theorem dX10_wall_58 : decode cX10_wall 58 = .ok (.invokevirtual 96, 3) := by decide +kernel
theorem dX10_wall_61 : decode cX10_wall 61 = .ok (.aload_n 0, 1) := by decide +kernel
theorem dX10_wall_62 : decode cX10_wall 62 = .ok (.getfield 40, 3) := by decide +kernel
theorem dX10_wall_65 : decode cX10_wall 65 = .ok (.invokevirtual 99, 3) := by decide +kernel
theorem dX10_wall_68 : decode cX10_wall 68 = .ok (.iconst 0, 1) := by decide +kernel
theorem dX10_wall_69 : decode cX10_wall 69 = .ok (.istore_n 2, 1) := by decide +kernel
theorem dX10_wall_70 : decode cX10_wall 70 = .ok (.iload_n 2, 1) := by decide +kernel
theorem dX10_wall_71 : decode cX10_wall 71 = .ok (.aload_n 0, 1) := by decide +kernel
theorem dX10_wall_72 : decode cX10_wall 72 = .ok (.getfield 60, 3) := by decide +kernel
theorem dX10_wall_75 : decode cX10_wall 75 = .ok (.arraylength, 1) := by decide +kernel
theorem dX10_wall_76 : decode cX10_wall 76 = .ok (.if_icmp .ge 19, 3) := by decide +kernel
theorem dX10_wall_79 : decode cX10_wall 79 = .ok (.aload_n 0, 1) := by decide +kernel
theorem dX10_wall_80 : decode cX10_wall 80 = .ok (.getfield 60, 3) := by decide +kernel
theorem dX10_wall_83 : decode cX10_wall 83 = .ok (.iload_n 2, 1) := by decide +kernel
theorem dX10_wall_84 : decode cX10_wall 84 = .ok (.aaload, 1) := by decide +kernel
theorem dX10_wall_85 : decode cX10_wall 85 = .ok (.iconst 0, 1) := by decide +kernel
theorem dX10_wall_86 : decode cX10_wall 86 = .ok (.putfield 100, 3) := by decide +kernel
theorem dX10_wall_89 : decode cX10_wall 89 = .ok (.iinc 2 1, 3) := by decide +kernel
theorem dX10_wall_92 : decode cX10_wall 92 = .ok (.goto (-22), 3) := by decide +kernel
theorem dX10_wall_95 : decode cX10_wall 95 = .ok (.aload_n 0, 1) := by decide +kernel
theorem dX10_wall_96 : decode cX10_wall 96 = .ok (.getfield 67, 3) := by decide +kernel
theorem dX10_wall_99 : decode cX10_wall 99 = .ok (.invokevirtual 104, 3) := by decide +kernel
theorem dX10_wall_102 : decode cX10_wall 102 = .ok (.ireturn, 1) := by decide +kernel
theorem dX10_fault_0 : decode cX10_fault 0 = .ok (.aload_n 0, 1) := by decide +kernel
theorem dX10_fault_1 : decode cX10_fault 1 = .ok (.getfield 10, 3) := by decide +kernel
theorem dX10_fault_4 : decode cX10_fault 4 = .ok (.getfield 108, 3) := by decide +kernel
theorem dX10_fault_7 : decode cX10_fault 7 = .ok (.ireturn, 1) := by decide +kernel
theorem dX10_told_0 : decode cX10_told 0 = .ok (.iload_n 1, 1) := by decide +kernel
theorem dX10_told_1 : decode cX10_told 1 = .ok (.tableswitch 309 0 20 #[99, 107, 115, 123, 131, 139, 147, 155, 163, 171, 179, 187, 195, 203, 218, 233, 248, 263, 278, 293, 301], 99) := by decide +kernel
theorem dX10_told_100 : decode cX10_told 100 = .ok (.aload_n 0, 1) := by decide +kernel
theorem dX10_told_101 : decode cX10_told 101 = .ok (.getfield 67, 3) := by decide +kernel
theorem dX10_told_104 : decode cX10_told 104 = .ok (.getfield 111, 3) := by decide +kernel
theorem dX10_told_107 : decode cX10_told 107 = .ok (.ireturn, 1) := by decide +kernel
theorem dX10_told_108 : decode cX10_told 108 = .ok (.aload_n 0, 1) := by decide +kernel
theorem dX10_told_109 : decode cX10_told 109 = .ok (.getfield 67, 3) := by decide +kernel
theorem dX10_told_112 : decode cX10_told 112 = .ok (.getfield 114, 3) := by decide +kernel
theorem dX10_told_115 : decode cX10_told 115 = .ok (.ireturn, 1) := by decide +kernel
theorem dX10_told_116 : decode cX10_told 116 = .ok (.aload_n 0, 1) := by decide +kernel
theorem dX10_told_117 : decode cX10_told 117 = .ok (.getfield 67, 3) := by decide +kernel
theorem dX10_told_120 : decode cX10_told 120 = .ok (.getfield 117, 3) := by decide +kernel
theorem dX10_told_123 : decode cX10_told 123 = .ok (.ireturn, 1) := by decide +kernel
theorem dX10_told_124 : decode cX10_told 124 = .ok (.aload_n 0, 1) := by decide +kernel
theorem dX10_told_125 : decode cX10_told 125 = .ok (.getfield 67, 3) := by decide +kernel
theorem dX10_told_128 : decode cX10_told 128 = .ok (.getfield 120, 3) := by decide +kernel
theorem dX10_told_131 : decode cX10_told 131 = .ok (.ireturn, 1) := by decide +kernel
theorem dX10_told_132 : decode cX10_told 132 = .ok (.aload_n 0, 1) := by decide +kernel
theorem dX10_told_133 : decode cX10_told 133 = .ok (.getfield 67, 3) := by decide +kernel
theorem dX10_told_136 : decode cX10_told 136 = .ok (.getfield 123, 3) := by decide +kernel
theorem dX10_told_139 : decode cX10_told 139 = .ok (.ireturn, 1) := by decide +kernel
theorem dX10_told_140 : decode cX10_told 140 = .ok (.aload_n 0, 1) := by decide +kernel
theorem dX10_told_141 : decode cX10_told 141 = .ok (.getfield 10, 3) := by decide +kernel
theorem dX10_told_144 : decode cX10_told 144 = .ok (.getfield 126, 3) := by decide +kernel
theorem dX10_told_147 : decode cX10_told 147 = .ok (.ireturn, 1) := by decide +kernel
theorem dX10_told_148 : decode cX10_told 148 = .ok (.aload_n 0, 1) := by decide +kernel
theorem dX10_told_149 : decode cX10_told 149 = .ok (.getfield 19, 3) := by decide +kernel
theorem dX10_told_152 : decode cX10_told 152 = .ok (.getfield 129, 3) := by decide +kernel
theorem dX10_told_155 : decode cX10_told 155 = .ok (.ireturn, 1) := by decide +kernel
theorem dX10_told_156 : decode cX10_told 156 = .ok (.aload_n 0, 1) := by decide +kernel
theorem dX10_told_157 : decode cX10_told 157 = .ok (.getfield 19, 3) := by decide +kernel
theorem dX10_told_160 : decode cX10_told 160 = .ok (.getfield 132, 3) := by decide +kernel
theorem dX10_told_163 : decode cX10_told 163 = .ok (.ireturn, 1) := by decide +kernel
theorem dX10_told_164 : decode cX10_told 164 = .ok (.aload_n 0, 1) := by decide +kernel
theorem dX10_told_165 : decode cX10_told 165 = .ok (.getfield 19, 3) := by decide +kernel
theorem dX10_told_168 : decode cX10_told 168 = .ok (.invokevirtual 135, 3) := by decide +kernel
theorem dX10_told_171 : decode cX10_told 171 = .ok (.ireturn, 1) := by decide +kernel
theorem dX10_told_172 : decode cX10_told 172 = .ok (.aload_n 0, 1) := by decide +kernel
theorem dX10_told_173 : decode cX10_told 173 = .ok (.getfield 19, 3) := by decide +kernel
theorem dX10_told_176 : decode cX10_told 176 = .ok (.getfield 138, 3) := by decide +kernel
theorem dX10_told_179 : decode cX10_told 179 = .ok (.ireturn, 1) := by decide +kernel
theorem dX10_told_180 : decode cX10_told 180 = .ok (.aload_n 0, 1) := by decide +kernel
theorem dX10_told_181 : decode cX10_told 181 = .ok (.getfield 19, 3) := by decide +kernel
theorem dX10_told_184 : decode cX10_told 184 = .ok (.getfield 141, 3) := by decide +kernel
theorem dX10_told_187 : decode cX10_told 187 = .ok (.ireturn, 1) := by decide +kernel
theorem dX10_told_188 : decode cX10_told 188 = .ok (.aload_n 0, 1) := by decide +kernel
theorem dX10_told_189 : decode cX10_told 189 = .ok (.getfield 19, 3) := by decide +kernel
theorem dX10_told_192 : decode cX10_told 192 = .ok (.getfield 144, 3) := by decide +kernel
theorem dX10_told_195 : decode cX10_told 195 = .ok (.ireturn, 1) := by decide +kernel
theorem dX10_told_196 : decode cX10_told 196 = .ok (.aload_n 0, 1) := by decide +kernel
theorem dX10_told_197 : decode cX10_told 197 = .ok (.getfield 19, 3) := by decide +kernel
theorem dX10_told_200 : decode cX10_told 200 = .ok (.invokevirtual 147, 3) := by decide +kernel
theorem dX10_told_203 : decode cX10_told 203 = .ok (.ireturn, 1) := by decide +kernel
theorem dX10_told_204 : decode cX10_told 204 = .ok (.aload_n 0, 1) := by decide +kernel
theorem dX10_told_205 : decode cX10_told 205 = .ok (.getfield 67, 3) := by decide +kernel
theorem dX10_told_208 : decode cX10_told 208 = .ok (.aload_n 0, 1) := by decide +kernel
theorem dX10_told_209 : decode cX10_told 209 = .ok (.getfield 19, 3) := by decide +kernel
theorem dX10_told_212 : decode cX10_told 212 = .ok (.invokevirtual 135, 3) := by decide +kernel
theorem dX10_told_215 : decode cX10_told 215 = .ok (.invokestatic 150, 3) := by decide +kernel
theorem dX10_told_218 : decode cX10_told 218 = .ok (.ireturn, 1) := by decide +kernel
theorem dX10_told_219 : decode cX10_told 219 = .ok (.aload_n 0, 1) := by decide +kernel
theorem dX10_told_220 : decode cX10_told 220 = .ok (.getfield 67, 3) := by decide +kernel
theorem dX10_told_223 : decode cX10_told 223 = .ok (.aload_n 0, 1) := by decide +kernel
theorem dX10_told_224 : decode cX10_told 224 = .ok (.getfield 19, 3) := by decide +kernel
theorem dX10_told_227 : decode cX10_told 227 = .ok (.invokevirtual 135, 3) := by decide +kernel
theorem dX10_told_230 : decode cX10_told 230 = .ok (.invokestatic 156, 3) := by decide +kernel
theorem dX10_told_233 : decode cX10_told 233 = .ok (.ireturn, 1) := by decide +kernel
theorem dX10_told_234 : decode cX10_told 234 = .ok (.aload_n 0, 1) := by decide +kernel
theorem dX10_told_235 : decode cX10_told 235 = .ok (.getfield 67, 3) := by decide +kernel
theorem dX10_told_238 : decode cX10_told 238 = .ok (.aload_n 0, 1) := by decide +kernel
theorem dX10_told_239 : decode cX10_told 239 = .ok (.getfield 19, 3) := by decide +kernel
theorem dX10_told_242 : decode cX10_told 242 = .ok (.invokevirtual 135, 3) := by decide +kernel
theorem dX10_told_245 : decode cX10_told 245 = .ok (.invokestatic 159, 3) := by decide +kernel
theorem dX10_told_248 : decode cX10_told 248 = .ok (.ireturn, 1) := by decide +kernel
theorem dX10_told_249 : decode cX10_told 249 = .ok (.aload_n 0, 1) := by decide +kernel
theorem dX10_told_250 : decode cX10_told 250 = .ok (.getfield 67, 3) := by decide +kernel
theorem dX10_told_253 : decode cX10_told 253 = .ok (.aload_n 0, 1) := by decide +kernel
theorem dX10_told_254 : decode cX10_told 254 = .ok (.getfield 19, 3) := by decide +kernel
theorem dX10_told_257 : decode cX10_told 257 = .ok (.invokevirtual 135, 3) := by decide +kernel
theorem dX10_told_260 : decode cX10_told 260 = .ok (.invokestatic 162, 3) := by decide +kernel
theorem dX10_told_263 : decode cX10_told 263 = .ok (.ireturn, 1) := by decide +kernel
theorem dX10_told_264 : decode cX10_told 264 = .ok (.aload_n 0, 1) := by decide +kernel
theorem dX10_told_265 : decode cX10_told 265 = .ok (.getfield 67, 3) := by decide +kernel
theorem dX10_told_268 : decode cX10_told 268 = .ok (.aload_n 0, 1) := by decide +kernel
theorem dX10_told_269 : decode cX10_told 269 = .ok (.getfield 19, 3) := by decide +kernel
theorem dX10_told_272 : decode cX10_told 272 = .ok (.invokevirtual 135, 3) := by decide +kernel
theorem dX10_told_275 : decode cX10_told 275 = .ok (.invokestatic 165, 3) := by decide +kernel
theorem dX10_told_278 : decode cX10_told 278 = .ok (.ireturn, 1) := by decide +kernel
theorem dX10_told_279 : decode cX10_told 279 = .ok (.aload_n 0, 1) := by decide +kernel
theorem dX10_told_280 : decode cX10_told 280 = .ok (.getfield 67, 3) := by decide +kernel
theorem dX10_told_283 : decode cX10_told 283 = .ok (.aload_n 0, 1) := by decide +kernel
theorem dX10_told_284 : decode cX10_told 284 = .ok (.getfield 19, 3) := by decide +kernel
theorem dX10_told_287 : decode cX10_told 287 = .ok (.invokevirtual 135, 3) := by decide +kernel
theorem dX10_told_290 : decode cX10_told 290 = .ok (.invokestatic 168, 3) := by decide +kernel
theorem dX10_told_293 : decode cX10_told 293 = .ok (.ireturn, 1) := by decide +kernel
theorem dX10_told_294 : decode cX10_told 294 = .ok (.aload_n 0, 1) := by decide +kernel
theorem dX10_told_295 : decode cX10_told 295 = .ok (.getfield 47, 3) := by decide +kernel
theorem dX10_told_298 : decode cX10_told 298 = .ok (.getfield 171, 3) := by decide +kernel
theorem dX10_told_301 : decode cX10_told 301 = .ok (.ireturn, 1) := by decide +kernel
theorem dX10_told_302 : decode cX10_told 302 = .ok (.aload_n 0, 1) := by decide +kernel
theorem dX10_told_303 : decode cX10_told 303 = .ok (.getfield 40, 3) := by decide +kernel
theorem dX10_told_306 : decode cX10_told 306 = .ok (.getfield 172, 3) := by decide +kernel
theorem dX10_told_309 : decode cX10_told 309 = .ok (.ireturn, 1) := by decide +kernel
theorem dX10_told_310 : decode cX10_told 310 = .ok (.ldc 79, 2) := by decide +kernel
theorem dX10_told_312 : decode cX10_told 312 = .ok (.ireturn, 1) := by decide +kernel
theorem dX10_cell_0 : decode cX10_cell 0 = .ok (.aload_n 0, 1) := by decide +kernel
theorem dX10_cell_1 : decode cX10_cell 1 = .ok (.getfield 67, 3) := by decide +kernel
theorem dX10_cell_4 : decode cX10_cell 4 = .ok (.iload_n 1, 1) := by decide +kernel
theorem dX10_cell_5 : decode cX10_cell 5 = .ok (.invokevirtual 173, 3) := by decide +kernel
theorem dX10_cell_8 : decode cX10_cell 8 = .ok (.ifCond .eq 17, 3) := by decide +kernel
theorem dX10_cell_11 : decode cX10_cell 11 = .ok (.aload_n 0, 1) := by decide +kernel
theorem dX10_cell_12 : decode cX10_cell 12 = .ok (.getfield 19, 3) := by decide +kernel
theorem dX10_cell_15 : decode cX10_cell 15 = .ok (.getfield 177, 3) := by decide +kernel
theorem dX10_cell_18 : decode cX10_cell 18 = .ok (.iload_n 1, 1) := by decide +kernel
theorem dX10_cell_19 : decode cX10_cell 19 = .ok (.invokestatic 181, 3) := by decide +kernel
theorem dX10_cell_22 : decode cX10_cell 22 = .ok (.goto 5, 3) := by decide +kernel
theorem dX10_cell_25 : decode cX10_cell 25 = .ok (.ldc 185, 2) := by decide +kernel
theorem dX10_cell_27 : decode cX10_cell 27 = .ok (.ireturn, 1) := by decide +kernel
theorem dX10_leak_0 : decode cX10_leak 0 = .ok (.aload_n 0, 1) := by decide +kernel
theorem dX10_leak_1 : decode cX10_leak 1 = .ok (.getfield 67, 3) := by decide +kernel
theorem dX10_leak_4 : decode cX10_leak 4 = .ok (.iload_n 1, 1) := by decide +kernel
theorem dX10_leak_5 : decode cX10_leak 5 = .ok (.invokevirtual 186, 3) := by decide +kernel
theorem dX10_leak_8 : decode cX10_leak 8 = .ok (.ifCond .eq 17, 3) := by decide +kernel
theorem dX10_leak_11 : decode cX10_leak 11 = .ok (.aload_n 0, 1) := by decide +kernel
theorem dX10_leak_12 : decode cX10_leak 12 = .ok (.getfield 19, 3) := by decide +kernel
theorem dX10_leak_15 : decode cX10_leak 15 = .ok (.getfield 189, 3) := by decide +kernel
theorem dX10_leak_18 : decode cX10_leak 18 = .ok (.iload_n 1, 1) := by decide +kernel
theorem dX10_leak_19 : decode cX10_leak 19 = .ok (.invokestatic 181, 3) := by decide +kernel
theorem dX10_leak_22 : decode cX10_leak 22 = .ok (.goto 5, 3) := by decide +kernel
theorem dX10_leak_25 : decode cX10_leak 25 = .ok (.ldc 185, 2) := by decide +kernel
theorem dX10_leak_27 : decode cX10_leak 27 = .ok (.ireturn, 1) := by decide +kernel
theorem dX10_crack_0 : decode cX10_crack 0 = .ok (.aload_n 0, 1) := by decide +kernel
theorem dX10_crack_1 : decode cX10_crack 1 = .ok (.getfield 67, 3) := by decide +kernel
theorem dX10_crack_4 : decode cX10_crack 4 = .ok (.iload_n 1, 1) := by decide +kernel
theorem dX10_crack_5 : decode cX10_crack 5 = .ok (.invokevirtual 192, 3) := by decide +kernel
theorem dX10_crack_8 : decode cX10_crack 8 = .ok (.ifCond .ne 6, 3) := by decide +kernel
theorem dX10_crack_11 : decode cX10_crack 11 = .ok (.ldc 185, 2) := by decide +kernel
theorem dX10_crack_13 : decode cX10_crack 13 = .ok (.ireturn, 1) := by decide +kernel
theorem dX10_crack_14 : decode cX10_crack 14 = .ok (.iload_n 2, 1) := by decide +kernel
theorem dX10_crack_15 : decode cX10_crack 15 = .ok (.tableswitch 66 0 2 #[25, 37, 49], 25) := by decide +kernel
theorem dX10_crack_40 : decode cX10_crack 40 = .ok (.aload_n 0, 1) := by decide +kernel
theorem dX10_crack_41 : decode cX10_crack 41 = .ok (.getfield 67, 3) := by decide +kernel
theorem dX10_crack_44 : decode cX10_crack 44 = .ok (.getfield 195, 3) := by decide +kernel
theorem dX10_crack_47 : decode cX10_crack 47 = .ok (.iload_n 1, 1) := by decide +kernel
theorem dX10_crack_48 : decode cX10_crack 48 = .ok (.invokestatic 181, 3) := by decide +kernel
theorem dX10_crack_51 : decode cX10_crack 51 = .ok (.ireturn, 1) := by decide +kernel
theorem dX10_crack_52 : decode cX10_crack 52 = .ok (.aload_n 0, 1) := by decide +kernel
theorem dX10_crack_53 : decode cX10_crack 53 = .ok (.getfield 67, 3) := by decide +kernel
theorem dX10_crack_56 : decode cX10_crack 56 = .ok (.getfield 198, 3) := by decide +kernel
theorem dX10_crack_59 : decode cX10_crack 59 = .ok (.iload_n 1, 1) := by decide +kernel
theorem dX10_crack_60 : decode cX10_crack 60 = .ok (.invokestatic 181, 3) := by decide +kernel
theorem dX10_crack_63 : decode cX10_crack 63 = .ok (.ireturn, 1) := by decide +kernel
theorem dX10_crack_64 : decode cX10_crack 64 = .ok (.aload_n 0, 1) := by decide +kernel
theorem dX10_crack_65 : decode cX10_crack 65 = .ok (.getfield 19, 3) := by decide +kernel
theorem dX10_crack_68 : decode cX10_crack 68 = .ok (.iload_n 1, 1) := by decide +kernel
theorem dX10_crack_69 : decode cX10_crack 69 = .ok (.invokevirtual 201, 3) := by decide +kernel
theorem dX10_crack_72 : decode cX10_crack 72 = .ok (.ifCond .eq 7, 3) := by decide +kernel
theorem dX10_crack_75 : decode cX10_crack 75 = .ok (.iconst 1, 1) := by decide +kernel
theorem dX10_crack_76 : decode cX10_crack 76 = .ok (.goto 4, 3) := by decide +kernel
theorem dX10_crack_79 : decode cX10_crack 79 = .ok (.iconst 0, 1) := by decide +kernel
theorem dX10_crack_80 : decode cX10_crack 80 = .ok (.ireturn, 1) := by decide +kernel
theorem dX10_crack_81 : decode cX10_crack 81 = .ok (.ldc 79, 2) := by decide +kernel
theorem dX10_crack_83 : decode cX10_crack 83 = .ok (.ireturn, 1) := by decide +kernel
theorem dX10_likeness_0 : decode cX10_likeness 0 = .ok (.aload_n 0, 1) := by decide +kernel
theorem dX10_likeness_1 : decode cX10_likeness 1 = .ok (.getfield 67, 3) := by decide +kernel
theorem dX10_likeness_4 : decode cX10_likeness 4 = .ok (.iload_n 1, 1) := by decide +kernel
theorem dX10_likeness_5 : decode cX10_likeness 5 = .ok (.invokevirtual 204, 3) := by decide +kernel
theorem dX10_likeness_8 : decode cX10_likeness 8 = .ok (.ifCond .ne 6, 3) := by decide +kernel
theorem dX10_likeness_11 : decode cX10_likeness 11 = .ok (.ldc 185, 2) := by decide +kernel
theorem dX10_likeness_13 : decode cX10_likeness 13 = .ok (.ireturn, 1) := by decide +kernel
theorem dX10_likeness_14 : decode cX10_likeness 14 = .ok (.aload_n 0, 1) := by decide +kernel
theorem dX10_likeness_15 : decode cX10_likeness 15 = .ok (.getfield 67, 3) := by decide +kernel
theorem dX10_likeness_18 : decode cX10_likeness 18 = .ok (.getfield 207, 3) := by decide +kernel
theorem dX10_likeness_21 : decode cX10_likeness 21 = .ok (.iload_n 1, 1) := by decide +kernel
theorem dX10_likeness_22 : decode cX10_likeness 22 = .ok (.invokestatic 181, 3) := by decide +kernel
theorem dX10_likeness_25 : decode cX10_likeness 25 = .ok (.istore_n 3, 1) := by decide +kernel
theorem dX10_likeness_26 : decode cX10_likeness 26 = .ok (.iload_n 2, 1) := by decide +kernel
theorem dX10_likeness_27 : decode cX10_likeness 27 = .ok (.tableswitch 58 0 2 #[25, 27, 43], 25) := by decide +kernel
theorem dX10_likeness_52 : decode cX10_likeness 52 = .ok (.iload_n 3, 1) := by decide +kernel
theorem dX10_likeness_53 : decode cX10_likeness 53 = .ok (.ireturn, 1) := by decide +kernel
theorem dX10_likeness_54 : decode cX10_likeness 54 = .ok (.aload_n 0, 1) := by decide +kernel
theorem dX10_likeness_55 : decode cX10_likeness 55 = .ok (.getfield 67, 3) := by decide +kernel
theorem dX10_likeness_58 : decode cX10_likeness 58 = .ok (.aload_n 0, 1) := by decide +kernel
theorem dX10_likeness_59 : decode cX10_likeness 59 = .ok (.getfield 19, 3) := by decide +kernel
theorem dX10_likeness_62 : decode cX10_likeness 62 = .ok (.invokevirtual 135, 3) := by decide +kernel
theorem dX10_likeness_65 : decode cX10_likeness 65 = .ok (.iload_n 3, 1) := by decide +kernel
theorem dX10_likeness_66 : decode cX10_likeness 66 = .ok (.invokestatic 210, 3) := by decide +kernel
theorem dX10_likeness_69 : decode cX10_likeness 69 = .ok (.ireturn, 1) := by decide +kernel
theorem dX10_likeness_70 : decode cX10_likeness 70 = .ok (.aload_n 0, 1) := by decide +kernel
theorem dX10_likeness_71 : decode cX10_likeness 71 = .ok (.getfield 19, 3) := by decide +kernel
theorem dX10_likeness_74 : decode cX10_likeness 74 = .ok (.invokevirtual 135, 3) := by decide +kernel
theorem dX10_likeness_77 : decode cX10_likeness 77 = .ok (.iload_n 3, 1) := by decide +kernel
theorem dX10_likeness_78 : decode cX10_likeness 78 = .ok (.iconst (-1), 1) := by decide +kernel
theorem dX10_likeness_79 : decode cX10_likeness 79 = .ok (.ixor, 1) := by decide +kernel
theorem dX10_likeness_80 : decode cX10_likeness 80 = .ok (.iand, 1) := by decide +kernel
theorem dX10_likeness_81 : decode cX10_likeness 81 = .ok (.invokestatic 214, 3) := by decide +kernel
theorem dX10_likeness_84 : decode cX10_likeness 84 = .ok (.ireturn, 1) := by decide +kernel
theorem dX10_likeness_85 : decode cX10_likeness 85 = .ok (.ldc 79, 2) := by decide +kernel
theorem dX10_likeness_87 : decode cX10_likeness 87 = .ok (.ireturn, 1) := by decide +kernel
theorem dX10_day_0 : decode cX10_day 0 = .ok (.iload_n 1, 1) := by decide +kernel
theorem dX10_day_1 : decode cX10_day 1 = .ok (.iconst 1, 1) := by decide +kernel
theorem dX10_day_2 : decode cX10_day 2 = .ok (.bipush 60, 2) := by decide +kernel
theorem dX10_day_4 : decode cX10_day 4 = .ok (.invokestatic 75, 3) := by decide +kernel
theorem dX10_day_7 : decode cX10_day 7 = .ok (.ifCond .ne 13, 3) := by decide +kernel
theorem dX10_day_10 : decode cX10_day 10 = .ok (.iload_n 2, 1) := by decide +kernel
theorem dX10_day_11 : decode cX10_day 11 = .ok (.iconst 0, 1) := by decide +kernel
theorem dX10_day_12 : decode cX10_day 12 = .ok (.bipush 9, 2) := by decide +kernel
theorem dX10_day_14 : decode cX10_day 14 = .ok (.invokestatic 75, 3) := by decide +kernel
theorem dX10_day_17 : decode cX10_day 17 = .ok (.ifCond .eq 6, 3) := by decide +kernel
theorem dX10_day_20 : decode cX10_day 20 = .ok (.ldc 79, 2) := by decide +kernel
theorem dX10_day_22 : decode cX10_day 22 = .ok (.ireturn, 1) := by decide +kernel
theorem dX10_day_23 : decode cX10_day 23 = .ok (.aload_n 0, 1) := by decide +kernel
theorem dX10_day_24 : decode cX10_day 24 = .ok (.invokevirtual 219, 3) := by decide +kernel
theorem dX10_day_27 : decode cX10_day 27 = .ok (.ifCond .eq 6, 3) := by decide +kernel
theorem dX10_day_30 : decode cX10_day 30 = .ok (.ldc 223, 2) := by decide +kernel
theorem dX10_day_32 : decode cX10_day 32 = .ok (.ireturn, 1) := by decide +kernel
theorem dX10_day_33 : decode cX10_day 33 = .ok (.aload_n 0, 1) := by decide +kernel
theorem dX10_day_34 : decode cX10_day 34 = .ok (.getfield 19, 3) := by decide +kernel
theorem dX10_day_37 : decode cX10_day 37 = .ok (.getfield 129, 3) := by decide +kernel
theorem dX10_day_40 : decode cX10_day 40 = .ok (.sipush 9000, 3) := by decide +kernel
theorem dX10_day_43 : decode cX10_day 43 = .ok (.if_icmp .le 6, 3) := by decide +kernel
theorem dX10_day_46 : decode cX10_day 46 = .ok (.ldc 224, 2) := by decide +kernel
theorem dX10_day_48 : decode cX10_day 48 = .ok (.ireturn, 1) := by decide +kernel
theorem dX10_day_49 : decode cX10_day 49 = .ok (.aload_n 0, 1) := by decide +kernel
theorem dX10_day_50 : decode cX10_day 50 = .ok (.getfield 40, 3) := by decide +kernel
theorem dX10_day_53 : decode cX10_day 53 = .ok (.aload_n 0, 1) := by decide +kernel
theorem dX10_day_54 : decode cX10_day 54 = .ok (.getfield 19, 3) := by decide +kernel
theorem dX10_day_57 : decode cX10_day 57 = .ok (.invokevirtual 225, 3) := by decide +kernel
theorem dX10_day_60 : decode cX10_day 60 = .ok (.aload_n 0, 1) := by decide +kernel
theorem dX10_day_61 : decode cX10_day 61 = .ok (.getfield 26, 3) := by decide +kernel
theorem dX10_day_64 : decode cX10_day 64 = .ok (.aload_n 0, 1) := by decide +kernel
theorem dX10_day_65 : decode cX10_day 65 = .ok (.getfield 67, 3) := by decide +kernel
theorem dX10_day_68 : decode cX10_day 68 = .ok (.aload_n 0, 1) := by decide +kernel
theorem dX10_day_69 : decode cX10_day 69 = .ok (.getfield 19, 3) := by decide +kernel
theorem dX10_day_72 : decode cX10_day 72 = .ok (.iload_n 1, 1) := by decide +kernel
theorem dX10_day_73 : decode cX10_day 73 = .ok (.iload_n 2, 1) := by decide +kernel
theorem dX10_day_74 : decode cX10_day 74 = .ok (.invokevirtual 229, 3) := by decide +kernel
theorem dX10_day_77 : decode cX10_day 77 = .ok (.aload_n 0, 1) := by decide +kernel
theorem dX10_day_78 : decode cX10_day 78 = .ok (.getfield 19, 3) := by decide +kernel
theorem dX10_day_81 : decode cX10_day 81 = .ok (.invokevirtual 233, 3) := by decide +kernel
theorem dX10_day_84 : decode cX10_day 84 = .ok (.ireturn, 1) := by decide +kernel
theorem dX10_look_0 : decode cX10_look 0 = .ok (.aload_n 0, 1) := by decide +kernel
theorem dX10_look_1 : decode cX10_look 1 = .ok (.invokevirtual 219, 3) := by decide +kernel
theorem dX10_look_4 : decode cX10_look 4 = .ok (.ifCond .eq 6, 3) := by decide +kernel
theorem dX10_look_7 : decode cX10_look 7 = .ok (.ldc 223, 2) := by decide +kernel
theorem dX10_look_9 : decode cX10_look 9 = .ok (.ireturn, 1) := by decide +kernel
theorem dX10_look_10 : decode cX10_look 10 = .ok (.aload_n 0, 1) := by decide +kernel
theorem dX10_look_11 : decode cX10_look 11 = .ok (.getfield 40, 3) := by decide +kernel
theorem dX10_look_14 : decode cX10_look 14 = .ok (.aload_n 0, 1) := by decide +kernel
theorem dX10_look_15 : decode cX10_look 15 = .ok (.getfield 19, 3) := by decide +kernel
theorem dX10_look_18 : decode cX10_look 18 = .ok (.invokevirtual 225, 3) := by decide +kernel
theorem dX10_look_21 : decode cX10_look 21 = .ok (.aload_n 0, 1) := by decide +kernel
theorem dX10_look_22 : decode cX10_look 22 = .ok (.getfield 19, 3) := by decide +kernel
theorem dX10_look_25 : decode cX10_look 25 = .ok (.aload_n 0, 1) := by decide +kernel
theorem dX10_look_26 : decode cX10_look 26 = .ok (.getfield 67, 3) := by decide +kernel
theorem dX10_look_29 : decode cX10_look 29 = .ok (.invokevirtual 236, 3) := by decide +kernel
theorem dX10_look_32 : decode cX10_look 32 = .ok (.aload_n 0, 1) := by decide +kernel
theorem dX10_look_33 : decode cX10_look 33 = .ok (.getfield 19, 3) := by decide +kernel
theorem dX10_look_36 : decode cX10_look 36 = .ok (.invokevirtual 233, 3) := by decide +kernel
theorem dX10_look_39 : decode cX10_look 39 = .ok (.ireturn, 1) := by decide +kernel
theorem dX10_brush_0 : decode cX10_brush 0 = .ok (.aload_n 0, 1) := by decide +kernel
theorem dX10_brush_1 : decode cX10_brush 1 = .ok (.getfield 67, 3) := by decide +kernel
theorem dX10_brush_4 : decode cX10_brush 4 = .ok (.iload_n 1, 1) := by decide +kernel
theorem dX10_brush_5 : decode cX10_brush 5 = .ok (.invokevirtual 173, 3) := by decide +kernel
theorem dX10_brush_8 : decode cX10_brush 8 = .ok (.ifCond .ne 6, 3) := by decide +kernel
theorem dX10_brush_11 : decode cX10_brush 11 = .ok (.ldc 185, 2) := by decide +kernel
theorem dX10_brush_13 : decode cX10_brush 13 = .ok (.ireturn, 1) := by decide +kernel
theorem dX10_brush_14 : decode cX10_brush 14 = .ok (.aload_n 0, 1) := by decide +kernel
theorem dX10_brush_15 : decode cX10_brush 15 = .ok (.getfield 40, 3) := by decide +kernel
theorem dX10_brush_18 : decode cX10_brush 18 = .ok (.aload_n 0, 1) := by decide +kernel
theorem dX10_brush_19 : decode cX10_brush 19 = .ok (.getfield 19, 3) := by decide +kernel
theorem dX10_brush_22 : decode cX10_brush 22 = .ok (.invokevirtual 225, 3) := by decide +kernel
theorem dX10_brush_25 : decode cX10_brush 25 = .ok (.aload_n 0, 1) := by decide +kernel
theorem dX10_brush_26 : decode cX10_brush 26 = .ok (.getfield 19, 3) := by decide +kernel
theorem dX10_brush_29 : decode cX10_brush 29 = .ok (.getfield 177, 3) := by decide +kernel
theorem dX10_brush_32 : decode cX10_brush 32 = .ok (.iload_n 1, 1) := by decide +kernel
theorem dX10_brush_33 : decode cX10_brush 33 = .ok (.invokestatic 181, 3) := by decide +kernel
theorem dX10_brush_36 : decode cX10_brush 36 = .ok (.istore_n 2, 1) := by decide +kernel
theorem dX10_brush_37 : decode cX10_brush 37 = .ok (.aload_n 0, 1) := by decide +kernel
theorem dX10_brush_38 : decode cX10_brush 38 = .ok (.getfield 19, 3) := by decide +kernel
theorem dX10_brush_41 : decode cX10_brush 41 = .ok (.getfield 177, 3) := by decide +kernel
theorem dX10_brush_44 : decode cX10_brush 44 = .ok (.iload_n 1, 1) := by decide +kernel
theorem dX10_brush_45 : decode cX10_brush 45 = .ok (.iconst 0, 1) := by decide +kernel
theorem dX10_brush_46 : decode cX10_brush 46 = .ok (.invokestatic 239, 3) := by decide +kernel
theorem dX10_brush_49 : decode cX10_brush 49 = .ok (.aload_n 0, 1) := by decide +kernel
theorem dX10_brush_50 : decode cX10_brush 50 = .ok (.getfield 19, 3) := by decide +kernel
theorem dX10_brush_53 : decode cX10_brush 53 = .ok (.dup, 1) := by decide +kernel
theorem dX10_brush_54 : decode cX10_brush 54 = .ok (.getfield 144, 3) := by decide +kernel
theorem dX10_brush_57 : decode cX10_brush 57 = .ok (.iconst 1, 1) := by decide +kernel
theorem dX10_brush_58 : decode cX10_brush 58 = .ok (.iadd, 1) := by decide +kernel
theorem dX10_brush_59 : decode cX10_brush 59 = .ok (.putfield 144, 3) := by decide +kernel
theorem dX10_brush_62 : decode cX10_brush 62 = .ok (.iload_n 2, 1) := by decide +kernel
theorem dX10_brush_63 : decode cX10_brush 63 = .ok (.ireturn, 1) := by decide +kernel
theorem dX10_lead_0 : decode cX10_lead 0 = .ok (.aload_n 0, 1) := by decide +kernel
theorem dX10_lead_1 : decode cX10_lead 1 = .ok (.getfield 67, 3) := by decide +kernel
theorem dX10_lead_4 : decode cX10_lead 4 = .ok (.iload_n 1, 1) := by decide +kernel
theorem dX10_lead_5 : decode cX10_lead 5 = .ok (.invokevirtual 186, 3) := by decide +kernel
theorem dX10_lead_8 : decode cX10_lead 8 = .ok (.ifCond .eq 14, 3) := by decide +kernel
theorem dX10_lead_11 : decode cX10_lead 11 = .ok (.aload_n 0, 1) := by decide +kernel
theorem dX10_lead_12 : decode cX10_lead 12 = .ok (.getfield 67, 3) := by decide +kernel
theorem dX10_lead_15 : decode cX10_lead 15 = .ok (.iload_n 2, 1) := by decide +kernel
theorem dX10_lead_16 : decode cX10_lead 16 = .ok (.invokevirtual 173, 3) := by decide +kernel
theorem dX10_lead_19 : decode cX10_lead 19 = .ok (.ifCond .ne 6, 3) := by decide +kernel
theorem dX10_lead_22 : decode cX10_lead 22 = .ok (.ldc 185, 2) := by decide +kernel
theorem dX10_lead_24 : decode cX10_lead 24 = .ok (.ireturn, 1) := by decide +kernel
theorem dX10_lead_25 : decode cX10_lead 25 = .ok (.aload_n 0, 1) := by decide +kernel
theorem dX10_lead_26 : decode cX10_lead 26 = .ok (.getfield 40, 3) := by decide +kernel
theorem dX10_lead_29 : decode cX10_lead 29 = .ok (.aload_n 0, 1) := by decide +kernel
theorem dX10_lead_30 : decode cX10_lead 30 = .ok (.getfield 19, 3) := by decide +kernel
theorem dX10_lead_33 : decode cX10_lead 33 = .ok (.invokevirtual 225, 3) := by decide +kernel
theorem dX10_lead_36 : decode cX10_lead 36 = .ok (.aload_n 0, 1) := by decide +kernel
theorem dX10_lead_37 : decode cX10_lead 37 = .ok (.getfield 19, 3) := by decide +kernel
theorem dX10_lead_40 : decode cX10_lead 40 = .ok (.getfield 189, 3) := by decide +kernel
theorem dX10_lead_43 : decode cX10_lead 43 = .ok (.iload_n 1, 1) := by decide +kernel
theorem dX10_lead_44 : decode cX10_lead 44 = .ok (.invokestatic 181, 3) := by decide +kernel
theorem dX10_lead_47 : decode cX10_lead 47 = .ok (.istore_n 3, 1) := by decide +kernel
theorem dX10_lead_48 : decode cX10_lead 48 = .ok (.aload_n 0, 1) := by decide +kernel
theorem dX10_lead_49 : decode cX10_lead 49 = .ok (.getfield 19, 3) := by decide +kernel
theorem dX10_lead_52 : decode cX10_lead 52 = .ok (.getfield 189, 3) := by decide +kernel
theorem dX10_lead_55 : decode cX10_lead 55 = .ok (.iload_n 1, 1) := by decide +kernel
theorem dX10_lead_56 : decode cX10_lead 56 = .ok (.iload_n 2, 1) := by decide +kernel
theorem dX10_lead_57 : decode cX10_lead 57 = .ok (.invokestatic 239, 3) := by decide +kernel
theorem dX10_lead_60 : decode cX10_lead 60 = .ok (.iload_n 3, 1) := by decide +kernel
theorem dX10_lead_61 : decode cX10_lead 61 = .ok (.ireturn, 1) := by decide +kernel
theorem dX10_wind_0 : decode cX10_wind 0 = .ok (.iload_n 1, 1) := by decide +kernel
theorem dX10_wind_1 : decode cX10_wind 1 = .ok (.iconst 0, 1) := by decide +kernel
theorem dX10_wind_2 : decode cX10_wind 2 = .ok (.iconst 2, 1) := by decide +kernel
theorem dX10_wind_3 : decode cX10_wind 3 = .ok (.invokestatic 75, 3) := by decide +kernel
theorem dX10_wind_6 : decode cX10_wind 6 = .ok (.ifCond .eq 6, 3) := by decide +kernel
theorem dX10_wind_9 : decode cX10_wind 9 = .ok (.ldc 79, 2) := by decide +kernel
theorem dX10_wind_11 : decode cX10_wind 11 = .ok (.ireturn, 1) := by decide +kernel
theorem dX10_wind_12 : decode cX10_wind 12 = .ok (.aload_n 0, 1) := by decide +kernel
theorem dX10_wind_13 : decode cX10_wind 13 = .ok (.invokevirtual 219, 3) := by decide +kernel
theorem dX10_wind_16 : decode cX10_wind 16 = .ok (.ifCond .eq 6, 3) := by decide +kernel
theorem dX10_wind_19 : decode cX10_wind 19 = .ok (.ldc 223, 2) := by decide +kernel
theorem dX10_wind_21 : decode cX10_wind 21 = .ok (.ireturn, 1) := by decide +kernel
theorem dX10_wind_22 : decode cX10_wind 22 = .ok (.aload_n 0, 1) := by decide +kernel
theorem dX10_wind_23 : decode cX10_wind 23 = .ok (.getfield 40, 3) := by decide +kernel
theorem dX10_wind_26 : decode cX10_wind 26 = .ok (.aload_n 0, 1) := by decide +kernel
theorem dX10_wind_27 : decode cX10_wind 27 = .ok (.getfield 19, 3) := by decide +kernel
theorem dX10_wind_30 : decode cX10_wind 30 = .ok (.invokevirtual 225, 3) := by decide +kernel
theorem dX10_wind_33 : decode cX10_wind 33 = .ok (.aload_n 0, 1) := by decide +kernel
theorem dX10_wind_34 : decode cX10_wind 34 = .ok (.getfield 19, 3) := by decide +kernel
theorem dX10_wind_37 : decode cX10_wind 37 = .ok (.getfield 132, 3) := by decide +kernel
theorem dX10_wind_40 : decode cX10_wind 40 = .ok (.istore_n 2, 1) := by decide +kernel
theorem dX10_wind_41 : decode cX10_wind 41 = .ok (.aload_n 0, 1) := by decide +kernel
theorem dX10_wind_42 : decode cX10_wind 42 = .ok (.getfield 19, 3) := by decide +kernel
theorem dX10_wind_45 : decode cX10_wind 45 = .ok (.iload_n 1, 1) := by decide +kernel
theorem dX10_wind_46 : decode cX10_wind 46 = .ok (.putfield 132, 3) := by decide +kernel
theorem dX10_wind_49 : decode cX10_wind 49 = .ok (.iload_n 2, 1) := by decide +kernel
theorem dX10_wind_50 : decode cX10_wind 50 = .ok (.ireturn, 1) := by decide +kernel
theorem dX10_fill_0 : decode cX10_fill 0 = .ok (.aload_n 0, 1) := by decide +kernel
theorem dX10_fill_1 : decode cX10_fill 1 = .ok (.getfield 67, 3) := by decide +kernel
theorem dX10_fill_4 : decode cX10_fill 4 = .ok (.iload_n 1, 1) := by decide +kernel
theorem dX10_fill_5 : decode cX10_fill 5 = .ok (.invokevirtual 192, 3) := by decide +kernel
theorem dX10_fill_8 : decode cX10_fill 8 = .ok (.ifCond .ne 6, 3) := by decide +kernel
theorem dX10_fill_11 : decode cX10_fill 11 = .ok (.ldc 185, 2) := by decide +kernel
theorem dX10_fill_13 : decode cX10_fill 13 = .ok (.ireturn, 1) := by decide +kernel
theorem dX10_fill_14 : decode cX10_fill 14 = .ok (.aload_n 0, 1) := by decide +kernel
theorem dX10_fill_15 : decode cX10_fill 15 = .ok (.getfield 40, 3) := by decide +kernel
theorem dX10_fill_18 : decode cX10_fill 18 = .ok (.aload_n 0, 1) := by decide +kernel
theorem dX10_fill_19 : decode cX10_fill 19 = .ok (.getfield 19, 3) := by decide +kernel
theorem dX10_fill_22 : decode cX10_fill 22 = .ok (.invokevirtual 225, 3) := by decide +kernel
theorem dX10_fill_25 : decode cX10_fill 25 = .ok (.aload_n 0, 1) := by decide +kernel
theorem dX10_fill_26 : decode cX10_fill 26 = .ok (.getfield 19, 3) := by decide +kernel
theorem dX10_fill_29 : decode cX10_fill 29 = .ok (.iload_n 1, 1) := by decide +kernel
theorem dX10_fill_30 : decode cX10_fill 30 = .ok (.invokevirtual 201, 3) := by decide +kernel
theorem dX10_fill_33 : decode cX10_fill 33 = .ok (.ifCond .eq 7, 3) := by decide +kernel
theorem dX10_fill_36 : decode cX10_fill 36 = .ok (.iconst 1, 1) := by decide +kernel
theorem dX10_fill_37 : decode cX10_fill 37 = .ok (.goto 4, 3) := by decide +kernel
theorem dX10_fill_40 : decode cX10_fill 40 = .ok (.iconst 0, 1) := by decide +kernel
theorem dX10_fill_41 : decode cX10_fill 41 = .ok (.istore_n 3, 1) := by decide +kernel
theorem dX10_fill_42 : decode cX10_fill 42 = .ok (.aload_n 0, 1) := by decide +kernel
theorem dX10_fill_43 : decode cX10_fill 43 = .ok (.getfield 19, 3) := by decide +kernel
theorem dX10_fill_46 : decode cX10_fill 46 = .ok (.iload_n 2, 1) := by decide +kernel
theorem dX10_fill_47 : decode cX10_fill 47 = .ok (.ifCond .eq 17, 3) := by decide +kernel
theorem dX10_fill_50 : decode cX10_fill 50 = .ok (.aload_n 0, 1) := by decide +kernel
theorem dX10_fill_51 : decode cX10_fill 51 = .ok (.getfield 19, 3) := by decide +kernel
theorem dX10_fill_54 : decode cX10_fill 54 = .ok (.getfield 138, 3) := by decide +kernel
theorem dX10_fill_57 : decode cX10_fill 57 = .ok (.iconst 1, 1) := by decide +kernel
theorem dX10_fill_58 : decode cX10_fill 58 = .ok (.iload_n 1, 1) := by decide +kernel
theorem dX10_fill_59 : decode cX10_fill 59 = .ok (.ishl, 1) := by decide +kernel
theorem dX10_fill_60 : decode cX10_fill 60 = .ok (.ior, 1) := by decide +kernel
theorem dX10_fill_61 : decode cX10_fill 61 = .ok (.goto 16, 3) := by decide +kernel
theorem dX10_fill_64 : decode cX10_fill 64 = .ok (.aload_n 0, 1) := by decide +kernel
theorem dX10_fill_65 : decode cX10_fill 65 = .ok (.getfield 19, 3) := by decide +kernel
theorem dX10_fill_68 : decode cX10_fill 68 = .ok (.getfield 138, 3) := by decide +kernel
theorem dX10_fill_71 : decode cX10_fill 71 = .ok (.iconst 1, 1) := by decide +kernel
theorem dX10_fill_72 : decode cX10_fill 72 = .ok (.iload_n 1, 1) := by decide +kernel
theorem dX10_fill_73 : decode cX10_fill 73 = .ok (.ishl, 1) := by decide +kernel
theorem dX10_fill_74 : decode cX10_fill 74 = .ok (.iconst (-1), 1) := by decide +kernel
theorem dX10_fill_75 : decode cX10_fill 75 = .ok (.ixor, 1) := by decide +kernel
theorem dX10_fill_76 : decode cX10_fill 76 = .ok (.iand, 1) := by decide +kernel
theorem dX10_fill_77 : decode cX10_fill 77 = .ok (.putfield 138, 3) := by decide +kernel
theorem dX10_fill_80 : decode cX10_fill 80 = .ok (.iload_n 3, 1) := by decide +kernel
theorem dX10_fill_81 : decode cX10_fill 81 = .ok (.ireturn, 1) := by decide +kernel
theorem dX10_drift_0 : decode cX10_drift 0 = .ok (.iload_n 1, 1) := by decide +kernel
theorem dX10_drift_1 : decode cX10_drift 1 = .ok (.iconst 1, 1) := by decide +kernel
theorem dX10_drift_2 : decode cX10_drift 2 = .ok (.bipush 60, 2) := by decide +kernel
theorem dX10_drift_4 : decode cX10_drift 4 = .ok (.invokestatic 75, 3) := by decide +kernel
theorem dX10_drift_7 : decode cX10_drift 7 = .ok (.ifCond .eq 6, 3) := by decide +kernel
theorem dX10_drift_10 : decode cX10_drift 10 = .ok (.ldc 79, 2) := by decide +kernel
theorem dX10_drift_12 : decode cX10_drift 12 = .ok (.ireturn, 1) := by decide +kernel
theorem dX10_drift_13 : decode cX10_drift 13 = .ok (.aload_n 0, 1) := by decide +kernel
theorem dX10_drift_14 : decode cX10_drift 14 = .ok (.invokevirtual 219, 3) := by decide +kernel
theorem dX10_drift_17 : decode cX10_drift 17 = .ok (.ifCond .eq 6, 3) := by decide +kernel
theorem dX10_drift_20 : decode cX10_drift 20 = .ok (.ldc 223, 2) := by decide +kernel
theorem dX10_drift_22 : decode cX10_drift 22 = .ok (.ireturn, 1) := by decide +kernel
theorem dX10_drift_23 : decode cX10_drift 23 = .ok (.aload_n 0, 1) := by decide +kernel
theorem dX10_drift_24 : decode cX10_drift 24 = .ok (.getfield 19, 3) := by decide +kernel
theorem dX10_drift_27 : decode cX10_drift 27 = .ok (.getfield 129, 3) := by decide +kernel
theorem dX10_drift_30 : decode cX10_drift 30 = .ok (.sipush 9000, 3) := by decide +kernel
theorem dX10_drift_33 : decode cX10_drift 33 = .ok (.if_icmp .le 6, 3) := by decide +kernel
theorem dX10_drift_36 : decode cX10_drift 36 = .ok (.ldc 224, 2) := by decide +kernel
theorem dX10_drift_38 : decode cX10_drift 38 = .ok (.ireturn, 1) := by decide +kernel
theorem dX10_drift_39 : decode cX10_drift 39 = .ok (.aload_n 0, 1) := by decide +kernel
theorem dX10_drift_40 : decode cX10_drift 40 = .ok (.getfield 40, 3) := by decide +kernel
theorem dX10_drift_43 : decode cX10_drift 43 = .ok (.aload_n 0, 1) := by decide +kernel
theorem dX10_drift_44 : decode cX10_drift 44 = .ok (.getfield 19, 3) := by decide +kernel
theorem dX10_drift_47 : decode cX10_drift 47 = .ok (.invokevirtual 225, 3) := by decide +kernel
theorem dX10_drift_50 : decode cX10_drift 50 = .ok (.iconst 0, 1) := by decide +kernel
theorem dX10_drift_51 : decode cX10_drift 51 = .ok (.istore_n 2, 1) := by decide +kernel
theorem dX10_drift_52 : decode cX10_drift 52 = .ok (.iload_n 2, 1) := by decide +kernel
theorem dX10_drift_53 : decode cX10_drift 53 = .ok (.iload_n 1, 1) := by decide +kernel
theorem dX10_drift_54 : decode cX10_drift 54 = .ok (.if_icmp .ge 13, 3) := by decide +kernel
theorem dX10_drift_57 : decode cX10_drift 57 = .ok (.aload_n 0, 1) := by decide +kernel
theorem dX10_drift_58 : decode cX10_drift 58 = .ok (.invokevirtual 243, 3) := by decide +kernel
theorem dX10_drift_61 : decode cX10_drift 61 = .ok (.iinc 2 1, 3) := by decide +kernel
theorem dX10_drift_64 : decode cX10_drift 64 = .ok (.goto (-12), 3) := by decide +kernel
theorem dX10_drift_67 : decode cX10_drift 67 = .ok (.aload_n 0, 1) := by decide +kernel
theorem dX10_drift_68 : decode cX10_drift 68 = .ok (.getfield 19, 3) := by decide +kernel
theorem dX10_drift_71 : decode cX10_drift 71 = .ok (.invokevirtual 233, 3) := by decide +kernel
theorem dX10_drift_74 : decode cX10_drift 74 = .ok (.ireturn, 1) := by decide +kernel
theorem dX10_undo_0 : decode cX10_undo 0 = .ok (.aload_n 0, 1) := by decide +kernel
theorem dX10_undo_1 : decode cX10_undo 1 = .ok (.getfield 40, 3) := by decide +kernel
theorem dX10_undo_4 : decode cX10_undo 4 = .ok (.aload_n 0, 1) := by decide +kernel
theorem dX10_undo_5 : decode cX10_undo 5 = .ok (.getfield 19, 3) := by decide +kernel
theorem dX10_undo_8 : decode cX10_undo 8 = .ok (.invokevirtual 246, 3) := by decide +kernel
theorem dX10_undo_11 : decode cX10_undo 11 = .ok (.ifCond .eq 13, 3) := by decide +kernel
theorem dX10_undo_14 : decode cX10_undo 14 = .ok (.aload_n 0, 1) := by decide +kernel
theorem dX10_undo_15 : decode cX10_undo 15 = .ok (.getfield 40, 3) := by decide +kernel
theorem dX10_undo_18 : decode cX10_undo 18 = .ok (.getfield 172, 3) := by decide +kernel
theorem dX10_undo_21 : decode cX10_undo 21 = .ok (.goto 5, 3) := by decide +kernel
theorem dX10_undo_24 : decode cX10_undo 24 = .ok (.ldc 223, 2) := by decide +kernel
theorem dX10_undo_26 : decode cX10_undo 26 = .ok (.ireturn, 1) := by decide +kernel
theorem dX10_shown_0 : decode cX10_shown 0 = .ok (.iload_n 1, 1) := by decide +kernel
theorem dX10_shown_1 : decode cX10_shown 1 = .ok (.iconst 0, 1) := by decide +kernel
theorem dX10_shown_2 : decode cX10_shown 2 = .ok (.bipush 60, 2) := by decide +kernel
theorem dX10_shown_4 : decode cX10_shown 4 = .ok (.invokestatic 75, 3) := by decide +kernel
theorem dX10_shown_7 : decode cX10_shown 7 = .ok (.ifCond .ne 13, 3) := by decide +kernel
theorem dX10_shown_10 : decode cX10_shown 10 = .ok (.iload_n 2, 1) := by decide +kernel
theorem dX10_shown_11 : decode cX10_shown 11 = .ok (.iconst 0, 1) := by decide +kernel
theorem dX10_shown_12 : decode cX10_shown 12 = .ok (.bipush 9, 2) := by decide +kernel
theorem dX10_shown_14 : decode cX10_shown 14 = .ok (.invokestatic 75, 3) := by decide +kernel
theorem dX10_shown_17 : decode cX10_shown 17 = .ok (.ifCond .eq 6, 3) := by decide +kernel
theorem dX10_shown_20 : decode cX10_shown 20 = .ok (.ldc 79, 2) := by decide +kernel
theorem dX10_shown_22 : decode cX10_shown 22 = .ok (.ireturn, 1) := by decide +kernel
theorem dX10_shown_23 : decode cX10_shown 23 = .ok (.aload_n 0, 1) := by decide +kernel
theorem dX10_shown_24 : decode cX10_shown 24 = .ok (.invokevirtual 219, 3) := by decide +kernel
theorem dX10_shown_27 : decode cX10_shown 27 = .ok (.ifCond .eq 8, 3) := by decide +kernel
theorem dX10_shown_30 : decode cX10_shown 30 = .ok (.ldc 223, 2) := by decide +kernel
theorem dX10_shown_32 : decode cX10_shown 32 = .ok (.goto 20, 3) := by decide +kernel
theorem dX10_shown_35 : decode cX10_shown 35 = .ok (.aload_n 0, 1) := by decide +kernel
theorem dX10_shown_36 : decode cX10_shown 36 = .ok (.getfield 33, 3) := by decide +kernel
theorem dX10_shown_39 : decode cX10_shown 39 = .ok (.aload_n 0, 1) := by decide +kernel
theorem dX10_shown_40 : decode cX10_shown 40 = .ok (.getfield 67, 3) := by decide +kernel
theorem dX10_shown_43 : decode cX10_shown 43 = .ok (.aload_n 0, 1) := by decide +kernel
theorem dX10_shown_44 : decode cX10_shown 44 = .ok (.getfield 19, 3) := by decide +kernel
theorem dX10_shown_47 : decode cX10_shown 47 = .ok (.iload_n 1, 1) := by decide +kernel
theorem dX10_shown_48 : decode cX10_shown 48 = .ok (.iload_n 2, 1) := by decide +kernel
theorem dX10_shown_49 : decode cX10_shown 49 = .ok (.invokevirtual 250, 3) := by decide +kernel
theorem dX10_shown_52 : decode cX10_shown 52 = .ok (.ireturn, 1) := by decide +kernel
theorem dX10_first_0 : decode cX10_first 0 = .ok (.iload_n 1, 1) := by decide +kernel
theorem dX10_first_1 : decode cX10_first 1 = .ok (.iconst 0, 1) := by decide +kernel
theorem dX10_first_2 : decode cX10_first 2 = .ok (.bipush 25, 2) := by decide +kernel
theorem dX10_first_4 : decode cX10_first 4 = .ok (.invokestatic 75, 3) := by decide +kernel
theorem dX10_first_7 : decode cX10_first 7 = .ok (.ifCond .ne 13, 3) := by decide +kernel
theorem dX10_first_10 : decode cX10_first 10 = .ok (.iload_n 2, 1) := by decide +kernel
theorem dX10_first_11 : decode cX10_first 11 = .ok (.iconst 0, 1) := by decide +kernel
theorem dX10_first_12 : decode cX10_first 12 = .ok (.bipush 9, 2) := by decide +kernel
theorem dX10_first_14 : decode cX10_first 14 = .ok (.invokestatic 75, 3) := by decide +kernel
theorem dX10_first_17 : decode cX10_first 17 = .ok (.ifCond .eq 6, 3) := by decide +kernel
theorem dX10_first_20 : decode cX10_first 20 = .ok (.ldc 79, 2) := by decide +kernel
theorem dX10_first_22 : decode cX10_first 22 = .ok (.ireturn, 1) := by decide +kernel
theorem dX10_first_23 : decode cX10_first 23 = .ok (.aload_n 0, 1) := by decide +kernel
theorem dX10_first_24 : decode cX10_first 24 = .ok (.invokevirtual 219, 3) := by decide +kernel
theorem dX10_first_27 : decode cX10_first 27 = .ok (.ifCond .eq 8, 3) := by decide +kernel
theorem dX10_first_30 : decode cX10_first 30 = .ok (.ldc 223, 2) := by decide +kernel
theorem dX10_first_32 : decode cX10_first 32 = .ok (.goto 20, 3) := by decide +kernel
theorem dX10_first_35 : decode cX10_first 35 = .ok (.aload_n 0, 1) := by decide +kernel
theorem dX10_first_36 : decode cX10_first 36 = .ok (.getfield 33, 3) := by decide +kernel
theorem dX10_first_39 : decode cX10_first 39 = .ok (.aload_n 0, 1) := by decide +kernel
theorem dX10_first_40 : decode cX10_first 40 = .ok (.getfield 67, 3) := by decide +kernel
theorem dX10_first_43 : decode cX10_first 43 = .ok (.aload_n 0, 1) := by decide +kernel
theorem dX10_first_44 : decode cX10_first 44 = .ok (.getfield 19, 3) := by decide +kernel
theorem dX10_first_47 : decode cX10_first 47 = .ok (.iload_n 1, 1) := by decide +kernel
theorem dX10_first_48 : decode cX10_first 48 = .ok (.iload_n 2, 1) := by decide +kernel
theorem dX10_first_49 : decode cX10_first 49 = .ok (.invokevirtual 254, 3) := by decide +kernel
theorem dX10_first_52 : decode cX10_first 52 = .ok (.ireturn, 1) := by decide +kernel
theorem dX10_leadTo_0 : decode cX10_leadTo 0 = .ok (.aload_n 0, 1) := by decide +kernel
theorem dX10_leadTo_1 : decode cX10_leadTo 1 = .ok (.getfield 67, 3) := by decide +kernel
theorem dX10_leadTo_4 : decode cX10_leadTo 4 = .ok (.iload_n 1, 1) := by decide +kernel
theorem dX10_leadTo_5 : decode cX10_leadTo 5 = .ok (.invokevirtual 186, 3) := by decide +kernel
theorem dX10_leadTo_8 : decode cX10_leadTo 8 = .ok (.ifCond .eq 14, 3) := by decide +kernel
theorem dX10_leadTo_11 : decode cX10_leadTo 11 = .ok (.aload_n 0, 1) := by decide +kernel
theorem dX10_leadTo_12 : decode cX10_leadTo 12 = .ok (.getfield 67, 3) := by decide +kernel
theorem dX10_leadTo_15 : decode cX10_leadTo 15 = .ok (.iload_n 2, 1) := by decide +kernel
theorem dX10_leadTo_16 : decode cX10_leadTo 16 = .ok (.invokevirtual 204, 3) := by decide +kernel
theorem dX10_leadTo_19 : decode cX10_leadTo 19 = .ok (.ifCond .ne 6, 3) := by decide +kernel
theorem dX10_leadTo_22 : decode cX10_leadTo 22 = .ok (.ldc 185, 2) := by decide +kernel
theorem dX10_leadTo_24 : decode cX10_leadTo 24 = .ok (.ireturn, 1) := by decide +kernel
theorem dX10_leadTo_25 : decode cX10_leadTo 25 = .ok (.iload_n 3, 1) := by decide +kernel
theorem dX10_leadTo_26 : decode cX10_leadTo 26 = .ok (.iconst 1, 1) := by decide +kernel
theorem dX10_leadTo_27 : decode cX10_leadTo 27 = .ok (.bipush 20, 2) := by decide +kernel
theorem dX10_leadTo_29 : decode cX10_leadTo 29 = .ok (.invokestatic 75, 3) := by decide +kernel
theorem dX10_leadTo_32 : decode cX10_leadTo 32 = .ok (.ifCond .ne 24, 3) := by decide +kernel
theorem dX10_leadTo_35 : decode cX10_leadTo 35 = .ok (.iload 4, 2) := by decide +kernel
theorem dX10_leadTo_37 : decode cX10_leadTo 37 = .ok (.iconst 0, 1) := by decide +kernel
theorem dX10_leadTo_38 : decode cX10_leadTo 38 = .ok (.bipush 9, 2) := by decide +kernel
theorem dX10_leadTo_40 : decode cX10_leadTo 40 = .ok (.invokestatic 75, 3) := by decide +kernel
theorem dX10_leadTo_43 : decode cX10_leadTo 43 = .ok (.ifCond .ne 13, 3) := by decide +kernel
theorem dX10_leadTo_46 : decode cX10_leadTo 46 = .ok (.iload 5, 2) := by decide +kernel
theorem dX10_leadTo_48 : decode cX10_leadTo 48 = .ok (.iconst 0, 1) := by decide +kernel
theorem dX10_leadTo_49 : decode cX10_leadTo 49 = .ok (.iconst 1, 1) := by decide +kernel
theorem dX10_leadTo_50 : decode cX10_leadTo 50 = .ok (.invokestatic 75, 3) := by decide +kernel
theorem dX10_leadTo_53 : decode cX10_leadTo 53 = .ok (.ifCond .eq 6, 3) := by decide +kernel
theorem dX10_leadTo_56 : decode cX10_leadTo 56 = .ok (.ldc 79, 2) := by decide +kernel
theorem dX10_leadTo_58 : decode cX10_leadTo 58 = .ok (.ireturn, 1) := by decide +kernel
theorem dX10_leadTo_59 : decode cX10_leadTo 59 = .ok (.aload_n 0, 1) := by decide +kernel
theorem dX10_leadTo_60 : decode cX10_leadTo 60 = .ok (.getfield 33, 3) := by decide +kernel
theorem dX10_leadTo_63 : decode cX10_leadTo 63 = .ok (.aload_n 0, 1) := by decide +kernel
theorem dX10_leadTo_64 : decode cX10_leadTo 64 = .ok (.getfield 67, 3) := by decide +kernel
theorem dX10_leadTo_67 : decode cX10_leadTo 67 = .ok (.aload_n 0, 1) := by decide +kernel
theorem dX10_leadTo_68 : decode cX10_leadTo 68 = .ok (.getfield 19, 3) := by decide +kernel
theorem dX10_leadTo_71 : decode cX10_leadTo 71 = .ok (.iload_n 1, 1) := by decide +kernel
theorem dX10_leadTo_72 : decode cX10_leadTo 72 = .ok (.aload_n 0, 1) := by decide +kernel
theorem dX10_leadTo_73 : decode cX10_leadTo 73 = .ok (.getfield 67, 3) := by decide +kernel
theorem dX10_leadTo_76 : decode cX10_leadTo 76 = .ok (.getfield 207, 3) := by decide +kernel
theorem dX10_leadTo_79 : decode cX10_leadTo 79 = .ok (.iload_n 2, 1) := by decide +kernel
theorem dX10_leadTo_80 : decode cX10_leadTo 80 = .ok (.invokestatic 181, 3) := by decide +kernel
theorem dX10_leadTo_83 : decode cX10_leadTo 83 = .ok (.iload_n 3, 1) := by decide +kernel
theorem dX10_leadTo_84 : decode cX10_leadTo 84 = .ok (.iload 4, 2) := by decide +kernel
theorem dX10_leadTo_86 : decode cX10_leadTo 86 = .ok (.invokevirtual 257, 3) := by decide +kernel
theorem dX10_leadTo_89 : decode cX10_leadTo 89 = .ok (.iload 5, 2) := by decide +kernel
theorem dX10_leadTo_91 : decode cX10_leadTo 91 = .ok (.ifCond .ne 13, 3) := by decide +kernel
theorem dX10_leadTo_94 : decode cX10_leadTo 94 = .ok (.aload_n 0, 1) := by decide +kernel
theorem dX10_leadTo_95 : decode cX10_leadTo 95 = .ok (.getfield 33, 3) := by decide +kernel
theorem dX10_leadTo_98 : decode cX10_leadTo 98 = .ok (.getfield 261, 3) := by decide +kernel
theorem dX10_leadTo_101 : decode cX10_leadTo 101 = .ok (.goto 10, 3) := by decide +kernel
theorem dX10_leadTo_104 : decode cX10_leadTo 104 = .ok (.aload_n 0, 1) := by decide +kernel
theorem dX10_leadTo_105 : decode cX10_leadTo 105 = .ok (.getfield 33, 3) := by decide +kernel
theorem dX10_leadTo_108 : decode cX10_leadTo 108 = .ok (.getfield 264, 3) := by decide +kernel
theorem dX10_leadTo_111 : decode cX10_leadTo 111 = .ok (.ireturn, 1) := by decide +kernel
theorem dX10_often_0 : decode cX10_often 0 = .ok (.iload_n 1, 1) := by decide +kernel
theorem dX10_often_1 : decode cX10_often 1 = .ok (.iconst 1, 1) := by decide +kernel
theorem dX10_often_2 : decode cX10_often 2 = .ok (.bipush 8, 2) := by decide +kernel
theorem dX10_often_4 : decode cX10_often 4 = .ok (.invokestatic 75, 3) := by decide +kernel
theorem dX10_often_7 : decode cX10_often 7 = .ok (.ifCond .ne 33, 3) := by decide +kernel
theorem dX10_often_10 : decode cX10_often 10 = .ok (.iload_n 2, 1) := by decide +kernel
theorem dX10_often_11 : decode cX10_often 11 = .ok (.iconst 0, 1) := by decide +kernel
theorem dX10_often_12 : decode cX10_often 12 = .ok (.bipush 9, 2) := by decide +kernel
theorem dX10_often_14 : decode cX10_often 14 = .ok (.invokestatic 75, 3) := by decide +kernel
theorem dX10_often_17 : decode cX10_often 17 = .ok (.ifCond .ne 23, 3) := by decide +kernel
theorem dX10_often_20 : decode cX10_often 20 = .ok (.iload_n 3, 1) := by decide +kernel
theorem dX10_often_21 : decode cX10_often 21 = .ok (.iconst 0, 1) := by decide +kernel
theorem dX10_often_22 : decode cX10_often 22 = .ok (.bipush 25, 2) := by decide +kernel
theorem dX10_often_24 : decode cX10_often 24 = .ok (.invokestatic 75, 3) := by decide +kernel
theorem dX10_often_27 : decode cX10_often 27 = .ok (.ifCond .ne 13, 3) := by decide +kernel
theorem dX10_often_30 : decode cX10_often 30 = .ok (.iload 4, 2) := by decide +kernel
theorem dX10_often_32 : decode cX10_often 32 = .ok (.iconst 0, 1) := by decide +kernel
theorem dX10_often_33 : decode cX10_often 33 = .ok (.iconst 1, 1) := by decide +kernel
theorem dX10_often_34 : decode cX10_often 34 = .ok (.invokestatic 75, 3) := by decide +kernel
theorem dX10_often_37 : decode cX10_often 37 = .ok (.ifCond .eq 6, 3) := by decide +kernel
theorem dX10_often_40 : decode cX10_often 40 = .ok (.ldc 79, 2) := by decide +kernel
theorem dX10_often_42 : decode cX10_often 42 = .ok (.ireturn, 1) := by decide +kernel
theorem dX10_often_43 : decode cX10_often 43 = .ok (.aload_n 0, 1) := by decide +kernel
theorem dX10_often_44 : decode cX10_often 44 = .ok (.invokevirtual 219, 3) := by decide +kernel
theorem dX10_often_47 : decode cX10_often 47 = .ok (.ifCond .eq 6, 3) := by decide +kernel
theorem dX10_often_50 : decode cX10_often 50 = .ok (.ldc 223, 2) := by decide +kernel
theorem dX10_often_52 : decode cX10_often 52 = .ok (.ireturn, 1) := by decide +kernel
theorem dX10_often_53 : decode cX10_often 53 = .ok (.aload_n 0, 1) := by decide +kernel
theorem dX10_often_54 : decode cX10_often 54 = .ok (.getfield 33, 3) := by decide +kernel
theorem dX10_often_57 : decode cX10_often 57 = .ok (.aload_n 0, 1) := by decide +kernel
theorem dX10_often_58 : decode cX10_often 58 = .ok (.getfield 67, 3) := by decide +kernel
theorem dX10_often_61 : decode cX10_often 61 = .ok (.aload_n 0, 1) := by decide +kernel
theorem dX10_often_62 : decode cX10_often 62 = .ok (.getfield 19, 3) := by decide +kernel
theorem dX10_often_65 : decode cX10_often 65 = .ok (.iload_n 1, 1) := by decide +kernel
theorem dX10_often_66 : decode cX10_often 66 = .ok (.iload_n 2, 1) := by decide +kernel
theorem dX10_often_67 : decode cX10_often 67 = .ok (.iload_n 3, 1) := by decide +kernel
theorem dX10_often_68 : decode cX10_often 68 = .ok (.invokevirtual 267, 3) := by decide +kernel
theorem dX10_often_71 : decode cX10_often 71 = .ok (.iload 4, 2) := by decide +kernel
theorem dX10_often_73 : decode cX10_often 73 = .ok (.ifCond .ne 13, 3) := by decide +kernel
theorem dX10_often_76 : decode cX10_often 76 = .ok (.aload_n 0, 1) := by decide +kernel
theorem dX10_often_77 : decode cX10_often 77 = .ok (.getfield 33, 3) := by decide +kernel
theorem dX10_often_80 : decode cX10_often 80 = .ok (.getfield 264, 3) := by decide +kernel
theorem dX10_often_83 : decode cX10_often 83 = .ok (.goto 10, 3) := by decide +kernel
theorem dX10_often_86 : decode cX10_often 86 = .ok (.aload_n 0, 1) := by decide +kernel
theorem dX10_often_87 : decode cX10_often 87 = .ok (.getfield 33, 3) := by decide +kernel
theorem dX10_often_90 : decode cX10_often 90 = .ok (.getfield 261, 3) := by decide +kernel
theorem dX10_often_93 : decode cX10_often 93 = .ok (.ireturn, 1) := by decide +kernel
theorem dX10_wasRain_0 : decode cX10_wasRain 0 = .ok (.iload_n 1, 1) := by decide +kernel
theorem dX10_wasRain_1 : decode cX10_wasRain 1 = .ok (.aload_n 0, 1) := by decide +kernel
theorem dX10_wasRain_2 : decode cX10_wasRain 2 = .ok (.getfield 67, 3) := by decide +kernel
theorem dX10_wasRain_5 : decode cX10_wasRain 5 = .ok (.invokevirtual 271, 3) := by decide +kernel
theorem dX10_wasRain_8 : decode cX10_wasRain 8 = .ok (.iconst (-1), 1) := by decide +kernel
theorem dX10_wasRain_9 : decode cX10_wasRain 9 = .ok (.ixor, 1) := by decide +kernel
theorem dX10_wasRain_10 : decode cX10_wasRain 10 = .ok (.iand, 1) := by decide +kernel
theorem dX10_wasRain_11 : decode cX10_wasRain 11 = .ok (.ifCond .eq 6, 3) := by decide +kernel
theorem dX10_wasRain_14 : decode cX10_wasRain 14 = .ok (.ldc 185, 2) := by decide +kernel
theorem dX10_wasRain_16 : decode cX10_wasRain 16 = .ok (.ireturn, 1) := by decide +kernel
theorem dX10_wasRain_17 : decode cX10_wasRain 17 = .ok (.aload_n 0, 1) := by decide +kernel
theorem dX10_wasRain_18 : decode cX10_wasRain 18 = .ok (.invokevirtual 219, 3) := by decide +kernel
theorem dX10_wasRain_21 : decode cX10_wasRain 21 = .ok (.ifCond .eq 8, 3) := by decide +kernel
theorem dX10_wasRain_24 : decode cX10_wasRain 24 = .ok (.ldc 223, 2) := by decide +kernel
theorem dX10_wasRain_26 : decode cX10_wasRain 26 = .ok (.goto 19, 3) := by decide +kernel
theorem dX10_wasRain_29 : decode cX10_wasRain 29 = .ok (.aload_n 0, 1) := by decide +kernel
theorem dX10_wasRain_30 : decode cX10_wasRain 30 = .ok (.getfield 33, 3) := by decide +kernel
theorem dX10_wasRain_33 : decode cX10_wasRain 33 = .ok (.aload_n 0, 1) := by decide +kernel
theorem dX10_wasRain_34 : decode cX10_wasRain 34 = .ok (.getfield 67, 3) := by decide +kernel
theorem dX10_wasRain_37 : decode cX10_wasRain 37 = .ok (.aload_n 0, 1) := by decide +kernel
theorem dX10_wasRain_38 : decode cX10_wasRain 38 = .ok (.getfield 19, 3) := by decide +kernel
theorem dX10_wasRain_41 : decode cX10_wasRain 41 = .ok (.iload_n 1, 1) := by decide +kernel
theorem dX10_wasRain_42 : decode cX10_wasRain 42 = .ok (.invokevirtual 274, 3) := by decide +kernel
theorem dX10_wasRain_45 : decode cX10_wasRain 45 = .ok (.ireturn, 1) := by decide +kernel
theorem dX10_rainToTell_0 : decode cX10_rainToTell 0 = .ok (.iload_n 1, 1) := by decide +kernel
theorem dX10_rainToTell_1 : decode cX10_rainToTell 1 = .ok (.iconst 0, 1) := by decide +kernel
theorem dX10_rainToTell_2 : decode cX10_rainToTell 2 = .ok (.iconst 1, 1) := by decide +kernel
theorem dX10_rainToTell_3 : decode cX10_rainToTell 3 = .ok (.invokestatic 75, 3) := by decide +kernel
theorem dX10_rainToTell_6 : decode cX10_rainToTell 6 = .ok (.ifCond .eq 6, 3) := by decide +kernel
theorem dX10_rainToTell_9 : decode cX10_rainToTell 9 = .ok (.ldc 79, 2) := by decide +kernel
theorem dX10_rainToTell_11 : decode cX10_rainToTell 11 = .ok (.ireturn, 1) := by decide +kernel
theorem dX10_rainToTell_12 : decode cX10_rainToTell 12 = .ok (.aload_n 0, 1) := by decide +kernel
theorem dX10_rainToTell_13 : decode cX10_rainToTell 13 = .ok (.invokevirtual 219, 3) := by decide +kernel
theorem dX10_rainToTell_16 : decode cX10_rainToTell 16 = .ok (.ifCond .eq 6, 3) := by decide +kernel
theorem dX10_rainToTell_19 : decode cX10_rainToTell 19 = .ok (.ldc 223, 2) := by decide +kernel
theorem dX10_rainToTell_21 : decode cX10_rainToTell 21 = .ok (.ireturn, 1) := by decide +kernel
theorem dX10_rainToTell_22 : decode cX10_rainToTell 22 = .ok (.aload_n 0, 1) := by decide +kernel
theorem dX10_rainToTell_23 : decode cX10_rainToTell 23 = .ok (.getfield 33, 3) := by decide +kernel
theorem dX10_rainToTell_26 : decode cX10_rainToTell 26 = .ok (.aload_n 0, 1) := by decide +kernel
theorem dX10_rainToTell_27 : decode cX10_rainToTell 27 = .ok (.getfield 67, 3) := by decide +kernel
theorem dX10_rainToTell_30 : decode cX10_rainToTell 30 = .ok (.aload_n 0, 1) := by decide +kernel
theorem dX10_rainToTell_31 : decode cX10_rainToTell 31 = .ok (.getfield 19, 3) := by decide +kernel
theorem dX10_rainToTell_34 : decode cX10_rainToTell 34 = .ok (.invokevirtual 278, 3) := by decide +kernel
theorem dX10_rainToTell_37 : decode cX10_rainToTell 37 = .ok (.iload_n 1, 1) := by decide +kernel
theorem dX10_rainToTell_38 : decode cX10_rainToTell 38 = .ok (.ifCond .ne 13, 3) := by decide +kernel
theorem dX10_rainToTell_41 : decode cX10_rainToTell 41 = .ok (.aload_n 0, 1) := by decide +kernel
theorem dX10_rainToTell_42 : decode cX10_rainToTell 42 = .ok (.getfield 33, 3) := by decide +kernel
theorem dX10_rainToTell_45 : decode cX10_rainToTell 45 = .ok (.getfield 261, 3) := by decide +kernel
theorem dX10_rainToTell_48 : decode cX10_rainToTell 48 = .ok (.goto 10, 3) := by decide +kernel
theorem dX10_rainToTell_51 : decode cX10_rainToTell 51 = .ok (.aload_n 0, 1) := by decide +kernel
theorem dX10_rainToTell_52 : decode cX10_rainToTell 52 = .ok (.getfield 33, 3) := by decide +kernel
theorem dX10_rainToTell_55 : decode cX10_rainToTell 55 = .ok (.getfield 264, 3) := by decide +kernel
theorem dX10_rainToTell_58 : decode cX10_rainToTell 58 = .ok (.ireturn, 1) := by decide +kernel
theorem dX10_dryIn_0 : decode cX10_dryIn 0 = .ok (.aload_n 0, 1) := by decide +kernel
theorem dX10_dryIn_1 : decode cX10_dryIn 1 = .ok (.invokevirtual 219, 3) := by decide +kernel
theorem dX10_dryIn_4 : decode cX10_dryIn 4 = .ok (.ifCond .eq 8, 3) := by decide +kernel
theorem dX10_dryIn_7 : decode cX10_dryIn 7 = .ok (.ldc 223, 2) := by decide +kernel
theorem dX10_dryIn_9 : decode cX10_dryIn 9 = .ok (.goto 18, 3) := by decide +kernel
theorem dX10_dryIn_12 : decode cX10_dryIn 12 = .ok (.aload_n 0, 1) := by decide +kernel
theorem dX10_dryIn_13 : decode cX10_dryIn 13 = .ok (.getfield 33, 3) := by decide +kernel
theorem dX10_dryIn_16 : decode cX10_dryIn 16 = .ok (.aload_n 0, 1) := by decide +kernel
theorem dX10_dryIn_17 : decode cX10_dryIn 17 = .ok (.getfield 67, 3) := by decide +kernel
theorem dX10_dryIn_20 : decode cX10_dryIn 20 = .ok (.aload_n 0, 1) := by decide +kernel
theorem dX10_dryIn_21 : decode cX10_dryIn 21 = .ok (.getfield 19, 3) := by decide +kernel
theorem dX10_dryIn_24 : decode cX10_dryIn 24 = .ok (.invokevirtual 282, 3) := by decide +kernel
theorem dX10_dryIn_27 : decode cX10_dryIn 27 = .ok (.ireturn, 1) := by decide +kernel
theorem dX10_either_0 : decode cX10_either 0 = .ok (.aload_n 0, 1) := by decide +kernel
theorem dX10_either_1 : decode cX10_either 1 = .ok (.getfield 67, 3) := by decide +kernel
theorem dX10_either_4 : decode cX10_either 4 = .ok (.iload_n 1, 1) := by decide +kernel
theorem dX10_either_5 : decode cX10_either 5 = .ok (.invokevirtual 204, 3) := by decide +kernel
theorem dX10_either_8 : decode cX10_either 8 = .ok (.ifCond .eq 14, 3) := by decide +kernel
theorem dX10_either_11 : decode cX10_either 11 = .ok (.aload_n 0, 1) := by decide +kernel
theorem dX10_either_12 : decode cX10_either 12 = .ok (.getfield 67, 3) := by decide +kernel
theorem dX10_either_15 : decode cX10_either 15 = .ok (.iload_n 2, 1) := by decide +kernel
theorem dX10_either_16 : decode cX10_either 16 = .ok (.invokevirtual 204, 3) := by decide +kernel
theorem dX10_either_19 : decode cX10_either 19 = .ok (.ifCond .ne 6, 3) := by decide +kernel
theorem dX10_either_22 : decode cX10_either 22 = .ok (.ldc 185, 2) := by decide +kernel
theorem dX10_either_24 : decode cX10_either 24 = .ok (.ireturn, 1) := by decide +kernel
theorem dX10_either_25 : decode cX10_either 25 = .ok (.aload_n 0, 1) := by decide +kernel
theorem dX10_either_26 : decode cX10_either 26 = .ok (.getfield 67, 3) := by decide +kernel
theorem dX10_either_29 : decode cX10_either 29 = .ok (.getfield 207, 3) := by decide +kernel
theorem dX10_either_32 : decode cX10_either 32 = .ok (.iload_n 1, 1) := by decide +kernel
theorem dX10_either_33 : decode cX10_either 33 = .ok (.invokestatic 181, 3) := by decide +kernel
theorem dX10_either_36 : decode cX10_either 36 = .ok (.istore 4, 2) := by decide +kernel
theorem dX10_either_38 : decode cX10_either 38 = .ok (.iload 4, 2) := by decide +kernel
theorem dX10_either_40 : decode cX10_either 40 = .ok (.aload_n 0, 1) := by decide +kernel
theorem dX10_either_41 : decode cX10_either 41 = .ok (.getfield 67, 3) := by decide +kernel
theorem dX10_either_44 : decode cX10_either 44 = .ok (.getfield 207, 3) := by decide +kernel
theorem dX10_either_47 : decode cX10_either 47 = .ok (.iload_n 2, 1) := by decide +kernel
theorem dX10_either_48 : decode cX10_either 48 = .ok (.invokestatic 181, 3) := by decide +kernel
theorem dX10_either_51 : decode cX10_either 51 = .ok (.ixor, 1) := by decide +kernel
theorem dX10_either_52 : decode cX10_either 52 = .ok (.istore 5, 2) := by decide +kernel
theorem dX10_either_54 : decode cX10_either 54 = .ok (.iload_n 3, 1) := by decide +kernel
theorem dX10_either_55 : decode cX10_either 55 = .ok (.lookupswitch 47 #[(0, 25), (1, 28)], 25) := by decide +kernel
theorem dX10_either_80 : decode cX10_either 80 = .ok (.iload 5, 2) := by decide +kernel
theorem dX10_either_82 : decode cX10_either 82 = .ok (.ireturn, 1) := by decide +kernel
theorem dX10_either_83 : decode cX10_either 83 = .ok (.iload 5, 2) := by decide +kernel
theorem dX10_either_85 : decode cX10_either 85 = .ok (.aload_n 0, 1) := by decide +kernel
theorem dX10_either_86 : decode cX10_either 86 = .ok (.getfield 19, 3) := by decide +kernel
theorem dX10_either_89 : decode cX10_either 89 = .ok (.invokevirtual 135, 3) := by decide +kernel
theorem dX10_either_92 : decode cX10_either 92 = .ok (.iload 4, 2) := by decide +kernel
theorem dX10_either_94 : decode cX10_either 94 = .ok (.ixor, 1) := by decide +kernel
theorem dX10_either_95 : decode cX10_either 95 = .ok (.iconst (-1), 1) := by decide +kernel
theorem dX10_either_96 : decode cX10_either 96 = .ok (.ixor, 1) := by decide +kernel
theorem dX10_either_97 : decode cX10_either 97 = .ok (.iand, 1) := by decide +kernel
theorem dX10_either_98 : decode cX10_either 98 = .ok (.invokestatic 214, 3) := by decide +kernel
theorem dX10_either_101 : decode cX10_either 101 = .ok (.ireturn, 1) := by decide +kernel
theorem dX10_either_102 : decode cX10_either 102 = .ok (.ldc 79, 2) := by decide +kernel
theorem dX10_either_104 : decode cX10_either 104 = .ok (.ireturn, 1) := by decide +kernel
theorem dX10_rainy_0 : decode cX10_rainy 0 = .ok (.iload_n 1, 1) := by decide +kernel
theorem dX10_rainy_1 : decode cX10_rainy 1 = .ok (.iconst 0, 1) := by decide +kernel
theorem dX10_rainy_2 : decode cX10_rainy 2 = .ok (.bipush 60, 2) := by decide +kernel
theorem dX10_rainy_4 : decode cX10_rainy 4 = .ok (.invokestatic 75, 3) := by decide +kernel
theorem dX10_rainy_7 : decode cX10_rainy 7 = .ok (.ifCond .ne 13, 3) := by decide +kernel
theorem dX10_rainy_10 : decode cX10_rainy 10 = .ok (.iload_n 2, 1) := by decide +kernel
theorem dX10_rainy_11 : decode cX10_rainy 11 = .ok (.iconst 0, 1) := by decide +kernel
theorem dX10_rainy_12 : decode cX10_rainy 12 = .ok (.bipush 100, 2) := by decide +kernel
theorem dX10_rainy_14 : decode cX10_rainy 14 = .ok (.invokestatic 75, 3) := by decide +kernel
theorem dX10_rainy_17 : decode cX10_rainy 17 = .ok (.ifCond .eq 6, 3) := by decide +kernel
theorem dX10_rainy_20 : decode cX10_rainy 20 = .ok (.ldc 79, 2) := by decide +kernel
theorem dX10_rainy_22 : decode cX10_rainy 22 = .ok (.ireturn, 1) := by decide +kernel
theorem dX10_rainy_23 : decode cX10_rainy 23 = .ok (.ldc2_w 286, 3) := by decide +kernel
theorem dX10_rainy_26 : decode cX10_rainy 26 = .ok (.lstore_n 3, 1) := by decide +kernel
theorem dX10_rainy_27 : decode cX10_rainy 27 = .ok (.iconst 0, 1) := by decide +kernel
theorem dX10_rainy_28 : decode cX10_rainy 28 = .ok (.istore 5, 2) := by decide +kernel
theorem dX10_rainy_30 : decode cX10_rainy 30 = .ok (.iload 5, 2) := by decide +kernel
theorem dX10_rainy_32 : decode cX10_rainy 32 = .ok (.iload_n 1, 1) := by decide +kernel
theorem dX10_rainy_33 : decode cX10_rainy 33 = .ok (.if_icmp .ge 18, 3) := by decide +kernel
theorem dX10_rainy_36 : decode cX10_rainy 36 = .ok (.lload_n 3, 1) := by decide +kernel
theorem dX10_rainy_37 : decode cX10_rainy 37 = .ok (.iload_n 2, 1) := by decide +kernel
theorem dX10_rainy_38 : decode cX10_rainy 38 = .ok (.i2l, 1) := by decide +kernel
theorem dX10_rainy_39 : decode cX10_rainy 39 = .ok (.lmul, 1) := by decide +kernel
theorem dX10_rainy_40 : decode cX10_rainy 40 = .ok (.ldc2_w 288, 3) := by decide +kernel
theorem dX10_rainy_43 : decode cX10_rainy 43 = .ok (.ldiv, 1) := by decide +kernel
theorem dX10_rainy_44 : decode cX10_rainy 44 = .ok (.lstore_n 3, 1) := by decide +kernel
theorem dX10_rainy_45 : decode cX10_rainy 45 = .ok (.iinc 5 1, 3) := by decide +kernel
theorem dX10_rainy_48 : decode cX10_rainy 48 = .ok (.goto (-18), 3) := by decide +kernel
theorem dX10_rainy_51 : decode cX10_rainy 51 = .ok (.lload_n 3, 1) := by decide +kernel
theorem dX10_rainy_52 : decode cX10_rainy 52 = .ok (.l2i, 1) := by decide +kernel
theorem dX10_rainy_53 : decode cX10_rainy 53 = .ok (.ireturn, 1) := by decide +kernel
theorem dX10_write_0 : decode cX10_write 0 = .ok (.aload_n 0, 1) := by decide +kernel
theorem dX10_write_1 : decode cX10_write 1 = .ok (.getfield 67, 3) := by decide +kernel
theorem dX10_write_4 : decode cX10_write 4 = .ok (.iload_n 1, 1) := by decide +kernel
theorem dX10_write_5 : decode cX10_write 5 = .ok (.invokevirtual 173, 3) := by decide +kernel
theorem dX10_write_8 : decode cX10_write 8 = .ok (.ifCond .ne 6, 3) := by decide +kernel
theorem dX10_write_11 : decode cX10_write 11 = .ok (.ldc 185, 2) := by decide +kernel
theorem dX10_write_13 : decode cX10_write 13 = .ok (.ireturn, 1) := by decide +kernel
theorem dX10_write_14 : decode cX10_write 14 = .ok (.iload_n 2, 1) := by decide +kernel
theorem dX10_write_15 : decode cX10_write 15 = .ok (.iconst 0, 1) := by decide +kernel
theorem dX10_write_16 : decode cX10_write 16 = .ok (.bipush 9, 2) := by decide +kernel
theorem dX10_write_18 : decode cX10_write 18 = .ok (.invokestatic 75, 3) := by decide +kernel
theorem dX10_write_21 : decode cX10_write 21 = .ok (.ifCond .eq 8, 3) := by decide +kernel
theorem dX10_write_24 : decode cX10_write 24 = .ok (.ldc 79, 2) := by decide +kernel
theorem dX10_write_26 : decode cX10_write 26 = .ok (.goto 12, 3) := by decide +kernel
theorem dX10_write_29 : decode cX10_write 29 = .ok (.aload_n 0, 1) := by decide +kernel
theorem dX10_write_30 : decode cX10_write 30 = .ok (.getfield 47, 3) := by decide +kernel
theorem dX10_write_33 : decode cX10_write 33 = .ok (.iload_n 1, 1) := by decide +kernel
theorem dX10_write_34 : decode cX10_write 34 = .ok (.iload_n 2, 1) := by decide +kernel
theorem dX10_write_35 : decode cX10_write 35 = .ok (.invokevirtual 290, 3) := by decide +kernel
theorem dX10_write_38 : decode cX10_write 38 = .ok (.ireturn, 1) := by decide +kernel
theorem dX10_tear_0 : decode cX10_tear 0 = .ok (.aload_n 0, 1) := by decide +kernel
theorem dX10_tear_1 : decode cX10_tear 1 = .ok (.getfield 47, 3) := by decide +kernel
theorem dX10_tear_4 : decode cX10_tear 4 = .ok (.getfield 171, 3) := by decide +kernel
theorem dX10_tear_7 : decode cX10_tear 7 = .ok (.istore_n 1, 1) := by decide +kernel
theorem dX10_tear_8 : decode cX10_tear 8 = .ok (.aload_n 0, 1) := by decide +kernel
theorem dX10_tear_9 : decode cX10_tear 9 = .ok (.getfield 47, 3) := by decide +kernel
theorem dX10_tear_12 : decode cX10_tear 12 = .ok (.invokevirtual 96, 3) := by decide +kernel
theorem dX10_tear_15 : decode cX10_tear 15 = .ok (.iload_n 1, 1) := by decide +kernel
theorem dX10_tear_16 : decode cX10_tear 16 = .ok (.ireturn, 1) := by decide +kernel
theorem dX10_judge_0 : decode cX10_judge 0 = .ok (.aload_n 0, 1) := by decide +kernel
theorem dX10_judge_1 : decode cX10_judge 1 = .ok (.getfield 47, 3) := by decide +kernel
theorem dX10_judge_4 : decode cX10_judge 4 = .ok (.aload_n 0, 1) := by decide +kernel
theorem dX10_judge_5 : decode cX10_judge 5 = .ok (.getfield 19, 3) := by decide +kernel
theorem dX10_judge_8 : decode cX10_judge 8 = .ok (.invokevirtual 293, 3) := by decide +kernel
theorem dX10_judge_11 : decode cX10_judge 11 = .ok (.ireturn, 1) := by decide +kernel
theorem dX10_seed_0 : decode cX10_seed 0 = .ok (.iload_n 1, 1) := by decide +kernel
theorem dX10_seed_1 : decode cX10_seed 1 = .ok (.ifCond .ge 6, 3) := by decide +kernel
theorem dX10_seed_4 : decode cX10_seed 4 = .ok (.ldc 79, 2) := by decide +kernel
theorem dX10_seed_6 : decode cX10_seed 6 = .ok (.ireturn, 1) := by decide +kernel
theorem dX10_seed_7 : decode cX10_seed 7 = .ok (.aload_n 0, 1) := by decide +kernel
theorem dX10_seed_8 : decode cX10_seed 8 = .ok (.getfield 54, 3) := by decide +kernel
theorem dX10_seed_11 : decode cX10_seed 11 = .ok (.getfield 297, 3) := by decide +kernel
theorem dX10_seed_14 : decode cX10_seed 14 = .ok (.istore_n 2, 1) := by decide +kernel
theorem dX10_seed_15 : decode cX10_seed 15 = .ok (.aload_n 0, 1) := by decide +kernel
theorem dX10_seed_16 : decode cX10_seed 16 = .ok (.getfield 54, 3) := by decide +kernel
theorem dX10_seed_19 : decode cX10_seed 19 = .ok (.iload_n 1, 1) := by decide +kernel
theorem dX10_seed_20 : decode cX10_seed 20 = .ok (.putfield 297, 3) := by decide +kernel
theorem dX10_seed_23 : decode cX10_seed 23 = .ok (.iload_n 2, 1) := by decide +kernel
theorem dX10_seed_24 : decode cX10_seed 24 = .ok (.ireturn, 1) := by decide +kernel
theorem dX10_keep_0 : decode cX10_keep 0 = .ok (.iload_n 1, 1) := by decide +kernel
theorem dX10_keep_1 : decode cX10_keep 1 = .ok (.iconst 0, 1) := by decide +kernel
theorem dX10_keep_2 : decode cX10_keep 2 = .ok (.aload_n 0, 1) := by decide +kernel
theorem dX10_keep_3 : decode cX10_keep 3 = .ok (.getfield 60, 3) := by decide +kernel
theorem dX10_keep_6 : decode cX10_keep 6 = .ok (.arraylength, 1) := by decide +kernel
theorem dX10_keep_7 : decode cX10_keep 7 = .ok (.iconst 1, 1) := by decide +kernel
theorem dX10_keep_8 : decode cX10_keep 8 = .ok (.isub, 1) := by decide +kernel
theorem dX10_keep_9 : decode cX10_keep 9 = .ok (.invokestatic 75, 3) := by decide +kernel
theorem dX10_keep_12 : decode cX10_keep 12 = .ok (.ifCond .eq 6, 3) := by decide +kernel
theorem dX10_keep_15 : decode cX10_keep 15 = .ok (.ldc 185, 2) := by decide +kernel
theorem dX10_keep_17 : decode cX10_keep 17 = .ok (.ireturn, 1) := by decide +kernel
theorem dX10_keep_18 : decode cX10_keep 18 = .ok (.aload_n 0, 1) := by decide +kernel
theorem dX10_keep_19 : decode cX10_keep 19 = .ok (.getfield 60, 3) := by decide +kernel
theorem dX10_keep_22 : decode cX10_keep 22 = .ok (.iload_n 1, 1) := by decide +kernel
theorem dX10_keep_23 : decode cX10_keep 23 = .ok (.aaload, 1) := by decide +kernel
theorem dX10_keep_24 : decode cX10_keep 24 = .ok (.astore_n 2, 1) := by decide +kernel
theorem dX10_keep_25 : decode cX10_keep 25 = .ok (.aload_n 2, 1) := by decide +kernel
theorem dX10_keep_26 : decode cX10_keep 26 = .ok (.getfield 300, 3) := by decide +kernel
theorem dX10_keep_29 : decode cX10_keep 29 = .ok (.aload_n 0, 1) := by decide +kernel
theorem dX10_keep_30 : decode cX10_keep 30 = .ok (.getfield 19, 3) := by decide +kernel
theorem dX10_keep_33 : decode cX10_keep 33 = .ok (.invokevirtual 303, 3) := by decide +kernel
theorem dX10_keep_36 : decode cX10_keep 36 = .ok (.aload_n 2, 1) := by decide +kernel
theorem dX10_keep_37 : decode cX10_keep 37 = .ok (.aload_n 0, 1) := by decide +kernel
theorem dX10_keep_38 : decode cX10_keep 38 = .ok (.getfield 54, 3) := by decide +kernel
theorem dX10_keep_41 : decode cX10_keep 41 = .ok (.getfield 297, 3) := by decide +kernel
theorem dX10_keep_44 : decode cX10_keep 44 = .ok (.putfield 306, 3) := by decide +kernel
theorem dX10_keep_47 : decode cX10_keep 47 = .ok (.aload_n 2, 1) := by decide +kernel
theorem dX10_keep_48 : decode cX10_keep 48 = .ok (.iconst 1, 1) := by decide +kernel
theorem dX10_keep_49 : decode cX10_keep 49 = .ok (.putfield 100, 3) := by decide +kernel
theorem dX10_keep_52 : decode cX10_keep 52 = .ok (.aload_n 0, 1) := by decide +kernel
theorem dX10_keep_53 : decode cX10_keep 53 = .ok (.getfield 40, 3) := by decide +kernel
theorem dX10_keep_56 : decode cX10_keep 56 = .ok (.invokevirtual 99, 3) := by decide +kernel
theorem dX10_keep_59 : decode cX10_keep 59 = .ok (.iconst 1, 1) := by decide +kernel
theorem dX10_keep_60 : decode cX10_keep 60 = .ok (.ireturn, 1) := by decide +kernel
theorem dX10_goBack_0 : decode cX10_goBack 0 = .ok (.iload_n 1, 1) := by decide +kernel
theorem dX10_goBack_1 : decode cX10_goBack 1 = .ok (.iconst 0, 1) := by decide +kernel
theorem dX10_goBack_2 : decode cX10_goBack 2 = .ok (.aload_n 0, 1) := by decide +kernel
theorem dX10_goBack_3 : decode cX10_goBack 3 = .ok (.getfield 60, 3) := by decide +kernel
theorem dX10_goBack_6 : decode cX10_goBack 6 = .ok (.arraylength, 1) := by decide +kernel
theorem dX10_goBack_7 : decode cX10_goBack 7 = .ok (.iconst 1, 1) := by decide +kernel
theorem dX10_goBack_8 : decode cX10_goBack 8 = .ok (.isub, 1) := by decide +kernel
theorem dX10_goBack_9 : decode cX10_goBack 9 = .ok (.invokestatic 75, 3) := by decide +kernel
theorem dX10_goBack_12 : decode cX10_goBack 12 = .ok (.ifCond .eq 6, 3) := by decide +kernel
theorem dX10_goBack_15 : decode cX10_goBack 15 = .ok (.ldc 185, 2) := by decide +kernel
theorem dX10_goBack_17 : decode cX10_goBack 17 = .ok (.ireturn, 1) := by decide +kernel
theorem dX10_goBack_18 : decode cX10_goBack 18 = .ok (.aload_n 0, 1) := by decide +kernel
theorem dX10_goBack_19 : decode cX10_goBack 19 = .ok (.getfield 60, 3) := by decide +kernel
theorem dX10_goBack_22 : decode cX10_goBack 22 = .ok (.iload_n 1, 1) := by decide +kernel
theorem dX10_goBack_23 : decode cX10_goBack 23 = .ok (.aaload, 1) := by decide +kernel
theorem dX10_goBack_24 : decode cX10_goBack 24 = .ok (.astore_n 2, 1) := by decide +kernel
theorem dX10_goBack_25 : decode cX10_goBack 25 = .ok (.aload_n 2, 1) := by decide +kernel
theorem dX10_goBack_26 : decode cX10_goBack 26 = .ok (.getfield 100, 3) := by decide +kernel
theorem dX10_goBack_29 : decode cX10_goBack 29 = .ok (.ifCond .ne 6, 3) := by decide +kernel
theorem dX10_goBack_32 : decode cX10_goBack 32 = .ok (.ldc 223, 2) := by decide +kernel
theorem dX10_goBack_34 : decode cX10_goBack 34 = .ok (.ireturn, 1) := by decide +kernel
theorem dX10_goBack_35 : decode cX10_goBack 35 = .ok (.aload_n 0, 1) := by decide +kernel
theorem dX10_goBack_36 : decode cX10_goBack 36 = .ok (.getfield 19, 3) := by decide +kernel
theorem dX10_goBack_39 : decode cX10_goBack 39 = .ok (.aload_n 2, 1) := by decide +kernel
theorem dX10_goBack_40 : decode cX10_goBack 40 = .ok (.getfield 300, 3) := by decide +kernel
theorem dX10_goBack_43 : decode cX10_goBack 43 = .ok (.invokevirtual 303, 3) := by decide +kernel
theorem dX10_goBack_46 : decode cX10_goBack 46 = .ok (.aload_n 0, 1) := by decide +kernel
theorem dX10_goBack_47 : decode cX10_goBack 47 = .ok (.getfield 54, 3) := by decide +kernel
theorem dX10_goBack_50 : decode cX10_goBack 50 = .ok (.aload_n 2, 1) := by decide +kernel
theorem dX10_goBack_51 : decode cX10_goBack 51 = .ok (.getfield 306, 3) := by decide +kernel
theorem dX10_goBack_54 : decode cX10_goBack 54 = .ok (.putfield 297, 3) := by decide +kernel
theorem dX10_goBack_57 : decode cX10_goBack 57 = .ok (.aload_n 0, 1) := by decide +kernel
theorem dX10_goBack_58 : decode cX10_goBack 58 = .ok (.getfield 40, 3) := by decide +kernel
theorem dX10_goBack_61 : decode cX10_goBack 61 = .ok (.invokevirtual 99, 3) := by decide +kernel
theorem dX10_goBack_64 : decode cX10_goBack 64 = .ok (.iconst 1, 1) := by decide +kernel
theorem dX10_goBack_65 : decode cX10_goBack 65 = .ok (.ireturn, 1) := by decide +kernel
theorem dX10_noWall_0 : decode cX10_noWall 0 = .ok (.aload_n 0, 1) := by decide +kernel
theorem dX10_noWall_1 : decode cX10_noWall 1 = .ok (.getfield 67, 3) := by decide +kernel
theorem dX10_noWall_4 : decode cX10_noWall 4 = .ok (.invokevirtual 104, 3) := by decide +kernel
theorem dX10_noWall_7 : decode cX10_noWall 7 = .ok (.ifCond .ne 7, 3) := by decide +kernel
theorem dX10_noWall_10 : decode cX10_noWall 10 = .ok (.iconst 1, 1) := by decide +kernel
theorem dX10_noWall_11 : decode cX10_noWall 11 = .ok (.goto 4, 3) := by decide +kernel
theorem dX10_noWall_14 : decode cX10_noWall 14 = .ok (.iconst 0, 1) := by decide +kernel
theorem dX10_noWall_15 : decode cX10_noWall 15 = .ok (.ireturn, 1) := by decide +kernel
theorem dX10_driftOneDay_0 : decode cX10_driftOneDay 0 = .ok (.aload_n 0, 1) := by decide +kernel
theorem dX10_driftOneDay_1 : decode cX10_driftOneDay 1 = .ok (.getfield 26, 3) := by decide +kernel
theorem dX10_driftOneDay_4 : decode cX10_driftOneDay 4 = .ok (.aload_n 0, 1) := by decide +kernel
theorem dX10_driftOneDay_5 : decode cX10_driftOneDay 5 = .ok (.getfield 67, 3) := by decide +kernel
theorem dX10_driftOneDay_8 : decode cX10_driftOneDay 8 = .ok (.aload_n 0, 1) := by decide +kernel
theorem dX10_driftOneDay_9 : decode cX10_driftOneDay 9 = .ok (.getfield 19, 3) := by decide +kernel
theorem dX10_driftOneDay_12 : decode cX10_driftOneDay 12 = .ok (.aload_n 0, 1) := by decide +kernel
theorem dX10_driftOneDay_13 : decode cX10_driftOneDay 13 = .ok (.getfield 54, 3) := by decide +kernel
theorem dX10_driftOneDay_16 : decode cX10_driftOneDay 16 = .ok (.bipush 10, 2) := by decide +kernel
theorem dX10_driftOneDay_18 : decode cX10_driftOneDay 18 = .ok (.invokevirtual 309, 3) := by decide +kernel
theorem dX10_driftOneDay_21 : decode cX10_driftOneDay 21 = .ok (.invokevirtual 312, 3) := by decide +kernel
theorem dX10_driftOneDay_24 : decode cX10_driftOneDay 24 = .ok (.aload_n 0, 1) := by decide +kernel
theorem dX10_driftOneDay_25 : decode cX10_driftOneDay 25 = .ok (.getfield 54, 3) := by decide +kernel
theorem dX10_driftOneDay_28 : decode cX10_driftOneDay 28 = .ok (.bipush 6, 2) := by decide +kernel
theorem dX10_driftOneDay_30 : decode cX10_driftOneDay 30 = .ok (.invokevirtual 309, 3) := by decide +kernel
theorem dX10_driftOneDay_33 : decode cX10_driftOneDay 33 = .ok (.istore_n 1, 1) := by decide +kernel
theorem dX10_driftOneDay_34 : decode cX10_driftOneDay 34 = .ok (.iload_n 1, 1) := by decide +kernel
theorem dX10_driftOneDay_35 : decode cX10_driftOneDay 35 = .ok (.ifCond .ne 17, 3) := by decide +kernel
theorem dX10_driftOneDay_38 : decode cX10_driftOneDay 38 = .ok (.aload_n 0, 1) := by decide +kernel
theorem dX10_driftOneDay_39 : decode cX10_driftOneDay 39 = .ok (.getfield 19, 3) := by decide +kernel
theorem dX10_driftOneDay_42 : decode cX10_driftOneDay 42 = .ok (.aload_n 0, 1) := by decide +kernel
theorem dX10_driftOneDay_43 : decode cX10_driftOneDay 43 = .ok (.getfield 67, 3) := by decide +kernel
theorem dX10_driftOneDay_46 : decode cX10_driftOneDay 46 = .ok (.invokevirtual 236, 3) := by decide +kernel
theorem dX10_driftOneDay_49 : decode cX10_driftOneDay 49 = .ok (.goto 81, 3) := by decide +kernel
theorem dX10_driftOneDay_52 : decode cX10_driftOneDay 52 = .ok (.iload_n 1, 1) := by decide +kernel
theorem dX10_driftOneDay_53 : decode cX10_driftOneDay 53 = .ok (.iconst 1, 1) := by decide +kernel
theorem dX10_driftOneDay_54 : decode cX10_driftOneDay 54 = .ok (.if_icmp .ne 21, 3) := by decide +kernel
theorem dX10_driftOneDay_57 : decode cX10_driftOneDay 57 = .ok (.aload_n 0, 1) := by decide +kernel
theorem dX10_driftOneDay_58 : decode cX10_driftOneDay 58 = .ok (.getfield 19, 3) := by decide +kernel
theorem dX10_driftOneDay_61 : decode cX10_driftOneDay 61 = .ok (.aload_n 0, 1) := by decide +kernel
theorem dX10_driftOneDay_62 : decode cX10_driftOneDay 62 = .ok (.getfield 54, 3) := by decide +kernel
theorem dX10_driftOneDay_65 : decode cX10_driftOneDay 65 = .ok (.iconst 3, 1) := by decide +kernel
theorem dX10_driftOneDay_66 : decode cX10_driftOneDay 66 = .ok (.invokevirtual 309, 3) := by decide +kernel
theorem dX10_driftOneDay_69 : decode cX10_driftOneDay 69 = .ok (.putfield 132, 3) := by decide +kernel
theorem dX10_driftOneDay_72 : decode cX10_driftOneDay 72 = .ok (.goto 58, 3) := by decide +kernel
theorem dX10_driftOneDay_75 : decode cX10_driftOneDay 75 = .ok (.iload_n 1, 1) := by decide +kernel
theorem dX10_driftOneDay_76 : decode cX10_driftOneDay 76 = .ok (.iconst 2, 1) := by decide +kernel
theorem dX10_driftOneDay_77 : decode cX10_driftOneDay 77 = .ok (.if_icmp .ne 53, 3) := by decide +kernel
theorem dX10_driftOneDay_80 : decode cX10_driftOneDay 80 = .ok (.aload_n 0, 1) := by decide +kernel
theorem dX10_driftOneDay_81 : decode cX10_driftOneDay 81 = .ok (.getfield 67, 3) := by decide +kernel
theorem dX10_driftOneDay_84 : decode cX10_driftOneDay 84 = .ok (.getfield 117, 3) := by decide +kernel
theorem dX10_driftOneDay_87 : decode cX10_driftOneDay 87 = .ok (.ifCond .le 43, 3) := by decide +kernel
theorem dX10_driftOneDay_90 : decode cX10_driftOneDay 90 = .ok (.aload_n 0, 1) := by decide +kernel
theorem dX10_driftOneDay_91 : decode cX10_driftOneDay 91 = .ok (.getfield 54, 3) := by decide +kernel
theorem dX10_driftOneDay_94 : decode cX10_driftOneDay 94 = .ok (.aload_n 0, 1) := by decide +kernel
theorem dX10_driftOneDay_95 : decode cX10_driftOneDay 95 = .ok (.getfield 67, 3) := by decide +kernel
theorem dX10_driftOneDay_98 : decode cX10_driftOneDay 98 = .ok (.getfield 117, 3) := by decide +kernel
theorem dX10_driftOneDay_101 : decode cX10_driftOneDay 101 = .ok (.invokevirtual 309, 3) := by decide +kernel
theorem dX10_driftOneDay_104 : decode cX10_driftOneDay 104 = .ok (.istore_n 2, 1) := by decide +kernel
theorem dX10_driftOneDay_105 : decode cX10_driftOneDay 105 = .ok (.aload_n 0, 1) := by decide +kernel
theorem dX10_driftOneDay_106 : decode cX10_driftOneDay 106 = .ok (.getfield 19, 3) := by decide +kernel
theorem dX10_driftOneDay_109 : decode cX10_driftOneDay 109 = .ok (.getfield 189, 3) := by decide +kernel
theorem dX10_driftOneDay_112 : decode cX10_driftOneDay 112 = .ok (.iload_n 2, 1) := by decide +kernel
theorem dX10_driftOneDay_113 : decode cX10_driftOneDay 113 = .ok (.aload_n 0, 1) := by decide +kernel
theorem dX10_driftOneDay_114 : decode cX10_driftOneDay 114 = .ok (.getfield 54, 3) := by decide +kernel
theorem dX10_driftOneDay_117 : decode cX10_driftOneDay 117 = .ok (.aload_n 0, 1) := by decide +kernel
theorem dX10_driftOneDay_118 : decode cX10_driftOneDay 118 = .ok (.getfield 67, 3) := by decide +kernel
theorem dX10_driftOneDay_121 : decode cX10_driftOneDay 121 = .ok (.invokevirtual 104, 3) := by decide +kernel
theorem dX10_driftOneDay_124 : decode cX10_driftOneDay 124 = .ok (.invokevirtual 309, 3) := by decide +kernel
theorem dX10_driftOneDay_127 : decode cX10_driftOneDay 127 = .ok (.invokestatic 239, 3) := by decide +kernel
theorem dX10_driftOneDay_130 : decode cX10_driftOneDay 130 = .ok (.return_, 1) := by decide +kernel
theorem dX10_outside_0 : decode cX10_outside 0 = .ok (.iload_n 0, 1) := by decide +kernel
theorem dX10_outside_1 : decode cX10_outside 1 = .ok (.iload_n 1, 1) := by decide +kernel
theorem dX10_outside_2 : decode cX10_outside 2 = .ok (.if_icmp .lt 8, 3) := by decide +kernel
theorem dX10_outside_5 : decode cX10_outside 5 = .ok (.iload_n 0, 1) := by decide +kernel
theorem dX10_outside_6 : decode cX10_outside 6 = .ok (.iload_n 2, 1) := by decide +kernel
theorem dX10_outside_7 : decode cX10_outside 7 = .ok (.if_icmp .le 7, 3) := by decide +kernel
theorem dX10_outside_10 : decode cX10_outside 10 = .ok (.iconst 1, 1) := by decide +kernel
theorem dX10_outside_11 : decode cX10_outside 11 = .ok (.goto 4, 3) := by decide +kernel
theorem dX10_outside_14 : decode cX10_outside 14 = .ok (.iconst 0, 1) := by decide +kernel
theorem dX10_outside_15 : decode cX10_outside 15 = .ok (.ireturn, 1) := by decide +kernel
theorem dX10_pick_0 : decode cX10_pick 0 = .ok (.iload_n 1, 1) := by decide +kernel
theorem dX10_pick_1 : decode cX10_pick 1 = .ok (.ifCond .lt 15, 3) := by decide +kernel
theorem dX10_pick_4 : decode cX10_pick 4 = .ok (.iload_n 1, 1) := by decide +kernel
theorem dX10_pick_5 : decode cX10_pick 5 = .ok (.aload_n 0, 1) := by decide +kernel
theorem dX10_pick_6 : decode cX10_pick 6 = .ok (.arraylength, 1) := by decide +kernel
theorem dX10_pick_7 : decode cX10_pick 7 = .ok (.if_icmp .ge 9, 3) := by decide +kernel
theorem dX10_pick_10 : decode cX10_pick 10 = .ok (.aload_n 0, 1) := by decide +kernel
theorem dX10_pick_11 : decode cX10_pick 11 = .ok (.iload_n 1, 1) := by decide +kernel
theorem dX10_pick_12 : decode cX10_pick 12 = .ok (.iaload, 1) := by decide +kernel
theorem dX10_pick_13 : decode cX10_pick 13 = .ok (.goto 4, 3) := by decide +kernel
theorem dX10_pick_16 : decode cX10_pick 16 = .ok (.iconst 0, 1) := by decide +kernel
theorem dX10_pick_17 : decode cX10_pick 17 = .ok (.ireturn, 1) := by decide +kernel
theorem dX10_put_0 : decode cX10_put 0 = .ok (.iload_n 1, 1) := by decide +kernel
theorem dX10_put_1 : decode cX10_put 1 = .ok (.ifCond .lt 13, 3) := by decide +kernel
theorem dX10_put_4 : decode cX10_put 4 = .ok (.iload_n 1, 1) := by decide +kernel
theorem dX10_put_5 : decode cX10_put 5 = .ok (.aload_n 0, 1) := by decide +kernel
theorem dX10_put_6 : decode cX10_put 6 = .ok (.arraylength, 1) := by decide +kernel
theorem dX10_put_7 : decode cX10_put 7 = .ok (.if_icmp .ge 7, 3) := by decide +kernel
theorem dX10_put_10 : decode cX10_put 10 = .ok (.aload_n 0, 1) := by decide +kernel
theorem dX10_put_11 : decode cX10_put 11 = .ok (.iload_n 1, 1) := by decide +kernel
theorem dX10_put_12 : decode cX10_put 12 = .ok (.iload_n 2, 1) := by decide +kernel
theorem dX10_put_13 : decode cX10_put 13 = .ok (.iastore, 1) := by decide +kernel
theorem dX10_put_14 : decode cX10_put 14 = .ok (.return_, 1) := by decide +kernel
theorem dX11_init_0 : decode cX11_init 0 = .ok (.aload_n 0, 1) := by decide +kernel
theorem dX11_init_1 : decode cX11_init 1 = .ok (.invokespecial 1, 3) := by decide +kernel
theorem dX11_init_4 : decode cX11_init 4 = .ok (.aload_n 0, 1) := by decide +kernel
theorem dX11_init_5 : decode cX11_init 5 = .ok (.iconst 4, 1) := by decide +kernel
theorem dX11_init_6 : decode cX11_init 6 = .ok (.newarray .int, 2) := by decide +kernel
theorem dX11_init_8 : decode cX11_init 8 = .ok (.putfield 7, 3) := by decide +kernel
theorem dX11_init_11 : decode cX11_init 11 = .ok (.aload_n 0, 1) := by decide +kernel
theorem dX11_init_12 : decode cX11_init 12 = .ok (.bipush 6, 2) := by decide +kernel
theorem dX11_init_14 : decode cX11_init 14 = .ok (.newarray .int, 2) := by decide +kernel
theorem dX11_init_16 : decode cX11_init 16 = .ok (.putfield 13, 3) := by decide +kernel
theorem dX11_init_19 : decode cX11_init 19 = .ok (.aload_n 0, 1) := by decide +kernel
theorem dX11_init_20 : decode cX11_init 20 = .ok (.bipush 6, 2) := by decide +kernel
theorem dX11_init_22 : decode cX11_init 22 = .ok (.newarray .int, 2) := by decide +kernel
theorem dX11_init_24 : decode cX11_init 24 = .ok (.putfield 16, 3) := by decide +kernel
theorem dX11_init_27 : decode cX11_init 27 = .ok (.aload_n 0, 1) := by decide +kernel
theorem dX11_init_28 : decode cX11_init 28 = .ok (.iconst 5, 1) := by decide +kernel
theorem dX11_init_29 : decode cX11_init 29 = .ok (.newarray .int, 2) := by decide +kernel
theorem dX11_init_31 : decode cX11_init 31 = .ok (.putfield 19, 3) := by decide +kernel
theorem dX11_init_34 : decode cX11_init 34 = .ok (.aload_n 0, 1) := by decide +kernel
theorem dX11_init_35 : decode cX11_init 35 = .ok (.bipush 34, 2) := by decide +kernel
theorem dX11_init_37 : decode cX11_init 37 = .ok (.newarray .int, 2) := by decide +kernel
theorem dX11_init_39 : decode cX11_init 39 = .ok (.putfield 22, 3) := by decide +kernel
theorem dX11_init_42 : decode cX11_init 42 = .ok (.aload_n 0, 1) := by decide +kernel
theorem dX11_init_43 : decode cX11_init 43 = .ok (.sipush 240, 3) := by decide +kernel
theorem dX11_init_46 : decode cX11_init 46 = .ok (.newarray .int, 2) := by decide +kernel
theorem dX11_init_48 : decode cX11_init 48 = .ok (.putfield 25, 3) := by decide +kernel
theorem dX11_init_51 : decode cX11_init 51 = .ok (.aload_n 0, 1) := by decide +kernel
theorem dX11_init_52 : decode cX11_init 52 = .ok (.iconst (-1), 1) := by decide +kernel
theorem dX11_init_53 : decode cX11_init 53 = .ok (.putfield 28, 3) := by decide +kernel
theorem dX11_init_56 : decode cX11_init 56 = .ok (.aload_n 0, 1) := by decide +kernel
theorem dX11_init_57 : decode cX11_init 57 = .ok (.iconst 4, 1) := by decide +kernel
theorem dX11_init_58 : decode cX11_init 58 = .ok (.newarray .int, 2) := by decide +kernel
theorem dX11_init_60 : decode cX11_init 60 = .ok (.putfield 32, 3) := by decide +kernel
theorem dX11_init_63 : decode cX11_init 63 = .ok (.aload_n 0, 1) := by decide +kernel
theorem dX11_init_64 : decode cX11_init 64 = .ok (.bipush 6, 2) := by decide +kernel
theorem dX11_init_66 : decode cX11_init 66 = .ok (.newarray .int, 2) := by decide +kernel
theorem dX11_init_68 : decode cX11_init 68 = .ok (.putfield 35, 3) := by decide +kernel
theorem dX11_init_71 : decode cX11_init 71 = .ok (.aload_n 0, 1) := by decide +kernel
theorem dX11_init_72 : decode cX11_init 72 = .ok (.bipush 6, 2) := by decide +kernel
theorem dX11_init_74 : decode cX11_init 74 = .ok (.newarray .int, 2) := by decide +kernel
theorem dX11_init_76 : decode cX11_init 76 = .ok (.putfield 38, 3) := by decide +kernel
theorem dX11_init_79 : decode cX11_init 79 = .ok (.aload_n 0, 1) := by decide +kernel
theorem dX11_init_80 : decode cX11_init 80 = .ok (.iconst 5, 1) := by decide +kernel
theorem dX11_init_81 : decode cX11_init 81 = .ok (.newarray .int, 2) := by decide +kernel
theorem dX11_init_83 : decode cX11_init 83 = .ok (.putfield 41, 3) := by decide +kernel
theorem dX11_init_86 : decode cX11_init 86 = .ok (.aload_n 0, 1) := by decide +kernel
theorem dX11_init_87 : decode cX11_init 87 = .ok (.bipush 25, 2) := by decide +kernel
theorem dX11_init_89 : decode cX11_init 89 = .ok (.newarray .int, 2) := by decide +kernel
theorem dX11_init_91 : decode cX11_init 91 = .ok (.putfield 44, 3) := by decide +kernel
theorem dX11_init_94 : decode cX11_init 94 = .ok (.aload_n 0, 1) := by decide +kernel
theorem dX11_init_95 : decode cX11_init 95 = .ok (.bipush 25, 2) := by decide +kernel
theorem dX11_init_97 : decode cX11_init 97 = .ok (.newarray .int, 2) := by decide +kernel
theorem dX11_init_99 : decode cX11_init 99 = .ok (.putfield 47, 3) := by decide +kernel
theorem dX11_init_102 : decode cX11_init 102 = .ok (.aload_n 0, 1) := by decide +kernel
theorem dX11_init_103 : decode cX11_init 103 = .ok (.bipush 25, 2) := by decide +kernel
theorem dX11_init_105 : decode cX11_init 105 = .ok (.newarray .int, 2) := by decide +kernel
theorem dX11_init_107 : decode cX11_init 107 = .ok (.putfield 50, 3) := by decide +kernel
theorem dX11_init_110 : decode cX11_init 110 = .ok (.aload_n 0, 1) := by decide +kernel
theorem dX11_init_111 : decode cX11_init 111 = .ok (.sipush 544, 3) := by decide +kernel
theorem dX11_init_114 : decode cX11_init 114 = .ok (.newarray .int, 2) := by decide +kernel
theorem dX11_init_116 : decode cX11_init 116 = .ok (.putfield 53, 3) := by decide +kernel
theorem dX11_init_119 : decode cX11_init 119 = .ok (.aload_n 0, 1) := by decide +kernel
theorem dX11_init_120 : decode cX11_init 120 = .ok (.bipush 34, 2) := by decide +kernel
theorem dX11_init_122 : decode cX11_init 122 = .ok (.newarray .int, 2) := by decide +kernel
theorem dX11_init_124 : decode cX11_init 124 = .ok (.putfield 56, 3) := by decide +kernel
theorem dX11_init_127 : decode cX11_init 127 = .ok (.aload_n 0, 1) := by decide +kernel
theorem dX11_init_128 : decode cX11_init 128 = .ok (.bipush 15, 2) := by decide +kernel
theorem dX11_init_130 : decode cX11_init 130 = .ok (.newarray .int, 2) := by decide +kernel
theorem dX11_init_132 : decode cX11_init 132 = .ok (.putfield 59, 3) := by decide +kernel
theorem dX11_init_135 : decode cX11_init 135 = .ok (.aload_n 0, 1) := by decide +kernel
theorem dX11_init_136 : decode cX11_init 136 = .ok (.bipush 15, 2) := by decide +kernel
theorem dX11_init_138 : decode cX11_init 138 = .ok (.newarray .int, 2) := by decide +kernel
theorem dX11_init_140 : decode cX11_init 140 = .ok (.putfield 62, 3) := by decide +kernel
theorem dX11_init_143 : decode cX11_init 143 = .ok (.aload_n 0, 1) := by decide +kernel
theorem dX11_init_144 : decode cX11_init 144 = .ok (.bipush 70, 2) := by decide +kernel
theorem dX11_init_146 : decode cX11_init 146 = .ok (.newarray .int, 2) := by decide +kernel
theorem dX11_init_148 : decode cX11_init 148 = .ok (.putfield 65, 3) := by decide +kernel
theorem dX11_init_151 : decode cX11_init 151 = .ok (.aload_n 0, 1) := by decide +kernel
theorem dX11_init_152 : decode cX11_init 152 = .ok (.iconst 2, 1) := by decide +kernel
theorem dX11_init_153 : decode cX11_init 153 = .ok (.newarray .boolean, 2) := by decide +kernel
theorem dX11_init_155 : decode cX11_init 155 = .ok (.putfield 68, 3) := by decide +kernel
theorem dX11_init_158 : decode cX11_init 158 = .ok (.aload_n 0, 1) := by decide +kernel
theorem dX11_init_159 : decode cX11_init 159 = .ok (.iconst 0, 1) := by decide +kernel
theorem dX11_init_160 : decode cX11_init 160 = .ok (.putfield 72, 3) := by decide +kernel
theorem dX11_init_163 : decode cX11_init 163 = .ok (.return_, 1) := by decide +kernel
theorem dX11_in_0 : decode cX11_in 0 = .ok (.lload_n 0, 1) := by decide +kernel
theorem dX11_in_1 : decode cX11_in 1 = .ok (.lload_n 2, 1) := by decide +kernel
theorem dX11_in_2 : decode cX11_in 2 = .ok (.lcmp, 1) := by decide +kernel
theorem dX11_in_3 : decode cX11_in 3 = .ok (.ifCond .lt 14, 3) := by decide +kernel
theorem dX11_in_6 : decode cX11_in 6 = .ok (.lload_n 0, 1) := by decide +kernel
theorem dX11_in_7 : decode cX11_in 7 = .ok (.lload 4, 2) := by decide +kernel
theorem dX11_in_9 : decode cX11_in 9 = .ok (.lcmp, 1) := by decide +kernel
theorem dX11_in_10 : decode cX11_in 10 = .ok (.ifCond .gt 7, 3) := by decide +kernel
theorem dX11_in_13 : decode cX11_in 13 = .ok (.iconst 1, 1) := by decide +kernel
theorem dX11_in_14 : decode cX11_in 14 = .ok (.goto 4, 3) := by decide +kernel
theorem dX11_in_17 : decode cX11_in 17 = .ok (.iconst 0, 1) := by decide +kernel
theorem dX11_in_18 : decode cX11_in 18 = .ok (.ireturn, 1) := by decide +kernel
theorem dX11_has_0 : decode cX11_has 0 = .ok (.iload_n 0, 1) := by decide +kernel
theorem dX11_has_1 : decode cX11_has 1 = .ok (.iload_n 1, 1) := by decide +kernel
theorem dX11_has_2 : decode cX11_has 2 = .ok (.ishr, 1) := by decide +kernel
theorem dX11_has_3 : decode cX11_has 3 = .ok (.iconst 1, 1) := by decide +kernel
theorem dX11_has_4 : decode cX11_has 4 = .ok (.iand, 1) := by decide +kernel
theorem dX11_has_5 : decode cX11_has 5 = .ok (.iconst 1, 1) := by decide +kernel
theorem dX11_has_6 : decode cX11_has 6 = .ok (.if_icmp .ne 7, 3) := by decide +kernel
theorem dX11_has_9 : decode cX11_has 9 = .ok (.iconst 1, 1) := by decide +kernel
theorem dX11_has_10 : decode cX11_has 10 = .ok (.goto 4, 3) := by decide +kernel
theorem dX11_has_13 : decode cX11_has 13 = .ok (.iconst 0, 1) := by decide +kernel
theorem dX11_has_14 : decode cX11_has 14 = .ok (.ireturn, 1) := by decide +kernel
theorem dX11_bits_0 : decode cX11_bits 0 = .ok (.iconst 0, 1) := by decide +kernel
theorem dX11_bits_1 : decode cX11_bits 1 = .ok (.istore_n 1, 1) := by decide +kernel
theorem dX11_bits_2 : decode cX11_bits 2 = .ok (.iconst 0, 1) := by decide +kernel
theorem dX11_bits_3 : decode cX11_bits 3 = .ok (.istore_n 2, 1) := by decide +kernel
theorem dX11_bits_4 : decode cX11_bits 4 = .ok (.iload_n 2, 1) := by decide +kernel
theorem dX11_bits_5 : decode cX11_bits 5 = .ok (.bipush 25, 2) := by decide +kernel
theorem dX11_bits_7 : decode cX11_bits 7 = .ok (.if_icmp .ge 17, 3) := by decide +kernel
theorem dX11_bits_10 : decode cX11_bits 10 = .ok (.iload_n 1, 1) := by decide +kernel
theorem dX11_bits_11 : decode cX11_bits 11 = .ok (.iload_n 0, 1) := by decide +kernel
theorem dX11_bits_12 : decode cX11_bits 12 = .ok (.iload_n 2, 1) := by decide +kernel
theorem dX11_bits_13 : decode cX11_bits 13 = .ok (.ishr, 1) := by decide +kernel
theorem dX11_bits_14 : decode cX11_bits 14 = .ok (.iconst 1, 1) := by decide +kernel
theorem dX11_bits_15 : decode cX11_bits 15 = .ok (.iand, 1) := by decide +kernel
theorem dX11_bits_16 : decode cX11_bits 16 = .ok (.iadd, 1) := by decide +kernel
theorem dX11_bits_17 : decode cX11_bits 17 = .ok (.istore_n 1, 1) := by decide +kernel
theorem dX11_bits_18 : decode cX11_bits 18 = .ok (.iinc 2 1, 3) := by decide +kernel
theorem dX11_bits_21 : decode cX11_bits 21 = .ok (.goto (-17), 3) := by decide +kernel
theorem dX11_bits_24 : decode cX11_bits 24 = .ok (.iload_n 1, 1) := by decide +kernel
theorem dX11_bits_25 : decode cX11_bits 25 = .ok (.ireturn, 1) := by decide +kernel
theorem dX11_cells_0 : decode cX11_cells 0 = .ok (.aload_n 0, 1) := by decide +kernel
theorem dX11_cells_1 : decode cX11_cells 1 = .ok (.getfield 72, 3) := by decide +kernel
theorem dX11_cells_4 : decode cX11_cells 4 = .ok (.aload_n 0, 1) := by decide +kernel
theorem dX11_cells_5 : decode cX11_cells 5 = .ok (.getfield 75, 3) := by decide +kernel
theorem dX11_cells_8 : decode cX11_cells 8 = .ok (.imul, 1) := by decide +kernel
theorem dX11_cells_9 : decode cX11_cells 9 = .ok (.ireturn, 1) := by decide +kernel
theorem dX11_isCell_0 : decode cX11_isCell 0 = .ok (.iload_n 1, 1) := by decide +kernel
theorem dX11_isCell_1 : decode cX11_isCell 1 = .ok (.i2l, 1) := by decide +kernel
theorem dX11_isCell_2 : decode cX11_isCell 2 = .ok (.lconst 0, 1) := by decide +kernel
theorem dX11_isCell_3 : decode cX11_isCell 3 = .ok (.aload_n 0, 1) := by decide +kernel
theorem dX11_isCell_4 : decode cX11_isCell 4 = .ok (.invokevirtual 78, 3) := by decide +kernel
theorem dX11_isCell_7 : decode cX11_isCell 7 = .ok (.iconst 1, 1) := by decide +kernel
theorem dX11_isCell_8 : decode cX11_isCell 8 = .ok (.isub, 1) := by decide +kernel
theorem dX11_isCell_9 : decode cX11_isCell 9 = .ok (.i2l, 1) := by decide +kernel
theorem dX11_isCell_10 : decode cX11_isCell 10 = .ok (.invokestatic 82, 3) := by decide +kernel
theorem dX11_isCell_13 : decode cX11_isCell 13 = .ok (.ireturn, 1) := by decide +kernel
theorem dX11_isLeak_0 : decode cX11_isLeak 0 = .ok (.iload_n 1, 1) := by decide +kernel
theorem dX11_isLeak_1 : decode cX11_isLeak 1 = .ok (.i2l, 1) := by decide +kernel
theorem dX11_isLeak_2 : decode cX11_isLeak 2 = .ok (.lconst 0, 1) := by decide +kernel
theorem dX11_isLeak_3 : decode cX11_isLeak 3 = .ok (.aload_n 0, 1) := by decide +kernel
theorem dX11_isLeak_4 : decode cX11_isLeak 4 = .ok (.getfield 86, 3) := by decide +kernel
theorem dX11_isLeak_7 : decode cX11_isLeak 7 = .ok (.iconst 1, 1) := by decide +kernel
theorem dX11_isLeak_8 : decode cX11_isLeak 8 = .ok (.isub, 1) := by decide +kernel
theorem dX11_isLeak_9 : decode cX11_isLeak 9 = .ok (.i2l, 1) := by decide +kernel
theorem dX11_isLeak_10 : decode cX11_isLeak 10 = .ok (.invokestatic 82, 3) := by decide +kernel
theorem dX11_isLeak_13 : decode cX11_isLeak 13 = .ok (.ireturn, 1) := by decide +kernel
theorem dX11_isCrack_0 : decode cX11_isCrack 0 = .ok (.iload_n 1, 1) := by decide +kernel
theorem dX11_isCrack_1 : decode cX11_isCrack 1 = .ok (.i2l, 1) := by decide +kernel
theorem dX11_isCrack_2 : decode cX11_isCrack 2 = .ok (.lconst 0, 1) := by decide +kernel
theorem dX11_isCrack_3 : decode cX11_isCrack 3 = .ok (.aload_n 0, 1) := by decide +kernel
theorem dX11_isCrack_4 : decode cX11_isCrack 4 = .ok (.getfield 89, 3) := by decide +kernel
theorem dX11_isCrack_7 : decode cX11_isCrack 7 = .ok (.iconst 1, 1) := by decide +kernel
theorem dX11_isCrack_8 : decode cX11_isCrack 8 = .ok (.isub, 1) := by decide +kernel
theorem dX11_isCrack_9 : decode cX11_isCrack 9 = .ok (.i2l, 1) := by decide +kernel
theorem dX11_isCrack_10 : decode cX11_isCrack 10 = .ok (.invokestatic 82, 3) := by decide +kernel
theorem dX11_isCrack_13 : decode cX11_isCrack 13 = .ok (.ireturn, 1) := by decide +kernel
theorem dX11_isLike_0 : decode cX11_isLike 0 = .ok (.iload_n 1, 1) := by decide +kernel
theorem dX11_isLike_1 : decode cX11_isLike 1 = .ok (.i2l, 1) := by decide +kernel
theorem dX11_isLike_2 : decode cX11_isLike 2 = .ok (.lconst 0, 1) := by decide +kernel
theorem dX11_isLike_3 : decode cX11_isLike 3 = .ok (.aload_n 0, 1) := by decide +kernel
theorem dX11_isLike_4 : decode cX11_isLike 4 = .ok (.getfield 92, 3) := by decide +kernel
theorem dX11_isLike_7 : decode cX11_isLike 7 = .ok (.iconst 1, 1) := by decide +kernel
theorem dX11_isLike_8 : decode cX11_isLike 8 = .ok (.isub, 1) := by decide +kernel
theorem dX11_isLike_9 : decode cX11_isLike 9 = .ok (.i2l, 1) := by decide +kernel
theorem dX11_isLike_10 : decode cX11_isLike 10 = .ok (.invokestatic 82, 3) := by decide +kernel
theorem dX11_isLike_13 : decode cX11_isLike 13 = .ok (.ireturn, 1) := by decide +kernel
theorem dX11_areNext_0 : decode cX11_areNext 0 = .ok (.iload_n 0, 1) := by decide +kernel
theorem dX11_areNext_1 : decode cX11_areNext 1 = .ok (.iload_n 2, 1) := by decide +kernel
theorem dX11_areNext_2 : decode cX11_areNext 2 = .ok (.irem, 1) := by decide +kernel
theorem dX11_areNext_3 : decode cX11_areNext 3 = .ok (.iload_n 1, 1) := by decide +kernel
theorem dX11_areNext_4 : decode cX11_areNext 4 = .ok (.iload_n 2, 1) := by decide +kernel
theorem dX11_areNext_5 : decode cX11_areNext 5 = .ok (.irem, 1) := by decide +kernel
theorem dX11_areNext_6 : decode cX11_areNext 6 = .ok (.isub, 1) := by decide +kernel
theorem dX11_areNext_7 : decode cX11_areNext 7 = .ok (.istore_n 3, 1) := by decide +kernel
theorem dX11_areNext_8 : decode cX11_areNext 8 = .ok (.iload_n 0, 1) := by decide +kernel
theorem dX11_areNext_9 : decode cX11_areNext 9 = .ok (.iload_n 2, 1) := by decide +kernel
theorem dX11_areNext_10 : decode cX11_areNext 10 = .ok (.idiv, 1) := by decide +kernel
theorem dX11_areNext_11 : decode cX11_areNext 11 = .ok (.iload_n 1, 1) := by decide +kernel
theorem dX11_areNext_12 : decode cX11_areNext 12 = .ok (.iload_n 2, 1) := by decide +kernel
theorem dX11_areNext_13 : decode cX11_areNext 13 = .ok (.idiv, 1) := by decide +kernel
theorem dX11_areNext_14 : decode cX11_areNext 14 = .ok (.isub, 1) := by decide +kernel
theorem dX11_areNext_15 : decode cX11_areNext 15 = .ok (.istore 4, 2) := by decide +kernel
theorem dX11_areNext_17 : decode cX11_areNext 17 = .ok (.iload_n 3, 1) := by decide +kernel
theorem dX11_areNext_18 : decode cX11_areNext 18 = .ok (.iload_n 3, 1) := by decide +kernel
theorem dX11_areNext_19 : decode cX11_areNext 19 = .ok (.imul, 1) := by decide +kernel
theorem dX11_areNext_20 : decode cX11_areNext 20 = .ok (.iload 4, 2) := by decide +kernel
theorem dX11_areNext_22 : decode cX11_areNext 22 = .ok (.iload 4, 2) := by decide +kernel
theorem dX11_areNext_24 : decode cX11_areNext 24 = .ok (.imul, 1) := by decide +kernel
theorem dX11_areNext_25 : decode cX11_areNext 25 = .ok (.iadd, 1) := by decide +kernel
theorem dX11_areNext_26 : decode cX11_areNext 26 = .ok (.iconst 1, 1) := by decide +kernel
theorem dX11_areNext_27 : decode cX11_areNext 27 = .ok (.if_icmp .ne 7, 3) := by decide +kernel
theorem dX11_areNext_30 : decode cX11_areNext 30 = .ok (.iconst 1, 1) := by decide +kernel
theorem dX11_areNext_31 : decode cX11_areNext 31 = .ok (.goto 4, 3) := by decide +kernel
theorem dX11_areNext_34 : decode cX11_areNext 34 = .ok (.iconst 0, 1) := by decide +kernel
theorem dX11_areNext_35 : decode cX11_areNext 35 = .ok (.ireturn, 1) := by decide +kernel
theorem dX11_feed_0 : decode cX11_feed 0 = .ok (.iload_n 1, 1) := by decide +kernel
theorem dX11_feed_1 : decode cX11_feed 1 = .ok (.i2l, 1) := by decide +kernel
theorem dX11_feed_2 : decode cX11_feed 2 = .ok (.lconst 0, 1) := by decide +kernel
theorem dX11_feed_3 : decode cX11_feed 3 = .ok (.ldc2_w 95, 3) := by decide +kernel
theorem dX11_feed_6 : decode cX11_feed 6 = .ok (.invokestatic 82, 3) := by decide +kernel
theorem dX11_feed_9 : decode cX11_feed 9 = .ok (.ifCond .ne 6, 3) := by decide +kernel
theorem dX11_feed_12 : decode cX11_feed 12 = .ok (.ldc 97, 2) := by decide +kernel
theorem dX11_feed_14 : decode cX11_feed 14 = .ok (.ireturn, 1) := by decide +kernel
theorem dX11_feed_15 : decode cX11_feed 15 = .ok (.aload_n 0, 1) := by decide +kernel
theorem dX11_feed_16 : decode cX11_feed 16 = .ok (.getfield 98, 3) := by decide +kernel
theorem dX11_feed_19 : decode cX11_feed 19 = .ok (.sipush 240, 3) := by decide +kernel
theorem dX11_feed_22 : decode cX11_feed 22 = .ok (.if_icmp .ne 6, 3) := by decide +kernel
theorem dX11_feed_25 : decode cX11_feed 25 = .ok (.ldc 101, 2) := by decide +kernel
theorem dX11_feed_27 : decode cX11_feed 27 = .ok (.ireturn, 1) := by decide +kernel
theorem dX11_feed_28 : decode cX11_feed 28 = .ok (.aload_n 0, 1) := by decide +kernel
theorem dX11_feed_29 : decode cX11_feed 29 = .ok (.getfield 25, 3) := by decide +kernel
theorem dX11_feed_32 : decode cX11_feed 32 = .ok (.aload_n 0, 1) := by decide +kernel
theorem dX11_feed_33 : decode cX11_feed 33 = .ok (.getfield 98, 3) := by decide +kernel
theorem dX11_feed_36 : decode cX11_feed 36 = .ok (.iload_n 1, 1) := by decide +kernel
theorem dX11_feed_37 : decode cX11_feed 37 = .ok (.iastore, 1) := by decide +kernel
theorem dX11_feed_38 : decode cX11_feed 38 = .ok (.aload_n 0, 1) := by decide +kernel
theorem dX11_feed_39 : decode cX11_feed 39 = .ok (.dup, 1) := by decide +kernel
theorem dX11_feed_40 : decode cX11_feed 40 = .ok (.getfield 98, 3) := by decide +kernel
theorem dX11_feed_43 : decode cX11_feed 43 = .ok (.iconst 1, 1) := by decide +kernel
theorem dX11_feed_44 : decode cX11_feed 44 = .ok (.iadd, 1) := by decide +kernel
theorem dX11_feed_45 : decode cX11_feed 45 = .ok (.putfield 98, 3) := by decide +kernel
theorem dX11_feed_48 : decode cX11_feed 48 = .ok (.aload_n 0, 1) := by decide +kernel
theorem dX11_feed_49 : decode cX11_feed 49 = .ok (.getfield 98, 3) := by decide +kernel
theorem dX11_feed_52 : decode cX11_feed 52 = .ok (.ireturn, 1) := by decide +kernel
theorem dX11_here_0 : decode cX11_here 0 = .ok (.aload_n 0, 1) := by decide +kernel
theorem dX11_here_1 : decode cX11_here 1 = .ok (.getfield 102, 3) := by decide +kernel
theorem dX11_here_4 : decode cX11_here 4 = .ok (.aload_n 0, 1) := by decide +kernel
theorem dX11_here_5 : decode cX11_here 5 = .ok (.getfield 98, 3) := by decide +kernel
theorem dX11_here_8 : decode cX11_here 8 = .ok (.if_icmp .ge 30, 3) := by decide +kernel
theorem dX11_here_11 : decode cX11_here 11 = .ok (.aload_n 0, 1) := by decide +kernel
theorem dX11_here_12 : decode cX11_here 12 = .ok (.getfield 25, 3) := by decide +kernel
theorem dX11_here_15 : decode cX11_here 15 = .ok (.aload_n 0, 1) := by decide +kernel
theorem dX11_here_16 : decode cX11_here 16 = .ok (.getfield 102, 3) := by decide +kernel
theorem dX11_here_19 : decode cX11_here 19 = .ok (.iaload, 1) := by decide +kernel
theorem dX11_here_20 : decode cX11_here 20 = .ok (.bipush 32, 2) := by decide +kernel
theorem dX11_here_22 : decode cX11_here 22 = .ok (.if_icmp .ne 16, 3) := by decide +kernel
theorem dX11_here_25 : decode cX11_here 25 = .ok (.aload_n 0, 1) := by decide +kernel
theorem dX11_here_26 : decode cX11_here 26 = .ok (.dup, 1) := by decide +kernel
theorem dX11_here_27 : decode cX11_here 27 = .ok (.getfield 102, 3) := by decide +kernel
theorem dX11_here_30 : decode cX11_here 30 = .ok (.iconst 1, 1) := by decide +kernel
theorem dX11_here_31 : decode cX11_here 31 = .ok (.iadd, 1) := by decide +kernel
theorem dX11_here_32 : decode cX11_here 32 = .ok (.putfield 102, 3) := by decide +kernel
theorem dX11_here_35 : decode cX11_here 35 = .ok (.goto (-35), 3) := by decide +kernel
theorem dX11_here_38 : decode cX11_here 38 = .ok (.aload_n 0, 1) := by decide +kernel
theorem dX11_here_39 : decode cX11_here 39 = .ok (.getfield 102, 3) := by decide +kernel
theorem dX11_here_42 : decode cX11_here 42 = .ok (.aload_n 0, 1) := by decide +kernel
theorem dX11_here_43 : decode cX11_here 43 = .ok (.getfield 98, 3) := by decide +kernel
theorem dX11_here_46 : decode cX11_here 46 = .ok (.if_icmp .ge 15, 3) := by decide +kernel
theorem dX11_here_49 : decode cX11_here 49 = .ok (.aload_n 0, 1) := by decide +kernel
theorem dX11_here_50 : decode cX11_here 50 = .ok (.getfield 25, 3) := by decide +kernel
theorem dX11_here_53 : decode cX11_here 53 = .ok (.aload_n 0, 1) := by decide +kernel
theorem dX11_here_54 : decode cX11_here 54 = .ok (.getfield 102, 3) := by decide +kernel
theorem dX11_here_57 : decode cX11_here 57 = .ok (.iaload, 1) := by decide +kernel
theorem dX11_here_58 : decode cX11_here 58 = .ok (.goto 4, 3) := by decide +kernel
theorem dX11_here_61 : decode cX11_here 61 = .ok (.iconst (-1), 1) := by decide +kernel
theorem dX11_here_62 : decode cX11_here 62 = .ok (.ireturn, 1) := by decide +kernel
theorem dX11_fails_0 : decode cX11_fails 0 = .ok (.aload_n 0, 1) := by decide +kernel
theorem dX11_fails_1 : decode cX11_fails 1 = .ok (.iload_n 2, 1) := by decide +kernel
theorem dX11_fails_2 : decode cX11_fails 2 = .ok (.putfield 28, 3) := by decide +kernel
theorem dX11_fails_5 : decode cX11_fails 5 = .ok (.iload_n 1, 1) := by decide +kernel
theorem dX11_fails_6 : decode cX11_fails 6 = .ok (.ireturn, 1) := by decide +kernel
theorem dX11_takeNumber_0 : decode cX11_takeNumber 0 = .ok (.aload_n 0, 1) := by decide +kernel
theorem dX11_takeNumber_1 : decode cX11_takeNumber 1 = .ok (.invokevirtual 105, 3) := by decide +kernel
theorem dX11_takeNumber_4 : decode cX11_takeNumber 4 = .ok (.istore_n 3, 1) := by decide +kernel
theorem dX11_takeNumber_5 : decode cX11_takeNumber 5 = .ok (.iload_n 3, 1) := by decide +kernel
theorem dX11_takeNumber_6 : decode cX11_takeNumber 6 = .ok (.i2l, 1) := by decide +kernel
theorem dX11_takeNumber_7 : decode cX11_takeNumber 7 = .ok (.ldc2_w 108, 3) := by decide +kernel
theorem dX11_takeNumber_10 : decode cX11_takeNumber 10 = .ok (.ldc2_w 110, 3) := by decide +kernel
theorem dX11_takeNumber_13 : decode cX11_takeNumber 13 = .ok (.invokestatic 82, 3) := by decide +kernel
theorem dX11_takeNumber_16 : decode cX11_takeNumber 16 = .ok (.ifCond .ne 13, 3) := by decide +kernel
theorem dX11_takeNumber_19 : decode cX11_takeNumber 19 = .ok (.aload_n 0, 1) := by decide +kernel
theorem dX11_takeNumber_20 : decode cX11_takeNumber 20 = .ok (.iconst 1, 1) := by decide +kernel
theorem dX11_takeNumber_21 : decode cX11_takeNumber 21 = .ok (.aload_n 0, 1) := by decide +kernel
theorem dX11_takeNumber_22 : decode cX11_takeNumber 22 = .ok (.getfield 102, 3) := by decide +kernel
theorem dX11_takeNumber_25 : decode cX11_takeNumber 25 = .ok (.invokevirtual 112, 3) := by decide +kernel
theorem dX11_takeNumber_28 : decode cX11_takeNumber 28 = .ok (.ireturn, 1) := by decide +kernel
theorem dX11_takeNumber_29 : decode cX11_takeNumber 29 = .ok (.aload_n 0, 1) := by decide +kernel
theorem dX11_takeNumber_30 : decode cX11_takeNumber 30 = .ok (.aload_n 0, 1) := by decide +kernel
theorem dX11_takeNumber_31 : decode cX11_takeNumber 31 = .ok (.getfield 102, 3) := by decide +kernel
theorem dX11_takeNumber_34 : decode cX11_takeNumber 34 = .ok (.putfield 116, 3) := by decide +kernel
theorem dX11_takeNumber_37 : decode cX11_takeNumber 37 = .ok (.aload_n 0, 1) := by decide +kernel
theorem dX11_takeNumber_38 : decode cX11_takeNumber 38 = .ok (.iconst 0, 1) := by decide +kernel
theorem dX11_takeNumber_39 : decode cX11_takeNumber 39 = .ok (.putfield 119, 3) := by decide +kernel
theorem dX11_takeNumber_42 : decode cX11_takeNumber 42 = .ok (.aload_n 0, 1) := by decide +kernel
theorem dX11_takeNumber_43 : decode cX11_takeNumber 43 = .ok (.getfield 102, 3) := by decide +kernel
theorem dX11_takeNumber_46 : decode cX11_takeNumber 46 = .ok (.aload_n 0, 1) := by decide +kernel
theorem dX11_takeNumber_47 : decode cX11_takeNumber 47 = .ok (.getfield 98, 3) := by decide +kernel
theorem dX11_takeNumber_50 : decode cX11_takeNumber 50 = .ok (.if_icmp .ge 79, 3) := by decide +kernel
theorem dX11_takeNumber_53 : decode cX11_takeNumber 53 = .ok (.aload_n 0, 1) := by decide +kernel
theorem dX11_takeNumber_54 : decode cX11_takeNumber 54 = .ok (.getfield 25, 3) := by decide +kernel
theorem dX11_takeNumber_57 : decode cX11_takeNumber 57 = .ok (.aload_n 0, 1) := by decide +kernel
theorem dX11_takeNumber_58 : decode cX11_takeNumber 58 = .ok (.getfield 102, 3) := by decide +kernel
theorem dX11_takeNumber_61 : decode cX11_takeNumber 61 = .ok (.iaload, 1) := by decide +kernel
theorem dX11_takeNumber_62 : decode cX11_takeNumber 62 = .ok (.i2l, 1) := by decide +kernel
theorem dX11_takeNumber_63 : decode cX11_takeNumber 63 = .ok (.ldc2_w 108, 3) := by decide +kernel
theorem dX11_takeNumber_66 : decode cX11_takeNumber 66 = .ok (.ldc2_w 110, 3) := by decide +kernel
theorem dX11_takeNumber_69 : decode cX11_takeNumber 69 = .ok (.invokestatic 82, 3) := by decide +kernel
theorem dX11_takeNumber_72 : decode cX11_takeNumber 72 = .ok (.ifCond .eq 57, 3) := by decide +kernel
theorem dX11_takeNumber_75 : decode cX11_takeNumber 75 = .ok (.aload_n 0, 1) := by decide +kernel
theorem dX11_takeNumber_76 : decode cX11_takeNumber 76 = .ok (.aload_n 0, 1) := by decide +kernel
theorem dX11_takeNumber_77 : decode cX11_takeNumber 77 = .ok (.getfield 119, 3) := by decide +kernel
end
section
theorem dX11_takeNumber_80 : decode cX11_takeNumber 80 = .ok (.sipush 10000, 3) := by decide +kernel
theorem dX11_takeNumber_83 : decode cX11_takeNumber 83 = .ok (.if_icmp .le 10, 3) := by decide +kernel
theorem dX11_takeNumber_86 : decode cX11_takeNumber 86 = .ok (.aload_n 0, 1) := by decide +kernel
theorem dX11_takeNumber_87 : decode cX11_takeNumber 87 = .ok (.getfield 119, 3) := by decide +kernel
theorem dX11_takeNumber_90 : decode cX11_takeNumber 90 = .ok (.goto 23, 3) := by decide +kernel
theorem dX11_takeNumber_93 : decode cX11_takeNumber 93 = .ok (.bipush 10, 2) := by decide +kernel
theorem dX11_takeNumber_95 : decode cX11_takeNumber 95 = .ok (.aload_n 0, 1) := by decide +kernel
theorem dX11_takeNumber_96 : decode cX11_takeNumber 96 = .ok (.getfield 119, 3) := by decide +kernel
theorem dX11_takeNumber_99 : decode cX11_takeNumber 99 = .ok (.imul, 1) := by decide +kernel
theorem dX11_takeNumber_100 : decode cX11_takeNumber 100 = .ok (.aload_n 0, 1) := by decide +kernel
theorem dX11_takeNumber_101 : decode cX11_takeNumber 101 = .ok (.getfield 25, 3) := by decide +kernel
theorem dX11_takeNumber_104 : decode cX11_takeNumber 104 = .ok (.aload_n 0, 1) := by decide +kernel
theorem dX11_takeNumber_105 : decode cX11_takeNumber 105 = .ok (.getfield 102, 3) := by decide +kernel
theorem dX11_takeNumber_108 : decode cX11_takeNumber 108 = .ok (.iaload, 1) := by decide +kernel
theorem dX11_takeNumber_109 : decode cX11_takeNumber 109 = .ok (.iadd, 1) := by decide +kernel
theorem dX11_takeNumber_110 : decode cX11_takeNumber 110 = .ok (.bipush 48, 2) := by decide +kernel
theorem dX11_takeNumber_112 : decode cX11_takeNumber 112 = .ok (.isub, 1) := by decide +kernel
theorem dX11_takeNumber_113 : decode cX11_takeNumber 113 = .ok (.putfield 119, 3) := by decide +kernel
theorem dX11_takeNumber_116 : decode cX11_takeNumber 116 = .ok (.aload_n 0, 1) := by decide +kernel
theorem dX11_takeNumber_117 : decode cX11_takeNumber 117 = .ok (.dup, 1) := by decide +kernel
theorem dX11_takeNumber_118 : decode cX11_takeNumber 118 = .ok (.getfield 102, 3) := by decide +kernel
theorem dX11_takeNumber_121 : decode cX11_takeNumber 121 = .ok (.iconst 1, 1) := by decide +kernel
theorem dX11_takeNumber_122 : decode cX11_takeNumber 122 = .ok (.iadd, 1) := by decide +kernel
theorem dX11_takeNumber_123 : decode cX11_takeNumber 123 = .ok (.putfield 102, 3) := by decide +kernel
theorem dX11_takeNumber_126 : decode cX11_takeNumber 126 = .ok (.goto (-84), 3) := by decide +kernel
theorem dX11_takeNumber_129 : decode cX11_takeNumber 129 = .ok (.aload_n 0, 1) := by decide +kernel
theorem dX11_takeNumber_130 : decode cX11_takeNumber 130 = .ok (.getfield 102, 3) := by decide +kernel
theorem dX11_takeNumber_133 : decode cX11_takeNumber 133 = .ok (.aload_n 0, 1) := by decide +kernel
theorem dX11_takeNumber_134 : decode cX11_takeNumber 134 = .ok (.getfield 116, 3) := by decide +kernel
theorem dX11_takeNumber_137 : decode cX11_takeNumber 137 = .ok (.isub, 1) := by decide +kernel
theorem dX11_takeNumber_138 : decode cX11_takeNumber 138 = .ok (.iconst 3, 1) := by decide +kernel
theorem dX11_takeNumber_139 : decode cX11_takeNumber 139 = .ok (.if_icmp .gt 18, 3) := by decide +kernel
theorem dX11_takeNumber_142 : decode cX11_takeNumber 142 = .ok (.aload_n 0, 1) := by decide +kernel
theorem dX11_takeNumber_143 : decode cX11_takeNumber 143 = .ok (.getfield 119, 3) := by decide +kernel
theorem dX11_takeNumber_146 : decode cX11_takeNumber 146 = .ok (.i2l, 1) := by decide +kernel
theorem dX11_takeNumber_147 : decode cX11_takeNumber 147 = .ok (.iload_n 1, 1) := by decide +kernel
theorem dX11_takeNumber_148 : decode cX11_takeNumber 148 = .ok (.i2l, 1) := by decide +kernel
theorem dX11_takeNumber_149 : decode cX11_takeNumber 149 = .ok (.iload_n 2, 1) := by decide +kernel
theorem dX11_takeNumber_150 : decode cX11_takeNumber 150 = .ok (.i2l, 1) := by decide +kernel
theorem dX11_takeNumber_151 : decode cX11_takeNumber 151 = .ok (.invokestatic 82, 3) := by decide +kernel
theorem dX11_takeNumber_154 : decode cX11_takeNumber 154 = .ok (.ifCond .ne 15, 3) := by decide +kernel
theorem dX11_takeNumber_157 : decode cX11_takeNumber 157 = .ok (.aload_n 0, 1) := by decide +kernel
theorem dX11_takeNumber_158 : decode cX11_takeNumber 158 = .ok (.iconst 2, 1) := by decide +kernel
theorem dX11_takeNumber_159 : decode cX11_takeNumber 159 = .ok (.aload_n 0, 1) := by decide +kernel
theorem dX11_takeNumber_160 : decode cX11_takeNumber 160 = .ok (.getfield 116, 3) := by decide +kernel
theorem dX11_takeNumber_163 : decode cX11_takeNumber 163 = .ok (.invokevirtual 112, 3) := by decide +kernel
theorem dX11_takeNumber_166 : decode cX11_takeNumber 166 = .ok (.goto 4, 3) := by decide +kernel
theorem dX11_takeNumber_169 : decode cX11_takeNumber 169 = .ok (.iconst 0, 1) := by decide +kernel
theorem dX11_takeNumber_170 : decode cX11_takeNumber 170 = .ok (.ireturn, 1) := by decide +kernel
theorem dX11_into_0 : decode cX11_into 0 = .ok (.aload_n 0, 1) := by decide +kernel
theorem dX11_into_1 : decode cX11_into 1 = .ok (.iload_n 3, 1) := by decide +kernel
theorem dX11_into_2 : decode cX11_into 2 = .ok (.iload 4, 2) := by decide +kernel
theorem dX11_into_4 : decode cX11_into 4 = .ok (.invokevirtual 122, 3) := by decide +kernel
theorem dX11_into_7 : decode cX11_into 7 = .ok (.istore 5, 2) := by decide +kernel
theorem dX11_into_9 : decode cX11_into 9 = .ok (.aload_n 1, 1) := by decide +kernel
theorem dX11_into_10 : decode cX11_into 10 = .ok (.iload_n 2, 1) := by decide +kernel
theorem dX11_into_11 : decode cX11_into 11 = .ok (.aload_n 0, 1) := by decide +kernel
theorem dX11_into_12 : decode cX11_into 12 = .ok (.getfield 119, 3) := by decide +kernel
theorem dX11_into_15 : decode cX11_into 15 = .ok (.iastore, 1) := by decide +kernel
theorem dX11_into_16 : decode cX11_into 16 = .ok (.iload 5, 2) := by decide +kernel
theorem dX11_into_18 : decode cX11_into 18 = .ok (.ireturn, 1) := by decide +kernel
theorem dX11_takeWall_0 : decode cX11_takeWall 0 = .ok (.aload_n 0, 1) := by decide +kernel
theorem dX11_takeWall_1 : decode cX11_takeWall 1 = .ok (.iconst 2, 1) := by decide +kernel
theorem dX11_takeWall_2 : decode cX11_takeWall 2 = .ok (.iconst 5, 1) := by decide +kernel
theorem dX11_takeWall_3 : decode cX11_takeWall 3 = .ok (.invokevirtual 122, 3) := by decide +kernel
theorem dX11_takeWall_6 : decode cX11_takeWall 6 = .ok (.istore_n 1, 1) := by decide +kernel
theorem dX11_takeWall_7 : decode cX11_takeWall 7 = .ok (.aload_n 0, 1) := by decide +kernel
theorem dX11_takeWall_8 : decode cX11_takeWall 8 = .ok (.aload_n 0, 1) := by decide +kernel
theorem dX11_takeWall_9 : decode cX11_takeWall 9 = .ok (.getfield 119, 3) := by decide +kernel
theorem dX11_takeWall_12 : decode cX11_takeWall 12 = .ok (.putfield 125, 3) := by decide +kernel
theorem dX11_takeWall_15 : decode cX11_takeWall 15 = .ok (.iload_n 1, 1) := by decide +kernel
theorem dX11_takeWall_16 : decode cX11_takeWall 16 = .ok (.ifCond .le 7, 3) := by decide +kernel
theorem dX11_takeWall_19 : decode cX11_takeWall 19 = .ok (.iload_n 1, 1) := by decide +kernel
theorem dX11_takeWall_20 : decode cX11_takeWall 20 = .ok (.goto 9, 3) := by decide +kernel
theorem dX11_takeWall_23 : decode cX11_takeWall 23 = .ok (.aload_n 0, 1) := by decide +kernel
theorem dX11_takeWall_24 : decode cX11_takeWall 24 = .ok (.iconst 2, 1) := by decide +kernel
theorem dX11_takeWall_25 : decode cX11_takeWall 25 = .ok (.iconst 5, 1) := by decide +kernel
theorem dX11_takeWall_26 : decode cX11_takeWall 26 = .ok (.invokevirtual 122, 3) := by decide +kernel
theorem dX11_takeWall_29 : decode cX11_takeWall 29 = .ok (.istore_n 1, 1) := by decide +kernel
theorem dX11_takeWall_30 : decode cX11_takeWall 30 = .ok (.aload_n 0, 1) := by decide +kernel
theorem dX11_takeWall_31 : decode cX11_takeWall 31 = .ok (.aload_n 0, 1) := by decide +kernel
theorem dX11_takeWall_32 : decode cX11_takeWall 32 = .ok (.getfield 119, 3) := by decide +kernel
theorem dX11_takeWall_35 : decode cX11_takeWall 35 = .ok (.putfield 128, 3) := by decide +kernel
theorem dX11_takeWall_38 : decode cX11_takeWall 38 = .ok (.iload_n 1, 1) := by decide +kernel
theorem dX11_takeWall_39 : decode cX11_takeWall 39 = .ok (.ireturn, 1) := by decide +kernel
theorem dX11_readCells_0 : decode cX11_readCells 0 = .ok (.aload_n 0, 1) := by decide +kernel
theorem dX11_readCells_1 : decode cX11_readCells 1 = .ok (.getfield 125, 3) := by decide +kernel
theorem dX11_readCells_4 : decode cX11_readCells 4 = .ok (.aload_n 0, 1) := by decide +kernel
theorem dX11_readCells_5 : decode cX11_readCells 5 = .ok (.getfield 128, 3) := by decide +kernel
theorem dX11_readCells_8 : decode cX11_readCells 8 = .ok (.imul, 1) := by decide +kernel
theorem dX11_readCells_9 : decode cX11_readCells 9 = .ok (.ireturn, 1) := by decide +kernel
theorem dX11_takeLeak_0 : decode cX11_takeLeak 0 = .ok (.aload_n 0, 1) := by decide +kernel
theorem dX11_takeLeak_1 : decode cX11_takeLeak 1 = .ok (.dup, 1) := by decide +kernel
theorem dX11_takeLeak_2 : decode cX11_takeLeak 2 = .ok (.getfield 131, 3) := by decide +kernel
theorem dX11_takeLeak_5 : decode cX11_takeLeak 5 = .ok (.iconst 1, 1) := by decide +kernel
theorem dX11_takeLeak_6 : decode cX11_takeLeak 6 = .ok (.iadd, 1) := by decide +kernel
theorem dX11_takeLeak_7 : decode cX11_takeLeak 7 = .ok (.putfield 131, 3) := by decide +kernel
theorem dX11_takeLeak_10 : decode cX11_takeLeak 10 = .ok (.aload_n 0, 1) := by decide +kernel
theorem dX11_takeLeak_11 : decode cX11_takeLeak 11 = .ok (.aload_n 0, 1) := by decide +kernel
theorem dX11_takeLeak_12 : decode cX11_takeLeak 12 = .ok (.getfield 32, 3) := by decide +kernel
theorem dX11_takeLeak_15 : decode cX11_takeLeak 15 = .ok (.aload_n 0, 1) := by decide +kernel
theorem dX11_takeLeak_16 : decode cX11_takeLeak 16 = .ok (.getfield 131, 3) := by decide +kernel
theorem dX11_takeLeak_19 : decode cX11_takeLeak 19 = .ok (.iconst 1, 1) := by decide +kernel
theorem dX11_takeLeak_20 : decode cX11_takeLeak 20 = .ok (.isub, 1) := by decide +kernel
theorem dX11_takeLeak_21 : decode cX11_takeLeak 21 = .ok (.iconst 0, 1) := by decide +kernel
theorem dX11_takeLeak_22 : decode cX11_takeLeak 22 = .ok (.aload_n 0, 1) := by decide +kernel
theorem dX11_takeLeak_23 : decode cX11_takeLeak 23 = .ok (.invokevirtual 134, 3) := by decide +kernel
theorem dX11_takeLeak_26 : decode cX11_takeLeak 26 = .ok (.iconst 1, 1) := by decide +kernel
theorem dX11_takeLeak_27 : decode cX11_takeLeak 27 = .ok (.isub, 1) := by decide +kernel
theorem dX11_takeLeak_28 : decode cX11_takeLeak 28 = .ok (.invokevirtual 137, 3) := by decide +kernel
theorem dX11_takeLeak_31 : decode cX11_takeLeak 31 = .ok (.ireturn, 1) := by decide +kernel
theorem dX11_isTold_0 : decode cX11_isTold 0 = .ok (.iconst 0, 1) := by decide +kernel
theorem dX11_isTold_1 : decode cX11_isTold 1 = .ok (.istore_n 3, 1) := by decide +kernel
theorem dX11_isTold_2 : decode cX11_isTold 2 = .ok (.iconst 0, 1) := by decide +kernel
theorem dX11_isTold_3 : decode cX11_isTold 3 = .ok (.istore 4, 2) := by decide +kernel
theorem dX11_isTold_5 : decode cX11_isTold 5 = .ok (.iload 4, 2) := by decide +kernel
theorem dX11_isTold_7 : decode cX11_isTold 7 = .ok (.aload_n 0, 1) := by decide +kernel
theorem dX11_isTold_8 : decode cX11_isTold 8 = .ok (.getfield 141, 3) := by decide +kernel
theorem dX11_isTold_11 : decode cX11_isTold 11 = .ok (.if_icmp .ge 63, 3) := by decide +kernel
theorem dX11_isTold_14 : decode cX11_isTold 14 = .ok (.iload_n 3, 1) := by decide +kernel
theorem dX11_isTold_15 : decode cX11_isTold 15 = .ok (.ifCond .ne 47, 3) := by decide +kernel
theorem dX11_isTold_18 : decode cX11_isTold 18 = .ok (.aload_n 0, 1) := by decide +kernel
theorem dX11_isTold_19 : decode cX11_isTold 19 = .ok (.getfield 35, 3) := by decide +kernel
theorem dX11_isTold_22 : decode cX11_isTold 22 = .ok (.iload 4, 2) := by decide +kernel
theorem dX11_isTold_24 : decode cX11_isTold 24 = .ok (.iaload, 1) := by decide +kernel
theorem dX11_isTold_25 : decode cX11_isTold 25 = .ok (.iload_n 1, 1) := by decide +kernel
theorem dX11_isTold_26 : decode cX11_isTold 26 = .ok (.if_icmp .ne 14, 3) := by decide +kernel
theorem dX11_isTold_29 : decode cX11_isTold 29 = .ok (.aload_n 0, 1) := by decide +kernel
theorem dX11_isTold_30 : decode cX11_isTold 30 = .ok (.getfield 38, 3) := by decide +kernel
theorem dX11_isTold_33 : decode cX11_isTold 33 = .ok (.iload 4, 2) := by decide +kernel
theorem dX11_isTold_35 : decode cX11_isTold 35 = .ok (.iaload, 1) := by decide +kernel
theorem dX11_isTold_36 : decode cX11_isTold 36 = .ok (.iload_n 2, 1) := by decide +kernel
theorem dX11_isTold_37 : decode cX11_isTold 37 = .ok (.if_icmp .eq 25, 3) := by decide +kernel
theorem dX11_isTold_40 : decode cX11_isTold 40 = .ok (.aload_n 0, 1) := by decide +kernel
theorem dX11_isTold_41 : decode cX11_isTold 41 = .ok (.getfield 35, 3) := by decide +kernel
theorem dX11_isTold_44 : decode cX11_isTold 44 = .ok (.iload 4, 2) := by decide +kernel
theorem dX11_isTold_46 : decode cX11_isTold 46 = .ok (.iaload, 1) := by decide +kernel
theorem dX11_isTold_47 : decode cX11_isTold 47 = .ok (.iload_n 2, 1) := by decide +kernel
theorem dX11_isTold_48 : decode cX11_isTold 48 = .ok (.if_icmp .ne 18, 3) := by decide +kernel
theorem dX11_isTold_51 : decode cX11_isTold 51 = .ok (.aload_n 0, 1) := by decide +kernel
theorem dX11_isTold_52 : decode cX11_isTold 52 = .ok (.getfield 38, 3) := by decide +kernel
theorem dX11_isTold_55 : decode cX11_isTold 55 = .ok (.iload 4, 2) := by decide +kernel
theorem dX11_isTold_57 : decode cX11_isTold 57 = .ok (.iaload, 1) := by decide +kernel
theorem dX11_isTold_58 : decode cX11_isTold 58 = .ok (.iload_n 1, 1) := by decide +kernel
theorem dX11_isTold_59 : decode cX11_isTold 59 = .ok (.if_icmp .ne 7, 3) := by decide +kernel
theorem dX11_isTold_62 : decode cX11_isTold 62 = .ok (.iconst 1, 1) := by decide +kernel
theorem dX11_isTold_63 : decode cX11_isTold 63 = .ok (.goto 4, 3) := by decide +kernel
theorem dX11_isTold_66 : decode cX11_isTold 66 = .ok (.iconst 0, 1) := by decide +kernel
theorem dX11_isTold_67 : decode cX11_isTold 67 = .ok (.istore_n 3, 1) := by decide +kernel
theorem dX11_isTold_68 : decode cX11_isTold 68 = .ok (.iinc 4 1, 3) := by decide +kernel
theorem dX11_isTold_71 : decode cX11_isTold 71 = .ok (.goto (-66), 3) := by decide +kernel
theorem dX11_isTold_74 : decode cX11_isTold 74 = .ok (.iload_n 3, 1) := by decide +kernel
theorem dX11_isTold_75 : decode cX11_isTold 75 = .ok (.ireturn, 1) := by decide +kernel
theorem dX11_takeCrack_0 : decode cX11_takeCrack 0 = .ok (.aload_n 0, 1) := by decide +kernel
theorem dX11_takeCrack_1 : decode cX11_takeCrack 1 = .ok (.getfield 141, 3) := by decide +kernel
theorem dX11_takeCrack_4 : decode cX11_takeCrack 4 = .ok (.istore_n 1, 1) := by decide +kernel
theorem dX11_takeCrack_5 : decode cX11_takeCrack 5 = .ok (.aload_n 0, 1) := by decide +kernel
theorem dX11_takeCrack_6 : decode cX11_takeCrack 6 = .ok (.aload_n 0, 1) := by decide +kernel
theorem dX11_takeCrack_7 : decode cX11_takeCrack 7 = .ok (.getfield 35, 3) := by decide +kernel
theorem dX11_takeCrack_10 : decode cX11_takeCrack 10 = .ok (.iload_n 1, 1) := by decide +kernel
theorem dX11_takeCrack_11 : decode cX11_takeCrack 11 = .ok (.iconst 0, 1) := by decide +kernel
theorem dX11_takeCrack_12 : decode cX11_takeCrack 12 = .ok (.aload_n 0, 1) := by decide +kernel
theorem dX11_takeCrack_13 : decode cX11_takeCrack 13 = .ok (.invokevirtual 134, 3) := by decide +kernel
theorem dX11_takeCrack_16 : decode cX11_takeCrack 16 = .ok (.iconst 1, 1) := by decide +kernel
theorem dX11_takeCrack_17 : decode cX11_takeCrack 17 = .ok (.isub, 1) := by decide +kernel
theorem dX11_takeCrack_18 : decode cX11_takeCrack 18 = .ok (.invokevirtual 137, 3) := by decide +kernel
theorem dX11_takeCrack_21 : decode cX11_takeCrack 21 = .ok (.istore_n 2, 1) := by decide +kernel
theorem dX11_takeCrack_22 : decode cX11_takeCrack 22 = .ok (.iload_n 2, 1) := by decide +kernel
theorem dX11_takeCrack_23 : decode cX11_takeCrack 23 = .ok (.ifCond .le 7, 3) := by decide +kernel
theorem dX11_takeCrack_26 : decode cX11_takeCrack 26 = .ok (.iload_n 2, 1) := by decide +kernel
theorem dX11_takeCrack_27 : decode cX11_takeCrack 27 = .ok (.goto 19, 3) := by decide +kernel
theorem dX11_takeCrack_30 : decode cX11_takeCrack 30 = .ok (.aload_n 0, 1) := by decide +kernel
theorem dX11_takeCrack_31 : decode cX11_takeCrack 31 = .ok (.aload_n 0, 1) := by decide +kernel
theorem dX11_takeCrack_32 : decode cX11_takeCrack 32 = .ok (.getfield 38, 3) := by decide +kernel
theorem dX11_takeCrack_35 : decode cX11_takeCrack 35 = .ok (.iload_n 1, 1) := by decide +kernel
theorem dX11_takeCrack_36 : decode cX11_takeCrack 36 = .ok (.iconst 0, 1) := by decide +kernel
theorem dX11_takeCrack_37 : decode cX11_takeCrack 37 = .ok (.aload_n 0, 1) := by decide +kernel
theorem dX11_takeCrack_38 : decode cX11_takeCrack 38 = .ok (.invokevirtual 134, 3) := by decide +kernel
theorem dX11_takeCrack_41 : decode cX11_takeCrack 41 = .ok (.iconst 1, 1) := by decide +kernel
theorem dX11_takeCrack_42 : decode cX11_takeCrack 42 = .ok (.isub, 1) := by decide +kernel
theorem dX11_takeCrack_43 : decode cX11_takeCrack 43 = .ok (.invokevirtual 137, 3) := by decide +kernel
theorem dX11_takeCrack_46 : decode cX11_takeCrack 46 = .ok (.istore_n 2, 1) := by decide +kernel
theorem dX11_takeCrack_47 : decode cX11_takeCrack 47 = .ok (.iload_n 2, 1) := by decide +kernel
theorem dX11_takeCrack_48 : decode cX11_takeCrack 48 = .ok (.ifCond .le 5, 3) := by decide +kernel
theorem dX11_takeCrack_51 : decode cX11_takeCrack 51 = .ok (.iload_n 2, 1) := by decide +kernel
theorem dX11_takeCrack_52 : decode cX11_takeCrack 52 = .ok (.ireturn, 1) := by decide +kernel
theorem dX11_takeCrack_53 : decode cX11_takeCrack 53 = .ok (.aload_n 0, 1) := by decide +kernel
theorem dX11_takeCrack_54 : decode cX11_takeCrack 54 = .ok (.getfield 35, 3) := by decide +kernel
theorem dX11_takeCrack_57 : decode cX11_takeCrack 57 = .ok (.iload_n 1, 1) := by decide +kernel
theorem dX11_takeCrack_58 : decode cX11_takeCrack 58 = .ok (.iaload, 1) := by decide +kernel
theorem dX11_takeCrack_59 : decode cX11_takeCrack 59 = .ok (.aload_n 0, 1) := by decide +kernel
theorem dX11_takeCrack_60 : decode cX11_takeCrack 60 = .ok (.getfield 38, 3) := by decide +kernel
theorem dX11_takeCrack_63 : decode cX11_takeCrack 63 = .ok (.iload_n 1, 1) := by decide +kernel
theorem dX11_takeCrack_64 : decode cX11_takeCrack 64 = .ok (.iaload, 1) := by decide +kernel
theorem dX11_takeCrack_65 : decode cX11_takeCrack 65 = .ok (.aload_n 0, 1) := by decide +kernel
theorem dX11_takeCrack_66 : decode cX11_takeCrack 66 = .ok (.getfield 128, 3) := by decide +kernel
theorem dX11_takeCrack_69 : decode cX11_takeCrack 69 = .ok (.invokestatic 144, 3) := by decide +kernel
theorem dX11_takeCrack_72 : decode cX11_takeCrack 72 = .ok (.ifCond .eq 22, 3) := by decide +kernel
theorem dX11_takeCrack_75 : decode cX11_takeCrack 75 = .ok (.aload_n 0, 1) := by decide +kernel
theorem dX11_takeCrack_76 : decode cX11_takeCrack 76 = .ok (.aload_n 0, 1) := by decide +kernel
theorem dX11_takeCrack_77 : decode cX11_takeCrack 77 = .ok (.getfield 35, 3) := by decide +kernel
theorem dX11_takeCrack_80 : decode cX11_takeCrack 80 = .ok (.iload_n 1, 1) := by decide +kernel
theorem dX11_takeCrack_81 : decode cX11_takeCrack 81 = .ok (.iaload, 1) := by decide +kernel
theorem dX11_takeCrack_82 : decode cX11_takeCrack 82 = .ok (.aload_n 0, 1) := by decide +kernel
theorem dX11_takeCrack_83 : decode cX11_takeCrack 83 = .ok (.getfield 38, 3) := by decide +kernel
theorem dX11_takeCrack_86 : decode cX11_takeCrack 86 = .ok (.iload_n 1, 1) := by decide +kernel
theorem dX11_takeCrack_87 : decode cX11_takeCrack 87 = .ok (.iaload, 1) := by decide +kernel
theorem dX11_takeCrack_88 : decode cX11_takeCrack 88 = .ok (.invokevirtual 148, 3) := by decide +kernel
theorem dX11_takeCrack_91 : decode cX11_takeCrack 91 = .ok (.ifCond .eq 13, 3) := by decide +kernel
theorem dX11_takeCrack_94 : decode cX11_takeCrack 94 = .ok (.aload_n 0, 1) := by decide +kernel
theorem dX11_takeCrack_95 : decode cX11_takeCrack 95 = .ok (.iconst 4, 1) := by decide +kernel
theorem dX11_takeCrack_96 : decode cX11_takeCrack 96 = .ok (.aload_n 0, 1) := by decide +kernel
theorem dX11_takeCrack_97 : decode cX11_takeCrack 97 = .ok (.getfield 116, 3) := by decide +kernel
theorem dX11_takeCrack_100 : decode cX11_takeCrack 100 = .ok (.invokevirtual 112, 3) := by decide +kernel
theorem dX11_takeCrack_103 : decode cX11_takeCrack 103 = .ok (.ireturn, 1) := by decide +kernel
theorem dX11_takeCrack_104 : decode cX11_takeCrack 104 = .ok (.aload_n 0, 1) := by decide +kernel
theorem dX11_takeCrack_105 : decode cX11_takeCrack 105 = .ok (.dup, 1) := by decide +kernel
theorem dX11_takeCrack_106 : decode cX11_takeCrack 106 = .ok (.getfield 141, 3) := by decide +kernel
theorem dX11_takeCrack_109 : decode cX11_takeCrack 109 = .ok (.iconst 1, 1) := by decide +kernel
theorem dX11_takeCrack_110 : decode cX11_takeCrack 110 = .ok (.iadd, 1) := by decide +kernel
theorem dX11_takeCrack_111 : decode cX11_takeCrack 111 = .ok (.putfield 141, 3) := by decide +kernel
theorem dX11_takeCrack_114 : decode cX11_takeCrack 114 = .ok (.iconst 0, 1) := by decide +kernel
theorem dX11_takeCrack_115 : decode cX11_takeCrack 115 = .ok (.ireturn, 1) := by decide +kernel
theorem dX11_takeLike_0 : decode cX11_takeLike 0 = .ok (.aload_n 0, 1) := by decide +kernel
theorem dX11_takeLike_1 : decode cX11_takeLike 1 = .ok (.getfield 152, 3) := by decide +kernel
theorem dX11_takeLike_4 : decode cX11_takeLike 4 = .ok (.istore_n 1, 1) := by decide +kernel
theorem dX11_takeLike_5 : decode cX11_takeLike 5 = .ok (.aload_n 0, 1) := by decide +kernel
theorem dX11_takeLike_6 : decode cX11_takeLike 6 = .ok (.dup, 1) := by decide +kernel
theorem dX11_takeLike_7 : decode cX11_takeLike 7 = .ok (.getfield 152, 3) := by decide +kernel
theorem dX11_takeLike_10 : decode cX11_takeLike 10 = .ok (.iconst 1, 1) := by decide +kernel
theorem dX11_takeLike_11 : decode cX11_takeLike 11 = .ok (.iadd, 1) := by decide +kernel
theorem dX11_takeLike_12 : decode cX11_takeLike 12 = .ok (.putfield 152, 3) := by decide +kernel
theorem dX11_takeLike_15 : decode cX11_takeLike 15 = .ok (.aload_n 0, 1) := by decide +kernel
theorem dX11_takeLike_16 : decode cX11_takeLike 16 = .ok (.getfield 41, 3) := by decide +kernel
theorem dX11_takeLike_19 : decode cX11_takeLike 19 = .ok (.iload_n 1, 1) := by decide +kernel
theorem dX11_takeLike_20 : decode cX11_takeLike 20 = .ok (.iconst 0, 1) := by decide +kernel
theorem dX11_takeLike_21 : decode cX11_takeLike 21 = .ok (.iastore, 1) := by decide +kernel
theorem dX11_takeLike_22 : decode cX11_takeLike 22 = .ok (.iconst 0, 1) := by decide +kernel
theorem dX11_takeLike_23 : decode cX11_takeLike 23 = .ok (.istore_n 2, 1) := by decide +kernel
theorem dX11_takeLike_24 : decode cX11_takeLike 24 = .ok (.iconst 0, 1) := by decide +kernel
theorem dX11_takeLike_25 : decode cX11_takeLike 25 = .ok (.istore_n 3, 1) := by decide +kernel
theorem dX11_takeLike_26 : decode cX11_takeLike 26 = .ok (.iload_n 3, 1) := by decide +kernel
theorem dX11_takeLike_27 : decode cX11_takeLike 27 = .ok (.aload_n 0, 1) := by decide +kernel
theorem dX11_takeLike_28 : decode cX11_takeLike 28 = .ok (.getfield 125, 3) := by decide +kernel
theorem dX11_takeLike_31 : decode cX11_takeLike 31 = .ok (.if_icmp .ge 96, 3) := by decide +kernel
theorem dX11_takeLike_34 : decode cX11_takeLike 34 = .ok (.iload_n 2, 1) := by decide +kernel
theorem dX11_takeLike_35 : decode cX11_takeLike 35 = .ok (.ifCond .ne 92, 3) := by decide +kernel
theorem dX11_takeLike_38 : decode cX11_takeLike 38 = .ok (.iload_n 3, 1) := by decide +kernel
theorem dX11_takeLike_39 : decode cX11_takeLike 39 = .ok (.ifCond .le 22, 3) := by decide +kernel
theorem dX11_takeLike_42 : decode cX11_takeLike 42 = .ok (.aload_n 0, 1) := by decide +kernel
theorem dX11_takeLike_43 : decode cX11_takeLike 43 = .ok (.invokevirtual 105, 3) := by decide +kernel
theorem dX11_takeLike_46 : decode cX11_takeLike 46 = .ok (.bipush 44, 2) := by decide +kernel
theorem dX11_takeLike_48 : decode cX11_takeLike 48 = .ok (.if_icmp .eq 13, 3) := by decide +kernel
theorem dX11_takeLike_51 : decode cX11_takeLike 51 = .ok (.aload_n 0, 1) := by decide +kernel
theorem dX11_takeLike_52 : decode cX11_takeLike 52 = .ok (.iconst 1, 1) := by decide +kernel
theorem dX11_takeLike_53 : decode cX11_takeLike 53 = .ok (.aload_n 0, 1) := by decide +kernel
theorem dX11_takeLike_54 : decode cX11_takeLike 54 = .ok (.getfield 102, 3) := by decide +kernel
theorem dX11_takeLike_57 : decode cX11_takeLike 57 = .ok (.invokevirtual 112, 3) := by decide +kernel
theorem dX11_takeLike_60 : decode cX11_takeLike 60 = .ok (.ireturn, 1) := by decide +kernel
theorem dX11_takeLike_61 : decode cX11_takeLike 61 = .ok (.aload_n 0, 1) := by decide +kernel
theorem dX11_takeLike_62 : decode cX11_takeLike 62 = .ok (.dup, 1) := by decide +kernel
theorem dX11_takeLike_63 : decode cX11_takeLike 63 = .ok (.getfield 102, 3) := by decide +kernel
theorem dX11_takeLike_66 : decode cX11_takeLike 66 = .ok (.iload_n 3, 1) := by decide +kernel
theorem dX11_takeLike_67 : decode cX11_takeLike 67 = .ok (.ifCond .le 7, 3) := by decide +kernel
theorem dX11_takeLike_70 : decode cX11_takeLike 70 = .ok (.iconst 1, 1) := by decide +kernel
theorem dX11_takeLike_71 : decode cX11_takeLike 71 = .ok (.goto 4, 3) := by decide +kernel
theorem dX11_takeLike_74 : decode cX11_takeLike 74 = .ok (.iconst 0, 1) := by decide +kernel
theorem dX11_takeLike_75 : decode cX11_takeLike 75 = .ok (.iadd, 1) := by decide +kernel
theorem dX11_takeLike_76 : decode cX11_takeLike 76 = .ok (.putfield 102, 3) := by decide +kernel
theorem dX11_takeLike_79 : decode cX11_takeLike 79 = .ok (.aload_n 0, 1) := by decide +kernel
theorem dX11_takeLike_80 : decode cX11_takeLike 80 = .ok (.iconst 0, 1) := by decide +kernel
theorem dX11_takeLike_81 : decode cX11_takeLike 81 = .ok (.iconst 1, 1) := by decide +kernel
theorem dX11_takeLike_82 : decode cX11_takeLike 82 = .ok (.aload_n 0, 1) := by decide +kernel
theorem dX11_takeLike_83 : decode cX11_takeLike 83 = .ok (.getfield 128, 3) := by decide +kernel
theorem dX11_takeLike_86 : decode cX11_takeLike 86 = .ok (.ishl, 1) := by decide +kernel
theorem dX11_takeLike_87 : decode cX11_takeLike 87 = .ok (.iconst 1, 1) := by decide +kernel
theorem dX11_takeLike_88 : decode cX11_takeLike 88 = .ok (.isub, 1) := by decide +kernel
theorem dX11_takeLike_89 : decode cX11_takeLike 89 = .ok (.invokevirtual 122, 3) := by decide +kernel
theorem dX11_takeLike_92 : decode cX11_takeLike 92 = .ok (.istore_n 2, 1) := by decide +kernel
theorem dX11_takeLike_93 : decode cX11_takeLike 93 = .ok (.aload_n 0, 1) := by decide +kernel
theorem dX11_takeLike_94 : decode cX11_takeLike 94 = .ok (.getfield 41, 3) := by decide +kernel
theorem dX11_takeLike_97 : decode cX11_takeLike 97 = .ok (.iload_n 1, 1) := by decide +kernel
theorem dX11_takeLike_98 : decode cX11_takeLike 98 = .ok (.dup2, 1) := by decide +kernel
theorem dX11_takeLike_99 : decode cX11_takeLike 99 = .ok (.iaload, 1) := by decide +kernel
theorem dX11_takeLike_100 : decode cX11_takeLike 100 = .ok (.iload_n 2, 1) := by decide +kernel
theorem dX11_takeLike_101 : decode cX11_takeLike 101 = .ok (.ifCond .le 7, 3) := by decide +kernel
theorem dX11_takeLike_104 : decode cX11_takeLike 104 = .ok (.iconst 0, 1) := by decide +kernel
theorem dX11_takeLike_105 : decode cX11_takeLike 105 = .ok (.goto 14, 3) := by decide +kernel
theorem dX11_takeLike_108 : decode cX11_takeLike 108 = .ok (.aload_n 0, 1) := by decide +kernel
theorem dX11_takeLike_109 : decode cX11_takeLike 109 = .ok (.getfield 119, 3) := by decide +kernel
theorem dX11_takeLike_112 : decode cX11_takeLike 112 = .ok (.aload_n 0, 1) := by decide +kernel
theorem dX11_takeLike_113 : decode cX11_takeLike 113 = .ok (.getfield 128, 3) := by decide +kernel
theorem dX11_takeLike_116 : decode cX11_takeLike 116 = .ok (.iload_n 3, 1) := by decide +kernel
theorem dX11_takeLike_117 : decode cX11_takeLike 117 = .ok (.imul, 1) := by decide +kernel
theorem dX11_takeLike_118 : decode cX11_takeLike 118 = .ok (.ishl, 1) := by decide +kernel
theorem dX11_takeLike_119 : decode cX11_takeLike 119 = .ok (.ior, 1) := by decide +kernel
theorem dX11_takeLike_120 : decode cX11_takeLike 120 = .ok (.iastore, 1) := by decide +kernel
theorem dX11_takeLike_121 : decode cX11_takeLike 121 = .ok (.iinc 3 1, 3) := by decide +kernel
theorem dX11_takeLike_124 : decode cX11_takeLike 124 = .ok (.goto (-98), 3) := by decide +kernel
theorem dX11_takeLike_127 : decode cX11_takeLike 127 = .ok (.iload_n 2, 1) := by decide +kernel
theorem dX11_takeLike_128 : decode cX11_takeLike 128 = .ok (.ireturn, 1) := by decide +kernel
theorem dX11_takeWind_0 : decode cX11_takeWind 0 = .ok (.aload_n 0, 1) := by decide +kernel
theorem dX11_takeWind_1 : decode cX11_takeWind 1 = .ok (.iconst 1, 1) := by decide +kernel
theorem dX11_takeWind_2 : decode cX11_takeWind 2 = .ok (.putfield 155, 3) := by decide +kernel
theorem dX11_takeWind_5 : decode cX11_takeWind 5 = .ok (.aload_n 0, 1) := by decide +kernel
theorem dX11_takeWind_6 : decode cX11_takeWind 6 = .ok (.iconst 0, 1) := by decide +kernel
theorem dX11_takeWind_7 : decode cX11_takeWind 7 = .ok (.iconst 2, 1) := by decide +kernel
theorem dX11_takeWind_8 : decode cX11_takeWind 8 = .ok (.invokevirtual 122, 3) := by decide +kernel
theorem dX11_takeWind_11 : decode cX11_takeWind 11 = .ok (.istore_n 1, 1) := by decide +kernel
theorem dX11_takeWind_12 : decode cX11_takeWind 12 = .ok (.aload_n 0, 1) := by decide +kernel
theorem dX11_takeWind_13 : decode cX11_takeWind 13 = .ok (.aload_n 0, 1) := by decide +kernel
theorem dX11_takeWind_14 : decode cX11_takeWind 14 = .ok (.getfield 119, 3) := by decide +kernel
theorem dX11_takeWind_17 : decode cX11_takeWind 17 = .ok (.putfield 159, 3) := by decide +kernel
theorem dX11_takeWind_20 : decode cX11_takeWind 20 = .ok (.iload_n 1, 1) := by decide +kernel
theorem dX11_takeWind_21 : decode cX11_takeWind 21 = .ok (.ireturn, 1) := by decide +kernel
theorem dX11_isFull_0 : decode cX11_isFull 0 = .ok (.iload_n 1, 1) := by decide +kernel
theorem dX11_isFull_1 : decode cX11_isFull 1 = .ok (.tableswitch 87 0 3 #[31, 44, 58, 73], 31) := by decide +kernel
theorem dX11_isFull_32 : decode cX11_isFull 32 = .ok (.aload_n 0, 1) := by decide +kernel
theorem dX11_isFull_33 : decode cX11_isFull 33 = .ok (.getfield 125, 3) := by decide +kernel
theorem dX11_isFull_36 : decode cX11_isFull 36 = .ok (.ifCond .le 7, 3) := by decide +kernel
theorem dX11_isFull_39 : decode cX11_isFull 39 = .ok (.iconst 1, 1) := by decide +kernel
theorem dX11_isFull_40 : decode cX11_isFull 40 = .ok (.goto 4, 3) := by decide +kernel
theorem dX11_isFull_43 : decode cX11_isFull 43 = .ok (.iconst 0, 1) := by decide +kernel
theorem dX11_isFull_44 : decode cX11_isFull 44 = .ok (.ireturn, 1) := by decide +kernel
theorem dX11_isFull_45 : decode cX11_isFull 45 = .ok (.aload_n 0, 1) := by decide +kernel
theorem dX11_isFull_46 : decode cX11_isFull 46 = .ok (.getfield 131, 3) := by decide +kernel
theorem dX11_isFull_49 : decode cX11_isFull 49 = .ok (.iconst 4, 1) := by decide +kernel
theorem dX11_isFull_50 : decode cX11_isFull 50 = .ok (.if_icmp .ne 7, 3) := by decide +kernel
theorem dX11_isFull_53 : decode cX11_isFull 53 = .ok (.iconst 1, 1) := by decide +kernel
theorem dX11_isFull_54 : decode cX11_isFull 54 = .ok (.goto 4, 3) := by decide +kernel
theorem dX11_isFull_57 : decode cX11_isFull 57 = .ok (.iconst 0, 1) := by decide +kernel
theorem dX11_isFull_58 : decode cX11_isFull 58 = .ok (.ireturn, 1) := by decide +kernel
theorem dX11_isFull_59 : decode cX11_isFull 59 = .ok (.aload_n 0, 1) := by decide +kernel
theorem dX11_isFull_60 : decode cX11_isFull 60 = .ok (.getfield 141, 3) := by decide +kernel
theorem dX11_isFull_63 : decode cX11_isFull 63 = .ok (.bipush 6, 2) := by decide +kernel
theorem dX11_isFull_65 : decode cX11_isFull 65 = .ok (.if_icmp .ne 7, 3) := by decide +kernel
theorem dX11_isFull_68 : decode cX11_isFull 68 = .ok (.iconst 1, 1) := by decide +kernel
theorem dX11_isFull_69 : decode cX11_isFull 69 = .ok (.goto 4, 3) := by decide +kernel
theorem dX11_isFull_72 : decode cX11_isFull 72 = .ok (.iconst 0, 1) := by decide +kernel
theorem dX11_isFull_73 : decode cX11_isFull 73 = .ok (.ireturn, 1) := by decide +kernel
theorem dX11_isFull_74 : decode cX11_isFull 74 = .ok (.aload_n 0, 1) := by decide +kernel
theorem dX11_isFull_75 : decode cX11_isFull 75 = .ok (.getfield 152, 3) := by decide +kernel
theorem dX11_isFull_78 : decode cX11_isFull 78 = .ok (.iconst 5, 1) := by decide +kernel
theorem dX11_isFull_79 : decode cX11_isFull 79 = .ok (.if_icmp .ne 7, 3) := by decide +kernel
theorem dX11_isFull_82 : decode cX11_isFull 82 = .ok (.iconst 1, 1) := by decide +kernel
theorem dX11_isFull_83 : decode cX11_isFull 83 = .ok (.goto 4, 3) := by decide +kernel
theorem dX11_isFull_86 : decode cX11_isFull 86 = .ok (.iconst 0, 1) := by decide +kernel
theorem dX11_isFull_87 : decode cX11_isFull 87 = .ok (.ireturn, 1) := by decide +kernel
theorem dX11_isFull_88 : decode cX11_isFull 88 = .ok (.aload_n 0, 1) := by decide +kernel
theorem dX11_isFull_89 : decode cX11_isFull 89 = .ok (.getfield 155, 3) := by decide +kernel
theorem dX11_isFull_92 : decode cX11_isFull 92 = .ok (.ireturn, 1) := by decide +kernel
theorem dX11_takeBody_0 : decode cX11_takeBody 0 = .ok (.iload_n 1, 1) := by decide +kernel
theorem dX11_takeBody_1 : decode cX11_takeBody 1 = .ok (.tableswitch 51 0 3 #[31, 36, 41, 46], 31) := by decide +kernel
theorem dX11_takeBody_32 : decode cX11_takeBody 32 = .ok (.aload_n 0, 1) := by decide +kernel
theorem dX11_takeBody_33 : decode cX11_takeBody 33 = .ok (.invokevirtual 162, 3) := by decide +kernel
theorem dX11_takeBody_36 : decode cX11_takeBody 36 = .ok (.ireturn, 1) := by decide +kernel
theorem dX11_takeBody_37 : decode cX11_takeBody 37 = .ok (.aload_n 0, 1) := by decide +kernel
theorem dX11_takeBody_38 : decode cX11_takeBody 38 = .ok (.invokevirtual 165, 3) := by decide +kernel
theorem dX11_takeBody_41 : decode cX11_takeBody 41 = .ok (.ireturn, 1) := by decide +kernel
theorem dX11_takeBody_42 : decode cX11_takeBody 42 = .ok (.aload_n 0, 1) := by decide +kernel
theorem dX11_takeBody_43 : decode cX11_takeBody 43 = .ok (.invokevirtual 168, 3) := by decide +kernel
theorem dX11_takeBody_46 : decode cX11_takeBody 46 = .ok (.ireturn, 1) := by decide +kernel
theorem dX11_takeBody_47 : decode cX11_takeBody 47 = .ok (.aload_n 0, 1) := by decide +kernel
theorem dX11_takeBody_48 : decode cX11_takeBody 48 = .ok (.invokevirtual 171, 3) := by decide +kernel
theorem dX11_takeBody_51 : decode cX11_takeBody 51 = .ok (.ireturn, 1) := by decide +kernel
theorem dX11_takeBody_52 : decode cX11_takeBody 52 = .ok (.aload_n 0, 1) := by decide +kernel
theorem dX11_takeBody_53 : decode cX11_takeBody 53 = .ok (.invokevirtual 174, 3) := by decide +kernel
theorem dX11_takeBody_56 : decode cX11_takeBody 56 = .ok (.ireturn, 1) := by decide +kernel
theorem dX11_takeClause_0 : decode cX11_takeClause 0 = .ok (.aload_n 0, 1) := by decide +kernel
theorem dX11_takeClause_1 : decode cX11_takeClause 1 = .ok (.invokevirtual 105, 3) := by decide +kernel
theorem dX11_takeClause_4 : decode cX11_takeClause 4 = .ok (.istore_n 1, 1) := by decide +kernel
theorem dX11_takeClause_5 : decode cX11_takeClause 5 = .ok (.iload_n 1, 1) := by decide +kernel
theorem dX11_takeClause_6 : decode cX11_takeClause 6 = .ok (.bipush 119, 2) := by decide +kernel
theorem dX11_takeClause_8 : decode cX11_takeClause 8 = .ok (.if_icmp .ne 7, 3) := by decide +kernel
theorem dX11_takeClause_11 : decode cX11_takeClause 11 = .ok (.iconst 0, 1) := by decide +kernel
theorem dX11_takeClause_12 : decode cX11_takeClause 12 = .ok (.goto 44, 3) := by decide +kernel
theorem dX11_takeClause_15 : decode cX11_takeClause 15 = .ok (.iload_n 1, 1) := by decide +kernel
theorem dX11_takeClause_16 : decode cX11_takeClause 16 = .ok (.bipush 108, 2) := by decide +kernel
theorem dX11_takeClause_18 : decode cX11_takeClause 18 = .ok (.if_icmp .ne 7, 3) := by decide +kernel
theorem dX11_takeClause_21 : decode cX11_takeClause 21 = .ok (.iconst 1, 1) := by decide +kernel
theorem dX11_takeClause_22 : decode cX11_takeClause 22 = .ok (.goto 34, 3) := by decide +kernel
theorem dX11_takeClause_25 : decode cX11_takeClause 25 = .ok (.iload_n 1, 1) := by decide +kernel
theorem dX11_takeClause_26 : decode cX11_takeClause 26 = .ok (.bipush 99, 2) := by decide +kernel
theorem dX11_takeClause_28 : decode cX11_takeClause 28 = .ok (.if_icmp .ne 7, 3) := by decide +kernel
theorem dX11_takeClause_31 : decode cX11_takeClause 31 = .ok (.iconst 2, 1) := by decide +kernel
theorem dX11_takeClause_32 : decode cX11_takeClause 32 = .ok (.goto 24, 3) := by decide +kernel
theorem dX11_takeClause_35 : decode cX11_takeClause 35 = .ok (.iload_n 1, 1) := by decide +kernel
theorem dX11_takeClause_36 : decode cX11_takeClause 36 = .ok (.bipush 102, 2) := by decide +kernel
theorem dX11_takeClause_38 : decode cX11_takeClause 38 = .ok (.if_icmp .ne 7, 3) := by decide +kernel
theorem dX11_takeClause_41 : decode cX11_takeClause 41 = .ok (.iconst 3, 1) := by decide +kernel
theorem dX11_takeClause_42 : decode cX11_takeClause 42 = .ok (.goto 14, 3) := by decide +kernel
theorem dX11_takeClause_45 : decode cX11_takeClause 45 = .ok (.iload_n 1, 1) := by decide +kernel
theorem dX11_takeClause_46 : decode cX11_takeClause 46 = .ok (.bipush 110, 2) := by decide +kernel
theorem dX11_takeClause_48 : decode cX11_takeClause 48 = .ok (.if_icmp .ne 7, 3) := by decide +kernel
theorem dX11_takeClause_51 : decode cX11_takeClause 51 = .ok (.iconst 4, 1) := by decide +kernel
theorem dX11_takeClause_52 : decode cX11_takeClause 52 = .ok (.goto 4, 3) := by decide +kernel
theorem dX11_takeClause_55 : decode cX11_takeClause 55 = .ok (.iconst (-1), 1) := by decide +kernel
theorem dX11_takeClause_56 : decode cX11_takeClause 56 = .ok (.istore_n 2, 1) := by decide +kernel
theorem dX11_takeClause_57 : decode cX11_takeClause 57 = .ok (.iload_n 2, 1) := by decide +kernel
theorem dX11_takeClause_58 : decode cX11_takeClause 58 = .ok (.ifCond .lt 14, 3) := by decide +kernel
theorem dX11_takeClause_61 : decode cX11_takeClause 61 = .ok (.iload_n 2, 1) := by decide +kernel
theorem dX11_takeClause_62 : decode cX11_takeClause 62 = .ok (.ifCond .le 20, 3) := by decide +kernel
theorem dX11_takeClause_65 : decode cX11_takeClause 65 = .ok (.aload_n 0, 1) := by decide +kernel
theorem dX11_takeClause_66 : decode cX11_takeClause 66 = .ok (.getfield 125, 3) := by decide +kernel
theorem dX11_takeClause_69 : decode cX11_takeClause 69 = .ok (.ifCond .ne 13, 3) := by decide +kernel
theorem dX11_takeClause_72 : decode cX11_takeClause 72 = .ok (.aload_n 0, 1) := by decide +kernel
theorem dX11_takeClause_73 : decode cX11_takeClause 73 = .ok (.iconst 1, 1) := by decide +kernel
theorem dX11_takeClause_74 : decode cX11_takeClause 74 = .ok (.aload_n 0, 1) := by decide +kernel
theorem dX11_takeClause_75 : decode cX11_takeClause 75 = .ok (.getfield 102, 3) := by decide +kernel
theorem dX11_takeClause_78 : decode cX11_takeClause 78 = .ok (.invokevirtual 112, 3) := by decide +kernel
theorem dX11_takeClause_81 : decode cX11_takeClause 81 = .ok (.ireturn, 1) := by decide +kernel
theorem dX11_takeClause_82 : decode cX11_takeClause 82 = .ok (.aload_n 0, 1) := by decide +kernel
theorem dX11_takeClause_83 : decode cX11_takeClause 83 = .ok (.iload_n 2, 1) := by decide +kernel
theorem dX11_takeClause_84 : decode cX11_takeClause 84 = .ok (.invokevirtual 177, 3) := by decide +kernel
theorem dX11_takeClause_87 : decode cX11_takeClause 87 = .ok (.ifCond .eq 13, 3) := by decide +kernel
theorem dX11_takeClause_90 : decode cX11_takeClause 90 = .ok (.aload_n 0, 1) := by decide +kernel
theorem dX11_takeClause_91 : decode cX11_takeClause 91 = .ok (.iconst 3, 1) := by decide +kernel
theorem dX11_takeClause_92 : decode cX11_takeClause 92 = .ok (.aload_n 0, 1) := by decide +kernel
theorem dX11_takeClause_93 : decode cX11_takeClause 93 = .ok (.getfield 102, 3) := by decide +kernel
theorem dX11_takeClause_96 : decode cX11_takeClause 96 = .ok (.invokevirtual 112, 3) := by decide +kernel
theorem dX11_takeClause_99 : decode cX11_takeClause 99 = .ok (.ireturn, 1) := by decide +kernel
theorem dX11_takeClause_100 : decode cX11_takeClause 100 = .ok (.aload_n 0, 1) := by decide +kernel
theorem dX11_takeClause_101 : decode cX11_takeClause 101 = .ok (.dup, 1) := by decide +kernel
theorem dX11_takeClause_102 : decode cX11_takeClause 102 = .ok (.getfield 102, 3) := by decide +kernel
theorem dX11_takeClause_105 : decode cX11_takeClause 105 = .ok (.iconst 1, 1) := by decide +kernel
theorem dX11_takeClause_106 : decode cX11_takeClause 106 = .ok (.iadd, 1) := by decide +kernel
theorem dX11_takeClause_107 : decode cX11_takeClause 107 = .ok (.putfield 102, 3) := by decide +kernel
theorem dX11_takeClause_110 : decode cX11_takeClause 110 = .ok (.aload_n 0, 1) := by decide +kernel
theorem dX11_takeClause_111 : decode cX11_takeClause 111 = .ok (.iload_n 2, 1) := by decide +kernel
theorem dX11_takeClause_112 : decode cX11_takeClause 112 = .ok (.invokevirtual 181, 3) := by decide +kernel
theorem dX11_takeClause_115 : decode cX11_takeClause 115 = .ok (.istore_n 3, 1) := by decide +kernel
theorem dX11_takeClause_116 : decode cX11_takeClause 116 = .ok (.iload_n 3, 1) := by decide +kernel
theorem dX11_takeClause_117 : decode cX11_takeClause 117 = .ok (.ifCond .ne 22, 3) := by decide +kernel
theorem dX11_takeClause_120 : decode cX11_takeClause 120 = .ok (.aload_n 0, 1) := by decide +kernel
theorem dX11_takeClause_121 : decode cX11_takeClause 121 = .ok (.invokevirtual 105, 3) := by decide +kernel
theorem dX11_takeClause_124 : decode cX11_takeClause 124 = .ok (.bipush 59, 2) := by decide +kernel
theorem dX11_takeClause_126 : decode cX11_takeClause 126 = .ok (.if_icmp .eq 13, 3) := by decide +kernel
theorem dX11_takeClause_129 : decode cX11_takeClause 129 = .ok (.aload_n 0, 1) := by decide +kernel
theorem dX11_takeClause_130 : decode cX11_takeClause 130 = .ok (.iconst 1, 1) := by decide +kernel
theorem dX11_takeClause_131 : decode cX11_takeClause 131 = .ok (.aload_n 0, 1) := by decide +kernel
theorem dX11_takeClause_132 : decode cX11_takeClause 132 = .ok (.getfield 102, 3) := by decide +kernel
theorem dX11_takeClause_135 : decode cX11_takeClause 135 = .ok (.invokevirtual 112, 3) := by decide +kernel
theorem dX11_takeClause_138 : decode cX11_takeClause 138 = .ok (.ireturn, 1) := by decide +kernel
theorem dX11_takeClause_139 : decode cX11_takeClause 139 = .ok (.aload_n 0, 1) := by decide +kernel
theorem dX11_takeClause_140 : decode cX11_takeClause 140 = .ok (.dup, 1) := by decide +kernel
theorem dX11_takeClause_141 : decode cX11_takeClause 141 = .ok (.getfield 102, 3) := by decide +kernel
theorem dX11_takeClause_144 : decode cX11_takeClause 144 = .ok (.iconst 1, 1) := by decide +kernel
theorem dX11_takeClause_145 : decode cX11_takeClause 145 = .ok (.iadd, 1) := by decide +kernel
theorem dX11_takeClause_146 : decode cX11_takeClause 146 = .ok (.putfield 102, 3) := by decide +kernel
theorem dX11_takeClause_149 : decode cX11_takeClause 149 = .ok (.iload_n 3, 1) := by decide +kernel
theorem dX11_takeClause_150 : decode cX11_takeClause 150 = .ok (.ireturn, 1) := by decide +kernel
theorem dX11_copyRow_0 : decode cX11_copyRow 0 = .ok (.iconst 0, 1) := by decide +kernel
theorem dX11_copyRow_1 : decode cX11_copyRow 1 = .ok (.istore_n 3, 1) := by decide +kernel
theorem dX11_copyRow_2 : decode cX11_copyRow 2 = .ok (.iload_n 3, 1) := by decide +kernel
theorem dX11_copyRow_3 : decode cX11_copyRow 3 = .ok (.iload_n 2, 1) := by decide +kernel
theorem dX11_copyRow_4 : decode cX11_copyRow 4 = .ok (.if_icmp .ge 15, 3) := by decide +kernel
theorem dX11_copyRow_7 : decode cX11_copyRow 7 = .ok (.aload_n 1, 1) := by decide +kernel
theorem dX11_copyRow_8 : decode cX11_copyRow 8 = .ok (.iload_n 3, 1) := by decide +kernel
theorem dX11_copyRow_9 : decode cX11_copyRow 9 = .ok (.aload_n 0, 1) := by decide +kernel
theorem dX11_copyRow_10 : decode cX11_copyRow 10 = .ok (.iload_n 3, 1) := by decide +kernel
theorem dX11_copyRow_11 : decode cX11_copyRow 11 = .ok (.iaload, 1) := by decide +kernel
theorem dX11_copyRow_12 : decode cX11_copyRow 12 = .ok (.iastore, 1) := by decide +kernel
theorem dX11_copyRow_13 : decode cX11_copyRow 13 = .ok (.iinc 3 1, 3) := by decide +kernel
theorem dX11_copyRow_16 : decode cX11_copyRow 16 = .ok (.goto (-14), 3) := by decide +kernel
theorem dX11_copyRow_19 : decode cX11_copyRow 19 = .ok (.return_, 1) := by decide +kernel
theorem dX11_takeRead_0 : decode cX11_takeRead 0 = .ok (.aload_n 0, 1) := by decide +kernel
theorem dX11_takeRead_1 : decode cX11_takeRead 1 = .ok (.aload_n 0, 1) := by decide +kernel
theorem dX11_takeRead_2 : decode cX11_takeRead 2 = .ok (.getfield 125, 3) := by decide +kernel
theorem dX11_takeRead_5 : decode cX11_takeRead 5 = .ok (.putfield 72, 3) := by decide +kernel
theorem dX11_takeRead_8 : decode cX11_takeRead 8 = .ok (.aload_n 0, 1) := by decide +kernel
theorem dX11_takeRead_9 : decode cX11_takeRead 9 = .ok (.aload_n 0, 1) := by decide +kernel
theorem dX11_takeRead_10 : decode cX11_takeRead 10 = .ok (.getfield 128, 3) := by decide +kernel
theorem dX11_takeRead_13 : decode cX11_takeRead 13 = .ok (.putfield 75, 3) := by decide +kernel
theorem dX11_takeRead_16 : decode cX11_takeRead 16 = .ok (.aload_n 0, 1) := by decide +kernel
theorem dX11_takeRead_17 : decode cX11_takeRead 17 = .ok (.aload_n 0, 1) := by decide +kernel
theorem dX11_takeRead_18 : decode cX11_takeRead 18 = .ok (.getfield 131, 3) := by decide +kernel
theorem dX11_takeRead_21 : decode cX11_takeRead 21 = .ok (.putfield 86, 3) := by decide +kernel
theorem dX11_takeRead_24 : decode cX11_takeRead 24 = .ok (.aload_n 0, 1) := by decide +kernel
theorem dX11_takeRead_25 : decode cX11_takeRead 25 = .ok (.aload_n 0, 1) := by decide +kernel
theorem dX11_takeRead_26 : decode cX11_takeRead 26 = .ok (.getfield 141, 3) := by decide +kernel
theorem dX11_takeRead_29 : decode cX11_takeRead 29 = .ok (.putfield 89, 3) := by decide +kernel
theorem dX11_takeRead_32 : decode cX11_takeRead 32 = .ok (.aload_n 0, 1) := by decide +kernel
theorem dX11_takeRead_33 : decode cX11_takeRead 33 = .ok (.aload_n 0, 1) := by decide +kernel
theorem dX11_takeRead_34 : decode cX11_takeRead 34 = .ok (.getfield 152, 3) := by decide +kernel
theorem dX11_takeRead_37 : decode cX11_takeRead 37 = .ok (.putfield 92, 3) := by decide +kernel
theorem dX11_takeRead_40 : decode cX11_takeRead 40 = .ok (.aload_n 0, 1) := by decide +kernel
theorem dX11_takeRead_41 : decode cX11_takeRead 41 = .ok (.aload_n 0, 1) := by decide +kernel
theorem dX11_takeRead_42 : decode cX11_takeRead 42 = .ok (.getfield 159, 3) := by decide +kernel
theorem dX11_takeRead_45 : decode cX11_takeRead 45 = .ok (.putfield 185, 3) := by decide +kernel
theorem dX11_takeRead_48 : decode cX11_takeRead 48 = .ok (.aload_n 0, 1) := by decide +kernel
theorem dX11_takeRead_49 : decode cX11_takeRead 49 = .ok (.getfield 32, 3) := by decide +kernel
theorem dX11_takeRead_52 : decode cX11_takeRead 52 = .ok (.aload_n 0, 1) := by decide +kernel
theorem dX11_takeRead_53 : decode cX11_takeRead 53 = .ok (.getfield 7, 3) := by decide +kernel
theorem dX11_takeRead_56 : decode cX11_takeRead 56 = .ok (.aload_n 0, 1) := by decide +kernel
theorem dX11_takeRead_57 : decode cX11_takeRead 57 = .ok (.getfield 86, 3) := by decide +kernel
theorem dX11_takeRead_60 : decode cX11_takeRead 60 = .ok (.invokestatic 188, 3) := by decide +kernel
theorem dX11_takeRead_63 : decode cX11_takeRead 63 = .ok (.aload_n 0, 1) := by decide +kernel
theorem dX11_takeRead_64 : decode cX11_takeRead 64 = .ok (.getfield 35, 3) := by decide +kernel
theorem dX11_takeRead_67 : decode cX11_takeRead 67 = .ok (.aload_n 0, 1) := by decide +kernel
theorem dX11_takeRead_68 : decode cX11_takeRead 68 = .ok (.getfield 13, 3) := by decide +kernel
theorem dX11_takeRead_71 : decode cX11_takeRead 71 = .ok (.aload_n 0, 1) := by decide +kernel
theorem dX11_takeRead_72 : decode cX11_takeRead 72 = .ok (.getfield 89, 3) := by decide +kernel
theorem dX11_takeRead_75 : decode cX11_takeRead 75 = .ok (.invokestatic 188, 3) := by decide +kernel
theorem dX11_takeRead_78 : decode cX11_takeRead 78 = .ok (.aload_n 0, 1) := by decide +kernel
theorem dX11_takeRead_79 : decode cX11_takeRead 79 = .ok (.getfield 38, 3) := by decide +kernel
theorem dX11_takeRead_82 : decode cX11_takeRead 82 = .ok (.aload_n 0, 1) := by decide +kernel
theorem dX11_takeRead_83 : decode cX11_takeRead 83 = .ok (.getfield 16, 3) := by decide +kernel
theorem dX11_takeRead_86 : decode cX11_takeRead 86 = .ok (.aload_n 0, 1) := by decide +kernel
theorem dX11_takeRead_87 : decode cX11_takeRead 87 = .ok (.getfield 89, 3) := by decide +kernel
theorem dX11_takeRead_90 : decode cX11_takeRead 90 = .ok (.invokestatic 188, 3) := by decide +kernel
theorem dX11_takeRead_93 : decode cX11_takeRead 93 = .ok (.aload_n 0, 1) := by decide +kernel
theorem dX11_takeRead_94 : decode cX11_takeRead 94 = .ok (.getfield 41, 3) := by decide +kernel
theorem dX11_takeRead_97 : decode cX11_takeRead 97 = .ok (.aload_n 0, 1) := by decide +kernel
theorem dX11_takeRead_98 : decode cX11_takeRead 98 = .ok (.getfield 19, 3) := by decide +kernel
theorem dX11_takeRead_101 : decode cX11_takeRead 101 = .ok (.aload_n 0, 1) := by decide +kernel
theorem dX11_takeRead_102 : decode cX11_takeRead 102 = .ok (.getfield 92, 3) := by decide +kernel
theorem dX11_takeRead_105 : decode cX11_takeRead 105 = .ok (.invokestatic 188, 3) := by decide +kernel
theorem dX11_takeRead_108 : decode cX11_takeRead 108 = .ok (.iconst 0, 1) := by decide +kernel
theorem dX11_takeRead_109 : decode cX11_takeRead 109 = .ok (.istore_n 1, 1) := by decide +kernel
theorem dX11_takeRead_110 : decode cX11_takeRead 110 = .ok (.iload_n 1, 1) := by decide +kernel
theorem dX11_takeRead_111 : decode cX11_takeRead 111 = .ok (.bipush 34, 2) := by decide +kernel
theorem dX11_takeRead_113 : decode cX11_takeRead 113 = .ok (.if_icmp .ge 16, 3) := by decide +kernel
theorem dX11_takeRead_116 : decode cX11_takeRead 116 = .ok (.aload_n 0, 1) := by decide +kernel
theorem dX11_takeRead_117 : decode cX11_takeRead 117 = .ok (.getfield 22, 3) := by decide +kernel
theorem dX11_takeRead_120 : decode cX11_takeRead 120 = .ok (.iload_n 1, 1) := by decide +kernel
theorem dX11_takeRead_121 : decode cX11_takeRead 121 = .ok (.iconst 0, 1) := by decide +kernel
theorem dX11_takeRead_122 : decode cX11_takeRead 122 = .ok (.iastore, 1) := by decide +kernel
theorem dX11_takeRead_123 : decode cX11_takeRead 123 = .ok (.iinc 1 1, 3) := by decide +kernel
theorem dX11_takeRead_126 : decode cX11_takeRead 126 = .ok (.goto (-16), 3) := by decide +kernel
theorem dX11_takeRead_129 : decode cX11_takeRead 129 = .ok (.iconst 0, 1) := by decide +kernel
theorem dX11_takeRead_130 : decode cX11_takeRead 130 = .ok (.istore_n 1, 1) := by decide +kernel
theorem dX11_takeRead_131 : decode cX11_takeRead 131 = .ok (.iload_n 1, 1) := by decide +kernel
theorem dX11_takeRead_132 : decode cX11_takeRead 132 = .ok (.aload_n 0, 1) := by decide +kernel
theorem dX11_takeRead_133 : decode cX11_takeRead 133 = .ok (.getfield 86, 3) := by decide +kernel
theorem dX11_takeRead_136 : decode cX11_takeRead 136 = .ok (.if_icmp .ge 24, 3) := by decide +kernel
theorem dX11_takeRead_139 : decode cX11_takeRead 139 = .ok (.aload_n 0, 1) := by decide +kernel
theorem dX11_takeRead_140 : decode cX11_takeRead 140 = .ok (.getfield 22, 3) := by decide +kernel
theorem dX11_takeRead_143 : decode cX11_takeRead 143 = .ok (.bipush 25, 2) := by decide +kernel
theorem dX11_takeRead_145 : decode cX11_takeRead 145 = .ok (.iload_n 1, 1) := by decide +kernel
theorem dX11_takeRead_146 : decode cX11_takeRead 146 = .ok (.iadd, 1) := by decide +kernel
theorem dX11_takeRead_147 : decode cX11_takeRead 147 = .ok (.aload_n 0, 1) := by decide +kernel
theorem dX11_takeRead_148 : decode cX11_takeRead 148 = .ok (.getfield 7, 3) := by decide +kernel
theorem dX11_takeRead_151 : decode cX11_takeRead 151 = .ok (.iload_n 1, 1) := by decide +kernel
theorem dX11_takeRead_152 : decode cX11_takeRead 152 = .ok (.iaload, 1) := by decide +kernel
theorem dX11_takeRead_153 : decode cX11_takeRead 153 = .ok (.iastore, 1) := by decide +kernel
theorem dX11_takeRead_154 : decode cX11_takeRead 154 = .ok (.iinc 1 1, 3) := by decide +kernel
theorem dX11_takeRead_157 : decode cX11_takeRead 157 = .ok (.goto (-26), 3) := by decide +kernel
theorem dX11_takeRead_160 : decode cX11_takeRead 160 = .ok (.aload_n 0, 1) := by decide +kernel
theorem dX11_takeRead_161 : decode cX11_takeRead 161 = .ok (.getfield 22, 3) := by decide +kernel
theorem dX11_takeRead_164 : decode cX11_takeRead 164 = .ok (.bipush 29, 2) := by decide +kernel
theorem dX11_takeRead_166 : decode cX11_takeRead 166 = .ok (.aload_n 0, 1) := by decide +kernel
theorem dX11_takeRead_167 : decode cX11_takeRead 167 = .ok (.getfield 185, 3) := by decide +kernel
theorem dX11_takeRead_170 : decode cX11_takeRead 170 = .ok (.iastore, 1) := by decide +kernel
theorem dX11_takeRead_171 : decode cX11_takeRead 171 = .ok (.return_, 1) := by decide +kernel
theorem dX11_wall_0 : decode cX11_wall 0 = .ok (.aload_n 0, 1) := by decide +kernel
theorem dX11_wall_1 : decode cX11_wall 1 = .ok (.iconst (-1), 1) := by decide +kernel
theorem dX11_wall_2 : decode cX11_wall 2 = .ok (.putfield 28, 3) := by decide +kernel
theorem dX11_wall_5 : decode cX11_wall 5 = .ok (.aload_n 0, 1) := by decide +kernel
theorem dX11_wall_6 : decode cX11_wall 6 = .ok (.iconst 0, 1) := by decide +kernel
theorem dX11_wall_7 : decode cX11_wall 7 = .ok (.putfield 102, 3) := by decide +kernel
theorem dX11_wall_10 : decode cX11_wall 10 = .ok (.aload_n 0, 1) := by decide +kernel
theorem dX11_wall_11 : decode cX11_wall 11 = .ok (.iconst 0, 1) := by decide +kernel
theorem dX11_wall_12 : decode cX11_wall 12 = .ok (.putfield 125, 3) := by decide +kernel
theorem dX11_wall_15 : decode cX11_wall 15 = .ok (.aload_n 0, 1) := by decide +kernel
theorem dX11_wall_16 : decode cX11_wall 16 = .ok (.iconst 0, 1) := by decide +kernel
theorem dX11_wall_17 : decode cX11_wall 17 = .ok (.putfield 128, 3) := by decide +kernel
theorem dX11_wall_20 : decode cX11_wall 20 = .ok (.aload_n 0, 1) := by decide +kernel
theorem dX11_wall_21 : decode cX11_wall 21 = .ok (.iconst 0, 1) := by decide +kernel
theorem dX11_wall_22 : decode cX11_wall 22 = .ok (.putfield 131, 3) := by decide +kernel
theorem dX11_wall_25 : decode cX11_wall 25 = .ok (.aload_n 0, 1) := by decide +kernel
theorem dX11_wall_26 : decode cX11_wall 26 = .ok (.iconst 0, 1) := by decide +kernel
theorem dX11_wall_27 : decode cX11_wall 27 = .ok (.putfield 141, 3) := by decide +kernel
theorem dX11_wall_30 : decode cX11_wall 30 = .ok (.aload_n 0, 1) := by decide +kernel
theorem dX11_wall_31 : decode cX11_wall 31 = .ok (.iconst 0, 1) := by decide +kernel
theorem dX11_wall_32 : decode cX11_wall 32 = .ok (.putfield 152, 3) := by decide +kernel
theorem dX11_wall_35 : decode cX11_wall 35 = .ok (.aload_n 0, 1) := by decide +kernel
theorem dX11_wall_36 : decode cX11_wall 36 = .ok (.iconst 0, 1) := by decide +kernel
theorem dX11_wall_37 : decode cX11_wall 37 = .ok (.putfield 155, 3) := by decide +kernel
theorem dX11_wall_40 : decode cX11_wall 40 = .ok (.aload_n 0, 1) := by decide +kernel
theorem dX11_wall_41 : decode cX11_wall 41 = .ok (.iconst 0, 1) := by decide +kernel
theorem dX11_wall_42 : decode cX11_wall 42 = .ok (.putfield 159, 3) := by decide +kernel
theorem dX11_wall_45 : decode cX11_wall 45 = .ok (.iconst 0, 1) := by decide +kernel
theorem dX11_wall_46 : decode cX11_wall 46 = .ok (.istore_n 1, 1) := by decide +kernel
theorem dX11_wall_47 : decode cX11_wall 47 = .ok (.iload_n 1, 1) := by decide +kernel
theorem dX11_wall_48 : decode cX11_wall 48 = .ok (.ifCond .ne 18, 3) := by decide +kernel
theorem dX11_wall_51 : decode cX11_wall 51 = .ok (.aload_n 0, 1) := by decide +kernel
theorem dX11_wall_52 : decode cX11_wall 52 = .ok (.invokevirtual 105, 3) := by decide +kernel
theorem dX11_wall_55 : decode cX11_wall 55 = .ok (.ifCond .lt 11, 3) := by decide +kernel
theorem dX11_wall_58 : decode cX11_wall 58 = .ok (.aload_n 0, 1) := by decide +kernel
theorem dX11_wall_59 : decode cX11_wall 59 = .ok (.invokevirtual 192, 3) := by decide +kernel
theorem dX11_wall_62 : decode cX11_wall 62 = .ok (.istore_n 1, 1) := by decide +kernel
theorem dX11_wall_63 : decode cX11_wall 63 = .ok (.goto (-16), 3) := by decide +kernel
theorem dX11_wall_66 : decode cX11_wall 66 = .ok (.aload_n 0, 1) := by decide +kernel
theorem dX11_wall_67 : decode cX11_wall 67 = .ok (.iconst 0, 1) := by decide +kernel
theorem dX11_wall_68 : decode cX11_wall 68 = .ok (.putfield 98, 3) := by decide +kernel
theorem dX11_wall_71 : decode cX11_wall 71 = .ok (.iload_n 1, 1) := by decide +kernel
theorem dX11_wall_72 : decode cX11_wall 72 = .ok (.ifCond .le 8, 3) := by decide +kernel
theorem dX11_wall_75 : decode cX11_wall 75 = .ok (.bipush (-10), 2) := by decide +kernel
theorem dX11_wall_77 : decode cX11_wall 77 = .ok (.iload_n 1, 1) := by decide +kernel
theorem dX11_wall_78 : decode cX11_wall 78 = .ok (.isub, 1) := by decide +kernel
theorem dX11_wall_79 : decode cX11_wall 79 = .ok (.ireturn, 1) := by decide +kernel
theorem dX11_wall_80 : decode cX11_wall 80 = .ok (.aload_n 0, 1) := by decide +kernel
theorem dX11_wall_81 : decode cX11_wall 81 = .ok (.invokevirtual 195, 3) := by decide +kernel
theorem dX11_wall_84 : decode cX11_wall 84 = .ok (.aload_n 0, 1) := by decide +kernel
theorem dX11_wall_85 : decode cX11_wall 85 = .ok (.iconst 0, 1) := by decide +kernel
theorem dX11_wall_86 : decode cX11_wall 86 = .ok (.putfield 198, 3) := by decide +kernel
theorem dX11_wall_89 : decode cX11_wall 89 = .ok (.aload_n 0, 1) := by decide +kernel
theorem dX11_wall_90 : decode cX11_wall 90 = .ok (.iconst 0, 1) := by decide +kernel
theorem dX11_wall_91 : decode cX11_wall 91 = .ok (.putfield 201, 3) := by decide +kernel
theorem dX11_wall_94 : decode cX11_wall 94 = .ok (.aload_n 0, 1) := by decide +kernel
theorem dX11_wall_95 : decode cX11_wall 95 = .ok (.getfield 68, 3) := by decide +kernel
theorem dX11_wall_98 : decode cX11_wall 98 = .ok (.iconst 0, 1) := by decide +kernel
theorem dX11_wall_99 : decode cX11_wall 99 = .ok (.iconst 0, 1) := by decide +kernel
theorem dX11_wall_100 : decode cX11_wall 100 = .ok (.bastore, 1) := by decide +kernel
theorem dX11_wall_101 : decode cX11_wall 101 = .ok (.aload_n 0, 1) := by decide +kernel
theorem dX11_wall_102 : decode cX11_wall 102 = .ok (.getfield 68, 3) := by decide +kernel
theorem dX11_wall_105 : decode cX11_wall 105 = .ok (.iconst 1, 1) := by decide +kernel
theorem dX11_wall_106 : decode cX11_wall 106 = .ok (.iconst 0, 1) := by decide +kernel
theorem dX11_wall_107 : decode cX11_wall 107 = .ok (.bastore, 1) := by decide +kernel
theorem dX11_wall_108 : decode cX11_wall 108 = .ok (.aload_n 0, 1) := by decide +kernel
theorem dX11_wall_109 : decode cX11_wall 109 = .ok (.invokevirtual 78, 3) := by decide +kernel
theorem dX11_wall_112 : decode cX11_wall 112 = .ok (.ireturn, 1) := by decide +kernel
theorem dX11_fault_0 : decode cX11_fault 0 = .ok (.aload_n 0, 1) := by decide +kernel
theorem dX11_fault_1 : decode cX11_fault 1 = .ok (.getfield 28, 3) := by decide +kernel
theorem dX11_fault_4 : decode cX11_fault 4 = .ok (.ireturn, 1) := by decide +kernel
theorem dX11_shows_0 : decode cX11_shows 0 = .ok (.iconst 0, 1) := by decide +kernel
theorem dX11_shows_1 : decode cX11_shows 1 = .ok (.istore_n 1, 1) := by decide +kernel
theorem dX11_shows_2 : decode cX11_shows 2 = .ok (.iconst 0, 1) := by decide +kernel
theorem dX11_shows_3 : decode cX11_shows 3 = .ok (.istore_n 2, 1) := by decide +kernel
theorem dX11_shows_4 : decode cX11_shows 4 = .ok (.iload_n 2, 1) := by decide +kernel
theorem dX11_shows_5 : decode cX11_shows 5 = .ok (.aload_n 0, 1) := by decide +kernel
theorem dX11_shows_6 : decode cX11_shows 6 = .ok (.invokevirtual 78, 3) := by decide +kernel
theorem dX11_shows_9 : decode cX11_shows 9 = .ok (.if_icmp .ge 29, 3) := by decide +kernel
theorem dX11_shows_12 : decode cX11_shows 12 = .ok (.iload_n 1, 1) := by decide +kernel
theorem dX11_shows_13 : decode cX11_shows 13 = .ok (.aload_n 0, 1) := by decide +kernel
theorem dX11_shows_14 : decode cX11_shows 14 = .ok (.getfield 22, 3) := by decide +kernel
theorem dX11_shows_17 : decode cX11_shows 17 = .ok (.iload_n 2, 1) := by decide +kernel
theorem dX11_shows_18 : decode cX11_shows 18 = .ok (.iaload, 1) := by decide +kernel
theorem dX11_shows_19 : decode cX11_shows 19 = .ok (.iconst 3, 1) := by decide +kernel
theorem dX11_shows_20 : decode cX11_shows 20 = .ok (.if_icmp .lt 9, 3) := by decide +kernel
theorem dX11_shows_23 : decode cX11_shows 23 = .ok (.iconst 1, 1) := by decide +kernel
theorem dX11_shows_24 : decode cX11_shows 24 = .ok (.iload_n 2, 1) := by decide +kernel
theorem dX11_shows_25 : decode cX11_shows 25 = .ok (.ishl, 1) := by decide +kernel
theorem dX11_shows_26 : decode cX11_shows 26 = .ok (.goto 4, 3) := by decide +kernel
theorem dX11_shows_29 : decode cX11_shows 29 = .ok (.iconst 0, 1) := by decide +kernel
theorem dX11_shows_30 : decode cX11_shows 30 = .ok (.ior, 1) := by decide +kernel
theorem dX11_shows_31 : decode cX11_shows 31 = .ok (.istore_n 1, 1) := by decide +kernel
theorem dX11_shows_32 : decode cX11_shows 32 = .ok (.iinc 2 1, 3) := by decide +kernel
theorem dX11_shows_35 : decode cX11_shows 35 = .ok (.goto (-31), 3) := by decide +kernel
theorem dX11_shows_38 : decode cX11_shows 38 = .ok (.iload_n 1, 1) := by decide +kernel
theorem dX11_shows_39 : decode cX11_shows 39 = .ok (.ireturn, 1) := by decide +kernel
theorem dX11_around_0 : decode cX11_around 0 = .ok (.iconst 0, 1) := by decide +kernel
theorem dX11_around_1 : decode cX11_around 1 = .ok (.istore_n 2, 1) := by decide +kernel
theorem dX11_around_2 : decode cX11_around 2 = .ok (.iconst 0, 1) := by decide +kernel
theorem dX11_around_3 : decode cX11_around 3 = .ok (.istore_n 3, 1) := by decide +kernel
theorem dX11_around_4 : decode cX11_around 4 = .ok (.iload_n 3, 1) := by decide +kernel
theorem dX11_around_5 : decode cX11_around 5 = .ok (.aload_n 0, 1) := by decide +kernel
theorem dX11_around_6 : decode cX11_around 6 = .ok (.invokevirtual 78, 3) := by decide +kernel
theorem dX11_around_9 : decode cX11_around 9 = .ok (.if_icmp .ge 31, 3) := by decide +kernel
theorem dX11_around_12 : decode cX11_around 12 = .ok (.iload_n 2, 1) := by decide +kernel
theorem dX11_around_13 : decode cX11_around 13 = .ok (.iload_n 1, 1) := by decide +kernel
theorem dX11_around_14 : decode cX11_around 14 = .ok (.iload_n 3, 1) := by decide +kernel
theorem dX11_around_15 : decode cX11_around 15 = .ok (.aload_n 0, 1) := by decide +kernel
theorem dX11_around_16 : decode cX11_around 16 = .ok (.getfield 75, 3) := by decide +kernel
theorem dX11_around_19 : decode cX11_around 19 = .ok (.invokestatic 144, 3) := by decide +kernel
theorem dX11_around_22 : decode cX11_around 22 = .ok (.ifCond .eq 9, 3) := by decide +kernel
theorem dX11_around_25 : decode cX11_around 25 = .ok (.iconst 1, 1) := by decide +kernel
theorem dX11_around_26 : decode cX11_around 26 = .ok (.iload_n 3, 1) := by decide +kernel
theorem dX11_around_27 : decode cX11_around 27 = .ok (.ishl, 1) := by decide +kernel
theorem dX11_around_28 : decode cX11_around 28 = .ok (.goto 4, 3) := by decide +kernel
theorem dX11_around_31 : decode cX11_around 31 = .ok (.iconst 0, 1) := by decide +kernel
theorem dX11_around_32 : decode cX11_around 32 = .ok (.ior, 1) := by decide +kernel
theorem dX11_around_33 : decode cX11_around 33 = .ok (.istore_n 2, 1) := by decide +kernel
theorem dX11_around_34 : decode cX11_around 34 = .ok (.iinc 3 1, 3) := by decide +kernel
theorem dX11_around_37 : decode cX11_around 37 = .ok (.goto (-33), 3) := by decide +kernel
theorem dX11_around_40 : decode cX11_around 40 = .ok (.iload_n 2, 1) := by decide +kernel
theorem dX11_around_41 : decode cX11_around 41 = .ok (.ireturn, 1) := by decide +kernel
theorem dX11_likeOf_0 : decode cX11_likeOf 0 = .ok (.aload_n 0, 1) := by decide +kernel
theorem dX11_likeOf_1 : decode cX11_likeOf 1 = .ok (.invokevirtual 78, 3) := by decide +kernel
theorem dX11_likeOf_4 : decode cX11_likeOf 4 = .ok (.aload_n 0, 1) := by decide +kernel
theorem dX11_likeOf_5 : decode cX11_likeOf 5 = .ok (.invokevirtual 204, 3) := by decide +kernel
theorem dX11_likeOf_8 : decode cX11_likeOf 8 = .ok (.aload_n 0, 1) := by decide +kernel
theorem dX11_likeOf_9 : decode cX11_likeOf 9 = .ok (.getfield 19, 3) := by decide +kernel
theorem dX11_likeOf_12 : decode cX11_likeOf 12 = .ok (.iload_n 1, 1) := by decide +kernel
theorem dX11_likeOf_13 : decode cX11_likeOf 13 = .ok (.iaload, 1) := by decide +kernel
theorem dX11_likeOf_14 : decode cX11_likeOf 14 = .ok (.ixor, 1) := by decide +kernel
theorem dX11_likeOf_15 : decode cX11_likeOf 15 = .ok (.invokestatic 207, 3) := by decide +kernel
theorem dX11_likeOf_18 : decode cX11_likeOf 18 = .ok (.isub, 1) := by decide +kernel
theorem dX11_likeOf_19 : decode cX11_likeOf 19 = .ok (.ireturn, 1) := by decide +kernel
theorem dX11_whom_0 : decode cX11_whom 0 = .ok (.iconst (-1), 1) := by decide +kernel
theorem dX11_whom_1 : decode cX11_whom 1 = .ok (.istore_n 1, 1) := by decide +kernel
theorem dX11_whom_2 : decode cX11_whom 2 = .ok (.iconst (-1), 1) := by decide +kernel
theorem dX11_whom_3 : decode cX11_whom 3 = .ok (.istore_n 2, 1) := by decide +kernel
theorem dX11_whom_4 : decode cX11_whom 4 = .ok (.iconst 0, 1) := by decide +kernel
theorem dX11_whom_5 : decode cX11_whom 5 = .ok (.istore_n 3, 1) := by decide +kernel
theorem dX11_whom_6 : decode cX11_whom 6 = .ok (.iload_n 3, 1) := by decide +kernel
theorem dX11_whom_7 : decode cX11_whom 7 = .ok (.aload_n 0, 1) := by decide +kernel
theorem dX11_whom_8 : decode cX11_whom 8 = .ok (.getfield 92, 3) := by decide +kernel
theorem dX11_whom_11 : decode cX11_whom 11 = .ok (.if_icmp .ge 41, 3) := by decide +kernel
theorem dX11_whom_14 : decode cX11_whom 14 = .ok (.aload_n 0, 1) := by decide +kernel
theorem dX11_whom_15 : decode cX11_whom 15 = .ok (.iload_n 3, 1) := by decide +kernel
theorem dX11_whom_16 : decode cX11_whom 16 = .ok (.invokevirtual 210, 3) := by decide +kernel
theorem dX11_whom_19 : decode cX11_whom 19 = .ok (.istore 4, 2) := by decide +kernel
theorem dX11_whom_21 : decode cX11_whom 21 = .ok (.iload 4, 2) := by decide +kernel
theorem dX11_whom_23 : decode cX11_whom 23 = .ok (.iload_n 2, 1) := by decide +kernel
theorem dX11_whom_24 : decode cX11_whom 24 = .ok (.if_icmp .le 7, 3) := by decide +kernel
theorem dX11_whom_27 : decode cX11_whom 27 = .ok (.iload_n 3, 1) := by decide +kernel
theorem dX11_whom_28 : decode cX11_whom 28 = .ok (.goto 4, 3) := by decide +kernel
theorem dX11_whom_31 : decode cX11_whom 31 = .ok (.iload_n 1, 1) := by decide +kernel
theorem dX11_whom_32 : decode cX11_whom 32 = .ok (.istore_n 1, 1) := by decide +kernel
theorem dX11_whom_33 : decode cX11_whom 33 = .ok (.iload 4, 2) := by decide +kernel
theorem dX11_whom_35 : decode cX11_whom 35 = .ok (.iload_n 2, 1) := by decide +kernel
theorem dX11_whom_36 : decode cX11_whom 36 = .ok (.if_icmp .le 8, 3) := by decide +kernel
theorem dX11_whom_39 : decode cX11_whom 39 = .ok (.iload 4, 2) := by decide +kernel
theorem dX11_whom_41 : decode cX11_whom 41 = .ok (.goto 4, 3) := by decide +kernel
theorem dX11_whom_44 : decode cX11_whom 44 = .ok (.iload_n 2, 1) := by decide +kernel
theorem dX11_whom_45 : decode cX11_whom 45 = .ok (.istore_n 2, 1) := by decide +kernel
theorem dX11_whom_46 : decode cX11_whom 46 = .ok (.iinc 3 1, 3) := by decide +kernel
theorem dX11_whom_49 : decode cX11_whom 49 = .ok (.goto (-43), 3) := by decide +kernel
theorem dX11_whom_52 : decode cX11_whom 52 = .ok (.iload_n 1, 1) := by decide +kernel
theorem dX11_whom_53 : decode cX11_whom 53 = .ok (.ireturn, 1) := by decide +kernel
theorem dX11_mayBe_0 : decode cX11_mayBe 0 = .ok (.iconst 0, 1) := by decide +kernel
theorem dX11_mayBe_1 : decode cX11_mayBe 1 = .ok (.istore_n 1, 1) := by decide +kernel
theorem dX11_mayBe_2 : decode cX11_mayBe 2 = .ok (.iconst 0, 1) := by decide +kernel
theorem dX11_mayBe_3 : decode cX11_mayBe 3 = .ok (.istore_n 2, 1) := by decide +kernel
theorem dX11_mayBe_4 : decode cX11_mayBe 4 = .ok (.iload_n 2, 1) := by decide +kernel
theorem dX11_mayBe_5 : decode cX11_mayBe 5 = .ok (.aload_n 0, 1) := by decide +kernel
theorem dX11_mayBe_6 : decode cX11_mayBe 6 = .ok (.getfield 92, 3) := by decide +kernel
theorem dX11_mayBe_9 : decode cX11_mayBe 9 = .ok (.if_icmp .ge 35, 3) := by decide +kernel
theorem dX11_mayBe_12 : decode cX11_mayBe 12 = .ok (.iload_n 1, 1) := by decide +kernel
theorem dX11_mayBe_13 : decode cX11_mayBe 13 = .ok (.aload_n 0, 1) := by decide +kernel
theorem dX11_mayBe_14 : decode cX11_mayBe 14 = .ok (.invokevirtual 204, 3) := by decide +kernel
theorem dX11_mayBe_17 : decode cX11_mayBe 17 = .ok (.aload_n 0, 1) := by decide +kernel
theorem dX11_mayBe_18 : decode cX11_mayBe 18 = .ok (.getfield 19, 3) := by decide +kernel
theorem dX11_mayBe_21 : decode cX11_mayBe 21 = .ok (.iload_n 2, 1) := by decide +kernel
theorem dX11_mayBe_22 : decode cX11_mayBe 22 = .ok (.iaload, 1) := by decide +kernel
theorem dX11_mayBe_23 : decode cX11_mayBe 23 = .ok (.iconst (-1), 1) := by decide +kernel
theorem dX11_mayBe_24 : decode cX11_mayBe 24 = .ok (.ixor, 1) := by decide +kernel
theorem dX11_mayBe_25 : decode cX11_mayBe 25 = .ok (.iand, 1) := by decide +kernel
theorem dX11_mayBe_26 : decode cX11_mayBe 26 = .ok (.ifCond .ne 9, 3) := by decide +kernel
theorem dX11_mayBe_29 : decode cX11_mayBe 29 = .ok (.iconst 1, 1) := by decide +kernel
theorem dX11_mayBe_30 : decode cX11_mayBe 30 = .ok (.iload_n 2, 1) := by decide +kernel
theorem dX11_mayBe_31 : decode cX11_mayBe 31 = .ok (.ishl, 1) := by decide +kernel
theorem dX11_mayBe_32 : decode cX11_mayBe 32 = .ok (.goto 4, 3) := by decide +kernel
theorem dX11_mayBe_35 : decode cX11_mayBe 35 = .ok (.iconst 0, 1) := by decide +kernel
theorem dX11_mayBe_36 : decode cX11_mayBe 36 = .ok (.ior, 1) := by decide +kernel
theorem dX11_mayBe_37 : decode cX11_mayBe 37 = .ok (.istore_n 1, 1) := by decide +kernel
theorem dX11_mayBe_38 : decode cX11_mayBe 38 = .ok (.iinc 2 1, 3) := by decide +kernel
theorem dX11_mayBe_41 : decode cX11_mayBe 41 = .ok (.goto (-37), 3) := by decide +kernel
theorem dX11_mayBe_44 : decode cX11_mayBe 44 = .ok (.iload_n 1, 1) := by decide +kernel
theorem dX11_mayBe_45 : decode cX11_mayBe 45 = .ok (.ireturn, 1) := by decide +kernel
theorem dX11_groupOf_0 : decode cX11_groupOf 0 = .ok (.aload_n 0, 1) := by decide +kernel
theorem dX11_groupOf_1 : decode cX11_groupOf 1 = .ok (.invokevirtual 204, 3) := by decide +kernel
theorem dX11_groupOf_4 : decode cX11_groupOf 4 = .ok (.istore_n 2, 1) := by decide +kernel
theorem dX11_groupOf_5 : decode cX11_groupOf 5 = .ok (.iconst 1, 1) := by decide +kernel
theorem dX11_groupOf_6 : decode cX11_groupOf 6 = .ok (.iload_n 1, 1) := by decide +kernel
theorem dX11_groupOf_7 : decode cX11_groupOf 7 = .ok (.ishl, 1) := by decide +kernel
theorem dX11_groupOf_8 : decode cX11_groupOf 8 = .ok (.istore_n 3, 1) := by decide +kernel
theorem dX11_groupOf_9 : decode cX11_groupOf 9 = .ok (.iconst 0, 1) := by decide +kernel
theorem dX11_groupOf_10 : decode cX11_groupOf 10 = .ok (.istore 4, 2) := by decide +kernel
theorem dX11_groupOf_12 : decode cX11_groupOf 12 = .ok (.iload 4, 2) := by decide +kernel
theorem dX11_groupOf_14 : decode cX11_groupOf 14 = .ok (.bipush 25, 2) := by decide +kernel
theorem dX11_groupOf_16 : decode cX11_groupOf 16 = .ok (.if_icmp .ge 59, 3) := by decide +kernel
theorem dX11_groupOf_19 : decode cX11_groupOf 19 = .ok (.iload_n 3, 1) := by decide +kernel
theorem dX11_groupOf_20 : decode cX11_groupOf 20 = .ok (.istore 5, 2) := by decide +kernel
theorem dX11_groupOf_22 : decode cX11_groupOf 22 = .ok (.iconst 0, 1) := by decide +kernel
theorem dX11_groupOf_23 : decode cX11_groupOf 23 = .ok (.istore 6, 2) := by decide +kernel
theorem dX11_groupOf_25 : decode cX11_groupOf 25 = .ok (.iload 6, 2) := by decide +kernel
theorem dX11_groupOf_27 : decode cX11_groupOf 27 = .ok (.aload_n 0, 1) := by decide +kernel
theorem dX11_groupOf_28 : decode cX11_groupOf 28 = .ok (.invokevirtual 78, 3) := by decide +kernel
theorem dX11_groupOf_31 : decode cX11_groupOf 31 = .ok (.if_icmp .ge 35, 3) := by decide +kernel
theorem dX11_groupOf_34 : decode cX11_groupOf 34 = .ok (.iload 5, 2) := by decide +kernel
theorem dX11_groupOf_36 : decode cX11_groupOf 36 = .ok (.iload_n 3, 1) := by decide +kernel
theorem dX11_groupOf_37 : decode cX11_groupOf 37 = .ok (.iload 6, 2) := by decide +kernel
theorem dX11_groupOf_39 : decode cX11_groupOf 39 = .ok (.invokestatic 213, 3) := by decide +kernel
theorem dX11_groupOf_42 : decode cX11_groupOf 42 = .ok (.ifCond .eq 14, 3) := by decide +kernel
theorem dX11_groupOf_45 : decode cX11_groupOf 45 = .ok (.aload_n 0, 1) := by decide +kernel
theorem dX11_groupOf_46 : decode cX11_groupOf 46 = .ok (.iload 6, 2) := by decide +kernel
theorem dX11_groupOf_48 : decode cX11_groupOf 48 = .ok (.invokevirtual 216, 3) := by decide +kernel
theorem dX11_groupOf_51 : decode cX11_groupOf 51 = .ok (.iload_n 2, 1) := by decide +kernel
theorem dX11_groupOf_52 : decode cX11_groupOf 52 = .ok (.iand, 1) := by decide +kernel
theorem dX11_groupOf_53 : decode cX11_groupOf 53 = .ok (.goto 4, 3) := by decide +kernel
theorem dX11_groupOf_56 : decode cX11_groupOf 56 = .ok (.iconst 0, 1) := by decide +kernel
theorem dX11_groupOf_57 : decode cX11_groupOf 57 = .ok (.ior, 1) := by decide +kernel
theorem dX11_groupOf_58 : decode cX11_groupOf 58 = .ok (.istore 5, 2) := by decide +kernel
theorem dX11_groupOf_60 : decode cX11_groupOf 60 = .ok (.iinc 6 1, 3) := by decide +kernel
theorem dX11_groupOf_63 : decode cX11_groupOf 63 = .ok (.goto (-38), 3) := by decide +kernel
theorem dX11_groupOf_66 : decode cX11_groupOf 66 = .ok (.iload 5, 2) := by decide +kernel
theorem dX11_groupOf_68 : decode cX11_groupOf 68 = .ok (.istore_n 3, 1) := by decide +kernel
theorem dX11_groupOf_69 : decode cX11_groupOf 69 = .ok (.iinc 4 1, 3) := by decide +kernel
theorem dX11_groupOf_72 : decode cX11_groupOf 72 = .ok (.goto (-60), 3) := by decide +kernel
theorem dX11_groupOf_75 : decode cX11_groupOf 75 = .ok (.iload_n 3, 1) := by decide +kernel
theorem dX11_groupOf_76 : decode cX11_groupOf 76 = .ok (.ireturn, 1) := by decide +kernel
theorem dX11_groups_0 : decode cX11_groups 0 = .ok (.aload_n 0, 1) := by decide +kernel
theorem dX11_groups_1 : decode cX11_groups 1 = .ok (.invokevirtual 204, 3) := by decide +kernel
theorem dX11_groups_4 : decode cX11_groups 4 = .ok (.istore_n 2, 1) := by decide +kernel
theorem dX11_groups_5 : decode cX11_groups 5 = .ok (.iconst 0, 1) := by decide +kernel
theorem dX11_groups_6 : decode cX11_groups 6 = .ok (.istore_n 3, 1) := by decide +kernel
theorem dX11_groups_7 : decode cX11_groups 7 = .ok (.iconst 0, 1) := by decide +kernel
theorem dX11_groups_8 : decode cX11_groups 8 = .ok (.istore 4, 2) := by decide +kernel
theorem dX11_groups_10 : decode cX11_groups 10 = .ok (.iconst 0, 1) := by decide +kernel
theorem dX11_groups_11 : decode cX11_groups 11 = .ok (.istore 5, 2) := by decide +kernel
theorem dX11_groups_13 : decode cX11_groups 13 = .ok (.iload 5, 2) := by decide +kernel
theorem dX11_groups_15 : decode cX11_groups 15 = .ok (.aload_n 0, 1) := by decide +kernel
theorem dX11_groups_16 : decode cX11_groups 16 = .ok (.invokevirtual 78, 3) := by decide +kernel
theorem dX11_groups_19 : decode cX11_groups 19 = .ok (.if_icmp .ge 58, 3) := by decide +kernel
theorem dX11_groups_22 : decode cX11_groups 22 = .ok (.iload_n 2, 1) := by decide +kernel
theorem dX11_groups_23 : decode cX11_groups 23 = .ok (.iload 5, 2) := by decide +kernel
theorem dX11_groups_25 : decode cX11_groups 25 = .ok (.invokestatic 213, 3) := by decide +kernel
theorem dX11_groups_28 : decode cX11_groups 28 = .ok (.ifCond .eq 43, 3) := by decide +kernel
theorem dX11_groups_31 : decode cX11_groups 31 = .ok (.aload_n 0, 1) := by decide +kernel
theorem dX11_groups_32 : decode cX11_groups 32 = .ok (.iload 5, 2) := by decide +kernel
theorem dX11_groups_34 : decode cX11_groups 34 = .ok (.invokevirtual 219, 3) := by decide +kernel
theorem dX11_groups_37 : decode cX11_groups 37 = .ok (.istore 6, 2) := by decide +kernel
theorem dX11_groups_39 : decode cX11_groups 39 = .ok (.iload_n 2, 1) := by decide +kernel
theorem dX11_groups_40 : decode cX11_groups 40 = .ok (.iload 6, 2) := by decide +kernel
theorem dX11_groups_42 : decode cX11_groups 42 = .ok (.iconst (-1), 1) := by decide +kernel
theorem dX11_groups_43 : decode cX11_groups 43 = .ok (.ixor, 1) := by decide +kernel
theorem dX11_groups_44 : decode cX11_groups 44 = .ok (.iand, 1) := by decide +kernel
theorem dX11_groups_45 : decode cX11_groups 45 = .ok (.istore_n 2, 1) := by decide +kernel
theorem dX11_groups_46 : decode cX11_groups 46 = .ok (.iinc 3 1, 3) := by decide +kernel
theorem dX11_groups_49 : decode cX11_groups 49 = .ok (.iload 6, 2) := by decide +kernel
theorem dX11_groups_51 : decode cX11_groups 51 = .ok (.invokestatic 207, 3) := by decide +kernel
theorem dX11_groups_54 : decode cX11_groups 54 = .ok (.iload 4, 2) := by decide +kernel
theorem dX11_groups_56 : decode cX11_groups 56 = .ok (.invokestatic 207, 3) := by decide +kernel
theorem dX11_groups_59 : decode cX11_groups 59 = .ok (.if_icmp .le 8, 3) := by decide +kernel
theorem dX11_groups_62 : decode cX11_groups 62 = .ok (.iload 6, 2) := by decide +kernel
theorem dX11_groups_64 : decode cX11_groups 64 = .ok (.goto 5, 3) := by decide +kernel
theorem dX11_groups_67 : decode cX11_groups 67 = .ok (.iload 4, 2) := by decide +kernel
theorem dX11_groups_69 : decode cX11_groups 69 = .ok (.istore 4, 2) := by decide +kernel
theorem dX11_groups_71 : decode cX11_groups 71 = .ok (.iinc 5 1, 3) := by decide +kernel
theorem dX11_groups_74 : decode cX11_groups 74 = .ok (.goto (-61), 3) := by decide +kernel
theorem dX11_groups_77 : decode cX11_groups 77 = .ok (.iload_n 1, 1) := by decide +kernel
theorem dX11_groups_78 : decode cX11_groups 78 = .ok (.ifCond .eq 8, 3) := by decide +kernel
theorem dX11_groups_81 : decode cX11_groups 81 = .ok (.iload 4, 2) := by decide +kernel
theorem dX11_groups_83 : decode cX11_groups 83 = .ok (.goto 4, 3) := by decide +kernel
theorem dX11_groups_86 : decode cX11_groups 86 = .ok (.iload_n 3, 1) := by decide +kernel
theorem dX11_groups_87 : decode cX11_groups 87 = .ok (.ireturn, 1) := by decide +kernel
theorem dX11_border_0 : decode cX11_border 0 = .ok (.aload_n 0, 1) := by decide +kernel
theorem dX11_border_1 : decode cX11_border 1 = .ok (.invokevirtual 204, 3) := by decide +kernel
theorem dX11_border_4 : decode cX11_border 4 = .ok (.istore_n 1, 1) := by decide +kernel
theorem dX11_border_5 : decode cX11_border 5 = .ok (.iconst 0, 1) := by decide +kernel
theorem dX11_border_6 : decode cX11_border 6 = .ok (.istore_n 2, 1) := by decide +kernel
theorem dX11_border_7 : decode cX11_border 7 = .ok (.iconst 0, 1) := by decide +kernel
theorem dX11_border_8 : decode cX11_border 8 = .ok (.istore_n 3, 1) := by decide +kernel
theorem dX11_border_9 : decode cX11_border 9 = .ok (.iload_n 3, 1) := by decide +kernel
theorem dX11_border_10 : decode cX11_border 10 = .ok (.aload_n 0, 1) := by decide +kernel
theorem dX11_border_11 : decode cX11_border 11 = .ok (.invokevirtual 78, 3) := by decide +kernel
theorem dX11_border_14 : decode cX11_border 14 = .ok (.if_icmp .ge 36, 3) := by decide +kernel
theorem dX11_border_17 : decode cX11_border 17 = .ok (.iload_n 2, 1) := by decide +kernel
theorem dX11_border_18 : decode cX11_border 18 = .ok (.iload_n 1, 1) := by decide +kernel
theorem dX11_border_19 : decode cX11_border 19 = .ok (.iload_n 3, 1) := by decide +kernel
theorem dX11_border_20 : decode cX11_border 20 = .ok (.invokestatic 213, 3) := by decide +kernel
theorem dX11_border_23 : decode cX11_border 23 = .ok (.ifCond .eq 18, 3) := by decide +kernel
theorem dX11_border_26 : decode cX11_border 26 = .ok (.iconst 4, 1) := by decide +kernel
theorem dX11_border_27 : decode cX11_border 27 = .ok (.aload_n 0, 1) := by decide +kernel
theorem dX11_border_28 : decode cX11_border 28 = .ok (.iload_n 3, 1) := by decide +kernel
theorem dX11_border_29 : decode cX11_border 29 = .ok (.invokevirtual 216, 3) := by decide +kernel
theorem dX11_border_32 : decode cX11_border 32 = .ok (.iload_n 1, 1) := by decide +kernel
theorem dX11_border_33 : decode cX11_border 33 = .ok (.iand, 1) := by decide +kernel
theorem dX11_border_34 : decode cX11_border 34 = .ok (.invokestatic 207, 3) := by decide +kernel
theorem dX11_border_37 : decode cX11_border 37 = .ok (.isub, 1) := by decide +kernel
theorem dX11_border_38 : decode cX11_border 38 = .ok (.goto 4, 3) := by decide +kernel
theorem dX11_border_41 : decode cX11_border 41 = .ok (.iconst 0, 1) := by decide +kernel
theorem dX11_border_42 : decode cX11_border 42 = .ok (.iadd, 1) := by decide +kernel
theorem dX11_border_43 : decode cX11_border 43 = .ok (.istore_n 2, 1) := by decide +kernel
theorem dX11_border_44 : decode cX11_border 44 = .ok (.iinc 3 1, 3) := by decide +kernel
theorem dX11_border_47 : decode cX11_border 47 = .ok (.goto (-38), 3) := by decide +kernel
theorem dX11_border_50 : decode cX11_border 50 = .ok (.iload_n 2, 1) := by decide +kernel
theorem dX11_border_51 : decode cX11_border 51 = .ok (.ireturn, 1) := by decide +kernel
theorem dX11_fullest_0 : decode cX11_fullest 0 = .ok (.aload_n 0, 1) := by decide +kernel
theorem dX11_fullest_1 : decode cX11_fullest 1 = .ok (.invokevirtual 204, 3) := by decide +kernel
theorem dX11_fullest_4 : decode cX11_fullest 4 = .ok (.istore_n 1, 1) := by decide +kernel
theorem dX11_fullest_5 : decode cX11_fullest 5 = .ok (.iconst (-1), 1) := by decide +kernel
theorem dX11_fullest_6 : decode cX11_fullest 6 = .ok (.istore_n 2, 1) := by decide +kernel
theorem dX11_fullest_7 : decode cX11_fullest 7 = .ok (.iconst 0, 1) := by decide +kernel
theorem dX11_fullest_8 : decode cX11_fullest 8 = .ok (.istore_n 3, 1) := by decide +kernel
theorem dX11_fullest_9 : decode cX11_fullest 9 = .ok (.iconst 0, 1) := by decide +kernel
theorem dX11_fullest_10 : decode cX11_fullest 10 = .ok (.istore 4, 2) := by decide +kernel
theorem dX11_fullest_12 : decode cX11_fullest 12 = .ok (.iload 4, 2) := by decide +kernel
theorem dX11_fullest_14 : decode cX11_fullest 14 = .ok (.aload_n 0, 1) := by decide +kernel
theorem dX11_fullest_15 : decode cX11_fullest 15 = .ok (.getfield 72, 3) := by decide +kernel
theorem dX11_fullest_18 : decode cX11_fullest 18 = .ok (.if_icmp .ge 58, 3) := by decide +kernel
theorem dX11_fullest_21 : decode cX11_fullest 21 = .ok (.iload_n 1, 1) := by decide +kernel
theorem dX11_fullest_22 : decode cX11_fullest 22 = .ok (.aload_n 0, 1) := by decide +kernel
theorem dX11_fullest_23 : decode cX11_fullest 23 = .ok (.getfield 75, 3) := by decide +kernel
theorem dX11_fullest_26 : decode cX11_fullest 26 = .ok (.iload 4, 2) := by decide +kernel
theorem dX11_fullest_28 : decode cX11_fullest 28 = .ok (.imul, 1) := by decide +kernel
theorem dX11_fullest_29 : decode cX11_fullest 29 = .ok (.ishr, 1) := by decide +kernel
theorem dX11_fullest_30 : decode cX11_fullest 30 = .ok (.iconst 1, 1) := by decide +kernel
theorem dX11_fullest_31 : decode cX11_fullest 31 = .ok (.aload_n 0, 1) := by decide +kernel
theorem dX11_fullest_32 : decode cX11_fullest 32 = .ok (.getfield 75, 3) := by decide +kernel
theorem dX11_fullest_35 : decode cX11_fullest 35 = .ok (.ishl, 1) := by decide +kernel
theorem dX11_fullest_36 : decode cX11_fullest 36 = .ok (.iconst 1, 1) := by decide +kernel
theorem dX11_fullest_37 : decode cX11_fullest 37 = .ok (.isub, 1) := by decide +kernel
theorem dX11_fullest_38 : decode cX11_fullest 38 = .ok (.iand, 1) := by decide +kernel
theorem dX11_fullest_39 : decode cX11_fullest 39 = .ok (.invokestatic 207, 3) := by decide +kernel
theorem dX11_fullest_42 : decode cX11_fullest 42 = .ok (.istore 5, 2) := by decide +kernel
theorem dX11_fullest_44 : decode cX11_fullest 44 = .ok (.iload 5, 2) := by decide +kernel
theorem dX11_fullest_46 : decode cX11_fullest 46 = .ok (.iload_n 3, 1) := by decide +kernel
theorem dX11_fullest_47 : decode cX11_fullest 47 = .ok (.if_icmp .le 8, 3) := by decide +kernel
theorem dX11_fullest_50 : decode cX11_fullest 50 = .ok (.iload 4, 2) := by decide +kernel
theorem dX11_fullest_52 : decode cX11_fullest 52 = .ok (.goto 4, 3) := by decide +kernel
theorem dX11_fullest_55 : decode cX11_fullest 55 = .ok (.iload_n 2, 1) := by decide +kernel
theorem dX11_fullest_56 : decode cX11_fullest 56 = .ok (.istore_n 2, 1) := by decide +kernel
theorem dX11_fullest_57 : decode cX11_fullest 57 = .ok (.iload 5, 2) := by decide +kernel
theorem dX11_fullest_59 : decode cX11_fullest 59 = .ok (.iload_n 3, 1) := by decide +kernel
theorem dX11_fullest_60 : decode cX11_fullest 60 = .ok (.if_icmp .le 8, 3) := by decide +kernel
theorem dX11_fullest_63 : decode cX11_fullest 63 = .ok (.iload 5, 2) := by decide +kernel
theorem dX11_fullest_65 : decode cX11_fullest 65 = .ok (.goto 4, 3) := by decide +kernel
theorem dX11_fullest_68 : decode cX11_fullest 68 = .ok (.iload_n 3, 1) := by decide +kernel
theorem dX11_fullest_69 : decode cX11_fullest 69 = .ok (.istore_n 3, 1) := by decide +kernel
theorem dX11_fullest_70 : decode cX11_fullest 70 = .ok (.iinc 4 1, 3) := by decide +kernel
theorem dX11_fullest_73 : decode cX11_fullest 73 = .ok (.goto (-61), 3) := by decide +kernel
theorem dX11_fullest_76 : decode cX11_fullest 76 = .ok (.iload_n 2, 1) := by decide +kernel
theorem dX11_fullest_77 : decode cX11_fullest 77 = .ok (.ireturn, 1) := by decide +kernel
theorem dX11_allWet_0 : decode cX11_allWet 0 = .ok (.iconst 0, 1) := by decide +kernel
theorem dX11_allWet_1 : decode cX11_allWet 1 = .ok (.istore_n 1, 1) := by decide +kernel
theorem dX11_allWet_2 : decode cX11_allWet 2 = .ok (.iconst 0, 1) := by decide +kernel
theorem dX11_allWet_3 : decode cX11_allWet 3 = .ok (.istore_n 2, 1) := by decide +kernel
theorem dX11_allWet_4 : decode cX11_allWet 4 = .ok (.iload_n 2, 1) := by decide +kernel
theorem dX11_allWet_5 : decode cX11_allWet 5 = .ok (.aload_n 0, 1) := by decide +kernel
theorem dX11_allWet_6 : decode cX11_allWet 6 = .ok (.invokevirtual 78, 3) := by decide +kernel
theorem dX11_allWet_9 : decode cX11_allWet 9 = .ok (.if_icmp .ge 18, 3) := by decide +kernel
theorem dX11_allWet_12 : decode cX11_allWet 12 = .ok (.iload_n 1, 1) := by decide +kernel
theorem dX11_allWet_13 : decode cX11_allWet 13 = .ok (.aload_n 0, 1) := by decide +kernel
theorem dX11_allWet_14 : decode cX11_allWet 14 = .ok (.getfield 22, 3) := by decide +kernel
theorem dX11_allWet_17 : decode cX11_allWet 17 = .ok (.iload_n 2, 1) := by decide +kernel
theorem dX11_allWet_18 : decode cX11_allWet 18 = .ok (.iaload, 1) := by decide +kernel
theorem dX11_allWet_19 : decode cX11_allWet 19 = .ok (.iadd, 1) := by decide +kernel
theorem dX11_allWet_20 : decode cX11_allWet 20 = .ok (.istore_n 1, 1) := by decide +kernel
theorem dX11_allWet_21 : decode cX11_allWet 21 = .ok (.iinc 2 1, 3) := by decide +kernel
theorem dX11_allWet_24 : decode cX11_allWet 24 = .ok (.goto (-20), 3) := by decide +kernel
theorem dX11_allWet_27 : decode cX11_allWet 27 = .ok (.iload_n 1, 1) := by decide +kernel
theorem dX11_allWet_28 : decode cX11_allWet 28 = .ok (.ireturn, 1) := by decide +kernel
theorem dX11_told_0 : decode cX11_told 0 = .ok (.iload_n 1, 1) := by decide +kernel
theorem dX11_told_1 : decode cX11_told 1 = .ok (.tableswitch 221 0 20 #[99, 104, 109, 114, 119, 124, 129, 137, 145, 150, 158, 166, 174, 179, 184, 189, 195, 201, 206, 211, 216], 99) := by decide +kernel
theorem dX11_told_100 : decode cX11_told 100 = .ok (.aload_n 0, 1) := by decide +kernel
theorem dX11_told_101 : decode cX11_told 101 = .ok (.getfield 72, 3) := by decide +kernel
theorem dX11_told_104 : decode cX11_told 104 = .ok (.ireturn, 1) := by decide +kernel
theorem dX11_told_105 : decode cX11_told 105 = .ok (.aload_n 0, 1) := by decide +kernel
theorem dX11_told_106 : decode cX11_told 106 = .ok (.getfield 75, 3) := by decide +kernel
theorem dX11_told_109 : decode cX11_told 109 = .ok (.ireturn, 1) := by decide +kernel
theorem dX11_told_110 : decode cX11_told 110 = .ok (.aload_n 0, 1) := by decide +kernel
theorem dX11_told_111 : decode cX11_told 111 = .ok (.getfield 86, 3) := by decide +kernel
theorem dX11_told_114 : decode cX11_told 114 = .ok (.ireturn, 1) := by decide +kernel
theorem dX11_told_115 : decode cX11_told 115 = .ok (.aload_n 0, 1) := by decide +kernel
theorem dX11_told_116 : decode cX11_told 116 = .ok (.getfield 89, 3) := by decide +kernel
theorem dX11_told_119 : decode cX11_told 119 = .ok (.ireturn, 1) := by decide +kernel
theorem dX11_told_120 : decode cX11_told 120 = .ok (.aload_n 0, 1) := by decide +kernel
theorem dX11_told_121 : decode cX11_told 121 = .ok (.getfield 92, 3) := by decide +kernel
theorem dX11_told_124 : decode cX11_told 124 = .ok (.ireturn, 1) := by decide +kernel
theorem dX11_told_125 : decode cX11_told 125 = .ok (.aload_n 0, 1) := by decide +kernel
theorem dX11_told_126 : decode cX11_told 126 = .ok (.getfield 98, 3) := by decide +kernel
theorem dX11_told_129 : decode cX11_told 129 = .ok (.ireturn, 1) := by decide +kernel
theorem dX11_told_130 : decode cX11_told 130 = .ok (.aload_n 0, 1) := by decide +kernel
theorem dX11_told_131 : decode cX11_told 131 = .ok (.getfield 22, 3) := by decide +kernel
theorem dX11_told_134 : decode cX11_told 134 = .ok (.bipush 31, 2) := by decide +kernel
theorem dX11_told_136 : decode cX11_told 136 = .ok (.iaload, 1) := by decide +kernel
theorem dX11_told_137 : decode cX11_told 137 = .ok (.ireturn, 1) := by decide +kernel
theorem dX11_told_138 : decode cX11_told 138 = .ok (.aload_n 0, 1) := by decide +kernel
theorem dX11_told_139 : decode cX11_told 139 = .ok (.getfield 22, 3) := by decide +kernel
theorem dX11_told_142 : decode cX11_told 142 = .ok (.bipush 29, 2) := by decide +kernel
theorem dX11_told_144 : decode cX11_told 144 = .ok (.iaload, 1) := by decide +kernel
theorem dX11_told_145 : decode cX11_told 145 = .ok (.ireturn, 1) := by decide +kernel
theorem dX11_told_146 : decode cX11_told 146 = .ok (.aload_n 0, 1) := by decide +kernel
theorem dX11_told_147 : decode cX11_told 147 = .ok (.invokevirtual 204, 3) := by decide +kernel
theorem dX11_told_150 : decode cX11_told 150 = .ok (.ireturn, 1) := by decide +kernel
theorem dX11_told_151 : decode cX11_told 151 = .ok (.aload_n 0, 1) := by decide +kernel
theorem dX11_told_152 : decode cX11_told 152 = .ok (.getfield 22, 3) := by decide +kernel
theorem dX11_told_155 : decode cX11_told 155 = .ok (.bipush 30, 2) := by decide +kernel
theorem dX11_told_157 : decode cX11_told 157 = .ok (.iaload, 1) := by decide +kernel
theorem dX11_told_158 : decode cX11_told 158 = .ok (.ireturn, 1) := by decide +kernel
theorem dX11_told_159 : decode cX11_told 159 = .ok (.aload_n 0, 1) := by decide +kernel
theorem dX11_told_160 : decode cX11_told 160 = .ok (.getfield 22, 3) := by decide +kernel
theorem dX11_told_163 : decode cX11_told 163 = .ok (.bipush 32, 2) := by decide +kernel
theorem dX11_told_165 : decode cX11_told 165 = .ok (.iaload, 1) := by decide +kernel
theorem dX11_told_166 : decode cX11_told 166 = .ok (.ireturn, 1) := by decide +kernel
theorem dX11_told_167 : decode cX11_told 167 = .ok (.aload_n 0, 1) := by decide +kernel
theorem dX11_told_168 : decode cX11_told 168 = .ok (.getfield 22, 3) := by decide +kernel
theorem dX11_told_171 : decode cX11_told 171 = .ok (.bipush 33, 2) := by decide +kernel
theorem dX11_told_173 : decode cX11_told 173 = .ok (.iaload, 1) := by decide +kernel
theorem dX11_told_174 : decode cX11_told 174 = .ok (.ireturn, 1) := by decide +kernel
theorem dX11_told_175 : decode cX11_told 175 = .ok (.aload_n 0, 1) := by decide +kernel
theorem dX11_told_176 : decode cX11_told 176 = .ok (.invokevirtual 222, 3) := by decide +kernel
theorem dX11_told_179 : decode cX11_told 179 = .ok (.ireturn, 1) := by decide +kernel
theorem dX11_told_180 : decode cX11_told 180 = .ok (.aload_n 0, 1) := by decide +kernel
theorem dX11_told_181 : decode cX11_told 181 = .ok (.invokevirtual 225, 3) := by decide +kernel
theorem dX11_told_184 : decode cX11_told 184 = .ok (.ireturn, 1) := by decide +kernel
theorem dX11_told_185 : decode cX11_told 185 = .ok (.aload_n 0, 1) := by decide +kernel
theorem dX11_told_186 : decode cX11_told 186 = .ok (.invokevirtual 228, 3) := by decide +kernel
theorem dX11_told_189 : decode cX11_told 189 = .ok (.ireturn, 1) := by decide +kernel
theorem dX11_told_190 : decode cX11_told 190 = .ok (.aload_n 0, 1) := by decide +kernel
theorem dX11_told_191 : decode cX11_told 191 = .ok (.iconst 0, 1) := by decide +kernel
theorem dX11_told_192 : decode cX11_told 192 = .ok (.invokevirtual 231, 3) := by decide +kernel
theorem dX11_told_195 : decode cX11_told 195 = .ok (.ireturn, 1) := by decide +kernel
theorem dX11_told_196 : decode cX11_told 196 = .ok (.aload_n 0, 1) := by decide +kernel
theorem dX11_told_197 : decode cX11_told 197 = .ok (.iconst 1, 1) := by decide +kernel
theorem dX11_told_198 : decode cX11_told 198 = .ok (.invokevirtual 231, 3) := by decide +kernel
theorem dX11_told_201 : decode cX11_told 201 = .ok (.ireturn, 1) := by decide +kernel
theorem dX11_told_202 : decode cX11_told 202 = .ok (.aload_n 0, 1) := by decide +kernel
theorem dX11_told_203 : decode cX11_told 203 = .ok (.invokevirtual 235, 3) := by decide +kernel
theorem dX11_told_206 : decode cX11_told 206 = .ok (.ireturn, 1) := by decide +kernel
theorem dX11_told_207 : decode cX11_told 207 = .ok (.aload_n 0, 1) := by decide +kernel
theorem dX11_told_208 : decode cX11_told 208 = .ok (.invokevirtual 238, 3) := by decide +kernel
theorem dX11_told_211 : decode cX11_told 211 = .ok (.ireturn, 1) := by decide +kernel
theorem dX11_told_212 : decode cX11_told 212 = .ok (.aload_n 0, 1) := by decide +kernel
theorem dX11_told_213 : decode cX11_told 213 = .ok (.getfield 198, 3) := by decide +kernel
theorem dX11_told_216 : decode cX11_told 216 = .ok (.ireturn, 1) := by decide +kernel
theorem dX11_told_217 : decode cX11_told 217 = .ok (.aload_n 0, 1) := by decide +kernel
theorem dX11_told_218 : decode cX11_told 218 = .ok (.getfield 201, 3) := by decide +kernel
theorem dX11_told_221 : decode cX11_told 221 = .ok (.ireturn, 1) := by decide +kernel
theorem dX11_told_222 : decode cX11_told 222 = .ok (.ldc 97, 2) := by decide +kernel
theorem dX11_told_224 : decode cX11_told 224 = .ok (.ireturn, 1) := by decide +kernel
theorem dX11_cell_0 : decode cX11_cell 0 = .ok (.aload_n 0, 1) := by decide +kernel
theorem dX11_cell_1 : decode cX11_cell 1 = .ok (.iload_n 1, 1) := by decide +kernel
theorem dX11_cell_2 : decode cX11_cell 2 = .ok (.invokevirtual 241, 3) := by decide +kernel
theorem dX11_cell_5 : decode cX11_cell 5 = .ok (.ifCond .eq 12, 3) := by decide +kernel
theorem dX11_cell_8 : decode cX11_cell 8 = .ok (.aload_n 0, 1) := by decide +kernel
theorem dX11_cell_9 : decode cX11_cell 9 = .ok (.getfield 22, 3) := by decide +kernel
theorem dX11_cell_12 : decode cX11_cell 12 = .ok (.iload_n 1, 1) := by decide +kernel
theorem dX11_cell_13 : decode cX11_cell 13 = .ok (.iaload, 1) := by decide +kernel
theorem dX11_cell_14 : decode cX11_cell 14 = .ok (.goto 5, 3) := by decide +kernel
theorem dX11_cell_17 : decode cX11_cell 17 = .ok (.ldc 244, 2) := by decide +kernel
theorem dX11_cell_19 : decode cX11_cell 19 = .ok (.ireturn, 1) := by decide +kernel
theorem dX11_leak_0 : decode cX11_leak 0 = .ok (.aload_n 0, 1) := by decide +kernel
theorem dX11_leak_1 : decode cX11_leak 1 = .ok (.iload_n 1, 1) := by decide +kernel
theorem dX11_leak_2 : decode cX11_leak 2 = .ok (.invokevirtual 245, 3) := by decide +kernel
theorem dX11_leak_5 : decode cX11_leak 5 = .ok (.ifCond .eq 15, 3) := by decide +kernel
theorem dX11_leak_8 : decode cX11_leak 8 = .ok (.aload_n 0, 1) := by decide +kernel
theorem dX11_leak_9 : decode cX11_leak 9 = .ok (.getfield 22, 3) := by decide +kernel
theorem dX11_leak_12 : decode cX11_leak 12 = .ok (.bipush 25, 2) := by decide +kernel
theorem dX11_leak_14 : decode cX11_leak 14 = .ok (.iload_n 1, 1) := by decide +kernel
theorem dX11_leak_15 : decode cX11_leak 15 = .ok (.iadd, 1) := by decide +kernel
theorem dX11_leak_16 : decode cX11_leak 16 = .ok (.iaload, 1) := by decide +kernel
theorem dX11_leak_17 : decode cX11_leak 17 = .ok (.goto 5, 3) := by decide +kernel
theorem dX11_leak_20 : decode cX11_leak 20 = .ok (.ldc 244, 2) := by decide +kernel
theorem dX11_leak_22 : decode cX11_leak 22 = .ok (.ireturn, 1) := by decide +kernel
theorem dX11_crack_0 : decode cX11_crack 0 = .ok (.aload_n 0, 1) := by decide +kernel
theorem dX11_crack_1 : decode cX11_crack 1 = .ok (.iload_n 1, 1) := by decide +kernel
theorem dX11_crack_2 : decode cX11_crack 2 = .ok (.invokevirtual 248, 3) := by decide +kernel
theorem dX11_crack_5 : decode cX11_crack 5 = .ok (.ifCond .ne 6, 3) := by decide +kernel
theorem dX11_crack_8 : decode cX11_crack 8 = .ok (.ldc 244, 2) := by decide +kernel
theorem dX11_crack_10 : decode cX11_crack 10 = .ok (.ireturn, 1) := by decide +kernel
theorem dX11_crack_11 : decode cX11_crack 11 = .ok (.iload_n 2, 1) := by decide +kernel
theorem dX11_crack_12 : decode cX11_crack 12 = .ok (.tableswitch 54 0 2 #[28, 35, 42], 28) := by decide +kernel
theorem dX11_crack_40 : decode cX11_crack 40 = .ok (.aload_n 0, 1) := by decide +kernel
theorem dX11_crack_41 : decode cX11_crack 41 = .ok (.getfield 13, 3) := by decide +kernel
theorem dX11_crack_44 : decode cX11_crack 44 = .ok (.iload_n 1, 1) := by decide +kernel
theorem dX11_crack_45 : decode cX11_crack 45 = .ok (.iaload, 1) := by decide +kernel
theorem dX11_crack_46 : decode cX11_crack 46 = .ok (.ireturn, 1) := by decide +kernel
theorem dX11_crack_47 : decode cX11_crack 47 = .ok (.aload_n 0, 1) := by decide +kernel
theorem dX11_crack_48 : decode cX11_crack 48 = .ok (.getfield 16, 3) := by decide +kernel
theorem dX11_crack_51 : decode cX11_crack 51 = .ok (.iload_n 1, 1) := by decide +kernel
theorem dX11_crack_52 : decode cX11_crack 52 = .ok (.iaload, 1) := by decide +kernel
theorem dX11_crack_53 : decode cX11_crack 53 = .ok (.ireturn, 1) := by decide +kernel
theorem dX11_crack_54 : decode cX11_crack 54 = .ok (.aload_n 0, 1) := by decide +kernel
theorem dX11_crack_55 : decode cX11_crack 55 = .ok (.getfield 22, 3) := by decide +kernel
theorem dX11_crack_58 : decode cX11_crack 58 = .ok (.bipush 30, 2) := by decide +kernel
theorem dX11_crack_60 : decode cX11_crack 60 = .ok (.iaload, 1) := by decide +kernel
theorem dX11_crack_61 : decode cX11_crack 61 = .ok (.iload_n 1, 1) := by decide +kernel
theorem dX11_crack_62 : decode cX11_crack 62 = .ok (.ishr, 1) := by decide +kernel
theorem dX11_crack_63 : decode cX11_crack 63 = .ok (.iconst 1, 1) := by decide +kernel
theorem dX11_crack_64 : decode cX11_crack 64 = .ok (.iand, 1) := by decide +kernel
theorem dX11_crack_65 : decode cX11_crack 65 = .ok (.ireturn, 1) := by decide +kernel
theorem dX11_crack_66 : decode cX11_crack 66 = .ok (.ldc 97, 2) := by decide +kernel
theorem dX11_crack_68 : decode cX11_crack 68 = .ok (.ireturn, 1) := by decide +kernel
theorem dX11_likeness_0 : decode cX11_likeness 0 = .ok (.aload_n 0, 1) := by decide +kernel
theorem dX11_likeness_1 : decode cX11_likeness 1 = .ok (.iload_n 1, 1) := by decide +kernel
theorem dX11_likeness_2 : decode cX11_likeness 2 = .ok (.invokevirtual 251, 3) := by decide +kernel
theorem dX11_likeness_5 : decode cX11_likeness 5 = .ok (.ifCond .ne 6, 3) := by decide +kernel
theorem dX11_likeness_8 : decode cX11_likeness 8 = .ok (.ldc 244, 2) := by decide +kernel
theorem dX11_likeness_10 : decode cX11_likeness 10 = .ok (.ireturn, 1) := by decide +kernel
theorem dX11_likeness_11 : decode cX11_likeness 11 = .ok (.iload_n 2, 1) := by decide +kernel
theorem dX11_likeness_12 : decode cX11_likeness 12 = .ok (.tableswitch 58 0 2 #[28, 35, 41], 28) := by decide +kernel
theorem dX11_likeness_40 : decode cX11_likeness 40 = .ok (.aload_n 0, 1) := by decide +kernel
theorem dX11_likeness_41 : decode cX11_likeness 41 = .ok (.getfield 19, 3) := by decide +kernel
theorem dX11_likeness_44 : decode cX11_likeness 44 = .ok (.iload_n 1, 1) := by decide +kernel
theorem dX11_likeness_45 : decode cX11_likeness 45 = .ok (.iaload, 1) := by decide +kernel
theorem dX11_likeness_46 : decode cX11_likeness 46 = .ok (.ireturn, 1) := by decide +kernel
theorem dX11_likeness_47 : decode cX11_likeness 47 = .ok (.aload_n 0, 1) := by decide +kernel
theorem dX11_likeness_48 : decode cX11_likeness 48 = .ok (.iload_n 1, 1) := by decide +kernel
theorem dX11_likeness_49 : decode cX11_likeness 49 = .ok (.invokevirtual 210, 3) := by decide +kernel
theorem dX11_likeness_52 : decode cX11_likeness 52 = .ok (.ireturn, 1) := by decide +kernel
theorem dX11_likeness_53 : decode cX11_likeness 53 = .ok (.aload_n 0, 1) := by decide +kernel
theorem dX11_likeness_54 : decode cX11_likeness 54 = .ok (.invokevirtual 204, 3) := by decide +kernel
theorem dX11_likeness_57 : decode cX11_likeness 57 = .ok (.aload_n 0, 1) := by decide +kernel
theorem dX11_likeness_58 : decode cX11_likeness 58 = .ok (.getfield 19, 3) := by decide +kernel
theorem dX11_likeness_61 : decode cX11_likeness 61 = .ok (.iload_n 1, 1) := by decide +kernel
theorem dX11_likeness_62 : decode cX11_likeness 62 = .ok (.iaload, 1) := by decide +kernel
theorem dX11_likeness_63 : decode cX11_likeness 63 = .ok (.iconst (-1), 1) := by decide +kernel
theorem dX11_likeness_64 : decode cX11_likeness 64 = .ok (.ixor, 1) := by decide +kernel
theorem dX11_likeness_65 : decode cX11_likeness 65 = .ok (.iand, 1) := by decide +kernel
theorem dX11_likeness_66 : decode cX11_likeness 66 = .ok (.invokestatic 207, 3) := by decide +kernel
theorem dX11_likeness_69 : decode cX11_likeness 69 = .ok (.ireturn, 1) := by decide +kernel
theorem dX11_likeness_70 : decode cX11_likeness 70 = .ok (.ldc 97, 2) := by decide +kernel
theorem dX11_likeness_72 : decode cX11_likeness 72 = .ok (.ireturn, 1) := by decide +kernel
theorem dX11_give_0 : decode cX11_give 0 = .ok (.aload_n 0, 1) := by decide +kernel
theorem dX11_give_1 : decode cX11_give 1 = .ok (.getfield 50, 3) := by decide +kernel
theorem dX11_give_4 : decode cX11_give 4 = .ok (.iload_n 1, 1) := by decide +kernel
theorem dX11_give_5 : decode cX11_give 5 = .ok (.iaload, 1) := by decide +kernel
theorem dX11_give_6 : decode cX11_give 6 = .ok (.ifCond .le 23, 3) := by decide +kernel
theorem dX11_give_9 : decode cX11_give 9 = .ok (.aload_n 0, 1) := by decide +kernel
theorem dX11_give_10 : decode cX11_give 10 = .ok (.getfield 50, 3) := by decide +kernel
theorem dX11_give_13 : decode cX11_give 13 = .ok (.iload_n 1, 1) := by decide +kernel
theorem dX11_give_14 : decode cX11_give 14 = .ok (.dup2, 1) := by decide +kernel
theorem dX11_give_15 : decode cX11_give 15 = .ok (.iaload, 1) := by decide +kernel
theorem dX11_give_16 : decode cX11_give 16 = .ok (.iconst 1, 1) := by decide +kernel
theorem dX11_give_17 : decode cX11_give 17 = .ok (.isub, 1) := by decide +kernel
theorem dX11_give_18 : decode cX11_give 18 = .ok (.iastore, 1) := by decide +kernel
theorem dX11_give_19 : decode cX11_give 19 = .ok (.aload_n 0, 1) := by decide +kernel
theorem dX11_give_20 : decode cX11_give 20 = .ok (.getfield 47, 3) := by decide +kernel
theorem dX11_give_23 : decode cX11_give 23 = .ok (.iload_n 2, 1) := by decide +kernel
theorem dX11_give_24 : decode cX11_give 24 = .ok (.dup2, 1) := by decide +kernel
theorem dX11_give_25 : decode cX11_give 25 = .ok (.iaload, 1) := by decide +kernel
theorem dX11_give_26 : decode cX11_give 26 = .ok (.iconst 1, 1) := by decide +kernel
theorem dX11_give_27 : decode cX11_give 27 = .ok (.iadd, 1) := by decide +kernel
theorem dX11_give_28 : decode cX11_give 28 = .ok (.iastore, 1) := by decide +kernel
theorem dX11_give_29 : decode cX11_give 29 = .ok (.return_, 1) := by decide +kernel
theorem dX11_runFrom_0 : decode cX11_runFrom 0 = .ok (.iload_n 1, 1) := by decide +kernel
theorem dX11_runFrom_1 : decode cX11_runFrom 1 = .ok (.aload_n 0, 1) := by decide +kernel
theorem dX11_runFrom_2 : decode cX11_runFrom 2 = .ok (.getfield 75, 3) := by decide +kernel
theorem dX11_runFrom_5 : decode cX11_runFrom 5 = .ok (.iadd, 1) := by decide +kernel
theorem dX11_runFrom_6 : decode cX11_runFrom 6 = .ok (.aload_n 0, 1) := by decide +kernel
theorem dX11_runFrom_7 : decode cX11_runFrom 7 = .ok (.invokevirtual 78, 3) := by decide +kernel
theorem dX11_runFrom_10 : decode cX11_runFrom 10 = .ok (.if_icmp .ge 24, 3) := by decide +kernel
theorem dX11_runFrom_13 : decode cX11_runFrom 13 = .ok (.aload_n 0, 1) := by decide +kernel
theorem dX11_runFrom_14 : decode cX11_runFrom 14 = .ok (.getfield 44, 3) := by decide +kernel
theorem dX11_runFrom_17 : decode cX11_runFrom 17 = .ok (.iload_n 1, 1) := by decide +kernel
theorem dX11_runFrom_18 : decode cX11_runFrom 18 = .ok (.iaload, 1) := by decide +kernel
theorem dX11_runFrom_19 : decode cX11_runFrom 19 = .ok (.iconst 2, 1) := by decide +kernel
theorem dX11_runFrom_20 : decode cX11_runFrom 20 = .ok (.if_icmp .lt 14, 3) := by decide +kernel
theorem dX11_runFrom_23 : decode cX11_runFrom 23 = .ok (.aload_n 0, 1) := by decide +kernel
theorem dX11_runFrom_24 : decode cX11_runFrom 24 = .ok (.iload_n 1, 1) := by decide +kernel
theorem dX11_runFrom_25 : decode cX11_runFrom 25 = .ok (.iload_n 1, 1) := by decide +kernel
theorem dX11_runFrom_26 : decode cX11_runFrom 26 = .ok (.aload_n 0, 1) := by decide +kernel
theorem dX11_runFrom_27 : decode cX11_runFrom 27 = .ok (.getfield 75, 3) := by decide +kernel
theorem dX11_runFrom_30 : decode cX11_runFrom 30 = .ok (.iadd, 1) := by decide +kernel
theorem dX11_runFrom_31 : decode cX11_runFrom 31 = .ok (.invokevirtual 254, 3) := by decide +kernel
theorem dX11_runFrom_34 : decode cX11_runFrom 34 = .ok (.aload_n 0, 1) := by decide +kernel
theorem dX11_runFrom_35 : decode cX11_runFrom 35 = .ok (.getfield 22, 3) := by decide +kernel
theorem dX11_runFrom_38 : decode cX11_runFrom 38 = .ok (.bipush 29, 2) := by decide +kernel
theorem dX11_runFrom_40 : decode cX11_runFrom 40 = .ok (.iaload, 1) := by decide +kernel
theorem dX11_runFrom_41 : decode cX11_runFrom 41 = .ok (.iconst 1, 1) := by decide +kernel
theorem dX11_runFrom_42 : decode cX11_runFrom 42 = .ok (.if_icmp .ne 18, 3) := by decide +kernel
theorem dX11_runFrom_45 : decode cX11_runFrom 45 = .ok (.iload_n 1, 1) := by decide +kernel
theorem dX11_runFrom_46 : decode cX11_runFrom 46 = .ok (.aload_n 0, 1) := by decide +kernel
theorem dX11_runFrom_47 : decode cX11_runFrom 47 = .ok (.getfield 75, 3) := by decide +kernel
theorem dX11_runFrom_50 : decode cX11_runFrom 50 = .ok (.irem, 1) := by decide +kernel
theorem dX11_runFrom_51 : decode cX11_runFrom 51 = .ok (.ifCond .le 9, 3) := by decide +kernel
theorem dX11_runFrom_54 : decode cX11_runFrom 54 = .ok (.iload_n 1, 1) := by decide +kernel
theorem dX11_runFrom_55 : decode cX11_runFrom 55 = .ok (.iconst 1, 1) := by decide +kernel
theorem dX11_runFrom_56 : decode cX11_runFrom 56 = .ok (.isub, 1) := by decide +kernel
theorem dX11_runFrom_57 : decode cX11_runFrom 57 = .ok (.goto 36, 3) := by decide +kernel
theorem dX11_runFrom_60 : decode cX11_runFrom 60 = .ok (.aload_n 0, 1) := by decide +kernel
theorem dX11_runFrom_61 : decode cX11_runFrom 61 = .ok (.getfield 22, 3) := by decide +kernel
theorem dX11_runFrom_64 : decode cX11_runFrom 64 = .ok (.bipush 29, 2) := by decide +kernel
theorem dX11_runFrom_66 : decode cX11_runFrom 66 = .ok (.iaload, 1) := by decide +kernel
theorem dX11_runFrom_67 : decode cX11_runFrom 67 = .ok (.iconst 2, 1) := by decide +kernel
theorem dX11_runFrom_68 : decode cX11_runFrom 68 = .ok (.if_icmp .ne 24, 3) := by decide +kernel
theorem dX11_runFrom_71 : decode cX11_runFrom 71 = .ok (.iload_n 1, 1) := by decide +kernel
theorem dX11_runFrom_72 : decode cX11_runFrom 72 = .ok (.aload_n 0, 1) := by decide +kernel
theorem dX11_runFrom_73 : decode cX11_runFrom 73 = .ok (.getfield 75, 3) := by decide +kernel
theorem dX11_runFrom_76 : decode cX11_runFrom 76 = .ok (.irem, 1) := by decide +kernel
theorem dX11_runFrom_77 : decode cX11_runFrom 77 = .ok (.aload_n 0, 1) := by decide +kernel
theorem dX11_runFrom_78 : decode cX11_runFrom 78 = .ok (.getfield 75, 3) := by decide +kernel
theorem dX11_runFrom_81 : decode cX11_runFrom 81 = .ok (.iconst 1, 1) := by decide +kernel
theorem dX11_runFrom_82 : decode cX11_runFrom 82 = .ok (.isub, 1) := by decide +kernel
theorem dX11_runFrom_83 : decode cX11_runFrom 83 = .ok (.if_icmp .ge 9, 3) := by decide +kernel
theorem dX11_runFrom_86 : decode cX11_runFrom 86 = .ok (.iload_n 1, 1) := by decide +kernel
theorem dX11_runFrom_87 : decode cX11_runFrom 87 = .ok (.iconst 1, 1) := by decide +kernel
theorem dX11_runFrom_88 : decode cX11_runFrom 88 = .ok (.iadd, 1) := by decide +kernel
theorem dX11_runFrom_89 : decode cX11_runFrom 89 = .ok (.goto 4, 3) := by decide +kernel
theorem dX11_runFrom_92 : decode cX11_runFrom 92 = .ok (.iconst (-1), 1) := by decide +kernel
theorem dX11_runFrom_93 : decode cX11_runFrom 93 = .ok (.istore_n 2, 1) := by decide +kernel
theorem dX11_runFrom_94 : decode cX11_runFrom 94 = .ok (.iload_n 2, 1) := by decide +kernel
theorem dX11_runFrom_95 : decode cX11_runFrom 95 = .ok (.ifCond .lt 19, 3) := by decide +kernel
theorem dX11_runFrom_98 : decode cX11_runFrom 98 = .ok (.aload_n 0, 1) := by decide +kernel
theorem dX11_runFrom_99 : decode cX11_runFrom 99 = .ok (.getfield 44, 3) := by decide +kernel
theorem dX11_runFrom_102 : decode cX11_runFrom 102 = .ok (.iload_n 1, 1) := by decide +kernel
theorem dX11_runFrom_103 : decode cX11_runFrom 103 = .ok (.iaload, 1) := by decide +kernel
theorem dX11_runFrom_104 : decode cX11_runFrom 104 = .ok (.iconst 4, 1) := by decide +kernel
theorem dX11_runFrom_105 : decode cX11_runFrom 105 = .ok (.if_icmp .lt 9, 3) := by decide +kernel
theorem dX11_runFrom_108 : decode cX11_runFrom 108 = .ok (.aload_n 0, 1) := by decide +kernel
theorem dX11_runFrom_109 : decode cX11_runFrom 109 = .ok (.iload_n 1, 1) := by decide +kernel
theorem dX11_runFrom_110 : decode cX11_runFrom 110 = .ok (.iload_n 2, 1) := by decide +kernel
theorem dX11_runFrom_111 : decode cX11_runFrom 111 = .ok (.invokevirtual 254, 3) := by decide +kernel
theorem dX11_runFrom_114 : decode cX11_runFrom 114 = .ok (.iconst 0, 1) := by decide +kernel
theorem dX11_runFrom_115 : decode cX11_runFrom 115 = .ok (.istore_n 3, 1) := by decide +kernel
theorem dX11_runFrom_116 : decode cX11_runFrom 116 = .ok (.iload_n 3, 1) := by decide +kernel
theorem dX11_runFrom_117 : decode cX11_runFrom 117 = .ok (.aload_n 0, 1) := by decide +kernel
theorem dX11_runFrom_118 : decode cX11_runFrom 118 = .ok (.getfield 89, 3) := by decide +kernel
theorem dX11_runFrom_121 : decode cX11_runFrom 121 = .ok (.if_icmp .ge 94, 3) := by decide +kernel
theorem dX11_runFrom_124 : decode cX11_runFrom 124 = .ok (.aload_n 0, 1) := by decide +kernel
theorem dX11_runFrom_125 : decode cX11_runFrom 125 = .ok (.getfield 13, 3) := by decide +kernel
theorem dX11_runFrom_128 : decode cX11_runFrom 128 = .ok (.iload_n 3, 1) := by decide +kernel
theorem dX11_runFrom_129 : decode cX11_runFrom 129 = .ok (.iaload, 1) := by decide +kernel
theorem dX11_runFrom_130 : decode cX11_runFrom 130 = .ok (.iload_n 1, 1) := by decide +kernel
theorem dX11_runFrom_131 : decode cX11_runFrom 131 = .ok (.if_icmp .ne 12, 3) := by decide +kernel
theorem dX11_runFrom_134 : decode cX11_runFrom 134 = .ok (.aload_n 0, 1) := by decide +kernel
theorem dX11_runFrom_135 : decode cX11_runFrom 135 = .ok (.getfield 16, 3) := by decide +kernel
theorem dX11_runFrom_138 : decode cX11_runFrom 138 = .ok (.iload_n 3, 1) := by decide +kernel
theorem dX11_runFrom_139 : decode cX11_runFrom 139 = .ok (.iaload, 1) := by decide +kernel
theorem dX11_runFrom_140 : decode cX11_runFrom 140 = .ok (.goto 23, 3) := by decide +kernel
theorem dX11_runFrom_143 : decode cX11_runFrom 143 = .ok (.aload_n 0, 1) := by decide +kernel
theorem dX11_runFrom_144 : decode cX11_runFrom 144 = .ok (.getfield 16, 3) := by decide +kernel
theorem dX11_runFrom_147 : decode cX11_runFrom 147 = .ok (.iload_n 3, 1) := by decide +kernel
theorem dX11_runFrom_148 : decode cX11_runFrom 148 = .ok (.iaload, 1) := by decide +kernel
theorem dX11_runFrom_149 : decode cX11_runFrom 149 = .ok (.iload_n 1, 1) := by decide +kernel
theorem dX11_runFrom_150 : decode cX11_runFrom 150 = .ok (.if_icmp .ne 12, 3) := by decide +kernel
theorem dX11_runFrom_153 : decode cX11_runFrom 153 = .ok (.aload_n 0, 1) := by decide +kernel
theorem dX11_runFrom_154 : decode cX11_runFrom 154 = .ok (.getfield 13, 3) := by decide +kernel
theorem dX11_runFrom_157 : decode cX11_runFrom 157 = .ok (.iload_n 3, 1) := by decide +kernel
theorem dX11_runFrom_158 : decode cX11_runFrom 158 = .ok (.iaload, 1) := by decide +kernel
theorem dX11_runFrom_159 : decode cX11_runFrom 159 = .ok (.goto 4, 3) := by decide +kernel
theorem dX11_runFrom_162 : decode cX11_runFrom 162 = .ok (.iconst (-1), 1) := by decide +kernel
theorem dX11_runFrom_163 : decode cX11_runFrom 163 = .ok (.istore 4, 2) := by decide +kernel
theorem dX11_runFrom_165 : decode cX11_runFrom 165 = .ok (.iload 4, 2) := by decide +kernel
theorem dX11_runFrom_167 : decode cX11_runFrom 167 = .ok (.ifCond .lt 42, 3) := by decide +kernel
theorem dX11_runFrom_170 : decode cX11_runFrom 170 = .ok (.aload_n 0, 1) := by decide +kernel
theorem dX11_runFrom_171 : decode cX11_runFrom 171 = .ok (.getfield 22, 3) := by decide +kernel
theorem dX11_runFrom_174 : decode cX11_runFrom 174 = .ok (.bipush 30, 2) := by decide +kernel
theorem dX11_runFrom_176 : decode cX11_runFrom 176 = .ok (.iaload, 1) := by decide +kernel
theorem dX11_runFrom_177 : decode cX11_runFrom 177 = .ok (.iload_n 3, 1) := by decide +kernel
theorem dX11_runFrom_178 : decode cX11_runFrom 178 = .ok (.invokestatic 213, 3) := by decide +kernel
theorem dX11_runFrom_181 : decode cX11_runFrom 181 = .ok (.ifCond .ne 28, 3) := by decide +kernel
theorem dX11_runFrom_184 : decode cX11_runFrom 184 = .ok (.aload_n 0, 1) := by decide +kernel
theorem dX11_runFrom_185 : decode cX11_runFrom 185 = .ok (.getfield 44, 3) := by decide +kernel
theorem dX11_runFrom_188 : decode cX11_runFrom 188 = .ok (.iload_n 1, 1) := by decide +kernel
theorem dX11_runFrom_189 : decode cX11_runFrom 189 = .ok (.iaload, 1) := by decide +kernel
theorem dX11_runFrom_190 : decode cX11_runFrom 190 = .ok (.aload_n 0, 1) := by decide +kernel
theorem dX11_runFrom_191 : decode cX11_runFrom 191 = .ok (.getfield 44, 3) := by decide +kernel
theorem dX11_runFrom_194 : decode cX11_runFrom 194 = .ok (.iload 4, 2) := by decide +kernel
theorem dX11_runFrom_196 : decode cX11_runFrom 196 = .ok (.iaload, 1) := by decide +kernel
theorem dX11_runFrom_197 : decode cX11_runFrom 197 = .ok (.iconst 2, 1) := by decide +kernel
theorem dX11_runFrom_198 : decode cX11_runFrom 198 = .ok (.iadd, 1) := by decide +kernel
theorem dX11_runFrom_199 : decode cX11_runFrom 199 = .ok (.if_icmp .lt 10, 3) := by decide +kernel
theorem dX11_runFrom_202 : decode cX11_runFrom 202 = .ok (.aload_n 0, 1) := by decide +kernel
theorem dX11_runFrom_203 : decode cX11_runFrom 203 = .ok (.iload_n 1, 1) := by decide +kernel
theorem dX11_runFrom_204 : decode cX11_runFrom 204 = .ok (.iload 4, 2) := by decide +kernel
theorem dX11_runFrom_206 : decode cX11_runFrom 206 = .ok (.invokevirtual 254, 3) := by decide +kernel
theorem dX11_runFrom_209 : decode cX11_runFrom 209 = .ok (.iinc 3 1, 3) := by decide +kernel
theorem dX11_runFrom_212 : decode cX11_runFrom 212 = .ok (.goto (-96), 3) := by decide +kernel
theorem dX11_runFrom_215 : decode cX11_runFrom 215 = .ok (.return_, 1) := by decide +kernel
theorem dX11_bound_0 : decode cX11_bound 0 = .ok (.iload_n 0, 1) := by decide +kernel
theorem dX11_bound_1 : decode cX11_bound 1 = .ok (.bipush 9, 2) := by decide +kernel
theorem dX11_bound_3 : decode cX11_bound 3 = .ok (.if_icmp .le 8, 3) := by decide +kernel
theorem dX11_bound_6 : decode cX11_bound 6 = .ok (.bipush 9, 2) := by decide +kernel
theorem dX11_bound_8 : decode cX11_bound 8 = .ok (.goto 12, 3) := by decide +kernel
theorem dX11_bound_11 : decode cX11_bound 11 = .ok (.iload_n 0, 1) := by decide +kernel
theorem dX11_bound_12 : decode cX11_bound 12 = .ok (.ifCond .ge 7, 3) := by decide +kernel
theorem dX11_bound_15 : decode cX11_bound 15 = .ok (.iconst 0, 1) := by decide +kernel
theorem dX11_bound_16 : decode cX11_bound 16 = .ok (.goto 4, 3) := by decide +kernel
theorem dX11_bound_19 : decode cX11_bound 19 = .ok (.iload_n 0, 1) := by decide +kernel
theorem dX11_bound_20 : decode cX11_bound 20 = .ok (.ireturn, 1) := by decide +kernel
theorem dX11_pass_0 : decode cX11_pass 0 = .ok (.iconst 0, 1) := by decide +kernel
theorem dX11_pass_1 : decode cX11_pass 1 = .ok (.istore_n 2, 1) := by decide +kernel
theorem dX11_pass_2 : decode cX11_pass 2 = .ok (.iload_n 2, 1) := by decide +kernel
theorem dX11_pass_3 : decode cX11_pass 3 = .ok (.aload_n 0, 1) := by decide +kernel
theorem dX11_pass_4 : decode cX11_pass 4 = .ok (.getfield 86, 3) := by decide +kernel
theorem dX11_pass_7 : decode cX11_pass 7 = .ok (.if_icmp .ge 36, 3) := by decide +kernel
theorem dX11_pass_10 : decode cX11_pass 10 = .ok (.aload_n 0, 1) := by decide +kernel
theorem dX11_pass_11 : decode cX11_pass 11 = .ok (.getfield 22, 3) := by decide +kernel
theorem dX11_pass_14 : decode cX11_pass 14 = .ok (.bipush 25, 2) := by decide +kernel
theorem dX11_pass_16 : decode cX11_pass 16 = .ok (.iload_n 2, 1) := by decide +kernel
theorem dX11_pass_17 : decode cX11_pass 17 = .ok (.iadd, 1) := by decide +kernel
theorem dX11_pass_18 : decode cX11_pass 18 = .ok (.iaload, 1) := by decide +kernel
theorem dX11_pass_19 : decode cX11_pass 19 = .ok (.istore_n 3, 1) := by decide +kernel
theorem dX11_pass_20 : decode cX11_pass 20 = .ok (.aload_n 0, 1) := by decide +kernel
theorem dX11_pass_21 : decode cX11_pass 21 = .ok (.getfield 22, 3) := by decide +kernel
theorem dX11_pass_24 : decode cX11_pass 24 = .ok (.iload_n 3, 1) := by decide +kernel
theorem dX11_pass_25 : decode cX11_pass 25 = .ok (.aload_n 0, 1) := by decide +kernel
theorem dX11_pass_26 : decode cX11_pass 26 = .ok (.getfield 22, 3) := by decide +kernel
theorem dX11_pass_29 : decode cX11_pass 29 = .ok (.iload_n 3, 1) := by decide +kernel
theorem dX11_pass_30 : decode cX11_pass 30 = .ok (.iaload, 1) := by decide +kernel
theorem dX11_pass_31 : decode cX11_pass 31 = .ok (.iload_n 1, 1) := by decide +kernel
theorem dX11_pass_32 : decode cX11_pass 32 = .ok (.iadd, 1) := by decide +kernel
theorem dX11_pass_33 : decode cX11_pass 33 = .ok (.invokestatic 258, 3) := by decide +kernel
theorem dX11_pass_36 : decode cX11_pass 36 = .ok (.iastore, 1) := by decide +kernel
theorem dX11_pass_37 : decode cX11_pass 37 = .ok (.iinc 2 1, 3) := by decide +kernel
theorem dX11_pass_40 : decode cX11_pass 40 = .ok (.goto (-38), 3) := by decide +kernel
theorem dX11_pass_43 : decode cX11_pass 43 = .ok (.iconst 0, 1) := by decide +kernel
theorem dX11_pass_44 : decode cX11_pass 44 = .ok (.istore_n 2, 1) := by decide +kernel
theorem dX11_pass_45 : decode cX11_pass 45 = .ok (.iload_n 2, 1) := by decide +kernel
theorem dX11_pass_46 : decode cX11_pass 46 = .ok (.aload_n 0, 1) := by decide +kernel
theorem dX11_pass_47 : decode cX11_pass 47 = .ok (.invokevirtual 78, 3) := by decide +kernel
theorem dX11_pass_50 : decode cX11_pass 50 = .ok (.if_icmp .ge 40, 3) := by decide +kernel
theorem dX11_pass_53 : decode cX11_pass 53 = .ok (.aload_n 0, 1) := by decide +kernel
theorem dX11_pass_54 : decode cX11_pass 54 = .ok (.getfield 44, 3) := by decide +kernel
theorem dX11_pass_57 : decode cX11_pass 57 = .ok (.iload_n 2, 1) := by decide +kernel
theorem dX11_pass_58 : decode cX11_pass 58 = .ok (.aload_n 0, 1) := by decide +kernel
theorem dX11_pass_59 : decode cX11_pass 59 = .ok (.getfield 22, 3) := by decide +kernel
theorem dX11_pass_62 : decode cX11_pass 62 = .ok (.iload_n 2, 1) := by decide +kernel
theorem dX11_pass_63 : decode cX11_pass 63 = .ok (.iaload, 1) := by decide +kernel
theorem dX11_pass_64 : decode cX11_pass 64 = .ok (.iastore, 1) := by decide +kernel
theorem dX11_pass_65 : decode cX11_pass 65 = .ok (.aload_n 0, 1) := by decide +kernel
theorem dX11_pass_66 : decode cX11_pass 66 = .ok (.getfield 50, 3) := by decide +kernel
theorem dX11_pass_69 : decode cX11_pass 69 = .ok (.iload_n 2, 1) := by decide +kernel
theorem dX11_pass_70 : decode cX11_pass 70 = .ok (.aload_n 0, 1) := by decide +kernel
theorem dX11_pass_71 : decode cX11_pass 71 = .ok (.getfield 22, 3) := by decide +kernel
theorem dX11_pass_74 : decode cX11_pass 74 = .ok (.iload_n 2, 1) := by decide +kernel
theorem dX11_pass_75 : decode cX11_pass 75 = .ok (.iaload, 1) := by decide +kernel
theorem dX11_pass_76 : decode cX11_pass 76 = .ok (.iastore, 1) := by decide +kernel
theorem dX11_pass_77 : decode cX11_pass 77 = .ok (.aload_n 0, 1) := by decide +kernel
theorem dX11_pass_78 : decode cX11_pass 78 = .ok (.getfield 47, 3) := by decide +kernel
theorem dX11_pass_81 : decode cX11_pass 81 = .ok (.iload_n 2, 1) := by decide +kernel
theorem dX11_pass_82 : decode cX11_pass 82 = .ok (.iconst 0, 1) := by decide +kernel
theorem dX11_pass_83 : decode cX11_pass 83 = .ok (.iastore, 1) := by decide +kernel
theorem dX11_pass_84 : decode cX11_pass 84 = .ok (.iinc 2 1, 3) := by decide +kernel
theorem dX11_pass_87 : decode cX11_pass 87 = .ok (.goto (-42), 3) := by decide +kernel
theorem dX11_pass_90 : decode cX11_pass 90 = .ok (.iconst 0, 1) := by decide +kernel
theorem dX11_pass_91 : decode cX11_pass 91 = .ok (.istore_n 2, 1) := by decide +kernel
theorem dX11_pass_92 : decode cX11_pass 92 = .ok (.iload_n 2, 1) := by decide +kernel
theorem dX11_pass_93 : decode cX11_pass 93 = .ok (.aload_n 0, 1) := by decide +kernel
theorem dX11_pass_94 : decode cX11_pass 94 = .ok (.invokevirtual 78, 3) := by decide +kernel
theorem dX11_pass_97 : decode cX11_pass 97 = .ok (.if_icmp .ge 14, 3) := by decide +kernel
theorem dX11_pass_100 : decode cX11_pass 100 = .ok (.aload_n 0, 1) := by decide +kernel
theorem dX11_pass_101 : decode cX11_pass 101 = .ok (.iload_n 2, 1) := by decide +kernel
theorem dX11_pass_102 : decode cX11_pass 102 = .ok (.invokevirtual 261, 3) := by decide +kernel
theorem dX11_pass_105 : decode cX11_pass 105 = .ok (.iinc 2 1, 3) := by decide +kernel
theorem dX11_pass_108 : decode cX11_pass 108 = .ok (.goto (-16), 3) := by decide +kernel
theorem dX11_pass_111 : decode cX11_pass 111 = .ok (.iconst 0, 1) := by decide +kernel
theorem dX11_pass_112 : decode cX11_pass 112 = .ok (.istore_n 2, 1) := by decide +kernel
theorem dX11_pass_113 : decode cX11_pass 113 = .ok (.iload_n 2, 1) := by decide +kernel
theorem dX11_pass_114 : decode cX11_pass 114 = .ok (.aload_n 0, 1) := by decide +kernel
theorem dX11_pass_115 : decode cX11_pass 115 = .ok (.invokevirtual 78, 3) := by decide +kernel
theorem dX11_pass_118 : decode cX11_pass 118 = .ok (.if_icmp .ge 61, 3) := by decide +kernel
theorem dX11_pass_121 : decode cX11_pass 121 = .ok (.aload_n 0, 1) := by decide +kernel
theorem dX11_pass_122 : decode cX11_pass 122 = .ok (.getfield 22, 3) := by decide +kernel
theorem dX11_pass_125 : decode cX11_pass 125 = .ok (.iload_n 2, 1) := by decide +kernel
theorem dX11_pass_126 : decode cX11_pass 126 = .ok (.aload_n 0, 1) := by decide +kernel
theorem dX11_pass_127 : decode cX11_pass 127 = .ok (.getfield 50, 3) := by decide +kernel
theorem dX11_pass_130 : decode cX11_pass 130 = .ok (.iload_n 2, 1) := by decide +kernel
theorem dX11_pass_131 : decode cX11_pass 131 = .ok (.iaload, 1) := by decide +kernel
theorem dX11_pass_132 : decode cX11_pass 132 = .ok (.aload_n 0, 1) := by decide +kernel
theorem dX11_pass_133 : decode cX11_pass 133 = .ok (.getfield 47, 3) := by decide +kernel
theorem dX11_pass_136 : decode cX11_pass 136 = .ok (.iload_n 2, 1) := by decide +kernel
theorem dX11_pass_137 : decode cX11_pass 137 = .ok (.iaload, 1) := by decide +kernel
theorem dX11_pass_138 : decode cX11_pass 138 = .ok (.iadd, 1) := by decide +kernel
theorem dX11_pass_139 : decode cX11_pass 139 = .ok (.invokestatic 258, 3) := by decide +kernel
theorem dX11_pass_142 : decode cX11_pass 142 = .ok (.iastore, 1) := by decide +kernel
theorem dX11_pass_143 : decode cX11_pass 143 = .ok (.aload_n 0, 1) := by decide +kernel
theorem dX11_pass_144 : decode cX11_pass 144 = .ok (.getfield 22, 3) := by decide +kernel
theorem dX11_pass_147 : decode cX11_pass 147 = .ok (.iload_n 2, 1) := by decide +kernel
theorem dX11_pass_148 : decode cX11_pass 148 = .ok (.iload_n 1, 1) := by decide +kernel
theorem dX11_pass_149 : decode cX11_pass 149 = .ok (.ifCond .ne 17, 3) := by decide +kernel
theorem dX11_pass_152 : decode cX11_pass 152 = .ok (.aload_n 0, 1) := by decide +kernel
theorem dX11_pass_153 : decode cX11_pass 153 = .ok (.getfield 22, 3) := by decide +kernel
theorem dX11_pass_156 : decode cX11_pass 156 = .ok (.iload_n 2, 1) := by decide +kernel
theorem dX11_pass_157 : decode cX11_pass 157 = .ok (.iaload, 1) := by decide +kernel
theorem dX11_pass_158 : decode cX11_pass 158 = .ok (.iconst 1, 1) := by decide +kernel
theorem dX11_pass_159 : decode cX11_pass 159 = .ok (.isub, 1) := by decide +kernel
theorem dX11_pass_160 : decode cX11_pass 160 = .ok (.invokestatic 258, 3) := by decide +kernel
theorem dX11_pass_163 : decode cX11_pass 163 = .ok (.goto 9, 3) := by decide +kernel
theorem dX11_pass_166 : decode cX11_pass 166 = .ok (.aload_n 0, 1) := by decide +kernel
theorem dX11_pass_167 : decode cX11_pass 167 = .ok (.getfield 22, 3) := by decide +kernel
theorem dX11_pass_170 : decode cX11_pass 170 = .ok (.iload_n 2, 1) := by decide +kernel
theorem dX11_pass_171 : decode cX11_pass 171 = .ok (.iaload, 1) := by decide +kernel
theorem dX11_pass_172 : decode cX11_pass 172 = .ok (.iastore, 1) := by decide +kernel
theorem dX11_pass_173 : decode cX11_pass 173 = .ok (.iinc 2 1, 3) := by decide +kernel
theorem dX11_pass_176 : decode cX11_pass 176 = .ok (.goto (-63), 3) := by decide +kernel
theorem dX11_pass_179 : decode cX11_pass 179 = .ok (.aload_n 0, 1) := by decide +kernel
theorem dX11_pass_180 : decode cX11_pass 180 = .ok (.getfield 22, 3) := by decide +kernel
theorem dX11_pass_183 : decode cX11_pass 183 = .ok (.bipush 31, 2) := by decide +kernel
theorem dX11_pass_185 : decode cX11_pass 185 = .ok (.dup2, 1) := by decide +kernel
theorem dX11_pass_186 : decode cX11_pass 186 = .ok (.iaload, 1) := by decide +kernel
theorem dX11_pass_187 : decode cX11_pass 187 = .ok (.iconst 1, 1) := by decide +kernel
theorem dX11_pass_188 : decode cX11_pass 188 = .ok (.iadd, 1) := by decide +kernel
theorem dX11_pass_189 : decode cX11_pass 189 = .ok (.iastore, 1) := by decide +kernel
theorem dX11_pass_190 : decode cX11_pass 190 = .ok (.return_, 1) := by decide +kernel
theorem dX11_lookNow_0 : decode cX11_lookNow 0 = .ok (.aload_n 0, 1) := by decide +kernel
theorem dX11_lookNow_1 : decode cX11_lookNow 1 = .ok (.invokevirtual 204, 3) := by decide +kernel
theorem dX11_lookNow_4 : decode cX11_lookNow 4 = .ok (.istore_n 1, 1) := by decide +kernel
theorem dX11_lookNow_5 : decode cX11_lookNow 5 = .ok (.iconst 0, 1) := by decide +kernel
theorem dX11_lookNow_6 : decode cX11_lookNow 6 = .ok (.istore_n 2, 1) := by decide +kernel
theorem dX11_lookNow_7 : decode cX11_lookNow 7 = .ok (.iload_n 2, 1) := by decide +kernel
theorem dX11_lookNow_8 : decode cX11_lookNow 8 = .ok (.aload_n 0, 1) := by decide +kernel
theorem dX11_lookNow_9 : decode cX11_lookNow 9 = .ok (.invokevirtual 78, 3) := by decide +kernel
theorem dX11_lookNow_12 : decode cX11_lookNow 12 = .ok (.if_icmp .ge 67, 3) := by decide +kernel
theorem dX11_lookNow_15 : decode cX11_lookNow 15 = .ok (.iload_n 1, 1) := by decide +kernel
theorem dX11_lookNow_16 : decode cX11_lookNow 16 = .ok (.iload_n 2, 1) := by decide +kernel
theorem dX11_lookNow_17 : decode cX11_lookNow 17 = .ok (.invokestatic 213, 3) := by decide +kernel
theorem dX11_lookNow_20 : decode cX11_lookNow 20 = .ok (.ifCond .eq 21, 3) := by decide +kernel
theorem dX11_lookNow_23 : decode cX11_lookNow 23 = .ok (.aload_n 0, 1) := by decide +kernel
theorem dX11_lookNow_24 : decode cX11_lookNow 24 = .ok (.iload_n 2, 1) := by decide +kernel
theorem dX11_lookNow_25 : decode cX11_lookNow 25 = .ok (.invokevirtual 216, 3) := by decide +kernel
theorem dX11_lookNow_28 : decode cX11_lookNow 28 = .ok (.iload_n 1, 1) := by decide +kernel
theorem dX11_lookNow_29 : decode cX11_lookNow 29 = .ok (.iand, 1) := by decide +kernel
theorem dX11_lookNow_30 : decode cX11_lookNow 30 = .ok (.invokestatic 207, 3) := by decide +kernel
theorem dX11_lookNow_33 : decode cX11_lookNow 33 = .ok (.iconst 2, 1) := by decide +kernel
theorem dX11_lookNow_34 : decode cX11_lookNow 34 = .ok (.if_icmp .ge 7, 3) := by decide +kernel
theorem dX11_lookNow_37 : decode cX11_lookNow 37 = .ok (.iconst 1, 1) := by decide +kernel
theorem dX11_lookNow_38 : decode cX11_lookNow 38 = .ok (.goto 4, 3) := by decide +kernel
theorem dX11_lookNow_41 : decode cX11_lookNow 41 = .ok (.iconst 0, 1) := by decide +kernel
theorem dX11_lookNow_42 : decode cX11_lookNow 42 = .ok (.istore_n 3, 1) := by decide +kernel
theorem dX11_lookNow_43 : decode cX11_lookNow 43 = .ok (.aload_n 0, 1) := by decide +kernel
theorem dX11_lookNow_44 : decode cX11_lookNow 44 = .ok (.getfield 22, 3) := by decide +kernel
theorem dX11_lookNow_47 : decode cX11_lookNow 47 = .ok (.iload_n 2, 1) := by decide +kernel
theorem dX11_lookNow_48 : decode cX11_lookNow 48 = .ok (.iload_n 3, 1) := by decide +kernel
theorem dX11_lookNow_49 : decode cX11_lookNow 49 = .ok (.ifCond .eq 17, 3) := by decide +kernel
theorem dX11_lookNow_52 : decode cX11_lookNow 52 = .ok (.aload_n 0, 1) := by decide +kernel
theorem dX11_lookNow_53 : decode cX11_lookNow 53 = .ok (.getfield 22, 3) := by decide +kernel
theorem dX11_lookNow_56 : decode cX11_lookNow 56 = .ok (.iload_n 2, 1) := by decide +kernel
theorem dX11_lookNow_57 : decode cX11_lookNow 57 = .ok (.iaload, 1) := by decide +kernel
theorem dX11_lookNow_58 : decode cX11_lookNow 58 = .ok (.iconst 2, 1) := by decide +kernel
theorem dX11_lookNow_59 : decode cX11_lookNow 59 = .ok (.isub, 1) := by decide +kernel
theorem dX11_lookNow_60 : decode cX11_lookNow 60 = .ok (.invokestatic 258, 3) := by decide +kernel
theorem dX11_lookNow_63 : decode cX11_lookNow 63 = .ok (.goto 9, 3) := by decide +kernel
theorem dX11_lookNow_66 : decode cX11_lookNow 66 = .ok (.aload_n 0, 1) := by decide +kernel
theorem dX11_lookNow_67 : decode cX11_lookNow 67 = .ok (.getfield 22, 3) := by decide +kernel
theorem dX11_lookNow_70 : decode cX11_lookNow 70 = .ok (.iload_n 2, 1) := by decide +kernel
theorem dX11_lookNow_71 : decode cX11_lookNow 71 = .ok (.iaload, 1) := by decide +kernel
theorem dX11_lookNow_72 : decode cX11_lookNow 72 = .ok (.iastore, 1) := by decide +kernel
theorem dX11_lookNow_73 : decode cX11_lookNow 73 = .ok (.iinc 2 1, 3) := by decide +kernel
theorem dX11_lookNow_76 : decode cX11_lookNow 76 = .ok (.goto (-69), 3) := by decide +kernel
theorem dX11_lookNow_79 : decode cX11_lookNow 79 = .ok (.aload_n 0, 1) := by decide +kernel
theorem dX11_lookNow_80 : decode cX11_lookNow 80 = .ok (.getfield 22, 3) := by decide +kernel
theorem dX11_lookNow_83 : decode cX11_lookNow 83 = .ok (.bipush 32, 2) := by decide +kernel
theorem dX11_lookNow_85 : decode cX11_lookNow 85 = .ok (.dup2, 1) := by decide +kernel
theorem dX11_lookNow_86 : decode cX11_lookNow 86 = .ok (.iaload, 1) := by decide +kernel
theorem dX11_lookNow_87 : decode cX11_lookNow 87 = .ok (.iconst 1, 1) := by decide +kernel
theorem dX11_lookNow_88 : decode cX11_lookNow 88 = .ok (.iadd, 1) := by decide +kernel
theorem dX11_lookNow_89 : decode cX11_lookNow 89 = .ok (.iastore, 1) := by decide +kernel
theorem dX11_lookNow_90 : decode cX11_lookNow 90 = .ok (.return_, 1) := by decide +kernel
theorem dX11_remember_0 : decode cX11_remember 0 = .ok (.aload_n 0, 1) := by decide +kernel
theorem dX11_remember_1 : decode cX11_remember 1 = .ok (.getfield 201, 3) := by decide +kernel
theorem dX11_remember_4 : decode cX11_remember 4 = .ok (.bipush 16, 2) := by decide +kernel
theorem dX11_remember_6 : decode cX11_remember 6 = .ok (.if_icmp .ne 44, 3) := by decide +kernel
theorem dX11_remember_9 : decode cX11_remember 9 = .ok (.bipush 34, 2) := by decide +kernel
theorem dX11_remember_11 : decode cX11_remember 11 = .ok (.istore_n 1, 1) := by decide +kernel
theorem dX11_remember_12 : decode cX11_remember 12 = .ok (.iload_n 1, 1) := by decide +kernel
theorem dX11_remember_13 : decode cX11_remember 13 = .ok (.sipush 544, 3) := by decide +kernel
theorem dX11_remember_16 : decode cX11_remember 16 = .ok (.if_icmp .ge 24, 3) := by decide +kernel
theorem dX11_remember_19 : decode cX11_remember 19 = .ok (.aload_n 0, 1) := by decide +kernel
theorem dX11_remember_20 : decode cX11_remember 20 = .ok (.getfield 53, 3) := by decide +kernel
theorem dX11_remember_23 : decode cX11_remember 23 = .ok (.iload_n 1, 1) := by decide +kernel
theorem dX11_remember_24 : decode cX11_remember 24 = .ok (.bipush 34, 2) := by decide +kernel
theorem dX11_remember_26 : decode cX11_remember 26 = .ok (.isub, 1) := by decide +kernel
theorem dX11_remember_27 : decode cX11_remember 27 = .ok (.aload_n 0, 1) := by decide +kernel
theorem dX11_remember_28 : decode cX11_remember 28 = .ok (.getfield 53, 3) := by decide +kernel
theorem dX11_remember_31 : decode cX11_remember 31 = .ok (.iload_n 1, 1) := by decide +kernel
theorem dX11_remember_32 : decode cX11_remember 32 = .ok (.iaload, 1) := by decide +kernel
theorem dX11_remember_33 : decode cX11_remember 33 = .ok (.iastore, 1) := by decide +kernel
theorem dX11_remember_34 : decode cX11_remember 34 = .ok (.iinc 1 1, 3) := by decide +kernel
theorem dX11_remember_37 : decode cX11_remember 37 = .ok (.goto (-25), 3) := by decide +kernel
theorem dX11_remember_40 : decode cX11_remember 40 = .ok (.aload_n 0, 1) := by decide +kernel
theorem dX11_remember_41 : decode cX11_remember 41 = .ok (.dup, 1) := by decide +kernel
theorem dX11_remember_42 : decode cX11_remember 42 = .ok (.getfield 201, 3) := by decide +kernel
theorem dX11_remember_45 : decode cX11_remember 45 = .ok (.iconst 1, 1) := by decide +kernel
theorem dX11_remember_46 : decode cX11_remember 46 = .ok (.isub, 1) := by decide +kernel
theorem dX11_remember_47 : decode cX11_remember 47 = .ok (.putfield 201, 3) := by decide +kernel
theorem dX11_remember_50 : decode cX11_remember 50 = .ok (.iconst 0, 1) := by decide +kernel
theorem dX11_remember_51 : decode cX11_remember 51 = .ok (.istore_n 1, 1) := by decide +kernel
theorem dX11_remember_52 : decode cX11_remember 52 = .ok (.iload_n 1, 1) := by decide +kernel
theorem dX11_remember_53 : decode cX11_remember 53 = .ok (.bipush 34, 2) := by decide +kernel
theorem dX11_remember_55 : decode cX11_remember 55 = .ok (.if_icmp .ge 29, 3) := by decide +kernel
theorem dX11_remember_58 : decode cX11_remember 58 = .ok (.aload_n 0, 1) := by decide +kernel
theorem dX11_remember_59 : decode cX11_remember 59 = .ok (.getfield 53, 3) := by decide +kernel
theorem dX11_remember_62 : decode cX11_remember 62 = .ok (.bipush 34, 2) := by decide +kernel
theorem dX11_remember_64 : decode cX11_remember 64 = .ok (.aload_n 0, 1) := by decide +kernel
theorem dX11_remember_65 : decode cX11_remember 65 = .ok (.getfield 201, 3) := by decide +kernel
theorem dX11_remember_68 : decode cX11_remember 68 = .ok (.imul, 1) := by decide +kernel
theorem dX11_remember_69 : decode cX11_remember 69 = .ok (.iload_n 1, 1) := by decide +kernel
theorem dX11_remember_70 : decode cX11_remember 70 = .ok (.iadd, 1) := by decide +kernel
theorem dX11_remember_71 : decode cX11_remember 71 = .ok (.aload_n 0, 1) := by decide +kernel
theorem dX11_remember_72 : decode cX11_remember 72 = .ok (.getfield 22, 3) := by decide +kernel
theorem dX11_remember_75 : decode cX11_remember 75 = .ok (.iload_n 1, 1) := by decide +kernel
theorem dX11_remember_76 : decode cX11_remember 76 = .ok (.iaload, 1) := by decide +kernel
theorem dX11_remember_77 : decode cX11_remember 77 = .ok (.iastore, 1) := by decide +kernel
theorem dX11_remember_78 : decode cX11_remember 78 = .ok (.iinc 1 1, 3) := by decide +kernel
theorem dX11_remember_81 : decode cX11_remember 81 = .ok (.goto (-29), 3) := by decide +kernel
theorem dX11_remember_84 : decode cX11_remember 84 = .ok (.aload_n 0, 1) := by decide +kernel
theorem dX11_remember_85 : decode cX11_remember 85 = .ok (.dup, 1) := by decide +kernel
theorem dX11_remember_86 : decode cX11_remember 86 = .ok (.getfield 201, 3) := by decide +kernel
theorem dX11_remember_89 : decode cX11_remember 89 = .ok (.iconst 1, 1) := by decide +kernel
theorem dX11_remember_90 : decode cX11_remember 90 = .ok (.iadd, 1) := by decide +kernel
theorem dX11_remember_91 : decode cX11_remember 91 = .ok (.putfield 201, 3) := by decide +kernel
theorem dX11_remember_94 : decode cX11_remember 94 = .ok (.return_, 1) := by decide +kernel
theorem dX11_day_0 : decode cX11_day 0 = .ok (.iload_n 1, 1) := by decide +kernel
theorem dX11_day_1 : decode cX11_day 1 = .ok (.i2l, 1) := by decide +kernel
theorem dX11_day_2 : decode cX11_day 2 = .ok (.lconst 1, 1) := by decide +kernel
theorem dX11_day_3 : decode cX11_day 3 = .ok (.ldc2_w 265, 3) := by decide +kernel
theorem dX11_day_6 : decode cX11_day 6 = .ok (.invokestatic 82, 3) := by decide +kernel
theorem dX11_day_9 : decode cX11_day 9 = .ok (.ifCond .eq 15, 3) := by decide +kernel
theorem dX11_day_12 : decode cX11_day 12 = .ok (.iload_n 2, 1) := by decide +kernel
theorem dX11_day_13 : decode cX11_day 13 = .ok (.i2l, 1) := by decide +kernel
theorem dX11_day_14 : decode cX11_day 14 = .ok (.lconst 0, 1) := by decide +kernel
theorem dX11_day_15 : decode cX11_day 15 = .ok (.ldc2_w 267, 3) := by decide +kernel
theorem dX11_day_18 : decode cX11_day 18 = .ok (.invokestatic 82, 3) := by decide +kernel
theorem dX11_day_21 : decode cX11_day 21 = .ok (.ifCond .ne 6, 3) := by decide +kernel
theorem dX11_day_24 : decode cX11_day 24 = .ok (.ldc 97, 2) := by decide +kernel
theorem dX11_day_26 : decode cX11_day 26 = .ok (.ireturn, 1) := by decide +kernel
theorem dX11_day_27 : decode cX11_day 27 = .ok (.aload_n 0, 1) := by decide +kernel
theorem dX11_day_28 : decode cX11_day 28 = .ok (.getfield 72, 3) := by decide +kernel
theorem dX11_day_31 : decode cX11_day 31 = .ok (.ifCond .ne 7, 3) := by decide +kernel
theorem dX11_day_34 : decode cX11_day 34 = .ok (.ldc_w 269, 3) := by decide +kernel
theorem dX11_day_37 : decode cX11_day 37 = .ok (.ireturn, 1) := by decide +kernel
theorem dX11_day_38 : decode cX11_day 38 = .ok (.aload_n 0, 1) := by decide +kernel
theorem dX11_day_39 : decode cX11_day 39 = .ok (.getfield 22, 3) := by decide +kernel
theorem dX11_day_42 : decode cX11_day 42 = .ok (.bipush 31, 2) := by decide +kernel
theorem dX11_day_44 : decode cX11_day 44 = .ok (.iaload, 1) := by decide +kernel
theorem dX11_day_45 : decode cX11_day 45 = .ok (.sipush 9000, 3) := by decide +kernel
theorem dX11_day_48 : decode cX11_day 48 = .ok (.if_icmp .le 6, 3) := by decide +kernel
theorem dX11_day_51 : decode cX11_day 51 = .ok (.ldc 101, 2) := by decide +kernel
theorem dX11_day_53 : decode cX11_day 53 = .ok (.ireturn, 1) := by decide +kernel
theorem dX11_day_54 : decode cX11_day 54 = .ok (.aload_n 0, 1) := by decide +kernel
theorem dX11_day_55 : decode cX11_day 55 = .ok (.invokevirtual 270, 3) := by decide +kernel
theorem dX11_day_58 : decode cX11_day 58 = .ok (.iconst 0, 1) := by decide +kernel
theorem dX11_day_59 : decode cX11_day 59 = .ok (.istore_n 3, 1) := by decide +kernel
theorem dX11_day_60 : decode cX11_day 60 = .ok (.iload_n 3, 1) := by decide +kernel
theorem dX11_day_61 : decode cX11_day 61 = .ok (.iload_n 1, 1) := by decide +kernel
theorem dX11_day_62 : decode cX11_day 62 = .ok (.if_icmp .ge 14, 3) := by decide +kernel
theorem dX11_day_65 : decode cX11_day 65 = .ok (.aload_n 0, 1) := by decide +kernel
theorem dX11_day_66 : decode cX11_day 66 = .ok (.iload_n 2, 1) := by decide +kernel
theorem dX11_day_67 : decode cX11_day 67 = .ok (.invokevirtual 273, 3) := by decide +kernel
theorem dX11_day_70 : decode cX11_day 70 = .ok (.iinc 3 1, 3) := by decide +kernel
theorem dX11_day_73 : decode cX11_day 73 = .ok (.goto (-13), 3) := by decide +kernel
theorem dX11_day_76 : decode cX11_day 76 = .ok (.aload_n 0, 1) := by decide +kernel
theorem dX11_day_77 : decode cX11_day 77 = .ok (.invokevirtual 204, 3) := by decide +kernel
theorem dX11_day_80 : decode cX11_day 80 = .ok (.invokestatic 207, 3) := by decide +kernel
theorem dX11_day_83 : decode cX11_day 83 = .ok (.ireturn, 1) := by decide +kernel
theorem dX11_look_0 : decode cX11_look 0 = .ok (.aload_n 0, 1) := by decide +kernel
theorem dX11_look_1 : decode cX11_look 1 = .ok (.getfield 72, 3) := by decide +kernel
theorem dX11_look_4 : decode cX11_look 4 = .ok (.ifCond .ne 7, 3) := by decide +kernel
theorem dX11_look_7 : decode cX11_look 7 = .ok (.ldc_w 269, 3) := by decide +kernel
theorem dX11_look_10 : decode cX11_look 10 = .ok (.ireturn, 1) := by decide +kernel
theorem dX11_look_11 : decode cX11_look 11 = .ok (.aload_n 0, 1) := by decide +kernel
theorem dX11_look_12 : decode cX11_look 12 = .ok (.invokevirtual 270, 3) := by decide +kernel
theorem dX11_look_15 : decode cX11_look 15 = .ok (.aload_n 0, 1) := by decide +kernel
theorem dX11_look_16 : decode cX11_look 16 = .ok (.invokevirtual 276, 3) := by decide +kernel
theorem dX11_look_19 : decode cX11_look 19 = .ok (.aload_n 0, 1) := by decide +kernel
theorem dX11_look_20 : decode cX11_look 20 = .ok (.invokevirtual 204, 3) := by decide +kernel
theorem dX11_look_23 : decode cX11_look 23 = .ok (.invokestatic 207, 3) := by decide +kernel
theorem dX11_look_26 : decode cX11_look 26 = .ok (.ireturn, 1) := by decide +kernel
theorem dX11_brush_0 : decode cX11_brush 0 = .ok (.aload_n 0, 1) := by decide +kernel
theorem dX11_brush_1 : decode cX11_brush 1 = .ok (.iload_n 1, 1) := by decide +kernel
theorem dX11_brush_2 : decode cX11_brush 2 = .ok (.invokevirtual 241, 3) := by decide +kernel
theorem dX11_brush_5 : decode cX11_brush 5 = .ok (.ifCond .ne 6, 3) := by decide +kernel
theorem dX11_brush_8 : decode cX11_brush 8 = .ok (.ldc 244, 2) := by decide +kernel
theorem dX11_brush_10 : decode cX11_brush 10 = .ok (.ireturn, 1) := by decide +kernel
theorem dX11_brush_11 : decode cX11_brush 11 = .ok (.aload_n 0, 1) := by decide +kernel
theorem dX11_brush_12 : decode cX11_brush 12 = .ok (.invokevirtual 270, 3) := by decide +kernel
theorem dX11_brush_15 : decode cX11_brush 15 = .ok (.aload_n 0, 1) := by decide +kernel
theorem dX11_brush_16 : decode cX11_brush 16 = .ok (.getfield 22, 3) := by decide +kernel
theorem dX11_brush_19 : decode cX11_brush 19 = .ok (.iload_n 1, 1) := by decide +kernel
theorem dX11_brush_20 : decode cX11_brush 20 = .ok (.iaload, 1) := by decide +kernel
theorem dX11_brush_21 : decode cX11_brush 21 = .ok (.istore_n 2, 1) := by decide +kernel
theorem dX11_brush_22 : decode cX11_brush 22 = .ok (.aload_n 0, 1) := by decide +kernel
theorem dX11_brush_23 : decode cX11_brush 23 = .ok (.getfield 22, 3) := by decide +kernel
theorem dX11_brush_26 : decode cX11_brush 26 = .ok (.iload_n 1, 1) := by decide +kernel
theorem dX11_brush_27 : decode cX11_brush 27 = .ok (.iconst 0, 1) := by decide +kernel
theorem dX11_brush_28 : decode cX11_brush 28 = .ok (.iastore, 1) := by decide +kernel
theorem dX11_brush_29 : decode cX11_brush 29 = .ok (.aload_n 0, 1) := by decide +kernel
theorem dX11_brush_30 : decode cX11_brush 30 = .ok (.getfield 22, 3) := by decide +kernel
theorem dX11_brush_33 : decode cX11_brush 33 = .ok (.bipush 33, 2) := by decide +kernel
theorem dX11_brush_35 : decode cX11_brush 35 = .ok (.dup2, 1) := by decide +kernel
theorem dX11_brush_36 : decode cX11_brush 36 = .ok (.iaload, 1) := by decide +kernel
theorem dX11_brush_37 : decode cX11_brush 37 = .ok (.iconst 1, 1) := by decide +kernel
theorem dX11_brush_38 : decode cX11_brush 38 = .ok (.iadd, 1) := by decide +kernel
theorem dX11_brush_39 : decode cX11_brush 39 = .ok (.iastore, 1) := by decide +kernel
theorem dX11_brush_40 : decode cX11_brush 40 = .ok (.iload_n 2, 1) := by decide +kernel
theorem dX11_brush_41 : decode cX11_brush 41 = .ok (.ireturn, 1) := by decide +kernel
theorem dX11_lead_0 : decode cX11_lead 0 = .ok (.aload_n 0, 1) := by decide +kernel
theorem dX11_lead_1 : decode cX11_lead 1 = .ok (.iload_n 1, 1) := by decide +kernel
theorem dX11_lead_2 : decode cX11_lead 2 = .ok (.invokevirtual 245, 3) := by decide +kernel
theorem dX11_lead_5 : decode cX11_lead 5 = .ok (.ifCond .eq 11, 3) := by decide +kernel
theorem dX11_lead_8 : decode cX11_lead 8 = .ok (.aload_n 0, 1) := by decide +kernel
theorem dX11_lead_9 : decode cX11_lead 9 = .ok (.iload_n 2, 1) := by decide +kernel
theorem dX11_lead_10 : decode cX11_lead 10 = .ok (.invokevirtual 241, 3) := by decide +kernel
theorem dX11_lead_13 : decode cX11_lead 13 = .ok (.ifCond .ne 6, 3) := by decide +kernel
theorem dX11_lead_16 : decode cX11_lead 16 = .ok (.ldc 244, 2) := by decide +kernel
theorem dX11_lead_18 : decode cX11_lead 18 = .ok (.ireturn, 1) := by decide +kernel
theorem dX11_lead_19 : decode cX11_lead 19 = .ok (.aload_n 0, 1) := by decide +kernel
theorem dX11_lead_20 : decode cX11_lead 20 = .ok (.invokevirtual 270, 3) := by decide +kernel
theorem dX11_lead_23 : decode cX11_lead 23 = .ok (.aload_n 0, 1) := by decide +kernel
theorem dX11_lead_24 : decode cX11_lead 24 = .ok (.getfield 22, 3) := by decide +kernel
theorem dX11_lead_27 : decode cX11_lead 27 = .ok (.bipush 25, 2) := by decide +kernel
theorem dX11_lead_29 : decode cX11_lead 29 = .ok (.iload_n 1, 1) := by decide +kernel
theorem dX11_lead_30 : decode cX11_lead 30 = .ok (.iadd, 1) := by decide +kernel
theorem dX11_lead_31 : decode cX11_lead 31 = .ok (.iaload, 1) := by decide +kernel
theorem dX11_lead_32 : decode cX11_lead 32 = .ok (.istore_n 3, 1) := by decide +kernel
theorem dX11_lead_33 : decode cX11_lead 33 = .ok (.aload_n 0, 1) := by decide +kernel
theorem dX11_lead_34 : decode cX11_lead 34 = .ok (.getfield 22, 3) := by decide +kernel
theorem dX11_lead_37 : decode cX11_lead 37 = .ok (.bipush 25, 2) := by decide +kernel
theorem dX11_lead_39 : decode cX11_lead 39 = .ok (.iload_n 1, 1) := by decide +kernel
theorem dX11_lead_40 : decode cX11_lead 40 = .ok (.iadd, 1) := by decide +kernel
theorem dX11_lead_41 : decode cX11_lead 41 = .ok (.iload_n 2, 1) := by decide +kernel
theorem dX11_lead_42 : decode cX11_lead 42 = .ok (.iastore, 1) := by decide +kernel
theorem dX11_lead_43 : decode cX11_lead 43 = .ok (.iload_n 3, 1) := by decide +kernel
theorem dX11_lead_44 : decode cX11_lead 44 = .ok (.ireturn, 1) := by decide +kernel
theorem dX11_wind_0 : decode cX11_wind 0 = .ok (.iload_n 1, 1) := by decide +kernel
theorem dX11_wind_1 : decode cX11_wind 1 = .ok (.i2l, 1) := by decide +kernel
theorem dX11_wind_2 : decode cX11_wind 2 = .ok (.lconst 0, 1) := by decide +kernel
theorem dX11_wind_3 : decode cX11_wind 3 = .ok (.ldc2_w 279, 3) := by decide +kernel
theorem dX11_wind_6 : decode cX11_wind 6 = .ok (.invokestatic 82, 3) := by decide +kernel
theorem dX11_wind_9 : decode cX11_wind 9 = .ok (.ifCond .ne 6, 3) := by decide +kernel
theorem dX11_wind_12 : decode cX11_wind 12 = .ok (.ldc 97, 2) := by decide +kernel
theorem dX11_wind_14 : decode cX11_wind 14 = .ok (.ireturn, 1) := by decide +kernel
theorem dX11_wind_15 : decode cX11_wind 15 = .ok (.aload_n 0, 1) := by decide +kernel
theorem dX11_wind_16 : decode cX11_wind 16 = .ok (.getfield 72, 3) := by decide +kernel
theorem dX11_wind_19 : decode cX11_wind 19 = .ok (.ifCond .ne 7, 3) := by decide +kernel
theorem dX11_wind_22 : decode cX11_wind 22 = .ok (.ldc_w 269, 3) := by decide +kernel
theorem dX11_wind_25 : decode cX11_wind 25 = .ok (.ireturn, 1) := by decide +kernel
theorem dX11_wind_26 : decode cX11_wind 26 = .ok (.aload_n 0, 1) := by decide +kernel
theorem dX11_wind_27 : decode cX11_wind 27 = .ok (.invokevirtual 270, 3) := by decide +kernel
theorem dX11_wind_30 : decode cX11_wind 30 = .ok (.aload_n 0, 1) := by decide +kernel
theorem dX11_wind_31 : decode cX11_wind 31 = .ok (.getfield 22, 3) := by decide +kernel
theorem dX11_wind_34 : decode cX11_wind 34 = .ok (.bipush 29, 2) := by decide +kernel
theorem dX11_wind_36 : decode cX11_wind 36 = .ok (.iaload, 1) := by decide +kernel
theorem dX11_wind_37 : decode cX11_wind 37 = .ok (.istore_n 2, 1) := by decide +kernel
theorem dX11_wind_38 : decode cX11_wind 38 = .ok (.aload_n 0, 1) := by decide +kernel
theorem dX11_wind_39 : decode cX11_wind 39 = .ok (.getfield 22, 3) := by decide +kernel
theorem dX11_wind_42 : decode cX11_wind 42 = .ok (.bipush 29, 2) := by decide +kernel
theorem dX11_wind_44 : decode cX11_wind 44 = .ok (.iload_n 1, 1) := by decide +kernel
theorem dX11_wind_45 : decode cX11_wind 45 = .ok (.iastore, 1) := by decide +kernel
theorem dX11_wind_46 : decode cX11_wind 46 = .ok (.iload_n 2, 1) := by decide +kernel
theorem dX11_wind_47 : decode cX11_wind 47 = .ok (.ireturn, 1) := by decide +kernel
theorem dX11_fill_0 : decode cX11_fill 0 = .ok (.aload_n 0, 1) := by decide +kernel
theorem dX11_fill_1 : decode cX11_fill 1 = .ok (.iload_n 1, 1) := by decide +kernel
theorem dX11_fill_2 : decode cX11_fill 2 = .ok (.invokevirtual 248, 3) := by decide +kernel
theorem dX11_fill_5 : decode cX11_fill 5 = .ok (.ifCond .ne 6, 3) := by decide +kernel
theorem dX11_fill_8 : decode cX11_fill 8 = .ok (.ldc 244, 2) := by decide +kernel
theorem dX11_fill_10 : decode cX11_fill 10 = .ok (.ireturn, 1) := by decide +kernel
theorem dX11_fill_11 : decode cX11_fill 11 = .ok (.aload_n 0, 1) := by decide +kernel
theorem dX11_fill_12 : decode cX11_fill 12 = .ok (.invokevirtual 270, 3) := by decide +kernel
theorem dX11_fill_15 : decode cX11_fill 15 = .ok (.aload_n 0, 1) := by decide +kernel
theorem dX11_fill_16 : decode cX11_fill 16 = .ok (.getfield 22, 3) := by decide +kernel
theorem dX11_fill_19 : decode cX11_fill 19 = .ok (.bipush 30, 2) := by decide +kernel
theorem dX11_fill_21 : decode cX11_fill 21 = .ok (.iaload, 1) := by decide +kernel
theorem dX11_fill_22 : decode cX11_fill 22 = .ok (.iload_n 1, 1) := by decide +kernel
theorem dX11_fill_23 : decode cX11_fill 23 = .ok (.ishr, 1) := by decide +kernel
theorem dX11_fill_24 : decode cX11_fill 24 = .ok (.iconst 1, 1) := by decide +kernel
theorem dX11_fill_25 : decode cX11_fill 25 = .ok (.iand, 1) := by decide +kernel
theorem dX11_fill_26 : decode cX11_fill 26 = .ok (.istore_n 3, 1) := by decide +kernel
theorem dX11_fill_27 : decode cX11_fill 27 = .ok (.aload_n 0, 1) := by decide +kernel
theorem dX11_fill_28 : decode cX11_fill 28 = .ok (.getfield 22, 3) := by decide +kernel
theorem dX11_fill_31 : decode cX11_fill 31 = .ok (.bipush 30, 2) := by decide +kernel
theorem dX11_fill_33 : decode cX11_fill 33 = .ok (.iload_n 2, 1) := by decide +kernel
theorem dX11_fill_34 : decode cX11_fill 34 = .ok (.ifCond .eq 17, 3) := by decide +kernel
theorem dX11_fill_37 : decode cX11_fill 37 = .ok (.aload_n 0, 1) := by decide +kernel
theorem dX11_fill_38 : decode cX11_fill 38 = .ok (.getfield 22, 3) := by decide +kernel
theorem dX11_fill_41 : decode cX11_fill 41 = .ok (.bipush 30, 2) := by decide +kernel
theorem dX11_fill_43 : decode cX11_fill 43 = .ok (.iaload, 1) := by decide +kernel
theorem dX11_fill_44 : decode cX11_fill 44 = .ok (.iconst 1, 1) := by decide +kernel
theorem dX11_fill_45 : decode cX11_fill 45 = .ok (.iload_n 1, 1) := by decide +kernel
theorem dX11_fill_46 : decode cX11_fill 46 = .ok (.ishl, 1) := by decide +kernel
theorem dX11_fill_47 : decode cX11_fill 47 = .ok (.ior, 1) := by decide +kernel
theorem dX11_fill_48 : decode cX11_fill 48 = .ok (.goto 16, 3) := by decide +kernel
theorem dX11_fill_51 : decode cX11_fill 51 = .ok (.aload_n 0, 1) := by decide +kernel
theorem dX11_fill_52 : decode cX11_fill 52 = .ok (.getfield 22, 3) := by decide +kernel
theorem dX11_fill_55 : decode cX11_fill 55 = .ok (.bipush 30, 2) := by decide +kernel
theorem dX11_fill_57 : decode cX11_fill 57 = .ok (.iaload, 1) := by decide +kernel
theorem dX11_fill_58 : decode cX11_fill 58 = .ok (.iconst 1, 1) := by decide +kernel
theorem dX11_fill_59 : decode cX11_fill 59 = .ok (.iload_n 1, 1) := by decide +kernel
theorem dX11_fill_60 : decode cX11_fill 60 = .ok (.ishl, 1) := by decide +kernel
theorem dX11_fill_61 : decode cX11_fill 61 = .ok (.iconst (-1), 1) := by decide +kernel
theorem dX11_fill_62 : decode cX11_fill 62 = .ok (.ixor, 1) := by decide +kernel
theorem dX11_fill_63 : decode cX11_fill 63 = .ok (.iand, 1) := by decide +kernel
theorem dX11_fill_64 : decode cX11_fill 64 = .ok (.iastore, 1) := by decide +kernel
theorem dX11_fill_65 : decode cX11_fill 65 = .ok (.iload_n 3, 1) := by decide +kernel
theorem dX11_fill_66 : decode cX11_fill 66 = .ok (.ireturn, 1) := by decide +kernel
theorem dX11_draw_0 : decode cX11_draw 0 = .ok (.aload_n 0, 1) := by decide +kernel
theorem dX11_draw_1 : decode cX11_draw 1 = .ok (.aload_n 0, 1) := by decide +kernel
theorem dX11_draw_2 : decode cX11_draw 2 = .ok (.getfield 281, 3) := by decide +kernel
theorem dX11_draw_5 : decode cX11_draw 5 = .ok (.i2l, 1) := by decide +kernel
theorem dX11_draw_6 : decode cX11_draw 6 = .ok (.ldc2_w 284, 3) := by decide +kernel
theorem dX11_draw_9 : decode cX11_draw 9 = .ok (.lmul, 1) := by decide +kernel
theorem dX11_draw_10 : decode cX11_draw 10 = .ok (.ldc2_w 286, 3) := by decide +kernel
theorem dX11_draw_13 : decode cX11_draw 13 = .ok (.ladd, 1) := by decide +kernel
theorem dX11_draw_14 : decode cX11_draw 14 = .ok (.ldc2_w 288, 3) := by decide +kernel
theorem dX11_draw_17 : decode cX11_draw 17 = .ok (.lrem, 1) := by decide +kernel
theorem dX11_draw_18 : decode cX11_draw 18 = .ok (.l2i, 1) := by decide +kernel
theorem dX11_draw_19 : decode cX11_draw 19 = .ok (.putfield 281, 3) := by decide +kernel
theorem dX11_draw_22 : decode cX11_draw 22 = .ok (.aload_n 0, 1) := by decide +kernel
theorem dX11_draw_23 : decode cX11_draw 23 = .ok (.getfield 281, 3) := by decide +kernel
theorem dX11_draw_26 : decode cX11_draw 26 = .ok (.ldc_w 290, 3) := by decide +kernel
theorem dX11_draw_29 : decode cX11_draw 29 = .ok (.idiv, 1) := by decide +kernel
theorem dX11_draw_30 : decode cX11_draw 30 = .ok (.iload_n 1, 1) := by decide +kernel
theorem dX11_draw_31 : decode cX11_draw 31 = .ok (.irem, 1) := by decide +kernel
theorem dX11_draw_32 : decode cX11_draw 32 = .ok (.ireturn, 1) := by decide +kernel
theorem dX11_dayByDraws_0 : decode cX11_dayByDraws 0 = .ok (.aload_n 0, 1) := by decide +kernel
theorem dX11_dayByDraws_1 : decode cX11_dayByDraws 1 = .ok (.aload_n 0, 1) := by decide +kernel
theorem dX11_dayByDraws_2 : decode cX11_dayByDraws 2 = .ok (.bipush 10, 2) := by decide +kernel
theorem dX11_dayByDraws_4 : decode cX11_dayByDraws 4 = .ok (.invokevirtual 291, 3) := by decide +kernel
theorem dX11_dayByDraws_7 : decode cX11_dayByDraws 7 = .ok (.invokevirtual 273, 3) := by decide +kernel
theorem dX11_dayByDraws_10 : decode cX11_dayByDraws 10 = .ok (.aload_n 0, 1) := by decide +kernel
theorem dX11_dayByDraws_11 : decode cX11_dayByDraws 11 = .ok (.bipush 6, 2) := by decide +kernel
theorem dX11_dayByDraws_13 : decode cX11_dayByDraws 13 = .ok (.invokevirtual 291, 3) := by decide +kernel
theorem dX11_dayByDraws_16 : decode cX11_dayByDraws 16 = .ok (.istore_n 1, 1) := by decide +kernel
theorem dX11_dayByDraws_17 : decode cX11_dayByDraws 17 = .ok (.iload_n 1, 1) := by decide +kernel
theorem dX11_dayByDraws_18 : decode cX11_dayByDraws 18 = .ok (.ifCond .ne 10, 3) := by decide +kernel
theorem dX11_dayByDraws_21 : decode cX11_dayByDraws 21 = .ok (.aload_n 0, 1) := by decide +kernel
theorem dX11_dayByDraws_22 : decode cX11_dayByDraws 22 = .ok (.invokevirtual 276, 3) := by decide +kernel
theorem dX11_dayByDraws_25 : decode cX11_dayByDraws 25 = .ok (.goto 61, 3) := by decide +kernel
theorem dX11_dayByDraws_28 : decode cX11_dayByDraws 28 = .ok (.iload_n 1, 1) := by decide +kernel
theorem dX11_dayByDraws_29 : decode cX11_dayByDraws 29 = .ok (.iconst 1, 1) := by decide +kernel
theorem dX11_dayByDraws_30 : decode cX11_dayByDraws 30 = .ok (.if_icmp .ne 18, 3) := by decide +kernel
theorem dX11_dayByDraws_33 : decode cX11_dayByDraws 33 = .ok (.aload_n 0, 1) := by decide +kernel
theorem dX11_dayByDraws_34 : decode cX11_dayByDraws 34 = .ok (.getfield 22, 3) := by decide +kernel
theorem dX11_dayByDraws_37 : decode cX11_dayByDraws 37 = .ok (.bipush 29, 2) := by decide +kernel
end
section
theorem dX11_dayByDraws_39 : decode cX11_dayByDraws 39 = .ok (.aload_n 0, 1) := by decide +kernel
theorem dX11_dayByDraws_40 : decode cX11_dayByDraws 40 = .ok (.iconst 3, 1) := by decide +kernel
theorem dX11_dayByDraws_41 : decode cX11_dayByDraws 41 = .ok (.invokevirtual 291, 3) := by decide +kernel
theorem dX11_dayByDraws_44 : decode cX11_dayByDraws 44 = .ok (.iastore, 1) := by decide +kernel
theorem dX11_dayByDraws_45 : decode cX11_dayByDraws 45 = .ok (.goto 41, 3) := by decide +kernel
theorem dX11_dayByDraws_48 : decode cX11_dayByDraws 48 = .ok (.iload_n 1, 1) := by decide +kernel
theorem dX11_dayByDraws_49 : decode cX11_dayByDraws 49 = .ok (.iconst 2, 1) := by decide +kernel
theorem dX11_dayByDraws_50 : decode cX11_dayByDraws 50 = .ok (.if_icmp .ne 36, 3) := by decide +kernel
theorem dX11_dayByDraws_53 : decode cX11_dayByDraws 53 = .ok (.aload_n 0, 1) := by decide +kernel
theorem dX11_dayByDraws_54 : decode cX11_dayByDraws 54 = .ok (.getfield 86, 3) := by decide +kernel
theorem dX11_dayByDraws_57 : decode cX11_dayByDraws 57 = .ok (.ifCond .le 29, 3) := by decide +kernel
theorem dX11_dayByDraws_60 : decode cX11_dayByDraws 60 = .ok (.aload_n 0, 1) := by decide +kernel
theorem dX11_dayByDraws_61 : decode cX11_dayByDraws 61 = .ok (.aload_n 0, 1) := by decide +kernel
theorem dX11_dayByDraws_62 : decode cX11_dayByDraws 62 = .ok (.getfield 86, 3) := by decide +kernel
theorem dX11_dayByDraws_65 : decode cX11_dayByDraws 65 = .ok (.invokevirtual 291, 3) := by decide +kernel
theorem dX11_dayByDraws_68 : decode cX11_dayByDraws 68 = .ok (.istore_n 2, 1) := by decide +kernel
theorem dX11_dayByDraws_69 : decode cX11_dayByDraws 69 = .ok (.aload_n 0, 1) := by decide +kernel
theorem dX11_dayByDraws_70 : decode cX11_dayByDraws 70 = .ok (.getfield 22, 3) := by decide +kernel
theorem dX11_dayByDraws_73 : decode cX11_dayByDraws 73 = .ok (.bipush 25, 2) := by decide +kernel
theorem dX11_dayByDraws_75 : decode cX11_dayByDraws 75 = .ok (.iload_n 2, 1) := by decide +kernel
theorem dX11_dayByDraws_76 : decode cX11_dayByDraws 76 = .ok (.iadd, 1) := by decide +kernel
theorem dX11_dayByDraws_77 : decode cX11_dayByDraws 77 = .ok (.aload_n 0, 1) := by decide +kernel
theorem dX11_dayByDraws_78 : decode cX11_dayByDraws 78 = .ok (.aload_n 0, 1) := by decide +kernel
theorem dX11_dayByDraws_79 : decode cX11_dayByDraws 79 = .ok (.invokevirtual 78, 3) := by decide +kernel
theorem dX11_dayByDraws_82 : decode cX11_dayByDraws 82 = .ok (.invokevirtual 291, 3) := by decide +kernel
theorem dX11_dayByDraws_85 : decode cX11_dayByDraws 85 = .ok (.iastore, 1) := by decide +kernel
theorem dX11_dayByDraws_86 : decode cX11_dayByDraws 86 = .ok (.return_, 1) := by decide +kernel
theorem dX11_drift_0 : decode cX11_drift 0 = .ok (.iload_n 1, 1) := by decide +kernel
theorem dX11_drift_1 : decode cX11_drift 1 = .ok (.i2l, 1) := by decide +kernel
theorem dX11_drift_2 : decode cX11_drift 2 = .ok (.lconst 1, 1) := by decide +kernel
theorem dX11_drift_3 : decode cX11_drift 3 = .ok (.ldc2_w 265, 3) := by decide +kernel
theorem dX11_drift_6 : decode cX11_drift 6 = .ok (.invokestatic 82, 3) := by decide +kernel
theorem dX11_drift_9 : decode cX11_drift 9 = .ok (.ifCond .ne 6, 3) := by decide +kernel
theorem dX11_drift_12 : decode cX11_drift 12 = .ok (.ldc 97, 2) := by decide +kernel
theorem dX11_drift_14 : decode cX11_drift 14 = .ok (.ireturn, 1) := by decide +kernel
theorem dX11_drift_15 : decode cX11_drift 15 = .ok (.aload_n 0, 1) := by decide +kernel
theorem dX11_drift_16 : decode cX11_drift 16 = .ok (.getfield 72, 3) := by decide +kernel
theorem dX11_drift_19 : decode cX11_drift 19 = .ok (.ifCond .ne 7, 3) := by decide +kernel
theorem dX11_drift_22 : decode cX11_drift 22 = .ok (.ldc_w 269, 3) := by decide +kernel
theorem dX11_drift_25 : decode cX11_drift 25 = .ok (.ireturn, 1) := by decide +kernel
theorem dX11_drift_26 : decode cX11_drift 26 = .ok (.aload_n 0, 1) := by decide +kernel
theorem dX11_drift_27 : decode cX11_drift 27 = .ok (.getfield 22, 3) := by decide +kernel
theorem dX11_drift_30 : decode cX11_drift 30 = .ok (.bipush 31, 2) := by decide +kernel
theorem dX11_drift_32 : decode cX11_drift 32 = .ok (.iaload, 1) := by decide +kernel
theorem dX11_drift_33 : decode cX11_drift 33 = .ok (.sipush 9000, 3) := by decide +kernel
theorem dX11_drift_36 : decode cX11_drift 36 = .ok (.if_icmp .le 6, 3) := by decide +kernel
theorem dX11_drift_39 : decode cX11_drift 39 = .ok (.ldc 101, 2) := by decide +kernel
theorem dX11_drift_41 : decode cX11_drift 41 = .ok (.ireturn, 1) := by decide +kernel
theorem dX11_drift_42 : decode cX11_drift 42 = .ok (.aload_n 0, 1) := by decide +kernel
theorem dX11_drift_43 : decode cX11_drift 43 = .ok (.invokevirtual 270, 3) := by decide +kernel
theorem dX11_drift_46 : decode cX11_drift 46 = .ok (.iconst 0, 1) := by decide +kernel
theorem dX11_drift_47 : decode cX11_drift 47 = .ok (.istore_n 2, 1) := by decide +kernel
theorem dX11_drift_48 : decode cX11_drift 48 = .ok (.iload_n 2, 1) := by decide +kernel
theorem dX11_drift_49 : decode cX11_drift 49 = .ok (.iload_n 1, 1) := by decide +kernel
theorem dX11_drift_50 : decode cX11_drift 50 = .ok (.if_icmp .ge 13, 3) := by decide +kernel
theorem dX11_drift_53 : decode cX11_drift 53 = .ok (.aload_n 0, 1) := by decide +kernel
theorem dX11_drift_54 : decode cX11_drift 54 = .ok (.invokevirtual 294, 3) := by decide +kernel
theorem dX11_drift_57 : decode cX11_drift 57 = .ok (.iinc 2 1, 3) := by decide +kernel
theorem dX11_drift_60 : decode cX11_drift 60 = .ok (.goto (-12), 3) := by decide +kernel
theorem dX11_drift_63 : decode cX11_drift 63 = .ok (.aload_n 0, 1) := by decide +kernel
theorem dX11_drift_64 : decode cX11_drift 64 = .ok (.invokevirtual 204, 3) := by decide +kernel
theorem dX11_drift_67 : decode cX11_drift 67 = .ok (.invokestatic 207, 3) := by decide +kernel
theorem dX11_drift_70 : decode cX11_drift 70 = .ok (.ireturn, 1) := by decide +kernel
theorem dX11_undo_0 : decode cX11_undo 0 = .ok (.aload_n 0, 1) := by decide +kernel
theorem dX11_undo_1 : decode cX11_undo 1 = .ok (.getfield 201, 3) := by decide +kernel
theorem dX11_undo_4 : decode cX11_undo 4 = .ok (.ifCond .ne 7, 3) := by decide +kernel
theorem dX11_undo_7 : decode cX11_undo 7 = .ok (.ldc_w 269, 3) := by decide +kernel
theorem dX11_undo_10 : decode cX11_undo 10 = .ok (.ireturn, 1) := by decide +kernel
theorem dX11_undo_11 : decode cX11_undo 11 = .ok (.aload_n 0, 1) := by decide +kernel
theorem dX11_undo_12 : decode cX11_undo 12 = .ok (.dup, 1) := by decide +kernel
theorem dX11_undo_13 : decode cX11_undo 13 = .ok (.getfield 201, 3) := by decide +kernel
theorem dX11_undo_16 : decode cX11_undo 16 = .ok (.iconst 1, 1) := by decide +kernel
theorem dX11_undo_17 : decode cX11_undo 17 = .ok (.isub, 1) := by decide +kernel
theorem dX11_undo_18 : decode cX11_undo 18 = .ok (.putfield 201, 3) := by decide +kernel
theorem dX11_undo_21 : decode cX11_undo 21 = .ok (.iconst 0, 1) := by decide +kernel
theorem dX11_undo_22 : decode cX11_undo 22 = .ok (.istore_n 1, 1) := by decide +kernel
theorem dX11_undo_23 : decode cX11_undo 23 = .ok (.iload_n 1, 1) := by decide +kernel
theorem dX11_undo_24 : decode cX11_undo 24 = .ok (.bipush 34, 2) := by decide +kernel
theorem dX11_undo_26 : decode cX11_undo 26 = .ok (.if_icmp .ge 29, 3) := by decide +kernel
theorem dX11_undo_29 : decode cX11_undo 29 = .ok (.aload_n 0, 1) := by decide +kernel
theorem dX11_undo_30 : decode cX11_undo 30 = .ok (.getfield 22, 3) := by decide +kernel
theorem dX11_undo_33 : decode cX11_undo 33 = .ok (.iload_n 1, 1) := by decide +kernel
theorem dX11_undo_34 : decode cX11_undo 34 = .ok (.aload_n 0, 1) := by decide +kernel
theorem dX11_undo_35 : decode cX11_undo 35 = .ok (.getfield 53, 3) := by decide +kernel
theorem dX11_undo_38 : decode cX11_undo 38 = .ok (.bipush 34, 2) := by decide +kernel
theorem dX11_undo_40 : decode cX11_undo 40 = .ok (.aload_n 0, 1) := by decide +kernel
theorem dX11_undo_41 : decode cX11_undo 41 = .ok (.getfield 201, 3) := by decide +kernel
theorem dX11_undo_44 : decode cX11_undo 44 = .ok (.imul, 1) := by decide +kernel
theorem dX11_undo_45 : decode cX11_undo 45 = .ok (.iload_n 1, 1) := by decide +kernel
theorem dX11_undo_46 : decode cX11_undo 46 = .ok (.iadd, 1) := by decide +kernel
theorem dX11_undo_47 : decode cX11_undo 47 = .ok (.iaload, 1) := by decide +kernel
theorem dX11_undo_48 : decode cX11_undo 48 = .ok (.iastore, 1) := by decide +kernel
theorem dX11_undo_49 : decode cX11_undo 49 = .ok (.iinc 1 1, 3) := by decide +kernel
theorem dX11_undo_52 : decode cX11_undo 52 = .ok (.goto (-29), 3) := by decide +kernel
theorem dX11_undo_55 : decode cX11_undo 55 = .ok (.aload_n 0, 1) := by decide +kernel
theorem dX11_undo_56 : decode cX11_undo 56 = .ok (.getfield 201, 3) := by decide +kernel
theorem dX11_undo_59 : decode cX11_undo 59 = .ok (.ireturn, 1) := by decide +kernel
theorem dX11_shownBy_0 : decode cX11_shownBy 0 = .ok (.aload_n 0, 1) := by decide +kernel
theorem dX11_shownBy_1 : decode cX11_shownBy 1 = .ok (.getfield 22, 3) := by decide +kernel
theorem dX11_shownBy_4 : decode cX11_shownBy 4 = .ok (.aload_n 0, 1) := by decide +kernel
theorem dX11_shownBy_5 : decode cX11_shownBy 5 = .ok (.getfield 56, 3) := by decide +kernel
theorem dX11_shownBy_8 : decode cX11_shownBy 8 = .ok (.bipush 34, 2) := by decide +kernel
theorem dX11_shownBy_10 : decode cX11_shownBy 10 = .ok (.invokestatic 188, 3) := by decide +kernel
theorem dX11_shownBy_13 : decode cX11_shownBy 13 = .ok (.iconst 0, 1) := by decide +kernel
theorem dX11_shownBy_14 : decode cX11_shownBy 14 = .ok (.istore_n 3, 1) := by decide +kernel
theorem dX11_shownBy_15 : decode cX11_shownBy 15 = .ok (.iload_n 3, 1) := by decide +kernel
theorem dX11_shownBy_16 : decode cX11_shownBy 16 = .ok (.iload_n 1, 1) := by decide +kernel
theorem dX11_shownBy_17 : decode cX11_shownBy 17 = .ok (.if_icmp .ge 14, 3) := by decide +kernel
theorem dX11_shownBy_20 : decode cX11_shownBy 20 = .ok (.aload_n 0, 1) := by decide +kernel
theorem dX11_shownBy_21 : decode cX11_shownBy 21 = .ok (.iload_n 2, 1) := by decide +kernel
theorem dX11_shownBy_22 : decode cX11_shownBy 22 = .ok (.invokevirtual 273, 3) := by decide +kernel
theorem dX11_shownBy_25 : decode cX11_shownBy 25 = .ok (.iinc 3 1, 3) := by decide +kernel
theorem dX11_shownBy_28 : decode cX11_shownBy 28 = .ok (.goto (-13), 3) := by decide +kernel
theorem dX11_shownBy_31 : decode cX11_shownBy 31 = .ok (.aload_n 0, 1) := by decide +kernel
theorem dX11_shownBy_32 : decode cX11_shownBy 32 = .ok (.invokevirtual 204, 3) := by decide +kernel
theorem dX11_shownBy_35 : decode cX11_shownBy 35 = .ok (.istore_n 3, 1) := by decide +kernel
theorem dX11_shownBy_36 : decode cX11_shownBy 36 = .ok (.aload_n 0, 1) := by decide +kernel
theorem dX11_shownBy_37 : decode cX11_shownBy 37 = .ok (.getfield 56, 3) := by decide +kernel
theorem dX11_shownBy_40 : decode cX11_shownBy 40 = .ok (.aload_n 0, 1) := by decide +kernel
theorem dX11_shownBy_41 : decode cX11_shownBy 41 = .ok (.getfield 22, 3) := by decide +kernel
theorem dX11_shownBy_44 : decode cX11_shownBy 44 = .ok (.bipush 34, 2) := by decide +kernel
theorem dX11_shownBy_46 : decode cX11_shownBy 46 = .ok (.invokestatic 188, 3) := by decide +kernel
theorem dX11_shownBy_49 : decode cX11_shownBy 49 = .ok (.iload_n 3, 1) := by decide +kernel
theorem dX11_shownBy_50 : decode cX11_shownBy 50 = .ok (.ireturn, 1) := by decide +kernel
theorem dX11_shown_0 : decode cX11_shown 0 = .ok (.iload_n 1, 1) := by decide +kernel
theorem dX11_shown_1 : decode cX11_shown 1 = .ok (.i2l, 1) := by decide +kernel
theorem dX11_shown_2 : decode cX11_shown 2 = .ok (.lconst 0, 1) := by decide +kernel
theorem dX11_shown_3 : decode cX11_shown 3 = .ok (.ldc2_w 265, 3) := by decide +kernel
theorem dX11_shown_6 : decode cX11_shown 6 = .ok (.invokestatic 82, 3) := by decide +kernel
theorem dX11_shown_9 : decode cX11_shown 9 = .ok (.ifCond .eq 15, 3) := by decide +kernel
theorem dX11_shown_12 : decode cX11_shown 12 = .ok (.iload_n 2, 1) := by decide +kernel
theorem dX11_shown_13 : decode cX11_shown 13 = .ok (.i2l, 1) := by decide +kernel
theorem dX11_shown_14 : decode cX11_shown 14 = .ok (.lconst 0, 1) := by decide +kernel
theorem dX11_shown_15 : decode cX11_shown 15 = .ok (.ldc2_w 267, 3) := by decide +kernel
theorem dX11_shown_18 : decode cX11_shown 18 = .ok (.invokestatic 82, 3) := by decide +kernel
theorem dX11_shown_21 : decode cX11_shown 21 = .ok (.ifCond .ne 6, 3) := by decide +kernel
theorem dX11_shown_24 : decode cX11_shown 24 = .ok (.ldc 97, 2) := by decide +kernel
theorem dX11_shown_26 : decode cX11_shown 26 = .ok (.ireturn, 1) := by decide +kernel
theorem dX11_shown_27 : decode cX11_shown 27 = .ok (.aload_n 0, 1) := by decide +kernel
theorem dX11_shown_28 : decode cX11_shown 28 = .ok (.getfield 72, 3) := by decide +kernel
theorem dX11_shown_31 : decode cX11_shown 31 = .ok (.ifCond .ne 9, 3) := by decide +kernel
theorem dX11_shown_34 : decode cX11_shown 34 = .ok (.ldc_w 269, 3) := by decide +kernel
theorem dX11_shown_37 : decode cX11_shown 37 = .ok (.goto 9, 3) := by decide +kernel
theorem dX11_shown_40 : decode cX11_shown 40 = .ok (.aload_n 0, 1) := by decide +kernel
theorem dX11_shown_41 : decode cX11_shown 41 = .ok (.iload_n 1, 1) := by decide +kernel
theorem dX11_shown_42 : decode cX11_shown 42 = .ok (.iload_n 2, 1) := by decide +kernel
theorem dX11_shown_43 : decode cX11_shown 43 = .ok (.invokevirtual 297, 3) := by decide +kernel
theorem dX11_shown_46 : decode cX11_shown 46 = .ok (.ireturn, 1) := by decide +kernel
theorem dX11_first_0 : decode cX11_first 0 = .ok (.iload_n 1, 1) := by decide +kernel
theorem dX11_first_1 : decode cX11_first 1 = .ok (.i2l, 1) := by decide +kernel
theorem dX11_first_2 : decode cX11_first 2 = .ok (.lconst 0, 1) := by decide +kernel
theorem dX11_first_3 : decode cX11_first 3 = .ok (.ldc2_w 300, 3) := by decide +kernel
theorem dX11_first_6 : decode cX11_first 6 = .ok (.invokestatic 82, 3) := by decide +kernel
theorem dX11_first_9 : decode cX11_first 9 = .ok (.ifCond .eq 15, 3) := by decide +kernel
theorem dX11_first_12 : decode cX11_first 12 = .ok (.iload_n 2, 1) := by decide +kernel
theorem dX11_first_13 : decode cX11_first 13 = .ok (.i2l, 1) := by decide +kernel
theorem dX11_first_14 : decode cX11_first 14 = .ok (.lconst 0, 1) := by decide +kernel
theorem dX11_first_15 : decode cX11_first 15 = .ok (.ldc2_w 267, 3) := by decide +kernel
theorem dX11_first_18 : decode cX11_first 18 = .ok (.invokestatic 82, 3) := by decide +kernel
theorem dX11_first_21 : decode cX11_first 21 = .ok (.ifCond .ne 6, 3) := by decide +kernel
theorem dX11_first_24 : decode cX11_first 24 = .ok (.ldc 97, 2) := by decide +kernel
theorem dX11_first_26 : decode cX11_first 26 = .ok (.ireturn, 1) := by decide +kernel
theorem dX11_first_27 : decode cX11_first 27 = .ok (.aload_n 0, 1) := by decide +kernel
theorem dX11_first_28 : decode cX11_first 28 = .ok (.getfield 72, 3) := by decide +kernel
theorem dX11_first_31 : decode cX11_first 31 = .ok (.ifCond .ne 7, 3) := by decide +kernel
theorem dX11_first_34 : decode cX11_first 34 = .ok (.ldc_w 269, 3) := by decide +kernel
theorem dX11_first_37 : decode cX11_first 37 = .ok (.ireturn, 1) := by decide +kernel
theorem dX11_first_38 : decode cX11_first 38 = .ok (.iconst 0, 1) := by decide +kernel
theorem dX11_first_39 : decode cX11_first 39 = .ok (.istore_n 3, 1) := by decide +kernel
theorem dX11_first_40 : decode cX11_first 40 = .ok (.iload_n 3, 1) := by decide +kernel
theorem dX11_first_41 : decode cX11_first 41 = .ok (.bipush 60, 2) := by decide +kernel
theorem dX11_first_43 : decode cX11_first 43 = .ok (.if_icmp .gt 24, 3) := by decide +kernel
theorem dX11_first_46 : decode cX11_first 46 = .ok (.aload_n 0, 1) := by decide +kernel
theorem dX11_first_47 : decode cX11_first 47 = .ok (.iload_n 3, 1) := by decide +kernel
theorem dX11_first_48 : decode cX11_first 48 = .ok (.iload_n 2, 1) := by decide +kernel
theorem dX11_first_49 : decode cX11_first 49 = .ok (.invokevirtual 297, 3) := by decide +kernel
theorem dX11_first_52 : decode cX11_first 52 = .ok (.invokestatic 207, 3) := by decide +kernel
theorem dX11_first_55 : decode cX11_first 55 = .ok (.iload_n 1, 1) := by decide +kernel
theorem dX11_first_56 : decode cX11_first 56 = .ok (.if_icmp .lt 5, 3) := by decide +kernel
theorem dX11_first_59 : decode cX11_first 59 = .ok (.iload_n 3, 1) := by decide +kernel
theorem dX11_first_60 : decode cX11_first 60 = .ok (.ireturn, 1) := by decide +kernel
theorem dX11_first_61 : decode cX11_first 61 = .ok (.iinc 3 1, 3) := by decide +kernel
theorem dX11_first_64 : decode cX11_first 64 = .ok (.goto (-24), 3) := by decide +kernel
theorem dX11_first_67 : decode cX11_first 67 = .ok (.iconst (-1), 1) := by decide +kernel
theorem dX11_first_68 : decode cX11_first 68 = .ok (.ireturn, 1) := by decide +kernel
theorem dX11_leadTo_0 : decode cX11_leadTo 0 = .ok (.aload_n 0, 1) := by decide +kernel
theorem dX11_leadTo_1 : decode cX11_leadTo 1 = .ok (.iload_n 1, 1) := by decide +kernel
theorem dX11_leadTo_2 : decode cX11_leadTo 2 = .ok (.invokevirtual 245, 3) := by decide +kernel
theorem dX11_leadTo_5 : decode cX11_leadTo 5 = .ok (.ifCond .eq 11, 3) := by decide +kernel
theorem dX11_leadTo_8 : decode cX11_leadTo 8 = .ok (.aload_n 0, 1) := by decide +kernel
theorem dX11_leadTo_9 : decode cX11_leadTo 9 = .ok (.iload_n 2, 1) := by decide +kernel
theorem dX11_leadTo_10 : decode cX11_leadTo 10 = .ok (.invokevirtual 251, 3) := by decide +kernel
theorem dX11_leadTo_13 : decode cX11_leadTo 13 = .ok (.ifCond .ne 6, 3) := by decide +kernel
theorem dX11_leadTo_16 : decode cX11_leadTo 16 = .ok (.ldc 244, 2) := by decide +kernel
theorem dX11_leadTo_18 : decode cX11_leadTo 18 = .ok (.ireturn, 1) := by decide +kernel
theorem dX11_leadTo_19 : decode cX11_leadTo 19 = .ok (.iload_n 3, 1) := by decide +kernel
theorem dX11_leadTo_20 : decode cX11_leadTo 20 = .ok (.i2l, 1) := by decide +kernel
theorem dX11_leadTo_21 : decode cX11_leadTo 21 = .ok (.lconst 1, 1) := by decide +kernel
theorem dX11_leadTo_22 : decode cX11_leadTo 22 = .ok (.ldc2_w 302, 3) := by decide +kernel
theorem dX11_leadTo_25 : decode cX11_leadTo 25 = .ok (.invokestatic 82, 3) := by decide +kernel
theorem dX11_leadTo_28 : decode cX11_leadTo 28 = .ok (.ifCond .eq 27, 3) := by decide +kernel
theorem dX11_leadTo_31 : decode cX11_leadTo 31 = .ok (.iload 4, 2) := by decide +kernel
theorem dX11_leadTo_33 : decode cX11_leadTo 33 = .ok (.i2l, 1) := by decide +kernel
theorem dX11_leadTo_34 : decode cX11_leadTo 34 = .ok (.lconst 0, 1) := by decide +kernel
theorem dX11_leadTo_35 : decode cX11_leadTo 35 = .ok (.ldc2_w 267, 3) := by decide +kernel
theorem dX11_leadTo_38 : decode cX11_leadTo 38 = .ok (.invokestatic 82, 3) := by decide +kernel
theorem dX11_leadTo_41 : decode cX11_leadTo 41 = .ok (.ifCond .eq 14, 3) := by decide +kernel
theorem dX11_leadTo_44 : decode cX11_leadTo 44 = .ok (.iload 5, 2) := by decide +kernel
theorem dX11_leadTo_46 : decode cX11_leadTo 46 = .ok (.i2l, 1) := by decide +kernel
theorem dX11_leadTo_47 : decode cX11_leadTo 47 = .ok (.lconst 0, 1) := by decide +kernel
theorem dX11_leadTo_48 : decode cX11_leadTo 48 = .ok (.lconst 1, 1) := by decide +kernel
theorem dX11_leadTo_49 : decode cX11_leadTo 49 = .ok (.invokestatic 82, 3) := by decide +kernel
theorem dX11_leadTo_52 : decode cX11_leadTo 52 = .ok (.ifCond .ne 6, 3) := by decide +kernel
theorem dX11_leadTo_55 : decode cX11_leadTo 55 = .ok (.ldc 97, 2) := by decide +kernel
theorem dX11_leadTo_57 : decode cX11_leadTo 57 = .ok (.ireturn, 1) := by decide +kernel
theorem dX11_leadTo_58 : decode cX11_leadTo 58 = .ok (.aload_n 0, 1) := by decide +kernel
theorem dX11_leadTo_59 : decode cX11_leadTo 59 = .ok (.getfield 22, 3) := by decide +kernel
theorem dX11_leadTo_62 : decode cX11_leadTo 62 = .ok (.bipush 25, 2) := by decide +kernel
theorem dX11_leadTo_64 : decode cX11_leadTo 64 = .ok (.iload_n 1, 1) := by decide +kernel
theorem dX11_leadTo_65 : decode cX11_leadTo 65 = .ok (.iadd, 1) := by decide +kernel
theorem dX11_leadTo_66 : decode cX11_leadTo 66 = .ok (.iaload, 1) := by decide +kernel
theorem dX11_leadTo_67 : decode cX11_leadTo 67 = .ok (.istore 6, 2) := by decide +kernel
theorem dX11_leadTo_69 : decode cX11_leadTo 69 = .ok (.iconst (-1), 1) := by decide +kernel
theorem dX11_leadTo_70 : decode cX11_leadTo 70 = .ok (.istore 7, 2) := by decide +kernel
theorem dX11_leadTo_72 : decode cX11_leadTo 72 = .ok (.iconst (-1), 1) := by decide +kernel
theorem dX11_leadTo_73 : decode cX11_leadTo 73 = .ok (.istore 8, 2) := by decide +kernel
theorem dX11_leadTo_75 : decode cX11_leadTo 75 = .ok (.iconst 0, 1) := by decide +kernel
theorem dX11_leadTo_76 : decode cX11_leadTo 76 = .ok (.istore 9, 2) := by decide +kernel
theorem dX11_leadTo_78 : decode cX11_leadTo 78 = .ok (.iload 9, 2) := by decide +kernel
theorem dX11_leadTo_80 : decode cX11_leadTo 80 = .ok (.aload_n 0, 1) := by decide +kernel
theorem dX11_leadTo_81 : decode cX11_leadTo 81 = .ok (.invokevirtual 78, 3) := by decide +kernel
theorem dX11_leadTo_84 : decode cX11_leadTo 84 = .ok (.if_icmp .ge 76, 3) := by decide +kernel
theorem dX11_leadTo_87 : decode cX11_leadTo 87 = .ok (.aload_n 0, 1) := by decide +kernel
theorem dX11_leadTo_88 : decode cX11_leadTo 88 = .ok (.getfield 22, 3) := by decide +kernel
theorem dX11_leadTo_91 : decode cX11_leadTo 91 = .ok (.bipush 25, 2) := by decide +kernel
theorem dX11_leadTo_93 : decode cX11_leadTo 93 = .ok (.iload_n 1, 1) := by decide +kernel
theorem dX11_leadTo_94 : decode cX11_leadTo 94 = .ok (.iadd, 1) := by decide +kernel
theorem dX11_leadTo_95 : decode cX11_leadTo 95 = .ok (.iload 9, 2) := by decide +kernel
theorem dX11_leadTo_97 : decode cX11_leadTo 97 = .ok (.iastore, 1) := by decide +kernel
theorem dX11_leadTo_98 : decode cX11_leadTo 98 = .ok (.aload_n 0, 1) := by decide +kernel
theorem dX11_leadTo_99 : decode cX11_leadTo 99 = .ok (.invokevirtual 78, 3) := by decide +kernel
theorem dX11_leadTo_102 : decode cX11_leadTo 102 = .ok (.aload_n 0, 1) := by decide +kernel
theorem dX11_leadTo_103 : decode cX11_leadTo 103 = .ok (.iload_n 3, 1) := by decide +kernel
theorem dX11_leadTo_104 : decode cX11_leadTo 104 = .ok (.iload 4, 2) := by decide +kernel
theorem dX11_leadTo_106 : decode cX11_leadTo 106 = .ok (.invokevirtual 297, 3) := by decide +kernel
theorem dX11_leadTo_109 : decode cX11_leadTo 109 = .ok (.aload_n 0, 1) := by decide +kernel
theorem dX11_leadTo_110 : decode cX11_leadTo 110 = .ok (.getfield 19, 3) := by decide +kernel
theorem dX11_leadTo_113 : decode cX11_leadTo 113 = .ok (.iload_n 2, 1) := by decide +kernel
theorem dX11_leadTo_114 : decode cX11_leadTo 114 = .ok (.iaload, 1) := by decide +kernel
theorem dX11_leadTo_115 : decode cX11_leadTo 115 = .ok (.ixor, 1) := by decide +kernel
theorem dX11_leadTo_116 : decode cX11_leadTo 116 = .ok (.invokestatic 207, 3) := by decide +kernel
theorem dX11_leadTo_119 : decode cX11_leadTo 119 = .ok (.isub, 1) := by decide +kernel
theorem dX11_leadTo_120 : decode cX11_leadTo 120 = .ok (.istore 10, 2) := by decide +kernel
theorem dX11_leadTo_122 : decode cX11_leadTo 122 = .ok (.iload 10, 2) := by decide +kernel
theorem dX11_leadTo_124 : decode cX11_leadTo 124 = .ok (.iload 8, 2) := by decide +kernel
theorem dX11_leadTo_126 : decode cX11_leadTo 126 = .ok (.if_icmp .le 8, 3) := by decide +kernel
theorem dX11_leadTo_129 : decode cX11_leadTo 129 = .ok (.iload 9, 2) := by decide +kernel
theorem dX11_leadTo_131 : decode cX11_leadTo 131 = .ok (.goto 5, 3) := by decide +kernel
theorem dX11_leadTo_134 : decode cX11_leadTo 134 = .ok (.iload 7, 2) := by decide +kernel
theorem dX11_leadTo_136 : decode cX11_leadTo 136 = .ok (.istore 7, 2) := by decide +kernel
theorem dX11_leadTo_138 : decode cX11_leadTo 138 = .ok (.iload 10, 2) := by decide +kernel
theorem dX11_leadTo_140 : decode cX11_leadTo 140 = .ok (.iload 8, 2) := by decide +kernel
theorem dX11_leadTo_142 : decode cX11_leadTo 142 = .ok (.if_icmp .le 8, 3) := by decide +kernel
theorem dX11_leadTo_145 : decode cX11_leadTo 145 = .ok (.iload 10, 2) := by decide +kernel
theorem dX11_leadTo_147 : decode cX11_leadTo 147 = .ok (.goto 5, 3) := by decide +kernel
theorem dX11_leadTo_150 : decode cX11_leadTo 150 = .ok (.iload 8, 2) := by decide +kernel
theorem dX11_leadTo_152 : decode cX11_leadTo 152 = .ok (.istore 8, 2) := by decide +kernel
theorem dX11_leadTo_154 : decode cX11_leadTo 154 = .ok (.iinc 9 1, 3) := by decide +kernel
theorem dX11_leadTo_157 : decode cX11_leadTo 157 = .ok (.goto (-79), 3) := by decide +kernel
theorem dX11_leadTo_160 : decode cX11_leadTo 160 = .ok (.aload_n 0, 1) := by decide +kernel
theorem dX11_leadTo_161 : decode cX11_leadTo 161 = .ok (.getfield 22, 3) := by decide +kernel
theorem dX11_leadTo_164 : decode cX11_leadTo 164 = .ok (.bipush 25, 2) := by decide +kernel
theorem dX11_leadTo_166 : decode cX11_leadTo 166 = .ok (.iload_n 1, 1) := by decide +kernel
theorem dX11_leadTo_167 : decode cX11_leadTo 167 = .ok (.iadd, 1) := by decide +kernel
theorem dX11_leadTo_168 : decode cX11_leadTo 168 = .ok (.iload 6, 2) := by decide +kernel
theorem dX11_leadTo_170 : decode cX11_leadTo 170 = .ok (.iastore, 1) := by decide +kernel
theorem dX11_leadTo_171 : decode cX11_leadTo 171 = .ok (.iload 5, 2) := by decide +kernel
theorem dX11_leadTo_173 : decode cX11_leadTo 173 = .ok (.ifCond .ne 8, 3) := by decide +kernel
theorem dX11_leadTo_176 : decode cX11_leadTo 176 = .ok (.iload 7, 2) := by decide +kernel
theorem dX11_leadTo_178 : decode cX11_leadTo 178 = .ok (.goto 5, 3) := by decide +kernel
theorem dX11_leadTo_181 : decode cX11_leadTo 181 = .ok (.iload 8, 2) := by decide +kernel
theorem dX11_leadTo_183 : decode cX11_leadTo 183 = .ok (.ireturn, 1) := by decide +kernel
theorem dX11_shownByLooks_0 : decode cX11_shownByLooks 0 = .ok (.aload_n 0, 1) := by decide +kernel
theorem dX11_shownByLooks_1 : decode cX11_shownByLooks 1 = .ok (.getfield 22, 3) := by decide +kernel
theorem dX11_shownByLooks_4 : decode cX11_shownByLooks 4 = .ok (.aload_n 0, 1) := by decide +kernel
theorem dX11_shownByLooks_5 : decode cX11_shownByLooks 5 = .ok (.getfield 56, 3) := by decide +kernel
theorem dX11_shownByLooks_8 : decode cX11_shownByLooks 8 = .ok (.bipush 34, 2) := by decide +kernel
theorem dX11_shownByLooks_10 : decode cX11_shownByLooks 10 = .ok (.invokestatic 188, 3) := by decide +kernel
theorem dX11_shownByLooks_13 : decode cX11_shownByLooks 13 = .ok (.iconst 0, 1) := by decide +kernel
theorem dX11_shownByLooks_14 : decode cX11_shownByLooks 14 = .ok (.istore 4, 2) := by decide +kernel
theorem dX11_shownByLooks_16 : decode cX11_shownByLooks 16 = .ok (.iload 4, 2) := by decide +kernel
theorem dX11_shownByLooks_18 : decode cX11_shownByLooks 18 = .ok (.iload_n 1, 1) := by decide +kernel
theorem dX11_shownByLooks_19 : decode cX11_shownByLooks 19 = .ok (.if_icmp .ge 27, 3) := by decide +kernel
theorem dX11_shownByLooks_22 : decode cX11_shownByLooks 22 = .ok (.aload_n 0, 1) := by decide +kernel
theorem dX11_shownByLooks_23 : decode cX11_shownByLooks 23 = .ok (.iload_n 2, 1) := by decide +kernel
theorem dX11_shownByLooks_24 : decode cX11_shownByLooks 24 = .ok (.invokevirtual 273, 3) := by decide +kernel
theorem dX11_shownByLooks_27 : decode cX11_shownByLooks 27 = .ok (.iload_n 3, 1) := by decide +kernel
theorem dX11_shownByLooks_28 : decode cX11_shownByLooks 28 = .ok (.iload 4, 2) := by decide +kernel
theorem dX11_shownByLooks_30 : decode cX11_shownByLooks 30 = .ok (.invokestatic 213, 3) := by decide +kernel
theorem dX11_shownByLooks_33 : decode cX11_shownByLooks 33 = .ok (.ifCond .eq 7, 3) := by decide +kernel
theorem dX11_shownByLooks_36 : decode cX11_shownByLooks 36 = .ok (.aload_n 0, 1) := by decide +kernel
theorem dX11_shownByLooks_37 : decode cX11_shownByLooks 37 = .ok (.invokevirtual 276, 3) := by decide +kernel
theorem dX11_shownByLooks_40 : decode cX11_shownByLooks 40 = .ok (.iinc 4 1, 3) := by decide +kernel
theorem dX11_shownByLooks_43 : decode cX11_shownByLooks 43 = .ok (.goto (-27), 3) := by decide +kernel
theorem dX11_shownByLooks_46 : decode cX11_shownByLooks 46 = .ok (.aload_n 0, 1) := by decide +kernel
theorem dX11_shownByLooks_47 : decode cX11_shownByLooks 47 = .ok (.invokevirtual 204, 3) := by decide +kernel
theorem dX11_shownByLooks_50 : decode cX11_shownByLooks 50 = .ok (.invokestatic 207, 3) := by decide +kernel
theorem dX11_shownByLooks_53 : decode cX11_shownByLooks 53 = .ok (.istore 4, 2) := by decide +kernel
theorem dX11_shownByLooks_55 : decode cX11_shownByLooks 55 = .ok (.aload_n 0, 1) := by decide +kernel
theorem dX11_shownByLooks_56 : decode cX11_shownByLooks 56 = .ok (.getfield 56, 3) := by decide +kernel
theorem dX11_shownByLooks_59 : decode cX11_shownByLooks 59 = .ok (.aload_n 0, 1) := by decide +kernel
theorem dX11_shownByLooks_60 : decode cX11_shownByLooks 60 = .ok (.getfield 22, 3) := by decide +kernel
theorem dX11_shownByLooks_63 : decode cX11_shownByLooks 63 = .ok (.bipush 34, 2) := by decide +kernel
theorem dX11_shownByLooks_65 : decode cX11_shownByLooks 65 = .ok (.invokestatic 188, 3) := by decide +kernel
theorem dX11_shownByLooks_68 : decode cX11_shownByLooks 68 = .ok (.iload 4, 2) := by decide +kernel
theorem dX11_shownByLooks_70 : decode cX11_shownByLooks 70 = .ok (.ireturn, 1) := by decide +kernel
theorem dX11_often_0 : decode cX11_often 0 = .ok (.iload_n 1, 1) := by decide +kernel
theorem dX11_often_1 : decode cX11_often 1 = .ok (.i2l, 1) := by decide +kernel
theorem dX11_often_2 : decode cX11_often 2 = .ok (.lconst 1, 1) := by decide +kernel
theorem dX11_often_3 : decode cX11_often 3 = .ok (.ldc2_w 304, 3) := by decide +kernel
theorem dX11_often_6 : decode cX11_often 6 = .ok (.invokestatic 82, 3) := by decide +kernel
theorem dX11_often_9 : decode cX11_often 9 = .ok (.ifCond .eq 38, 3) := by decide +kernel
theorem dX11_often_12 : decode cX11_often 12 = .ok (.iload_n 2, 1) := by decide +kernel
theorem dX11_often_13 : decode cX11_often 13 = .ok (.i2l, 1) := by decide +kernel
theorem dX11_often_14 : decode cX11_often 14 = .ok (.lconst 0, 1) := by decide +kernel
theorem dX11_often_15 : decode cX11_often 15 = .ok (.ldc2_w 267, 3) := by decide +kernel
theorem dX11_often_18 : decode cX11_often 18 = .ok (.invokestatic 82, 3) := by decide +kernel
theorem dX11_often_21 : decode cX11_often 21 = .ok (.ifCond .eq 26, 3) := by decide +kernel
theorem dX11_often_24 : decode cX11_often 24 = .ok (.iload_n 3, 1) := by decide +kernel
theorem dX11_often_25 : decode cX11_often 25 = .ok (.i2l, 1) := by decide +kernel
theorem dX11_often_26 : decode cX11_often 26 = .ok (.lconst 0, 1) := by decide +kernel
theorem dX11_often_27 : decode cX11_often 27 = .ok (.ldc2_w 300, 3) := by decide +kernel
theorem dX11_often_30 : decode cX11_often 30 = .ok (.invokestatic 82, 3) := by decide +kernel
theorem dX11_often_33 : decode cX11_often 33 = .ok (.ifCond .eq 14, 3) := by decide +kernel
theorem dX11_often_36 : decode cX11_often 36 = .ok (.iload 4, 2) := by decide +kernel
theorem dX11_often_38 : decode cX11_often 38 = .ok (.i2l, 1) := by decide +kernel
theorem dX11_often_39 : decode cX11_often 39 = .ok (.lconst 0, 1) := by decide +kernel
theorem dX11_often_40 : decode cX11_often 40 = .ok (.lconst 1, 1) := by decide +kernel
theorem dX11_often_41 : decode cX11_often 41 = .ok (.invokestatic 82, 3) := by decide +kernel
theorem dX11_often_44 : decode cX11_often 44 = .ok (.ifCond .ne 6, 3) := by decide +kernel
theorem dX11_often_47 : decode cX11_often 47 = .ok (.ldc 97, 2) := by decide +kernel
theorem dX11_often_49 : decode cX11_often 49 = .ok (.ireturn, 1) := by decide +kernel
theorem dX11_often_50 : decode cX11_often 50 = .ok (.aload_n 0, 1) := by decide +kernel
theorem dX11_often_51 : decode cX11_often 51 = .ok (.getfield 72, 3) := by decide +kernel
theorem dX11_often_54 : decode cX11_often 54 = .ok (.ifCond .ne 7, 3) := by decide +kernel
theorem dX11_often_57 : decode cX11_often 57 = .ok (.ldc_w 269, 3) := by decide +kernel
theorem dX11_often_60 : decode cX11_often 60 = .ok (.ireturn, 1) := by decide +kernel
theorem dX11_often_61 : decode cX11_often 61 = .ok (.iconst (-1), 1) := by decide +kernel
theorem dX11_often_62 : decode cX11_often 62 = .ok (.istore 5, 2) := by decide +kernel
theorem dX11_often_64 : decode cX11_often 64 = .ok (.iconst 0, 1) := by decide +kernel
theorem dX11_often_65 : decode cX11_often 65 = .ok (.istore 6, 2) := by decide +kernel
theorem dX11_often_67 : decode cX11_often 67 = .ok (.iload 6, 2) := by decide +kernel
theorem dX11_often_69 : decode cX11_often 69 = .ok (.iconst 1, 1) := by decide +kernel
theorem dX11_often_70 : decode cX11_often 70 = .ok (.iload_n 1, 1) := by decide +kernel
theorem dX11_often_71 : decode cX11_often 71 = .ok (.ishl, 1) := by decide +kernel
theorem dX11_often_72 : decode cX11_often 72 = .ok (.if_icmp .ge 60, 3) := by decide +kernel
theorem dX11_often_75 : decode cX11_often 75 = .ok (.iload 5, 2) := by decide +kernel
theorem dX11_often_77 : decode cX11_often 77 = .ok (.ifCond .lt 16, 3) := by decide +kernel
theorem dX11_often_80 : decode cX11_often 80 = .ok (.iload 6, 2) := by decide +kernel
theorem dX11_often_82 : decode cX11_often 82 = .ok (.invokestatic 207, 3) := by decide +kernel
theorem dX11_often_85 : decode cX11_often 85 = .ok (.iload 5, 2) := by decide +kernel
theorem dX11_often_87 : decode cX11_often 87 = .ok (.invokestatic 207, 3) := by decide +kernel
theorem dX11_often_90 : decode cX11_often 90 = .ok (.if_icmp .le 7, 3) := by decide +kernel
theorem dX11_often_93 : decode cX11_often 93 = .ok (.iconst 1, 1) := by decide +kernel
theorem dX11_often_94 : decode cX11_often 94 = .ok (.goto 4, 3) := by decide +kernel
theorem dX11_often_97 : decode cX11_often 97 = .ok (.iconst 0, 1) := by decide +kernel
theorem dX11_often_98 : decode cX11_often 98 = .ok (.istore 7, 2) := by decide +kernel
theorem dX11_often_100 : decode cX11_often 100 = .ok (.iload 7, 2) := by decide +kernel
theorem dX11_often_102 : decode cX11_often 102 = .ok (.ifCond .eq 20, 3) := by decide +kernel
theorem dX11_often_105 : decode cX11_often 105 = .ok (.aload_n 0, 1) := by decide +kernel
theorem dX11_often_106 : decode cX11_often 106 = .ok (.iload_n 1, 1) := by decide +kernel
theorem dX11_often_107 : decode cX11_often 107 = .ok (.iload_n 2, 1) := by decide +kernel
theorem dX11_often_108 : decode cX11_often 108 = .ok (.iload 6, 2) := by decide +kernel
theorem dX11_often_110 : decode cX11_often 110 = .ok (.invokevirtual 306, 3) := by decide +kernel
theorem dX11_often_113 : decode cX11_often 113 = .ok (.iload_n 3, 1) := by decide +kernel
theorem dX11_often_114 : decode cX11_often 114 = .ok (.if_icmp .lt 8, 3) := by decide +kernel
theorem dX11_often_117 : decode cX11_often 117 = .ok (.iload 6, 2) := by decide +kernel
theorem dX11_often_119 : decode cX11_often 119 = .ok (.goto 5, 3) := by decide +kernel
theorem dX11_often_122 : decode cX11_often 122 = .ok (.iload 5, 2) := by decide +kernel
theorem dX11_often_124 : decode cX11_often 124 = .ok (.istore 5, 2) := by decide +kernel
theorem dX11_often_126 : decode cX11_often 126 = .ok (.iinc 6 1, 3) := by decide +kernel
theorem dX11_often_129 : decode cX11_often 129 = .ok (.goto (-62), 3) := by decide +kernel
theorem dX11_often_132 : decode cX11_often 132 = .ok (.iload 5, 2) := by decide +kernel
theorem dX11_often_134 : decode cX11_often 134 = .ok (.ifCond .lt 9, 3) := by decide +kernel
theorem dX11_often_137 : decode cX11_often 137 = .ok (.iload 4, 2) := by decide +kernel
theorem dX11_often_139 : decode cX11_often 139 = .ok (.iconst 1, 1) := by decide +kernel
theorem dX11_often_140 : decode cX11_often 140 = .ok (.if_icmp .ne 8, 3) := by decide +kernel
theorem dX11_often_143 : decode cX11_often 143 = .ok (.iload 5, 2) := by decide +kernel
theorem dX11_often_145 : decode cX11_often 145 = .ok (.goto 8, 3) := by decide +kernel
theorem dX11_often_148 : decode cX11_often 148 = .ok (.iload 5, 2) := by decide +kernel
theorem dX11_often_150 : decode cX11_often 150 = .ok (.invokestatic 207, 3) := by decide +kernel
theorem dX11_often_153 : decode cX11_often 153 = .ok (.ireturn, 1) := by decide +kernel
theorem dX11_wasRain_0 : decode cX11_wasRain 0 = .ok (.iload_n 1, 1) := by decide +kernel
theorem dX11_wasRain_1 : decode cX11_wasRain 1 = .ok (.i2l, 1) := by decide +kernel
theorem dX11_wasRain_2 : decode cX11_wasRain 2 = .ok (.lconst 0, 1) := by decide +kernel
theorem dX11_wasRain_3 : decode cX11_wasRain 3 = .ok (.lconst 1, 1) := by decide +kernel
theorem dX11_wasRain_4 : decode cX11_wasRain 4 = .ok (.aload_n 0, 1) := by decide +kernel
theorem dX11_wasRain_5 : decode cX11_wasRain 5 = .ok (.invokevirtual 78, 3) := by decide +kernel
theorem dX11_wasRain_8 : decode cX11_wasRain 8 = .ok (.lshl, 1) := by decide +kernel
theorem dX11_wasRain_9 : decode cX11_wasRain 9 = .ok (.lconst 1, 1) := by decide +kernel
theorem dX11_wasRain_10 : decode cX11_wasRain 10 = .ok (.lsub, 1) := by decide +kernel
theorem dX11_wasRain_11 : decode cX11_wasRain 11 = .ok (.invokestatic 82, 3) := by decide +kernel
theorem dX11_wasRain_14 : decode cX11_wasRain 14 = .ok (.ifCond .ne 6, 3) := by decide +kernel
theorem dX11_wasRain_17 : decode cX11_wasRain 17 = .ok (.ldc 244, 2) := by decide +kernel
theorem dX11_wasRain_19 : decode cX11_wasRain 19 = .ok (.ireturn, 1) := by decide +kernel
theorem dX11_wasRain_20 : decode cX11_wasRain 20 = .ok (.aload_n 0, 1) := by decide +kernel
theorem dX11_wasRain_21 : decode cX11_wasRain 21 = .ok (.getfield 72, 3) := by decide +kernel
theorem dX11_wasRain_24 : decode cX11_wasRain 24 = .ok (.ifCond .ne 7, 3) := by decide +kernel
theorem dX11_wasRain_27 : decode cX11_wasRain 27 = .ok (.ldc_w 269, 3) := by decide +kernel
theorem dX11_wasRain_30 : decode cX11_wasRain 30 = .ok (.ireturn, 1) := by decide +kernel
theorem dX11_wasRain_31 : decode cX11_wasRain 31 = .ok (.iconst 0, 1) := by decide +kernel
theorem dX11_wasRain_32 : decode cX11_wasRain 32 = .ok (.istore_n 2, 1) := by decide +kernel
theorem dX11_wasRain_33 : decode cX11_wasRain 33 = .ok (.iconst 0, 1) := by decide +kernel
theorem dX11_wasRain_34 : decode cX11_wasRain 34 = .ok (.istore_n 3, 1) := by decide +kernel
theorem dX11_wasRain_35 : decode cX11_wasRain 35 = .ok (.iload_n 3, 1) := by decide +kernel
theorem dX11_wasRain_36 : decode cX11_wasRain 36 = .ok (.bipush 10, 2) := by decide +kernel
theorem dX11_wasRain_38 : decode cX11_wasRain 38 = .ok (.if_icmp .ge 29, 3) := by decide +kernel
theorem dX11_wasRain_41 : decode cX11_wasRain 41 = .ok (.iload_n 2, 1) := by decide +kernel
theorem dX11_wasRain_42 : decode cX11_wasRain 42 = .ok (.aload_n 0, 1) := by decide +kernel
theorem dX11_wasRain_43 : decode cX11_wasRain 43 = .ok (.iconst 1, 1) := by decide +kernel
theorem dX11_wasRain_44 : decode cX11_wasRain 44 = .ok (.iload_n 3, 1) := by decide +kernel
theorem dX11_wasRain_45 : decode cX11_wasRain 45 = .ok (.invokevirtual 297, 3) := by decide +kernel
theorem dX11_wasRain_48 : decode cX11_wasRain 48 = .ok (.iload_n 1, 1) := by decide +kernel
theorem dX11_wasRain_49 : decode cX11_wasRain 49 = .ok (.if_icmp .ne 9, 3) := by decide +kernel
theorem dX11_wasRain_52 : decode cX11_wasRain 52 = .ok (.iconst 1, 1) := by decide +kernel
theorem dX11_wasRain_53 : decode cX11_wasRain 53 = .ok (.iload_n 3, 1) := by decide +kernel
theorem dX11_wasRain_54 : decode cX11_wasRain 54 = .ok (.ishl, 1) := by decide +kernel
theorem dX11_wasRain_55 : decode cX11_wasRain 55 = .ok (.goto 4, 3) := by decide +kernel
theorem dX11_wasRain_58 : decode cX11_wasRain 58 = .ok (.iconst 0, 1) := by decide +kernel
theorem dX11_wasRain_59 : decode cX11_wasRain 59 = .ok (.ior, 1) := by decide +kernel
theorem dX11_wasRain_60 : decode cX11_wasRain 60 = .ok (.istore_n 2, 1) := by decide +kernel
theorem dX11_wasRain_61 : decode cX11_wasRain 61 = .ok (.iinc 3 1, 3) := by decide +kernel
theorem dX11_wasRain_64 : decode cX11_wasRain 64 = .ok (.goto (-29), 3) := by decide +kernel
theorem dX11_wasRain_67 : decode cX11_wasRain 67 = .ok (.iload_n 2, 1) := by decide +kernel
theorem dX11_wasRain_68 : decode cX11_wasRain 68 = .ok (.ireturn, 1) := by decide +kernel
theorem dX11_leftBy_0 : decode cX11_leftBy 0 = .ok (.aload_n 0, 1) := by decide +kernel
theorem dX11_leftBy_1 : decode cX11_leftBy 1 = .ok (.iconst 1, 1) := by decide +kernel
theorem dX11_leftBy_2 : decode cX11_leftBy 2 = .ok (.iload_n 1, 1) := by decide +kernel
theorem dX11_leftBy_3 : decode cX11_leftBy 3 = .ok (.invokevirtual 297, 3) := by decide +kernel
theorem dX11_leftBy_6 : decode cX11_leftBy 6 = .ok (.istore_n 2, 1) := by decide +kernel
theorem dX11_leftBy_7 : decode cX11_leftBy 7 = .ok (.iconst 0, 1) := by decide +kernel
theorem dX11_leftBy_8 : decode cX11_leftBy 8 = .ok (.istore_n 3, 1) := by decide +kernel
theorem dX11_leftBy_9 : decode cX11_leftBy 9 = .ok (.iconst 0, 1) := by decide +kernel
theorem dX11_leftBy_10 : decode cX11_leftBy 10 = .ok (.istore 4, 2) := by decide +kernel
theorem dX11_leftBy_12 : decode cX11_leftBy 12 = .ok (.iload 4, 2) := by decide +kernel
theorem dX11_leftBy_14 : decode cX11_leftBy 14 = .ok (.aload_n 0, 1) := by decide +kernel
theorem dX11_leftBy_15 : decode cX11_leftBy 15 = .ok (.getfield 92, 3) := by decide +kernel
theorem dX11_leftBy_18 : decode cX11_leftBy 18 = .ok (.if_icmp .ge 31, 3) := by decide +kernel
theorem dX11_leftBy_21 : decode cX11_leftBy 21 = .ok (.iload_n 3, 1) := by decide +kernel
theorem dX11_leftBy_22 : decode cX11_leftBy 22 = .ok (.iload_n 2, 1) := by decide +kernel
theorem dX11_leftBy_23 : decode cX11_leftBy 23 = .ok (.aload_n 0, 1) := by decide +kernel
theorem dX11_leftBy_24 : decode cX11_leftBy 24 = .ok (.getfield 19, 3) := by decide +kernel
theorem dX11_leftBy_27 : decode cX11_leftBy 27 = .ok (.iload 4, 2) := by decide +kernel
theorem dX11_leftBy_29 : decode cX11_leftBy 29 = .ok (.iaload, 1) := by decide +kernel
theorem dX11_leftBy_30 : decode cX11_leftBy 30 = .ok (.iconst (-1), 1) := by decide +kernel
theorem dX11_leftBy_31 : decode cX11_leftBy 31 = .ok (.ixor, 1) := by decide +kernel
theorem dX11_leftBy_32 : decode cX11_leftBy 32 = .ok (.iand, 1) := by decide +kernel
theorem dX11_leftBy_33 : decode cX11_leftBy 33 = .ok (.ifCond .ne 7, 3) := by decide +kernel
theorem dX11_leftBy_36 : decode cX11_leftBy 36 = .ok (.iconst 1, 1) := by decide +kernel
theorem dX11_leftBy_37 : decode cX11_leftBy 37 = .ok (.goto 4, 3) := by decide +kernel
theorem dX11_leftBy_40 : decode cX11_leftBy 40 = .ok (.iconst 0, 1) := by decide +kernel
theorem dX11_leftBy_41 : decode cX11_leftBy 41 = .ok (.iadd, 1) := by decide +kernel
theorem dX11_leftBy_42 : decode cX11_leftBy 42 = .ok (.istore_n 3, 1) := by decide +kernel
theorem dX11_leftBy_43 : decode cX11_leftBy 43 = .ok (.iinc 4 1, 3) := by decide +kernel
theorem dX11_leftBy_46 : decode cX11_leftBy 46 = .ok (.goto (-34), 3) := by decide +kernel
theorem dX11_leftBy_49 : decode cX11_leftBy 49 = .ok (.iload_n 3, 1) := by decide +kernel
theorem dX11_leftBy_50 : decode cX11_leftBy 50 = .ok (.ireturn, 1) := by decide +kernel
theorem dX11_rainToTell_0 : decode cX11_rainToTell 0 = .ok (.iload_n 1, 1) := by decide +kernel
theorem dX11_rainToTell_1 : decode cX11_rainToTell 1 = .ok (.i2l, 1) := by decide +kernel
theorem dX11_rainToTell_2 : decode cX11_rainToTell 2 = .ok (.lconst 0, 1) := by decide +kernel
theorem dX11_rainToTell_3 : decode cX11_rainToTell 3 = .ok (.lconst 1, 1) := by decide +kernel
theorem dX11_rainToTell_4 : decode cX11_rainToTell 4 = .ok (.invokestatic 82, 3) := by decide +kernel
theorem dX11_rainToTell_7 : decode cX11_rainToTell 7 = .ok (.ifCond .ne 6, 3) := by decide +kernel
theorem dX11_rainToTell_10 : decode cX11_rainToTell 10 = .ok (.ldc 97, 2) := by decide +kernel
theorem dX11_rainToTell_12 : decode cX11_rainToTell 12 = .ok (.ireturn, 1) := by decide +kernel
theorem dX11_rainToTell_13 : decode cX11_rainToTell 13 = .ok (.aload_n 0, 1) := by decide +kernel
theorem dX11_rainToTell_14 : decode cX11_rainToTell 14 = .ok (.getfield 72, 3) := by decide +kernel
theorem dX11_rainToTell_17 : decode cX11_rainToTell 17 = .ok (.ifCond .ne 7, 3) := by decide +kernel
theorem dX11_rainToTell_20 : decode cX11_rainToTell 20 = .ok (.ldc_w 269, 3) := by decide +kernel
theorem dX11_rainToTell_23 : decode cX11_rainToTell 23 = .ok (.ireturn, 1) := by decide +kernel
theorem dX11_rainToTell_24 : decode cX11_rainToTell 24 = .ok (.iconst 0, 1) := by decide +kernel
theorem dX11_rainToTell_25 : decode cX11_rainToTell 25 = .ok (.istore_n 2, 1) := by decide +kernel
theorem dX11_rainToTell_26 : decode cX11_rainToTell 26 = .ok (.aload_n 0, 1) := by decide +kernel
theorem dX11_rainToTell_27 : decode cX11_rainToTell 27 = .ok (.iconst 0, 1) := by decide +kernel
theorem dX11_rainToTell_28 : decode cX11_rainToTell 28 = .ok (.invokevirtual 310, 3) := by decide +kernel
theorem dX11_rainToTell_31 : decode cX11_rainToTell 31 = .ok (.istore_n 3, 1) := by decide +kernel
theorem dX11_rainToTell_32 : decode cX11_rainToTell 32 = .ok (.iconst 1, 1) := by decide +kernel
theorem dX11_rainToTell_33 : decode cX11_rainToTell 33 = .ok (.istore 4, 2) := by decide +kernel
theorem dX11_rainToTell_35 : decode cX11_rainToTell 35 = .ok (.iload 4, 2) := by decide +kernel
theorem dX11_rainToTell_37 : decode cX11_rainToTell 37 = .ok (.bipush 10, 2) := by decide +kernel
theorem dX11_rainToTell_39 : decode cX11_rainToTell 39 = .ok (.if_icmp .ge 43, 3) := by decide +kernel
theorem dX11_rainToTell_42 : decode cX11_rainToTell 42 = .ok (.aload_n 0, 1) := by decide +kernel
theorem dX11_rainToTell_43 : decode cX11_rainToTell 43 = .ok (.iload 4, 2) := by decide +kernel
theorem dX11_rainToTell_45 : decode cX11_rainToTell 45 = .ok (.invokevirtual 310, 3) := by decide +kernel
theorem dX11_rainToTell_48 : decode cX11_rainToTell 48 = .ok (.istore 5, 2) := by decide +kernel
theorem dX11_rainToTell_50 : decode cX11_rainToTell 50 = .ok (.iload 5, 2) := by decide +kernel
theorem dX11_rainToTell_52 : decode cX11_rainToTell 52 = .ok (.iload_n 3, 1) := by decide +kernel
theorem dX11_rainToTell_53 : decode cX11_rainToTell 53 = .ok (.if_icmp .ge 8, 3) := by decide +kernel
theorem dX11_rainToTell_56 : decode cX11_rainToTell 56 = .ok (.iload 4, 2) := by decide +kernel
theorem dX11_rainToTell_58 : decode cX11_rainToTell 58 = .ok (.goto 4, 3) := by decide +kernel
theorem dX11_rainToTell_61 : decode cX11_rainToTell 61 = .ok (.iload_n 2, 1) := by decide +kernel
theorem dX11_rainToTell_62 : decode cX11_rainToTell 62 = .ok (.istore_n 2, 1) := by decide +kernel
theorem dX11_rainToTell_63 : decode cX11_rainToTell 63 = .ok (.iload 5, 2) := by decide +kernel
theorem dX11_rainToTell_65 : decode cX11_rainToTell 65 = .ok (.iload_n 3, 1) := by decide +kernel
theorem dX11_rainToTell_66 : decode cX11_rainToTell 66 = .ok (.if_icmp .ge 8, 3) := by decide +kernel
theorem dX11_rainToTell_69 : decode cX11_rainToTell 69 = .ok (.iload 5, 2) := by decide +kernel
theorem dX11_rainToTell_71 : decode cX11_rainToTell 71 = .ok (.goto 4, 3) := by decide +kernel
theorem dX11_rainToTell_74 : decode cX11_rainToTell 74 = .ok (.iload_n 3, 1) := by decide +kernel
theorem dX11_rainToTell_75 : decode cX11_rainToTell 75 = .ok (.istore_n 3, 1) := by decide +kernel
theorem dX11_rainToTell_76 : decode cX11_rainToTell 76 = .ok (.iinc 4 1, 3) := by decide +kernel
theorem dX11_rainToTell_79 : decode cX11_rainToTell 79 = .ok (.goto (-44), 3) := by decide +kernel
theorem dX11_rainToTell_82 : decode cX11_rainToTell 82 = .ok (.iload_n 1, 1) := by decide +kernel
theorem dX11_rainToTell_83 : decode cX11_rainToTell 83 = .ok (.ifCond .ne 7, 3) := by decide +kernel
theorem dX11_rainToTell_86 : decode cX11_rainToTell 86 = .ok (.iload_n 2, 1) := by decide +kernel
theorem dX11_rainToTell_87 : decode cX11_rainToTell 87 = .ok (.goto 4, 3) := by decide +kernel
theorem dX11_rainToTell_90 : decode cX11_rainToTell 90 = .ok (.iload_n 3, 1) := by decide +kernel
theorem dX11_rainToTell_91 : decode cX11_rainToTell 91 = .ok (.ireturn, 1) := by decide +kernel
theorem dX11_dryIn_0 : decode cX11_dryIn 0 = .ok (.aload_n 0, 1) := by decide +kernel
theorem dX11_dryIn_1 : decode cX11_dryIn 1 = .ok (.getfield 72, 3) := by decide +kernel
theorem dX11_dryIn_4 : decode cX11_dryIn 4 = .ok (.ifCond .ne 7, 3) := by decide +kernel
theorem dX11_dryIn_7 : decode cX11_dryIn 7 = .ok (.ldc_w 269, 3) := by decide +kernel
theorem dX11_dryIn_10 : decode cX11_dryIn 10 = .ok (.ireturn, 1) := by decide +kernel
theorem dX11_dryIn_11 : decode cX11_dryIn 11 = .ok (.aload_n 0, 1) := by decide +kernel
theorem dX11_dryIn_12 : decode cX11_dryIn 12 = .ok (.getfield 22, 3) := by decide +kernel
theorem dX11_dryIn_15 : decode cX11_dryIn 15 = .ok (.aload_n 0, 1) := by decide +kernel
theorem dX11_dryIn_16 : decode cX11_dryIn 16 = .ok (.getfield 56, 3) := by decide +kernel
theorem dX11_dryIn_19 : decode cX11_dryIn 19 = .ok (.bipush 34, 2) := by decide +kernel
theorem dX11_dryIn_21 : decode cX11_dryIn 21 = .ok (.invokestatic 188, 3) := by decide +kernel
theorem dX11_dryIn_24 : decode cX11_dryIn 24 = .ok (.iconst (-1), 1) := by decide +kernel
theorem dX11_dryIn_25 : decode cX11_dryIn 25 = .ok (.istore_n 1, 1) := by decide +kernel
theorem dX11_dryIn_26 : decode cX11_dryIn 26 = .ok (.iconst 0, 1) := by decide +kernel
theorem dX11_dryIn_27 : decode cX11_dryIn 27 = .ok (.istore_n 2, 1) := by decide +kernel
theorem dX11_dryIn_28 : decode cX11_dryIn 28 = .ok (.iload_n 2, 1) := by decide +kernel
theorem dX11_dryIn_29 : decode cX11_dryIn 29 = .ok (.bipush 60, 2) := by decide +kernel
theorem dX11_dryIn_31 : decode cX11_dryIn 31 = .ok (.if_icmp .gt 31, 3) := by decide +kernel
theorem dX11_dryIn_34 : decode cX11_dryIn 34 = .ok (.iload_n 1, 1) := by decide +kernel
theorem dX11_dryIn_35 : decode cX11_dryIn 35 = .ok (.ifCond .ge 27, 3) := by decide +kernel
theorem dX11_dryIn_38 : decode cX11_dryIn 38 = .ok (.aload_n 0, 1) := by decide +kernel
theorem dX11_dryIn_39 : decode cX11_dryIn 39 = .ok (.invokevirtual 222, 3) := by decide +kernel
theorem dX11_dryIn_42 : decode cX11_dryIn 42 = .ok (.ifCond .ne 7, 3) := by decide +kernel
theorem dX11_dryIn_45 : decode cX11_dryIn 45 = .ok (.iload_n 2, 1) := by decide +kernel
theorem dX11_dryIn_46 : decode cX11_dryIn 46 = .ok (.goto 4, 3) := by decide +kernel
theorem dX11_dryIn_49 : decode cX11_dryIn 49 = .ok (.iconst (-1), 1) := by decide +kernel
theorem dX11_dryIn_50 : decode cX11_dryIn 50 = .ok (.istore_n 1, 1) := by decide +kernel
theorem dX11_dryIn_51 : decode cX11_dryIn 51 = .ok (.aload_n 0, 1) := by decide +kernel
theorem dX11_dryIn_52 : decode cX11_dryIn 52 = .ok (.iconst 0, 1) := by decide +kernel
theorem dX11_dryIn_53 : decode cX11_dryIn 53 = .ok (.invokevirtual 273, 3) := by decide +kernel
theorem dX11_dryIn_56 : decode cX11_dryIn 56 = .ok (.iinc 2 1, 3) := by decide +kernel
theorem dX11_dryIn_59 : decode cX11_dryIn 59 = .ok (.goto (-31), 3) := by decide +kernel
theorem dX11_dryIn_62 : decode cX11_dryIn 62 = .ok (.aload_n 0, 1) := by decide +kernel
theorem dX11_dryIn_63 : decode cX11_dryIn 63 = .ok (.getfield 56, 3) := by decide +kernel
theorem dX11_dryIn_66 : decode cX11_dryIn 66 = .ok (.aload_n 0, 1) := by decide +kernel
theorem dX11_dryIn_67 : decode cX11_dryIn 67 = .ok (.getfield 22, 3) := by decide +kernel
theorem dX11_dryIn_70 : decode cX11_dryIn 70 = .ok (.bipush 34, 2) := by decide +kernel
theorem dX11_dryIn_72 : decode cX11_dryIn 72 = .ok (.invokestatic 188, 3) := by decide +kernel
theorem dX11_dryIn_75 : decode cX11_dryIn 75 = .ok (.iload_n 1, 1) := by decide +kernel
theorem dX11_dryIn_76 : decode cX11_dryIn 76 = .ok (.ireturn, 1) := by decide +kernel
theorem dX11_either_0 : decode cX11_either 0 = .ok (.aload_n 0, 1) := by decide +kernel
theorem dX11_either_1 : decode cX11_either 1 = .ok (.iload_n 1, 1) := by decide +kernel
theorem dX11_either_2 : decode cX11_either 2 = .ok (.invokevirtual 251, 3) := by decide +kernel
theorem dX11_either_5 : decode cX11_either 5 = .ok (.ifCond .eq 11, 3) := by decide +kernel
theorem dX11_either_8 : decode cX11_either 8 = .ok (.aload_n 0, 1) := by decide +kernel
theorem dX11_either_9 : decode cX11_either 9 = .ok (.iload_n 2, 1) := by decide +kernel
theorem dX11_either_10 : decode cX11_either 10 = .ok (.invokevirtual 251, 3) := by decide +kernel
theorem dX11_either_13 : decode cX11_either 13 = .ok (.ifCond .ne 6, 3) := by decide +kernel
theorem dX11_either_16 : decode cX11_either 16 = .ok (.ldc 244, 2) := by decide +kernel
theorem dX11_either_18 : decode cX11_either 18 = .ok (.ireturn, 1) := by decide +kernel
theorem dX11_either_19 : decode cX11_either 19 = .ok (.iload_n 3, 1) := by decide +kernel
theorem dX11_either_20 : decode cX11_either 20 = .ok (.i2l, 1) := by decide +kernel
theorem dX11_either_21 : decode cX11_either 21 = .ok (.lconst 0, 1) := by decide +kernel
theorem dX11_either_22 : decode cX11_either 22 = .ok (.lconst 1, 1) := by decide +kernel
theorem dX11_either_23 : decode cX11_either 23 = .ok (.invokestatic 82, 3) := by decide +kernel
theorem dX11_either_26 : decode cX11_either 26 = .ok (.ifCond .ne 6, 3) := by decide +kernel
theorem dX11_either_29 : decode cX11_either 29 = .ok (.ldc 97, 2) := by decide +kernel
theorem dX11_either_31 : decode cX11_either 31 = .ok (.ireturn, 1) := by decide +kernel
theorem dX11_either_32 : decode cX11_either 32 = .ok (.aload_n 0, 1) := by decide +kernel
theorem dX11_either_33 : decode cX11_either 33 = .ok (.getfield 19, 3) := by decide +kernel
theorem dX11_either_36 : decode cX11_either 36 = .ok (.iload_n 1, 1) := by decide +kernel
theorem dX11_either_37 : decode cX11_either 37 = .ok (.iaload, 1) := by decide +kernel
theorem dX11_either_38 : decode cX11_either 38 = .ok (.aload_n 0, 1) := by decide +kernel
theorem dX11_either_39 : decode cX11_either 39 = .ok (.getfield 19, 3) := by decide +kernel
theorem dX11_either_42 : decode cX11_either 42 = .ok (.iload_n 2, 1) := by decide +kernel
theorem dX11_either_43 : decode cX11_either 43 = .ok (.iaload, 1) := by decide +kernel
theorem dX11_either_44 : decode cX11_either 44 = .ok (.ixor, 1) := by decide +kernel
theorem dX11_either_45 : decode cX11_either 45 = .ok (.istore 4, 2) := by decide +kernel
theorem dX11_either_47 : decode cX11_either 47 = .ok (.iload_n 3, 1) := by decide +kernel
theorem dX11_either_48 : decode cX11_either 48 = .ok (.ifCond .ne 8, 3) := by decide +kernel
theorem dX11_either_51 : decode cX11_either 51 = .ok (.iload 4, 2) := by decide +kernel
theorem dX11_either_53 : decode cX11_either 53 = .ok (.goto 22, 3) := by decide +kernel
theorem dX11_either_56 : decode cX11_either 56 = .ok (.iload 4, 2) := by decide +kernel
theorem dX11_either_58 : decode cX11_either 58 = .ok (.aload_n 0, 1) := by decide +kernel
theorem dX11_either_59 : decode cX11_either 59 = .ok (.invokevirtual 204, 3) := by decide +kernel
theorem dX11_either_62 : decode cX11_either 62 = .ok (.aload_n 0, 1) := by decide +kernel
theorem dX11_either_63 : decode cX11_either 63 = .ok (.getfield 19, 3) := by decide +kernel
theorem dX11_either_66 : decode cX11_either 66 = .ok (.iload_n 1, 1) := by decide +kernel
theorem dX11_either_67 : decode cX11_either 67 = .ok (.iaload, 1) := by decide +kernel
theorem dX11_either_68 : decode cX11_either 68 = .ok (.ixor, 1) := by decide +kernel
theorem dX11_either_69 : decode cX11_either 69 = .ok (.iconst (-1), 1) := by decide +kernel
theorem dX11_either_70 : decode cX11_either 70 = .ok (.ixor, 1) := by decide +kernel
theorem dX11_either_71 : decode cX11_either 71 = .ok (.iand, 1) := by decide +kernel
theorem dX11_either_72 : decode cX11_either 72 = .ok (.invokestatic 207, 3) := by decide +kernel
theorem dX11_either_75 : decode cX11_either 75 = .ok (.ireturn, 1) := by decide +kernel
theorem dX11_rainy_0 : decode cX11_rainy 0 = .ok (.iload_n 1, 1) := by decide +kernel
theorem dX11_rainy_1 : decode cX11_rainy 1 = .ok (.i2l, 1) := by decide +kernel
theorem dX11_rainy_2 : decode cX11_rainy 2 = .ok (.lconst 0, 1) := by decide +kernel
theorem dX11_rainy_3 : decode cX11_rainy 3 = .ok (.ldc2_w 265, 3) := by decide +kernel
theorem dX11_rainy_6 : decode cX11_rainy 6 = .ok (.invokestatic 82, 3) := by decide +kernel
theorem dX11_rainy_9 : decode cX11_rainy 9 = .ok (.ifCond .eq 15, 3) := by decide +kernel
theorem dX11_rainy_12 : decode cX11_rainy 12 = .ok (.iload_n 2, 1) := by decide +kernel
theorem dX11_rainy_13 : decode cX11_rainy 13 = .ok (.i2l, 1) := by decide +kernel
theorem dX11_rainy_14 : decode cX11_rainy 14 = .ok (.lconst 0, 1) := by decide +kernel
theorem dX11_rainy_15 : decode cX11_rainy 15 = .ok (.ldc2_w 313, 3) := by decide +kernel
theorem dX11_rainy_18 : decode cX11_rainy 18 = .ok (.invokestatic 82, 3) := by decide +kernel
theorem dX11_rainy_21 : decode cX11_rainy 21 = .ok (.ifCond .ne 6, 3) := by decide +kernel
theorem dX11_rainy_24 : decode cX11_rainy 24 = .ok (.ldc 97, 2) := by decide +kernel
theorem dX11_rainy_26 : decode cX11_rainy 26 = .ok (.ireturn, 1) := by decide +kernel
theorem dX11_rainy_27 : decode cX11_rainy 27 = .ok (.ldc2_w 315, 3) := by decide +kernel
theorem dX11_rainy_30 : decode cX11_rainy 30 = .ok (.lstore_n 3, 1) := by decide +kernel
theorem dX11_rainy_31 : decode cX11_rainy 31 = .ok (.iconst 0, 1) := by decide +kernel
theorem dX11_rainy_32 : decode cX11_rainy 32 = .ok (.istore 5, 2) := by decide +kernel
theorem dX11_rainy_34 : decode cX11_rainy 34 = .ok (.iload 5, 2) := by decide +kernel
theorem dX11_rainy_36 : decode cX11_rainy 36 = .ok (.iload_n 1, 1) := by decide +kernel
theorem dX11_rainy_37 : decode cX11_rainy 37 = .ok (.if_icmp .ge 18, 3) := by decide +kernel
theorem dX11_rainy_40 : decode cX11_rainy 40 = .ok (.lload_n 3, 1) := by decide +kernel
theorem dX11_rainy_41 : decode cX11_rainy 41 = .ok (.iload_n 2, 1) := by decide +kernel
theorem dX11_rainy_42 : decode cX11_rainy 42 = .ok (.i2l, 1) := by decide +kernel
theorem dX11_rainy_43 : decode cX11_rainy 43 = .ok (.lmul, 1) := by decide +kernel
theorem dX11_rainy_44 : decode cX11_rainy 44 = .ok (.ldc2_w 313, 3) := by decide +kernel
theorem dX11_rainy_47 : decode cX11_rainy 47 = .ok (.ldiv, 1) := by decide +kernel
theorem dX11_rainy_48 : decode cX11_rainy 48 = .ok (.lstore_n 3, 1) := by decide +kernel
theorem dX11_rainy_49 : decode cX11_rainy 49 = .ok (.iinc 5 1, 3) := by decide +kernel
theorem dX11_rainy_52 : decode cX11_rainy 52 = .ok (.goto (-18), 3) := by decide +kernel
theorem dX11_rainy_55 : decode cX11_rainy 55 = .ok (.lload_n 3, 1) := by decide +kernel
theorem dX11_rainy_56 : decode cX11_rainy 56 = .ok (.l2i, 1) := by decide +kernel
theorem dX11_rainy_57 : decode cX11_rainy 57 = .ok (.ireturn, 1) := by decide +kernel
theorem dX11_write_0 : decode cX11_write 0 = .ok (.aload_n 0, 1) := by decide +kernel
theorem dX11_write_1 : decode cX11_write 1 = .ok (.iload_n 1, 1) := by decide +kernel
theorem dX11_write_2 : decode cX11_write 2 = .ok (.invokevirtual 241, 3) := by decide +kernel
theorem dX11_write_5 : decode cX11_write 5 = .ok (.ifCond .ne 6, 3) := by decide +kernel
theorem dX11_write_8 : decode cX11_write 8 = .ok (.ldc 244, 2) := by decide +kernel
theorem dX11_write_10 : decode cX11_write 10 = .ok (.ireturn, 1) := by decide +kernel
theorem dX11_write_11 : decode cX11_write 11 = .ok (.iload_n 2, 1) := by decide +kernel
theorem dX11_write_12 : decode cX11_write 12 = .ok (.i2l, 1) := by decide +kernel
theorem dX11_write_13 : decode cX11_write 13 = .ok (.lconst 0, 1) := by decide +kernel
theorem dX11_write_14 : decode cX11_write 14 = .ok (.ldc2_w 267, 3) := by decide +kernel
theorem dX11_write_17 : decode cX11_write 17 = .ok (.invokestatic 82, 3) := by decide +kernel
theorem dX11_write_20 : decode cX11_write 20 = .ok (.ifCond .ne 6, 3) := by decide +kernel
theorem dX11_write_23 : decode cX11_write 23 = .ok (.ldc 97, 2) := by decide +kernel
theorem dX11_write_25 : decode cX11_write 25 = .ok (.ireturn, 1) := by decide +kernel
theorem dX11_write_26 : decode cX11_write 26 = .ok (.aload_n 0, 1) := by decide +kernel
theorem dX11_write_27 : decode cX11_write 27 = .ok (.getfield 198, 3) := by decide +kernel
theorem dX11_write_30 : decode cX11_write 30 = .ok (.bipush 15, 2) := by decide +kernel
theorem dX11_write_32 : decode cX11_write 32 = .ok (.if_icmp .ne 6, 3) := by decide +kernel
theorem dX11_write_35 : decode cX11_write 35 = .ok (.ldc 101, 2) := by decide +kernel
theorem dX11_write_37 : decode cX11_write 37 = .ok (.ireturn, 1) := by decide +kernel
theorem dX11_write_38 : decode cX11_write 38 = .ok (.aload_n 0, 1) := by decide +kernel
theorem dX11_write_39 : decode cX11_write 39 = .ok (.getfield 59, 3) := by decide +kernel
theorem dX11_write_42 : decode cX11_write 42 = .ok (.aload_n 0, 1) := by decide +kernel
theorem dX11_write_43 : decode cX11_write 43 = .ok (.getfield 198, 3) := by decide +kernel
theorem dX11_write_46 : decode cX11_write 46 = .ok (.iload_n 1, 1) := by decide +kernel
theorem dX11_write_47 : decode cX11_write 47 = .ok (.iastore, 1) := by decide +kernel
theorem dX11_write_48 : decode cX11_write 48 = .ok (.aload_n 0, 1) := by decide +kernel
theorem dX11_write_49 : decode cX11_write 49 = .ok (.getfield 62, 3) := by decide +kernel
theorem dX11_write_52 : decode cX11_write 52 = .ok (.aload_n 0, 1) := by decide +kernel
theorem dX11_write_53 : decode cX11_write 53 = .ok (.getfield 198, 3) := by decide +kernel
theorem dX11_write_56 : decode cX11_write 56 = .ok (.iload_n 2, 1) := by decide +kernel
theorem dX11_write_57 : decode cX11_write 57 = .ok (.iastore, 1) := by decide +kernel
theorem dX11_write_58 : decode cX11_write 58 = .ok (.aload_n 0, 1) := by decide +kernel
theorem dX11_write_59 : decode cX11_write 59 = .ok (.dup, 1) := by decide +kernel
theorem dX11_write_60 : decode cX11_write 60 = .ok (.getfield 198, 3) := by decide +kernel
theorem dX11_write_63 : decode cX11_write 63 = .ok (.iconst 1, 1) := by decide +kernel
theorem dX11_write_64 : decode cX11_write 64 = .ok (.iadd, 1) := by decide +kernel
theorem dX11_write_65 : decode cX11_write 65 = .ok (.putfield 198, 3) := by decide +kernel
theorem dX11_write_68 : decode cX11_write 68 = .ok (.aload_n 0, 1) := by decide +kernel
theorem dX11_write_69 : decode cX11_write 69 = .ok (.getfield 198, 3) := by decide +kernel
theorem dX11_write_72 : decode cX11_write 72 = .ok (.ireturn, 1) := by decide +kernel
theorem dX11_tear_0 : decode cX11_tear 0 = .ok (.aload_n 0, 1) := by decide +kernel
theorem dX11_tear_1 : decode cX11_tear 1 = .ok (.getfield 198, 3) := by decide +kernel
theorem dX11_tear_4 : decode cX11_tear 4 = .ok (.istore_n 1, 1) := by decide +kernel
theorem dX11_tear_5 : decode cX11_tear 5 = .ok (.aload_n 0, 1) := by decide +kernel
theorem dX11_tear_6 : decode cX11_tear 6 = .ok (.iconst 0, 1) := by decide +kernel
theorem dX11_tear_7 : decode cX11_tear 7 = .ok (.putfield 198, 3) := by decide +kernel
theorem dX11_tear_10 : decode cX11_tear 10 = .ok (.iload_n 1, 1) := by decide +kernel
theorem dX11_tear_11 : decode cX11_tear 11 = .ok (.ireturn, 1) := by decide +kernel
theorem dX11_judge_0 : decode cX11_judge 0 = .ok (.iconst 0, 1) := by decide +kernel
theorem dX11_judge_1 : decode cX11_judge 1 = .ok (.istore_n 1, 1) := by decide +kernel
theorem dX11_judge_2 : decode cX11_judge 2 = .ok (.iload_n 1, 1) := by decide +kernel
theorem dX11_judge_3 : decode cX11_judge 3 = .ok (.aload_n 0, 1) := by decide +kernel
theorem dX11_judge_4 : decode cX11_judge 4 = .ok (.getfield 198, 3) := by decide +kernel
theorem dX11_judge_7 : decode cX11_judge 7 = .ok (.if_icmp .ge 31, 3) := by decide +kernel
theorem dX11_judge_10 : decode cX11_judge 10 = .ok (.aload_n 0, 1) := by decide +kernel
theorem dX11_judge_11 : decode cX11_judge 11 = .ok (.getfield 22, 3) := by decide +kernel
theorem dX11_judge_14 : decode cX11_judge 14 = .ok (.aload_n 0, 1) := by decide +kernel
theorem dX11_judge_15 : decode cX11_judge 15 = .ok (.getfield 59, 3) := by decide +kernel
theorem dX11_judge_18 : decode cX11_judge 18 = .ok (.iload_n 1, 1) := by decide +kernel
theorem dX11_judge_19 : decode cX11_judge 19 = .ok (.iaload, 1) := by decide +kernel
theorem dX11_judge_20 : decode cX11_judge 20 = .ok (.iaload, 1) := by decide +kernel
theorem dX11_judge_21 : decode cX11_judge 21 = .ok (.aload_n 0, 1) := by decide +kernel
theorem dX11_judge_22 : decode cX11_judge 22 = .ok (.getfield 62, 3) := by decide +kernel
theorem dX11_judge_25 : decode cX11_judge 25 = .ok (.iload_n 1, 1) := by decide +kernel
theorem dX11_judge_26 : decode cX11_judge 26 = .ok (.iaload, 1) := by decide +kernel
theorem dX11_judge_27 : decode cX11_judge 27 = .ok (.if_icmp .eq 5, 3) := by decide +kernel
theorem dX11_judge_30 : decode cX11_judge 30 = .ok (.iload_n 1, 1) := by decide +kernel
theorem dX11_judge_31 : decode cX11_judge 31 = .ok (.ireturn, 1) := by decide +kernel
theorem dX11_judge_32 : decode cX11_judge 32 = .ok (.iinc 1 1, 3) := by decide +kernel
theorem dX11_judge_35 : decode cX11_judge 35 = .ok (.goto (-33), 3) := by decide +kernel
theorem dX11_judge_38 : decode cX11_judge 38 = .ok (.iconst (-1), 1) := by decide +kernel
theorem dX11_judge_39 : decode cX11_judge 39 = .ok (.ireturn, 1) := by decide +kernel
theorem dX11_seed_0 : decode cX11_seed 0 = .ok (.iload_n 1, 1) := by decide +kernel
theorem dX11_seed_1 : decode cX11_seed 1 = .ok (.ifCond .ge 6, 3) := by decide +kernel
theorem dX11_seed_4 : decode cX11_seed 4 = .ok (.ldc 97, 2) := by decide +kernel
theorem dX11_seed_6 : decode cX11_seed 6 = .ok (.ireturn, 1) := by decide +kernel
theorem dX11_seed_7 : decode cX11_seed 7 = .ok (.aload_n 0, 1) := by decide +kernel
theorem dX11_seed_8 : decode cX11_seed 8 = .ok (.getfield 281, 3) := by decide +kernel
theorem dX11_seed_11 : decode cX11_seed 11 = .ok (.istore_n 2, 1) := by decide +kernel
theorem dX11_seed_12 : decode cX11_seed 12 = .ok (.aload_n 0, 1) := by decide +kernel
theorem dX11_seed_13 : decode cX11_seed 13 = .ok (.iload_n 1, 1) := by decide +kernel
theorem dX11_seed_14 : decode cX11_seed 14 = .ok (.putfield 281, 3) := by decide +kernel
theorem dX11_seed_17 : decode cX11_seed 17 = .ok (.iload_n 2, 1) := by decide +kernel
theorem dX11_seed_18 : decode cX11_seed 18 = .ok (.ireturn, 1) := by decide +kernel
theorem dX11_keep_0 : decode cX11_keep 0 = .ok (.iload_n 1, 1) := by decide +kernel
theorem dX11_keep_1 : decode cX11_keep 1 = .ok (.i2l, 1) := by decide +kernel
theorem dX11_keep_2 : decode cX11_keep 2 = .ok (.lconst 0, 1) := by decide +kernel
theorem dX11_keep_3 : decode cX11_keep 3 = .ok (.lconst 1, 1) := by decide +kernel
theorem dX11_keep_4 : decode cX11_keep 4 = .ok (.invokestatic 82, 3) := by decide +kernel
theorem dX11_keep_7 : decode cX11_keep 7 = .ok (.ifCond .ne 6, 3) := by decide +kernel
theorem dX11_keep_10 : decode cX11_keep 10 = .ok (.ldc 244, 2) := by decide +kernel
theorem dX11_keep_12 : decode cX11_keep 12 = .ok (.ireturn, 1) := by decide +kernel
theorem dX11_keep_13 : decode cX11_keep 13 = .ok (.iconst 0, 1) := by decide +kernel
theorem dX11_keep_14 : decode cX11_keep 14 = .ok (.istore_n 2, 1) := by decide +kernel
theorem dX11_keep_15 : decode cX11_keep 15 = .ok (.iload_n 2, 1) := by decide +kernel
theorem dX11_keep_16 : decode cX11_keep 16 = .ok (.bipush 34, 2) := by decide +kernel
theorem dX11_keep_18 : decode cX11_keep 18 = .ok (.if_icmp .ge 26, 3) := by decide +kernel
theorem dX11_keep_21 : decode cX11_keep 21 = .ok (.aload_n 0, 1) := by decide +kernel
theorem dX11_keep_22 : decode cX11_keep 22 = .ok (.getfield 65, 3) := by decide +kernel
theorem dX11_keep_25 : decode cX11_keep 25 = .ok (.bipush 35, 2) := by decide +kernel
theorem dX11_keep_27 : decode cX11_keep 27 = .ok (.iload_n 1, 1) := by decide +kernel
theorem dX11_keep_28 : decode cX11_keep 28 = .ok (.imul, 1) := by decide +kernel
theorem dX11_keep_29 : decode cX11_keep 29 = .ok (.iload_n 2, 1) := by decide +kernel
theorem dX11_keep_30 : decode cX11_keep 30 = .ok (.iadd, 1) := by decide +kernel
theorem dX11_keep_31 : decode cX11_keep 31 = .ok (.aload_n 0, 1) := by decide +kernel
theorem dX11_keep_32 : decode cX11_keep 32 = .ok (.getfield 22, 3) := by decide +kernel
theorem dX11_keep_35 : decode cX11_keep 35 = .ok (.iload_n 2, 1) := by decide +kernel
theorem dX11_keep_36 : decode cX11_keep 36 = .ok (.iaload, 1) := by decide +kernel
theorem dX11_keep_37 : decode cX11_keep 37 = .ok (.iastore, 1) := by decide +kernel
theorem dX11_keep_38 : decode cX11_keep 38 = .ok (.iinc 2 1, 3) := by decide +kernel
theorem dX11_keep_41 : decode cX11_keep 41 = .ok (.goto (-26), 3) := by decide +kernel
theorem dX11_keep_44 : decode cX11_keep 44 = .ok (.aload_n 0, 1) := by decide +kernel
theorem dX11_keep_45 : decode cX11_keep 45 = .ok (.getfield 65, 3) := by decide +kernel
theorem dX11_keep_48 : decode cX11_keep 48 = .ok (.bipush 35, 2) := by decide +kernel
theorem dX11_keep_50 : decode cX11_keep 50 = .ok (.iload_n 1, 1) := by decide +kernel
theorem dX11_keep_51 : decode cX11_keep 51 = .ok (.imul, 1) := by decide +kernel
theorem dX11_keep_52 : decode cX11_keep 52 = .ok (.bipush 34, 2) := by decide +kernel
theorem dX11_keep_54 : decode cX11_keep 54 = .ok (.iadd, 1) := by decide +kernel
theorem dX11_keep_55 : decode cX11_keep 55 = .ok (.aload_n 0, 1) := by decide +kernel
theorem dX11_keep_56 : decode cX11_keep 56 = .ok (.getfield 281, 3) := by decide +kernel
theorem dX11_keep_59 : decode cX11_keep 59 = .ok (.iastore, 1) := by decide +kernel
theorem dX11_keep_60 : decode cX11_keep 60 = .ok (.aload_n 0, 1) := by decide +kernel
theorem dX11_keep_61 : decode cX11_keep 61 = .ok (.getfield 68, 3) := by decide +kernel
theorem dX11_keep_64 : decode cX11_keep 64 = .ok (.iload_n 1, 1) := by decide +kernel
theorem dX11_keep_65 : decode cX11_keep 65 = .ok (.iconst 1, 1) := by decide +kernel
theorem dX11_keep_66 : decode cX11_keep 66 = .ok (.bastore, 1) := by decide +kernel
theorem dX11_keep_67 : decode cX11_keep 67 = .ok (.aload_n 0, 1) := by decide +kernel
theorem dX11_keep_68 : decode cX11_keep 68 = .ok (.iconst 0, 1) := by decide +kernel
theorem dX11_keep_69 : decode cX11_keep 69 = .ok (.putfield 201, 3) := by decide +kernel
theorem dX11_keep_72 : decode cX11_keep 72 = .ok (.iconst 1, 1) := by decide +kernel
theorem dX11_keep_73 : decode cX11_keep 73 = .ok (.ireturn, 1) := by decide +kernel
theorem dX11_goBack_0 : decode cX11_goBack 0 = .ok (.iload_n 1, 1) := by decide +kernel
theorem dX11_goBack_1 : decode cX11_goBack 1 = .ok (.i2l, 1) := by decide +kernel
theorem dX11_goBack_2 : decode cX11_goBack 2 = .ok (.lconst 0, 1) := by decide +kernel
theorem dX11_goBack_3 : decode cX11_goBack 3 = .ok (.lconst 1, 1) := by decide +kernel
theorem dX11_goBack_4 : decode cX11_goBack 4 = .ok (.invokestatic 82, 3) := by decide +kernel
theorem dX11_goBack_7 : decode cX11_goBack 7 = .ok (.ifCond .ne 6, 3) := by decide +kernel
theorem dX11_goBack_10 : decode cX11_goBack 10 = .ok (.ldc 244, 2) := by decide +kernel
theorem dX11_goBack_12 : decode cX11_goBack 12 = .ok (.ireturn, 1) := by decide +kernel
theorem dX11_goBack_13 : decode cX11_goBack 13 = .ok (.aload_n 0, 1) := by decide +kernel
theorem dX11_goBack_14 : decode cX11_goBack 14 = .ok (.getfield 68, 3) := by decide +kernel
theorem dX11_goBack_17 : decode cX11_goBack 17 = .ok (.iload_n 1, 1) := by decide +kernel
theorem dX11_goBack_18 : decode cX11_goBack 18 = .ok (.baload, 1) := by decide +kernel
theorem dX11_goBack_19 : decode cX11_goBack 19 = .ok (.ifCond .ne 7, 3) := by decide +kernel
theorem dX11_goBack_22 : decode cX11_goBack 22 = .ok (.ldc_w 269, 3) := by decide +kernel
theorem dX11_goBack_25 : decode cX11_goBack 25 = .ok (.ireturn, 1) := by decide +kernel
theorem dX11_goBack_26 : decode cX11_goBack 26 = .ok (.iconst 0, 1) := by decide +kernel
theorem dX11_goBack_27 : decode cX11_goBack 27 = .ok (.istore_n 2, 1) := by decide +kernel
theorem dX11_goBack_28 : decode cX11_goBack 28 = .ok (.iload_n 2, 1) := by decide +kernel
theorem dX11_goBack_29 : decode cX11_goBack 29 = .ok (.bipush 34, 2) := by decide +kernel
theorem dX11_goBack_31 : decode cX11_goBack 31 = .ok (.if_icmp .ge 26, 3) := by decide +kernel
theorem dX11_goBack_34 : decode cX11_goBack 34 = .ok (.aload_n 0, 1) := by decide +kernel
theorem dX11_goBack_35 : decode cX11_goBack 35 = .ok (.getfield 22, 3) := by decide +kernel
theorem dX11_goBack_38 : decode cX11_goBack 38 = .ok (.iload_n 2, 1) := by decide +kernel
theorem dX11_goBack_39 : decode cX11_goBack 39 = .ok (.aload_n 0, 1) := by decide +kernel
theorem dX11_goBack_40 : decode cX11_goBack 40 = .ok (.getfield 65, 3) := by decide +kernel
theorem dX11_goBack_43 : decode cX11_goBack 43 = .ok (.bipush 35, 2) := by decide +kernel
theorem dX11_goBack_45 : decode cX11_goBack 45 = .ok (.iload_n 1, 1) := by decide +kernel
theorem dX11_goBack_46 : decode cX11_goBack 46 = .ok (.imul, 1) := by decide +kernel
theorem dX11_goBack_47 : decode cX11_goBack 47 = .ok (.iload_n 2, 1) := by decide +kernel
theorem dX11_goBack_48 : decode cX11_goBack 48 = .ok (.iadd, 1) := by decide +kernel
theorem dX11_goBack_49 : decode cX11_goBack 49 = .ok (.iaload, 1) := by decide +kernel
theorem dX11_goBack_50 : decode cX11_goBack 50 = .ok (.iastore, 1) := by decide +kernel
theorem dX11_goBack_51 : decode cX11_goBack 51 = .ok (.iinc 2 1, 3) := by decide +kernel
theorem dX11_goBack_54 : decode cX11_goBack 54 = .ok (.goto (-26), 3) := by decide +kernel
theorem dX11_goBack_57 : decode cX11_goBack 57 = .ok (.aload_n 0, 1) := by decide +kernel
theorem dX11_goBack_58 : decode cX11_goBack 58 = .ok (.aload_n 0, 1) := by decide +kernel
theorem dX11_goBack_59 : decode cX11_goBack 59 = .ok (.getfield 65, 3) := by decide +kernel
theorem dX11_goBack_62 : decode cX11_goBack 62 = .ok (.bipush 35, 2) := by decide +kernel
theorem dX11_goBack_64 : decode cX11_goBack 64 = .ok (.iload_n 1, 1) := by decide +kernel
theorem dX11_goBack_65 : decode cX11_goBack 65 = .ok (.imul, 1) := by decide +kernel
theorem dX11_goBack_66 : decode cX11_goBack 66 = .ok (.bipush 34, 2) := by decide +kernel
theorem dX11_goBack_68 : decode cX11_goBack 68 = .ok (.iadd, 1) := by decide +kernel
theorem dX11_goBack_69 : decode cX11_goBack 69 = .ok (.iaload, 1) := by decide +kernel
theorem dX11_goBack_70 : decode cX11_goBack 70 = .ok (.putfield 281, 3) := by decide +kernel
theorem dX11_goBack_73 : decode cX11_goBack 73 = .ok (.aload_n 0, 1) := by decide +kernel
theorem dX11_goBack_74 : decode cX11_goBack 74 = .ok (.iconst 0, 1) := by decide +kernel
theorem dX11_goBack_75 : decode cX11_goBack 75 = .ok (.putfield 201, 3) := by decide +kernel
theorem dX11_goBack_78 : decode cX11_goBack 78 = .ok (.iconst 1, 1) := by decide +kernel
theorem dX11_goBack_79 : decode cX11_goBack 79 = .ok (.ireturn, 1) := by decide +kernel
theorem dJ6_bitCount_0f7a4_0 : decode cJ6_bitCount_0f7a4 0 = .ok (.iload_n 0, 1) := by decide +kernel
theorem dJ6_bitCount_0f7a4_1 : decode cJ6_bitCount_0f7a4 1 = .ok (.iload_n 0, 1) := by decide +kernel
theorem dJ6_bitCount_0f7a4_2 : decode cJ6_bitCount_0f7a4 2 = .ok (.iconst 1, 1) := by decide +kernel
theorem dJ6_bitCount_0f7a4_3 : decode cJ6_bitCount_0f7a4 3 = .ok (.iushr, 1) := by decide +kernel
theorem dJ6_bitCount_0f7a4_4 : decode cJ6_bitCount_0f7a4 4 = .ok (.ldc_w 265, 3) := by decide +kernel
theorem dJ6_bitCount_0f7a4_7 : decode cJ6_bitCount_0f7a4 7 = .ok (.iand, 1) := by decide +kernel
theorem dJ6_bitCount_0f7a4_8 : decode cJ6_bitCount_0f7a4 8 = .ok (.isub, 1) := by decide +kernel
theorem dJ6_bitCount_0f7a4_9 : decode cJ6_bitCount_0f7a4 9 = .ok (.istore_n 0, 1) := by decide +kernel
theorem dJ6_bitCount_0f7a4_10 : decode cJ6_bitCount_0f7a4 10 = .ok (.iload_n 0, 1) := by decide +kernel
theorem dJ6_bitCount_0f7a4_11 : decode cJ6_bitCount_0f7a4 11 = .ok (.ldc_w 266, 3) := by decide +kernel
theorem dJ6_bitCount_0f7a4_14 : decode cJ6_bitCount_0f7a4 14 = .ok (.iand, 1) := by decide +kernel
theorem dJ6_bitCount_0f7a4_15 : decode cJ6_bitCount_0f7a4 15 = .ok (.iload_n 0, 1) := by decide +kernel
theorem dJ6_bitCount_0f7a4_16 : decode cJ6_bitCount_0f7a4 16 = .ok (.iconst 2, 1) := by decide +kernel
theorem dJ6_bitCount_0f7a4_17 : decode cJ6_bitCount_0f7a4 17 = .ok (.iushr, 1) := by decide +kernel
theorem dJ6_bitCount_0f7a4_18 : decode cJ6_bitCount_0f7a4 18 = .ok (.ldc_w 266, 3) := by decide +kernel
theorem dJ6_bitCount_0f7a4_21 : decode cJ6_bitCount_0f7a4 21 = .ok (.iand, 1) := by decide +kernel
theorem dJ6_bitCount_0f7a4_22 : decode cJ6_bitCount_0f7a4 22 = .ok (.iadd, 1) := by decide +kernel
theorem dJ6_bitCount_0f7a4_23 : decode cJ6_bitCount_0f7a4 23 = .ok (.istore_n 0, 1) := by decide +kernel
theorem dJ6_bitCount_0f7a4_24 : decode cJ6_bitCount_0f7a4 24 = .ok (.iload_n 0, 1) := by decide +kernel
theorem dJ6_bitCount_0f7a4_25 : decode cJ6_bitCount_0f7a4 25 = .ok (.iload_n 0, 1) := by decide +kernel
theorem dJ6_bitCount_0f7a4_26 : decode cJ6_bitCount_0f7a4 26 = .ok (.iconst 4, 1) := by decide +kernel
theorem dJ6_bitCount_0f7a4_27 : decode cJ6_bitCount_0f7a4 27 = .ok (.iushr, 1) := by decide +kernel
theorem dJ6_bitCount_0f7a4_28 : decode cJ6_bitCount_0f7a4 28 = .ok (.iadd, 1) := by decide +kernel
theorem dJ6_bitCount_0f7a4_29 : decode cJ6_bitCount_0f7a4 29 = .ok (.ldc_w 267, 3) := by decide +kernel
theorem dJ6_bitCount_0f7a4_32 : decode cJ6_bitCount_0f7a4 32 = .ok (.iand, 1) := by decide +kernel
theorem dJ6_bitCount_0f7a4_33 : decode cJ6_bitCount_0f7a4 33 = .ok (.istore_n 0, 1) := by decide +kernel
theorem dJ6_bitCount_0f7a4_34 : decode cJ6_bitCount_0f7a4 34 = .ok (.iload_n 0, 1) := by decide +kernel
theorem dJ6_bitCount_0f7a4_35 : decode cJ6_bitCount_0f7a4 35 = .ok (.iload_n 0, 1) := by decide +kernel
theorem dJ6_bitCount_0f7a4_36 : decode cJ6_bitCount_0f7a4 36 = .ok (.bipush 8, 2) := by decide +kernel
theorem dJ6_bitCount_0f7a4_38 : decode cJ6_bitCount_0f7a4 38 = .ok (.iushr, 1) := by decide +kernel
theorem dJ6_bitCount_0f7a4_39 : decode cJ6_bitCount_0f7a4 39 = .ok (.iadd, 1) := by decide +kernel
theorem dJ6_bitCount_0f7a4_40 : decode cJ6_bitCount_0f7a4 40 = .ok (.istore_n 0, 1) := by decide +kernel
theorem dJ6_bitCount_0f7a4_41 : decode cJ6_bitCount_0f7a4 41 = .ok (.iload_n 0, 1) := by decide +kernel
theorem dJ6_bitCount_0f7a4_42 : decode cJ6_bitCount_0f7a4 42 = .ok (.iload_n 0, 1) := by decide +kernel
theorem dJ6_bitCount_0f7a4_43 : decode cJ6_bitCount_0f7a4 43 = .ok (.bipush 16, 2) := by decide +kernel
theorem dJ6_bitCount_0f7a4_45 : decode cJ6_bitCount_0f7a4 45 = .ok (.iushr, 1) := by decide +kernel
theorem dJ6_bitCount_0f7a4_46 : decode cJ6_bitCount_0f7a4 46 = .ok (.iadd, 1) := by decide +kernel
theorem dJ6_bitCount_0f7a4_47 : decode cJ6_bitCount_0f7a4 47 = .ok (.istore_n 0, 1) := by decide +kernel
theorem dJ6_bitCount_0f7a4_48 : decode cJ6_bitCount_0f7a4 48 = .ok (.iload_n 0, 1) := by decide +kernel
theorem dJ6_bitCount_0f7a4_49 : decode cJ6_bitCount_0f7a4 49 = .ok (.bipush 63, 2) := by decide +kernel
theorem dJ6_bitCount_0f7a4_51 : decode cJ6_bitCount_0f7a4 51 = .ok (.iand, 1) := by decide +kernel
theorem dJ6_bitCount_0f7a4_52 : decode cJ6_bitCount_0f7a4 52 = .ok (.ireturn, 1) := by decide +kernel
theorem dJ9_max_7cf53_0 : decode cJ9_max_7cf53 0 = .ok (.iload_n 0, 1) := by decide +kernel
theorem dJ9_max_7cf53_1 : decode cJ9_max_7cf53 1 = .ok (.iload_n 1, 1) := by decide +kernel
theorem dJ9_max_7cf53_2 : decode cJ9_max_7cf53 2 = .ok (.if_icmp .lt 7, 3) := by decide +kernel
theorem dJ9_max_7cf53_5 : decode cJ9_max_7cf53 5 = .ok (.iload_n 0, 1) := by decide +kernel
theorem dJ9_max_7cf53_6 : decode cJ9_max_7cf53 6 = .ok (.goto 4, 3) := by decide +kernel
theorem dJ9_max_7cf53_9 : decode cJ9_max_7cf53 9 = .ok (.iload_n 1, 1) := by decide +kernel
theorem dJ9_max_7cf53_10 : decode cJ9_max_7cf53 10 = .ok (.ireturn, 1) := by decide +kernel
theorem dJ9_min_7cf53_0 : decode cJ9_min_7cf53 0 = .ok (.iload_n 0, 1) := by decide +kernel
theorem dJ9_min_7cf53_1 : decode cJ9_min_7cf53 1 = .ok (.iload_n 1, 1) := by decide +kernel
theorem dJ9_min_7cf53_2 : decode cJ9_min_7cf53 2 = .ok (.if_icmp .gt 7, 3) := by decide +kernel
theorem dJ9_min_7cf53_5 : decode cJ9_min_7cf53 5 = .ok (.iload_n 0, 1) := by decide +kernel
theorem dJ9_min_7cf53_6 : decode cJ9_min_7cf53 6 = .ok (.goto 4, 3) := by decide +kernel
theorem dJ9_min_7cf53_9 : decode cJ9_min_7cf53 9 = .ok (.iload_n 1, 1) := by decide +kernel
theorem dJ9_min_7cf53_10 : decode cJ9_min_7cf53 10 = .ok (.ireturn, 1) := by decide +kernel
theorem dL_law_0 : decode cL_law 0 = .ok (.new 7, 3) := by decide +kernel
theorem dL_law_3 : decode cL_law 3 = .ok (.dup, 1) := by decide +kernel
theorem dL_law_4 : decode cL_law 4 = .ok (.invokespecial 9, 3) := by decide +kernel
theorem dL_law_7 : decode cL_law 7 = .ok (.astore_n 1, 1) := by decide +kernel
theorem dL_law_8 : decode cL_law 8 = .ok (.new 10, 3) := by decide +kernel
theorem dL_law_11 : decode cL_law 11 = .ok (.dup, 1) := by decide +kernel
theorem dL_law_12 : decode cL_law 12 = .ok (.invokespecial 12, 3) := by decide +kernel
theorem dL_law_15 : decode cL_law 15 = .ok (.astore_n 2, 1) := by decide +kernel
theorem dL_law_16 : decode cL_law 16 = .ok (.iconst 0, 1) := by decide +kernel
theorem dL_law_17 : decode cL_law 17 = .ok (.istore_n 3, 1) := by decide +kernel
theorem dL_law_18 : decode cL_law 18 = .ok (.iload_n 3, 1) := by decide +kernel
theorem dL_law_19 : decode cL_law 19 = .ok (.aload_n 0, 1) := by decide +kernel
theorem dL_law_20 : decode cL_law 20 = .ok (.arraylength, 1) := by decide +kernel
theorem dL_law_21 : decode cL_law 21 = .ok (.bipush 6, 2) := by decide +kernel
theorem dL_law_23 : decode cL_law 23 = .ok (.isub, 1) := by decide +kernel
theorem dL_law_24 : decode cL_law 24 = .ok (.if_icmp .gt 993, 3) := by decide +kernel
theorem dL_law_27 : decode cL_law 27 = .ok (.aload_n 0, 1) := by decide +kernel
theorem dL_law_28 : decode cL_law 28 = .ok (.iload_n 3, 1) := by decide +kernel
theorem dL_law_29 : decode cL_law 29 = .ok (.iaload, 1) := by decide +kernel
theorem dL_law_30 : decode cL_law 30 = .ok (.bipush 31, 2) := by decide +kernel
theorem dL_law_32 : decode cL_law 32 = .ok (.iand, 1) := by decide +kernel
theorem dL_law_33 : decode cL_law 33 = .ok (.tableswitch 978 0 30 #[139, 162, 175, 188, 211, 234, 257, 290, 323, 356, 369, 392, 425, 448, 497, 520, 533, 566, 599, 662, 715, 738, 761, 774, 817, 850, 883, 896, 909, 932, 955], 139) := by decide +kernel
theorem dL_law_172 : decode cL_law 172 = .ok (.aload_n 1, 1) := by decide +kernel
theorem dL_law_173 : decode cL_law 173 = .ok (.aload_n 0, 1) := by decide +kernel
theorem dL_law_174 : decode cL_law 174 = .ok (.iload_n 3, 1) := by decide +kernel
theorem dL_law_175 : decode cL_law 175 = .ok (.iconst 1, 1) := by decide +kernel
theorem dL_law_176 : decode cL_law 176 = .ok (.iadd, 1) := by decide +kernel
theorem dL_law_177 : decode cL_law 177 = .ok (.iaload, 1) := by decide +kernel
theorem dL_law_178 : decode cL_law 178 = .ok (.invokevirtual 13, 3) := by decide +kernel
theorem dL_law_181 : decode cL_law 181 = .ok (.aload_n 2, 1) := by decide +kernel
theorem dL_law_182 : decode cL_law 182 = .ok (.aload_n 0, 1) := by decide +kernel
theorem dL_law_183 : decode cL_law 183 = .ok (.iload_n 3, 1) := by decide +kernel
theorem dL_law_184 : decode cL_law 184 = .ok (.iconst 1, 1) := by decide +kernel
theorem dL_law_185 : decode cL_law 185 = .ok (.iadd, 1) := by decide +kernel
theorem dL_law_186 : decode cL_law 186 = .ok (.iaload, 1) := by decide +kernel
theorem dL_law_187 : decode cL_law 187 = .ok (.invokevirtual 17, 3) := by decide +kernel
theorem dL_law_190 : decode cL_law 190 = .ok (.if_icmp .eq 821, 3) := by decide +kernel
theorem dL_law_193 : decode cL_law 193 = .ok (.iconst 0, 1) := by decide +kernel
theorem dL_law_194 : decode cL_law 194 = .ok (.ireturn, 1) := by decide +kernel
theorem dL_law_195 : decode cL_law 195 = .ok (.aload_n 1, 1) := by decide +kernel
theorem dL_law_196 : decode cL_law 196 = .ok (.invokevirtual 18, 3) := by decide +kernel
theorem dL_law_199 : decode cL_law 199 = .ok (.aload_n 2, 1) := by decide +kernel
theorem dL_law_200 : decode cL_law 200 = .ok (.invokevirtual 22, 3) := by decide +kernel
theorem dL_law_203 : decode cL_law 203 = .ok (.if_icmp .eq 808, 3) := by decide +kernel
theorem dL_law_206 : decode cL_law 206 = .ok (.iconst 0, 1) := by decide +kernel
theorem dL_law_207 : decode cL_law 207 = .ok (.ireturn, 1) := by decide +kernel
theorem dL_law_208 : decode cL_law 208 = .ok (.aload_n 1, 1) := by decide +kernel
theorem dL_law_209 : decode cL_law 209 = .ok (.invokevirtual 23, 3) := by decide +kernel
theorem dL_law_212 : decode cL_law 212 = .ok (.aload_n 2, 1) := by decide +kernel
theorem dL_law_213 : decode cL_law 213 = .ok (.invokevirtual 26, 3) := by decide +kernel
theorem dL_law_216 : decode cL_law 216 = .ok (.if_icmp .eq 795, 3) := by decide +kernel
theorem dL_law_219 : decode cL_law 219 = .ok (.iconst 0, 1) := by decide +kernel
theorem dL_law_220 : decode cL_law 220 = .ok (.ireturn, 1) := by decide +kernel
theorem dL_law_221 : decode cL_law 221 = .ok (.aload_n 1, 1) := by decide +kernel
theorem dL_law_222 : decode cL_law 222 = .ok (.aload_n 0, 1) := by decide +kernel
theorem dL_law_223 : decode cL_law 223 = .ok (.iload_n 3, 1) := by decide +kernel
theorem dL_law_224 : decode cL_law 224 = .ok (.iconst 1, 1) := by decide +kernel
theorem dL_law_225 : decode cL_law 225 = .ok (.iadd, 1) := by decide +kernel
theorem dL_law_226 : decode cL_law 226 = .ok (.iaload, 1) := by decide +kernel
theorem dL_law_227 : decode cL_law 227 = .ok (.invokevirtual 27, 3) := by decide +kernel
theorem dL_law_230 : decode cL_law 230 = .ok (.aload_n 2, 1) := by decide +kernel
theorem dL_law_231 : decode cL_law 231 = .ok (.aload_n 0, 1) := by decide +kernel
theorem dL_law_232 : decode cL_law 232 = .ok (.iload_n 3, 1) := by decide +kernel
theorem dL_law_233 : decode cL_law 233 = .ok (.iconst 1, 1) := by decide +kernel
theorem dL_law_234 : decode cL_law 234 = .ok (.iadd, 1) := by decide +kernel
theorem dL_law_235 : decode cL_law 235 = .ok (.iaload, 1) := by decide +kernel
theorem dL_law_236 : decode cL_law 236 = .ok (.invokevirtual 30, 3) := by decide +kernel
theorem dL_law_239 : decode cL_law 239 = .ok (.if_icmp .eq 772, 3) := by decide +kernel
theorem dL_law_242 : decode cL_law 242 = .ok (.iconst 0, 1) := by decide +kernel
theorem dL_law_243 : decode cL_law 243 = .ok (.ireturn, 1) := by decide +kernel
theorem dL_law_244 : decode cL_law 244 = .ok (.aload_n 1, 1) := by decide +kernel
theorem dL_law_245 : decode cL_law 245 = .ok (.aload_n 0, 1) := by decide +kernel
theorem dL_law_246 : decode cL_law 246 = .ok (.iload_n 3, 1) := by decide +kernel
theorem dL_law_247 : decode cL_law 247 = .ok (.iconst 1, 1) := by decide +kernel
theorem dL_law_248 : decode cL_law 248 = .ok (.iadd, 1) := by decide +kernel
theorem dL_law_249 : decode cL_law 249 = .ok (.iaload, 1) := by decide +kernel
theorem dL_law_250 : decode cL_law 250 = .ok (.invokevirtual 31, 3) := by decide +kernel
theorem dL_law_253 : decode cL_law 253 = .ok (.aload_n 2, 1) := by decide +kernel
theorem dL_law_254 : decode cL_law 254 = .ok (.aload_n 0, 1) := by decide +kernel
theorem dL_law_255 : decode cL_law 255 = .ok (.iload_n 3, 1) := by decide +kernel
theorem dL_law_256 : decode cL_law 256 = .ok (.iconst 1, 1) := by decide +kernel
theorem dL_law_257 : decode cL_law 257 = .ok (.iadd, 1) := by decide +kernel
theorem dL_law_258 : decode cL_law 258 = .ok (.iaload, 1) := by decide +kernel
theorem dL_law_259 : decode cL_law 259 = .ok (.invokevirtual 34, 3) := by decide +kernel
theorem dL_law_262 : decode cL_law 262 = .ok (.if_icmp .eq 749, 3) := by decide +kernel
theorem dL_law_265 : decode cL_law 265 = .ok (.iconst 0, 1) := by decide +kernel
theorem dL_law_266 : decode cL_law 266 = .ok (.ireturn, 1) := by decide +kernel
theorem dL_law_267 : decode cL_law 267 = .ok (.aload_n 1, 1) := by decide +kernel
theorem dL_law_268 : decode cL_law 268 = .ok (.aload_n 0, 1) := by decide +kernel
theorem dL_law_269 : decode cL_law 269 = .ok (.iload_n 3, 1) := by decide +kernel
theorem dL_law_270 : decode cL_law 270 = .ok (.iconst 1, 1) := by decide +kernel
theorem dL_law_271 : decode cL_law 271 = .ok (.iadd, 1) := by decide +kernel
theorem dL_law_272 : decode cL_law 272 = .ok (.iaload, 1) := by decide +kernel
theorem dL_law_273 : decode cL_law 273 = .ok (.invokevirtual 35, 3) := by decide +kernel
theorem dL_law_276 : decode cL_law 276 = .ok (.aload_n 2, 1) := by decide +kernel
theorem dL_law_277 : decode cL_law 277 = .ok (.aload_n 0, 1) := by decide +kernel
theorem dL_law_278 : decode cL_law 278 = .ok (.iload_n 3, 1) := by decide +kernel
theorem dL_law_279 : decode cL_law 279 = .ok (.iconst 1, 1) := by decide +kernel
theorem dL_law_280 : decode cL_law 280 = .ok (.iadd, 1) := by decide +kernel
theorem dL_law_281 : decode cL_law 281 = .ok (.iaload, 1) := by decide +kernel
theorem dL_law_282 : decode cL_law 282 = .ok (.invokevirtual 38, 3) := by decide +kernel
theorem dL_law_285 : decode cL_law 285 = .ok (.if_icmp .eq 726, 3) := by decide +kernel
theorem dL_law_288 : decode cL_law 288 = .ok (.iconst 0, 1) := by decide +kernel
theorem dL_law_289 : decode cL_law 289 = .ok (.ireturn, 1) := by decide +kernel
theorem dL_law_290 : decode cL_law 290 = .ok (.aload_n 1, 1) := by decide +kernel
theorem dL_law_291 : decode cL_law 291 = .ok (.aload_n 0, 1) := by decide +kernel
theorem dL_law_292 : decode cL_law 292 = .ok (.iload_n 3, 1) := by decide +kernel
theorem dL_law_293 : decode cL_law 293 = .ok (.iconst 1, 1) := by decide +kernel
theorem dL_law_294 : decode cL_law 294 = .ok (.iadd, 1) := by decide +kernel
theorem dL_law_295 : decode cL_law 295 = .ok (.iaload, 1) := by decide +kernel
theorem dL_law_296 : decode cL_law 296 = .ok (.aload_n 0, 1) := by decide +kernel
theorem dL_law_297 : decode cL_law 297 = .ok (.iload_n 3, 1) := by decide +kernel
theorem dL_law_298 : decode cL_law 298 = .ok (.iconst 2, 1) := by decide +kernel
theorem dL_law_299 : decode cL_law 299 = .ok (.iadd, 1) := by decide +kernel
theorem dL_law_300 : decode cL_law 300 = .ok (.iaload, 1) := by decide +kernel
theorem dL_law_301 : decode cL_law 301 = .ok (.invokevirtual 39, 3) := by decide +kernel
theorem dL_law_304 : decode cL_law 304 = .ok (.aload_n 2, 1) := by decide +kernel
theorem dL_law_305 : decode cL_law 305 = .ok (.aload_n 0, 1) := by decide +kernel
theorem dL_law_306 : decode cL_law 306 = .ok (.iload_n 3, 1) := by decide +kernel
theorem dL_law_307 : decode cL_law 307 = .ok (.iconst 1, 1) := by decide +kernel
theorem dL_law_308 : decode cL_law 308 = .ok (.iadd, 1) := by decide +kernel
theorem dL_law_309 : decode cL_law 309 = .ok (.iaload, 1) := by decide +kernel
theorem dL_law_310 : decode cL_law 310 = .ok (.aload_n 0, 1) := by decide +kernel
theorem dL_law_311 : decode cL_law 311 = .ok (.iload_n 3, 1) := by decide +kernel
theorem dL_law_312 : decode cL_law 312 = .ok (.iconst 2, 1) := by decide +kernel
theorem dL_law_313 : decode cL_law 313 = .ok (.iadd, 1) := by decide +kernel
theorem dL_law_314 : decode cL_law 314 = .ok (.iaload, 1) := by decide +kernel
theorem dL_law_315 : decode cL_law 315 = .ok (.invokevirtual 43, 3) := by decide +kernel
theorem dL_law_318 : decode cL_law 318 = .ok (.if_icmp .eq 693, 3) := by decide +kernel
theorem dL_law_321 : decode cL_law 321 = .ok (.iconst 0, 1) := by decide +kernel
theorem dL_law_322 : decode cL_law 322 = .ok (.ireturn, 1) := by decide +kernel
theorem dL_law_323 : decode cL_law 323 = .ok (.aload_n 1, 1) := by decide +kernel
theorem dL_law_324 : decode cL_law 324 = .ok (.aload_n 0, 1) := by decide +kernel
theorem dL_law_325 : decode cL_law 325 = .ok (.iload_n 3, 1) := by decide +kernel
theorem dL_law_326 : decode cL_law 326 = .ok (.iconst 1, 1) := by decide +kernel
theorem dL_law_327 : decode cL_law 327 = .ok (.iadd, 1) := by decide +kernel
theorem dL_law_328 : decode cL_law 328 = .ok (.iaload, 1) := by decide +kernel
theorem dL_law_329 : decode cL_law 329 = .ok (.aload_n 0, 1) := by decide +kernel
theorem dL_law_330 : decode cL_law 330 = .ok (.iload_n 3, 1) := by decide +kernel
theorem dL_law_331 : decode cL_law 331 = .ok (.iconst 2, 1) := by decide +kernel
theorem dL_law_332 : decode cL_law 332 = .ok (.iadd, 1) := by decide +kernel
theorem dL_law_333 : decode cL_law 333 = .ok (.iaload, 1) := by decide +kernel
theorem dL_law_334 : decode cL_law 334 = .ok (.invokevirtual 44, 3) := by decide +kernel
theorem dL_law_337 : decode cL_law 337 = .ok (.aload_n 2, 1) := by decide +kernel
theorem dL_law_338 : decode cL_law 338 = .ok (.aload_n 0, 1) := by decide +kernel
theorem dL_law_339 : decode cL_law 339 = .ok (.iload_n 3, 1) := by decide +kernel
theorem dL_law_340 : decode cL_law 340 = .ok (.iconst 1, 1) := by decide +kernel
theorem dL_law_341 : decode cL_law 341 = .ok (.iadd, 1) := by decide +kernel
theorem dL_law_342 : decode cL_law 342 = .ok (.iaload, 1) := by decide +kernel
theorem dL_law_343 : decode cL_law 343 = .ok (.aload_n 0, 1) := by decide +kernel
theorem dL_law_344 : decode cL_law 344 = .ok (.iload_n 3, 1) := by decide +kernel
theorem dL_law_345 : decode cL_law 345 = .ok (.iconst 2, 1) := by decide +kernel
theorem dL_law_346 : decode cL_law 346 = .ok (.iadd, 1) := by decide +kernel
theorem dL_law_347 : decode cL_law 347 = .ok (.iaload, 1) := by decide +kernel
theorem dL_law_348 : decode cL_law 348 = .ok (.invokevirtual 47, 3) := by decide +kernel
theorem dL_law_351 : decode cL_law 351 = .ok (.if_icmp .eq 660, 3) := by decide +kernel
theorem dL_law_354 : decode cL_law 354 = .ok (.iconst 0, 1) := by decide +kernel
theorem dL_law_355 : decode cL_law 355 = .ok (.ireturn, 1) := by decide +kernel
theorem dL_law_356 : decode cL_law 356 = .ok (.aload_n 1, 1) := by decide +kernel
theorem dL_law_357 : decode cL_law 357 = .ok (.aload_n 0, 1) := by decide +kernel
theorem dL_law_358 : decode cL_law 358 = .ok (.iload_n 3, 1) := by decide +kernel
theorem dL_law_359 : decode cL_law 359 = .ok (.iconst 1, 1) := by decide +kernel
theorem dL_law_360 : decode cL_law 360 = .ok (.iadd, 1) := by decide +kernel
theorem dL_law_361 : decode cL_law 361 = .ok (.iaload, 1) := by decide +kernel
theorem dL_law_362 : decode cL_law 362 = .ok (.aload_n 0, 1) := by decide +kernel
theorem dL_law_363 : decode cL_law 363 = .ok (.iload_n 3, 1) := by decide +kernel
theorem dL_law_364 : decode cL_law 364 = .ok (.iconst 2, 1) := by decide +kernel
theorem dL_law_365 : decode cL_law 365 = .ok (.iadd, 1) := by decide +kernel
theorem dL_law_366 : decode cL_law 366 = .ok (.iaload, 1) := by decide +kernel
theorem dL_law_367 : decode cL_law 367 = .ok (.invokevirtual 48, 3) := by decide +kernel
theorem dL_law_370 : decode cL_law 370 = .ok (.aload_n 2, 1) := by decide +kernel
theorem dL_law_371 : decode cL_law 371 = .ok (.aload_n 0, 1) := by decide +kernel
theorem dL_law_372 : decode cL_law 372 = .ok (.iload_n 3, 1) := by decide +kernel
theorem dL_law_373 : decode cL_law 373 = .ok (.iconst 1, 1) := by decide +kernel
theorem dL_law_374 : decode cL_law 374 = .ok (.iadd, 1) := by decide +kernel
theorem dL_law_375 : decode cL_law 375 = .ok (.iaload, 1) := by decide +kernel
theorem dL_law_376 : decode cL_law 376 = .ok (.aload_n 0, 1) := by decide +kernel
theorem dL_law_377 : decode cL_law 377 = .ok (.iload_n 3, 1) := by decide +kernel
theorem dL_law_378 : decode cL_law 378 = .ok (.iconst 2, 1) := by decide +kernel
theorem dL_law_379 : decode cL_law 379 = .ok (.iadd, 1) := by decide +kernel
theorem dL_law_380 : decode cL_law 380 = .ok (.iaload, 1) := by decide +kernel
theorem dL_law_381 : decode cL_law 381 = .ok (.invokevirtual 51, 3) := by decide +kernel
theorem dL_law_384 : decode cL_law 384 = .ok (.if_icmp .eq 627, 3) := by decide +kernel
theorem dL_law_387 : decode cL_law 387 = .ok (.iconst 0, 1) := by decide +kernel
theorem dL_law_388 : decode cL_law 388 = .ok (.ireturn, 1) := by decide +kernel
theorem dL_law_389 : decode cL_law 389 = .ok (.aload_n 1, 1) := by decide +kernel
theorem dL_law_390 : decode cL_law 390 = .ok (.invokevirtual 52, 3) := by decide +kernel
theorem dL_law_393 : decode cL_law 393 = .ok (.aload_n 2, 1) := by decide +kernel
theorem dL_law_394 : decode cL_law 394 = .ok (.invokevirtual 55, 3) := by decide +kernel
theorem dL_law_397 : decode cL_law 397 = .ok (.if_icmp .eq 614, 3) := by decide +kernel
theorem dL_law_400 : decode cL_law 400 = .ok (.iconst 0, 1) := by decide +kernel
theorem dL_law_401 : decode cL_law 401 = .ok (.ireturn, 1) := by decide +kernel
theorem dL_law_402 : decode cL_law 402 = .ok (.aload_n 1, 1) := by decide +kernel
theorem dL_law_403 : decode cL_law 403 = .ok (.aload_n 0, 1) := by decide +kernel
theorem dL_law_404 : decode cL_law 404 = .ok (.iload_n 3, 1) := by decide +kernel
theorem dL_law_405 : decode cL_law 405 = .ok (.iconst 1, 1) := by decide +kernel
theorem dL_law_406 : decode cL_law 406 = .ok (.iadd, 1) := by decide +kernel
theorem dL_law_407 : decode cL_law 407 = .ok (.iaload, 1) := by decide +kernel
theorem dL_law_408 : decode cL_law 408 = .ok (.invokevirtual 56, 3) := by decide +kernel
theorem dL_law_411 : decode cL_law 411 = .ok (.aload_n 2, 1) := by decide +kernel
theorem dL_law_412 : decode cL_law 412 = .ok (.aload_n 0, 1) := by decide +kernel
theorem dL_law_413 : decode cL_law 413 = .ok (.iload_n 3, 1) := by decide +kernel
theorem dL_law_414 : decode cL_law 414 = .ok (.iconst 1, 1) := by decide +kernel
theorem dL_law_415 : decode cL_law 415 = .ok (.iadd, 1) := by decide +kernel
theorem dL_law_416 : decode cL_law 416 = .ok (.iaload, 1) := by decide +kernel
theorem dL_law_417 : decode cL_law 417 = .ok (.invokevirtual 59, 3) := by decide +kernel
theorem dL_law_420 : decode cL_law 420 = .ok (.if_icmp .eq 591, 3) := by decide +kernel
theorem dL_law_423 : decode cL_law 423 = .ok (.iconst 0, 1) := by decide +kernel
theorem dL_law_424 : decode cL_law 424 = .ok (.ireturn, 1) := by decide +kernel
theorem dL_law_425 : decode cL_law 425 = .ok (.aload_n 1, 1) := by decide +kernel
theorem dL_law_426 : decode cL_law 426 = .ok (.aload_n 0, 1) := by decide +kernel
theorem dL_law_427 : decode cL_law 427 = .ok (.iload_n 3, 1) := by decide +kernel
theorem dL_law_428 : decode cL_law 428 = .ok (.iconst 1, 1) := by decide +kernel
theorem dL_law_429 : decode cL_law 429 = .ok (.iadd, 1) := by decide +kernel
theorem dL_law_430 : decode cL_law 430 = .ok (.iaload, 1) := by decide +kernel
theorem dL_law_431 : decode cL_law 431 = .ok (.aload_n 0, 1) := by decide +kernel
theorem dL_law_432 : decode cL_law 432 = .ok (.iload_n 3, 1) := by decide +kernel
theorem dL_law_433 : decode cL_law 433 = .ok (.iconst 2, 1) := by decide +kernel
theorem dL_law_434 : decode cL_law 434 = .ok (.iadd, 1) := by decide +kernel
theorem dL_law_435 : decode cL_law 435 = .ok (.iaload, 1) := by decide +kernel
theorem dL_law_436 : decode cL_law 436 = .ok (.invokevirtual 60, 3) := by decide +kernel
theorem dL_law_439 : decode cL_law 439 = .ok (.aload_n 2, 1) := by decide +kernel
theorem dL_law_440 : decode cL_law 440 = .ok (.aload_n 0, 1) := by decide +kernel
theorem dL_law_441 : decode cL_law 441 = .ok (.iload_n 3, 1) := by decide +kernel
theorem dL_law_442 : decode cL_law 442 = .ok (.iconst 1, 1) := by decide +kernel
theorem dL_law_443 : decode cL_law 443 = .ok (.iadd, 1) := by decide +kernel
theorem dL_law_444 : decode cL_law 444 = .ok (.iaload, 1) := by decide +kernel
theorem dL_law_445 : decode cL_law 445 = .ok (.aload_n 0, 1) := by decide +kernel
theorem dL_law_446 : decode cL_law 446 = .ok (.iload_n 3, 1) := by decide +kernel
theorem dL_law_447 : decode cL_law 447 = .ok (.iconst 2, 1) := by decide +kernel
theorem dL_law_448 : decode cL_law 448 = .ok (.iadd, 1) := by decide +kernel
theorem dL_law_449 : decode cL_law 449 = .ok (.iaload, 1) := by decide +kernel
theorem dL_law_450 : decode cL_law 450 = .ok (.invokevirtual 63, 3) := by decide +kernel
theorem dL_law_453 : decode cL_law 453 = .ok (.if_icmp .eq 558, 3) := by decide +kernel
theorem dL_law_456 : decode cL_law 456 = .ok (.iconst 0, 1) := by decide +kernel
theorem dL_law_457 : decode cL_law 457 = .ok (.ireturn, 1) := by decide +kernel
theorem dL_law_458 : decode cL_law 458 = .ok (.aload_n 1, 1) := by decide +kernel
theorem dL_law_459 : decode cL_law 459 = .ok (.aload_n 0, 1) := by decide +kernel
theorem dL_law_460 : decode cL_law 460 = .ok (.iload_n 3, 1) := by decide +kernel
theorem dL_law_461 : decode cL_law 461 = .ok (.iconst 1, 1) := by decide +kernel
theorem dL_law_462 : decode cL_law 462 = .ok (.iadd, 1) := by decide +kernel
theorem dL_law_463 : decode cL_law 463 = .ok (.iaload, 1) := by decide +kernel
theorem dL_law_464 : decode cL_law 464 = .ok (.invokevirtual 64, 3) := by decide +kernel
theorem dL_law_467 : decode cL_law 467 = .ok (.aload_n 2, 1) := by decide +kernel
theorem dL_law_468 : decode cL_law 468 = .ok (.aload_n 0, 1) := by decide +kernel
theorem dL_law_469 : decode cL_law 469 = .ok (.iload_n 3, 1) := by decide +kernel
theorem dL_law_470 : decode cL_law 470 = .ok (.iconst 1, 1) := by decide +kernel
theorem dL_law_471 : decode cL_law 471 = .ok (.iadd, 1) := by decide +kernel
theorem dL_law_472 : decode cL_law 472 = .ok (.iaload, 1) := by decide +kernel
theorem dL_law_473 : decode cL_law 473 = .ok (.invokevirtual 67, 3) := by decide +kernel
theorem dL_law_476 : decode cL_law 476 = .ok (.if_icmp .eq 535, 3) := by decide +kernel
theorem dL_law_479 : decode cL_law 479 = .ok (.iconst 0, 1) := by decide +kernel
theorem dL_law_480 : decode cL_law 480 = .ok (.ireturn, 1) := by decide +kernel
theorem dL_law_481 : decode cL_law 481 = .ok (.aload_n 1, 1) := by decide +kernel
theorem dL_law_482 : decode cL_law 482 = .ok (.aload_n 0, 1) := by decide +kernel
theorem dL_law_483 : decode cL_law 483 = .ok (.iload_n 3, 1) := by decide +kernel
theorem dL_law_484 : decode cL_law 484 = .ok (.iconst 1, 1) := by decide +kernel
theorem dL_law_485 : decode cL_law 485 = .ok (.iadd, 1) := by decide +kernel
theorem dL_law_486 : decode cL_law 486 = .ok (.iaload, 1) := by decide +kernel
theorem dL_law_487 : decode cL_law 487 = .ok (.aload_n 0, 1) := by decide +kernel
theorem dL_law_488 : decode cL_law 488 = .ok (.iload_n 3, 1) := by decide +kernel
theorem dL_law_489 : decode cL_law 489 = .ok (.iconst 2, 1) := by decide +kernel
theorem dL_law_490 : decode cL_law 490 = .ok (.iadd, 1) := by decide +kernel
theorem dL_law_491 : decode cL_law 491 = .ok (.iaload, 1) := by decide +kernel
theorem dL_law_492 : decode cL_law 492 = .ok (.ifCond .eq 7, 3) := by decide +kernel
theorem dL_law_495 : decode cL_law 495 = .ok (.iconst 1, 1) := by decide +kernel
theorem dL_law_496 : decode cL_law 496 = .ok (.goto 4, 3) := by decide +kernel
theorem dL_law_499 : decode cL_law 499 = .ok (.iconst 0, 1) := by decide +kernel
theorem dL_law_500 : decode cL_law 500 = .ok (.invokevirtual 68, 3) := by decide +kernel
theorem dL_law_503 : decode cL_law 503 = .ok (.aload_n 2, 1) := by decide +kernel
theorem dL_law_504 : decode cL_law 504 = .ok (.aload_n 0, 1) := by decide +kernel
theorem dL_law_505 : decode cL_law 505 = .ok (.iload_n 3, 1) := by decide +kernel
theorem dL_law_506 : decode cL_law 506 = .ok (.iconst 1, 1) := by decide +kernel
theorem dL_law_507 : decode cL_law 507 = .ok (.iadd, 1) := by decide +kernel
theorem dL_law_508 : decode cL_law 508 = .ok (.iaload, 1) := by decide +kernel
theorem dL_law_509 : decode cL_law 509 = .ok (.aload_n 0, 1) := by decide +kernel
theorem dL_law_510 : decode cL_law 510 = .ok (.iload_n 3, 1) := by decide +kernel
theorem dL_law_511 : decode cL_law 511 = .ok (.iconst 2, 1) := by decide +kernel
theorem dL_law_512 : decode cL_law 512 = .ok (.iadd, 1) := by decide +kernel
theorem dL_law_513 : decode cL_law 513 = .ok (.iaload, 1) := by decide +kernel
theorem dL_law_514 : decode cL_law 514 = .ok (.ifCond .eq 7, 3) := by decide +kernel
theorem dL_law_517 : decode cL_law 517 = .ok (.iconst 1, 1) := by decide +kernel
theorem dL_law_518 : decode cL_law 518 = .ok (.goto 4, 3) := by decide +kernel
theorem dL_law_521 : decode cL_law 521 = .ok (.iconst 0, 1) := by decide +kernel
theorem dL_law_522 : decode cL_law 522 = .ok (.invokevirtual 72, 3) := by decide +kernel
theorem dL_law_525 : decode cL_law 525 = .ok (.if_icmp .eq 486, 3) := by decide +kernel
theorem dL_law_528 : decode cL_law 528 = .ok (.iconst 0, 1) := by decide +kernel
theorem dL_law_529 : decode cL_law 529 = .ok (.ireturn, 1) := by decide +kernel
theorem dL_law_530 : decode cL_law 530 = .ok (.aload_n 1, 1) := by decide +kernel
theorem dL_law_531 : decode cL_law 531 = .ok (.aload_n 0, 1) := by decide +kernel
theorem dL_law_532 : decode cL_law 532 = .ok (.iload_n 3, 1) := by decide +kernel
theorem dL_law_533 : decode cL_law 533 = .ok (.iconst 1, 1) := by decide +kernel
theorem dL_law_534 : decode cL_law 534 = .ok (.iadd, 1) := by decide +kernel
theorem dL_law_535 : decode cL_law 535 = .ok (.iaload, 1) := by decide +kernel
theorem dL_law_536 : decode cL_law 536 = .ok (.invokevirtual 73, 3) := by decide +kernel
theorem dL_law_539 : decode cL_law 539 = .ok (.aload_n 2, 1) := by decide +kernel
theorem dL_law_540 : decode cL_law 540 = .ok (.aload_n 0, 1) := by decide +kernel
theorem dL_law_541 : decode cL_law 541 = .ok (.iload_n 3, 1) := by decide +kernel
theorem dL_law_542 : decode cL_law 542 = .ok (.iconst 1, 1) := by decide +kernel
theorem dL_law_543 : decode cL_law 543 = .ok (.iadd, 1) := by decide +kernel
theorem dL_law_544 : decode cL_law 544 = .ok (.iaload, 1) := by decide +kernel
theorem dL_law_545 : decode cL_law 545 = .ok (.invokevirtual 76, 3) := by decide +kernel
theorem dL_law_548 : decode cL_law 548 = .ok (.if_icmp .eq 463, 3) := by decide +kernel
theorem dL_law_551 : decode cL_law 551 = .ok (.iconst 0, 1) := by decide +kernel
theorem dL_law_552 : decode cL_law 552 = .ok (.ireturn, 1) := by decide +kernel
theorem dL_law_553 : decode cL_law 553 = .ok (.aload_n 1, 1) := by decide +kernel
theorem dL_law_554 : decode cL_law 554 = .ok (.invokevirtual 77, 3) := by decide +kernel
theorem dL_law_557 : decode cL_law 557 = .ok (.aload_n 2, 1) := by decide +kernel
theorem dL_law_558 : decode cL_law 558 = .ok (.invokevirtual 80, 3) := by decide +kernel
theorem dL_law_561 : decode cL_law 561 = .ok (.if_icmp .eq 450, 3) := by decide +kernel
theorem dL_law_564 : decode cL_law 564 = .ok (.iconst 0, 1) := by decide +kernel
theorem dL_law_565 : decode cL_law 565 = .ok (.ireturn, 1) := by decide +kernel
theorem dL_law_566 : decode cL_law 566 = .ok (.aload_n 1, 1) := by decide +kernel
theorem dL_law_567 : decode cL_law 567 = .ok (.aload_n 0, 1) := by decide +kernel
theorem dL_law_568 : decode cL_law 568 = .ok (.iload_n 3, 1) := by decide +kernel
theorem dL_law_569 : decode cL_law 569 = .ok (.iconst 1, 1) := by decide +kernel
theorem dL_law_570 : decode cL_law 570 = .ok (.iadd, 1) := by decide +kernel
theorem dL_law_571 : decode cL_law 571 = .ok (.iaload, 1) := by decide +kernel
theorem dL_law_572 : decode cL_law 572 = .ok (.aload_n 0, 1) := by decide +kernel
theorem dL_law_573 : decode cL_law 573 = .ok (.iload_n 3, 1) := by decide +kernel
theorem dL_law_574 : decode cL_law 574 = .ok (.iconst 2, 1) := by decide +kernel
theorem dL_law_575 : decode cL_law 575 = .ok (.iadd, 1) := by decide +kernel
theorem dL_law_576 : decode cL_law 576 = .ok (.iaload, 1) := by decide +kernel
theorem dL_law_577 : decode cL_law 577 = .ok (.invokevirtual 81, 3) := by decide +kernel
theorem dL_law_580 : decode cL_law 580 = .ok (.aload_n 2, 1) := by decide +kernel
theorem dL_law_581 : decode cL_law 581 = .ok (.aload_n 0, 1) := by decide +kernel
theorem dL_law_582 : decode cL_law 582 = .ok (.iload_n 3, 1) := by decide +kernel
theorem dL_law_583 : decode cL_law 583 = .ok (.iconst 1, 1) := by decide +kernel
theorem dL_law_584 : decode cL_law 584 = .ok (.iadd, 1) := by decide +kernel
theorem dL_law_585 : decode cL_law 585 = .ok (.iaload, 1) := by decide +kernel
theorem dL_law_586 : decode cL_law 586 = .ok (.aload_n 0, 1) := by decide +kernel
theorem dL_law_587 : decode cL_law 587 = .ok (.iload_n 3, 1) := by decide +kernel
theorem dL_law_588 : decode cL_law 588 = .ok (.iconst 2, 1) := by decide +kernel
theorem dL_law_589 : decode cL_law 589 = .ok (.iadd, 1) := by decide +kernel
theorem dL_law_590 : decode cL_law 590 = .ok (.iaload, 1) := by decide +kernel
theorem dL_law_591 : decode cL_law 591 = .ok (.invokevirtual 84, 3) := by decide +kernel
theorem dL_law_594 : decode cL_law 594 = .ok (.if_icmp .eq 417, 3) := by decide +kernel
theorem dL_law_597 : decode cL_law 597 = .ok (.iconst 0, 1) := by decide +kernel
theorem dL_law_598 : decode cL_law 598 = .ok (.ireturn, 1) := by decide +kernel
theorem dL_law_599 : decode cL_law 599 = .ok (.aload_n 1, 1) := by decide +kernel
theorem dL_law_600 : decode cL_law 600 = .ok (.aload_n 0, 1) := by decide +kernel
theorem dL_law_601 : decode cL_law 601 = .ok (.iload_n 3, 1) := by decide +kernel
theorem dL_law_602 : decode cL_law 602 = .ok (.iconst 1, 1) := by decide +kernel
theorem dL_law_603 : decode cL_law 603 = .ok (.iadd, 1) := by decide +kernel
theorem dL_law_604 : decode cL_law 604 = .ok (.iaload, 1) := by decide +kernel
theorem dL_law_605 : decode cL_law 605 = .ok (.aload_n 0, 1) := by decide +kernel
theorem dL_law_606 : decode cL_law 606 = .ok (.iload_n 3, 1) := by decide +kernel
theorem dL_law_607 : decode cL_law 607 = .ok (.iconst 2, 1) := by decide +kernel
theorem dL_law_608 : decode cL_law 608 = .ok (.iadd, 1) := by decide +kernel
theorem dL_law_609 : decode cL_law 609 = .ok (.iaload, 1) := by decide +kernel
theorem dL_law_610 : decode cL_law 610 = .ok (.invokevirtual 85, 3) := by decide +kernel
theorem dL_law_613 : decode cL_law 613 = .ok (.aload_n 2, 1) := by decide +kernel
theorem dL_law_614 : decode cL_law 614 = .ok (.aload_n 0, 1) := by decide +kernel
theorem dL_law_615 : decode cL_law 615 = .ok (.iload_n 3, 1) := by decide +kernel
theorem dL_law_616 : decode cL_law 616 = .ok (.iconst 1, 1) := by decide +kernel
theorem dL_law_617 : decode cL_law 617 = .ok (.iadd, 1) := by decide +kernel
theorem dL_law_618 : decode cL_law 618 = .ok (.iaload, 1) := by decide +kernel
theorem dL_law_619 : decode cL_law 619 = .ok (.aload_n 0, 1) := by decide +kernel
theorem dL_law_620 : decode cL_law 620 = .ok (.iload_n 3, 1) := by decide +kernel
theorem dL_law_621 : decode cL_law 621 = .ok (.iconst 2, 1) := by decide +kernel
theorem dL_law_622 : decode cL_law 622 = .ok (.iadd, 1) := by decide +kernel
theorem dL_law_623 : decode cL_law 623 = .ok (.iaload, 1) := by decide +kernel
theorem dL_law_624 : decode cL_law 624 = .ok (.invokevirtual 88, 3) := by decide +kernel
theorem dL_law_627 : decode cL_law 627 = .ok (.if_icmp .eq 384, 3) := by decide +kernel
theorem dL_law_630 : decode cL_law 630 = .ok (.iconst 0, 1) := by decide +kernel
theorem dL_law_631 : decode cL_law 631 = .ok (.ireturn, 1) := by decide +kernel
theorem dL_law_632 : decode cL_law 632 = .ok (.aload_n 1, 1) := by decide +kernel
theorem dL_law_633 : decode cL_law 633 = .ok (.aload_n 0, 1) := by decide +kernel
theorem dL_law_634 : decode cL_law 634 = .ok (.iload_n 3, 1) := by decide +kernel
theorem dL_law_635 : decode cL_law 635 = .ok (.iconst 1, 1) := by decide +kernel
theorem dL_law_636 : decode cL_law 636 = .ok (.iadd, 1) := by decide +kernel
theorem dL_law_637 : decode cL_law 637 = .ok (.iaload, 1) := by decide +kernel
theorem dL_law_638 : decode cL_law 638 = .ok (.aload_n 0, 1) := by decide +kernel
theorem dL_law_639 : decode cL_law 639 = .ok (.iload_n 3, 1) := by decide +kernel
theorem dL_law_640 : decode cL_law 640 = .ok (.iconst 2, 1) := by decide +kernel
theorem dL_law_641 : decode cL_law 641 = .ok (.iadd, 1) := by decide +kernel
theorem dL_law_642 : decode cL_law 642 = .ok (.iaload, 1) := by decide +kernel
theorem dL_law_643 : decode cL_law 643 = .ok (.aload_n 0, 1) := by decide +kernel
theorem dL_law_644 : decode cL_law 644 = .ok (.iload_n 3, 1) := by decide +kernel
theorem dL_law_645 : decode cL_law 645 = .ok (.iconst 3, 1) := by decide +kernel
theorem dL_law_646 : decode cL_law 646 = .ok (.iadd, 1) := by decide +kernel
theorem dL_law_647 : decode cL_law 647 = .ok (.iaload, 1) := by decide +kernel
theorem dL_law_648 : decode cL_law 648 = .ok (.aload_n 0, 1) := by decide +kernel
theorem dL_law_649 : decode cL_law 649 = .ok (.iload_n 3, 1) := by decide +kernel
theorem dL_law_650 : decode cL_law 650 = .ok (.iconst 4, 1) := by decide +kernel
theorem dL_law_651 : decode cL_law 651 = .ok (.iadd, 1) := by decide +kernel
theorem dL_law_652 : decode cL_law 652 = .ok (.iaload, 1) := by decide +kernel
theorem dL_law_653 : decode cL_law 653 = .ok (.aload_n 0, 1) := by decide +kernel
theorem dL_law_654 : decode cL_law 654 = .ok (.iload_n 3, 1) := by decide +kernel
theorem dL_law_655 : decode cL_law 655 = .ok (.iconst 5, 1) := by decide +kernel
theorem dL_law_656 : decode cL_law 656 = .ok (.iadd, 1) := by decide +kernel
theorem dL_law_657 : decode cL_law 657 = .ok (.iaload, 1) := by decide +kernel
theorem dL_law_658 : decode cL_law 658 = .ok (.invokevirtual 89, 3) := by decide +kernel
theorem dL_law_661 : decode cL_law 661 = .ok (.aload_n 2, 1) := by decide +kernel
theorem dL_law_662 : decode cL_law 662 = .ok (.aload_n 0, 1) := by decide +kernel
theorem dL_law_663 : decode cL_law 663 = .ok (.iload_n 3, 1) := by decide +kernel
theorem dL_law_664 : decode cL_law 664 = .ok (.iconst 1, 1) := by decide +kernel
theorem dL_law_665 : decode cL_law 665 = .ok (.iadd, 1) := by decide +kernel
theorem dL_law_666 : decode cL_law 666 = .ok (.iaload, 1) := by decide +kernel
theorem dL_law_667 : decode cL_law 667 = .ok (.aload_n 0, 1) := by decide +kernel
theorem dL_law_668 : decode cL_law 668 = .ok (.iload_n 3, 1) := by decide +kernel
theorem dL_law_669 : decode cL_law 669 = .ok (.iconst 2, 1) := by decide +kernel
theorem dL_law_670 : decode cL_law 670 = .ok (.iadd, 1) := by decide +kernel
theorem dL_law_671 : decode cL_law 671 = .ok (.iaload, 1) := by decide +kernel
theorem dL_law_672 : decode cL_law 672 = .ok (.aload_n 0, 1) := by decide +kernel
theorem dL_law_673 : decode cL_law 673 = .ok (.iload_n 3, 1) := by decide +kernel
theorem dL_law_674 : decode cL_law 674 = .ok (.iconst 3, 1) := by decide +kernel
theorem dL_law_675 : decode cL_law 675 = .ok (.iadd, 1) := by decide +kernel
theorem dL_law_676 : decode cL_law 676 = .ok (.iaload, 1) := by decide +kernel
theorem dL_law_677 : decode cL_law 677 = .ok (.aload_n 0, 1) := by decide +kernel
theorem dL_law_678 : decode cL_law 678 = .ok (.iload_n 3, 1) := by decide +kernel
theorem dL_law_679 : decode cL_law 679 = .ok (.iconst 4, 1) := by decide +kernel
theorem dL_law_680 : decode cL_law 680 = .ok (.iadd, 1) := by decide +kernel
theorem dL_law_681 : decode cL_law 681 = .ok (.iaload, 1) := by decide +kernel
theorem dL_law_682 : decode cL_law 682 = .ok (.aload_n 0, 1) := by decide +kernel
theorem dL_law_683 : decode cL_law 683 = .ok (.iload_n 3, 1) := by decide +kernel
theorem dL_law_684 : decode cL_law 684 = .ok (.iconst 5, 1) := by decide +kernel
theorem dL_law_685 : decode cL_law 685 = .ok (.iadd, 1) := by decide +kernel
theorem dL_law_686 : decode cL_law 686 = .ok (.iaload, 1) := by decide +kernel
theorem dL_law_687 : decode cL_law 687 = .ok (.invokevirtual 93, 3) := by decide +kernel
theorem dL_law_690 : decode cL_law 690 = .ok (.if_icmp .eq 321, 3) := by decide +kernel
theorem dL_law_693 : decode cL_law 693 = .ok (.iconst 0, 1) := by decide +kernel
theorem dL_law_694 : decode cL_law 694 = .ok (.ireturn, 1) := by decide +kernel
theorem dL_law_695 : decode cL_law 695 = .ok (.aload_n 1, 1) := by decide +kernel
theorem dL_law_696 : decode cL_law 696 = .ok (.aload_n 0, 1) := by decide +kernel
theorem dL_law_697 : decode cL_law 697 = .ok (.iload_n 3, 1) := by decide +kernel
theorem dL_law_698 : decode cL_law 698 = .ok (.iconst 1, 1) := by decide +kernel
theorem dL_law_699 : decode cL_law 699 = .ok (.iadd, 1) := by decide +kernel
theorem dL_law_700 : decode cL_law 700 = .ok (.iaload, 1) := by decide +kernel
theorem dL_law_701 : decode cL_law 701 = .ok (.aload_n 0, 1) := by decide +kernel
theorem dL_law_702 : decode cL_law 702 = .ok (.iload_n 3, 1) := by decide +kernel
theorem dL_law_703 : decode cL_law 703 = .ok (.iconst 2, 1) := by decide +kernel
theorem dL_law_704 : decode cL_law 704 = .ok (.iadd, 1) := by decide +kernel
theorem dL_law_705 : decode cL_law 705 = .ok (.iaload, 1) := by decide +kernel
theorem dL_law_706 : decode cL_law 706 = .ok (.aload_n 0, 1) := by decide +kernel
theorem dL_law_707 : decode cL_law 707 = .ok (.iload_n 3, 1) := by decide +kernel
theorem dL_law_708 : decode cL_law 708 = .ok (.iconst 3, 1) := by decide +kernel
theorem dL_law_709 : decode cL_law 709 = .ok (.iadd, 1) := by decide +kernel
theorem dL_law_710 : decode cL_law 710 = .ok (.iaload, 1) := by decide +kernel
theorem dL_law_711 : decode cL_law 711 = .ok (.aload_n 0, 1) := by decide +kernel
theorem dL_law_712 : decode cL_law 712 = .ok (.iload_n 3, 1) := by decide +kernel
theorem dL_law_713 : decode cL_law 713 = .ok (.iconst 4, 1) := by decide +kernel
theorem dL_law_714 : decode cL_law 714 = .ok (.iadd, 1) := by decide +kernel
theorem dL_law_715 : decode cL_law 715 = .ok (.iaload, 1) := by decide +kernel
theorem dL_law_716 : decode cL_law 716 = .ok (.invokevirtual 94, 3) := by decide +kernel
theorem dL_law_719 : decode cL_law 719 = .ok (.aload_n 2, 1) := by decide +kernel
theorem dL_law_720 : decode cL_law 720 = .ok (.aload_n 0, 1) := by decide +kernel
theorem dL_law_721 : decode cL_law 721 = .ok (.iload_n 3, 1) := by decide +kernel
theorem dL_law_722 : decode cL_law 722 = .ok (.iconst 1, 1) := by decide +kernel
theorem dL_law_723 : decode cL_law 723 = .ok (.iadd, 1) := by decide +kernel
theorem dL_law_724 : decode cL_law 724 = .ok (.iaload, 1) := by decide +kernel
theorem dL_law_725 : decode cL_law 725 = .ok (.aload_n 0, 1) := by decide +kernel
theorem dL_law_726 : decode cL_law 726 = .ok (.iload_n 3, 1) := by decide +kernel
theorem dL_law_727 : decode cL_law 727 = .ok (.iconst 2, 1) := by decide +kernel
theorem dL_law_728 : decode cL_law 728 = .ok (.iadd, 1) := by decide +kernel
theorem dL_law_729 : decode cL_law 729 = .ok (.iaload, 1) := by decide +kernel
theorem dL_law_730 : decode cL_law 730 = .ok (.aload_n 0, 1) := by decide +kernel
theorem dL_law_731 : decode cL_law 731 = .ok (.iload_n 3, 1) := by decide +kernel
theorem dL_law_732 : decode cL_law 732 = .ok (.iconst 3, 1) := by decide +kernel
theorem dL_law_733 : decode cL_law 733 = .ok (.iadd, 1) := by decide +kernel
theorem dL_law_734 : decode cL_law 734 = .ok (.iaload, 1) := by decide +kernel
theorem dL_law_735 : decode cL_law 735 = .ok (.aload_n 0, 1) := by decide +kernel
theorem dL_law_736 : decode cL_law 736 = .ok (.iload_n 3, 1) := by decide +kernel
theorem dL_law_737 : decode cL_law 737 = .ok (.iconst 4, 1) := by decide +kernel
theorem dL_law_738 : decode cL_law 738 = .ok (.iadd, 1) := by decide +kernel
theorem dL_law_739 : decode cL_law 739 = .ok (.iaload, 1) := by decide +kernel
theorem dL_law_740 : decode cL_law 740 = .ok (.invokevirtual 98, 3) := by decide +kernel
theorem dL_law_743 : decode cL_law 743 = .ok (.if_icmp .eq 268, 3) := by decide +kernel
theorem dL_law_746 : decode cL_law 746 = .ok (.iconst 0, 1) := by decide +kernel
theorem dL_law_747 : decode cL_law 747 = .ok (.ireturn, 1) := by decide +kernel
theorem dL_law_748 : decode cL_law 748 = .ok (.aload_n 1, 1) := by decide +kernel
theorem dL_law_749 : decode cL_law 749 = .ok (.aload_n 0, 1) := by decide +kernel
theorem dL_law_750 : decode cL_law 750 = .ok (.iload_n 3, 1) := by decide +kernel
theorem dL_law_751 : decode cL_law 751 = .ok (.iconst 1, 1) := by decide +kernel
theorem dL_law_752 : decode cL_law 752 = .ok (.iadd, 1) := by decide +kernel
theorem dL_law_753 : decode cL_law 753 = .ok (.iaload, 1) := by decide +kernel
theorem dL_law_754 : decode cL_law 754 = .ok (.invokevirtual 99, 3) := by decide +kernel
theorem dL_law_757 : decode cL_law 757 = .ok (.aload_n 2, 1) := by decide +kernel
theorem dL_law_758 : decode cL_law 758 = .ok (.aload_n 0, 1) := by decide +kernel
theorem dL_law_759 : decode cL_law 759 = .ok (.iload_n 3, 1) := by decide +kernel
theorem dL_law_760 : decode cL_law 760 = .ok (.iconst 1, 1) := by decide +kernel
theorem dL_law_761 : decode cL_law 761 = .ok (.iadd, 1) := by decide +kernel
theorem dL_law_762 : decode cL_law 762 = .ok (.iaload, 1) := by decide +kernel
theorem dL_law_763 : decode cL_law 763 = .ok (.invokevirtual 102, 3) := by decide +kernel
theorem dL_law_766 : decode cL_law 766 = .ok (.if_icmp .eq 245, 3) := by decide +kernel
theorem dL_law_769 : decode cL_law 769 = .ok (.iconst 0, 1) := by decide +kernel
theorem dL_law_770 : decode cL_law 770 = .ok (.ireturn, 1) := by decide +kernel
theorem dL_law_771 : decode cL_law 771 = .ok (.aload_n 1, 1) := by decide +kernel
theorem dL_law_772 : decode cL_law 772 = .ok (.aload_n 0, 1) := by decide +kernel
theorem dL_law_773 : decode cL_law 773 = .ok (.iload_n 3, 1) := by decide +kernel
theorem dL_law_774 : decode cL_law 774 = .ok (.iconst 1, 1) := by decide +kernel
theorem dL_law_775 : decode cL_law 775 = .ok (.iadd, 1) := by decide +kernel
theorem dL_law_776 : decode cL_law 776 = .ok (.iaload, 1) := by decide +kernel
theorem dL_law_777 : decode cL_law 777 = .ok (.invokevirtual 103, 3) := by decide +kernel
theorem dL_law_780 : decode cL_law 780 = .ok (.aload_n 2, 1) := by decide +kernel
theorem dL_law_781 : decode cL_law 781 = .ok (.aload_n 0, 1) := by decide +kernel
theorem dL_law_782 : decode cL_law 782 = .ok (.iload_n 3, 1) := by decide +kernel
theorem dL_law_783 : decode cL_law 783 = .ok (.iconst 1, 1) := by decide +kernel
theorem dL_law_784 : decode cL_law 784 = .ok (.iadd, 1) := by decide +kernel
theorem dL_law_785 : decode cL_law 785 = .ok (.iaload, 1) := by decide +kernel
theorem dL_law_786 : decode cL_law 786 = .ok (.invokevirtual 106, 3) := by decide +kernel
theorem dL_law_789 : decode cL_law 789 = .ok (.if_icmp .eq 222, 3) := by decide +kernel
theorem dL_law_792 : decode cL_law 792 = .ok (.iconst 0, 1) := by decide +kernel
theorem dL_law_793 : decode cL_law 793 = .ok (.ireturn, 1) := by decide +kernel
theorem dL_law_794 : decode cL_law 794 = .ok (.aload_n 1, 1) := by decide +kernel
theorem dL_law_795 : decode cL_law 795 = .ok (.invokevirtual 107, 3) := by decide +kernel
theorem dL_law_798 : decode cL_law 798 = .ok (.aload_n 2, 1) := by decide +kernel
theorem dL_law_799 : decode cL_law 799 = .ok (.invokevirtual 110, 3) := by decide +kernel
theorem dL_law_802 : decode cL_law 802 = .ok (.if_icmp .eq 209, 3) := by decide +kernel
theorem dL_law_805 : decode cL_law 805 = .ok (.iconst 0, 1) := by decide +kernel
theorem dL_law_806 : decode cL_law 806 = .ok (.ireturn, 1) := by decide +kernel
theorem dL_law_807 : decode cL_law 807 = .ok (.aload_n 1, 1) := by decide +kernel
theorem dL_law_808 : decode cL_law 808 = .ok (.aload_n 0, 1) := by decide +kernel
theorem dL_law_809 : decode cL_law 809 = .ok (.iload_n 3, 1) := by decide +kernel
theorem dL_law_810 : decode cL_law 810 = .ok (.iconst 1, 1) := by decide +kernel
theorem dL_law_811 : decode cL_law 811 = .ok (.iadd, 1) := by decide +kernel
theorem dL_law_812 : decode cL_law 812 = .ok (.iaload, 1) := by decide +kernel
theorem dL_law_813 : decode cL_law 813 = .ok (.aload_n 0, 1) := by decide +kernel
theorem dL_law_814 : decode cL_law 814 = .ok (.iload_n 3, 1) := by decide +kernel
theorem dL_law_815 : decode cL_law 815 = .ok (.iconst 2, 1) := by decide +kernel
theorem dL_law_816 : decode cL_law 816 = .ok (.iadd, 1) := by decide +kernel
theorem dL_law_817 : decode cL_law 817 = .ok (.iaload, 1) := by decide +kernel
theorem dL_law_818 : decode cL_law 818 = .ok (.aload_n 0, 1) := by decide +kernel
theorem dL_law_819 : decode cL_law 819 = .ok (.iload_n 3, 1) := by decide +kernel
theorem dL_law_820 : decode cL_law 820 = .ok (.iconst 3, 1) := by decide +kernel
theorem dL_law_821 : decode cL_law 821 = .ok (.iadd, 1) := by decide +kernel
theorem dL_law_822 : decode cL_law 822 = .ok (.iaload, 1) := by decide +kernel
theorem dL_law_823 : decode cL_law 823 = .ok (.invokevirtual 111, 3) := by decide +kernel
theorem dL_law_826 : decode cL_law 826 = .ok (.aload_n 2, 1) := by decide +kernel
theorem dL_law_827 : decode cL_law 827 = .ok (.aload_n 0, 1) := by decide +kernel
theorem dL_law_828 : decode cL_law 828 = .ok (.iload_n 3, 1) := by decide +kernel
theorem dL_law_829 : decode cL_law 829 = .ok (.iconst 1, 1) := by decide +kernel
theorem dL_law_830 : decode cL_law 830 = .ok (.iadd, 1) := by decide +kernel
theorem dL_law_831 : decode cL_law 831 = .ok (.iaload, 1) := by decide +kernel
theorem dL_law_832 : decode cL_law 832 = .ok (.aload_n 0, 1) := by decide +kernel
theorem dL_law_833 : decode cL_law 833 = .ok (.iload_n 3, 1) := by decide +kernel
theorem dL_law_834 : decode cL_law 834 = .ok (.iconst 2, 1) := by decide +kernel
theorem dL_law_835 : decode cL_law 835 = .ok (.iadd, 1) := by decide +kernel
theorem dL_law_836 : decode cL_law 836 = .ok (.iaload, 1) := by decide +kernel
theorem dL_law_837 : decode cL_law 837 = .ok (.aload_n 0, 1) := by decide +kernel
theorem dL_law_838 : decode cL_law 838 = .ok (.iload_n 3, 1) := by decide +kernel
theorem dL_law_839 : decode cL_law 839 = .ok (.iconst 3, 1) := by decide +kernel
theorem dL_law_840 : decode cL_law 840 = .ok (.iadd, 1) := by decide +kernel
theorem dL_law_841 : decode cL_law 841 = .ok (.iaload, 1) := by decide +kernel
theorem dL_law_842 : decode cL_law 842 = .ok (.invokevirtual 115, 3) := by decide +kernel
theorem dL_law_845 : decode cL_law 845 = .ok (.if_icmp .eq 166, 3) := by decide +kernel
theorem dL_law_848 : decode cL_law 848 = .ok (.iconst 0, 1) := by decide +kernel
theorem dL_law_849 : decode cL_law 849 = .ok (.ireturn, 1) := by decide +kernel
theorem dL_law_850 : decode cL_law 850 = .ok (.aload_n 1, 1) := by decide +kernel
theorem dL_law_851 : decode cL_law 851 = .ok (.aload_n 0, 1) := by decide +kernel
theorem dL_law_852 : decode cL_law 852 = .ok (.iload_n 3, 1) := by decide +kernel
theorem dL_law_853 : decode cL_law 853 = .ok (.iconst 1, 1) := by decide +kernel
theorem dL_law_854 : decode cL_law 854 = .ok (.iadd, 1) := by decide +kernel
theorem dL_law_855 : decode cL_law 855 = .ok (.iaload, 1) := by decide +kernel
theorem dL_law_856 : decode cL_law 856 = .ok (.aload_n 0, 1) := by decide +kernel
theorem dL_law_857 : decode cL_law 857 = .ok (.iload_n 3, 1) := by decide +kernel
theorem dL_law_858 : decode cL_law 858 = .ok (.iconst 2, 1) := by decide +kernel
theorem dL_law_859 : decode cL_law 859 = .ok (.iadd, 1) := by decide +kernel
theorem dL_law_860 : decode cL_law 860 = .ok (.iaload, 1) := by decide +kernel
theorem dL_law_861 : decode cL_law 861 = .ok (.invokevirtual 116, 3) := by decide +kernel
theorem dL_law_864 : decode cL_law 864 = .ok (.aload_n 2, 1) := by decide +kernel
theorem dL_law_865 : decode cL_law 865 = .ok (.aload_n 0, 1) := by decide +kernel
theorem dL_law_866 : decode cL_law 866 = .ok (.iload_n 3, 1) := by decide +kernel
theorem dL_law_867 : decode cL_law 867 = .ok (.iconst 1, 1) := by decide +kernel
theorem dL_law_868 : decode cL_law 868 = .ok (.iadd, 1) := by decide +kernel
theorem dL_law_869 : decode cL_law 869 = .ok (.iaload, 1) := by decide +kernel
theorem dL_law_870 : decode cL_law 870 = .ok (.aload_n 0, 1) := by decide +kernel
theorem dL_law_871 : decode cL_law 871 = .ok (.iload_n 3, 1) := by decide +kernel
theorem dL_law_872 : decode cL_law 872 = .ok (.iconst 2, 1) := by decide +kernel
theorem dL_law_873 : decode cL_law 873 = .ok (.iadd, 1) := by decide +kernel
theorem dL_law_874 : decode cL_law 874 = .ok (.iaload, 1) := by decide +kernel
theorem dL_law_875 : decode cL_law 875 = .ok (.invokevirtual 119, 3) := by decide +kernel
theorem dL_law_878 : decode cL_law 878 = .ok (.if_icmp .eq 133, 3) := by decide +kernel
theorem dL_law_881 : decode cL_law 881 = .ok (.iconst 0, 1) := by decide +kernel
theorem dL_law_882 : decode cL_law 882 = .ok (.ireturn, 1) := by decide +kernel
theorem dL_law_883 : decode cL_law 883 = .ok (.aload_n 1, 1) := by decide +kernel
theorem dL_law_884 : decode cL_law 884 = .ok (.aload_n 0, 1) := by decide +kernel
theorem dL_law_885 : decode cL_law 885 = .ok (.iload_n 3, 1) := by decide +kernel
theorem dL_law_886 : decode cL_law 886 = .ok (.iconst 1, 1) := by decide +kernel
theorem dL_law_887 : decode cL_law 887 = .ok (.iadd, 1) := by decide +kernel
theorem dL_law_888 : decode cL_law 888 = .ok (.iaload, 1) := by decide +kernel
theorem dL_law_889 : decode cL_law 889 = .ok (.aload_n 0, 1) := by decide +kernel
theorem dL_law_890 : decode cL_law 890 = .ok (.iload_n 3, 1) := by decide +kernel
theorem dL_law_891 : decode cL_law 891 = .ok (.iconst 2, 1) := by decide +kernel
theorem dL_law_892 : decode cL_law 892 = .ok (.iadd, 1) := by decide +kernel
theorem dL_law_893 : decode cL_law 893 = .ok (.iaload, 1) := by decide +kernel
theorem dL_law_894 : decode cL_law 894 = .ok (.invokevirtual 120, 3) := by decide +kernel
theorem dL_law_897 : decode cL_law 897 = .ok (.aload_n 2, 1) := by decide +kernel
theorem dL_law_898 : decode cL_law 898 = .ok (.aload_n 0, 1) := by decide +kernel
theorem dL_law_899 : decode cL_law 899 = .ok (.iload_n 3, 1) := by decide +kernel
theorem dL_law_900 : decode cL_law 900 = .ok (.iconst 1, 1) := by decide +kernel
theorem dL_law_901 : decode cL_law 901 = .ok (.iadd, 1) := by decide +kernel
theorem dL_law_902 : decode cL_law 902 = .ok (.iaload, 1) := by decide +kernel
theorem dL_law_903 : decode cL_law 903 = .ok (.aload_n 0, 1) := by decide +kernel
theorem dL_law_904 : decode cL_law 904 = .ok (.iload_n 3, 1) := by decide +kernel
theorem dL_law_905 : decode cL_law 905 = .ok (.iconst 2, 1) := by decide +kernel
theorem dL_law_906 : decode cL_law 906 = .ok (.iadd, 1) := by decide +kernel
theorem dL_law_907 : decode cL_law 907 = .ok (.iaload, 1) := by decide +kernel
theorem dL_law_908 : decode cL_law 908 = .ok (.invokevirtual 123, 3) := by decide +kernel
theorem dL_law_911 : decode cL_law 911 = .ok (.if_icmp .eq 100, 3) := by decide +kernel
theorem dL_law_914 : decode cL_law 914 = .ok (.iconst 0, 1) := by decide +kernel
theorem dL_law_915 : decode cL_law 915 = .ok (.ireturn, 1) := by decide +kernel
theorem dL_law_916 : decode cL_law 916 = .ok (.aload_n 1, 1) := by decide +kernel
theorem dL_law_917 : decode cL_law 917 = .ok (.invokevirtual 124, 3) := by decide +kernel
theorem dL_law_920 : decode cL_law 920 = .ok (.aload_n 2, 1) := by decide +kernel
theorem dL_law_921 : decode cL_law 921 = .ok (.invokevirtual 127, 3) := by decide +kernel
theorem dL_law_924 : decode cL_law 924 = .ok (.if_icmp .eq 87, 3) := by decide +kernel
theorem dL_law_927 : decode cL_law 927 = .ok (.iconst 0, 1) := by decide +kernel
theorem dL_law_928 : decode cL_law 928 = .ok (.ireturn, 1) := by decide +kernel
theorem dL_law_929 : decode cL_law 929 = .ok (.aload_n 1, 1) := by decide +kernel
theorem dL_law_930 : decode cL_law 930 = .ok (.invokevirtual 128, 3) := by decide +kernel
theorem dL_law_933 : decode cL_law 933 = .ok (.aload_n 2, 1) := by decide +kernel
theorem dL_law_934 : decode cL_law 934 = .ok (.invokevirtual 131, 3) := by decide +kernel
theorem dL_law_937 : decode cL_law 937 = .ok (.if_icmp .eq 74, 3) := by decide +kernel
theorem dL_law_940 : decode cL_law 940 = .ok (.iconst 0, 1) := by decide +kernel
theorem dL_law_941 : decode cL_law 941 = .ok (.ireturn, 1) := by decide +kernel
theorem dL_law_942 : decode cL_law 942 = .ok (.aload_n 1, 1) := by decide +kernel
theorem dL_law_943 : decode cL_law 943 = .ok (.aload_n 0, 1) := by decide +kernel
theorem dL_law_944 : decode cL_law 944 = .ok (.iload_n 3, 1) := by decide +kernel
theorem dL_law_945 : decode cL_law 945 = .ok (.iconst 1, 1) := by decide +kernel
theorem dL_law_946 : decode cL_law 946 = .ok (.iadd, 1) := by decide +kernel
theorem dL_law_947 : decode cL_law 947 = .ok (.iaload, 1) := by decide +kernel
theorem dL_law_948 : decode cL_law 948 = .ok (.invokevirtual 132, 3) := by decide +kernel
theorem dL_law_951 : decode cL_law 951 = .ok (.aload_n 2, 1) := by decide +kernel
theorem dL_law_952 : decode cL_law 952 = .ok (.aload_n 0, 1) := by decide +kernel
theorem dL_law_953 : decode cL_law 953 = .ok (.iload_n 3, 1) := by decide +kernel
theorem dL_law_954 : decode cL_law 954 = .ok (.iconst 1, 1) := by decide +kernel
theorem dL_law_955 : decode cL_law 955 = .ok (.iadd, 1) := by decide +kernel
theorem dL_law_956 : decode cL_law 956 = .ok (.iaload, 1) := by decide +kernel
theorem dL_law_957 : decode cL_law 957 = .ok (.invokevirtual 135, 3) := by decide +kernel
theorem dL_law_960 : decode cL_law 960 = .ok (.if_icmp .eq 51, 3) := by decide +kernel
theorem dL_law_963 : decode cL_law 963 = .ok (.iconst 0, 1) := by decide +kernel
theorem dL_law_964 : decode cL_law 964 = .ok (.ireturn, 1) := by decide +kernel
theorem dL_law_965 : decode cL_law 965 = .ok (.aload_n 1, 1) := by decide +kernel
theorem dL_law_966 : decode cL_law 966 = .ok (.aload_n 0, 1) := by decide +kernel
theorem dL_law_967 : decode cL_law 967 = .ok (.iload_n 3, 1) := by decide +kernel
theorem dL_law_968 : decode cL_law 968 = .ok (.iconst 1, 1) := by decide +kernel
theorem dL_law_969 : decode cL_law 969 = .ok (.iadd, 1) := by decide +kernel
theorem dL_law_970 : decode cL_law 970 = .ok (.iaload, 1) := by decide +kernel
theorem dL_law_971 : decode cL_law 971 = .ok (.invokevirtual 136, 3) := by decide +kernel
theorem dL_law_974 : decode cL_law 974 = .ok (.aload_n 2, 1) := by decide +kernel
theorem dL_law_975 : decode cL_law 975 = .ok (.aload_n 0, 1) := by decide +kernel
theorem dL_law_976 : decode cL_law 976 = .ok (.iload_n 3, 1) := by decide +kernel
theorem dL_law_977 : decode cL_law 977 = .ok (.iconst 1, 1) := by decide +kernel
theorem dL_law_978 : decode cL_law 978 = .ok (.iadd, 1) := by decide +kernel
theorem dL_law_979 : decode cL_law 979 = .ok (.iaload, 1) := by decide +kernel
theorem dL_law_980 : decode cL_law 980 = .ok (.invokevirtual 139, 3) := by decide +kernel
theorem dL_law_983 : decode cL_law 983 = .ok (.if_icmp .eq 28, 3) := by decide +kernel
theorem dL_law_986 : decode cL_law 986 = .ok (.iconst 0, 1) := by decide +kernel
theorem dL_law_987 : decode cL_law 987 = .ok (.ireturn, 1) := by decide +kernel
theorem dL_law_988 : decode cL_law 988 = .ok (.aload_n 1, 1) := by decide +kernel
theorem dL_law_989 : decode cL_law 989 = .ok (.aload_n 0, 1) := by decide +kernel
theorem dL_law_990 : decode cL_law 990 = .ok (.iload_n 3, 1) := by decide +kernel
theorem dL_law_991 : decode cL_law 991 = .ok (.iconst 1, 1) := by decide +kernel
theorem dL_law_992 : decode cL_law 992 = .ok (.iadd, 1) := by decide +kernel
theorem dL_law_993 : decode cL_law 993 = .ok (.iaload, 1) := by decide +kernel
theorem dL_law_994 : decode cL_law 994 = .ok (.invokevirtual 140, 3) := by decide +kernel
theorem dL_law_997 : decode cL_law 997 = .ok (.aload_n 2, 1) := by decide +kernel
theorem dL_law_998 : decode cL_law 998 = .ok (.aload_n 0, 1) := by decide +kernel
theorem dL_law_999 : decode cL_law 999 = .ok (.iload_n 3, 1) := by decide +kernel
theorem dL_law_1000 : decode cL_law 1000 = .ok (.iconst 1, 1) := by decide +kernel
theorem dL_law_1001 : decode cL_law 1001 = .ok (.iadd, 1) := by decide +kernel
theorem dL_law_1002 : decode cL_law 1002 = .ok (.iaload, 1) := by decide +kernel
theorem dL_law_1003 : decode cL_law 1003 = .ok (.invokevirtual 143, 3) := by decide +kernel
theorem dL_law_1006 : decode cL_law 1006 = .ok (.if_icmp .eq 5, 3) := by decide +kernel
theorem dL_law_1009 : decode cL_law 1009 = .ok (.iconst 0, 1) := by decide +kernel
theorem dL_law_1010 : decode cL_law 1010 = .ok (.ireturn, 1) := by decide +kernel
theorem dL_law_1011 : decode cL_law 1011 = .ok (.iinc 3 6, 3) := by decide +kernel
theorem dL_law_1014 : decode cL_law 1014 = .ok (.goto (-996), 3) := by decide +kernel
theorem dL_law_1017 : decode cL_law 1017 = .ok (.iconst 1, 1) := by decide +kernel
theorem dL_law_1018 : decode cL_law 1018 = .ok (.ireturn, 1) := by decide +kernel
end
section
theorem kbipush_m10 : (Int8.ofInt (-10)).toInt32 = (-10) := by decide
theorem kbipush_m2 : (Int8.ofInt (-2)).toInt32 = (-2) := by decide
theorem kbipush_6 : (Int8.ofInt (6)).toInt32 = (nI 6) := by decide
theorem kbipush_8 : (Int8.ofInt (8)).toInt32 = (nI 8) := by decide
theorem kbipush_9 : (Int8.ofInt (9)).toInt32 = (nI 9) := by decide
theorem kbipush_10 : (Int8.ofInt (10)).toInt32 = (nI 10) := by decide
theorem kbipush_15 : (Int8.ofInt (15)).toInt32 = (nI 15) := by decide
theorem kbipush_16 : (Int8.ofInt (16)).toInt32 = (nI 16) := by decide
theorem kbipush_20 : (Int8.ofInt (20)).toInt32 = (nI 20) := by decide
theorem kbipush_25 : (Int8.ofInt (25)).toInt32 = (nI 25) := by decide
theorem kbipush_29 : (Int8.ofInt (29)).toInt32 = (nI 29) := by decide
theorem kbipush_30 : (Int8.ofInt (30)).toInt32 = (nI 30) := by decide
theorem kbipush_31 : (Int8.ofInt (31)).toInt32 = (nI 31) := by decide
theorem kbipush_32 : (Int8.ofInt (32)).toInt32 = (nI 32) := by decide
theorem kbipush_33 : (Int8.ofInt (33)).toInt32 = (nI 33) := by decide
theorem kbipush_34 : (Int8.ofInt (34)).toInt32 = (nI 34) := by decide
theorem kbipush_35 : (Int8.ofInt (35)).toInt32 = (nI 35) := by decide
theorem kbipush_44 : (Int8.ofInt (44)).toInt32 = (nI 44) := by decide
theorem kbipush_48 : (Int8.ofInt (48)).toInt32 = (nI 48) := by decide
theorem kbipush_57 : (Int8.ofInt (57)).toInt32 = (nI 57) := by decide
theorem kbipush_59 : (Int8.ofInt (59)).toInt32 = (nI 59) := by decide
theorem kbipush_60 : (Int8.ofInt (60)).toInt32 = (nI 60) := by decide
theorem kbipush_63 : (Int8.ofInt (63)).toInt32 = (nI 63) := by decide
theorem kbipush_70 : (Int8.ofInt (70)).toInt32 = (nI 70) := by decide
theorem kbipush_99 : (Int8.ofInt (99)).toInt32 = (nI 99) := by decide
theorem kbipush_100 : (Int8.ofInt (100)).toInt32 = (nI 100) := by decide
theorem kbipush_102 : (Int8.ofInt (102)).toInt32 = (nI 102) := by decide
theorem kbipush_108 : (Int8.ofInt (108)).toInt32 = (nI 108) := by decide
theorem kbipush_110 : (Int8.ofInt (110)).toInt32 = (nI 110) := by decide
theorem kbipush_119 : (Int8.ofInt (119)).toInt32 = (nI 119) := by decide
theorem kiconst_m1 : Int32.ofInt (-1) = (-1) := by decide
theorem kiconst_0 : Int32.ofInt (0) = (nI 0) := by decide
theorem kiconst_1 : Int32.ofInt (1) = (nI 1) := by decide
theorem kiconst_2 : Int32.ofInt (2) = (nI 2) := by decide
theorem kiconst_3 : Int32.ofInt (3) = (nI 3) := by decide
theorem kiconst_4 : Int32.ofInt (4) = (nI 4) := by decide
theorem kiconst_5 : Int32.ofInt (5) = (nI 5) := by decide
theorem ksipush_240 : (Int16.ofInt (240)).toInt32 = (nI 240) := by decide
theorem ksipush_255 : (Int16.ofInt (255)).toInt32 = (nI 255) := by decide
theorem ksipush_544 : (Int16.ofInt (544)).toInt32 = (nI 544) := by decide
theorem ksipush_9000 : (Int16.ofInt (9000)).toInt32 = (nI 9000) := by decide
theorem ksipush_10000 : (Int16.ofInt (10000)).toInt32 = (nI 10000) := by decide
theorem ksipush_12345 : (Int16.ofInt (12345)).toInt32 = (nI 12345) := by decide
theorem nI_inc (i : Nat) : nI i + Int32.ofInt 1 = nI (i + 1) := nI_1 i
theorem rf_o {S : Sto} {i ci k : Nat} (h : jsh i = (0, ci)) (hc : ci ≠ 9 ∧ ci ≠ 8 ∧ ci ≠ 10) : rf S i k = i + 1 + k := by
  have h0 : i ≠ 0 := fun q => by subst q; exact hc.1 (by cases h; rfl)
  have h9 : i ≠ 9 := fun q => by subst q; exact hc.2.1 (by cases h; rfl)
  have hm : i ≠ 114 := fun q => by subst q; exact hc.2.2 (by cases h; rfl)
  unfold rf
  rw [if_neg h0, if_neg h9, if_neg hm]
theorem nar_c {c : Prop} [Decidable c] : narrow .boolean (.int (if c then nI 1 else nI 0)) = .int (if c then nI 1 else nI 0) := by
  by_cases h : c
  · rw [if_pos h]; rfl
  · rw [if_neg h]; rfl
theorem zI_0 {c : Prop} [Decidable c] : (if c then nI 1 else nI 0) = 0 ↔ ¬ c := by
  by_cases h : c
  · rw [if_pos h]; exact ⟨fun q => absurd q (by decide), fun q => absurd h q⟩
  · rw [if_neg h]; exact ⟨fun _ => h, fun _ => by decide⟩
section Rows7
variable {l : Launch} {C : JC} {E : JE} {own : String} {cc : ByteArray} {d : Nat} {S : Sto} {pc : Nat} {lv : List (Option Value)} {st : List Value}
theorem j_ifeqP (hE : Jok l C E own cc d) {p : Prop} [Decidable p] {off : Int} (tgt : Nat) (hd : decode cc pc = .ok (.ifCond .eq off, 3)) (ht : (pc : Int) + off = (tgt : Int)) (kt : ¬ p → J C E S tgt lv st) (kf : p → J C E S (pc + 3) lv st) : J C E S pc lv (.int (if p then nI 1 else nI 0) :: st) :=
  j_ifeq hE tgt hd ht (fun h => kt (zI_0.mp h)) (fun h => kf (Decidable.not_not.mp (fun q => h (zI_0.mpr q))))
theorem j_ifneP (hE : Jok l C E own cc d) {p : Prop} [Decidable p] {off : Int} (tgt : Nat) (hd : decode cc pc = .ok (.ifCond .ne off, 3)) (ht : (pc : Int) + off = (tgt : Int)) (kt : p → J C E S tgt lv st) (kf : ¬ p → J C E S (pc + 3) lv st) : J C E S pc lv (.int (if p then nI 1 else nI 0) :: st) :=
  j_ifne hE tgt hd ht (fun h => kt (Decidable.not_not.mp (fun q => h (zI_0.mpr q)))) (fun h => kf (zI_0.mp h))
theorem j_cast {S' : Sto} {lv' : List (Option Value)} (h : S = S') (h2 : lv = lv') (k : J C E S' pc lv' st) : J C E S pc lv st := by subst h; subst h2; exact k
theorem j_tabC (hE : Jok l C E own cc d) {dflt lo hi : Int} {offs : Array Int} {len : Nat} {x : Int32} {off : Int} (tgt i : Nat) (hd : decode cc pc = .ok (.tableswitch dflt lo hi offs, len)) (hx : x = nI i) (h1 : ¬ (nI i).toInt < lo) (h2 : ¬ hi < (nI i).toInt) (ho : offs[((nI i).toInt - lo).toNat]? = some off) (ht : (pc : Int) + off = (tgt : Int)) (k : J C E S tgt lv st) : J C E S pc lv (.int x :: st) := by
  subst hx
  exact j_tabIn hE tgt hd h1 h2 ho ht k
end Rows7
theorem sw_out {x : Int32} {a b : Int} (h : x.toInt < a ∨ b < x.toInt) : x.toInt < a ∨ b < x.toInt := h
theorem i32_of {x : Int32} {n : Nat} (h : x.toInt = n) : x = nI n := by
  apply Int32.toInt_inj.mp
  have hb : x.toInt < 2 ^ 31 := Int32.toInt_lt x
  rw [h, nI_toInt (by omega)]
theorem sw_2 (x : Int32) : x = nI 0 ∨ x = nI 1 ∨ (x.toInt < 0 ∨ 1 < x.toInt) := by
  by_cases h : x.toInt < 0 ∨ 1 < x.toInt
  · right; right; exact h
  · have h0 : 0 ≤ x.toInt := by omega
    obtain ⟨j, hj⟩ := Int.eq_ofNat_of_zero_le h0
    have hx : x = nI j := i32_of hj
    have hj2 : j < 2 := by omega
    subst hx
    match j, hj2 with
    | 0, _ => left; exact rfl
    | 1, _ => right; left; exact rfl
    | j + 2, h => omega
theorem sw_3 (x : Int32) : x = nI 0 ∨ x = nI 1 ∨ x = nI 2 ∨ (x.toInt < 0 ∨ 2 < x.toInt) := by
  by_cases h : x.toInt < 0 ∨ 2 < x.toInt
  · right; right; right; exact h
  · have h0 : 0 ≤ x.toInt := by omega
    obtain ⟨j, hj⟩ := Int.eq_ofNat_of_zero_le h0
    have hx : x = nI j := i32_of hj
    have hj2 : j < 3 := by omega
    subst hx
    match j, hj2 with
    | 0, _ => left; exact rfl
    | 1, _ => right; left; exact rfl
    | 2, _ => right; right; left; exact rfl
    | j + 3, h => omega
theorem sw_4 (x : Int32) : x = nI 0 ∨ x = nI 1 ∨ x = nI 2 ∨ x = nI 3 ∨ (x.toInt < 0 ∨ 3 < x.toInt) := by
  by_cases h : x.toInt < 0 ∨ 3 < x.toInt
  · right; right; right; right; exact h
  · have h0 : 0 ≤ x.toInt := by omega
    obtain ⟨j, hj⟩ := Int.eq_ofNat_of_zero_le h0
    have hx : x = nI j := i32_of hj
    have hj2 : j < 4 := by omega
    subst hx
    match j, hj2 with
    | 0, _ => left; exact rfl
    | 1, _ => right; left; exact rfl
    | 2, _ => right; right; left; exact rfl
    | 3, _ => right; right; right; left; exact rfl
    | j + 4, h => omega
theorem sw_21 (x : Int32) : x = nI 0 ∨ x = nI 1 ∨ x = nI 2 ∨ x = nI 3 ∨ x = nI 4 ∨ x = nI 5 ∨ x = nI 6 ∨ x = nI 7 ∨ x = nI 8 ∨ x = nI 9 ∨ x = nI 10 ∨ x = nI 11 ∨ x = nI 12 ∨ x = nI 13 ∨ x = nI 14 ∨ x = nI 15 ∨ x = nI 16 ∨ x = nI 17 ∨ x = nI 18 ∨ x = nI 19 ∨ x = nI 20 ∨ (x.toInt < 0 ∨ 20 < x.toInt) := by
  by_cases h : x.toInt < 0 ∨ 20 < x.toInt
  · right; right; right; right; right; right; right; right; right; right; right; right; right; right; right; right; right; right; right; right; right; exact h
  · have h0 : 0 ≤ x.toInt := by omega
    obtain ⟨j, hj⟩ := Int.eq_ofNat_of_zero_le h0
    have hx : x = nI j := i32_of hj
    have hj2 : j < 21 := by omega
    subst hx
    match j, hj2 with
    | 0, _ => left; exact rfl
    | 1, _ => right; left; exact rfl
    | 2, _ => right; right; left; exact rfl
    | 3, _ => right; right; right; left; exact rfl
    | 4, _ => right; right; right; right; left; exact rfl
    | 5, _ => right; right; right; right; right; left; exact rfl
    | 6, _ => right; right; right; right; right; right; left; exact rfl
    | 7, _ => right; right; right; right; right; right; right; left; exact rfl
    | 8, _ => right; right; right; right; right; right; right; right; left; exact rfl
    | 9, _ => right; right; right; right; right; right; right; right; right; left; exact rfl
    | 10, _ => right; right; right; right; right; right; right; right; right; right; left; exact rfl
    | 11, _ => right; right; right; right; right; right; right; right; right; right; right; left; exact rfl
    | 12, _ => right; right; right; right; right; right; right; right; right; right; right; right; left; exact rfl
    | 13, _ => right; right; right; right; right; right; right; right; right; right; right; right; right; left; exact rfl
    | 14, _ => right; right; right; right; right; right; right; right; right; right; right; right; right; right; left; exact rfl
    | 15, _ => right; right; right; right; right; right; right; right; right; right; right; right; right; right; right; left; exact rfl
    | 16, _ => right; right; right; right; right; right; right; right; right; right; right; right; right; right; right; right; left; exact rfl
    | 17, _ => right; right; right; right; right; right; right; right; right; right; right; right; right; right; right; right; right; left; exact rfl
    | 18, _ => right; right; right; right; right; right; right; right; right; right; right; right; right; right; right; right; right; right; left; exact rfl
    | 19, _ => right; right; right; right; right; right; right; right; right; right; right; right; right; right; right; right; right; right; right; left; exact rfl
    | 20, _ => right; right; right; right; right; right; right; right; right; right; right; right; right; right; right; right; right; right; right; right; left; exact rfl
    | j + 21, h => omega
theorem sw_31 (x : Int32) : x = nI 0 ∨ x = nI 1 ∨ x = nI 2 ∨ x = nI 3 ∨ x = nI 4 ∨ x = nI 5 ∨ x = nI 6 ∨ x = nI 7 ∨ x = nI 8 ∨ x = nI 9 ∨ x = nI 10 ∨ x = nI 11 ∨ x = nI 12 ∨ x = nI 13 ∨ x = nI 14 ∨ x = nI 15 ∨ x = nI 16 ∨ x = nI 17 ∨ x = nI 18 ∨ x = nI 19 ∨ x = nI 20 ∨ x = nI 21 ∨ x = nI 22 ∨ x = nI 23 ∨ x = nI 24 ∨ x = nI 25 ∨ x = nI 26 ∨ x = nI 27 ∨ x = nI 28 ∨ x = nI 29 ∨ x = nI 30 ∨ (x.toInt < 0 ∨ 30 < x.toInt) := by
  by_cases h : x.toInt < 0 ∨ 30 < x.toInt
  · right; right; right; right; right; right; right; right; right; right; right; right; right; right; right; right; right; right; right; right; right; right; right; right; right; right; right; right; right; right; right; exact h
  · have h0 : 0 ≤ x.toInt := by omega
    obtain ⟨j, hj⟩ := Int.eq_ofNat_of_zero_le h0
    have hx : x = nI j := i32_of hj
    have hj2 : j < 31 := by omega
    subst hx
    match j, hj2 with
    | 0, _ => left; exact rfl
    | 1, _ => right; left; exact rfl
    | 2, _ => right; right; left; exact rfl
    | 3, _ => right; right; right; left; exact rfl
    | 4, _ => right; right; right; right; left; exact rfl
    | 5, _ => right; right; right; right; right; left; exact rfl
    | 6, _ => right; right; right; right; right; right; left; exact rfl
    | 7, _ => right; right; right; right; right; right; right; left; exact rfl
    | 8, _ => right; right; right; right; right; right; right; right; left; exact rfl
    | 9, _ => right; right; right; right; right; right; right; right; right; left; exact rfl
    | 10, _ => right; right; right; right; right; right; right; right; right; right; left; exact rfl
    | 11, _ => right; right; right; right; right; right; right; right; right; right; right; left; exact rfl
    | 12, _ => right; right; right; right; right; right; right; right; right; right; right; right; left; exact rfl
    | 13, _ => right; right; right; right; right; right; right; right; right; right; right; right; right; left; exact rfl
    | 14, _ => right; right; right; right; right; right; right; right; right; right; right; right; right; right; left; exact rfl
    | 15, _ => right; right; right; right; right; right; right; right; right; right; right; right; right; right; right; left; exact rfl
    | 16, _ => right; right; right; right; right; right; right; right; right; right; right; right; right; right; right; right; left; exact rfl
    | 17, _ => right; right; right; right; right; right; right; right; right; right; right; right; right; right; right; right; right; left; exact rfl
    | 18, _ => right; right; right; right; right; right; right; right; right; right; right; right; right; right; right; right; right; right; left; exact rfl
    | 19, _ => right; right; right; right; right; right; right; right; right; right; right; right; right; right; right; right; right; right; right; left; exact rfl
    | 20, _ => right; right; right; right; right; right; right; right; right; right; right; right; right; right; right; right; right; right; right; right; left; exact rfl
    | 21, _ => right; right; right; right; right; right; right; right; right; right; right; right; right; right; right; right; right; right; right; right; right; left; exact rfl
    | 22, _ => right; right; right; right; right; right; right; right; right; right; right; right; right; right; right; right; right; right; right; right; right; right; left; exact rfl
    | 23, _ => right; right; right; right; right; right; right; right; right; right; right; right; right; right; right; right; right; right; right; right; right; right; right; left; exact rfl
    | 24, _ => right; right; right; right; right; right; right; right; right; right; right; right; right; right; right; right; right; right; right; right; right; right; right; right; left; exact rfl
    | 25, _ => right; right; right; right; right; right; right; right; right; right; right; right; right; right; right; right; right; right; right; right; right; right; right; right; right; left; exact rfl
    | 26, _ => right; right; right; right; right; right; right; right; right; right; right; right; right; right; right; right; right; right; right; right; right; right; right; right; right; right; left; exact rfl
    | 27, _ => right; right; right; right; right; right; right; right; right; right; right; right; right; right; right; right; right; right; right; right; right; right; right; right; right; right; right; left; exact rfl
    | 28, _ => right; right; right; right; right; right; right; right; right; right; right; right; right; right; right; right; right; right; right; right; right; right; right; right; right; right; right; right; left; exact rfl
    | 29, _ => right; right; right; right; right; right; right; right; right; right; right; right; right; right; right; right; right; right; right; right; right; right; right; right; right; right; right; right; right; left; exact rfl
    | 30, _ => right; right; right; right; right; right; right; right; right; right; right; right; right; right; right; right; right; right; right; right; right; right; right; right; right; right; right; right; right; right; left; exact rfl
    | j + 31, h => omega
end
section
theorem up2_upA (S : Sto) (a : Nat) (f : Nat → Int32) (k : Nat) (v : Int32) : up2 (upA S a f) a k v = upA S a (upd f k v) := by
  funext j
  unfold up2 upA
  by_cases h : j = a <;> simp [h]
theorem upA_upA (S : Sto) (a : Nat) (f g : Nat → Int32) : upA (upA S a f) a g = upA S a g := by
  funext j
  unfold upA
  by_cases h : j = a <;> simp [h]
theorem upA_self (S : Sto) (a : Nat) : upA S a (S a) = S := by
  funext j
  unfold upA
  by_cases h : j = a <;> simp [h]
def bcF (x0 : Int32) : Int32 :=
  let x1 := x0 - ((x0.toUInt32 >>> ((nI 1).toUInt32 &&& Int32.toUInt32 31)).toInt32 &&& 1431655765)
  let x2 := (x1 &&& 858993459) + ((x1.toUInt32 >>> ((nI 2).toUInt32 &&& Int32.toUInt32 31)).toInt32 &&& 858993459)
  let x3 := (x2 + (x2.toUInt32 >>> ((nI 4).toUInt32 &&& Int32.toUInt32 31)).toInt32) &&& 252645135
  let x4 := x3 + (x3.toUInt32 >>> ((nI 8).toUInt32 &&& Int32.toUInt32 31)).toInt32
  let x5 := x4 + (x4.toUInt32 >>> ((nI 16).toUInt32 &&& Int32.toUInt32 31)).toInt32
  x5 &&& nI 63
def minF (a b : Int32) : Int32 := if b < a then b else a
def maxF (a b : Int32) : Int32 := if a < b then b else a
def pickF (n : Nat) (f : Nat → Int32) (i : Int32) : Int32 := if i < 0 ∨ nI n ≤ i then nI 0 else f i.toNatClampNeg
def putS (n : Nat) (S : Sto) (a : Nat) (i v : Int32) : Sto := if i < 0 ∨ nI n ≤ i then S else up2 S a i.toNatClampNeg v
theorem fa_nle {a b : Int32} (h : ¬ a ≤ b) : b < a := by
  rw [Int32.le_iff_toInt_le] at h
  rw [Int32.lt_iff_toInt_lt]
  omega
theorem fa_nlt {a b : Int32} (h : b < a) : ¬ a ≤ b := by
  rw [Int32.lt_iff_toInt_lt] at h
  rw [Int32.le_iff_toInt_le]
  omega
theorem vp_in_of2 {i : Int32} {n : Nat} (hn : n < 2 ^ 31) (h1 : ¬ i < 0) (h2 : ¬ nI n ≤ i) : vp_in i n := by
  obtain ⟨j, hj, rfl⟩ := nI_of h1
  exact vp_in_nI (by
    rcases Nat.lt_or_ge j n with q | q
    · exact q
    · exact absurd (nI_le q hj) h2) hn
theorem pickN {n : Nat} {f : Nat → Int32} {x : Nat} (h : x < n) (hn : n < 2 ^ 31) : pickF n f (nI x) = f x := by
  unfold pickF
  rw [if_neg (fun q => q.elim (nI_pos (Nat.lt_trans h hn)) (nI_ge h hn)), nI_clamp (Nat.lt_trans h hn)]
theorem putN {n : Nat} {S : Sto} {a x : Nat} {v : Int32} (h : x < n) (hn : n < 2 ^ 31) : putS n S a (nI x) v = up2 S a x v := by
  unfold putS
  rw [if_neg (fun q => q.elim (nI_pos (Nat.lt_trans h hn)) (nI_ge h hn)), nI_clamp (Nat.lt_trans h hn)]
set_option maxHeartbeats 4000000 in
set_option maxRecDepth 100000 in
theorem c_J6_bitCount_0f7a4 (l : Launch) (C : JC) (hC : JInj C) (S : Sto) (x : Int32) : Con l C yJ6_bitCount_0f7a4 cJ6_bitCount_0f7a4 1 (some .int) 1 [.int x] S (some (.int (bcF x))) (S) := by
  refine con_of RJ6 0 [some (.int x)] (by decide) rfl hC (Nat.le_of_ble_eq_true rfl) rfl (Nat.le_of_ble_eq_true rfl) (fun E hE hR => ?_)
  refine j_iload0 hE dJ6_bitCount_0f7a4_0 ?_
  refine j_iload0 hE dJ6_bitCount_0f7a4_1 ?_
  refine j_iconst hE (nI 1) dJ6_bitCount_0f7a4_2 kiconst_1 ?_
  refine j_iushr hE dJ6_bitCount_0f7a4_3 ?_
  refine j_ldcw hE dJ6_bitCount_0f7a4_4 kJ6_265 ?_
  refine j_iand hE dJ6_bitCount_0f7a4_7 ?_
  refine j_isub hE dJ6_bitCount_0f7a4_8 ?_
  refine j_istore0 hE dJ6_bitCount_0f7a4_9 ?_
  refine j_iload0 hE dJ6_bitCount_0f7a4_10 ?_
  refine j_ldcw hE dJ6_bitCount_0f7a4_11 kJ6_266 ?_
  refine j_iand hE dJ6_bitCount_0f7a4_14 ?_
  refine j_iload0 hE dJ6_bitCount_0f7a4_15 ?_
  refine j_iconst hE (nI 2) dJ6_bitCount_0f7a4_16 kiconst_2 ?_
  refine j_iushr hE dJ6_bitCount_0f7a4_17 ?_
  refine j_ldcw hE dJ6_bitCount_0f7a4_18 kJ6_266 ?_
  refine j_iand hE dJ6_bitCount_0f7a4_21 ?_
  refine j_iadd hE dJ6_bitCount_0f7a4_22 ?_
  refine j_istore0 hE dJ6_bitCount_0f7a4_23 ?_
  refine j_iload0 hE dJ6_bitCount_0f7a4_24 ?_
  refine j_iload0 hE dJ6_bitCount_0f7a4_25 ?_
  refine j_iconst hE (nI 4) dJ6_bitCount_0f7a4_26 kiconst_4 ?_
  refine j_iushr hE dJ6_bitCount_0f7a4_27 ?_
  refine j_iadd hE dJ6_bitCount_0f7a4_28 ?_
  refine j_ldcw hE dJ6_bitCount_0f7a4_29 kJ6_267 ?_
  refine j_iand hE dJ6_bitCount_0f7a4_32 ?_
  refine j_istore0 hE dJ6_bitCount_0f7a4_33 ?_
  refine j_iload0 hE dJ6_bitCount_0f7a4_34 ?_
  refine j_iload0 hE dJ6_bitCount_0f7a4_35 ?_
  refine j_bipush hE (nI 8) dJ6_bitCount_0f7a4_36 kbipush_8 ?_
  refine j_iushr hE dJ6_bitCount_0f7a4_38 ?_
  refine j_iadd hE dJ6_bitCount_0f7a4_39 ?_
  refine j_istore0 hE dJ6_bitCount_0f7a4_40 ?_
  refine j_iload0 hE dJ6_bitCount_0f7a4_41 ?_
  refine j_iload0 hE dJ6_bitCount_0f7a4_42 ?_
  refine j_bipush hE (nI 16) dJ6_bitCount_0f7a4_43 kbipush_16 ?_
  refine j_iushr hE dJ6_bitCount_0f7a4_45 ?_
  refine j_iadd hE dJ6_bitCount_0f7a4_46 ?_
  refine j_istore0 hE dJ6_bitCount_0f7a4_47 ?_
  refine j_iload0 hE dJ6_bitCount_0f7a4_48 ?_
  refine j_bipush hE (nI 63) dJ6_bitCount_0f7a4_49 kbipush_63 ?_
  refine j_iand hE dJ6_bitCount_0f7a4_51 ?_
  exact j_iret hE hR dJ6_bitCount_0f7a4_52 (rfl) (rfl)

theorem j_mmin {l : Launch} {C : JC} {E : JE} {own : String} {cc : ByteArray} {d : Nat} {S : Sto} {pc : Nat} {lv : List (Option Value)} {rest : List Value} (hE : Jok l C E own cc d) {idx : Nat} (hc : CS own idx yJ9_min_7cf53 cJ9_min_7cf53 2 (some .int) 2) {x y : Int32} (hd : decode cc pc = .ok (.invokestatic idx, 3)) (hd' : 1 ≤ d) (hr : (rest.map fun v => v.category).sum ≤ 8) (kk : J C E S (pc + 3) lv (.int (minF x y) :: rest)) : J C E S pc lv (.int y :: .int x :: rest) := by
  obtain ⟨p, l0, e, R, s, m, args, below, meth, c, A, cells, slots, nL, Q⟩ := E
  obtain ⟨rfl, hx, hb, hml, hown, hts, hK, hN, hC, hA, hfr, hlo, hce, hsl⟩ := hE
  obtain ⟨⟨c1, c2, c3, c4⟩, c5, c6⟩ := hc
  intro H locs ls hP hS hv
  exact va_mmin hx hb (hml.trans hv.1.symm) hown (hts _ c5) (hts _ c6) (hts _ c2) (hts _ c1) (Nat.le_trans hd' hfr) (Nat.le_trans (by omega : _ ≤ 128 * d) hlo) hce hsl hd (kk H locs ls hP hS hv)
theorem j_mmax {l : Launch} {C : JC} {E : JE} {own : String} {cc : ByteArray} {d : Nat} {S : Sto} {pc : Nat} {lv : List (Option Value)} {rest : List Value} (hE : Jok l C E own cc d) {idx : Nat} (hc : CS own idx yJ9_max_7cf53 cJ9_max_7cf53 2 (some .int) 2) {x y : Int32} (hd : decode cc pc = .ok (.invokestatic idx, 3)) (hd' : 1 ≤ d) (hr : (rest.map fun v => v.category).sum ≤ 8) (kk : J C E S (pc + 3) lv (.int (maxF x y) :: rest)) : J C E S pc lv (.int y :: .int x :: rest) := by
  obtain ⟨p, l0, e, R, s, m, args, below, meth, c, A, cells, slots, nL, Q⟩ := E
  obtain ⟨rfl, hx, hb, hml, hown, hts, hK, hN, hC, hA, hfr, hlo, hce, hsl⟩ := hE
  obtain ⟨⟨c1, c2, c3, c4⟩, c5, c6⟩ := hc
  intro H locs ls hP hS hv
  exact va_mmax hx hb (hml.trans hv.1.symm) hown (hts _ c5) (hts _ c6) (hts _ c2) (hts _ c1) (Nat.le_trans hd' hfr) (Nat.le_trans (by omega : _ ≤ 128 * d) hlo) hce hsl hd (kk H locs ls hP hS hv)
set_option maxHeartbeats 4000000 in
set_option maxRecDepth 100000 in
theorem c_X10_outside (l : Launch) (C : JC) (hC : JInj C) (S : Sto) (v a b : Int32) : Con l C yX10_outside cX10_outside 3 (some .boolean) 1 [.int v, .int a, .int b] S (some (.int (if v < a ∨ b < v then nI 1 else nI 0))) (S) := by
  refine con_of RX10 0 [some (.int v), some (.int a), some (.int b)] (by decide) rfl hC (Nat.le_of_ble_eq_true rfl) rfl (Nat.le_of_ble_eq_true rfl) (fun E hE hR => ?_)
  refine j_iload0 hE dX10_outside_0 ?_
  refine j_iload1 hE dX10_outside_1 ?_
  refine j_icmplt hE 10 dX10_outside_2 (by decide) (fun c2 => ?_) (fun c2 => ?_)
  · skip
    refine j_iconst hE (nI 1) dX10_outside_10 kiconst_1 ?_
    refine j_goto hE 15 dX10_outside_11 (by decide) ?_
    exact j_zret hE hR dX10_outside_15 (by first
    | (rw [if_pos (Or.inl c2)]; done)
    | (rw [if_pos (Or.inr (fa_nle c7))]; done)
    | (rw [if_neg (fun q => q.elim c2 (fun z => absurd c7 (fa_nlt z)))]; done)) (rfl) nar_c
  · skip
    refine j_iload0 hE dX10_outside_5 ?_
    refine j_iload2 hE dX10_outside_6 ?_
    refine j_icmple hE 14 dX10_outside_7 (by decide) (fun c7 => ?_) (fun c7 => ?_)
    · skip
      refine j_iconst hE (nI 0) dX10_outside_14 kiconst_0 ?_
      exact j_zret hE hR dX10_outside_15 (by first
    | (rw [if_pos (Or.inl c2)]; done)
    | (rw [if_pos (Or.inr (fa_nle c7))]; done)
    | (rw [if_neg (fun q => q.elim c2 (fun z => absurd c7 (fa_nlt z)))]; done)) (rfl) nar_c
    · skip
      refine j_iconst hE (nI 1) dX10_outside_10 kiconst_1 ?_
      refine j_goto hE 15 dX10_outside_11 (by decide) ?_
      exact j_zret hE hR dX10_outside_15 (by first
    | (rw [if_pos (Or.inl c2)]; done)
    | (rw [if_pos (Or.inr (fa_nle c7))]; done)
    | (rw [if_neg (fun q => q.elim c2 (fun z => absurd c7 (fa_nlt z)))]; done)) (rfl) nar_c

set_option maxHeartbeats 4000000 in
set_option maxRecDepth 100000 in
theorem c_X10_pick (l : Launch) (C : JC) (hC : JInj C) (S : Sto) (a n : Nat) (hs : jsh a = (1, n)) (hn : n < 2 ^ 31) (i : Int32) : Con l C yX10_pick cX10_pick 2 (some .int) 1 [.ref (C.2.1 a), .int i] S (some (.int (pickF n (S a) i))) (S) := by
  refine con_of RX10 0 [some (.ref (C.2.1 a)), some (.int i)] (by decide) rfl hC (Nat.le_of_ble_eq_true rfl) rfl (Nat.le_of_ble_eq_true rfl) (fun E hE hR => ?_)
  refine j_iload1 hE dX10_pick_0 ?_
  refine j_iflt hE 16 dX10_pick_1 (by decide) (fun c1 => ?_) (fun c1 => ?_)
  · skip
    refine j_iconst hE (nI 0) dX10_pick_16 kiconst_0 ?_
    exact j_iret hE hR dX10_pick_17 (by first
    | (rw [pickF, if_pos (Or.inl c1)]; done)
    | (rw [pickF, if_pos (Or.inr c7)]; done)
    | (rw [pickF, if_neg (fun q => q.elim c1 c7)]; done)) (rfl)
  · skip
    refine j_iload1 hE dX10_pick_4 ?_
    refine j_aload0 hE dX10_pick_5 ?_
    refine j_alen hE dX10_pick_6 (nI n) hs rfl ?_
    refine j_icmpge hE 16 dX10_pick_7 (by decide) (fun c7 => ?_) (fun c7 => ?_)
    · skip
      refine j_iconst hE (nI 0) dX10_pick_16 kiconst_0 ?_
      exact j_iret hE hR dX10_pick_17 (by first
    | (rw [pickF, if_pos (Or.inl c1)]; done)
    | (rw [pickF, if_pos (Or.inr c7)]; done)
    | (rw [pickF, if_neg (fun q => q.elim c1 c7)]; done)) (rfl)
    · skip
      refine j_aload0 hE dX10_pick_10 ?_
      refine j_iload1 hE dX10_pick_11 ?_
      refine j_iald hE dX10_pick_12 (by first | assumption | rfl) (vp_in_of2 hn c1 c7) ?_
      refine j_goto hE 17 dX10_pick_13 (by decide) ?_
      exact j_iret hE hR dX10_pick_17 (by first
    | (rw [pickF, if_pos (Or.inl c1)]; done)
    | (rw [pickF, if_pos (Or.inr c7)]; done)
    | (rw [pickF, if_neg (fun q => q.elim c1 c7)]; done)) (rfl)

set_option maxHeartbeats 4000000 in
set_option maxRecDepth 100000 in
theorem c_X10_put (l : Launch) (C : JC) (hC : JInj C) (S : Sto) (a n : Nat) (hs : jsh a = (1, n)) (hn : n < 2 ^ 31) (i v : Int32) : Con l C yX10_put cX10_put 3 none 1 [.ref (C.2.1 a), .int i, .int v] S none (putS n S a i v) := by
  refine con_of RX10 0 [some (.ref (C.2.1 a)), some (.int i), some (.int v)] (by decide) rfl hC (Nat.le_of_ble_eq_true rfl) rfl (Nat.le_of_ble_eq_true rfl) (fun E hE hR => ?_)
  refine j_iload1 hE dX10_put_0 ?_
  refine j_iflt hE 14 dX10_put_1 (by decide) (fun c1 => ?_) (fun c1 => ?_)
  · skip
    exact j_vret hE hR dX10_put_14 (by first
    | (rw [putS, if_pos (Or.inl c1)]; done)
    | (rw [putS, if_pos (Or.inr c7)]; done)
    | (rw [putS, if_neg (fun q => q.elim c1 c7)]; done))
  · skip
    refine j_iload1 hE dX10_put_4 ?_
    refine j_aload0 hE dX10_put_5 ?_
    refine j_alen hE dX10_put_6 (nI n) hs rfl ?_
    refine j_icmpge hE 14 dX10_put_7 (by decide) (fun c7 => ?_) (fun c7 => ?_)
    · skip
      exact j_vret hE hR dX10_put_14 (by first
    | (rw [putS, if_pos (Or.inl c1)]; done)
    | (rw [putS, if_pos (Or.inr c7)]; done)
    | (rw [putS, if_neg (fun q => q.elim c1 c7)]; done))
    · skip
      refine j_aload0 hE dX10_put_10 ?_
      refine j_iload1 hE dX10_put_11 ?_
      refine j_iload2 hE dX10_put_12 ?_
      refine j_iast hE dX10_put_13 (by first | assumption | rfl) (vp_in_of2 hn c1 c7) ?_
      exact j_vret hE hR dX10_put_14 (by first
    | (rw [putS, if_pos (Or.inl c1)]; done)
    | (rw [putS, if_pos (Or.inr c7)]; done)
    | (rw [putS, if_neg (fun q => q.elim c1 c7)]; done))
end
section
theorem upA_ne_self (S : Sto) {a b : Nat} (f : Nat → Int32) (h : b ≠ a) : upA (upA S a f) b (S b) = upA S a f := by
  funext j
  unfold upA
  by_cases q : j = b
  · subst q; simp [h]
  · simp [q]
def plCells (S : Sto) (pp : Nat) : Int32 := S pp 4 * S pp 5
def plAll (S : Sto) (pp : Nat) : Int32 := (nI 1 <<< (plCells S pp &&& 31)) - nI 1
def plCol (S : Sto) (pp : Nat) (x : Int32) : Int32 := if S pp 5 ≤ 0 then nI 0 else x - x / S pp 5 * S pp 5
def plBelow (S : Sto) (pp : Nat) (x : Int32) : Int32 := if plCells S pp ≤ x + S pp 5 then -1 else x + S pp 5
def plBeside (S : Sto) (pp : Nat) (x w : Int32) : Int32 := if w = nI 1 then (if plCol S pp x ≤ 0 then -1 else x - nI 1) else if w = nI 2 then (if S pp 5 ≤ plCol S pp x + nI 1 then -1 else x + nI 1) else -1
abbrev plTouch (S : Sto) (pp : Nat) (a b : Int32) : Prop := maxF a b - minF a b = S pp 5 ∨ (maxF a b - minF a b = nI 1 ∧ ¬ S pp 5 ≤ plCol S pp (minF a b) + nI 1)
/-- crack c of the first n is (a, b), either way round -/
abbrev plIs (S : Sto) (pp : Nat) (a b : Int32) (c : Nat) : Prop := (S (pp + 2) c = a ∧ S (pp + 3) c = b) ∨ (S (pp + 2) c = b ∧ S (pp + 3) c = a)
def crkB (S : Sto) (pp : Nat) (a b : Int32) : Nat → Bool
  | 0 => false
  | n + 1 => crkB S pp a b n || decide (plIs S pp a b n)
/-- the bits of the first column, of n rows -/
def fcF (w : Int32) : Nat → Int32
  | 0 => nI 0
  | n + 1 => fcF w n ||| (nI 1 <<< ((nI n * w) &&& 31))
def rszS (S : Sto) (pp : Nat) (h w : Int32) (n : Nat) : Sto := up2 (up2 (up2 S pp 4 h) pp 5 w) pp 6 (fcF w n)
theorem rszS_s (S : Sto) (pp : Nat) (h w : Int32) (n : Nat) : up2 (rszS S pp h w n) pp 6 (rszS S pp h w n pp 6 ||| (nI 1 <<< ((nI n * w) &&& 31))) = rszS S pp h w (n + 1) := by
  have e : rszS S pp h w n pp 6 = fcF w n := by simp [rszS, up2_same, pk_us]
  rw [e]
  unfold rszS
  funext i
  by_cases hi : i = pp
  · subst hi
    simp only [up2_same]
    funext k
    by_cases hk : k = 6 <;> simp [upd, hk, fcF]
  · simp only [up2_ne _ _ _ hi]
theorem rszS_0 (S : Sto) (pp : Nat) (h w : Int32) : up2 (up2 (up2 S pp 4 h) pp 5 w) pp 6 (nI 0) = rszS S pp h w 0 := rfl
set_option maxHeartbeats 4000000 in
set_option maxRecDepth 100000 in
theorem c_X7_cells (l : Launch) (C : JC) (hC : JInj C) (S : Sto) (pp : Nat) (h0 : jsh pp = (0, 6))  : Con l C yX7_cells cX7_cells 1 (some .int) 1 [.ref (C.2.1 pp)] S (some (.int (plCells S pp))) (S) := by
  refine con_of RX7 0 [some (.ref (C.2.1 pp))] (by decide) rfl hC (Nat.le_of_ble_eq_true rfl) rfl (Nat.le_of_ble_eq_true rfl) (fun E hE hR => ?_)
  refine j_aload0 hE dX7_cells_0 ?_
  refine j_geti hE fX7_41 dX7_cells_1 (by first | assumption | rfl) ?_
  refine j_aload0 hE dX7_cells_4 ?_
  refine j_geti hE fX7_44 dX7_cells_5 (by first | assumption | rfl) ?_
  refine j_imul hE dX7_cells_8 ?_
  exact j_iret hE hR dX7_cells_9 (rfl) (rfl)

set_option maxHeartbeats 4000000 in
set_option maxRecDepth 100000 in
theorem c_X7_allCells (l : Launch) (C : JC) (hC : JInj C) (S : Sto) (pp : Nat) (h0 : jsh pp = (0, 6))  : Con l C yX7_allCells cX7_allCells 1 (some .int) 2 [.ref (C.2.1 pp)] S (some (.int (plAll S pp))) (S) := by
  refine con_of RX7 0 [some (.ref (C.2.1 pp))] (by decide) rfl hC (Nat.le_of_ble_eq_true rfl) rfl (Nat.le_of_ble_eq_true rfl) (fun E hE hR => ?_)
  refine j_iconst hE (nI 1) dX7_allCells_0 kiconst_1 ?_
  refine j_aload0 hE dX7_allCells_1 ?_
  refine j_V0i hE mX7_47 (c_X7_cells l C hC _ pp h0) dX7_allCells_2 (by first | assumption | rfl) (by decide) (Nat.le_of_ble_eq_true rfl) ?_
  refine j_ishl hE dX7_allCells_5 ?_
  refine j_iconst hE (nI 1) dX7_allCells_6 kiconst_1 ?_
  refine j_isub hE dX7_allCells_7 ?_
  exact j_iret hE hR dX7_allCells_8 (rfl) (rfl)

set_option maxHeartbeats 4000000 in
set_option maxRecDepth 100000 in
theorem c_X7_columnOf (l : Launch) (C : JC) (hC : JInj C) (S : Sto) (pp : Nat) (h0 : jsh pp = (0, 6)) (x : Int32) : Con l C yX7_columnOf cX7_columnOf 2 (some .int) 1 [.ref (C.2.1 pp), .int x] S (some (.int (plCol S pp x))) (S) := by
  refine con_of RX7 0 [some (.ref (C.2.1 pp)), some (.int x)] (by decide) rfl hC (Nat.le_of_ble_eq_true rfl) rfl (Nat.le_of_ble_eq_true rfl) (fun E hE hR => ?_)
  refine j_aload0 hE dX7_columnOf_0 ?_
  refine j_geti hE fX7_44 dX7_columnOf_1 (by first | assumption | rfl) ?_
  refine j_ifle hE 16 dX7_columnOf_4 (by decide) (fun c4 => ?_) (fun c4 => ?_)
  · skip
    refine j_iconst hE (nI 0) dX7_columnOf_16 kiconst_0 ?_
    exact j_iret hE hR dX7_columnOf_17 (by simp [plCol, c4]) (rfl)
  · skip
    refine j_iload1 hE dX7_columnOf_7 ?_
    refine j_aload0 hE dX7_columnOf_8 ?_
    refine j_geti hE fX7_44 dX7_columnOf_9 (by first | assumption | rfl) ?_
    refine j_irem hE dX7_columnOf_12 (fun q => c4 (by rw [q]; decide)) ?_
    refine j_goto hE 17 dX7_columnOf_13 (by decide) ?_
    exact j_iret hE hR dX7_columnOf_17 (by simp [plCol, c4]) (rfl)

set_option maxHeartbeats 4000000 in
set_option maxRecDepth 100000 in
theorem c_X7_hasCell (l : Launch) (C : JC) (hC : JInj C) (S : Sto) (pp : Nat) (h0 : jsh pp = (0, 6)) (x : Int32) : Con l C yX7_hasCell cX7_hasCell 2 (some .boolean) 2 [.ref (C.2.1 pp), .int x] S (some (.int (if ¬ x < 0 ∧ ¬ plCells S pp ≤ x then nI 1 else nI 0))) (S) := by
  refine con_of RX7 0 [some (.ref (C.2.1 pp)), some (.int x)] (by decide) rfl hC (Nat.le_of_ble_eq_true rfl) rfl (Nat.le_of_ble_eq_true rfl) (fun E hE hR => ?_)
  refine j_iload1 hE dX7_hasCell_0 ?_
  refine j_iflt hE 16 dX7_hasCell_1 (by decide) (fun c1 => ?_) (fun c1 => ?_)
  · skip
    refine j_iconst hE (nI 0) dX7_hasCell_16 kiconst_0 ?_
    exact j_zret hE hR dX7_hasCell_17 (by first
        | (rw [if_neg (fun q => q.1 c1)]; done)
        | (rw [if_neg (fun q => q.2 c9)]; done)
        | (rw [if_pos ⟨c1, c9⟩]; done)) (rfl) nar_c
  · skip
    refine j_iload1 hE dX7_hasCell_4 ?_
    refine j_aload0 hE dX7_hasCell_5 ?_
    refine j_V0i hE mX7_47 (c_X7_cells l C hC _ pp h0) dX7_hasCell_6 (by first | assumption | rfl) (by decide) (Nat.le_of_ble_eq_true rfl) ?_
    refine j_icmpge hE 16 dX7_hasCell_9 (by decide) (fun c9 => ?_) (fun c9 => ?_)
    · skip
      refine j_iconst hE (nI 0) dX7_hasCell_16 kiconst_0 ?_
      exact j_zret hE hR dX7_hasCell_17 (by first
          | (rw [if_neg (fun q => q.1 c1)]; done)
          | (rw [if_neg (fun q => q.2 c9)]; done)
          | (rw [if_pos ⟨c1, c9⟩]; done)) (rfl) nar_c
    · skip
      refine j_iconst hE (nI 1) dX7_hasCell_12 kiconst_1 ?_
      refine j_goto hE 17 dX7_hasCell_13 (by decide) ?_
      exact j_zret hE hR dX7_hasCell_17 (by first
          | (rw [if_neg (fun q => q.1 c1)]; done)
          | (rw [if_neg (fun q => q.2 c9)]; done)
          | (rw [if_pos ⟨c1, c9⟩]; done)) (rfl) nar_c

set_option maxHeartbeats 4000000 in
set_option maxRecDepth 100000 in
theorem c_X7_hasLeak (l : Launch) (C : JC) (hC : JInj C) (S : Sto) (pp : Nat) (h0 : jsh pp = (0, 6)) (x : Int32) : Con l C yX7_hasLeak cX7_hasLeak 2 (some .boolean) 1 [.ref (C.2.1 pp), .int x] S (some (.int (if ¬ x < 0 ∧ ¬ S pp 8 ≤ x then nI 1 else nI 0))) (S) := by
  refine con_of RX7 0 [some (.ref (C.2.1 pp)), some (.int x)] (by decide) rfl hC (Nat.le_of_ble_eq_true rfl) rfl (Nat.le_of_ble_eq_true rfl) (fun E hE hR => ?_)
  refine j_iload1 hE dX7_hasLeak_0 ?_
  refine j_iflt hE 16 dX7_hasLeak_1 (by decide) (fun c1 => ?_) (fun c1 => ?_)
  · skip
    refine j_iconst hE (nI 0) dX7_hasLeak_16 kiconst_0 ?_
    exact j_zret hE hR dX7_hasLeak_17 (by first
        | (rw [if_neg (fun q => q.1 c1)]; done)
        | (rw [if_neg (fun q => q.2 c9)]; done)
        | (rw [if_pos ⟨c1, c9⟩]; done)) (rfl) nar_c
  · skip
    refine j_iload1 hE dX7_hasLeak_4 ?_
    refine j_aload0 hE dX7_hasLeak_5 ?_
    refine j_geti hE fX7_32 dX7_hasLeak_6 (by first | assumption | rfl) ?_
    refine j_icmpge hE 16 dX7_hasLeak_9 (by decide) (fun c9 => ?_) (fun c9 => ?_)
    · skip
      refine j_iconst hE (nI 0) dX7_hasLeak_16 kiconst_0 ?_
      exact j_zret hE hR dX7_hasLeak_17 (by first
          | (rw [if_neg (fun q => q.1 c1)]; done)
          | (rw [if_neg (fun q => q.2 c9)]; done)
          | (rw [if_pos ⟨c1, c9⟩]; done)) (rfl) nar_c
    · skip
      refine j_iconst hE (nI 1) dX7_hasLeak_12 kiconst_1 ?_
      refine j_goto hE 17 dX7_hasLeak_13 (by decide) ?_
      exact j_zret hE hR dX7_hasLeak_17 (by first
          | (rw [if_neg (fun q => q.1 c1)]; done)
          | (rw [if_neg (fun q => q.2 c9)]; done)
          | (rw [if_pos ⟨c1, c9⟩]; done)) (rfl) nar_c

set_option maxHeartbeats 4000000 in
set_option maxRecDepth 100000 in
theorem c_X7_hasCrack (l : Launch) (C : JC) (hC : JInj C) (S : Sto) (pp : Nat) (h0 : jsh pp = (0, 6)) (x : Int32) : Con l C yX7_hasCrack cX7_hasCrack 2 (some .boolean) 1 [.ref (C.2.1 pp), .int x] S (some (.int (if ¬ x < 0 ∧ ¬ S pp 9 ≤ x then nI 1 else nI 0))) (S) := by
  refine con_of RX7 0 [some (.ref (C.2.1 pp)), some (.int x)] (by decide) rfl hC (Nat.le_of_ble_eq_true rfl) rfl (Nat.le_of_ble_eq_true rfl) (fun E hE hR => ?_)
  refine j_iload1 hE dX7_hasCrack_0 ?_
  refine j_iflt hE 16 dX7_hasCrack_1 (by decide) (fun c1 => ?_) (fun c1 => ?_)
  · skip
    refine j_iconst hE (nI 0) dX7_hasCrack_16 kiconst_0 ?_
    exact j_zret hE hR dX7_hasCrack_17 (by first
        | (rw [if_neg (fun q => q.1 c1)]; done)
        | (rw [if_neg (fun q => q.2 c9)]; done)
        | (rw [if_pos ⟨c1, c9⟩]; done)) (rfl) nar_c
  · skip
    refine j_iload1 hE dX7_hasCrack_4 ?_
    refine j_aload0 hE dX7_hasCrack_5 ?_
    refine j_geti hE fX7_35 dX7_hasCrack_6 (by first | assumption | rfl) ?_
    refine j_icmpge hE 16 dX7_hasCrack_9 (by decide) (fun c9 => ?_) (fun c9 => ?_)
    · skip
      refine j_iconst hE (nI 0) dX7_hasCrack_16 kiconst_0 ?_
      exact j_zret hE hR dX7_hasCrack_17 (by first
          | (rw [if_neg (fun q => q.1 c1)]; done)
          | (rw [if_neg (fun q => q.2 c9)]; done)
          | (rw [if_pos ⟨c1, c9⟩]; done)) (rfl) nar_c
    · skip
      refine j_iconst hE (nI 1) dX7_hasCrack_12 kiconst_1 ?_
      refine j_goto hE 17 dX7_hasCrack_13 (by decide) ?_
      exact j_zret hE hR dX7_hasCrack_17 (by first
          | (rw [if_neg (fun q => q.1 c1)]; done)
          | (rw [if_neg (fun q => q.2 c9)]; done)
          | (rw [if_pos ⟨c1, c9⟩]; done)) (rfl) nar_c

set_option maxHeartbeats 4000000 in
set_option maxRecDepth 100000 in
theorem c_X7_hasFace (l : Launch) (C : JC) (hC : JInj C) (S : Sto) (pp : Nat) (h0 : jsh pp = (0, 6)) (x : Int32) : Con l C yX7_hasFace cX7_hasFace 2 (some .boolean) 1 [.ref (C.2.1 pp), .int x] S (some (.int (if ¬ x < 0 ∧ ¬ S pp 10 ≤ x then nI 1 else nI 0))) (S) := by
  refine con_of RX7 0 [some (.ref (C.2.1 pp)), some (.int x)] (by decide) rfl hC (Nat.le_of_ble_eq_true rfl) rfl (Nat.le_of_ble_eq_true rfl) (fun E hE hR => ?_)
  refine j_iload1 hE dX7_hasFace_0 ?_
  refine j_iflt hE 16 dX7_hasFace_1 (by decide) (fun c1 => ?_) (fun c1 => ?_)
  · skip
    refine j_iconst hE (nI 0) dX7_hasFace_16 kiconst_0 ?_
    exact j_zret hE hR dX7_hasFace_17 (by first
        | (rw [if_neg (fun q => q.1 c1)]; done)
        | (rw [if_neg (fun q => q.2 c9)]; done)
        | (rw [if_pos ⟨c1, c9⟩]; done)) (rfl) nar_c
  · skip
    refine j_iload1 hE dX7_hasFace_4 ?_
    refine j_aload0 hE dX7_hasFace_5 ?_
    refine j_geti hE fX7_38 dX7_hasFace_6 (by first | assumption | rfl) ?_
    refine j_icmpge hE 16 dX7_hasFace_9 (by decide) (fun c9 => ?_) (fun c9 => ?_)
    · skip
      refine j_iconst hE (nI 0) dX7_hasFace_16 kiconst_0 ?_
      exact j_zret hE hR dX7_hasFace_17 (by first
          | (rw [if_neg (fun q => q.1 c1)]; done)
          | (rw [if_neg (fun q => q.2 c9)]; done)
          | (rw [if_pos ⟨c1, c9⟩]; done)) (rfl) nar_c
    · skip
      refine j_iconst hE (nI 1) dX7_hasFace_12 kiconst_1 ?_
      refine j_goto hE 17 dX7_hasFace_13 (by decide) ?_
      exact j_zret hE hR dX7_hasFace_17 (by first
          | (rw [if_neg (fun q => q.1 c1)]; done)
          | (rw [if_neg (fun q => q.2 c9)]; done)
          | (rw [if_pos ⟨c1, c9⟩]; done)) (rfl) nar_c

set_option maxHeartbeats 4000000 in
set_option maxRecDepth 100000 in
theorem c_X7_below (l : Launch) (C : JC) (hC : JInj C) (S : Sto) (pp : Nat) (h0 : jsh pp = (0, 6)) (x : Int32) : Con l C yX7_below cX7_below 2 (some .int) 2 [.ref (C.2.1 pp), .int x] S (some (.int (plBelow S pp x))) (S) := by
  refine con_of RX7 0 [some (.ref (C.2.1 pp)), some (.int x)] (by decide) rfl hC (Nat.le_of_ble_eq_true rfl) rfl (Nat.le_of_ble_eq_true rfl) (fun E hE hR => ?_)
  refine j_iload1 hE dX7_below_0 ?_
  refine j_aload0 hE dX7_below_1 ?_
  refine j_geti hE fX7_44 dX7_below_2 (by first | assumption | rfl) ?_
  refine j_iadd hE dX7_below_5 ?_
  refine j_aload0 hE dX7_below_6 ?_
  refine j_V0i hE mX7_47 (c_X7_cells l C hC _ pp h0) dX7_below_7 (by first | assumption | rfl) (by decide) (Nat.le_of_ble_eq_true rfl) ?_
  refine j_icmpge hE 22 dX7_below_10 (by decide) (fun c10 => ?_) (fun c10 => ?_)
  · skip
    refine j_iconst hE (-1) dX7_below_22 kiconst_m1 ?_
    exact j_iret hE hR dX7_below_23 (by simp [plBelow, c10]) (rfl)
  · skip
    refine j_iload1 hE dX7_below_13 ?_
    refine j_aload0 hE dX7_below_14 ?_
    refine j_geti hE fX7_44 dX7_below_15 (by first | assumption | rfl) ?_
    refine j_iadd hE dX7_below_18 ?_
    refine j_goto hE 23 dX7_below_19 (by decide) ?_
    exact j_iret hE hR dX7_below_23 (by simp [plBelow, c10]) (rfl)

set_option maxHeartbeats 4000000 in
set_option maxRecDepth 100000 in
theorem c_X7_beside (l : Launch) (C : JC) (hC : JInj C) (S : Sto) (pp : Nat) (h0 : jsh pp = (0, 6)) (x w : Int32) : Con l C yX7_beside cX7_beside 3 (some .int) 2 [.ref (C.2.1 pp), .int x, .int w] S (some (.int (plBeside S pp x w))) (S) := by
  refine con_of RX7 0 [some (.ref (C.2.1 pp)), some (.int x), some (.int w)] (by decide) rfl hC (Nat.le_of_ble_eq_true rfl) rfl (Nat.le_of_ble_eq_true rfl) (fun E hE hR => ?_)
  refine j_iload2 hE dX7_beside_0 ?_
  refine j_iconst hE (nI 1) dX7_beside_1 kiconst_1 ?_
  refine j_icmpne hE 21 dX7_beside_2 (by decide) (fun c2 => ?_) (fun c2 => ?_)
  · skip
    refine j_iload2 hE dX7_beside_21 ?_
    refine j_iconst hE (nI 2) dX7_beside_22 kiconst_2 ?_
    refine j_icmpne hE 46 dX7_beside_23 (by decide) (fun c23 => ?_) (fun c23 => ?_)
    · skip
      refine j_iconst hE (-1) dX7_beside_46 kiconst_m1 ?_
      exact j_iret hE hR dX7_beside_47 (by first
          | (rw [plBeside, if_neg c2, if_pos c23, if_pos c37]; done)
          | (rw [plBeside, if_neg c2, if_pos c23, if_neg c37]; done)
          | (rw [plBeside, if_neg c2, if_neg c23]; done)) (rfl)
    · skip
      refine j_aload0 hE dX7_beside_26 ?_
      refine j_iload1 hE dX7_beside_27 ?_
      refine j_V1i hE mX7_67 (c_X7_columnOf l C hC _ pp h0 x) dX7_beside_28 (by first | assumption | rfl) (by decide) (Nat.le_of_ble_eq_true rfl) ?_
      refine j_iconst hE (nI 1) dX7_beside_31 kiconst_1 ?_
      refine j_iadd hE dX7_beside_32 ?_
      refine j_aload0 hE dX7_beside_33 ?_
      refine j_geti hE fX7_44 dX7_beside_34 (by first | assumption | rfl) ?_
      refine j_icmpge hE 46 dX7_beside_37 (by decide) (fun c37 => ?_) (fun c37 => ?_)
      · skip
        refine j_iconst hE (-1) dX7_beside_46 kiconst_m1 ?_
        exact j_iret hE hR dX7_beside_47 (by first
            | (rw [plBeside, if_neg c2, if_pos c23, if_pos c37]; done)
            | (rw [plBeside, if_neg c2, if_pos c23, if_neg c37]; done)
            | (rw [plBeside, if_neg c2, if_neg c23]; done)) (rfl)
      · skip
        refine j_iload1 hE dX7_beside_40 ?_
        refine j_iconst hE (nI 1) dX7_beside_41 kiconst_1 ?_
        refine j_iadd hE dX7_beside_42 ?_
        refine j_goto hE 47 dX7_beside_43 (by decide) ?_
        exact j_iret hE hR dX7_beside_47 (by first
            | (rw [plBeside, if_neg c2, if_pos c23, if_pos c37]; done)
            | (rw [plBeside, if_neg c2, if_pos c23, if_neg c37]; done)
            | (rw [plBeside, if_neg c2, if_neg c23]; done)) (rfl)
  · skip
    refine j_aload0 hE dX7_beside_5 ?_
    refine j_iload1 hE dX7_beside_6 ?_
    refine j_V1i hE mX7_67 (c_X7_columnOf l C hC _ pp h0 x) dX7_beside_7 (by first | assumption | rfl) (by decide) (Nat.le_of_ble_eq_true rfl) ?_
    refine j_ifle hE 19 dX7_beside_10 (by decide) (fun c10 => ?_) (fun c10 => ?_)
    · skip
      refine j_iconst hE (-1) dX7_beside_19 kiconst_m1 ?_
      exact j_iret hE hR dX7_beside_20 (by simp [plBeside, c2, c10]) (rfl)
    · skip
      refine j_iload1 hE dX7_beside_13 ?_
      refine j_iconst hE (nI 1) dX7_beside_14 kiconst_1 ?_
      refine j_isub hE dX7_beside_15 ?_
      refine j_goto hE 20 dX7_beside_16 (by decide) ?_
      exact j_iret hE hR dX7_beside_20 (by simp [plBeside, c2, c10]) (rfl)

set_option maxHeartbeats 4000000 in
set_option maxRecDepth 100000 in
theorem c_X7_touch (l : Launch) (C : JC) (hC : JInj C) (S : Sto) (pp : Nat) (h0 : jsh pp = (0, 6)) (a b : Int32) : Con l C yX7_touch cX7_touch 5 (some .boolean) 2 [.ref (C.2.1 pp), .int a, .int b] S (some (.int (if plTouch S pp a b then nI 1 else nI 0))) (S) := by
  refine con_of RX7 2 [some (.ref (C.2.1 pp)), some (.int a), some (.int b), none, none] (by decide) rfl hC (Nat.le_of_ble_eq_true rfl) rfl (Nat.le_of_ble_eq_true rfl) (fun E hE hR => ?_)
  refine j_iload1 hE dX7_touch_0 ?_
  refine j_iload2 hE dX7_touch_1 ?_
  refine j_mmin hE mX7_58 dX7_touch_2 (by decide) (Nat.le_of_ble_eq_true rfl) ?_
  refine j_istore3 hE dX7_touch_5 rfl ?_
  refine j_iload1 hE dX7_touch_6 ?_
  refine j_iload2 hE dX7_touch_7 ?_
  refine j_mmax hE mX7_64 dX7_touch_8 (by decide) (Nat.le_of_ble_eq_true rfl) ?_
  refine j_iload3 hE dX7_touch_11 ?_
  refine j_isub hE dX7_touch_12 ?_
  refine j_istore4 hE dX7_touch_13 rfl ?_
  refine j_iload4 hE dX7_touch_15 ?_
  refine j_aload0 hE dX7_touch_17 ?_
  refine j_geti hE fX7_44 dX7_touch_18 (by first | assumption | rfl) ?_
  refine j_icmpeq hE 44 dX7_touch_21 (by decide) (fun c21 => ?_) (fun c21 => ?_)
  · skip
    refine j_iconst hE (nI 1) dX7_touch_44 kiconst_1 ?_
    refine j_goto hE 49 dX7_touch_45 (by decide) ?_
    exact j_zret hE hR dX7_touch_49 (by first
        | (rw [if_pos (Or.inl c21)]; done)
        | (rw [if_pos (Or.inr ⟨c27, c41⟩)]; done)
        | (rw [if_neg (fun q => q.elim c21 (fun z => c27 z.1))]; done)
        | (rw [if_neg (fun q => q.elim c21 (fun z => z.2 c41))]; done)) (rfl) nar_c
  · skip
    refine j_iload4 hE dX7_touch_24 ?_
    refine j_iconst hE (nI 1) dX7_touch_26 kiconst_1 ?_
    refine j_icmpne hE 48 dX7_touch_27 (by decide) (fun c27 => ?_) (fun c27 => ?_)
    · skip
      refine j_iconst hE (nI 0) dX7_touch_48 kiconst_0 ?_
      exact j_zret hE hR dX7_touch_49 (by first
          | (rw [if_pos (Or.inl c21)]; done)
          | (rw [if_pos (Or.inr ⟨c27, c41⟩)]; done)
          | (rw [if_neg (fun q => q.elim c21 (fun z => c27 z.1))]; done)
          | (rw [if_neg (fun q => q.elim c21 (fun z => z.2 c41))]; done)) (rfl) nar_c
    · skip
      refine j_aload0 hE dX7_touch_30 ?_
      refine j_iload3 hE dX7_touch_31 ?_
      refine j_V1i hE mX7_67 (c_X7_columnOf l C hC _ pp h0 _) dX7_touch_32 (by first | assumption | rfl) (by decide) (Nat.le_of_ble_eq_true rfl) ?_
      refine j_iconst hE (nI 1) dX7_touch_35 kiconst_1 ?_
      refine j_iadd hE dX7_touch_36 ?_
      refine j_aload0 hE dX7_touch_37 ?_
      refine j_geti hE fX7_44 dX7_touch_38 (by first | assumption | rfl) ?_
      refine j_icmpge hE 48 dX7_touch_41 (by decide) (fun c41 => ?_) (fun c41 => ?_)
      · skip
        refine j_iconst hE (nI 0) dX7_touch_48 kiconst_0 ?_
        exact j_zret hE hR dX7_touch_49 (by first
            | (rw [if_pos (Or.inl c21)]; done)
            | (rw [if_pos (Or.inr ⟨c27, c41⟩)]; done)
            | (rw [if_neg (fun q => q.elim c21 (fun z => c27 z.1))]; done)
            | (rw [if_neg (fun q => q.elim c21 (fun z => z.2 c41))]; done)) (rfl) nar_c
      · skip
        refine j_iconst hE (nI 1) dX7_touch_44 kiconst_1 ?_
        refine j_goto hE 49 dX7_touch_45 (by decide) ?_
        exact j_zret hE hR dX7_touch_49 (by first
            | (rw [if_pos (Or.inl c21)]; done)
            | (rw [if_pos (Or.inr ⟨c27, c41⟩)]; done)
            | (rw [if_neg (fun q => q.elim c21 (fun z => c27 z.1))]; done)
            | (rw [if_neg (fun q => q.elim c21 (fun z => z.2 c41))]; done)) (rfl) nar_c

theorem crkB_mono {S : Sto} {pp : Nat} {a b : Int32} {i n : Nat} (h : i < n) (hi : plIs S pp a b i) : crkB S pp a b n = true := by
  induction n with
  | zero => omega
  | succ n ih =>
    unfold crkB
    rcases Nat.lt_or_ge i n with q | q
    · rw [ih q]; rfl
    · have : i = n := by omega
      subst this
      simp [hi]
set_option maxHeartbeats 4000000 in
set_option maxRecDepth 100000 in
theorem c_X7_isCracked (l : Launch) (C : JC) (hC : JInj C) (S : Sto) (pp : Nat) (h0 : jsh pp = (0, 6)) (h1 : jsh (pp + 1) = (1, 4)) (h2 : jsh (pp + 2) = (1, 6)) (h3 : jsh (pp + 3) = (1, 6)) (h4 : jsh (pp + 4) = (1, 5)) (nc : Nat) (hnc : S pp 9 = nI nc) (hle : nc ≤ 6) (a b : Int32) : Con l C yX7_isCracked cX7_isCracked 4 (some .boolean) 1 [.ref (C.2.1 pp), .int a, .int b] S (some (.int (if crkB S pp a b nc = true then nI 1 else nI 0))) (S) := by
  refine con_of RX7 1 [some (.ref (C.2.1 pp)), some (.int a), some (.int b), none] (by decide) rfl hC (Nat.le_of_ble_eq_true rfl) rfl (Nat.le_of_ble_eq_true rfl) (fun E hE hR => ?_)
  refine j_iconst hE (nI 0) dX7_isCracked_0 kiconst_0 ?_
  refine j_istore3 hE dX7_isCracked_1 rfl ?_
  have L2 : ∀ (fu : Nat) (i : Nat), nc - i < fu → (i ≤ nc) → (crkB S pp a b i = false) → J C E S 2 [some (.ref (C.2.1 pp)), some (.int a), some (.int b), some (.int (nI i))] [] := by
    intro fu
    induction fu with
    | zero => intro i hm; omega
    | succ fu ih =>
      intro i hm hi hf
      refine j_iload3 hE dX7_isCracked_2 ?_
      refine j_aload0 hE dX7_isCracked_3 ?_
      refine j_geti hE fX7_35 dX7_isCracked_4 (by first | assumption | rfl) ?_
      refine j_icmpge hE 76 dX7_isCracked_7 (by decide) (fun c7 => ?_) (fun c7 => ?_)
      · skip
        rw [hnc] at c7
        have c7 := (nI_leI (by omega) (by omega)).mp c7
        have hii : i = nc := by omega
        subst hii
        refine j_iconst hE (nI 0) dX7_isCracked_76 kiconst_0 ?_
        exact j_zret hE hR dX7_isCracked_77 (by rw [if_neg (by rw [hf]; decide)]) (rfl) nar_c
      · skip
        rw [hnc] at c7
        have c7 : i < nc := Nat.lt_of_not_le (fun q => c7 (nI_le q (by omega)))
        refine j_iload3 hE dX7_isCracked_10 ?_
        refine j_aload0 hE dX7_isCracked_11 ?_
        refine j_getr hE fX7_15 dX7_isCracked_12 (by first | assumption | rfl) (rf_o (by first | assumption | rfl) (by decide)) ?_
        refine j_alen hE dX7_isCracked_15 (nI 6) (by first | assumption | rfl) rfl ?_
        refine j_icmpge hE 76 dX7_isCracked_16 (by decide) (fun c16 => ?_) (fun c16 => ?_)
        · skip
          exact absurd c16 (nI_ge (by omega) (by omega))
        · skip
          refine j_iload3 hE dX7_isCracked_19 ?_
          refine j_aload0 hE dX7_isCracked_20 ?_
          refine j_getr hE fX7_18 dX7_isCracked_21 (by first | assumption | rfl) (rf_o (by first | assumption | rfl) (by decide)) ?_
          refine j_alen hE dX7_isCracked_24 (nI 6) (by first | assumption | rfl) rfl ?_
          refine j_icmpge hE 76 dX7_isCracked_25 (by decide) (fun c25 => ?_) (fun c25 => ?_)
          · skip
            exact absurd c25 (nI_ge (by omega) (by omega))
          · skip
            refine j_aload0 hE dX7_isCracked_28 ?_
            refine j_getr hE fX7_15 dX7_isCracked_29 (by first | assumption | rfl) (rf_o (by first | assumption | rfl) (by decide)) ?_
            refine j_iload3 hE dX7_isCracked_32 ?_
            refine j_ialdN hE dX7_isCracked_33 (by first | assumption | rfl) (by omega) (by decide) ?_
            refine j_iload1 hE dX7_isCracked_34 ?_
            refine j_icmpne hE 48 dX7_isCracked_35 (by decide) (fun c35 => ?_) (fun c35 => ?_)
            · skip
              refine j_aload0 hE dX7_isCracked_48 ?_
              refine j_getr hE fX7_15 dX7_isCracked_49 (by first | assumption | rfl) (rf_o (by first | assumption | rfl) (by decide)) ?_
              refine j_iload3 hE dX7_isCracked_52 ?_
              refine j_ialdN hE dX7_isCracked_53 (by first | assumption | rfl) (by omega) (by decide) ?_
              refine j_iload2 hE dX7_isCracked_54 ?_
              refine j_icmpne hE 70 dX7_isCracked_55 (by decide) (fun c55 => ?_) (fun c55 => ?_)
              · skip
                refine j_iinc3 hE (nI (i + 1)) dX7_isCracked_70 (nI_inc _) rfl ?_
                refine j_goto hE 2 dX7_isCracked_73 (by decide) ?_
                have hf2 : crkB S pp a b (i + 1) = false := by
                  rw [crkB, hf, Bool.false_or, decide_eq_false_iff_not]
                  intro q
                  rcases q with ⟨q1, q2⟩ | ⟨q1, q2⟩
                  · first | exact c35 q1 | exact c45 q2
                  · first | exact c55 q1 | exact c65 q2
                exact ih (i + 1) (by omega) (by omega) hf2
              · skip
                refine j_aload0 hE dX7_isCracked_58 ?_
                refine j_getr hE fX7_18 dX7_isCracked_59 (by first | assumption | rfl) (rf_o (by first | assumption | rfl) (by decide)) ?_
                refine j_iload3 hE dX7_isCracked_62 ?_
                refine j_ialdN hE dX7_isCracked_63 (by first | assumption | rfl) (by omega) (by decide) ?_
                refine j_iload1 hE dX7_isCracked_64 ?_
                refine j_icmpne hE 70 dX7_isCracked_65 (by decide) (fun c65 => ?_) (fun c65 => ?_)
                · skip
                  refine j_iinc3 hE (nI (i + 1)) dX7_isCracked_70 (nI_inc _) rfl ?_
                  refine j_goto hE 2 dX7_isCracked_73 (by decide) ?_
                  have hf2 : crkB S pp a b (i + 1) = false := by
                    rw [crkB, hf, Bool.false_or, decide_eq_false_iff_not]
                    intro q
                    rcases q with ⟨q1, q2⟩ | ⟨q1, q2⟩
                    · first | exact c35 q1 | exact c45 q2
                    · first | exact c55 q1 | exact c65 q2
                  exact ih (i + 1) (by omega) (by omega) hf2
                · skip
                  refine j_iconst hE (nI 1) dX7_isCracked_68 kiconst_1 ?_
                  exact j_zret hE hR dX7_isCracked_69 (by rw [if_pos (crkB_mono c7 (by first | exact Or.inl ⟨c35, c45⟩ | exact Or.inr ⟨c55, c65⟩))]) (rfl) nar_c
            · skip
              refine j_aload0 hE dX7_isCracked_38 ?_
              refine j_getr hE fX7_18 dX7_isCracked_39 (by first | assumption | rfl) (rf_o (by first | assumption | rfl) (by decide)) ?_
              refine j_iload3 hE dX7_isCracked_42 ?_
              refine j_ialdN hE dX7_isCracked_43 (by first | assumption | rfl) (by omega) (by decide) ?_
              refine j_iload2 hE dX7_isCracked_44 ?_
              refine j_icmpeq hE 68 dX7_isCracked_45 (by decide) (fun c45 => ?_) (fun c45 => ?_)
              · skip
                refine j_iconst hE (nI 1) dX7_isCracked_68 kiconst_1 ?_
                exact j_zret hE hR dX7_isCracked_69 (by rw [if_pos (crkB_mono c7 (by first | exact Or.inl ⟨c35, c45⟩ | exact Or.inr ⟨c55, c65⟩))]) (rfl) nar_c
              · skip
                refine j_aload0 hE dX7_isCracked_48 ?_
                refine j_getr hE fX7_15 dX7_isCracked_49 (by first | assumption | rfl) (rf_o (by first | assumption | rfl) (by decide)) ?_
                refine j_iload3 hE dX7_isCracked_52 ?_
                refine j_ialdN hE dX7_isCracked_53 (by first | assumption | rfl) (by omega) (by decide) ?_
                refine j_iload2 hE dX7_isCracked_54 ?_
                refine j_icmpne hE 70 dX7_isCracked_55 (by decide) (fun c55 => ?_) (fun c55 => ?_)
                · skip
                  refine j_iinc3 hE (nI (i + 1)) dX7_isCracked_70 (nI_inc _) rfl ?_
                  refine j_goto hE 2 dX7_isCracked_73 (by decide) ?_
                  have hf2 : crkB S pp a b (i + 1) = false := by
                    rw [crkB, hf, Bool.false_or, decide_eq_false_iff_not]
                    intro q
                    rcases q with ⟨q1, q2⟩ | ⟨q1, q2⟩
                    · first | exact c35 q1 | exact c45 q2
                    · first | exact c55 q1 | exact c65 q2
                  exact ih (i + 1) (by omega) (by omega) hf2
                · skip
                  refine j_aload0 hE dX7_isCracked_58 ?_
                  refine j_getr hE fX7_18 dX7_isCracked_59 (by first | assumption | rfl) (rf_o (by first | assumption | rfl) (by decide)) ?_
                  refine j_iload3 hE dX7_isCracked_62 ?_
                  refine j_ialdN hE dX7_isCracked_63 (by first | assumption | rfl) (by omega) (by decide) ?_
                  refine j_iload1 hE dX7_isCracked_64 ?_
                  refine j_icmpne hE 70 dX7_isCracked_65 (by decide) (fun c65 => ?_) (fun c65 => ?_)
                  · skip
                    refine j_iinc3 hE (nI (i + 1)) dX7_isCracked_70 (nI_inc _) rfl ?_
                    refine j_goto hE 2 dX7_isCracked_73 (by decide) ?_
                    have hf2 : crkB S pp a b (i + 1) = false := by
                      rw [crkB, hf, Bool.false_or, decide_eq_false_iff_not]
                      intro q
                      rcases q with ⟨q1, q2⟩ | ⟨q1, q2⟩
                      · first | exact c35 q1 | exact c45 q2
                      · first | exact c55 q1 | exact c65 q2
                    exact ih (i + 1) (by omega) (by omega) hf2
                  · skip
                    refine j_iconst hE (nI 1) dX7_isCracked_68 kiconst_1 ?_
                    exact j_zret hE hR dX7_isCracked_69 (by rw [if_pos (crkB_mono c7 (by first | exact Or.inl ⟨c35, c45⟩ | exact Or.inr ⟨c55, c65⟩))]) (rfl) nar_c
  exact L2 (nc + 1) 0 (by omega) (by omega) rfl

set_option maxHeartbeats 4000000 in
set_option maxRecDepth 100000 in
theorem c_X7_resize (l : Launch) (C : JC) (hC : JInj C) (S : Sto) (pp : Nat) (h0 : jsh pp = (0, 6)) (n : Nat) (hn : n < 2 ^ 31) (w : Int32) : Con l C yX7_resize cX7_resize 4 none 1 [.ref (C.2.1 pp), .int (nI n), .int w] S none (rszS S pp (nI n) w n) := by
  refine con_of RX7 1 [some (.ref (C.2.1 pp)), some (.int (nI n)), some (.int w), none] (by decide) rfl hC (Nat.le_of_ble_eq_true rfl) rfl (Nat.le_of_ble_eq_true rfl) (fun E hE hR => ?_)
  refine j_aload0 hE dX7_resize_0 ?_
  refine j_iload1 hE dX7_resize_1 ?_
  refine j_puti hE pX7_41 dX7_resize_2 (by first | assumption | rfl) rfl rfl ?_
  refine j_aload0 hE dX7_resize_5 ?_
  refine j_iload2 hE dX7_resize_6 ?_
  refine j_puti hE pX7_44 dX7_resize_7 (by first | assumption | rfl) rfl rfl ?_
  refine j_aload0 hE dX7_resize_10 ?_
  refine j_iconst hE (nI 0) dX7_resize_11 kiconst_0 ?_
  refine j_puti hE pX7_51 dX7_resize_12 (by first | assumption | rfl) rfl rfl ?_
  refine j_iconst hE (nI 0) dX7_resize_15 kiconst_0 ?_
  refine j_istore3 hE dX7_resize_16 rfl ?_
  have L17 : ∀ (fu : Nat) (i : Nat), n - i < fu → (i ≤ n) → J C E (rszS S pp (nI n) w i) 17 [some (.ref (C.2.1 pp)), some (.int (nI n)), some (.int w), some (.int (nI i))] [] := by
    intro fu
    induction fu with
    | zero => intro i hm; omega
    | succ fu ih =>
      intro i hm hi
      refine j_iload3 hE dX7_resize_17 ?_
      refine j_iload1 hE dX7_resize_18 ?_
      refine j_icmpge hE 42 dX7_resize_19 (by decide) (fun c19 => ?_) (fun c19 => ?_)
      · skip
        have c19 := (nI_leI (by omega) (by omega)).mp c19
        have hii : i = n := by omega
        subst hii
        exact j_vret hE hR dX7_resize_42 (rfl)
      · skip
        have c19 : i < n := Nat.lt_of_not_le (fun q => c19 (nI_le q (by omega)))
        refine j_aload0 hE dX7_resize_22 ?_
        refine j_dup hE dX7_resize_23 rfl ?_
        refine j_geti hE fX7_51 dX7_resize_24 (by first | assumption | rfl) ?_
        refine j_iconst hE (nI 1) dX7_resize_27 kiconst_1 ?_
        refine j_iload3 hE dX7_resize_28 ?_
        refine j_iload2 hE dX7_resize_29 ?_
        refine j_imul hE dX7_resize_30 ?_
        refine j_ishl hE dX7_resize_31 ?_
        refine j_ior hE dX7_resize_32 ?_
        refine j_puti hE pX7_51 dX7_resize_33 (by first | assumption | rfl) rfl rfl ?_
        refine j_iinc3 hE (nI (i + 1)) dX7_resize_36 (nI_inc _) rfl ?_
        refine j_goto hE 17 dX7_resize_39 (by decide) ?_
        exact j_cast (rszS_s S pp _ w i) rfl (ih (i + 1) (by omega) (by omega))
  exact L17 (n + 1) 0 (by omega) (by omega)

def clrS (S : Sto) (pp : Nat) : Sto := up2 (up2 (up2 (up2 (rszS S pp (nI 0) (nI 0) 0) pp 7 (nI 0)) pp 8 (nI 0)) pp 9 (nI 0)) pp 10 (nI 0)
set_option maxHeartbeats 4000000 in
set_option maxRecDepth 100000 in
theorem c_X7_clear (l : Launch) (C : JC) (hC : JInj C) (S : Sto) (pp : Nat) (h0 : jsh pp = (0, 6))  : Con l C yX7_clear cX7_clear 1 none 2 [.ref (C.2.1 pp)] S none (clrS S pp) := by
  refine con_of RX7 0 [some (.ref (C.2.1 pp))] (by decide) rfl hC (Nat.le_of_ble_eq_true rfl) rfl (Nat.le_of_ble_eq_true rfl) (fun E hE hR => ?_)
  refine j_aload0 hE dX7_clear_0 ?_
  refine j_iconst hE (nI 0) dX7_clear_1 kiconst_0 ?_
  refine j_iconst hE (nI 0) dX7_clear_2 kiconst_0 ?_
  refine j_V2v hE mX7_24 (c_X7_resize l C hC _ pp h0 0 (by decide) (nI 0)) dX7_clear_3 (by first | assumption | rfl) (by decide) (Nat.le_of_ble_eq_true rfl) ?_
  refine j_aload0 hE dX7_clear_6 ?_
  refine j_iconst hE (nI 0) dX7_clear_7 kiconst_0 ?_
  refine j_puti hE pX7_28 dX7_clear_8 (by first | assumption | rfl) rfl rfl ?_
  refine j_aload0 hE dX7_clear_11 ?_
  refine j_iconst hE (nI 0) dX7_clear_12 kiconst_0 ?_
  refine j_puti hE pX7_32 dX7_clear_13 (by first | assumption | rfl) rfl rfl ?_
  refine j_aload0 hE dX7_clear_16 ?_
  refine j_iconst hE (nI 0) dX7_clear_17 kiconst_0 ?_
  refine j_puti hE pX7_35 dX7_clear_18 (by first | assumption | rfl) rfl rfl ?_
  refine j_aload0 hE dX7_clear_21 ?_
  refine j_iconst hE (nI 0) dX7_clear_22 kiconst_0 ?_
  refine j_puti hE pX7_38 dX7_clear_23 (by first | assumption | rfl) rfl rfl ?_
  exact j_vret hE hR dX7_clear_26 (rfl)

def addLS (S : Sto) (pp : Nat) (x : Int32) : Sto := let T := putS 4 S (pp + 1) (S pp 8) x; up2 T pp 8 (T pp 8 + nI 1)
def addCS (S : Sto) (pp : Nat) (a b : Int32) : Sto := let T := putS 6 S (pp + 2) (S pp 9) a; let U := putS 6 T (pp + 3) (T pp 9) b; up2 U pp 9 (U pp 9 + nI 1)
def addFS (S : Sto) (pp : Nat) (x : Int32) : Sto := let T := putS 5 S (pp + 4) (S pp 10) x; up2 T pp 10 (T pp 10 + nI 1)
set_option maxHeartbeats 4000000 in
set_option maxRecDepth 100000 in
theorem c_X7_addLeak (l : Launch) (C : JC) (hC : JInj C) (S : Sto) (pp : Nat) (h0 : jsh pp = (0, 6)) (h1 : jsh (pp + 1) = (1, 4)) (h2 : jsh (pp + 2) = (1, 6)) (h3 : jsh (pp + 3) = (1, 6)) (h4 : jsh (pp + 4) = (1, 5)) (x : Int32) : Con l C yX7_addLeak cX7_addLeak 2 none 2 [.ref (C.2.1 pp), .int x] S none (addLS S pp x) := by
  refine con_of RX7 0 [some (.ref (C.2.1 pp)), some (.int x)] (by decide) rfl hC (Nat.le_of_ble_eq_true rfl) rfl (Nat.le_of_ble_eq_true rfl) (fun E hE hR => ?_)
  refine j_aload0 hE dX7_addLeak_0 ?_
  refine j_getr hE fX7_9 dX7_addLeak_1 (by first | assumption | rfl) (rf_o (by first | assumption | rfl) (by decide)) ?_
  refine j_aload0 hE dX7_addLeak_4 ?_
  refine j_geti hE fX7_32 dX7_addLeak_5 (by first | assumption | rfl) ?_
  refine j_iload1 hE dX7_addLeak_8 ?_
  refine j_SN3v hE mX7_54 (c_X10_put l C hC _ (pp + 1) 4 h1 (by decide) _ _) dX7_addLeak_9 (by decide) (Nat.le_of_ble_eq_true rfl) ?_
  refine j_aload0 hE dX7_addLeak_12 ?_
  refine j_dup hE dX7_addLeak_13 rfl ?_
  refine j_geti hE fX7_32 dX7_addLeak_14 (by first | assumption | rfl) ?_
  refine j_iconst hE (nI 1) dX7_addLeak_17 kiconst_1 ?_
  refine j_iadd hE dX7_addLeak_18 ?_
  refine j_puti hE pX7_32 dX7_addLeak_19 (by first | assumption | rfl) rfl rfl ?_
  exact j_vret hE hR dX7_addLeak_22 (rfl)

set_option maxHeartbeats 4000000 in
set_option maxRecDepth 100000 in
theorem c_X7_addCrack (l : Launch) (C : JC) (hC : JInj C) (S : Sto) (pp : Nat) (h0 : jsh pp = (0, 6)) (h1 : jsh (pp + 1) = (1, 4)) (h2 : jsh (pp + 2) = (1, 6)) (h3 : jsh (pp + 3) = (1, 6)) (h4 : jsh (pp + 4) = (1, 5)) (a b : Int32) : Con l C yX7_addCrack cX7_addCrack 3 none 2 [.ref (C.2.1 pp), .int a, .int b] S none (addCS S pp a b) := by
  refine con_of RX7 0 [some (.ref (C.2.1 pp)), some (.int a), some (.int b)] (by decide) rfl hC (Nat.le_of_ble_eq_true rfl) rfl (Nat.le_of_ble_eq_true rfl) (fun E hE hR => ?_)
  refine j_aload0 hE dX7_addCrack_0 ?_
  refine j_getr hE fX7_15 dX7_addCrack_1 (by first | assumption | rfl) (rf_o (by first | assumption | rfl) (by decide)) ?_
  refine j_aload0 hE dX7_addCrack_4 ?_
  refine j_geti hE fX7_35 dX7_addCrack_5 (by first | assumption | rfl) ?_
  refine j_iload1 hE dX7_addCrack_8 ?_
  refine j_SN3v hE mX7_54 (c_X10_put l C hC _ (pp + 2) 6 h2 (by decide) _ _) dX7_addCrack_9 (by decide) (Nat.le_of_ble_eq_true rfl) ?_
  refine j_aload0 hE dX7_addCrack_12 ?_
  refine j_getr hE fX7_18 dX7_addCrack_13 (by first | assumption | rfl) (rf_o (by first | assumption | rfl) (by decide)) ?_
  refine j_aload0 hE dX7_addCrack_16 ?_
  refine j_geti hE fX7_35 dX7_addCrack_17 (by first | assumption | rfl) ?_
  refine j_iload2 hE dX7_addCrack_20 ?_
  refine j_SN3v hE mX7_54 (c_X10_put l C hC _ (pp + 3) 6 h3 (by decide) _ _) dX7_addCrack_21 (by decide) (Nat.le_of_ble_eq_true rfl) ?_
  refine j_aload0 hE dX7_addCrack_24 ?_
  refine j_dup hE dX7_addCrack_25 rfl ?_
  refine j_geti hE fX7_35 dX7_addCrack_26 (by first | assumption | rfl) ?_
  refine j_iconst hE (nI 1) dX7_addCrack_29 kiconst_1 ?_
  refine j_iadd hE dX7_addCrack_30 ?_
  refine j_puti hE pX7_35 dX7_addCrack_31 (by first | assumption | rfl) rfl rfl ?_
  exact j_vret hE hR dX7_addCrack_34 (rfl)

set_option maxHeartbeats 4000000 in
set_option maxRecDepth 100000 in
theorem c_X7_addFace (l : Launch) (C : JC) (hC : JInj C) (S : Sto) (pp : Nat) (h0 : jsh pp = (0, 6)) (h1 : jsh (pp + 1) = (1, 4)) (h2 : jsh (pp + 2) = (1, 6)) (h3 : jsh (pp + 3) = (1, 6)) (h4 : jsh (pp + 4) = (1, 5)) (x : Int32) : Con l C yX7_addFace cX7_addFace 2 none 2 [.ref (C.2.1 pp), .int x] S none (addFS S pp x) := by
  refine con_of RX7 0 [some (.ref (C.2.1 pp)), some (.int x)] (by decide) rfl hC (Nat.le_of_ble_eq_true rfl) rfl (Nat.le_of_ble_eq_true rfl) (fun E hE hR => ?_)
  refine j_aload0 hE dX7_addFace_0 ?_
  refine j_getr hE fX7_21 dX7_addFace_1 (by first | assumption | rfl) (rf_o (by first | assumption | rfl) (by decide)) ?_
  refine j_aload0 hE dX7_addFace_4 ?_
  refine j_geti hE fX7_38 dX7_addFace_5 (by first | assumption | rfl) ?_
  refine j_iload1 hE dX7_addFace_8 ?_
  refine j_SN3v hE mX7_54 (c_X10_put l C hC _ (pp + 4) 5 h4 (by decide) _ _) dX7_addFace_9 (by decide) (Nat.le_of_ble_eq_true rfl) ?_
  refine j_aload0 hE dX7_addFace_12 ?_
  refine j_dup hE dX7_addFace_13 rfl ?_
  refine j_geti hE fX7_38 dX7_addFace_14 (by first | assumption | rfl) ?_
  refine j_iconst hE (nI 1) dX7_addFace_17 kiconst_1 ?_
  refine j_iadd hE dX7_addFace_18 ?_
  refine j_puti hE pX7_38 dX7_addFace_19 (by first | assumption | rfl) rfl rfl ?_
  exact j_vret hE hR dX7_addFace_22 (rfl)

abbrev bitP (x k : Int32) : Prop := ¬ (x >>> (k &&& 31)) &&& nI 1 = 0
def marksF (w : Nat → Int32) : Nat → Int32
  | 0 => nI 0
  | n + 1 => if w n < nI 3 then marksF w n else marksF w n ||| (nI 1 <<< (nI n &&& 31))
def wetF (w : Nat → Int32) : Nat → Int32
  | 0 => nI 0
  | n + 1 => wetF w n + w n
set_option maxHeartbeats 4000000 in
set_option maxRecDepth 100000 in
theorem c_X1_isFilled (l : Launch) (C : JC) (hC : JInj C) (S : Sto) (dd : Nat) (g0 : jsh dd = (0, 1)) (g1 : jsh (dd + 1) = (1, 25)) (g2 : jsh (dd + 2) = (1, 4)) (c : Int32) : Con l C yX1_isFilled cX1_isFilled 2 (some .boolean) 1 [.ref (C.2.1 dd), .int c] S (some (.int (if bitP (S dd 3) c then nI 1 else nI 0))) (S) := by
  refine con_of RX1 0 [some (.ref (C.2.1 dd)), some (.int c)] (by decide) rfl hC (Nat.le_of_ble_eq_true rfl) rfl (Nat.le_of_ble_eq_true rfl) (fun E hE hR => ?_)
  refine j_aload0 hE dX1_isFilled_0 ?_
  refine j_geti hE fX1_30 dX1_isFilled_1 (by first | assumption | rfl) ?_
  refine j_iload1 hE dX1_isFilled_4 ?_
  refine j_ishr hE dX1_isFilled_5 ?_
  refine j_iconst hE (nI 1) dX1_isFilled_6 kiconst_1 ?_
  refine j_iand hE dX1_isFilled_7 ?_
  refine j_ifeq hE 15 dX1_isFilled_8 (by decide) (fun c8 => ?_) (fun c8 => ?_)
  · skip
    refine j_iconst hE (nI 0) dX1_isFilled_15 kiconst_0 ?_
    exact j_zret hE hR dX1_isFilled_16 (by first
        | (rw [if_neg (fun q => q c8)]; done)
        | (rw [if_pos c8]; done)) (rfl) nar_c
  · skip
    refine j_iconst hE (nI 1) dX1_isFilled_11 kiconst_1 ?_
    refine j_goto hE 16 dX1_isFilled_12 (by decide) ?_
    exact j_zret hE hR dX1_isFilled_16 (by first
        | (rw [if_neg (fun q => q c8)]; done)
        | (rw [if_pos c8]; done)) (rfl) nar_c

set_option maxHeartbeats 4000000 in
set_option maxRecDepth 100000 in
theorem c_X1_marks (l : Launch) (C : JC) (hC : JInj C) (S : Sto) (dd : Nat) (g0 : jsh dd = (0, 1)) (g1 : jsh (dd + 1) = (1, 25)) (g2 : jsh (dd + 2) = (1, 4))  : Con l C yX1_marks cX1_marks 3 (some .int) 1 [.ref (C.2.1 dd)] S (some (.int (marksF (S (dd + 1)) 25))) (S) := by
  refine con_of RX1 2 [some (.ref (C.2.1 dd)), none, none] (by decide) rfl hC (Nat.le_of_ble_eq_true rfl) rfl (Nat.le_of_ble_eq_true rfl) (fun E hE hR => ?_)
  refine j_iconst hE (nI 0) dX1_marks_0 kiconst_0 ?_
  refine j_istore1 hE dX1_marks_1 rfl ?_
  refine j_iconst hE (nI 0) dX1_marks_2 kiconst_0 ?_
  refine j_istore2 hE dX1_marks_3 rfl ?_
  have L4 : ∀ (fu : Nat) (i : Nat), 25 - i < fu → (i ≤ 25) → J C E S 4 [some (.ref (C.2.1 dd)), some (.int (marksF (S (dd + 1)) i)), some (.int (nI i))] [] := by
    intro fu
    induction fu with
    | zero => intro i hm; omega
    | succ fu ih =>
      intro i hm hi
      refine j_iload2 hE dX1_marks_4 ?_
      refine j_aload0 hE dX1_marks_5 ?_
      refine j_getr hE fX1_9 dX1_marks_6 (by first | assumption | rfl) (rf_o (by first | assumption | rfl) (by decide)) ?_
      refine j_alen hE dX1_marks_9 (nI 25) (by first | assumption | rfl) rfl ?_
      refine j_icmpge hE 35 dX1_marks_10 (by decide) (fun c10 => ?_) (fun c10 => ?_)
      · skip
        have c10 := (nI_leI (by omega) (by omega)).mp c10
        have hii : i = 25 := by omega
        subst hii
        refine j_iload1 hE dX1_marks_35 ?_
        exact j_iret hE hR dX1_marks_36 (rfl) (rfl)
      · skip
        have c10 : i < 25 := Nat.lt_of_not_le (fun q => c10 (nI_le q (by omega)))
        refine j_aload0 hE dX1_marks_13 ?_
        refine j_getr hE fX1_9 dX1_marks_14 (by first | assumption | rfl) (rf_o (by first | assumption | rfl) (by decide)) ?_
        refine j_iload2 hE dX1_marks_17 ?_
        refine j_ialdN hE dX1_marks_18 (by first | assumption | rfl) (by omega) (by decide) ?_
        refine j_iconst hE (nI 3) dX1_marks_19 kiconst_3 ?_
        refine j_icmplt hE 29 dX1_marks_20 (by decide) (fun c20 => ?_) (fun c20 => ?_)
        · skip
          refine j_iinc2 hE (nI (i + 1)) dX1_marks_29 (nI_inc _) rfl ?_
          refine j_goto hE 4 dX1_marks_32 (by decide) ?_
          exact j_cast rfl (by simp only [marksF, c20, if_true, if_false]) (ih (i + 1) (by omega) (by omega))
        · skip
          refine j_iload1 hE dX1_marks_23 ?_
          refine j_iconst hE (nI 1) dX1_marks_24 kiconst_1 ?_
          refine j_iload2 hE dX1_marks_25 ?_
          refine j_ishl hE dX1_marks_26 ?_
          refine j_ior hE dX1_marks_27 ?_
          refine j_istore1 hE dX1_marks_28 rfl ?_
          refine j_iinc2 hE (nI (i + 1)) dX1_marks_29 (nI_inc _) rfl ?_
          refine j_goto hE 4 dX1_marks_32 (by decide) ?_
          exact j_cast rfl (by simp only [marksF, c20, if_true, if_false]) (ih (i + 1) (by omega) (by omega))
  exact L4 26 0 (by omega) (by omega)

set_option maxHeartbeats 4000000 in
set_option maxRecDepth 100000 in
theorem c_X1_markCount (l : Launch) (C : JC) (hC : JInj C) (S : Sto) (dd : Nat) (g0 : jsh dd = (0, 1)) (g1 : jsh (dd + 1) = (1, 25)) (g2 : jsh (dd + 2) = (1, 4))  : Con l C yX1_markCount cX1_markCount 1 (some .int) 2 [.ref (C.2.1 dd)] S (some (.int (bcF (marksF (S (dd + 1)) 25)))) (S) := by
  refine con_of RX1 0 [some (.ref (C.2.1 dd))] (by decide) rfl hC (Nat.le_of_ble_eq_true rfl) rfl (Nat.le_of_ble_eq_true rfl) (fun E hE hR => ?_)
  refine j_aload0 hE dX1_markCount_0 ?_
  refine j_V0i hE mX1_48 (c_X1_marks l C hC _ dd g0 g1 g2) dX1_markCount_1 (by first | assumption | rfl) (by decide) (Nat.le_of_ble_eq_true rfl) ?_
  refine j_S1i hE mX1_52 (c_J6_bitCount_0f7a4 l C hC _ _) dX1_markCount_4 (by decide) (Nat.le_of_ble_eq_true rfl) ?_
  exact j_iret hE hR dX1_markCount_7 (rfl) (rfl)

set_option maxHeartbeats 4000000 in
set_option maxRecDepth 100000 in
theorem c_X1_allWet (l : Launch) (C : JC) (hC : JInj C) (S : Sto) (dd : Nat) (g0 : jsh dd = (0, 1)) (g1 : jsh (dd + 1) = (1, 25)) (g2 : jsh (dd + 2) = (1, 4))  : Con l C yX1_allWet cX1_allWet 3 (some .int) 1 [.ref (C.2.1 dd)] S (some (.int (wetF (S (dd + 1)) 25))) (S) := by
  refine con_of RX1 2 [some (.ref (C.2.1 dd)), none, none] (by decide) rfl hC (Nat.le_of_ble_eq_true rfl) rfl (Nat.le_of_ble_eq_true rfl) (fun E hE hR => ?_)
  refine j_iconst hE (nI 0) dX1_allWet_0 kiconst_0 ?_
  refine j_istore1 hE dX1_allWet_1 rfl ?_
  refine j_iconst hE (nI 0) dX1_allWet_2 kiconst_0 ?_
  refine j_istore2 hE dX1_allWet_3 rfl ?_
  have L4 : ∀ (fu : Nat) (i : Nat), 25 - i < fu → (i ≤ 25) → J C E S 4 [some (.ref (C.2.1 dd)), some (.int (wetF (S (dd + 1)) i)), some (.int (nI i))] [] := by
    intro fu
    induction fu with
    | zero => intro i hm; omega
    | succ fu ih =>
      intro i hm hi
      refine j_iload2 hE dX1_allWet_4 ?_
      refine j_aload0 hE dX1_allWet_5 ?_
      refine j_getr hE fX1_9 dX1_allWet_6 (by first | assumption | rfl) (rf_o (by first | assumption | rfl) (by decide)) ?_
      refine j_alen hE dX1_allWet_9 (nI 25) (by first | assumption | rfl) rfl ?_
      refine j_icmpge hE 28 dX1_allWet_10 (by decide) (fun c10 => ?_) (fun c10 => ?_)
      · skip
        have c10 := (nI_leI (by omega) (by omega)).mp c10
        have hii : i = 25 := by omega
        subst hii
        refine j_iload1 hE dX1_allWet_28 ?_
        exact j_iret hE hR dX1_allWet_29 (rfl) (rfl)
      · skip
        have c10 : i < 25 := Nat.lt_of_not_le (fun q => c10 (nI_le q (by omega)))
        refine j_iload1 hE dX1_allWet_13 ?_
        refine j_aload0 hE dX1_allWet_14 ?_
        refine j_getr hE fX1_9 dX1_allWet_15 (by first | assumption | rfl) (rf_o (by first | assumption | rfl) (by decide)) ?_
        refine j_iload2 hE dX1_allWet_18 ?_
        refine j_ialdN hE dX1_allWet_19 (by first | assumption | rfl) (by omega) (by decide) ?_
        refine j_iadd hE dX1_allWet_20 ?_
        refine j_istore1 hE dX1_allWet_21 rfl ?_
        refine j_iinc2 hE (nI (i + 1)) dX1_allWet_22 (nI_inc _) rfl ?_
        refine j_goto hE 4 dX1_allWet_25 (by decide) ?_
        exact ih (i + 1) (by omega) (by omega)
  exact L4 26 0 (by omega) (by omega)

theorem cpN_s (f g : Nat → Int32) (i : Nat) : upd (cpN i f g) i (f i) = cpN (i + 1) f g := by
  funext j
  unfold upd cpN
  by_cases h : j = i
  · subst h; simp
  · rw [if_neg h]
    by_cases q : j < i
    · rw [if_pos q, if_pos (by omega)]
    · rw [if_neg q, if_neg (by omega)]
theorem cpN_0 (f g : Nat → Int32) : cpN 0 f g = g := by funext j; simp [cpN]
def begS (S : Sto) (dd pp : Nat) : Sto :=
  let T := upA (upA S (dd + 1) (cpN 25 (fun _ => nI 0) (S (dd + 1)))) (dd + 2) (cpN 4 (S (pp + 1)) (S (dd + 2)))
  up2 (up2 (up2 (up2 (up2 T dd 2 (T pp 7)) dd 3 (nI 0)) dd 4 (nI 0)) dd 5 (nI 0)) dd 6 (nI 0)
def copS (S : Sto) (dd ee : Nat) : Sto :=
  let S1 := upA S (dd + 1) (cpN 25 (S (ee + 1)) (S (dd + 1)))
  let S2 := upA S1 (dd + 2) (cpN 4 (S1 (ee + 2)) (S1 (dd + 2)))
  let S3 := up2 S2 dd 2 (S2 ee 2)
  let S4 := up2 S3 dd 3 (S3 ee 3)
  let S5 := up2 S4 dd 4 (S4 ee 4)
  let S6 := up2 S5 dd 5 (S5 ee 5)
  up2 S6 dd 6 (S6 ee 6)
set_option maxHeartbeats 4000000 in
set_option maxRecDepth 100000 in
theorem c_X1_begin (l : Launch) (C : JC) (hC : JInj C) (S : Sto) (dd : Nat) (g0 : jsh dd = (0, 1)) (g1 : jsh (dd + 1) = (1, 25)) (g2 : jsh (dd + 2) = (1, 4)) (pp : Nat) (h0 : jsh pp = (0, 6)) (h1 : jsh (pp + 1) = (1, 4)) (h2 : jsh (pp + 2) = (1, 6)) (h3 : jsh (pp + 3) = (1, 6)) (h4 : jsh (pp + 4) = (1, 5)) (hne : pp + 1 ≠ dd + 1) (hne2 : pp + 1 ≠ dd + 2) : Con l C yX1_begin cX1_begin 3 none 2 [.ref (C.2.1 dd), .ref (C.2.1 pp)] S none (begS S dd pp) := by
  refine con_of RX1 1 [some (.ref (C.2.1 dd)), some (.ref (C.2.1 pp)), none] (by decide) rfl hC (Nat.le_of_ble_eq_true rfl) rfl (Nat.le_of_ble_eq_true rfl) (fun E hE hR => ?_)
  refine j_iconst hE (nI 0) dX1_begin_0 kiconst_0 ?_
  refine j_istore2 hE dX1_begin_1 rfl ?_
  have L2 : ∀ (fu : Nat) (i : Nat), 25 - i < fu → (i ≤ 25) → J C E (upA S (dd + 1) (cpN i (fun _ => nI 0) (S (dd + 1)))) 2 [some (.ref (C.2.1 dd)), some (.ref (C.2.1 pp)), some (.int (nI i))] [] := by
    intro fu
    induction fu with
    | zero => intro i hm; omega
    | succ fu ih =>
      intro i hm hi
      refine j_iload2 hE dX1_begin_2 ?_
      refine j_aload0 hE dX1_begin_3 ?_
      refine j_getr hE fX1_9 dX1_begin_4 (by first | assumption | rfl) (rf_o (by first | assumption | rfl) (by decide)) ?_
      refine j_alen hE dX1_begin_7 (nI 25) (by first | assumption | rfl) rfl ?_
      refine j_icmpge hE 24 dX1_begin_8 (by decide) (fun c8 => ?_) (fun c8 => ?_)
      · skip
        have c8 := (nI_leI (by omega) (by omega)).mp c8
        have hii : i = 25 := by omega
        subst hii
        refine j_iconst hE (nI 0) dX1_begin_24 kiconst_0 ?_
        refine j_istore2 hE dX1_begin_25 rfl ?_
        have L26 : ∀ (fu : Nat) (i : Nat), 4 - i < fu → (i ≤ 4) → J C E (upA (upA S (dd + 1) (cpN 25 (fun _ => nI 0) (S (dd + 1)))) (dd + 2) (cpN i (S (pp + 1)) (S (dd + 2)))) 26 [some (.ref (C.2.1 dd)), some (.ref (C.2.1 pp)), some (.int (nI i))] [] := by
          intro fu
          induction fu with
          | zero => intro i hm; omega
          | succ fu ih =>
            intro i hm hi
            refine j_iload2 hE dX1_begin_26 ?_
            refine j_aload0 hE dX1_begin_27 ?_
            refine j_getr hE fX1_15 dX1_begin_28 (by first | assumption | rfl) (rf_o (by first | assumption | rfl) (by decide)) ?_
            refine j_alen hE dX1_begin_31 (nI 4) (by first | assumption | rfl) rfl ?_
            refine j_icmpge hE 55 dX1_begin_32 (by decide) (fun c32 => ?_) (fun c32 => ?_)
            · skip
              have c32 := (nI_leI (by omega) (by omega)).mp c32
              have hii : i = 4 := by omega
              subst hii
              refine j_aload0 hE dX1_begin_55 ?_
              refine j_aload1 hE dX1_begin_56 ?_
              refine j_geti hE fX1_25 dX1_begin_57 (by first | assumption | rfl) ?_
              refine j_puti hE pX1_29 dX1_begin_60 (by first | assumption | rfl) rfl rfl ?_
              refine j_aload0 hE dX1_begin_63 ?_
              refine j_iconst hE (nI 0) dX1_begin_64 kiconst_0 ?_
              refine j_puti hE pX1_30 dX1_begin_65 (by first | assumption | rfl) rfl rfl ?_
              refine j_aload0 hE dX1_begin_68 ?_
              refine j_iconst hE (nI 0) dX1_begin_69 kiconst_0 ?_
              refine j_puti hE pX1_33 dX1_begin_70 (by first | assumption | rfl) rfl rfl ?_
              refine j_aload0 hE dX1_begin_73 ?_
              refine j_iconst hE (nI 0) dX1_begin_74 kiconst_0 ?_
              refine j_puti hE pX1_36 dX1_begin_75 (by first | assumption | rfl) rfl rfl ?_
              refine j_aload0 hE dX1_begin_78 ?_
              refine j_iconst hE (nI 0) dX1_begin_79 kiconst_0 ?_
              refine j_puti hE pX1_39 dX1_begin_80 (by first | assumption | rfl) rfl rfl ?_
              exact j_vret hE hR dX1_begin_83 (rfl)
            · skip
              have c32 : i < 4 := Nat.lt_of_not_le (fun q => c32 (nI_le q (by omega)))
              refine j_aload0 hE dX1_begin_35 ?_
              refine j_getr hE fX1_15 dX1_begin_36 (by first | assumption | rfl) (rf_o (by first | assumption | rfl) (by decide)) ?_
              refine j_iload2 hE dX1_begin_39 ?_
              refine j_aload1 hE dX1_begin_40 ?_
              refine j_getr hE fX1_18 dX1_begin_41 (by first | assumption | rfl) (rf_o (by first | assumption | rfl) (by decide)) ?_
              refine j_iload2 hE dX1_begin_44 ?_
              refine j_SN2i hE mX1_21 (c_X10_pick l C hC _ (pp + 1) 4 h1 (by decide) (nI i)) dX1_begin_45 (by decide) (Nat.le_of_ble_eq_true rfl) ?_
              refine j_top (pickN (by omega) (by decide)) ?_
              refine j_iastN hE dX1_begin_48 (by first | assumption | rfl) (by omega) (by decide) ?_
              refine j_iinc2 hE (nI (i + 1)) dX1_begin_49 (nI_inc _) rfl ?_
              refine j_goto hE 26 dX1_begin_52 (by decide) ?_
              exact j_cast (by rw [up2_upA, upA_ne _ _ hne2, upA_ne _ _ hne, cpN_s]) rfl (ih (i + 1) (by omega) (by omega))
        exact j_cast (by rw [cpN_0]; exact (upA_ne_self _ _ (by omega)).symm) rfl (L26 5 0 (by omega) (by omega))
      · skip
        have c8 : i < 25 := Nat.lt_of_not_le (fun q => c8 (nI_le q (by omega)))
        refine j_aload0 hE dX1_begin_11 ?_
        refine j_getr hE fX1_9 dX1_begin_12 (by first | assumption | rfl) (rf_o (by first | assumption | rfl) (by decide)) ?_
        refine j_iload2 hE dX1_begin_15 ?_
        refine j_iconst hE (nI 0) dX1_begin_16 kiconst_0 ?_
        refine j_iastN hE dX1_begin_17 (by first | assumption | rfl) (by omega) (by decide) ?_
        refine j_iinc2 hE (nI (i + 1)) dX1_begin_18 (nI_inc _) rfl ?_
        refine j_goto hE 2 dX1_begin_21 (by decide) ?_
        exact j_cast (by rw [up2_upA, cpN_s]) rfl (ih (i + 1) (by omega) (by omega))
  exact j_cast (by rw [cpN_0, upA_self]) rfl (L2 26 0 (by omega) (by omega))

set_option maxHeartbeats 4000000 in
set_option maxRecDepth 100000 in
theorem c_X1_copyFrom (l : Launch) (C : JC) (hC : JInj C) (S : Sto) (dd : Nat) (g0 : jsh dd = (0, 1)) (g1 : jsh (dd + 1) = (1, 25)) (g2 : jsh (dd + 2) = (1, 4)) (ee : Nat) (e0 : jsh ee = (0, 1)) (e1 : jsh (ee + 1) = (1, 25)) (e2 : jsh (ee + 2) = (1, 4))  : Con l C yX1_copyFrom cX1_copyFrom 2 none 2 [.ref (C.2.1 dd), .ref (C.2.1 ee)] S none (copS S dd ee) := by
  refine con_of RX1 0 [some (.ref (C.2.1 dd)), some (.ref (C.2.1 ee))] (by decide) rfl hC (Nat.le_of_ble_eq_true rfl) rfl (Nat.le_of_ble_eq_true rfl) (fun E hE hR => ?_)
  refine j_aload1 hE dX1_copyFrom_0 ?_
  refine j_getr hE fX1_9 dX1_copyFrom_1 (by first | assumption | rfl) (rf_o (by first | assumption | rfl) (by decide)) ?_
  refine j_iconst hE (nI 0) dX1_copyFrom_4 kiconst_0 ?_
  refine j_aload0 hE dX1_copyFrom_5 ?_
  refine j_getr hE fX1_9 dX1_copyFrom_6 (by first | assumption | rfl) (rf_o (by first | assumption | rfl) (by decide)) ?_
  refine j_iconst hE (nI 0) dX1_copyFrom_9 kiconst_0 ?_
  refine j_bipush hE (nI 25) dX1_copyFrom_10 kbipush_25 ?_
  refine j_copy hE mX1_42 ac_n ac_s ac_i dX1_copyFrom_12 25 (by decide) (by first | assumption | rfl) (by first | assumption | rfl) (by decide) (by decide) (by decide) (by decide) ?_
  refine j_aload1 hE dX1_copyFrom_15 ?_
  refine j_getr hE fX1_15 dX1_copyFrom_16 (by first | assumption | rfl) (rf_o (by first | assumption | rfl) (by decide)) ?_
  refine j_iconst hE (nI 0) dX1_copyFrom_19 kiconst_0 ?_
  refine j_aload0 hE dX1_copyFrom_20 ?_
  refine j_getr hE fX1_15 dX1_copyFrom_21 (by first | assumption | rfl) (rf_o (by first | assumption | rfl) (by decide)) ?_
  refine j_iconst hE (nI 0) dX1_copyFrom_24 kiconst_0 ?_
  refine j_iconst hE (nI 4) dX1_copyFrom_25 kiconst_4 ?_
  refine j_copy hE mX1_42 ac_n ac_s ac_i dX1_copyFrom_26 4 (by decide) (by first | assumption | rfl) (by first | assumption | rfl) (by decide) (by decide) (by decide) (by decide) ?_
  refine j_aload0 hE dX1_copyFrom_29 ?_
  refine j_aload1 hE dX1_copyFrom_30 ?_
  refine j_geti hE fX1_29 dX1_copyFrom_31 (by first | assumption | rfl) ?_
  refine j_puti hE pX1_29 dX1_copyFrom_34 (by first | assumption | rfl) rfl rfl ?_
  refine j_aload0 hE dX1_copyFrom_37 ?_
  refine j_aload1 hE dX1_copyFrom_38 ?_
  refine j_geti hE fX1_30 dX1_copyFrom_39 (by first | assumption | rfl) ?_
  refine j_puti hE pX1_30 dX1_copyFrom_42 (by first | assumption | rfl) rfl rfl ?_
  refine j_aload0 hE dX1_copyFrom_45 ?_
  refine j_aload1 hE dX1_copyFrom_46 ?_
  refine j_geti hE fX1_33 dX1_copyFrom_47 (by first | assumption | rfl) ?_
  refine j_puti hE pX1_33 dX1_copyFrom_50 (by first | assumption | rfl) rfl rfl ?_
  refine j_aload0 hE dX1_copyFrom_53 ?_
  refine j_aload1 hE dX1_copyFrom_54 ?_
  refine j_geti hE fX1_36 dX1_copyFrom_55 (by first | assumption | rfl) ?_
  refine j_puti hE pX1_36 dX1_copyFrom_58 (by first | assumption | rfl) rfl rfl ?_
  refine j_aload0 hE dX1_copyFrom_61 ?_
  refine j_aload1 hE dX1_copyFrom_62 ?_
  refine j_geti hE fX1_39 dX1_copyFrom_63 (by first | assumption | rfl) ?_
  refine j_puti hE pX1_39 dX1_copyFrom_66 (by first | assumption | rfl) rfl rfl ?_
  exact j_vret hE hR dX1_copyFrom_69 (rfl)

def lcg (s : Int32) : Int32 := (s * 1103515245 + nI 12345) &&& 2147483647
def drawF (s n : Int32) : Int32 := if n ≤ 0 then nI 0 else s / 65536 - s / 65536 / n * n
set_option maxHeartbeats 4000000 in
set_option maxRecDepth 100000 in
theorem c_X2_draw (l : Launch) (C : JC) (hC : JInj C) (S : Sto) (n : Int32) : Con l C yX2_draw cX2_draw 2 (some .int) 1 [.ref (C.2.1 94), .int n] S (some (.int (drawF (lcg (S 94 0)) n))) (up2 S 94 0 (lcg (S 94 0))) := by
  refine con_of RX2 0 [some (.ref (C.2.1 94)), some (.int n)] (by decide) rfl hC (Nat.le_of_ble_eq_true rfl) rfl (Nat.le_of_ble_eq_true rfl) (fun E hE hR => ?_)
  refine j_aload0 hE dX2_draw_0 ?_
  refine j_aload0 hE dX2_draw_1 ?_
  refine j_geti hE fX2_7 dX2_draw_2 (by first | assumption | rfl) ?_
  refine j_ldc hE dX2_draw_5 kX2_13 ?_
  refine j_imul hE dX2_draw_7 ?_
  refine j_sipush hE (nI 12345) dX2_draw_8 ksipush_12345 ?_
  refine j_iadd hE dX2_draw_11 ?_
  refine j_ldc hE dX2_draw_12 kX2_14 ?_
  refine j_iand hE dX2_draw_14 ?_
  refine j_puti hE pX2_7 dX2_draw_15 (by first | assumption | rfl) rfl rfl ?_
  refine j_iload1 hE dX2_draw_18 ?_
  refine j_ifle hE 34 dX2_draw_19 (by decide) (fun c19 => ?_) (fun c19 => ?_)
  · skip
    refine j_iconst hE (nI 0) dX2_draw_34 kiconst_0 ?_
    exact j_iret hE hR dX2_draw_35 (by first | (rw [drawF, if_pos c19]; done) | (rw [drawF, if_neg c19]; rfl)) (rfl)
  · skip
    refine j_aload0 hE dX2_draw_22 ?_
    refine j_geti hE fX2_7 dX2_draw_23 (by first | assumption | rfl) ?_
    refine j_ldc hE dX2_draw_26 kX2_15 ?_
    refine j_idiv hE dX2_draw_28 (by decide) ?_
    refine j_iload1 hE dX2_draw_29 ?_
    refine j_irem hE dX2_draw_30 (fun q => c19 (by rw [q]; decide)) ?_
    refine j_goto hE 35 dX2_draw_31 (by decide) ?_
    exact j_iret hE hR dX2_draw_35 (by first | (rw [drawF, if_pos c19]; done) | (rw [drawF, if_neg c19]; rfl)) (rfl)
end
