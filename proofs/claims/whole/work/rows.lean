section
/-- a private method of a class that the tables say can be made, by its rows of tables_1 -/
def lw_okq (q : MethodName × Nat) : Prop := (q.1.cls ≠ "java/lang/invoke/MethodHandle" ∧ q.1.cls ≠ "java/lang/invoke/VarHandle") ∧ Cond.instantiable q.1.cls q.2 ∈ tables_1 ∧ Cond.privateMethod q.1 ∈ tables_1 ∧ Cond.instanceMethod q.1 ∈ tables_1
theorem lw_p0 : lw_okq (⟨"DampLikeness$Reader", "peek", "()I"⟩, 7) := ⟨⟨by decide +kernel, by decide +kernel⟩, List.mem_of_getElem? (i := 25) (by decide +kernel), List.mem_of_getElem? (i := 344) (by decide +kernel), List.mem_of_getElem? (i := 345) (by decide +kernel)⟩
theorem lw_p1 : lw_okq (⟨"DampLikeness$Reader", "readClause", "(LDampLikeness$Plan;)V"⟩, 7) := ⟨⟨by decide +kernel, by decide +kernel⟩, List.mem_of_getElem? (i := 25) (by decide +kernel), List.mem_of_getElem? (i := 351) (by decide +kernel), List.mem_of_getElem? (i := 352) (by decide +kernel)⟩
theorem lw_p2 : lw_okq (⟨"DampLikeness$Reader", "fail", "(II)V"⟩, 7) := ⟨⟨by decide +kernel, by decide +kernel⟩, List.mem_of_getElem? (i := 25) (by decide +kernel), List.mem_of_getElem? (i := 355) (by decide +kernel), List.mem_of_getElem? (i := 356) (by decide +kernel)⟩
theorem lw_p3 : lw_okq (⟨"DampLikeness$Reader", "readSize", "(LDampLikeness$Plan;)V"⟩, 7) := ⟨⟨by decide +kernel, by decide +kernel⟩, List.mem_of_getElem? (i := 25) (by decide +kernel), List.mem_of_getElem? (i := 359) (by decide +kernel), List.mem_of_getElem? (i := 360) (by decide +kernel)⟩
theorem lw_p4 : lw_okq (⟨"DampLikeness$Reader", "takeWord", "(Z)V"⟩, 7) := ⟨⟨by decide +kernel, by decide +kernel⟩, List.mem_of_getElem? (i := 25) (by decide +kernel), List.mem_of_getElem? (i := 363) (by decide +kernel), List.mem_of_getElem? (i := 364) (by decide +kernel)⟩
theorem lw_p5 : lw_okq (⟨"DampLikeness$Reader", "takeNumber", "(II)I"⟩, 7) := ⟨⟨by decide +kernel, by decide +kernel⟩, List.mem_of_getElem? (i := 25) (by decide +kernel), List.mem_of_getElem? (i := 367) (by decide +kernel), List.mem_of_getElem? (i := 368) (by decide +kernel)⟩
theorem lw_p6 : lw_okq (⟨"DampLikeness$Reader", "takeSign", "(I)Z"⟩, 7) := ⟨⟨by decide +kernel, by decide +kernel⟩, List.mem_of_getElem? (i := 25) (by decide +kernel), List.mem_of_getElem? (i := 375) (by decide +kernel), List.mem_of_getElem? (i := 376) (by decide +kernel)⟩
theorem lw_p7 : lw_okq (⟨"DampLikeness$Reader", "readLeak", "(LDampLikeness$Plan;)V"⟩, 7) := ⟨⟨by decide +kernel, by decide +kernel⟩, List.mem_of_getElem? (i := 25) (by decide +kernel), List.mem_of_getElem? (i := 380) (by decide +kernel), List.mem_of_getElem? (i := 381) (by decide +kernel)⟩
theorem lw_p8 : lw_okq (⟨"DampLikeness$Reader", "readCrack", "(LDampLikeness$Plan;)V"⟩, 7) := ⟨⟨by decide +kernel, by decide +kernel⟩, List.mem_of_getElem? (i := 25) (by decide +kernel), List.mem_of_getElem? (i := 393) (by decide +kernel), List.mem_of_getElem? (i := 394) (by decide +kernel)⟩
theorem lw_p9 : lw_okq (⟨"DampLikeness$Reader", "readFace", "(LDampLikeness$Plan;)V"⟩, 7) := ⟨⟨by decide +kernel, by decide +kernel⟩, List.mem_of_getElem? (i := 25) (by decide +kernel), List.mem_of_getElem? (i := 419) (by decide +kernel), List.mem_of_getElem? (i := 420) (by decide +kernel)⟩
theorem lw_p10 : lw_okq (⟨"DampLikeness$Reader", "readWind", "(LDampLikeness$Plan;)V"⟩, 7) := ⟨⟨by decide +kernel, by decide +kernel⟩, List.mem_of_getElem? (i := 25) (by decide +kernel), List.mem_of_getElem? (i := 427) (by decide +kernel), List.mem_of_getElem? (i := 428) (by decide +kernel)⟩
theorem lw_p11 : lw_okq (⟨"DampLikeness", "noWall", "()Z"⟩, 10) := ⟨⟨by decide +kernel, by decide +kernel⟩, List.mem_of_getElem? (i := 17) (by decide +kernel), List.mem_of_getElem? (i := 545) (by decide +kernel), List.mem_of_getElem? (i := 546) (by decide +kernel)⟩
theorem lw_p12 : lw_okq (⟨"DampLikeness$Flow", "runDownAndByWind", "(LDampLikeness$Plan;LDampLikeness$Damp;)V"⟩, 2) := ⟨⟨by decide +kernel, by decide +kernel⟩, List.mem_of_getElem? (i := 98) (by decide +kernel), List.mem_of_getElem? (i := 575) (by decide +kernel), List.mem_of_getElem? (i := 576) (by decide +kernel)⟩
theorem lw_p13 : lw_okq (⟨"DampLikeness$Flow", "give", "(LDampLikeness$Damp;II)V"⟩, 2) := ⟨⟨by decide +kernel, by decide +kernel⟩, List.mem_of_getElem? (i := 98) (by decide +kernel), List.mem_of_getElem? (i := 583) (by decide +kernel), List.mem_of_getElem? (i := 584) (by decide +kernel)⟩
theorem lw_p14 : lw_okq (⟨"DampLikeness$Flow", "runByCracks", "(LDampLikeness$Plan;LDampLikeness$Damp;)V"⟩, 2) := ⟨⟨by decide +kernel, by decide +kernel⟩, List.mem_of_getElem? (i := 98) (by decide +kernel), List.mem_of_getElem? (i := 591) (by decide +kernel), List.mem_of_getElem? (i := 592) (by decide +kernel)⟩
theorem lw_p15 : lw_okq (⟨"DampLikeness$Flow", "settle", "(LDampLikeness$Damp;I)V"⟩, 2) := ⟨⟨by decide +kernel, by decide +kernel⟩, List.mem_of_getElem? (i := 98) (by decide +kernel), List.mem_of_getElem? (i := 596) (by decide +kernel), List.mem_of_getElem? (i := 597) (by decide +kernel)⟩
def lw_privs_1 : List (MethodName × Nat) := [(⟨"DampLikeness$Reader", "peek", "()I"⟩, 7), (⟨"DampLikeness$Reader", "readClause", "(LDampLikeness$Plan;)V"⟩, 7), (⟨"DampLikeness$Reader", "fail", "(II)V"⟩, 7), (⟨"DampLikeness$Reader", "readSize", "(LDampLikeness$Plan;)V"⟩, 7), (⟨"DampLikeness$Reader", "takeWord", "(Z)V"⟩, 7), (⟨"DampLikeness$Reader", "takeNumber", "(II)I"⟩, 7), (⟨"DampLikeness$Reader", "takeSign", "(I)Z"⟩, 7), (⟨"DampLikeness$Reader", "readLeak", "(LDampLikeness$Plan;)V"⟩, 7), (⟨"DampLikeness$Reader", "readCrack", "(LDampLikeness$Plan;)V"⟩, 7), (⟨"DampLikeness$Reader", "readFace", "(LDampLikeness$Plan;)V"⟩, 7), (⟨"DampLikeness$Reader", "readWind", "(LDampLikeness$Plan;)V"⟩, 7), (⟨"DampLikeness", "noWall", "()Z"⟩, 10), (⟨"DampLikeness$Flow", "runDownAndByWind", "(LDampLikeness$Plan;LDampLikeness$Damp;)V"⟩, 2), (⟨"DampLikeness$Flow", "give", "(LDampLikeness$Damp;II)V"⟩, 2), (⟨"DampLikeness$Flow", "runByCracks", "(LDampLikeness$Plan;LDampLikeness$Damp;)V"⟩, 2), (⟨"DampLikeness$Flow", "settle", "(LDampLikeness$Damp;I)V"⟩, 2)]
theorem lw_r1 : ∀ q ∈ lw_privs_1, lw_okq q := List.forall_mem_cons.mpr ⟨lw_p0, List.forall_mem_cons.mpr ⟨lw_p1, List.forall_mem_cons.mpr ⟨lw_p2, List.forall_mem_cons.mpr ⟨lw_p3, List.forall_mem_cons.mpr ⟨lw_p4, List.forall_mem_cons.mpr ⟨lw_p5, List.forall_mem_cons.mpr ⟨lw_p6, List.forall_mem_cons.mpr ⟨lw_p7, List.forall_mem_cons.mpr ⟨lw_p8, List.forall_mem_cons.mpr ⟨lw_p9, List.forall_mem_cons.mpr ⟨lw_p10, List.forall_mem_cons.mpr ⟨lw_p11, List.forall_mem_cons.mpr ⟨lw_p12, List.forall_mem_cons.mpr ⟨lw_p13, List.forall_mem_cons.mpr ⟨lw_p14, List.forall_mem_cons.mpr ⟨lw_p15, fun _ h => absurd h List.not_mem_nil⟩⟩⟩⟩⟩⟩⟩⟩⟩⟩⟩⟩⟩⟩⟩⟩
theorem lw_p16 : lw_okq (⟨"DampLikeness", "driftOneDay", "()V"⟩, 10) := ⟨⟨by decide +kernel, by decide +kernel⟩, List.mem_of_getElem? (i := 17) (by decide +kernel), List.mem_of_getElem? (i := 639) (by decide +kernel), List.mem_of_getElem? (i := 640) (by decide +kernel)⟩
theorem lw_p17 : lw_okq (⟨"DampLikeness$Trial", "weigh", "(LDampLikeness$Damp;I)V"⟩, 8) := ⟨⟨by decide +kernel, by decide +kernel⟩, List.mem_of_getElem? (i := 111) (by decide +kernel), List.mem_of_getElem? (i := 702) (by decide +kernel), List.mem_of_getElem? (i := 703) (by decide +kernel)⟩
theorem lw_p18 : lw_okq (⟨"DampLikenessModel", "here", "()I"⟩, 40) := ⟨⟨by decide +kernel, by decide +kernel⟩, List.mem_of_getElem? (i := 782) (by decide +kernel), List.mem_of_getElem? (i := 924) (by decide +kernel), List.mem_of_getElem? (i := 925) (by decide +kernel)⟩
theorem lw_p19 : lw_okq (⟨"DampLikenessModel", "takeClause", "()I"⟩, 40) := ⟨⟨by decide +kernel, by decide +kernel⟩, List.mem_of_getElem? (i := 782) (by decide +kernel), List.mem_of_getElem? (i := 928) (by decide +kernel), List.mem_of_getElem? (i := 929) (by decide +kernel)⟩
theorem lw_p20 : lw_okq (⟨"DampLikenessModel", "fails", "(II)I"⟩, 40) := ⟨⟨by decide +kernel, by decide +kernel⟩, List.mem_of_getElem? (i := 782) (by decide +kernel), List.mem_of_getElem? (i := 932) (by decide +kernel), List.mem_of_getElem? (i := 933) (by decide +kernel)⟩
theorem lw_p21 : lw_okq (⟨"DampLikenessModel", "isFull", "(I)Z"⟩, 40) := ⟨⟨by decide +kernel, by decide +kernel⟩, List.mem_of_getElem? (i := 782) (by decide +kernel), List.mem_of_getElem? (i := 936) (by decide +kernel), List.mem_of_getElem? (i := 937) (by decide +kernel)⟩
theorem lw_p22 : lw_okq (⟨"DampLikenessModel", "takeBody", "(I)I"⟩, 40) := ⟨⟨by decide +kernel, by decide +kernel⟩, List.mem_of_getElem? (i := 782) (by decide +kernel), List.mem_of_getElem? (i := 940) (by decide +kernel), List.mem_of_getElem? (i := 941) (by decide +kernel)⟩
theorem lw_p23 : lw_okq (⟨"DampLikenessModel", "takeWall", "()I"⟩, 40) := ⟨⟨by decide +kernel, by decide +kernel⟩, List.mem_of_getElem? (i := 782) (by decide +kernel), List.mem_of_getElem? (i := 944) (by decide +kernel), List.mem_of_getElem? (i := 945) (by decide +kernel)⟩
theorem lw_p24 : lw_okq (⟨"DampLikenessModel", "takeNumber", "(II)I"⟩, 40) := ⟨⟨by decide +kernel, by decide +kernel⟩, List.mem_of_getElem? (i := 782) (by decide +kernel), List.mem_of_getElem? (i := 948) (by decide +kernel), List.mem_of_getElem? (i := 949) (by decide +kernel)⟩
theorem lw_p25 : lw_okq (⟨"DampLikenessModel", "takeLeak", "()I"⟩, 40) := ⟨⟨by decide +kernel, by decide +kernel⟩, List.mem_of_getElem? (i := 782) (by decide +kernel), List.mem_of_getElem? (i := 954) (by decide +kernel), List.mem_of_getElem? (i := 955) (by decide +kernel)⟩
theorem lw_p26 : lw_okq (⟨"DampLikenessModel", "readCells", "()I"⟩, 40) := ⟨⟨by decide +kernel, by decide +kernel⟩, List.mem_of_getElem? (i := 782) (by decide +kernel), List.mem_of_getElem? (i := 958) (by decide +kernel), List.mem_of_getElem? (i := 959) (by decide +kernel)⟩
theorem lw_p27 : lw_okq (⟨"DampLikenessModel", "into", "([IIII)I"⟩, 40) := ⟨⟨by decide +kernel, by decide +kernel⟩, List.mem_of_getElem? (i := 782) (by decide +kernel), List.mem_of_getElem? (i := 962) (by decide +kernel), List.mem_of_getElem? (i := 963) (by decide +kernel)⟩
theorem lw_p28 : lw_okq (⟨"DampLikenessModel", "takeCrack", "()I"⟩, 40) := ⟨⟨by decide +kernel, by decide +kernel⟩, List.mem_of_getElem? (i := 782) (by decide +kernel), List.mem_of_getElem? (i := 966) (by decide +kernel), List.mem_of_getElem? (i := 967) (by decide +kernel)⟩
theorem lw_p29 : lw_okq (⟨"DampLikenessModel", "isTold", "(II)Z"⟩, 40) := ⟨⟨by decide +kernel, by decide +kernel⟩, List.mem_of_getElem? (i := 782) (by decide +kernel), List.mem_of_getElem? (i := 973) (by decide +kernel), List.mem_of_getElem? (i := 974) (by decide +kernel)⟩
theorem lw_p30 : lw_okq (⟨"DampLikenessModel", "takeLike", "()I"⟩, 40) := ⟨⟨by decide +kernel, by decide +kernel⟩, List.mem_of_getElem? (i := 782) (by decide +kernel), List.mem_of_getElem? (i := 977) (by decide +kernel), List.mem_of_getElem? (i := 978) (by decide +kernel)⟩
theorem lw_p31 : lw_okq (⟨"DampLikenessModel", "takeWind", "()I"⟩, 40) := ⟨⟨by decide +kernel, by decide +kernel⟩, List.mem_of_getElem? (i := 782) (by decide +kernel), List.mem_of_getElem? (i := 981) (by decide +kernel), List.mem_of_getElem? (i := 982) (by decide +kernel)⟩
def lw_privs_2 : List (MethodName × Nat) := [(⟨"DampLikeness", "driftOneDay", "()V"⟩, 10), (⟨"DampLikeness$Trial", "weigh", "(LDampLikeness$Damp;I)V"⟩, 8), (⟨"DampLikenessModel", "here", "()I"⟩, 40), (⟨"DampLikenessModel", "takeClause", "()I"⟩, 40), (⟨"DampLikenessModel", "fails", "(II)I"⟩, 40), (⟨"DampLikenessModel", "isFull", "(I)Z"⟩, 40), (⟨"DampLikenessModel", "takeBody", "(I)I"⟩, 40), (⟨"DampLikenessModel", "takeWall", "()I"⟩, 40), (⟨"DampLikenessModel", "takeNumber", "(II)I"⟩, 40), (⟨"DampLikenessModel", "takeLeak", "()I"⟩, 40), (⟨"DampLikenessModel", "readCells", "()I"⟩, 40), (⟨"DampLikenessModel", "into", "([IIII)I"⟩, 40), (⟨"DampLikenessModel", "takeCrack", "()I"⟩, 40), (⟨"DampLikenessModel", "isTold", "(II)Z"⟩, 40), (⟨"DampLikenessModel", "takeLike", "()I"⟩, 40), (⟨"DampLikenessModel", "takeWind", "()I"⟩, 40)]
theorem lw_r2 : ∀ q ∈ lw_privs_2, lw_okq q := List.forall_mem_cons.mpr ⟨lw_p16, List.forall_mem_cons.mpr ⟨lw_p17, List.forall_mem_cons.mpr ⟨lw_p18, List.forall_mem_cons.mpr ⟨lw_p19, List.forall_mem_cons.mpr ⟨lw_p20, List.forall_mem_cons.mpr ⟨lw_p21, List.forall_mem_cons.mpr ⟨lw_p22, List.forall_mem_cons.mpr ⟨lw_p23, List.forall_mem_cons.mpr ⟨lw_p24, List.forall_mem_cons.mpr ⟨lw_p25, List.forall_mem_cons.mpr ⟨lw_p26, List.forall_mem_cons.mpr ⟨lw_p27, List.forall_mem_cons.mpr ⟨lw_p28, List.forall_mem_cons.mpr ⟨lw_p29, List.forall_mem_cons.mpr ⟨lw_p30, List.forall_mem_cons.mpr ⟨lw_p31, fun _ h => absurd h List.not_mem_nil⟩⟩⟩⟩⟩⟩⟩⟩⟩⟩⟩⟩⟩⟩⟩⟩
theorem lw_p32 : lw_okq (⟨"DampLikenessModel", "takeRead", "()V"⟩, 40) := ⟨⟨by decide +kernel, by decide +kernel⟩, List.mem_of_getElem? (i := 782) (by decide +kernel), List.mem_of_getElem? (i := 985) (by decide +kernel), List.mem_of_getElem? (i := 986) (by decide +kernel)⟩
theorem lw_p33 : lw_okq (⟨"DampLikenessModel", "cells", "()I"⟩, 40) := ⟨⟨by decide +kernel, by decide +kernel⟩, List.mem_of_getElem? (i := 782) (by decide +kernel), List.mem_of_getElem? (i := 992) (by decide +kernel), List.mem_of_getElem? (i := 993) (by decide +kernel)⟩
theorem lw_p34 : lw_okq (⟨"DampLikenessModel", "shows", "()I"⟩, 40) := ⟨⟨by decide +kernel, by decide +kernel⟩, List.mem_of_getElem? (i := 782) (by decide +kernel), List.mem_of_getElem? (i := 1004) (by decide +kernel), List.mem_of_getElem? (i := 1005) (by decide +kernel)⟩
theorem lw_p35 : lw_okq (⟨"DampLikenessModel", "allWet", "()I"⟩, 40) := ⟨⟨by decide +kernel, by decide +kernel⟩, List.mem_of_getElem? (i := 782) (by decide +kernel), List.mem_of_getElem? (i := 1008) (by decide +kernel), List.mem_of_getElem? (i := 1009) (by decide +kernel)⟩
theorem lw_p36 : lw_okq (⟨"DampLikenessModel", "whom", "()I"⟩, 40) := ⟨⟨by decide +kernel, by decide +kernel⟩, List.mem_of_getElem? (i := 782) (by decide +kernel), List.mem_of_getElem? (i := 1012) (by decide +kernel), List.mem_of_getElem? (i := 1013) (by decide +kernel)⟩
theorem lw_p37 : lw_okq (⟨"DampLikenessModel", "likeOf", "(I)I"⟩, 40) := ⟨⟨by decide +kernel, by decide +kernel⟩, List.mem_of_getElem? (i := 782) (by decide +kernel), List.mem_of_getElem? (i := 1016) (by decide +kernel), List.mem_of_getElem? (i := 1017) (by decide +kernel)⟩
theorem lw_p38 : lw_okq (⟨"DampLikenessModel", "mayBe", "()I"⟩, 40) := ⟨⟨by decide +kernel, by decide +kernel⟩, List.mem_of_getElem? (i := 782) (by decide +kernel), List.mem_of_getElem? (i := 1023) (by decide +kernel), List.mem_of_getElem? (i := 1024) (by decide +kernel)⟩
theorem lw_p39 : lw_okq (⟨"DampLikenessModel", "groups", "(Z)I"⟩, 40) := ⟨⟨by decide +kernel, by decide +kernel⟩, List.mem_of_getElem? (i := 782) (by decide +kernel), List.mem_of_getElem? (i := 1027) (by decide +kernel), List.mem_of_getElem? (i := 1028) (by decide +kernel)⟩
theorem lw_p40 : lw_okq (⟨"DampLikenessModel", "groupOf", "(I)I"⟩, 40) := ⟨⟨by decide +kernel, by decide +kernel⟩, List.mem_of_getElem? (i := 782) (by decide +kernel), List.mem_of_getElem? (i := 1034) (by decide +kernel), List.mem_of_getElem? (i := 1035) (by decide +kernel)⟩
theorem lw_p41 : lw_okq (⟨"DampLikenessModel", "around", "(I)I"⟩, 40) := ⟨⟨by decide +kernel, by decide +kernel⟩, List.mem_of_getElem? (i := 782) (by decide +kernel), List.mem_of_getElem? (i := 1038) (by decide +kernel), List.mem_of_getElem? (i := 1039) (by decide +kernel)⟩
theorem lw_p42 : lw_okq (⟨"DampLikenessModel", "border", "()I"⟩, 40) := ⟨⟨by decide +kernel, by decide +kernel⟩, List.mem_of_getElem? (i := 782) (by decide +kernel), List.mem_of_getElem? (i := 1042) (by decide +kernel), List.mem_of_getElem? (i := 1043) (by decide +kernel)⟩
theorem lw_p43 : lw_okq (⟨"DampLikenessModel", "fullest", "()I"⟩, 40) := ⟨⟨by decide +kernel, by decide +kernel⟩, List.mem_of_getElem? (i := 782) (by decide +kernel), List.mem_of_getElem? (i := 1046) (by decide +kernel), List.mem_of_getElem? (i := 1047) (by decide +kernel)⟩
theorem lw_p44 : lw_okq (⟨"DampLikenessModel", "isCell", "(I)Z"⟩, 40) := ⟨⟨by decide +kernel, by decide +kernel⟩, List.mem_of_getElem? (i := 782) (by decide +kernel), List.mem_of_getElem? (i := 1054) (by decide +kernel), List.mem_of_getElem? (i := 1055) (by decide +kernel)⟩
theorem lw_p45 : lw_okq (⟨"DampLikenessModel", "isLeak", "(I)Z"⟩, 40) := ⟨⟨by decide +kernel, by decide +kernel⟩, List.mem_of_getElem? (i := 782) (by decide +kernel), List.mem_of_getElem? (i := 1063) (by decide +kernel), List.mem_of_getElem? (i := 1064) (by decide +kernel)⟩
theorem lw_p46 : lw_okq (⟨"DampLikenessModel", "isCrack", "(I)Z"⟩, 40) := ⟨⟨by decide +kernel, by decide +kernel⟩, List.mem_of_getElem? (i := 782) (by decide +kernel), List.mem_of_getElem? (i := 1071) (by decide +kernel), List.mem_of_getElem? (i := 1072) (by decide +kernel)⟩
theorem lw_p47 : lw_okq (⟨"DampLikenessModel", "isLike", "(I)Z"⟩, 40) := ⟨⟨by decide +kernel, by decide +kernel⟩, List.mem_of_getElem? (i := 782) (by decide +kernel), List.mem_of_getElem? (i := 1079) (by decide +kernel), List.mem_of_getElem? (i := 1080) (by decide +kernel)⟩
def lw_privs_3 : List (MethodName × Nat) := [(⟨"DampLikenessModel", "takeRead", "()V"⟩, 40), (⟨"DampLikenessModel", "cells", "()I"⟩, 40), (⟨"DampLikenessModel", "shows", "()I"⟩, 40), (⟨"DampLikenessModel", "allWet", "()I"⟩, 40), (⟨"DampLikenessModel", "whom", "()I"⟩, 40), (⟨"DampLikenessModel", "likeOf", "(I)I"⟩, 40), (⟨"DampLikenessModel", "mayBe", "()I"⟩, 40), (⟨"DampLikenessModel", "groups", "(Z)I"⟩, 40), (⟨"DampLikenessModel", "groupOf", "(I)I"⟩, 40), (⟨"DampLikenessModel", "around", "(I)I"⟩, 40), (⟨"DampLikenessModel", "border", "()I"⟩, 40), (⟨"DampLikenessModel", "fullest", "()I"⟩, 40), (⟨"DampLikenessModel", "isCell", "(I)Z"⟩, 40), (⟨"DampLikenessModel", "isLeak", "(I)Z"⟩, 40), (⟨"DampLikenessModel", "isCrack", "(I)Z"⟩, 40), (⟨"DampLikenessModel", "isLike", "(I)Z"⟩, 40)]
theorem lw_r3 : ∀ q ∈ lw_privs_3, lw_okq q := List.forall_mem_cons.mpr ⟨lw_p32, List.forall_mem_cons.mpr ⟨lw_p33, List.forall_mem_cons.mpr ⟨lw_p34, List.forall_mem_cons.mpr ⟨lw_p35, List.forall_mem_cons.mpr ⟨lw_p36, List.forall_mem_cons.mpr ⟨lw_p37, List.forall_mem_cons.mpr ⟨lw_p38, List.forall_mem_cons.mpr ⟨lw_p39, List.forall_mem_cons.mpr ⟨lw_p40, List.forall_mem_cons.mpr ⟨lw_p41, List.forall_mem_cons.mpr ⟨lw_p42, List.forall_mem_cons.mpr ⟨lw_p43, List.forall_mem_cons.mpr ⟨lw_p44, List.forall_mem_cons.mpr ⟨lw_p45, List.forall_mem_cons.mpr ⟨lw_p46, List.forall_mem_cons.mpr ⟨lw_p47, fun _ h => absurd h List.not_mem_nil⟩⟩⟩⟩⟩⟩⟩⟩⟩⟩⟩⟩⟩⟩⟩⟩
theorem lw_p48 : lw_okq (⟨"DampLikenessModel", "remember", "()V"⟩, 40) := ⟨⟨by decide +kernel, by decide +kernel⟩, List.mem_of_getElem? (i := 782) (by decide +kernel), List.mem_of_getElem? (i := 1090) (by decide +kernel), List.mem_of_getElem? (i := 1091) (by decide +kernel)⟩
theorem lw_p49 : lw_okq (⟨"DampLikenessModel", "pass", "(I)V"⟩, 40) := ⟨⟨by decide +kernel, by decide +kernel⟩, List.mem_of_getElem? (i := 782) (by decide +kernel), List.mem_of_getElem? (i := 1094) (by decide +kernel), List.mem_of_getElem? (i := 1095) (by decide +kernel)⟩
theorem lw_p50 : lw_okq (⟨"DampLikenessModel", "runFrom", "(I)V"⟩, 40) := ⟨⟨by decide +kernel, by decide +kernel⟩, List.mem_of_getElem? (i := 782) (by decide +kernel), List.mem_of_getElem? (i := 1101) (by decide +kernel), List.mem_of_getElem? (i := 1102) (by decide +kernel)⟩
theorem lw_p51 : lw_okq (⟨"DampLikenessModel", "give", "(II)V"⟩, 40) := ⟨⟨by decide +kernel, by decide +kernel⟩, List.mem_of_getElem? (i := 782) (by decide +kernel), List.mem_of_getElem? (i := 1105) (by decide +kernel), List.mem_of_getElem? (i := 1106) (by decide +kernel)⟩
theorem lw_p52 : lw_okq (⟨"DampLikenessModel", "lookNow", "()V"⟩, 40) := ⟨⟨by decide +kernel, by decide +kernel⟩, List.mem_of_getElem? (i := 782) (by decide +kernel), List.mem_of_getElem? (i := 1113) (by decide +kernel), List.mem_of_getElem? (i := 1114) (by decide +kernel)⟩
theorem lw_p53 : lw_okq (⟨"DampLikenessModel", "dayByDraws", "()V"⟩, 40) := ⟨⟨by decide +kernel, by decide +kernel⟩, List.mem_of_getElem? (i := 782) (by decide +kernel), List.mem_of_getElem? (i := 1138) (by decide +kernel), List.mem_of_getElem? (i := 1139) (by decide +kernel)⟩
theorem lw_p54 : lw_okq (⟨"DampLikenessModel", "draw", "(I)I"⟩, 40) := ⟨⟨by decide +kernel, by decide +kernel⟩, List.mem_of_getElem? (i := 782) (by decide +kernel), List.mem_of_getElem? (i := 1142) (by decide +kernel), List.mem_of_getElem? (i := 1143) (by decide +kernel)⟩
theorem lw_p55 : lw_okq (⟨"DampLikenessModel", "shownBy", "(II)I"⟩, 40) := ⟨⟨by decide +kernel, by decide +kernel⟩, List.mem_of_getElem? (i := 782) (by decide +kernel), List.mem_of_getElem? (i := 1158) (by decide +kernel), List.mem_of_getElem? (i := 1159) (by decide +kernel)⟩
theorem lw_p56 : lw_okq (⟨"DampLikenessModel", "shownByLooks", "(III)I"⟩, 40) := ⟨⟨by decide +kernel, by decide +kernel⟩, List.mem_of_getElem? (i := 782) (by decide +kernel), List.mem_of_getElem? (i := 1177) (by decide +kernel), List.mem_of_getElem? (i := 1178) (by decide +kernel)⟩
theorem lw_p57 : lw_okq (⟨"DampLikenessModel", "leftBy", "(I)I"⟩, 40) := ⟨⟨by decide +kernel, by decide +kernel⟩, List.mem_of_getElem? (i := 782) (by decide +kernel), List.mem_of_getElem? (i := 1189) (by decide +kernel), List.mem_of_getElem? (i := 1190) (by decide +kernel)⟩
def lw_privs_4 : List (MethodName × Nat) := [(⟨"DampLikenessModel", "remember", "()V"⟩, 40), (⟨"DampLikenessModel", "pass", "(I)V"⟩, 40), (⟨"DampLikenessModel", "runFrom", "(I)V"⟩, 40), (⟨"DampLikenessModel", "give", "(II)V"⟩, 40), (⟨"DampLikenessModel", "lookNow", "()V"⟩, 40), (⟨"DampLikenessModel", "dayByDraws", "()V"⟩, 40), (⟨"DampLikenessModel", "draw", "(I)I"⟩, 40), (⟨"DampLikenessModel", "shownBy", "(II)I"⟩, 40), (⟨"DampLikenessModel", "shownByLooks", "(III)I"⟩, 40), (⟨"DampLikenessModel", "leftBy", "(I)I"⟩, 40)]
theorem lw_r4 : ∀ q ∈ lw_privs_4, lw_okq q := List.forall_mem_cons.mpr ⟨lw_p48, List.forall_mem_cons.mpr ⟨lw_p49, List.forall_mem_cons.mpr ⟨lw_p50, List.forall_mem_cons.mpr ⟨lw_p51, List.forall_mem_cons.mpr ⟨lw_p52, List.forall_mem_cons.mpr ⟨lw_p53, List.forall_mem_cons.mpr ⟨lw_p54, List.forall_mem_cons.mpr ⟨lw_p55, List.forall_mem_cons.mpr ⟨lw_p56, List.forall_mem_cons.mpr ⟨lw_p57, fun _ h => absurd h List.not_mem_nil⟩⟩⟩⟩⟩⟩⟩⟩⟩⟩
def lw_privs : List (MethodName × Nat) := lw_privs_1 ++ (lw_privs_2 ++ (lw_privs_3 ++ (lw_privs_4)))
def lw_tbl : List Cond := k2_sels lw_privs ++ tables_1
theorem lw_privs_ok : ∀ q ∈ lw_privs, lw_okq q := by
  show ∀ q ∈ lw_privs_1 ++ (lw_privs_2 ++ (lw_privs_3 ++ (lw_privs_4))), lw_okq q
  exact List.forall_mem_append.mpr ⟨lw_r1, List.forall_mem_append.mpr ⟨lw_r2, List.forall_mem_append.mpr ⟨lw_r3, lw_r4⟩⟩⟩

theorem goodIn_r {big : List Cond} (ws : List Cond) (ps : List Nat) (hp : ws = ps.filterMap (fun i => big[i]?)) (h : ws.all goodWord = true) : GoodIn big ws := by
  intro w hw
  have h1 := List.all_eq_true.mp h w hw
  rw [hp] at hw
  obtain ⟨i, -, hi⟩ := List.mem_filterMap.mp hw
  have hm : w ∈ big := by first | exact List.mem_of_getElem? hi | exact List.getElem?_mem hi
  exact ⟨hm, good_of_word h1⟩
theorem goodIn_app {big a b : List Cond} (ha : GoodIn big a) (hb : GoodIn big b) : GoodIn big (a ++ b) := fun w h => (List.mem_append.mp h).elim (ha w) (hb w)
theorem goodIn_ca {big a b : List Cond} {c : Cond} (ha : GoodIn big (c :: a)) (hb : GoodIn big b) : GoodIn big (c :: (a ++ b)) := fun w h => (List.mem_cons.mp h).elim (fun e => ha w (List.mem_cons.mpr (Or.inl e))) (fun h => (List.mem_append.mp h).elim (fun h => ha w (List.mem_cons.mpr (Or.inr h))) (hb w))
theorem goodIn_sub {big ws : List Cond} (hm : ∀ w ∈ ws, w ∈ big) (h : ws.all goodWord = true) : GoodIn big ws := fun w hw => ⟨hm w hw, good_of_word (List.all_eq_true.mp h w hw)⟩
def RX0 : String := "DampLikeness$Book"
def TX0 : u_T := fun k => match k with
  | 0 => ("DampLikeness$Book", "cells", "[I", true)
  | 1 => ("DampLikeness$Book", "wets", "[I", true)
  | _ => ("DampLikeness$Book", "count", "I", false)
def tyX0 : Nat → FieldType := fun k => match k with
  | 0 => .array .int
  | 1 => .array .int
  | _ => .int
abbrev wsX00 : List Cond := u_ws RX0 TX0 3
theorem nmX0 : ∀ a, a < 3 → ∀ b, b < 3 → a ≠ b → (TX0 a).2.1 ≠ (TX0 b).2.1 := by decide +kernel
theorem tyX0_ok : ∀ k, k < 3 → parseFieldDescriptor (TX0 k).2.2.1 = some (tyX0 k) := by decide +kernel
abbrev cX0_init : ByteArray := prog_2_method_1_code
def yX0_init : MethodName := ⟨RX0, "<init>", "()V"⟩
abbrev cX0_clear : ByteArray := prog_2_method_2_code
def yX0_clear : MethodName := ⟨RX0, "clear", "()V"⟩
abbrev cX0_add : ByteArray := prog_2_method_3_code
def yX0_add : MethodName := ⟨RX0, "add", "(II)I"⟩
abbrev cX0_firstWrong : ByteArray := prog_2_method_4_code
def yX0_firstWrong : MethodName := ⟨RX0, "firstWrong", "(LDampLikeness$Damp;)I"⟩
def RX1 : String := "DampLikeness$Damp"
def TX1 : u_T := fun k => match k with
  | 0 => ("DampLikeness$Damp", "wet", "[I", true)
  | 1 => ("DampLikeness$Damp", "leakAt", "[I", true)
  | 2 => ("DampLikeness$Damp", "wind", "I", false)
  | 3 => ("DampLikeness$Damp", "filled", "I", false)
  | 4 => ("DampLikeness$Damp", "days", "I", false)
  | 5 => ("DampLikeness$Damp", "looks", "I", false)
  | _ => ("DampLikeness$Damp", "brushes", "I", false)
def tyX1 : Nat → FieldType := fun k => match k with
  | 0 => .array .int
  | 1 => .array .int
  | 2 => .int
  | 3 => .int
  | 4 => .int
  | 5 => .int
  | _ => .int
abbrev wsX10 : List Cond := u_ws RX1 TX1 7
theorem nmX1 : ∀ a, a < 7 → ∀ b, b < 7 → a ≠ b → (TX1 a).2.1 ≠ (TX1 b).2.1 := by decide +kernel
theorem tyX1_ok : ∀ k, k < 7 → parseFieldDescriptor (TX1 k).2.2.1 = some (tyX1 k) := by decide +kernel
abbrev cX1_init : ByteArray := prog_3_method_1_code
def yX1_init : MethodName := ⟨RX1, "<init>", "()V"⟩
abbrev cX1_begin : ByteArray := prog_3_method_2_code
def yX1_begin : MethodName := ⟨RX1, "begin", "(LDampLikeness$Plan;)V"⟩
abbrev cX1_copyFrom : ByteArray := prog_3_method_3_code
def yX1_copyFrom : MethodName := ⟨RX1, "copyFrom", "(LDampLikeness$Damp;)V"⟩
abbrev cX1_isFilled : ByteArray := prog_3_method_4_code
def yX1_isFilled : MethodName := ⟨RX1, "isFilled", "(I)Z"⟩
abbrev cX1_marks : ByteArray := prog_3_method_5_code
def yX1_marks : MethodName := ⟨RX1, "marks", "()I"⟩
abbrev cX1_markCount : ByteArray := prog_3_method_6_code
def yX1_markCount : MethodName := ⟨RX1, "markCount", "()I"⟩
abbrev cX1_allWet : ByteArray := prog_3_method_7_code
def yX1_allWet : MethodName := ⟨RX1, "allWet", "()I"⟩
abbrev cX1_shrink : ByteArray := prog_3_method_8_code
def yX1_shrink : MethodName := ⟨RX1, "shrink", "(LDampLikeness$Plan;)V"⟩
def RX2 : String := "DampLikeness$Draws"
def TX2 : u_T := fun k => match k with
  | _ => ("DampLikeness$Draws", "state", "I", false)
def tyX2 : Nat → FieldType := fun k => match k with
  | _ => .int
abbrev wsX20 : List Cond := u_ws RX2 TX2 1
theorem nmX2 : ∀ a, a < 1 → ∀ b, b < 1 → a ≠ b → (TX2 a).2.1 ≠ (TX2 b).2.1 := by decide +kernel
theorem tyX2_ok : ∀ k, k < 1 → parseFieldDescriptor (TX2 k).2.2.1 = some (tyX2 k) := by decide +kernel
abbrev cX2_init : ByteArray := prog_4_method_1_code
def yX2_init : MethodName := ⟨RX2, "<init>", "()V"⟩
abbrev cX2_draw : ByteArray := prog_4_method_2_code
def yX2_draw : MethodName := ⟨RX2, "draw", "(I)I"⟩
def RX3 : String := "DampLikeness$Flow"
def TX3 : u_T := fun k => match k with
  | 0 => ("DampLikeness$Flow", "ahead", "[I", true)
  | _ => ("DampLikeness$Flow", "come", "[I", true)
def tyX3 : Nat → FieldType := fun k => match k with
  | 0 => .array .int
  | _ => .array .int
abbrev wsX30 : List Cond := u_ws RX3 TX3 2
theorem nmX3 : ∀ a, a < 2 → ∀ b, b < 2 → a ≠ b → (TX3 a).2.1 ≠ (TX3 b).2.1 := by decide +kernel
theorem tyX3_ok : ∀ k, k < 2 → parseFieldDescriptor (TX3 k).2.2.1 = some (tyX3 k) := by decide +kernel
abbrev cX3_init : ByteArray := prog_5_method_1_code
def yX3_init : MethodName := ⟨RX3, "<init>", "()V"⟩
abbrev cX3_rainDays : ByteArray := prog_5_method_2_code
def yX3_rainDays : MethodName := ⟨RX3, "rainDays", "(LDampLikeness$Plan;LDampLikeness$Damp;II)V"⟩
abbrev cX3_rainDay : ByteArray := prog_5_method_3_code
def yX3_rainDay : MethodName := ⟨RX3, "rainDay", "(LDampLikeness$Plan;LDampLikeness$Damp;I)V"⟩
abbrev cX3_runDownAndByWind : ByteArray := prog_5_method_4_code
def yX3_runDownAndByWind : MethodName := ⟨RX3, "runDownAndByWind", "(LDampLikeness$Plan;LDampLikeness$Damp;)V"⟩
abbrev cX3_runByCracks : ByteArray := prog_5_method_5_code
def yX3_runByCracks : MethodName := ⟨RX3, "runByCracks", "(LDampLikeness$Plan;LDampLikeness$Damp;)V"⟩
abbrev cX3_give : ByteArray := prog_5_method_6_code
def yX3_give : MethodName := ⟨RX3, "give", "(LDampLikeness$Damp;II)V"⟩
abbrev cX3_settle : ByteArray := prog_5_method_7_code
def yX3_settle : MethodName := ⟨RX3, "settle", "(LDampLikeness$Damp;I)V"⟩
def RX4 : String := "DampLikeness$Image"
def TX4 : u_T := fun k => match k with
  | 0 => ("DampLikeness$Image", "damp", "LDampLikeness$Damp;", true)
  | 1 => ("DampLikeness$Image", "drawState", "I", false)
  | _ => ("DampLikeness$Image", "kept", "Z", false)
def tyX4 : Nat → FieldType := fun k => match k with
  | 0 => .object "DampLikeness$Damp"
  | 1 => .int
  | _ => .boolean
abbrev wsX40 : List Cond := u_ws RX4 TX4 3
theorem nmX4 : ∀ a, a < 3 → ∀ b, b < 3 → a ≠ b → (TX4 a).2.1 ≠ (TX4 b).2.1 := by decide +kernel
theorem tyX4_ok : ∀ k, k < 3 → parseFieldDescriptor (TX4 k).2.2.1 = some (tyX4 k) := by decide +kernel
abbrev cX4_init : ByteArray := prog_6_method_1_code
def yX4_init : MethodName := ⟨RX4, "<init>", "()V"⟩
def RX5 : String := "DampLikeness$Marks"
def TX5 : u_T := fun k => match k with
  | _ => ("", "", "", false)
def tyX5 : Nat → FieldType := fun k => match k with
  | _ => .int
abbrev wsX50 : List Cond := u_ws RX5 TX5 0
theorem nmX5 : ∀ a, a < 0 → ∀ b, b < 0 → a ≠ b → (TX5 a).2.1 ≠ (TX5 b).2.1 := by decide +kernel
theorem tyX5_ok : ∀ k, k < 0 → parseFieldDescriptor (TX5 k).2.2.1 = some (tyX5 k) := by decide +kernel
abbrev cX5_besideSet : ByteArray := prog_7_method_2_code
def yX5_besideSet : MethodName := ⟨RX5, "besideSet", "(LDampLikeness$Plan;II)I"⟩
abbrev cX5_lonely : ByteArray := prog_7_method_3_code
def yX5_lonely : MethodName := ⟨RX5, "lonely", "(LDampLikeness$Plan;I)I"⟩
abbrev cX5_border : ByteArray := prog_7_method_4_code
def yX5_border : MethodName := ⟨RX5, "border", "(LDampLikeness$Plan;I)I"⟩
abbrev cX5_groupOf : ByteArray := prog_7_method_5_code
def yX5_groupOf : MethodName := ⟨RX5, "groupOf", "(LDampLikeness$Plan;II)I"⟩
abbrev cX5_groups : ByteArray := prog_7_method_6_code
def yX5_groups : MethodName := ⟨RX5, "groups", "(LDampLikeness$Plan;I)I"⟩
abbrev cX5_greatestGroup : ByteArray := prog_7_method_7_code
def yX5_greatestGroup : MethodName := ⟨RX5, "greatestGroup", "(LDampLikeness$Plan;I)I"⟩
abbrev cX5_fullest : ByteArray := prog_7_method_8_code
def yX5_fullest : MethodName := ⟨RX5, "fullest", "(LDampLikeness$Plan;I)I"⟩
abbrev cX5_like : ByteArray := prog_7_method_9_code
def yX5_like : MethodName := ⟨RX5, "like", "(LDampLikeness$Plan;II)I"⟩
abbrev cX5_whom : ByteArray := prog_7_method_10_code
def yX5_whom : MethodName := ⟨RX5, "whom", "(LDampLikeness$Plan;I)I"⟩
abbrev cX5_mayBe : ByteArray := prog_7_method_11_code
def yX5_mayBe : MethodName := ⟨RX5, "mayBe", "(LDampLikeness$Plan;I)I"⟩
def RX6 : String := "DampLikeness$Past"
def TX6 : u_T := fun k => match k with
  | 0 => ("DampLikeness$Past", "ring", "[LDampLikeness$Damp;", true)
  | 1 => ("DampLikeness$Past", "end", "I", false)
  | _ => ("DampLikeness$Past", "count", "I", false)
def tyX6 : Nat → FieldType := fun k => match k with
  | 0 => .array (.object "DampLikeness$Damp")
  | 1 => .int
  | _ => .int
abbrev wsX60 : List Cond := u_ws RX6 TX6 3
theorem nmX6 : ∀ a, a < 3 → ∀ b, b < 3 → a ≠ b → (TX6 a).2.1 ≠ (TX6 b).2.1 := by decide +kernel
theorem tyX6_ok : ∀ k, k < 3 → parseFieldDescriptor (TX6 k).2.2.1 = some (tyX6 k) := by decide +kernel
abbrev cX6_init : ByteArray := prog_8_method_1_code
def yX6_init : MethodName := ⟨RX6, "<init>", "()V"⟩
abbrev cX6_clear : ByteArray := prog_8_method_2_code
def yX6_clear : MethodName := ⟨RX6, "clear", "()V"⟩
abbrev cX6_push : ByteArray := prog_8_method_3_code
def yX6_push : MethodName := ⟨RX6, "push", "(LDampLikeness$Damp;)V"⟩
abbrev cX6_pop : ByteArray := prog_8_method_4_code
def yX6_pop : MethodName := ⟨RX6, "pop", "(LDampLikeness$Damp;)Z"⟩
def RX7 : String := "DampLikeness$Plan"
def TX7 : u_T := fun k => match k with
  | 0 => ("DampLikeness$Plan", "leakAt", "[I", true)
  | 1 => ("DampLikeness$Plan", "crackA", "[I", true)
  | 2 => ("DampLikeness$Plan", "crackB", "[I", true)
  | 3 => ("DampLikeness$Plan", "faces", "[I", true)
  | 4 => ("DampLikeness$Plan", "rows", "I", false)
  | 5 => ("DampLikeness$Plan", "columns", "I", false)
  | 6 => ("DampLikeness$Plan", "firstColumn", "I", false)
  | 7 => ("DampLikeness$Plan", "wind", "I", false)
  | 8 => ("DampLikeness$Plan", "leakCount", "I", false)
  | 9 => ("DampLikeness$Plan", "crackCount", "I", false)
  | _ => ("DampLikeness$Plan", "faceCount", "I", false)
def tyX7 : Nat → FieldType := fun k => match k with
  | 0 => .array .int
  | 1 => .array .int
  | 2 => .array .int
  | 3 => .array .int
  | 4 => .int
  | 5 => .int
  | 6 => .int
  | 7 => .int
  | 8 => .int
  | 9 => .int
  | _ => .int
abbrev wsX70 : List Cond := u_ws RX7 TX7 11
theorem nmX7 : ∀ a, a < 11 → ∀ b, b < 11 → a ≠ b → (TX7 a).2.1 ≠ (TX7 b).2.1 := by decide +kernel
theorem tyX7_ok : ∀ k, k < 11 → parseFieldDescriptor (TX7 k).2.2.1 = some (tyX7 k) := by decide +kernel
abbrev cX7_init : ByteArray := prog_9_method_1_code
def yX7_init : MethodName := ⟨RX7, "<init>", "()V"⟩
abbrev cX7_clear : ByteArray := prog_9_method_2_code
def yX7_clear : MethodName := ⟨RX7, "clear", "()V"⟩
abbrev cX7_cells : ByteArray := prog_9_method_3_code
def yX7_cells : MethodName := ⟨RX7, "cells", "()I"⟩
abbrev cX7_allCells : ByteArray := prog_9_method_4_code
def yX7_allCells : MethodName := ⟨RX7, "allCells", "()I"⟩
abbrev cX7_resize : ByteArray := prog_9_method_5_code
def yX7_resize : MethodName := ⟨RX7, "resize", "(II)V"⟩
abbrev cX7_columnOf : ByteArray := prog_9_method_6_code
def yX7_columnOf : MethodName := ⟨RX7, "columnOf", "(I)I"⟩
abbrev cX7_hasCell : ByteArray := prog_9_method_7_code
def yX7_hasCell : MethodName := ⟨RX7, "hasCell", "(I)Z"⟩
abbrev cX7_hasLeak : ByteArray := prog_9_method_8_code
def yX7_hasLeak : MethodName := ⟨RX7, "hasLeak", "(I)Z"⟩
abbrev cX7_hasCrack : ByteArray := prog_9_method_9_code
def yX7_hasCrack : MethodName := ⟨RX7, "hasCrack", "(I)Z"⟩
abbrev cX7_hasFace : ByteArray := prog_9_method_10_code
def yX7_hasFace : MethodName := ⟨RX7, "hasFace", "(I)Z"⟩
abbrev cX7_addLeak : ByteArray := prog_9_method_11_code
def yX7_addLeak : MethodName := ⟨RX7, "addLeak", "(I)V"⟩
abbrev cX7_addCrack : ByteArray := prog_9_method_12_code
def yX7_addCrack : MethodName := ⟨RX7, "addCrack", "(II)V"⟩
abbrev cX7_addFace : ByteArray := prog_9_method_13_code
def yX7_addFace : MethodName := ⟨RX7, "addFace", "(I)V"⟩
abbrev cX7_touch : ByteArray := prog_9_method_14_code
def yX7_touch : MethodName := ⟨RX7, "touch", "(II)Z"⟩
abbrev cX7_isCracked : ByteArray := prog_9_method_15_code
def yX7_isCracked : MethodName := ⟨RX7, "isCracked", "(II)Z"⟩
abbrev cX7_below : ByteArray := prog_9_method_16_code
def yX7_below : MethodName := ⟨RX7, "below", "(I)I"⟩
abbrev cX7_beside : ByteArray := prog_9_method_17_code
def yX7_beside : MethodName := ⟨RX7, "beside", "(II)I"⟩
def RX8 : String := "DampLikeness$Reader"
def TX8 : u_T := fun k => match k with
  | 0 => ("DampLikeness$Reader", "letters", "[I", true)
  | 1 => ("DampLikeness$Reader", "count", "I", false)
  | 2 => ("DampLikeness$Reader", "faultKind", "I", false)
  | 3 => ("DampLikeness$Reader", "faultAt", "I", false)
  | 4 => ("DampLikeness$Reader", "at", "I", false)
  | 5 => ("DampLikeness$Reader", "numberAt", "I", false)
  | _ => ("DampLikeness$Reader", "windTold", "Z", false)
def tyX8 : Nat → FieldType := fun k => match k with
  | 0 => .array .int
  | 1 => .int
  | 2 => .int
  | 3 => .int
  | 4 => .int
  | 5 => .int
  | _ => .boolean
abbrev wsX80 : List Cond := u_ws RX8 TX8 7
theorem nmX8 : ∀ a, a < 7 → ∀ b, b < 7 → a ≠ b → (TX8 a).2.1 ≠ (TX8 b).2.1 := by decide +kernel
theorem tyX8_ok : ∀ k, k < 7 → parseFieldDescriptor (TX8 k).2.2.1 = some (tyX8 k) := by decide +kernel
abbrev cX8_init : ByteArray := prog_10_method_1_code
def yX8_init : MethodName := ⟨RX8, "<init>", "()V"⟩
abbrev cX8_add : ByteArray := prog_10_method_2_code
def yX8_add : MethodName := ⟨RX8, "add", "(I)I"⟩
abbrev cX8_read : ByteArray := prog_10_method_3_code
def yX8_read : MethodName := ⟨RX8, "read", "(LDampLikeness$Plan;)Z"⟩
abbrev cX8_readClause : ByteArray := prog_10_method_4_code
def yX8_readClause : MethodName := ⟨RX8, "readClause", "(LDampLikeness$Plan;)V"⟩
abbrev cX8_readSize : ByteArray := prog_10_method_5_code
def yX8_readSize : MethodName := ⟨RX8, "readSize", "(LDampLikeness$Plan;)V"⟩
abbrev cX8_readLeak : ByteArray := prog_10_method_6_code
def yX8_readLeak : MethodName := ⟨RX8, "readLeak", "(LDampLikeness$Plan;)V"⟩
abbrev cX8_readCrack : ByteArray := prog_10_method_7_code
def yX8_readCrack : MethodName := ⟨RX8, "readCrack", "(LDampLikeness$Plan;)V"⟩
abbrev cX8_readFace : ByteArray := prog_10_method_8_code
def yX8_readFace : MethodName := ⟨RX8, "readFace", "(LDampLikeness$Plan;)V"⟩
abbrev cX8_readWind : ByteArray := prog_10_method_9_code
def yX8_readWind : MethodName := ⟨RX8, "readWind", "(LDampLikeness$Plan;)V"⟩
abbrev cX8_fail : ByteArray := prog_10_method_10_code
def yX8_fail : MethodName := ⟨RX8, "fail", "(II)V"⟩
abbrev cX8_peek : ByteArray := prog_10_method_11_code
def yX8_peek : MethodName := ⟨RX8, "peek", "()I"⟩
abbrev cX8_takeWord : ByteArray := prog_10_method_12_code
def yX8_takeWord : MethodName := ⟨RX8, "takeWord", "(Z)V"⟩
abbrev cX8_takeSign : ByteArray := prog_10_method_13_code
def yX8_takeSign : MethodName := ⟨RX8, "takeSign", "(I)Z"⟩
abbrev cX8_takeNumber : ByteArray := prog_10_method_14_code
def yX8_takeNumber : MethodName := ⟨RX8, "takeNumber", "(II)I"⟩
abbrev cX8_isFigure : ByteArray := prog_10_method_15_code
def yX8_isFigure : MethodName := ⟨RX8, "isFigure", "(I)Z"⟩
def RX9 : String := "DampLikeness$Trial"
def TX9 : u_T := fun k => match k with
  | 0 => ("DampLikeness$Trial", "flow", "LDampLikeness$Flow;", true)
  | 1 => ("DampLikeness$Trial", "damp", "LDampLikeness$Damp;", true)
  | 2 => ("DampLikeness$Trial", "stages", "[LDampLikeness$Damp;", true)
  | 3 => ("DampLikeness$Trial", "dayCount", "I", false)
  | 4 => ("DampLikeness$Trial", "rain", "I", false)
  | 5 => ("DampLikeness$Trial", "marksWanted", "I", false)
  | 6 => ("DampLikeness$Trial", "best", "I", false)
  | _ => ("DampLikeness$Trial", "bestCount", "I", false)
def tyX9 : Nat → FieldType := fun k => match k with
  | 0 => .object "DampLikeness$Flow"
  | 1 => .object "DampLikeness$Damp"
  | 2 => .array (.object "DampLikeness$Damp")
  | 3 => .int
  | 4 => .int
  | 5 => .int
  | 6 => .int
  | _ => .int
abbrev wsX90 : List Cond := u_ws RX9 TX9 8
theorem nmX9 : ∀ a, a < 8 → ∀ b, b < 8 → a ≠ b → (TX9 a).2.1 ≠ (TX9 b).2.1 := by decide +kernel
theorem tyX9_ok : ∀ k, k < 8 → parseFieldDescriptor (TX9 k).2.2.1 = some (tyX9 k) := by decide +kernel
abbrev cX9_init : ByteArray := prog_11_method_1_code
def yX9_init : MethodName := ⟨RX9, "<init>", "()V"⟩
abbrev cX9_marksBehind : ByteArray := prog_11_method_2_code
def yX9_marksBehind : MethodName := ⟨RX9, "marksBehind", "(LDampLikeness$Plan;LDampLikeness$Damp;II)I"⟩
abbrev cX9_daysTillMarks : ByteArray := prog_11_method_3_code
def yX9_daysTillMarks : MethodName := ⟨RX9, "daysTillMarks", "(LDampLikeness$Plan;LDampLikeness$Damp;II)I"⟩
abbrev cX9_daysTillDry : ByteArray := prog_11_method_4_code
def yX9_daysTillDry : MethodName := ⟨RX9, "daysTillDry", "(LDampLikeness$Plan;LDampLikeness$Damp;)I"⟩
abbrev cX9_leadBest : ByteArray := prog_11_method_5_code
def yX9_leadBest : MethodName := ⟨RX9, "leadBest", "(LDampLikeness$Plan;LDampLikeness$Damp;IIII)V"⟩
abbrev cX9_rainsThatShow : ByteArray := prog_11_method_6_code
def yX9_rainsThatShow : MethodName := ⟨RX9, "rainsThatShow", "(LDampLikeness$Plan;LDampLikeness$Damp;I)I"⟩
abbrev cX9_rainThatLeavesFewest : ByteArray := prog_11_method_7_code
def yX9_rainThatLeavesFewest : MethodName := ⟨RX9, "rainThatLeavesFewest", "(LDampLikeness$Plan;LDampLikeness$Damp;)V"⟩
abbrev cX9_lookMost : ByteArray := prog_11_method_8_code
def yX9_lookMost : MethodName := ⟨RX9, "lookMost", "(LDampLikeness$Plan;LDampLikeness$Damp;III)V"⟩
abbrev cX9_tryLooks : ByteArray := prog_11_method_9_code
def yX9_tryLooks : MethodName := ⟨RX9, "tryLooks", "(LDampLikeness$Trial;LDampLikeness$Plan;LDampLikeness$Damp;II)V"⟩
abbrev cX9_weigh : ByteArray := prog_11_method_10_code
def yX9_weigh : MethodName := ⟨RX9, "weigh", "(LDampLikeness$Damp;I)V"⟩
def RX10 : String := "DampLikeness"
def TX10 : u_T := fun k => match k with
  | 0 => ("DampLikeness", "reader", "LDampLikeness$Reader;", true)
  | 1 => ("DampLikeness", "now", "LDampLikeness$Damp;", true)
  | 2 => ("DampLikeness", "flow", "LDampLikeness$Flow;", true)
  | 3 => ("DampLikeness", "trial", "LDampLikeness$Trial;", true)
  | 4 => ("DampLikeness", "past", "LDampLikeness$Past;", true)
  | 5 => ("DampLikeness", "book", "LDampLikeness$Book;", true)
  | 6 => ("DampLikeness", "draws", "LDampLikeness$Draws;", true)
  | 7 => ("DampLikeness", "images", "[LDampLikeness$Image;", true)
  | 8 => ("DampLikeness", "plan", "LDampLikeness$Plan;", false)
  | _ => ("DampLikeness", "spare", "LDampLikeness$Plan;", false)
def tyX10 : Nat → FieldType := fun k => match k with
  | 0 => .object "DampLikeness$Reader"
  | 1 => .object "DampLikeness$Damp"
  | 2 => .object "DampLikeness$Flow"
  | 3 => .object "DampLikeness$Trial"
  | 4 => .object "DampLikeness$Past"
  | 5 => .object "DampLikeness$Book"
  | 6 => .object "DampLikeness$Draws"
  | 7 => .array (.object "DampLikeness$Image")
  | 8 => .object "DampLikeness$Plan"
  | _ => .object "DampLikeness$Plan"
abbrev wsX100 : List Cond := u_ws RX10 TX10 10
theorem nmX10 : ∀ a, a < 10 → ∀ b, b < 10 → a ≠ b → (TX10 a).2.1 ≠ (TX10 b).2.1 := by decide +kernel
theorem tyX10_ok : ∀ k, k < 10 → parseFieldDescriptor (TX10 k).2.2.1 = some (tyX10 k) := by decide +kernel
abbrev cX10_init : ByteArray := prog_1_method_1_code
def yX10_init : MethodName := ⟨RX10, "<init>", "()V"⟩
abbrev cX10_feed : ByteArray := prog_1_method_2_code
def yX10_feed : MethodName := ⟨RX10, "feed", "(I)I"⟩
abbrev cX10_wall : ByteArray := prog_1_method_3_code
def yX10_wall : MethodName := ⟨RX10, "wall", "()I"⟩
abbrev cX10_fault : ByteArray := prog_1_method_4_code
def yX10_fault : MethodName := ⟨RX10, "fault", "()I"⟩
abbrev cX10_told : ByteArray := prog_1_method_5_code
def yX10_told : MethodName := ⟨RX10, "told", "(I)I"⟩
abbrev cX10_cell : ByteArray := prog_1_method_6_code
def yX10_cell : MethodName := ⟨RX10, "cell", "(I)I"⟩
abbrev cX10_leak : ByteArray := prog_1_method_7_code
def yX10_leak : MethodName := ⟨RX10, "leak", "(I)I"⟩
abbrev cX10_crack : ByteArray := prog_1_method_8_code
def yX10_crack : MethodName := ⟨RX10, "crack", "(II)I"⟩
abbrev cX10_likeness : ByteArray := prog_1_method_9_code
def yX10_likeness : MethodName := ⟨RX10, "likeness", "(II)I"⟩
abbrev cX10_day : ByteArray := prog_1_method_10_code
def yX10_day : MethodName := ⟨RX10, "day", "(II)I"⟩
abbrev cX10_look : ByteArray := prog_1_method_11_code
def yX10_look : MethodName := ⟨RX10, "look", "()I"⟩
abbrev cX10_brush : ByteArray := prog_1_method_12_code
def yX10_brush : MethodName := ⟨RX10, "brush", "(I)I"⟩
abbrev cX10_lead : ByteArray := prog_1_method_13_code
def yX10_lead : MethodName := ⟨RX10, "lead", "(II)I"⟩
abbrev cX10_wind : ByteArray := prog_1_method_14_code
def yX10_wind : MethodName := ⟨RX10, "wind", "(I)I"⟩
abbrev cX10_fill : ByteArray := prog_1_method_15_code
def yX10_fill : MethodName := ⟨RX10, "fill", "(IZ)I"⟩
abbrev cX10_drift : ByteArray := prog_1_method_16_code
def yX10_drift : MethodName := ⟨RX10, "drift", "(I)I"⟩
abbrev cX10_undo : ByteArray := prog_1_method_17_code
def yX10_undo : MethodName := ⟨RX10, "undo", "()I"⟩
abbrev cX10_shown : ByteArray := prog_1_method_18_code
def yX10_shown : MethodName := ⟨RX10, "shown", "(II)I"⟩
abbrev cX10_first : ByteArray := prog_1_method_19_code
def yX10_first : MethodName := ⟨RX10, "first", "(II)I"⟩
abbrev cX10_leadTo : ByteArray := prog_1_method_20_code
def yX10_leadTo : MethodName := ⟨RX10, "leadTo", "(IIIII)I"⟩
abbrev cX10_often : ByteArray := prog_1_method_21_code
def yX10_often : MethodName := ⟨RX10, "often", "(IIII)I"⟩
abbrev cX10_wasRain : ByteArray := prog_1_method_22_code
def yX10_wasRain : MethodName := ⟨RX10, "wasRain", "(I)I"⟩
abbrev cX10_rainToTell : ByteArray := prog_1_method_23_code
def yX10_rainToTell : MethodName := ⟨RX10, "rainToTell", "(I)I"⟩
abbrev cX10_dryIn : ByteArray := prog_1_method_24_code
def yX10_dryIn : MethodName := ⟨RX10, "dryIn", "()I"⟩
abbrev cX10_either : ByteArray := prog_1_method_25_code
def yX10_either : MethodName := ⟨RX10, "either", "(III)I"⟩
abbrev cX10_rainy : ByteArray := prog_1_method_26_code
def yX10_rainy : MethodName := ⟨RX10, "rainy", "(II)I"⟩
abbrev cX10_write : ByteArray := prog_1_method_27_code
def yX10_write : MethodName := ⟨RX10, "write", "(II)I"⟩
abbrev cX10_tear : ByteArray := prog_1_method_28_code
def yX10_tear : MethodName := ⟨RX10, "tear", "()I"⟩
abbrev cX10_judge : ByteArray := prog_1_method_29_code
def yX10_judge : MethodName := ⟨RX10, "judge", "()I"⟩
abbrev cX10_seed : ByteArray := prog_1_method_30_code
def yX10_seed : MethodName := ⟨RX10, "seed", "(I)I"⟩
abbrev cX10_keep : ByteArray := prog_1_method_31_code
def yX10_keep : MethodName := ⟨RX10, "keep", "(I)I"⟩
abbrev cX10_goBack : ByteArray := prog_1_method_32_code
def yX10_goBack : MethodName := ⟨RX10, "goBack", "(I)I"⟩
abbrev cX10_noWall : ByteArray := prog_1_method_33_code
def yX10_noWall : MethodName := ⟨RX10, "noWall", "()Z"⟩
abbrev cX10_driftOneDay : ByteArray := prog_1_method_34_code
def yX10_driftOneDay : MethodName := ⟨RX10, "driftOneDay", "()V"⟩
abbrev cX10_outside : ByteArray := prog_1_method_35_code
def yX10_outside : MethodName := ⟨RX10, "outside", "(III)Z"⟩
abbrev cX10_pick : ByteArray := prog_1_method_36_code
def yX10_pick : MethodName := ⟨RX10, "pick", "([II)I"⟩
abbrev cX10_put : ByteArray := prog_1_method_37_code
def yX10_put : MethodName := ⟨RX10, "put", "([III)V"⟩
def RX11 : String := "DampLikenessModel"
def TX11 : u_T := fun k => match k with
  | 0 => ("DampLikenessModel", "high", "I", false)
  | 1 => ("DampLikenessModel", "wide", "I", false)
  | 2 => ("DampLikenessModel", "leaks", "I", false)
  | 3 => ("DampLikenessModel", "leakTold", "[I", true)
  | 4 => ("DampLikenessModel", "cracks", "I", false)
  | 5 => ("DampLikenessModel", "one", "[I", true)
  | 6 => ("DampLikenessModel", "other", "[I", true)
  | 7 => ("DampLikenessModel", "likes", "I", false)
  | 8 => ("DampLikenessModel", "likeSet", "[I", true)
  | 9 => ("DampLikenessModel", "windTold", "I", false)
  | 10 => ("DampLikenessModel", "now", "[I", true)
  | 11 => ("DampLikenessModel", "seed", "I", false)
  | 12 => ("DampLikenessModel", "text", "[I", true)
  | 13 => ("DampLikenessModel", "texted", "I", false)
  | 14 => ("DampLikenessModel", "faultPlace", "I", false)
  | 15 => ("DampLikenessModel", "at0", "I", false)
  | 16 => ("DampLikenessModel", "number", "I", false)
  | 17 => ("DampLikenessModel", "numberAt", "I", false)
  | 18 => ("DampLikenessModel", "readHigh", "I", false)
  | 19 => ("DampLikenessModel", "readWide", "I", false)
  | 20 => ("DampLikenessModel", "readLeaks", "I", false)
  | 21 => ("DampLikenessModel", "readLeak", "[I", true)
  | 22 => ("DampLikenessModel", "readCracks", "I", false)
  | 23 => ("DampLikenessModel", "readOne", "[I", true)
  | 24 => ("DampLikenessModel", "readOther", "[I", true)
  | 25 => ("DampLikenessModel", "readLikes", "I", false)
  | 26 => ("DampLikenessModel", "readLike", "[I", true)
  | 27 => ("DampLikenessModel", "hasWind", "Z", false)
  | 28 => ("DampLikenessModel", "readWind", "I", false)
  | 29 => ("DampLikenessModel", "had", "[I", true)
  | 30 => ("DampLikenessModel", "comes", "[I", true)
  | 31 => ("DampLikenessModel", "left", "[I", true)
  | 32 => ("DampLikenessModel", "undos", "I", false)
  | 33 => ("DampLikenessModel", "past", "[I", true)
  | 34 => ("DampLikenessModel", "before", "[I", true)
  | 35 => ("DampLikenessModel", "booked", "I", false)
  | 36 => ("DampLikenessModel", "bookOf", "[I", true)
  | 37 => ("DampLikenessModel", "bookIs", "[I", true)
  | 38 => ("DampLikenessModel", "images", "[I", true)
  | _ => ("DampLikenessModel", "isKept", "[Z", true)
def tyX11 : Nat → FieldType := fun k => match k with
  | 0 => .int
  | 1 => .int
  | 2 => .int
  | 3 => .array .int
  | 4 => .int
  | 5 => .array .int
  | 6 => .array .int
  | 7 => .int
  | 8 => .array .int
  | 9 => .int
  | 10 => .array .int
  | 11 => .int
  | 12 => .array .int
  | 13 => .int
  | 14 => .int
  | 15 => .int
  | 16 => .int
  | 17 => .int
  | 18 => .int
  | 19 => .int
  | 20 => .int
  | 21 => .array .int
  | 22 => .int
  | 23 => .array .int
  | 24 => .array .int
  | 25 => .int
  | 26 => .array .int
  | 27 => .boolean
  | 28 => .int
  | 29 => .array .int
  | 30 => .array .int
  | 31 => .array .int
  | 32 => .int
  | 33 => .array .int
  | 34 => .array .int
  | 35 => .int
  | 36 => .array .int
  | 37 => .array .int
  | 38 => .array .int
  | _ => .array .boolean
abbrev wsX110 : List Cond := u_ws RX11 TX11 40
theorem nmX11 : ∀ a, a < 40 → ∀ b, b < 40 → a ≠ b → (TX11 a).2.1 ≠ (TX11 b).2.1 := by decide +kernel
theorem tyX11_ok : ∀ k, k < 40 → parseFieldDescriptor (TX11 k).2.2.1 = some (tyX11 k) := by decide +kernel
abbrev cX11_init : ByteArray := prog_13_method_1_code
def yX11_init : MethodName := ⟨RX11, "<init>", "()V"⟩
abbrev cX11_in : ByteArray := prog_13_method_3_code
def yX11_in : MethodName := ⟨RX11, "in", "(JJJ)Z"⟩
abbrev cX11_has : ByteArray := prog_13_method_4_code
def yX11_has : MethodName := ⟨RX11, "has", "(II)Z"⟩
abbrev cX11_bits : ByteArray := prog_13_method_5_code
def yX11_bits : MethodName := ⟨RX11, "bits", "(I)I"⟩
abbrev cX11_cells : ByteArray := prog_13_method_6_code
def yX11_cells : MethodName := ⟨RX11, "cells", "()I"⟩
abbrev cX11_isCell : ByteArray := prog_13_method_7_code
def yX11_isCell : MethodName := ⟨RX11, "isCell", "(I)Z"⟩
abbrev cX11_isLeak : ByteArray := prog_13_method_8_code
def yX11_isLeak : MethodName := ⟨RX11, "isLeak", "(I)Z"⟩
abbrev cX11_isCrack : ByteArray := prog_13_method_9_code
def yX11_isCrack : MethodName := ⟨RX11, "isCrack", "(I)Z"⟩
abbrev cX11_isLike : ByteArray := prog_13_method_10_code
def yX11_isLike : MethodName := ⟨RX11, "isLike", "(I)Z"⟩
abbrev cX11_areNext : ByteArray := prog_13_method_11_code
def yX11_areNext : MethodName := ⟨RX11, "areNext", "(III)Z"⟩
abbrev cX11_feed : ByteArray := prog_13_method_12_code
def yX11_feed : MethodName := ⟨RX11, "feed", "(I)I"⟩
abbrev cX11_here : ByteArray := prog_13_method_13_code
def yX11_here : MethodName := ⟨RX11, "here", "()I"⟩
abbrev cX11_fails : ByteArray := prog_13_method_14_code
def yX11_fails : MethodName := ⟨RX11, "fails", "(II)I"⟩
abbrev cX11_takeNumber : ByteArray := prog_13_method_15_code
def yX11_takeNumber : MethodName := ⟨RX11, "takeNumber", "(II)I"⟩
abbrev cX11_into : ByteArray := prog_13_method_16_code
def yX11_into : MethodName := ⟨RX11, "into", "([IIII)I"⟩
abbrev cX11_takeWall : ByteArray := prog_13_method_17_code
def yX11_takeWall : MethodName := ⟨RX11, "takeWall", "()I"⟩
abbrev cX11_readCells : ByteArray := prog_13_method_18_code
def yX11_readCells : MethodName := ⟨RX11, "readCells", "()I"⟩
abbrev cX11_takeLeak : ByteArray := prog_13_method_19_code
def yX11_takeLeak : MethodName := ⟨RX11, "takeLeak", "()I"⟩
abbrev cX11_isTold : ByteArray := prog_13_method_20_code
def yX11_isTold : MethodName := ⟨RX11, "isTold", "(II)Z"⟩
abbrev cX11_takeCrack : ByteArray := prog_13_method_21_code
def yX11_takeCrack : MethodName := ⟨RX11, "takeCrack", "()I"⟩
abbrev cX11_takeLike : ByteArray := prog_13_method_22_code
def yX11_takeLike : MethodName := ⟨RX11, "takeLike", "()I"⟩
abbrev cX11_takeWind : ByteArray := prog_13_method_23_code
def yX11_takeWind : MethodName := ⟨RX11, "takeWind", "()I"⟩
abbrev cX11_isFull : ByteArray := prog_13_method_24_code
def yX11_isFull : MethodName := ⟨RX11, "isFull", "(I)Z"⟩
abbrev cX11_takeBody : ByteArray := prog_13_method_25_code
def yX11_takeBody : MethodName := ⟨RX11, "takeBody", "(I)I"⟩
abbrev cX11_takeClause : ByteArray := prog_13_method_26_code
def yX11_takeClause : MethodName := ⟨RX11, "takeClause", "()I"⟩
abbrev cX11_copyRow : ByteArray := prog_13_method_27_code
def yX11_copyRow : MethodName := ⟨RX11, "copyRow", "([I[II)V"⟩
abbrev cX11_takeRead : ByteArray := prog_13_method_28_code
def yX11_takeRead : MethodName := ⟨RX11, "takeRead", "()V"⟩
abbrev cX11_wall : ByteArray := prog_13_method_29_code
def yX11_wall : MethodName := ⟨RX11, "wall", "()I"⟩
abbrev cX11_fault : ByteArray := prog_13_method_30_code
def yX11_fault : MethodName := ⟨RX11, "fault", "()I"⟩
abbrev cX11_shows : ByteArray := prog_13_method_31_code
def yX11_shows : MethodName := ⟨RX11, "shows", "()I"⟩
abbrev cX11_around : ByteArray := prog_13_method_32_code
def yX11_around : MethodName := ⟨RX11, "around", "(I)I"⟩
abbrev cX11_likeOf : ByteArray := prog_13_method_33_code
def yX11_likeOf : MethodName := ⟨RX11, "likeOf", "(I)I"⟩
abbrev cX11_whom : ByteArray := prog_13_method_34_code
def yX11_whom : MethodName := ⟨RX11, "whom", "()I"⟩
abbrev cX11_mayBe : ByteArray := prog_13_method_35_code
def yX11_mayBe : MethodName := ⟨RX11, "mayBe", "()I"⟩
abbrev cX11_groupOf : ByteArray := prog_13_method_36_code
def yX11_groupOf : MethodName := ⟨RX11, "groupOf", "(I)I"⟩
abbrev cX11_groups : ByteArray := prog_13_method_37_code
def yX11_groups : MethodName := ⟨RX11, "groups", "(Z)I"⟩
abbrev cX11_border : ByteArray := prog_13_method_38_code
def yX11_border : MethodName := ⟨RX11, "border", "()I"⟩
abbrev cX11_fullest : ByteArray := prog_13_method_39_code
def yX11_fullest : MethodName := ⟨RX11, "fullest", "()I"⟩
abbrev cX11_allWet : ByteArray := prog_13_method_40_code
def yX11_allWet : MethodName := ⟨RX11, "allWet", "()I"⟩
abbrev cX11_told : ByteArray := prog_13_method_41_code
def yX11_told : MethodName := ⟨RX11, "told", "(I)I"⟩
abbrev cX11_cell : ByteArray := prog_13_method_42_code
def yX11_cell : MethodName := ⟨RX11, "cell", "(I)I"⟩
abbrev cX11_leak : ByteArray := prog_13_method_43_code
def yX11_leak : MethodName := ⟨RX11, "leak", "(I)I"⟩
abbrev cX11_crack : ByteArray := prog_13_method_44_code
def yX11_crack : MethodName := ⟨RX11, "crack", "(II)I"⟩
abbrev cX11_likeness : ByteArray := prog_13_method_45_code
def yX11_likeness : MethodName := ⟨RX11, "likeness", "(II)I"⟩
abbrev cX11_give : ByteArray := prog_13_method_46_code
def yX11_give : MethodName := ⟨RX11, "give", "(II)V"⟩
abbrev cX11_runFrom : ByteArray := prog_13_method_47_code
def yX11_runFrom : MethodName := ⟨RX11, "runFrom", "(I)V"⟩
abbrev cX11_bound : ByteArray := prog_13_method_48_code
def yX11_bound : MethodName := ⟨RX11, "bound", "(I)I"⟩
abbrev cX11_pass : ByteArray := prog_13_method_49_code
def yX11_pass : MethodName := ⟨RX11, "pass", "(I)V"⟩
abbrev cX11_lookNow : ByteArray := prog_13_method_50_code
def yX11_lookNow : MethodName := ⟨RX11, "lookNow", "()V"⟩
abbrev cX11_remember : ByteArray := prog_13_method_51_code
def yX11_remember : MethodName := ⟨RX11, "remember", "()V"⟩
abbrev cX11_day : ByteArray := prog_13_method_52_code
def yX11_day : MethodName := ⟨RX11, "day", "(II)I"⟩
abbrev cX11_look : ByteArray := prog_13_method_53_code
def yX11_look : MethodName := ⟨RX11, "look", "()I"⟩
abbrev cX11_brush : ByteArray := prog_13_method_54_code
def yX11_brush : MethodName := ⟨RX11, "brush", "(I)I"⟩
abbrev cX11_lead : ByteArray := prog_13_method_55_code
def yX11_lead : MethodName := ⟨RX11, "lead", "(II)I"⟩
abbrev cX11_wind : ByteArray := prog_13_method_56_code
def yX11_wind : MethodName := ⟨RX11, "wind", "(I)I"⟩
abbrev cX11_fill : ByteArray := prog_13_method_57_code
def yX11_fill : MethodName := ⟨RX11, "fill", "(IZ)I"⟩
abbrev cX11_draw : ByteArray := prog_13_method_58_code
def yX11_draw : MethodName := ⟨RX11, "draw", "(I)I"⟩
abbrev cX11_dayByDraws : ByteArray := prog_13_method_59_code
def yX11_dayByDraws : MethodName := ⟨RX11, "dayByDraws", "()V"⟩
abbrev cX11_drift : ByteArray := prog_13_method_60_code
def yX11_drift : MethodName := ⟨RX11, "drift", "(I)I"⟩
abbrev cX11_undo : ByteArray := prog_13_method_61_code
def yX11_undo : MethodName := ⟨RX11, "undo", "()I"⟩
abbrev cX11_shownBy : ByteArray := prog_13_method_62_code
def yX11_shownBy : MethodName := ⟨RX11, "shownBy", "(II)I"⟩
abbrev cX11_shown : ByteArray := prog_13_method_63_code
def yX11_shown : MethodName := ⟨RX11, "shown", "(II)I"⟩
abbrev cX11_first : ByteArray := prog_13_method_64_code
def yX11_first : MethodName := ⟨RX11, "first", "(II)I"⟩
abbrev cX11_leadTo : ByteArray := prog_13_method_65_code
def yX11_leadTo : MethodName := ⟨RX11, "leadTo", "(IIIII)I"⟩
abbrev cX11_shownByLooks : ByteArray := prog_13_method_66_code
def yX11_shownByLooks : MethodName := ⟨RX11, "shownByLooks", "(III)I"⟩
abbrev cX11_often : ByteArray := prog_13_method_67_code
def yX11_often : MethodName := ⟨RX11, "often", "(IIII)I"⟩
abbrev cX11_wasRain : ByteArray := prog_13_method_68_code
def yX11_wasRain : MethodName := ⟨RX11, "wasRain", "(I)I"⟩
abbrev cX11_leftBy : ByteArray := prog_13_method_69_code
def yX11_leftBy : MethodName := ⟨RX11, "leftBy", "(I)I"⟩
abbrev cX11_rainToTell : ByteArray := prog_13_method_70_code
def yX11_rainToTell : MethodName := ⟨RX11, "rainToTell", "(I)I"⟩
abbrev cX11_dryIn : ByteArray := prog_13_method_71_code
def yX11_dryIn : MethodName := ⟨RX11, "dryIn", "()I"⟩
abbrev cX11_either : ByteArray := prog_13_method_72_code
def yX11_either : MethodName := ⟨RX11, "either", "(III)I"⟩
abbrev cX11_rainy : ByteArray := prog_13_method_73_code
def yX11_rainy : MethodName := ⟨RX11, "rainy", "(II)I"⟩
abbrev cX11_write : ByteArray := prog_13_method_74_code
def yX11_write : MethodName := ⟨RX11, "write", "(II)I"⟩
abbrev cX11_tear : ByteArray := prog_13_method_75_code
def yX11_tear : MethodName := ⟨RX11, "tear", "()I"⟩
abbrev cX11_judge : ByteArray := prog_13_method_76_code
def yX11_judge : MethodName := ⟨RX11, "judge", "()I"⟩
abbrev cX11_seed : ByteArray := prog_13_method_77_code
def yX11_seed : MethodName := ⟨RX11, "seed", "(I)I"⟩
abbrev cX11_keep : ByteArray := prog_13_method_78_code
def yX11_keep : MethodName := ⟨RX11, "keep", "(I)I"⟩
abbrev cX11_goBack : ByteArray := prog_13_method_79_code
def yX11_goBack : MethodName := ⟨RX11, "goBack", "(I)I"⟩
def RJ6 : String := "java/lang/Integer"
def TJ6 : u_T := fun k => match k with
  | _ => ("", "", "", false)
def tyJ6 : Nat → FieldType := fun k => match k with
  | _ => .int
abbrev wsJ60 : List Cond := u_ws RJ6 TJ6 0
theorem nmJ6 : ∀ a, a < 0 → ∀ b, b < 0 → a ≠ b → (TJ6 a).2.1 ≠ (TJ6 b).2.1 := by decide +kernel
theorem tyJ6_ok : ∀ k, k < 0 → parseFieldDescriptor (TJ6 k).2.2.1 = some (tyJ6 k) := by decide +kernel
abbrev cJ6_bitCount_0f7a4 : ByteArray := prog_14_method_49_code
def yJ6_bitCount_0f7a4 : MethodName := ⟨RJ6, "bitCount", "(I)I"⟩
def RJ9 : String := "java/lang/Math"
def TJ9 : u_T := fun k => match k with
  | _ => ("", "", "", false)
def tyJ9 : Nat → FieldType := fun k => match k with
  | _ => .int
abbrev wsJ90 : List Cond := u_ws RJ9 TJ9 0
theorem nmJ9 : ∀ a, a < 0 → ∀ b, b < 0 → a ≠ b → (TJ9 a).2.1 ≠ (TJ9 b).2.1 := by decide +kernel
theorem tyJ9_ok : ∀ k, k < 0 → parseFieldDescriptor (TJ9 k).2.2.1 = some (tyJ9 k) := by decide +kernel
abbrev cJ9_max_7cf53 : ByteArray := prog_15_method_65_code
def yJ9_max_7cf53 : MethodName := ⟨RJ9, "max", "(II)I"⟩
abbrev cJ9_min_7cf53 : ByteArray := prog_15_method_69_code
def yJ9_min_7cf53 : MethodName := ⟨RJ9, "min", "(II)I"⟩
def RJ10 : String := "java/lang/System"
def TJ10 : u_T := fun k => match k with
  | _ => ("", "", "", false)
def tyJ10 : Nat → FieldType := fun k => match k with
  | _ => .int
abbrev wsJ100 : List Cond := u_ws RJ10 TJ10 0
theorem nmJ10 : ∀ a, a < 0 → ∀ b, b < 0 → a ≠ b → (TJ10 a).2.1 ≠ (TJ10 b).2.1 := by decide +kernel
theorem tyJ10_ok : ∀ k, k < 0 → parseFieldDescriptor (TJ10 k).2.2.1 = some (tyJ10 k) := by decide +kernel
def RL : String := "DampLikenessLaw"
abbrev cL_law : ByteArray := code
def yL_law : MethodName := ⟨RL, "law", "([I)Z"⟩
def WT : List Cond := lw_tbl.filter goodWord
theorem wt_mem {w : Cond} (i : Nat) (h : lw_tbl[i]? = some w) (hg : goodWord w = true) : w ∈ WT := List.mem_filter.mpr ⟨List.mem_of_getElem? h, hg⟩
theorem wt_good {big : List Cond} (hb : ∀ w ∈ WT, w ∈ big) : GoodIn big WT := fun w hw => ⟨hb w hw, good_of_word (List.mem_filter.mp hw).2⟩
theorem wt_code {c c' : Cond} (h : c' ∈ WT) : GoodIn (c :: WT) (c' :: WT) := fun w hw => by
  rcases List.mem_cons.mp hw with rfl | hw
  · exact ⟨List.mem_cons_of_mem _ h, good_of_word (List.mem_filter.mp h).2⟩
  · exact ⟨List.mem_cons_of_mem _ hw, good_of_word (List.mem_filter.mp hw).2⟩
theorem wt_codeL {c' : Cond} (h : c' ∈ WT) : GoodIn lw_tbl (c' :: WT) := fun w hw => by
  rcases List.mem_cons.mp hw with rfl | hw
  · exact ⟨(List.mem_filter.mp h).1, good_of_word (List.mem_filter.mp h).2⟩
  · exact ⟨(List.mem_filter.mp hw).1, good_of_word (List.mem_filter.mp hw).2⟩
abbrev jcls : List vw_C := [(RX0, TX0, 3), (RX1, TX1, 7), (RX2, TX2, 1), (RX3, TX3, 2), (RX4, TX4, 3), (RX6, TX6, 3), (RX7, TX7, 11), (RX8, TX8, 7), (RX9, TX9, 8), (RX10, TX10, 10), (RX11, TX11, 40)]
set_option maxRecDepth 20000 in
theorem jin0 : ∀ w ∈ u_ws RX0 TX0 3, w ∈ WT := fun w h => List.mem_filter.mpr ⟨(goodIn_r (big := lw_tbl) (u_ws RX0 TX0 3) [235, 237, 239] (by decide +kernel) (by decide +kernel) w h).1, List.all_eq_true.mp (by decide +kernel : (u_ws RX0 TX0 3).all goodWord = true) w h⟩
set_option maxRecDepth 20000 in
theorem jin1 : ∀ w ∈ u_ws RX1 TX1 7, w ∈ WT := fun w h => List.mem_filter.mpr ⟨(goodIn_r (big := lw_tbl) (u_ws RX1 TX1 7) [140, 142, 144, 146, 148, 150, 152] (by decide +kernel) (by decide +kernel) w h).1, List.all_eq_true.mp (by decide +kernel : (u_ws RX1 TX1 7).all goodWord = true) w h⟩
set_option maxRecDepth 20000 in
theorem jin2 : ∀ w ∈ u_ws RX2 TX2 1, w ∈ WT := fun w h => List.mem_filter.mpr ⟨(goodIn_r (big := lw_tbl) (u_ws RX2 TX2 1) [250] (by decide +kernel) (by decide +kernel) w h).1, List.all_eq_true.mp (by decide +kernel : (u_ws RX2 TX2 1).all goodWord = true) w h⟩
set_option maxRecDepth 20000 in
theorem jin3 : ∀ w ∈ u_ws RX3 TX3 2, w ∈ WT := fun w h => List.mem_filter.mpr ⟨(goodIn_r (big := lw_tbl) (u_ws RX3 TX3 2) [163, 165] (by decide +kernel) (by decide +kernel) w h).1, List.all_eq_true.mp (by decide +kernel : (u_ws RX3 TX3 2).all goodWord = true) w h⟩
set_option maxRecDepth 20000 in
theorem jin4 : ∀ w ∈ u_ws RX4 TX4 3, w ∈ WT := fun w h => List.mem_filter.mpr ⟨(goodIn_r (big := lw_tbl) (u_ws RX4 TX4 3) [331, 333, 335] (by decide +kernel) (by decide +kernel) w h).1, List.all_eq_true.mp (by decide +kernel : (u_ws RX4 TX4 3).all goodWord = true) w h⟩
set_option maxRecDepth 20000 in
theorem jin6 : ∀ w ∈ u_ws RX6 TX6 3, w ∈ WT := fun w h => List.mem_filter.mpr ⟨(goodIn_r (big := lw_tbl) (u_ws RX6 TX6 3) [218, 220, 222] (by decide +kernel) (by decide +kernel) w h).1, List.all_eq_true.mp (by decide +kernel : (u_ws RX6 TX6 3).all goodWord = true) w h⟩
set_option maxRecDepth 20000 in
theorem jin7 : ∀ w ∈ u_ws RX7 TX7 11, w ∈ WT := fun w h => List.mem_filter.mpr ⟨(goodIn_r (big := lw_tbl) (u_ws RX7 TX7 11) [297, 299, 301, 303, 305, 307, 309, 311, 313, 315, 317] (by decide +kernel) (by decide +kernel) w h).1, List.all_eq_true.mp (by decide +kernel : (u_ws RX7 TX7 11).all goodWord = true) w h⟩
set_option maxRecDepth 20000 in
theorem jin8 : ∀ w ∈ u_ws RX8 TX8 7, w ∈ WT := fun w h => List.mem_filter.mpr ⟨(goodIn_r (big := lw_tbl) (u_ws RX8 TX8 7) [98, 100, 102, 104, 106, 108, 110] (by decide +kernel) (by decide +kernel) w h).1, List.all_eq_true.mp (by decide +kernel : (u_ws RX8 TX8 7).all goodWord = true) w h⟩
set_option maxRecDepth 20000 in
theorem jin9 : ∀ w ∈ u_ws RX9 TX9 8, w ∈ WT := fun w h => List.mem_filter.mpr ⟨(goodIn_r (big := lw_tbl) (u_ws RX9 TX9 8) [189, 191, 193, 195, 197, 199, 201, 203] (by decide +kernel) (by decide +kernel) w h).1, List.all_eq_true.mp (by decide +kernel : (u_ws RX9 TX9 8).all goodWord = true) w h⟩
set_option maxRecDepth 20000 in
theorem jin10 : ∀ w ∈ u_ws RX10 TX10 10, w ∈ WT := fun w h => List.mem_filter.mpr ⟨(goodIn_r (big := lw_tbl) (u_ws RX10 TX10 10) [348, 350, 352, 354, 356, 358, 360, 362, 364, 366] (by decide +kernel) (by decide +kernel) w h).1, List.all_eq_true.mp (by decide +kernel : (u_ws RX10 TX10 10).all goodWord = true) w h⟩
set_option maxRecDepth 20000 in
theorem jin11 : ∀ w ∈ u_ws RX11 TX11 40, w ∈ WT := fun w h => List.mem_filter.mpr ⟨(goodIn_r (big := lw_tbl) (u_ws RX11 TX11 40) [885, 887, 889, 891, 893, 895, 897, 899, 901, 903, 905, 907, 909, 911, 913, 915, 917, 919, 921, 923, 925, 927, 929, 931, 933, 935, 937, 939, 941, 943, 945, 947, 949, 951, 953, 955, 957, 959, 961, 963] (by decide +kernel) (by decide +kernel) w h).1, List.all_eq_true.mp (by decide +kernel : (u_ws RX11 TX11 40).all goodWord = true) w h⟩
end
section
/-! the store: one function of ints for all cells, by number; the shapes of the cells; the world that a store spells -/
abbrev Sto : Type := Nat → Nat → Int32
abbrev JC : Type := va_G × (Nat → Nat) × ClassId × ClassId × ClassId × ClassId
def upA (S : Sto) (i : Nat) (f : Nat → Int32) : Sto := fun j => if j = i then f else S j
def up2 (S : Sto) (i k : Nat) (v : Int32) : Sto := upA S i (upd (S i) k v)
/-- kinds: (0, class), (1, n) ints, (2, n) booleans, (3, n) Damps, (4, n) Images -/
abbrev jshL : List (Nat × Nat) := [(0, 9), (0, 7), (1, 240), (0, 1), (1, 25), (1, 4), (0, 3), (1, 25), (1, 25), (0, 8), (0, 3), (1, 25), (1, 25), (0, 1), (1, 25), (1, 4), (3, 8), (0, 1), (1, 25), (1, 4), (0, 1), (1, 25), (1, 4), (0, 1), (1, 25), (1, 4), (0, 1), (1, 25), (1, 4), (0, 1), (1, 25), (1, 4), (0, 1), (1, 25), (1, 4), (0, 1), (1, 25), (1, 4), (0, 1), (1, 25), (1, 4), (0, 5), (3, 16), (0, 1), (1, 25), (1, 4), (0, 1), (1, 25), (1, 4), (0, 1), (1, 25), (1, 4), (0, 1), (1, 25), (1, 4), (0, 1), (1, 25), (1, 4), (0, 1), (1, 25), (1, 4), (0, 1), (1, 25), (1, 4), (0, 1), (1, 25), (1, 4), (0, 1), (1, 25), (1, 4), (0, 1), (1, 25), (1, 4), (0, 1), (1, 25), (1, 4), (0, 1), (1, 25), (1, 4), (0, 1), (1, 25), (1, 4), (0, 1), (1, 25), (1, 4), (0, 1), (1, 25), (1, 4), (0, 1), (1, 25), (1, 4), (0, 0), (1, 15), (1, 15), (0, 2), (4, 2), (0, 6), (1, 4), (1, 6), (1, 6), (1, 5), (0, 6), (1, 4), (1, 6), (1, 6), (1, 5), (0, 4), (0, 1), (1, 25), (1, 4), (0, 4), (0, 1), (1, 25), (1, 4), (0, 10), (1, 4), (1, 6), (1, 6), (1, 5), (1, 34), (1, 240), (1, 4), (1, 6), (1, 6), (1, 5), (1, 25), (1, 25), (1, 25), (1, 544), (1, 34), (1, 15), (1, 15), (1, 70), (2, 2)]
def jsh (i : Nat) : Nat × Nat := jshL.getD i (9, 0)
abbrev NN : Nat := 134
abbrev jfk : List (List Bool) := [[true, true, false], [true, true, false, false, false, false, false], [false], [true, true], [true, false, false], [true, false, false], [true, true, true, true, false, false, false, false, false, false, false], [true, false, false, false, false, false, false], [true, true, true, false, false, false, false, false], [true, true, true, true, true, true, true, true, true, true], [false, false, false, true, false, true, true, false, true, false, true, false, true, false, false, false, false, false, false, false, false, true, false, true, true, false, true, false, false, true, true, true, false, true, true, false, true, true, true, true]]
def isR (ci k : Nat) : Bool := (jfk.getD ci []).getD k false
def nfl (ci : Nat) : Nat := (jfk.getD ci []).length
def rf (S : Sto) (i k : Nat) : Nat := if i = 0 then (if k = 8 then (S 0 8).toNatClampNeg else if k = 9 then (S 0 9).toNatClampNeg else [1, 3, 6, 9, 41, 91, 94, 95].getD k 0) else if i = 9 then [10, 13, 16].getD k 0 else if i = 114 then [0, 0, 0, 115, 0, 116, 117, 0, 118, 0, 119, 0, 120, 0, 0, 0, 0, 0, 0, 0, 0, 121, 0, 122, 123, 0, 124, 0, 0, 125, 126, 127, 0, 128, 129, 0, 130, 131, 132, 133].getD k 0 else i + 1 + k
def rfa (i j : Nat) : Nat := if i = 95 then 106 + 4 * j else i + 1 + 3 * j
def jfv (C : JC) (S : Sto) (ci i k : Nat) : Value := if isR ci k = true then .ref (C.2.1 (rf S i k)) else .int (S i k)
def jcell (C : JC) (S : Sto) (i : Nat) : va_E := match jsh i with
  | (0, ci) => .inr (ci, (List.range (nfl ci)).map (jfv C S ci i))
  | (1, n) => .inl (C.2.2.1, n, .inl (S i))
  | (2, n) => .inl (C.2.2.2.1, n, .inl (S i))
  | (3, n) => .inl (C.2.2.2.2.1, n, .inr (.inr (.inr (.inr (fun j => some (C.2.1 (rfa i j)))))))
  | (_, n) => .inl (C.2.2.2.2.2, n, .inr (.inr (.inr (.inr (fun j => some (C.2.1 (rfa i j)))))))
def jw (C : JC) (S : Sto) : va_W := (List.range NN).map (fun i => (C.2.1 i, jcell C S i))
def jty (C : JC) : List (ClassId × FieldType) := [(C.2.2.1, .int), (C.2.2.2.1, .boolean), (C.2.2.2.2.1, .object RX1), (C.2.2.2.2.2, .object RX4)]
def JInj (C : JC) : Prop := ∀ i j, i < NN → j < NN → C.2.1 i = C.2.1 j → i = j
def JA (C : JC) : Nat → Prop := fun q => ∃ i, i < NN ∧ q = C.2.1 i
abbrev nestL : List (String × Nat × MethodName × String) := [("DampLikeness", 9, ⟨"DampLikeness$Reader", "<init>", "()V"⟩, "DampLikeness"), ("DampLikeness", 18, ⟨"DampLikeness$Damp", "<init>", "()V"⟩, "DampLikeness"), ("DampLikeness", 25, ⟨"DampLikeness$Flow", "<init>", "()V"⟩, "DampLikeness"), ("DampLikeness$Trial", 11, ⟨"DampLikeness$Flow", "<init>", "()V"⟩, "DampLikeness"), ("DampLikeness$Trial", 20, ⟨"DampLikeness$Damp", "<init>", "()V"⟩, "DampLikeness"), ("DampLikeness$Past", 17, ⟨"DampLikeness$Damp", "<init>", "()V"⟩, "DampLikeness"), ("DampLikeness", 46, ⟨"DampLikeness$Book", "<init>", "()V"⟩, "DampLikeness"), ("DampLikeness", 53, ⟨"DampLikeness$Draws", "<init>", "()V"⟩, "DampLikeness"), ("DampLikeness", 66, ⟨"DampLikeness$Plan", "<init>", "()V"⟩, "DampLikeness"), ("DampLikeness", 74, ⟨"DampLikeness$Image", "<init>", "()V"⟩, "DampLikeness"), ("DampLikeness$Image", 9, ⟨"DampLikeness$Damp", "<init>", "()V"⟩, "DampLikeness"), ("DampLikeness$Reader", 23, ⟨"DampLikeness", "put", "([III)V"⟩, "DampLikeness"), ("DampLikeness$Reader", 125, ⟨"DampLikeness", "pick", "([II)I"⟩, "DampLikeness"), ("DampLikeness$Reader", 132, ⟨"DampLikeness", "outside", "(III)Z"⟩, "DampLikeness"), ("DampLikeness$Plan", 54, ⟨"DampLikeness", "put", "([III)V"⟩, "DampLikeness"), ("DampLikeness$Damp", 21, ⟨"DampLikeness", "pick", "([II)I"⟩, "DampLikeness"), ("DampLikeness$Marks", 50, ⟨"DampLikeness", "pick", "([II)I"⟩, "DampLikeness"), ("DampLikeness$Flow", 33, ⟨"DampLikeness", "pick", "([II)I"⟩, "DampLikeness"), ("DampLikeness$Flow", 46, ⟨"DampLikeness", "put", "([III)V"⟩, "DampLikeness"), ("DampLikeness$Trial", 67, ⟨"DampLikeness", "put", "([III)V"⟩, "DampLikeness"), ("DampLikeness$Book", 23, ⟨"DampLikeness", "put", "([III)V"⟩, "DampLikeness"), ("DampLikeness$Book", 32, ⟨"DampLikeness", "pick", "([II)I"⟩, "DampLikeness")]
def JN (U : State) : Prop := ∀ q ∈ nestL, va_Nw (.methodLinkNest q.1 q.2.1 q.2.2.1 q.2.2.2) U
theorem JN.warm {s U : State} (hW : s.WarmedH U.vm) (h : JN s) : JN U := fun q hq => va_Nw.warmM hW (h q hq)
theorem jw_at (C : JC) (S : Sto) {i : Nat} (h : i < NN) : (jw C S)[i]? = some (C.2.1 i, jcell C S i) := by
  simp [jw, h]
theorem jw_len (C : JC) (S : Sto) : (jw C S).length = NN := by simp [jw]
theorem jsh_lt {i a b : Nat} (h : jsh i = (a, b)) (ha : a ≠ 9) : i < NN := by
  rcases Nat.lt_or_ge i NN with q | q
  · exact q
  · exfalso
    rw [jsh, List.getD_eq_getElem?_getD, List.getElem?_eq_none (by exact q)] at h
    exact ha (by cases h; rfl)
theorem upA_same (S : Sto) (i : Nat) (f : Nat → Int32) : upA S i f i = f := if_pos rfl
theorem upA_ne (S : Sto) {i j : Nat} (f : Nat → Int32) (h : j ≠ i) : upA S i f j = S j := if_neg h
theorem up2_same (S : Sto) (i k : Nat) (v : Int32) : up2 S i k v i = upd (S i) k v := if_pos rfl
theorem up2_ne (S : Sto) {i j : Nat} (k : Nat) (v : Int32) (h : j ≠ i) : up2 S i k v j = S j := if_neg h
theorem jw_set (C : JC) (S S' : Sto) {i : Nat} (h : i < NN) {e : va_E} (he : e = jcell C S' i) (ho : ∀ j, j < NN → j ≠ i → jcell C S j = jcell C S' j) : (jw C S).set i (C.2.1 i, e) = jw C S' := by
  apply List.ext_getElem?
  intro j
  by_cases hj : j = i
  · subst hj
    rw [List.getElem?_set_self (by rw [jw_len]; exact h), jw_at C S' h, he]
  · rw [List.getElem?_set_ne (fun q => hj q.symm)]
    rcases Nat.lt_or_ge j NN with q | q
    · rw [jw_at C S q, jw_at C S' q, ho j q hj]
    · rw [List.getElem?_eq_none (by rw [jw_len]; exact q), List.getElem?_eq_none (by rw [jw_len]; exact q)]
theorem jw_D (C : JC) (S : Sto) {A : Nat → Prop} (hC : JInj C) (hA : ∀ i, i < NN → A (C.2.1 i)) : va_D A (jw C S) := by
  have lt : ∀ (i : Nat) (q : Nat × va_E), (jw C S)[i]? = some q → i < NN := fun i q h => by
    have := (List.getElem?_eq_some_iff.mp h).1
    rwa [jw_len] at this
  refine ⟨fun i j p q hi hj hpq => ?_, fun k q hk => ?_⟩
  · have h1 := lt i p hi
    have h2 := lt j q hj
    rw [jw_at C S h1] at hi
    rw [jw_at C S h2] at hj
    cases hi; cases hj
    exact hC i j h1 h2 hpq
  · have h1 := lt k q hk
    rw [jw_at C S h1] at hk
    cases hk
    exact hA k h1
theorem rf_up (S : Sto) (i k : Nat) (v : Int32) (j x : Nat) (h : ¬ (i = 0 ∧ (k = 8 ∨ k = 9))) : rf (up2 S i k v) j x = rf S j x := by
  have e8 : up2 S i k v 0 8 = S 0 8 := by
    unfold up2 upA
    by_cases q : (0 : Nat) = i
    · subst q
      have : (8 : Nat) ≠ k := fun z => h ⟨rfl, Or.inl z.symm⟩
      rw [if_pos rfl, pk_un this]
    · rw [if_neg q]
  have e9 : up2 S i k v 0 9 = S 0 9 := by
    unfold up2 upA
    by_cases q : (0 : Nat) = i
    · subst q
      have : (9 : Nat) ≠ k := fun z => h ⟨rfl, Or.inr z.symm⟩
      rw [if_pos rfl, pk_un this]
    · rw [if_neg q]
  unfold rf
  rw [e8, e9]
theorem rf_upA (S : Sto) (i : Nat) (f : Nat → Int32) (j x : Nat) (h : i ≠ 0) : rf (upA S i f) j x = rf S j x := by
  have e : upA S i f 0 = S 0 := upA_ne S f (fun q => h q.symm)
  unfold rf
  rw [e]
theorem jcell_o (C : JC) (S : Sto) {i ci : Nat} (h : jsh i = (0, ci)) : jcell C S i = .inr (ci, (List.range (nfl ci)).map (jfv C S ci i)) := by simp only [jcell, h]
theorem jcell_1 (C : JC) (S : Sto) {i n : Nat} (h : jsh i = (1, n)) : jcell C S i = .inl (C.2.2.1, n, .inl (S i)) := by simp only [jcell, h]
theorem jcell_2 (C : JC) (S : Sto) {i n : Nat} (h : jsh i = (2, n)) : jcell C S i = .inl (C.2.2.2.1, n, .inl (S i)) := by simp only [jcell, h]
theorem jcell_3 (C : JC) (S : Sto) {i n : Nat} (h : jsh i = (3, n)) : jcell C S i = .inl (C.2.2.2.2.1, n, .inr (.inr (.inr (.inr (fun j => some (C.2.1 (rfa i j))))))) := by simp only [jcell, h]
theorem jcell_4 (C : JC) (S : Sto) {i n : Nat} (h : jsh i = (4, n)) : jcell C S i = .inl (C.2.2.2.2.2, n, .inr (.inr (.inr (.inr (fun j => some (C.2.1 (rfa i j))))))) := by simp only [jcell, h]
theorem jcell_eq (C : JC) {S S' : Sto} {j : Nat} (h : S j = S' j) (hr : ∀ k, rf S j k = rf S' j k) : jcell C S j = jcell C S' j := by
  unfold jcell
  have e : ∀ ci, jfv C S ci j = jfv C S' ci j := fun ci => by
    funext k
    unfold jfv
    rw [h, hr]
  simp only [e, h]
theorem jfs_at (C : JC) (S : Sto) {ci k : Nat} (i : Nat) (h : k < nfl ci) : ((List.range (nfl ci)).map (jfv C S ci i))[k]? = some (jfv C S ci i k) := by simp [h]
/-- a field of ints is written -/
theorem jw_puti (C : JC) (S : Sto) {i ci k : Nat} {v : Int32} (hs : jsh i = (0, ci)) (hk : k < nfl ci) (hr : isR ci k = false) (h0 : i = 0 → ci = 9) : (jw C S).set i (C.2.1 i, .inr (ci, ((List.range (nfl ci)).map (jfv C S ci i)).set k (.int v))) = jw C (up2 S i k v) := by
  have hne : ¬ (i = 0 ∧ (k = 8 ∨ k = 9)) := fun ⟨a, b⟩ => by
    have := h0 a
    subst this
    rcases b with rfl | rfl <;> exact absurd hr (by decide)
  refine jw_set C S _ (jsh_lt hs (by decide)) ?_ (fun j _ hj => jcell_eq C (up2_ne S k v hj).symm (fun x => (rf_up S i k v j x hne).symm))
  rw [jcell_o C _ hs]
  congr 2
  apply List.ext_getElem?
  intro x
  by_cases hx : x = k
  · subst hx
    rw [List.getElem?_set_self (by simp [hk]), jfs_at C _ i hk]
    unfold jfv
    rw [if_neg (by rw [hr]; decide), up2_same, pk_us]
  · rw [List.getElem?_set_ne (fun q => hx q.symm)]
    rcases Nat.lt_or_ge x (nfl ci) with q | q
    · rw [jfs_at C _ i q, jfs_at C _ i q]
      unfold jfv
      rw [rf_up S i k v i x hne, up2_same, pk_un hx]
    · rw [List.getElem?_eq_none (by simp [q]), List.getElem?_eq_none (by simp [q])]
/-- an array of ints is written -/
theorem jw_arr1 (C : JC) (S : Sto) {i n : Nat} {f : Nat → Int32} (hs : jsh i = (1, n)) : (jw C S).set i (C.2.1 i, .inl (C.2.2.1, n, .inl f)) = jw C (upA S i f) := by
  have h0 : i ≠ 0 := fun q => by subst q; cases hs
  refine jw_set C S _ (jsh_lt hs (by decide)) ?_ (fun j _ hj => jcell_eq C (upA_ne S f hj).symm (fun x => (rf_upA S i f j x h0).symm))
  rw [jcell_1 C _ hs, upA_same]
theorem jw_arr2 (C : JC) (S : Sto) {i n : Nat} {f : Nat → Int32} (hs : jsh i = (2, n)) : (jw C S).set i (C.2.1 i, .inl (C.2.2.2.1, n, .inl f)) = jw C (upA S i f) := by
  have h0 : i ≠ 0 := fun q => by subst q; cases hs
  refine jw_set C S _ (jsh_lt hs (by decide)) ?_ (fun j _ hj => jcell_eq C (upA_ne S f hj).symm (fun x => (rf_upA S i f j x h0).symm))
  rw [jcell_2 C _ hs, upA_same]
/-- plan and spare are written -/
theorem jw_putp (C : JC) (S : Sto) {k x : Nat} (hk : k = 8 ∨ k = 9) (hx : x < NN) : (jw C S).set 0 (C.2.1 0, .inr (9, ((List.range (nfl 9)).map (jfv C S 9 0)).set k (.ref (C.2.1 x)))) = jw C (up2 S 0 k (nI x)) := by
  have hxn : (nI x).toNatClampNeg = x := nI_clamp (Nat.lt_trans hx (by decide))
  refine jw_set C S _ (by decide) ?_ (fun j _ hj => jcell_eq C (up2_ne S k _ hj).symm (fun y => ?_))
  · rw [jcell_o C _ (show jsh 0 = (0, 9) from rfl)]
    congr 2
    apply List.ext_getElem?
    intro y
    by_cases hy : y = k
    · subst hy
      rw [List.getElem?_set_self (by rcases hk with rfl | rfl <;> simp [nfl]), jfs_at C _ 0 (by rcases hk with rfl | rfl <;> decide)]
      unfold jfv rf
      rcases hk with rfl | rfl <;> simp [isR, up2_same, pk_us, hxn]
    · rw [List.getElem?_set_ne (fun q => hy q.symm)]
      rcases Nat.lt_or_ge y (nfl 9) with q | q
      · rw [jfs_at C _ 0 q, jfs_at C _ 0 q]
        rcases hk with rfl | rfl
        · by_cases h9 : y = 9
          · subst h9
            simp [jfv, rf, up2_same, upd]
          · simp [jfv, rf, up2_same, upd, hy, h9]
        · by_cases h8 : y = 8
          · subst h8
            simp [jfv, rf, up2_same, upd]
          · simp [jfv, rf, up2_same, upd, hy, h8]
      · rw [List.getElem?_eq_none (by simp [q]), List.getElem?_eq_none (by simp [q])]
  · unfold rf
    rw [if_neg hj, if_neg hj]
end
section
/-! the judgement J: from here, with the store S, the machine comes to its end; and what holds all the way -/
abbrev JE : Type := Program × Launch × Env × Room × State × MethodId × Array Value × List Frame × Method × Code × (Nat → Prop) × Nat × Nat × Nat × (State → Prop)
def lvH (ls : Array Slot) (nL : Nat) (lv : List (Option Value)) : Prop := ls.size = nL ∧ lv_wf ls ∧ lv.length ≤ nL ∧ ∀ (k : Nat) (v : Value), lv[k]? = some (some v) → ls[k]? = some (.val v)
def J (C : JC) (E : JE) (S : Sto) (pc : Nat) (lv : List (Option Value)) (st : List Value) : Prop := match E with
  | (p, l, e, R, s, m, args, below, meth, c, A, cells, slots, nL, Q) => ∀ (H : Heap) (locs : List Loc) (ls : Array Slot), va_P C.1 jcls (jw C S) H → va_S A s.heap H locs → lvH ls nL lv → W p l e R s m args below meth c H locs cells slots Q (F0 m pc ls st)
def Jok (l0 : Launch) (C : JC) (E : JE) (own : String) (cc : ByteArray) (d : Nat) : Prop := match E with
  | (p, l, e, R, s, m, args, below, meth, c, A, cells, slots, nL, Q) => l = l0 ∧ p.tables.exec = Jvm.exec ∧ c.code = cc ∧ c.maxLocals = nL ∧ s.vm.findClass own = some m.cls ∧ (∀ w ∈ WT, w.before args s = true) ∧ va_K C.1 jcls (jty C) s ∧ JN s ∧ JInj C ∧ (∀ i, i < NN → A (C.2.1 i)) ∧ d ≤ R.frames ∧ 128 * d ≤ R.locals ∧ cells ≤ R.cells ∧ slots ≤ R.slots
def Jret (C : JC) (E : JE) (cc : ByteArray) (ret : Option FieldType) (v : Option Value) (S' : Sto) : Prop := match E with
  | (p, l, e, R, s, m, args, below, meth, c, A, cells, slots, nL, Q) => (∀ (r : Int32) (ty : FieldType) (H : Heap) (locs : List Loc) (ls : Array Slot) (pc : Nat), ret = some ty → v = some (.int r) → narrow ty (.int r) = .int r → va_P C.1 jcls (jw C S') H → va_S A s.heap H locs → decode cc pc = .ok (.ireturn, 1) → W p l e R s m args below meth c H locs cells slots Q (F0 m pc ls [.int r])) ∧
    (∀ (H : Heap) (locs : List Loc) (ls : Array Slot) (pc : Nat), ret = none → v = none → va_P C.1 jcls (jw C S') H → va_S A s.heap H locs → decode cc pc = .ok (.return_, 1) → W p l e R s m args below meth c H locs cells slots Q (F0 m pc ls []))
def JP (C : JC) (S : Sto) (U : State) : Prop := va_P C.1 jcls (jw C S) U.heap ∧ va_K C.1 jcls (jty C) U ∧ JN U
def JQ (C : JC) (v : Option Value) (S' : Sto) : Array Value → State → Outcome → State → Prop := fun _ st oc t => (oc = .returned v ∧ va_P C.1 jcls (jw C S') t.heap) ∧ va_F (JA C) st t
/-- a method's contract: with these arguments and this store it returns v, and the store is S' -/
def Con (l : Launch) (C : JC) (y : MethodName) (cc : ByteArray) (nL : Nat) (ret : Option FieldType) (d : Nat) (av : List Value) (S : Sto) (v : Option Value) (S' : Sto) : Prop :=
  Met l y (.code y cc nL ret :: WT) ({ frames := d, cells := 0, slots := 0, locals := 128 * d }) (va_Pc av (JP C S)) (JQ C v S') 0 0 (JA C)
def lvOf : List Value → List (Option Value)
  | [] => []
  | v :: vs => if v.category = 2 then some v :: none :: lvOf vs else some v :: lvOf vs
theorem lvOf_args : ∀ (vs : List Value) (i k : Nat) (v : Value), (lvOf vs)[k]? = some (some v) → (i + k, v) ∈ lv_args i vs
  | [], i, k, v, h => by simp [lvOf] at h
  | w :: vs, i, k, v, h => by
    unfold lvOf at h
    unfold lv_args
    by_cases hw : w.category = 2
    · rw [if_pos hw] at h
      match k, h with
      | 0, h =>
        simp at h
        subst h
        simp
      | 1, h => simp at h
      | k + 2, h =>
        simp only [List.getElem?_cons_succ] at h
        have := lvOf_args vs (i + 2) k v h
        rw [if_pos hw]
        rw [show i + (k + 2) = i + 2 + k by omega]
        exact List.mem_cons_of_mem _ this
    · rw [if_neg hw] at h
      have hw1 : w.category = 1 := (lv_cat w).resolve_right hw
      match k, h with
      | 0, h =>
        simp at h
        subst h
        simp
      | k + 1, h =>
        simp only [List.getElem?_cons_succ] at h
        have := lvOf_args vs (i + 1) k v h
        rw [if_neg hw]
        rw [show i + (k + 1) = i + 1 + k by omega]
        exact List.mem_cons_of_mem _ this
theorem rep_none {n k : Nat} {v : Value} (h : (List.replicate n (none : Option Value))[k]? = some (some v)) : False := by
  rw [List.getElem?_replicate] at h
  split at h <;> cases h
theorem con_of {l : Launch} {C : JC} {y : MethodName} {cc : ByteArray} {nL : Nat} {ret : Option FieldType} {d : Nat} {av : List Value} {S : Sto} {v : Option Value} {S' : Sto} (own : String) (k : Nat) (lv0 : List (Option Value)) (hy : plainName y.cls = true) (ho : y.cls = own) (hC : JInj C)
    (hlen : (lg_sl av).length ≤ nL) (hlv : lvOf av ++ List.replicate k none = lv0) (hln : lv0.length ≤ nL) (body : ∀ E, Jok l C E own cc d → Jret C E cc ret v S' → J C E S 0 lv0 []) : Con l C y cc nL ret d av S v S' := by
  refine Met.ofW (cc := cc) (maxL := nL) (ret := ret) hy rfl ?_
  intro p e s m args below meth c s₁ B hml hv
  obtain ⟨rfl, hP, hK, hN⟩ := hv
  have hts := atoms_spec (ws := .code y cc nL ret :: WT) B.pre
  have hown : s.vm.findClass own = some m.cls := by rw [← ho]; exact findClass_of_methodNamed B.named
  have hl := lv_entry av (n := nL) hlen
  rw [lg_entry_eq]
  generalize (lg_sl av ++ List.replicate (nL - (lg_sl av).length) Slot.unset).toArray = ls at hl ⊢
  have hok : Jok l C (p, l, e, (headSpec (.code y cc nL ret :: WT) ({ frames := d, cells := 0, slots := 0, locals := 128 * d })).room, s, m, av.toArray, below, meth, c, JA C, 0, 0, nL, MQ below (JQ C v S') av.toArray s 0 0 (JA C)) own cc d :=
    ⟨rfl, B.exec, B.bytes, hml, hown, fun w hw => hts w (List.mem_cons_of_mem _ hw), hK, hN, hC, fun i hi => ⟨i, hi, rfl⟩, Nat.le_refl _, Nat.le_refl _, Nat.le_refl _, Nat.le_refl _⟩
  have hret : Jret C (p, l, e, (headSpec (.code y cc nL ret :: WT) ({ frames := d, cells := 0, slots := 0, locals := 128 * d })).room, s, m, av.toArray, below, meth, c, JA C, 0, 0, nL, MQ below (JQ C v S') av.toArray s 0 0 (JA C)) cc ret v S' := by
    refine ⟨fun r ty H locs ls pc hr hv hn hP hS hd => ?_, fun H locs ls pc hr hv hP hS hd => ?_⟩
    · subst hv
      exact W.zret (ty := ty) B.exec B.bytes (by rw [B.returns, hr]) hn (fun t ht hW => ⟨⟨rfl, by rw [ht]; exact hP⟩, hS.F ht⟩) hS.2.2 hd B.notSynchronized
    · subst hv
      exact W.vret B.exec B.bytes (by rw [B.returns, hr]) (fun t ht hW => ⟨⟨rfl, by rw [ht]; exact hP⟩, hS.F ht⟩) hS.2.2 hd B.notSynchronized
  refine body _ hok hret s.heap [] ls hP va_S.rf ⟨hl.1, hl.2.1, hln, fun q w hq => ?_⟩
  have hm : (q, w) ∈ lv_args 0 av := by
    rw [← hlv] at hq
    rcases Nat.lt_or_ge q (lvOf av).length with h | h
    · rw [List.getElem?_append_left h] at hq
      have := lvOf_args av 0 q w hq
      rwa [Nat.zero_add] at this
    · rw [List.getElem?_append_right h] at hq
      exact (rep_none hq).elim
  exact hl.2.2 (q, w) hm
section Rows
variable {l : Launch} {C : JC} {E : JE} {own : String} {cc : ByteArray} {d : Nat} {S : Sto} {pc : Nat} {lv : List (Option Value)} {st : List Value}
theorem j_iconst (hE : Jok l C E own cc d) {n : Int} (v : Int32) (hd : decode cc pc = .ok (.iconst n, 1)) (hv : Int32.ofInt n = v) (k : J C E S (pc + 1) lv (.int v :: st)) : J C E S pc lv (st) := by
  obtain ⟨p, l0, e, R, s, m, args, below, meth, c, A, cells, slots, nL, Q⟩ := E
  obtain ⟨rfl, hx, hb, hml, hown, hts, hK, hN, hC, hA, hfr, hlo, hce, hsl⟩ := hE
  intro H locs ls hP hS hv
  exact lv_iconst hx hb hd ‹_› (k H locs ls hP hS hv)
theorem j_bipush (hE : Jok l C E own cc d) {n : Int} (v : Int32) (hd : decode cc pc = .ok (.bipush n, 2)) (hv : (Int8.ofInt n).toInt32 = v) (k : J C E S (pc + 2) lv (.int v :: st)) : J C E S pc lv (st) := by
  obtain ⟨p, l0, e, R, s, m, args, below, meth, c, A, cells, slots, nL, Q⟩ := E
  obtain ⟨rfl, hx, hb, hml, hown, hts, hK, hN, hC, hA, hfr, hlo, hce, hsl⟩ := hE
  intro H locs ls hP hS hv
  exact lv_bipush hx hb hd ‹_› (k H locs ls hP hS hv)
theorem j_sipush (hE : Jok l C E own cc d) {n : Int} (v : Int32) (hd : decode cc pc = .ok (.sipush n, 3)) (hv : (Int16.ofInt n).toInt32 = v) (k : J C E S (pc + 3) lv (.int v :: st)) : J C E S pc lv (st) := by
  obtain ⟨p, l0, e, R, s, m, args, below, meth, c, A, cells, slots, nL, Q⟩ := E
  obtain ⟨rfl, hx, hb, hml, hown, hts, hK, hN, hC, hA, hfr, hlo, hce, hsl⟩ := hE
  intro H locs ls hP hS hv
  exact lv_sipush hx hb hd ‹_› (k H locs ls hP hS hv)
theorem j_lconst (hE : Jok l C E own cc d) {n : Fin 2} (v : Int64) (hd : decode cc pc = .ok (.lconst n, 1)) (hv : Int64.ofNat (n : Nat) = v) (k : J C E S (pc + 1) lv (.long v :: st)) : J C E S pc lv (st) := by
  obtain ⟨p, l0, e, R, s, m, args, below, meth, c, A, cells, slots, nL, Q⟩ := E
  obtain ⟨rfl, hx, hb, hml, hown, hts, hK, hN, hC, hA, hfr, hlo, hce, hsl⟩ := hE
  intro H locs ls hP hS hv
  exact lv_lconst hx hb hd ‹_› (k H locs ls hP hS hv)
theorem j_ldc (hE : Jok l C E own cc d) {i : Nat} {v : Int32} (hd : decode cc pc = .ok (.ldc i, 2)) (hw : Cond.constant own i v ∈ WT) (k : J C E S (pc + 2) lv (.int v :: st)) : J C E S pc lv (st) := by
  obtain ⟨p, l0, e, R, s, m, args, below, meth, c, A, cells, slots, nL, Q⟩ := E
  obtain ⟨rfl, hx, hb, hml, hown, hts, hK, hN, hC, hA, hfr, hlo, hce, hsl⟩ := hE
  intro H locs ls hP hS hv
  exact lv_ldc hx hb hown (hts _ hw) hd (k H locs ls hP hS hv)
theorem j_ldcw (hE : Jok l C E own cc d) {i : Nat} {v : Int32} (hd : decode cc pc = .ok (.ldc_w i, 3)) (hw : Cond.constant own i v ∈ WT) (k : J C E S (pc + 3) lv (.int v :: st)) : J C E S pc lv (st) := by
  obtain ⟨p, l0, e, R, s, m, args, below, meth, c, A, cells, slots, nL, Q⟩ := E
  obtain ⟨rfl, hx, hb, hml, hown, hts, hK, hN, hC, hA, hfr, hlo, hce, hsl⟩ := hE
  intro H locs ls hP hS hv
  exact lv_ldcw hx hb hown (hts _ hw) hd (k H locs ls hP hS hv)
theorem j_ldc2 (hE : Jok l C E own cc d) {i : Nat} {v : Int64} (hd : decode cc pc = .ok (.ldc2_w i, 3)) (hw : Cond.constantLong own i v ∈ WT) (k : J C E S (pc + 3) lv (.long v :: st)) : J C E S pc lv (st) := by
  obtain ⟨p, l0, e, R, s, m, args, below, meth, c, A, cells, slots, nL, Q⟩ := E
  obtain ⟨rfl, hx, hb, hml, hown, hts, hK, hN, hC, hA, hfr, hlo, hce, hsl⟩ := hE
  intro H locs ls hP hS hv
  exact lv_ldc2 hx hb hown (hts _ hw) hd (k H locs ls hP hS hv)
theorem j_iadd (hE : Jok l C E own cc d) {x y : Int32} (hd : decode cc pc = .ok (.iadd, 1)) (k : J C E S (pc + 1) lv (.int (x + y) :: st)) : J C E S pc lv (.int y :: .int x :: st) := by
  obtain ⟨p, l0, e, R, s, m, args, below, meth, c, A, cells, slots, nL, Q⟩ := E
  obtain ⟨rfl, hx, hb, hml, hown, hts, hK, hN, hC, hA, hfr, hlo, hce, hsl⟩ := hE
  intro H locs ls hP hS hv
  exact lv_iadd hx hb hd (k H locs ls hP hS hv)
theorem j_isub (hE : Jok l C E own cc d) {x y : Int32} (hd : decode cc pc = .ok (.isub, 1)) (k : J C E S (pc + 1) lv (.int (x - y) :: st)) : J C E S pc lv (.int y :: .int x :: st) := by
  obtain ⟨p, l0, e, R, s, m, args, below, meth, c, A, cells, slots, nL, Q⟩ := E
  obtain ⟨rfl, hx, hb, hml, hown, hts, hK, hN, hC, hA, hfr, hlo, hce, hsl⟩ := hE
  intro H locs ls hP hS hv
  exact lv_isub hx hb hd (k H locs ls hP hS hv)
theorem j_imul (hE : Jok l C E own cc d) {x y : Int32} (hd : decode cc pc = .ok (.imul, 1)) (k : J C E S (pc + 1) lv (.int (x * y) :: st)) : J C E S pc lv (.int y :: .int x :: st) := by
  obtain ⟨p, l0, e, R, s, m, args, below, meth, c, A, cells, slots, nL, Q⟩ := E
  obtain ⟨rfl, hx, hb, hml, hown, hts, hK, hN, hC, hA, hfr, hlo, hce, hsl⟩ := hE
  intro H locs ls hP hS hv
  exact lv_imul hx hb hd (k H locs ls hP hS hv)
theorem j_iand (hE : Jok l C E own cc d) {x y : Int32} (hd : decode cc pc = .ok (.iand, 1)) (k : J C E S (pc + 1) lv (.int (x &&& y) :: st)) : J C E S pc lv (.int y :: .int x :: st) := by
  obtain ⟨p, l0, e, R, s, m, args, below, meth, c, A, cells, slots, nL, Q⟩ := E
  obtain ⟨rfl, hx, hb, hml, hown, hts, hK, hN, hC, hA, hfr, hlo, hce, hsl⟩ := hE
  intro H locs ls hP hS hv
  exact lv_iand hx hb hd (k H locs ls hP hS hv)
theorem j_ior (hE : Jok l C E own cc d) {x y : Int32} (hd : decode cc pc = .ok (.ior, 1)) (k : J C E S (pc + 1) lv (.int (x ||| y) :: st)) : J C E S pc lv (.int y :: .int x :: st) := by
  obtain ⟨p, l0, e, R, s, m, args, below, meth, c, A, cells, slots, nL, Q⟩ := E
  obtain ⟨rfl, hx, hb, hml, hown, hts, hK, hN, hC, hA, hfr, hlo, hce, hsl⟩ := hE
  intro H locs ls hP hS hv
  exact lv_ior hx hb hd (k H locs ls hP hS hv)
theorem j_ixor (hE : Jok l C E own cc d) {x y : Int32} (hd : decode cc pc = .ok (.ixor, 1)) (k : J C E S (pc + 1) lv (.int (x ^^^ y) :: st)) : J C E S pc lv (.int y :: .int x :: st) := by
  obtain ⟨p, l0, e, R, s, m, args, below, meth, c, A, cells, slots, nL, Q⟩ := E
  obtain ⟨rfl, hx, hb, hml, hown, hts, hK, hN, hC, hA, hfr, hlo, hce, hsl⟩ := hE
  intro H locs ls hP hS hv
  exact lv_ixor hx hb hd (k H locs ls hP hS hv)
theorem j_ishl (hE : Jok l C E own cc d) {x y : Int32} (hd : decode cc pc = .ok (.ishl, 1)) (k : J C E S (pc + 1) lv (.int (x <<< (y &&& 31)) :: st)) : J C E S pc lv (.int y :: .int x :: st) := by
  obtain ⟨p, l0, e, R, s, m, args, below, meth, c, A, cells, slots, nL, Q⟩ := E
  obtain ⟨rfl, hx, hb, hml, hown, hts, hK, hN, hC, hA, hfr, hlo, hce, hsl⟩ := hE
  intro H locs ls hP hS hv
  exact lv_ishl hx hb hd (k H locs ls hP hS hv)
theorem j_ishr (hE : Jok l C E own cc d) {x y : Int32} (hd : decode cc pc = .ok (.ishr, 1)) (k : J C E S (pc + 1) lv (.int (x >>> (y &&& 31)) :: st)) : J C E S pc lv (.int y :: .int x :: st) := by
  obtain ⟨p, l0, e, R, s, m, args, below, meth, c, A, cells, slots, nL, Q⟩ := E
  obtain ⟨rfl, hx, hb, hml, hown, hts, hK, hN, hC, hA, hfr, hlo, hce, hsl⟩ := hE
  intro H locs ls hP hS hv
  exact lv_ishr hx hb hd (k H locs ls hP hS hv)
theorem j_iushr (hE : Jok l C E own cc d) {x y : Int32} (hd : decode cc pc = .ok (.iushr, 1)) (k : J C E S (pc + 1) lv (.int (x.toUInt32 >>> (y.toUInt32 &&& Int32.toUInt32 31)).toInt32 :: st)) : J C E S pc lv (.int y :: .int x :: st) := by
  obtain ⟨p, l0, e, R, s, m, args, below, meth, c, A, cells, slots, nL, Q⟩ := E
  obtain ⟨rfl, hx, hb, hml, hown, hts, hK, hN, hC, hA, hfr, hlo, hce, hsl⟩ := hE
  intro H locs ls hP hS hv
  exact lv_iushr hx hb hd rfl (k H locs ls hP hS hv)
theorem j_idiv (hE : Jok l C E own cc d) {x y : Int32} (hd : decode cc pc = .ok (.idiv, 1)) (hne : ¬ y = 0) (k : J C E S (pc + 1) lv (.int (x / y) :: st)) : J C E S pc lv (.int y :: .int x :: st) := by
  obtain ⟨p, l0, e, R, s, m, args, below, meth, c, A, cells, slots, nL, Q⟩ := E
  obtain ⟨rfl, hx, hb, hml, hown, hts, hK, hN, hC, hA, hfr, hlo, hce, hsl⟩ := hE
  intro H locs ls hP hS hv
  exact lv_idiv hx hb hd hne (k H locs ls hP hS hv)
theorem j_irem (hE : Jok l C E own cc d) {x y : Int32} (hd : decode cc pc = .ok (.irem, 1)) (hne : ¬ y = 0) (k : J C E S (pc + 1) lv (.int (x - x / y * y) :: st)) : J C E S pc lv (.int y :: .int x :: st) := by
  obtain ⟨p, l0, e, R, s, m, args, below, meth, c, A, cells, slots, nL, Q⟩ := E
  obtain ⟨rfl, hx, hb, hml, hown, hts, hK, hN, hC, hA, hfr, hlo, hce, hsl⟩ := hE
  intro H locs ls hP hS hv
  exact lv_irem hx hb hd hne (k H locs ls hP hS hv)
theorem j_ladd (hE : Jok l C E own cc d) {x y : Int64} (hd : decode cc pc = .ok (.ladd, 1)) (k : J C E S (pc + 1) lv (.long (x + y) :: st)) : J C E S pc lv (.long y :: .long x :: st) := by
  obtain ⟨p, l0, e, R, s, m, args, below, meth, c, A, cells, slots, nL, Q⟩ := E
  obtain ⟨rfl, hx, hb, hml, hown, hts, hK, hN, hC, hA, hfr, hlo, hce, hsl⟩ := hE
  intro H locs ls hP hS hv
  exact lv_ladd hx hb hd (k H locs ls hP hS hv)
theorem j_lsub (hE : Jok l C E own cc d) {x y : Int64} (hd : decode cc pc = .ok (.lsub, 1)) (k : J C E S (pc + 1) lv (.long (x - y) :: st)) : J C E S pc lv (.long y :: .long x :: st) := by
  obtain ⟨p, l0, e, R, s, m, args, below, meth, c, A, cells, slots, nL, Q⟩ := E
  obtain ⟨rfl, hx, hb, hml, hown, hts, hK, hN, hC, hA, hfr, hlo, hce, hsl⟩ := hE
  intro H locs ls hP hS hv
  exact lv_lsub hx hb hd (k H locs ls hP hS hv)
theorem j_lmul (hE : Jok l C E own cc d) {x y : Int64} (hd : decode cc pc = .ok (.lmul, 1)) (k : J C E S (pc + 1) lv (.long (x * y) :: st)) : J C E S pc lv (.long y :: .long x :: st) := by
  obtain ⟨p, l0, e, R, s, m, args, below, meth, c, A, cells, slots, nL, Q⟩ := E
  obtain ⟨rfl, hx, hb, hml, hown, hts, hK, hN, hC, hA, hfr, hlo, hce, hsl⟩ := hE
  intro H locs ls hP hS hv
  exact lv_lmul hx hb hd (k H locs ls hP hS hv)
theorem j_ldiv (hE : Jok l C E own cc d) {x y : Int64} (hd : decode cc pc = .ok (.ldiv, 1)) (hne : ¬ y = 0) (k : J C E S (pc + 1) lv (.long (x / y) :: st)) : J C E S pc lv (.long y :: .long x :: st) := by
  obtain ⟨p, l0, e, R, s, m, args, below, meth, c, A, cells, slots, nL, Q⟩ := E
  obtain ⟨rfl, hx, hb, hml, hown, hts, hK, hN, hC, hA, hfr, hlo, hce, hsl⟩ := hE
  intro H locs ls hP hS hv
  exact lv_ldiv hx hb hd hne (k H locs ls hP hS hv)
theorem j_lrem (hE : Jok l C E own cc d) {x y : Int64} (hd : decode cc pc = .ok (.lrem, 1)) (hne : ¬ y = 0) (k : J C E S (pc + 1) lv (.long (x - x / y * y) :: st)) : J C E S pc lv (.long y :: .long x :: st) := by
  obtain ⟨p, l0, e, R, s, m, args, below, meth, c, A, cells, slots, nL, Q⟩ := E
  obtain ⟨rfl, hx, hb, hml, hown, hts, hK, hN, hC, hA, hfr, hlo, hce, hsl⟩ := hE
  intro H locs ls hP hS hv
  exact lv_lrem hx hb hd hne (k H locs ls hP hS hv)
theorem j_lshl (hE : Jok l C E own cc d) {x : Int64} {y : Int32} (hd : decode cc pc = .ok (.lshl, 1)) (k : J C E S (pc + 1) lv (.long (x <<< (y.toInt64 &&& 63)) :: st)) : J C E S pc lv (.int y :: .long x :: st) := by
  obtain ⟨p, l0, e, R, s, m, args, below, meth, c, A, cells, slots, nL, Q⟩ := E
  obtain ⟨rfl, hx, hb, hml, hown, hts, hK, hN, hC, hA, hfr, hlo, hce, hsl⟩ := hE
  intro H locs ls hP hS hv
  exact lv_lshl hx hb hd rfl (k H locs ls hP hS hv)
theorem j_i2l (hE : Jok l C E own cc d) {x : Int32} (hd : decode cc pc = .ok (.i2l, 1)) (k : J C E S (pc + 1) lv (.long x.toInt64 :: st)) : J C E S pc lv (.int x :: st) := by
  obtain ⟨p, l0, e, R, s, m, args, below, meth, c, A, cells, slots, nL, Q⟩ := E
  obtain ⟨rfl, hx, hb, hml, hown, hts, hK, hN, hC, hA, hfr, hlo, hce, hsl⟩ := hE
  intro H locs ls hP hS hv
  exact lv_i2l hx hb hd rfl (k H locs ls hP hS hv)
theorem j_l2i (hE : Jok l C E own cc d) {x : Int64} (hd : decode cc pc = .ok (.l2i, 1)) (k : J C E S (pc + 1) lv (.int x.toInt32 :: st)) : J C E S pc lv (.long x :: st) := by
  obtain ⟨p, l0, e, R, s, m, args, below, meth, c, A, cells, slots, nL, Q⟩ := E
  obtain ⟨rfl, hx, hb, hml, hown, hts, hK, hN, hC, hA, hfr, hlo, hce, hsl⟩ := hE
  intro H locs ls hP hS hv
  exact lv_l2i hx hb hd rfl (k H locs ls hP hS hv)
theorem j_lcmp (hE : Jok l C E own cc d) {x y : Int64} (hd : decode cc pc = .ok (.lcmp, 1)) (k : J C E S (pc + 1) lv (.int (lg_cmp x y) :: st)) : J C E S pc lv (.long y :: .long x :: st) := by
  obtain ⟨p, l0, e, R, s, m, args, below, meth, c, A, cells, slots, nL, Q⟩ := E
  obtain ⟨rfl, hx, hb, hml, hown, hts, hK, hN, hC, hA, hfr, hlo, hce, hsl⟩ := hE
  intro H locs ls hP hS hv
  exact W.lcmp hx hb hd (k H locs ls hP hS hv)
theorem j_dup (hE : Jok l C E own cc d) {a : Value} (hd : decode cc pc = .ok (.dup, 1)) (ha : a.category = 1) (k : J C E S (pc + 1) lv (a :: a :: st)) : J C E S pc lv (a :: st) := by
  obtain ⟨p, l0, e, R, s, m, args, below, meth, c, A, cells, slots, nL, Q⟩ := E
  obtain ⟨rfl, hx, hb, hml, hown, hts, hK, hN, hC, hA, hfr, hlo, hce, hsl⟩ := hE
  intro H locs ls hP hS hv
  exact lv_dup hx hb hd ha (k H locs ls hP hS hv)
theorem j_pop (hE : Jok l C E own cc d) {a : Value} (hd : decode cc pc = .ok (.pop, 1)) (ha : a.category = 1) (k : J C E S (pc + 1) lv (st)) : J C E S pc lv (a :: st) := by
  obtain ⟨p, l0, e, R, s, m, args, below, meth, c, A, cells, slots, nL, Q⟩ := E
  obtain ⟨rfl, hx, hb, hml, hown, hts, hK, hN, hC, hA, hfr, hlo, hce, hsl⟩ := hE
  intro H locs ls hP hS hv
  exact lv_pop hx hb hd ha (k H locs ls hP hS hv)
theorem j_dup_x1 (hE : Jok l C E own cc d) {a b : Value} (hd : decode cc pc = .ok (.dup_x1, 1)) (ha : a.category = 1) (h2 : b.category = 1) (k : J C E S (pc + 1) lv (a :: b :: a :: st)) : J C E S pc lv (a :: b :: st) := by
  obtain ⟨p, l0, e, R, s, m, args, below, meth, c, A, cells, slots, nL, Q⟩ := E
  obtain ⟨rfl, hx, hb, hml, hown, hts, hK, hN, hC, hA, hfr, hlo, hce, hsl⟩ := hE
  intro H locs ls hP hS hv
  exact lv_dup_x1 hx hb hd ha h2 (k H locs ls hP hS hv)
theorem j_dup_x2 (hE : Jok l C E own cc d) {a b c0 : Value} (hd : decode cc pc = .ok (.dup_x2, 1)) (ha : a.category = 1) (h2 : b.category = 1) (h3 : c0.category = 1) (k : J C E S (pc + 1) lv (a :: b :: c0 :: a :: st)) : J C E S pc lv (a :: b :: c0 :: st) := by
  obtain ⟨p, l0, e, R, s, m, args, below, meth, c, A, cells, slots, nL, Q⟩ := E
  obtain ⟨rfl, hx, hb, hml, hown, hts, hK, hN, hC, hA, hfr, hlo, hce, hsl⟩ := hE
  intro H locs ls hP hS hv
  exact lv_dup_x2 hx hb hd ha h2 h3 (k H locs ls hP hS hv)
theorem j_dup2 (hE : Jok l C E own cc d) {a b : Value} (hd : decode cc pc = .ok (.dup2, 1)) (ha : a.category = 1) (h2 : b.category = 1) (k : J C E S (pc + 1) lv (a :: b :: a :: b :: st)) : J C E S pc lv (a :: b :: st) := by
  obtain ⟨p, l0, e, R, s, m, args, below, meth, c, A, cells, slots, nL, Q⟩ := E
  obtain ⟨rfl, hx, hb, hml, hown, hts, hK, hN, hC, hA, hfr, hlo, hce, hsl⟩ := hE
  intro H locs ls hP hS hv
  exact lv_dup2_11 hx hb hd ha h2 (k H locs ls hP hS hv)
theorem j_goto (hE : Jok l C E own cc d) {off : Int} (tgt : Nat) (hd : decode cc pc = .ok (.goto off, 3)) (ht : (pc : Int) + off = (tgt : Int)) (k : J C E S tgt lv st) : J C E S pc lv st := by
  obtain ⟨p, l0, e, R, s, m, args, below, meth, c, A, cells, slots, nL, Q⟩ := E
  obtain ⟨rfl, hx, hb, hml, hown, hts, hK, hN, hC, hA, hfr, hlo, hce, hsl⟩ := hE
  intro H locs ls hP hS hv
  exact lv_goto hx hb hd ht (k H locs ls hP hS hv)
theorem j_ifeq (hE : Jok l C E own cc d) {x : Int32} {off : Int} (tgt : Nat) (hd : decode cc pc = .ok (.ifCond .eq off, 3)) (ht : (pc : Int) + off = (tgt : Int)) (kt : x = 0 → J C E S tgt lv st) (kf : ¬ x = 0 → J C E S (pc + 3) lv st) : J C E S pc lv (.int x :: st) := by
  obtain ⟨p, l0, e, R, s, m, args, below, meth, c, A, cells, slots, nL, Q⟩ := E
  obtain ⟨rfl, hx, hb, hml, hown, hts, hK, hN, hC, hA, hfr, hlo, hce, hsl⟩ := hE
  intro H locs ls hP hS hv
  exact lv_if_eq hx hb hd ht (fun q => kt q H locs ls hP hS hv) (fun q => kf q H locs ls hP hS hv)
theorem j_ifne (hE : Jok l C E own cc d) {x : Int32} {off : Int} (tgt : Nat) (hd : decode cc pc = .ok (.ifCond .ne off, 3)) (ht : (pc : Int) + off = (tgt : Int)) (kt : ¬ x = 0 → J C E S tgt lv st) (kf : x = 0 → J C E S (pc + 3) lv st) : J C E S pc lv (.int x :: st) := by
  obtain ⟨p, l0, e, R, s, m, args, below, meth, c, A, cells, slots, nL, Q⟩ := E
  obtain ⟨rfl, hx, hb, hml, hown, hts, hK, hN, hC, hA, hfr, hlo, hce, hsl⟩ := hE
  intro H locs ls hP hS hv
  exact lv_if_ne hx hb hd ht (fun q => kt q H locs ls hP hS hv) (fun q => kf q H locs ls hP hS hv)
theorem j_iflt (hE : Jok l C E own cc d) {x : Int32} {off : Int} (tgt : Nat) (hd : decode cc pc = .ok (.ifCond .lt off, 3)) (ht : (pc : Int) + off = (tgt : Int)) (kt : x < 0 → J C E S tgt lv st) (kf : ¬ x < 0 → J C E S (pc + 3) lv st) : J C E S pc lv (.int x :: st) := by
  obtain ⟨p, l0, e, R, s, m, args, below, meth, c, A, cells, slots, nL, Q⟩ := E
  obtain ⟨rfl, hx, hb, hml, hown, hts, hK, hN, hC, hA, hfr, hlo, hce, hsl⟩ := hE
  intro H locs ls hP hS hv
  exact lv_if_lt hx hb hd ht (fun q => kt q H locs ls hP hS hv) (fun q => kf q H locs ls hP hS hv)
theorem j_ifge (hE : Jok l C E own cc d) {x : Int32} {off : Int} (tgt : Nat) (hd : decode cc pc = .ok (.ifCond .ge off, 3)) (ht : (pc : Int) + off = (tgt : Int)) (kt : 0 ≤ x → J C E S tgt lv st) (kf : ¬ 0 ≤ x → J C E S (pc + 3) lv st) : J C E S pc lv (.int x :: st) := by
  obtain ⟨p, l0, e, R, s, m, args, below, meth, c, A, cells, slots, nL, Q⟩ := E
  obtain ⟨rfl, hx, hb, hml, hown, hts, hK, hN, hC, hA, hfr, hlo, hce, hsl⟩ := hE
  intro H locs ls hP hS hv
  exact lv_if_ge hx hb hd ht (fun q => kt q H locs ls hP hS hv) (fun q => kf q H locs ls hP hS hv)
theorem j_ifgt (hE : Jok l C E own cc d) {x : Int32} {off : Int} (tgt : Nat) (hd : decode cc pc = .ok (.ifCond .gt off, 3)) (ht : (pc : Int) + off = (tgt : Int)) (kt : 0 < x → J C E S tgt lv st) (kf : ¬ 0 < x → J C E S (pc + 3) lv st) : J C E S pc lv (.int x :: st) := by
  obtain ⟨p, l0, e, R, s, m, args, below, meth, c, A, cells, slots, nL, Q⟩ := E
  obtain ⟨rfl, hx, hb, hml, hown, hts, hK, hN, hC, hA, hfr, hlo, hce, hsl⟩ := hE
  intro H locs ls hP hS hv
  exact lv_if_gt hx hb hd ht (fun q => kt q H locs ls hP hS hv) (fun q => kf q H locs ls hP hS hv)
theorem j_ifle (hE : Jok l C E own cc d) {x : Int32} {off : Int} (tgt : Nat) (hd : decode cc pc = .ok (.ifCond .le off, 3)) (ht : (pc : Int) + off = (tgt : Int)) (kt : x ≤ 0 → J C E S tgt lv st) (kf : ¬ x ≤ 0 → J C E S (pc + 3) lv st) : J C E S pc lv (.int x :: st) := by
  obtain ⟨p, l0, e, R, s, m, args, below, meth, c, A, cells, slots, nL, Q⟩ := E
  obtain ⟨rfl, hx, hb, hml, hown, hts, hK, hN, hC, hA, hfr, hlo, hce, hsl⟩ := hE
  intro H locs ls hP hS hv
  exact lv_if_le hx hb hd ht (fun q => kt q H locs ls hP hS hv) (fun q => kf q H locs ls hP hS hv)
theorem j_icmpeq (hE : Jok l C E own cc d) {x y : Int32} {off : Int} (tgt : Nat) (hd : decode cc pc = .ok (.if_icmp .eq off, 3)) (ht : (pc : Int) + off = (tgt : Int)) (kt : x = y → J C E S tgt lv st) (kf : ¬ x = y → J C E S (pc + 3) lv st) : J C E S pc lv (.int y :: .int x :: st) := by
  obtain ⟨p, l0, e, R, s, m, args, below, meth, c, A, cells, slots, nL, Q⟩ := E
  obtain ⟨rfl, hx, hb, hml, hown, hts, hK, hN, hC, hA, hfr, hlo, hce, hsl⟩ := hE
  intro H locs ls hP hS hv
  exact lv_icmp_eq hx hb hd ht (fun q => kt q H locs ls hP hS hv) (fun q => kf q H locs ls hP hS hv)
theorem j_icmpne (hE : Jok l C E own cc d) {x y : Int32} {off : Int} (tgt : Nat) (hd : decode cc pc = .ok (.if_icmp .ne off, 3)) (ht : (pc : Int) + off = (tgt : Int)) (kt : ¬ x = y → J C E S tgt lv st) (kf : x = y → J C E S (pc + 3) lv st) : J C E S pc lv (.int y :: .int x :: st) := by
  obtain ⟨p, l0, e, R, s, m, args, below, meth, c, A, cells, slots, nL, Q⟩ := E
  obtain ⟨rfl, hx, hb, hml, hown, hts, hK, hN, hC, hA, hfr, hlo, hce, hsl⟩ := hE
  intro H locs ls hP hS hv
  exact lv_icmp_ne hx hb hd ht (fun q => kt q H locs ls hP hS hv) (fun q => kf q H locs ls hP hS hv)
theorem j_icmplt (hE : Jok l C E own cc d) {x y : Int32} {off : Int} (tgt : Nat) (hd : decode cc pc = .ok (.if_icmp .lt off, 3)) (ht : (pc : Int) + off = (tgt : Int)) (kt : x < y → J C E S tgt lv st) (kf : ¬ x < y → J C E S (pc + 3) lv st) : J C E S pc lv (.int y :: .int x :: st) := by
  obtain ⟨p, l0, e, R, s, m, args, below, meth, c, A, cells, slots, nL, Q⟩ := E
  obtain ⟨rfl, hx, hb, hml, hown, hts, hK, hN, hC, hA, hfr, hlo, hce, hsl⟩ := hE
  intro H locs ls hP hS hv
  exact lv_icmp_lt hx hb hd ht (fun q => kt q H locs ls hP hS hv) (fun q => kf q H locs ls hP hS hv)
theorem j_icmpge (hE : Jok l C E own cc d) {x y : Int32} {off : Int} (tgt : Nat) (hd : decode cc pc = .ok (.if_icmp .ge off, 3)) (ht : (pc : Int) + off = (tgt : Int)) (kt : y ≤ x → J C E S tgt lv st) (kf : ¬ y ≤ x → J C E S (pc + 3) lv st) : J C E S pc lv (.int y :: .int x :: st) := by
  obtain ⟨p, l0, e, R, s, m, args, below, meth, c, A, cells, slots, nL, Q⟩ := E
  obtain ⟨rfl, hx, hb, hml, hown, hts, hK, hN, hC, hA, hfr, hlo, hce, hsl⟩ := hE
  intro H locs ls hP hS hv
  exact lv_icmp_ge hx hb hd ht (fun q => kt q H locs ls hP hS hv) (fun q => kf q H locs ls hP hS hv)
theorem j_icmpgt (hE : Jok l C E own cc d) {x y : Int32} {off : Int} (tgt : Nat) (hd : decode cc pc = .ok (.if_icmp .gt off, 3)) (ht : (pc : Int) + off = (tgt : Int)) (kt : y < x → J C E S tgt lv st) (kf : ¬ y < x → J C E S (pc + 3) lv st) : J C E S pc lv (.int y :: .int x :: st) := by
  obtain ⟨p, l0, e, R, s, m, args, below, meth, c, A, cells, slots, nL, Q⟩ := E
  obtain ⟨rfl, hx, hb, hml, hown, hts, hK, hN, hC, hA, hfr, hlo, hce, hsl⟩ := hE
  intro H locs ls hP hS hv
  exact lv_icmp_gt hx hb hd ht (fun q => kt q H locs ls hP hS hv) (fun q => kf q H locs ls hP hS hv)
theorem j_icmple (hE : Jok l C E own cc d) {x y : Int32} {off : Int} (tgt : Nat) (hd : decode cc pc = .ok (.if_icmp .le off, 3)) (ht : (pc : Int) + off = (tgt : Int)) (kt : x ≤ y → J C E S tgt lv st) (kf : ¬ x ≤ y → J C E S (pc + 3) lv st) : J C E S pc lv (.int y :: .int x :: st) := by
  obtain ⟨p, l0, e, R, s, m, args, below, meth, c, A, cells, slots, nL, Q⟩ := E
  obtain ⟨rfl, hx, hb, hml, hown, hts, hK, hN, hC, hA, hfr, hlo, hce, hsl⟩ := hE
  intro H locs ls hP hS hv
  exact lv_icmp_le hx hb hd ht (fun q => kt q H locs ls hP hS hv) (fun q => kf q H locs ls hP hS hv)
theorem j_tabIn (hE : Jok l C E own cc d) {dflt lo hi : Int} {offs : Array Int} {len : Nat} {x : Int32} {off : Int} (tgt : Nat) (hd : decode cc pc = .ok (.tableswitch dflt lo hi offs, len)) (h1 : ¬ x.toInt < lo) (h2 : ¬ hi < x.toInt) (ho : offs[(x.toInt - lo).toNat]? = some off) (ht : (pc : Int) + off = (tgt : Int)) (k : J C E S tgt lv st) : J C E S pc lv (.int x :: st) := by
  obtain ⟨p, l0, e, R, s, m, args, below, meth, c, A, cells, slots, nL, Q⟩ := E
  obtain ⟨rfl, hx, hb, hml, hown, hts, hK, hN, hC, hA, hfr, hlo, hce, hsl⟩ := hE
  intro H locs ls hP hS hv
  exact lv_tableIn hx hb hd h1 h2 ho ht (k H locs ls hP hS hv)
theorem j_tabOut (hE : Jok l C E own cc d) {dflt lo hi : Int} {offs : Array Int} {len : Nat} {x : Int32} (tgt : Nat) (hd : decode cc pc = .ok (.tableswitch dflt lo hi offs, len)) (h : x.toInt < lo ∨ hi < x.toInt) (ht : (pc : Int) + dflt = (tgt : Int)) (k : J C E S tgt lv st) : J C E S pc lv (.int x :: st) := by
  obtain ⟨p, l0, e, R, s, m, args, below, meth, c, A, cells, slots, nL, Q⟩ := E
  obtain ⟨rfl, hx, hb, hml, hown, hts, hK, hN, hC, hA, hfr, hlo, hce, hsl⟩ := hE
  intro H locs ls hP hS hv
  exact lv_tableOut hx hb hd h ht (k H locs ls hP hS hv)
theorem j_look (hE : Jok l C E own cc d) {dflt : Int} {ps : Array (Int × Int)} {len : Nat} {x : Int32} {off : Int} (tgt : Nat) (hd : decode cc pc = .ok (.lookupswitch dflt ps, len)) (hp : (ps.toList.zip (ps.toList.drop 1)).all (fun (a, next) => a.1 < next.1) = true) (ho : Op.lookupswitch.offset ps.toList dflt x.toInt = off) (ht : (pc : Int) + off = (tgt : Int)) (k : J C E S tgt lv st) : J C E S pc lv (.int x :: st) := by
  obtain ⟨p, l0, e, R, s, m, args, below, meth, c, A, cells, slots, nL, Q⟩ := E
  obtain ⟨rfl, hx, hb, hml, hown, hts, hK, hN, hC, hA, hfr, hlo, hce, hsl⟩ := hE
  intro H locs ls hP hS hv
  exact lv_lookup hx hb hd hp ho ht (k H locs ls hP hS hv)
theorem j_iload_g (hE : Jok l C E own cc d) {i : Nat} {x : Int32} (hd : decode cc pc = .ok (.iload i, 2)) (hi : lv[i]? = some (some (.int x))) (k : J C E S (pc + 2) lv (.int x :: st)) : J C E S pc lv (st) := by
  obtain ⟨p, l0, e, R, s, m, args, below, meth, c, A, cells, slots, nL, Q⟩ := E
  obtain ⟨rfl, hx, hb, hml, hown, hts, hK, hN, hC, hA, hfr, hlo, hce, hsl⟩ := hE
  intro H locs ls hP hS hv
  exact lv_iload hx hb hd (hv.2.2.2 _ _ hi) (k H locs ls hP hS hv)
theorem j_iload_n (hE : Jok l C E own cc d) {i : Fin 4} {x : Int32} (hd : decode cc pc = .ok (.iload_n i, 1)) (hi : lv[(i : Nat)]? = some (some (.int x))) (k : J C E S (pc + 1) lv (.int x :: st)) : J C E S pc lv (st) := by
  obtain ⟨p, l0, e, R, s, m, args, below, meth, c, A, cells, slots, nL, Q⟩ := E
  obtain ⟨rfl, hx, hb, hml, hown, hts, hK, hN, hC, hA, hfr, hlo, hce, hsl⟩ := hE
  intro H locs ls hP hS hv
  exact lv_iload_n hx hb hd rfl (hv.2.2.2 _ _ hi) (k H locs ls hP hS hv)
theorem j_aload_g (hE : Jok l C E own cc d) {i : Nat} {x : Nat} (hd : decode cc pc = .ok (.aload i, 2)) (hi : lv[i]? = some (some (.ref x))) (k : J C E S (pc + 2) lv (.ref x :: st)) : J C E S pc lv (st) := by
  obtain ⟨p, l0, e, R, s, m, args, below, meth, c, A, cells, slots, nL, Q⟩ := E
  obtain ⟨rfl, hx, hb, hml, hown, hts, hK, hN, hC, hA, hfr, hlo, hce, hsl⟩ := hE
  intro H locs ls hP hS hv
  exact lv_aload hx hb hd (hv.2.2.2 _ _ hi) (k H locs ls hP hS hv)
theorem j_aload_n (hE : Jok l C E own cc d) {i : Fin 4} {x : Nat} (hd : decode cc pc = .ok (.aload_n i, 1)) (hi : lv[(i : Nat)]? = some (some (.ref x))) (k : J C E S (pc + 1) lv (.ref x :: st)) : J C E S pc lv (st) := by
  obtain ⟨p, l0, e, R, s, m, args, below, meth, c, A, cells, slots, nL, Q⟩ := E
  obtain ⟨rfl, hx, hb, hml, hown, hts, hK, hN, hC, hA, hfr, hlo, hce, hsl⟩ := hE
  intro H locs ls hP hS hv
  exact lv_aload_n hx hb hd rfl (hv.2.2.2 _ _ hi) (k H locs ls hP hS hv)
theorem j_lload_g (hE : Jok l C E own cc d) {i : Nat} {x : Int64} (hd : decode cc pc = .ok (.lload i, 2)) (hi : lv[i]? = some (some (.long x))) (k : J C E S (pc + 2) lv (.long x :: st)) : J C E S pc lv (st) := by
  obtain ⟨p, l0, e, R, s, m, args, below, meth, c, A, cells, slots, nL, Q⟩ := E
  obtain ⟨rfl, hx, hb, hml, hown, hts, hK, hN, hC, hA, hfr, hlo, hce, hsl⟩ := hE
  intro H locs ls hP hS hv
  exact lv_lload hx hb hd (hv.2.2.2 _ _ hi) (k H locs ls hP hS hv)
theorem j_lload_n (hE : Jok l C E own cc d) {i : Fin 4} {x : Int64} (hd : decode cc pc = .ok (.lload_n i, 1)) (hi : lv[(i : Nat)]? = some (some (.long x))) (k : J C E S (pc + 1) lv (.long x :: st)) : J C E S pc lv (st) := by
  obtain ⟨p, l0, e, R, s, m, args, below, meth, c, A, cells, slots, nL, Q⟩ := E
  obtain ⟨rfl, hx, hb, hml, hown, hts, hK, hN, hC, hA, hfr, hlo, hce, hsl⟩ := hE
  intro H locs ls hP hS hv
  exact lv_lload_n hx hb hd rfl (hv.2.2.2 _ _ hi) (k H locs ls hP hS hv)
theorem lvH_has {ls : Array Slot} {nL : Nat} {lv : List (Option Value)} (h : lvH ls nL lv) : lv_has ls nL ((List.range lv.length).filterMap (fun k => (lv[k]?.join).map (fun v => (k, v)))) := by
  refine ⟨h.1, h.2.1, fun q hq => ?_⟩
  obtain ⟨k, -, hk⟩ := List.mem_filterMap.mp hq
  cases hj : lv[k]?.join with
  | none => rw [hj] at hk; cases hk
  | some v =>
    rw [hj] at hk
    cases hk
    exact h.2.2.2 k v (by
      cases hz : lv[k]? with
      | none => rw [hz] at hj; cases hj
      | some z => rw [hz] at hj; rw [show z = some v from hj])
theorem lvH_in {lv : List (Option Value)} {k : Nat} {v : Value} (h : lv[k]? = some (some v)) : (k, v) ∈ (List.range lv.length).filterMap (fun k => (lv[k]?.join).map (fun v => (k, v))) := by
  refine List.mem_filterMap.mpr ⟨k, List.mem_range.mpr (List.getElem?_eq_some_iff.mp h).1, ?_⟩
  rw [h]
  rfl
/-- no long stands just before place i -/
def ok1 (lv : List (Option Value)) : Nat → Bool
  | 0 => true
  | j + 1 => match lv[j]? with
    | some (some v) => v.category == 1
    | _ => true
theorem lvH_set {ls ls' : Array Slot} {nL i : Nat} {lv : List (Option Value)} {v : Value} (h : lvH ls nL lv) (hi : i < lv.length) (ho : ok1 lv i = true) (h' : lv_has ls' nL ((i, v) :: ((List.range lv.length).filterMap (fun k => (lv[k]?.join).map (fun v => (k, v)))).filter (fun q => !(q.1 == i) && !(q.1 + 1 == i && q.2.category == 2)))) : lvH ls' nL (lv.set i (some v)) := by
  refine ⟨h'.1, h'.2.1, by rw [List.length_set]; exact h.2.2.1, fun k w hk => ?_⟩
  by_cases hki : k = i
  · subst hki
    rw [List.getElem?_set_self hi] at hk
    cases hk
    exact h'.2.2 (k, v) List.mem_cons_self
  · rw [List.getElem?_set_ne (fun q => hki q.symm)] at hk
    refine h'.2.2 (k, w) (List.mem_cons_of_mem _ (List.mem_filter.mpr ⟨lvH_in hk, ?_⟩))
    simp only [Bool.and_eq_true, Bool.not_eq_true', beq_eq_false_iff_ne, ne_eq, Bool.and_eq_false_iff]
    refine ⟨hki, ?_⟩
    by_cases h1 : k + 1 = i
    · subst h1
      right
      have : w.category = 1 := by simpa [ok1, hk] using ho
      omega
    · exact Or.inl h1
theorem lvH_set2 {ls ls' : Array Slot} {nL i : Nat} {lv : List (Option Value)} {v : Value} (h : lvH ls nL lv) (hi : i + 1 < lv.length) (ho : ok1 lv i = true) (h' : lv_has ls' nL ((i, v) :: ((List.range lv.length).filterMap (fun k => (lv[k]?.join).map (fun v => (k, v)))).filter (fun q => !(q.1 == i) && (!(q.1 == i + 1) && !(q.1 + 1 == i && q.2.category == 2))))) : lvH ls' nL ((lv.set i (some v)).set (i + 1) none) := by
  refine ⟨h'.1, h'.2.1, by rw [List.length_set, List.length_set]; exact h.2.2.1, fun k w hk => ?_⟩
  by_cases hk1 : k = i + 1
  · subst hk1
    rw [List.getElem?_set_self (by rw [List.length_set]; exact hi)] at hk
    cases hk
  rw [List.getElem?_set_ne (fun q => hk1 q.symm)] at hk
  by_cases hki : k = i
  · subst hki
    rw [List.getElem?_set_self (by omega)] at hk
    cases hk
    exact h'.2.2 (k, v) List.mem_cons_self
  · rw [List.getElem?_set_ne (fun q => hki q.symm)] at hk
    refine h'.2.2 (k, w) (List.mem_cons_of_mem _ (List.mem_filter.mpr ⟨lvH_in hk, ?_⟩))
    simp only [Bool.and_eq_true, Bool.not_eq_true', beq_eq_false_iff_ne, ne_eq, Bool.and_eq_false_iff]
    refine ⟨hki, hk1, ?_⟩
    by_cases h1 : k + 1 = i
    · subst h1
      right
      have : w.category = 1 := by simpa [ok1, hk] using ho
      omega
    · exact Or.inl h1
theorem j_istore_g (hE : Jok l C E own cc d) {i : Nat} {x : Int32} (hd : decode cc pc = .ok (.istore i, 2)) (hi : i < lv.length) (ho : ok1 lv i = true) (k : J C E S (pc + 2) (lv.set i (some (.int x))) st) : J C E S pc lv (.int x :: st) := by
  obtain ⟨p, l0, e, R, s, m, args, below, meth, c, A, cells, slots, nL, Q⟩ := E
  obtain ⟨rfl, hx, hb, hml, hown, hts, hK, hN, hC, hA, hfr, hlo, hce, hsl⟩ := hE
  intro H locs ls hP hS hv
  exact lv_istore hx hb hd (lvH_has hv) (Nat.lt_of_lt_of_le hi hv.2.2.1) rfl (fun ls' hl => k H locs ls' hP hS (lvH_set hv hi ho hl))
theorem j_istore_n (hE : Jok l C E own cc d) {i : Fin 4} {x : Int32} (hd : decode cc pc = .ok (.istore_n i, 1)) (hi : (i : Nat) < lv.length) (ho : ok1 lv (i : Nat) = true) (k : J C E S (pc + 1) (lv.set (i : Nat) (some (.int x))) st) : J C E S pc lv (.int x :: st) := by
  obtain ⟨p, l0, e, R, s, m, args, below, meth, c, A, cells, slots, nL, Q⟩ := E
  obtain ⟨rfl, hx, hb, hml, hown, hts, hK, hN, hC, hA, hfr, hlo, hce, hsl⟩ := hE
  intro H locs ls hP hS hv
  exact lv_istore_n hx hb hd rfl (lvH_has hv) (Nat.lt_of_lt_of_le hi hv.2.2.1) rfl (fun ls' hl => k H locs ls' hP hS (lvH_set hv hi ho hl))
theorem j_astore_g (hE : Jok l C E own cc d) {i : Nat} {x : Nat} (hd : decode cc pc = .ok (.astore i, 2)) (hi : i < lv.length) (ho : ok1 lv i = true) (k : J C E S (pc + 2) (lv.set i (some (.ref x))) st) : J C E S pc lv (.ref x :: st) := by
  obtain ⟨p, l0, e, R, s, m, args, below, meth, c, A, cells, slots, nL, Q⟩ := E
  obtain ⟨rfl, hx, hb, hml, hown, hts, hK, hN, hC, hA, hfr, hlo, hce, hsl⟩ := hE
  intro H locs ls hP hS hv
  exact lv_astore hx hb hd (lvH_has hv) (Nat.lt_of_lt_of_le hi hv.2.2.1) rfl (fun ls' hl => k H locs ls' hP hS (lvH_set hv hi ho hl))
theorem j_astore_n (hE : Jok l C E own cc d) {i : Fin 4} {x : Nat} (hd : decode cc pc = .ok (.astore_n i, 1)) (hi : (i : Nat) < lv.length) (ho : ok1 lv (i : Nat) = true) (k : J C E S (pc + 1) (lv.set (i : Nat) (some (.ref x))) st) : J C E S pc lv (.ref x :: st) := by
  obtain ⟨p, l0, e, R, s, m, args, below, meth, c, A, cells, slots, nL, Q⟩ := E
  obtain ⟨rfl, hx, hb, hml, hown, hts, hK, hN, hC, hA, hfr, hlo, hce, hsl⟩ := hE
  intro H locs ls hP hS hv
  exact lv_astore_n hx hb hd rfl (lvH_has hv) (Nat.lt_of_lt_of_le hi hv.2.2.1) rfl (fun ls' hl => k H locs ls' hP hS (lvH_set hv hi ho hl))
theorem j_lstore_g (hE : Jok l C E own cc d) {i : Nat} {x : Int64} (hd : decode cc pc = .ok (.lstore i, 2)) (hi : i + 1 < lv.length) (ho : ok1 lv i = true) (k : J C E S (pc + 2) ((lv.set i (some (.long x))).set (i + 1) none) st) : J C E S pc lv (.long x :: st) := by
  obtain ⟨p, l0, e, R, s, m, args, below, meth, c, A, cells, slots, nL, Q⟩ := E
  obtain ⟨rfl, hx, hb, hml, hown, hts, hK, hN, hC, hA, hfr, hlo, hce, hsl⟩ := hE
  intro H locs ls hP hS hv
  exact lv_lstore hx hb hd (lvH_has hv) (Nat.lt_of_lt_of_le hi hv.2.2.1) rfl (fun ls' hl => k H locs ls' hP hS (lvH_set2 hv hi ho hl))
theorem j_lstore_n (hE : Jok l C E own cc d) {i : Fin 4} {x : Int64} (hd : decode cc pc = .ok (.lstore_n i, 1)) (hi : (i : Nat) + 1 < lv.length) (ho : ok1 lv (i : Nat) = true) (k : J C E S (pc + 1) ((lv.set (i : Nat) (some (.long x))).set ((i : Nat) + 1) none) st) : J C E S pc lv (.long x :: st) := by
  obtain ⟨p, l0, e, R, s, m, args, below, meth, c, A, cells, slots, nL, Q⟩ := E
  obtain ⟨rfl, hx, hb, hml, hown, hts, hK, hN, hC, hA, hfr, hlo, hce, hsl⟩ := hE
  intro H locs ls hP hS hv
  exact lv_lstore_n hx hb hd rfl (lvH_has hv) (Nat.lt_of_lt_of_le hi hv.2.2.1) rfl (fun ls' hl => k H locs ls' hP hS (lvH_set2 hv hi ho hl))
theorem j_iinc_g (hE : Jok l C E own cc d) {i : Nat} {n : Int} {x : Int32} (v : Int32) (hd : decode cc pc = .ok (.iinc i n, 3)) (hl : lv[i]? = some (some (.int x))) (hv : x + Int32.ofInt n = v) (ho : ok1 lv i = true) (k : J C E S (pc + 3) (lv.set i (some (.int v))) st) : J C E S pc lv st := by
  obtain ⟨p, l0, e, R, s, m, args, below, meth, c, A, cells, slots, nL, Q⟩ := E
  obtain ⟨rfl, hx, hb, hml, hown, hts, hK, hN, hC, hA, hfr, hlo, hce, hsl⟩ := hE
  intro H locs ls hP hS hvv
  obtain ⟨q, hq⟩ := List.getElem?_of_mem (lvH_in hl)
  have hi : i < lv.length := (List.getElem?_eq_some_iff.mp hl).1
  exact lv_iinc hx hb hd (lvH_has hvv) hq hv (Nat.lt_of_lt_of_le hi hvv.2.2.1) rfl (fun ls' hl' => k H locs ls' hP hS (lvH_set hvv hi ho hl'))
theorem j_iload0 (hE : Jok l C E own cc d) {r : List (Option Value)} {x : Int32} (hd : decode cc pc = .ok (.iload_n 0, 1)) (k : J C E S (pc + 1) (some (.int x) :: r) (.int x :: st)) : J C E S pc (some (.int x) :: r) st := j_iload_n hE hd rfl k
theorem j_aload0 (hE : Jok l C E own cc d) {r : List (Option Value)} {x : Nat} (hd : decode cc pc = .ok (.aload_n 0, 1)) (k : J C E S (pc + 1) (some (.ref x) :: r) (.ref x :: st)) : J C E S pc (some (.ref x) :: r) st := j_aload_n hE hd rfl k
theorem j_lload0 (hE : Jok l C E own cc d) {r : List (Option Value)} {x : Int64} (hd : decode cc pc = .ok (.lload_n 0, 1)) (k : J C E S (pc + 1) (some (.long x) :: r) (.long x :: st)) : J C E S pc (some (.long x) :: r) st := j_lload_n hE hd rfl k
theorem j_istore0 (hE : Jok l C E own cc d) {b : Option Value} {r : List (Option Value)} {x : Int32} (hd : decode cc pc = .ok (.istore_n 0, 1)) (k : J C E S (pc + 1) (some (.int x) :: r) st) : J C E S pc (b :: r) (.int x :: st) := j_istore_n hE hd (by show 0 < _; simp only [List.length_cons]; omega) rfl k
theorem j_astore0 (hE : Jok l C E own cc d) {b : Option Value} {r : List (Option Value)} {x : Nat} (hd : decode cc pc = .ok (.astore_n 0, 1)) (k : J C E S (pc + 1) (some (.ref x) :: r) st) : J C E S pc (b :: r) (.ref x :: st) := j_astore_n hE hd (by show 0 < _; simp only [List.length_cons]; omega) rfl k
theorem j_iinc0 (hE : Jok l C E own cc d) {r : List (Option Value)} {n : Int} {x : Int32} (v : Int32) (hd : decode cc pc = .ok (.iinc 0 n, 3)) (hv : x + Int32.ofInt n = v) (k : J C E S (pc + 3) (some (.int v) :: r) st) : J C E S pc (some (.int x) :: r) st := j_iinc_g hE v hd rfl hv rfl k
theorem j_iload1 (hE : Jok l C E own cc d) {a0 : Option Value} {r : List (Option Value)} {x : Int32} (hd : decode cc pc = .ok (.iload_n 1, 1)) (k : J C E S (pc + 1) (a0 :: some (.int x) :: r) (.int x :: st)) : J C E S pc (a0 :: some (.int x) :: r) st := j_iload_n hE hd rfl k
theorem j_aload1 (hE : Jok l C E own cc d) {a0 : Option Value} {r : List (Option Value)} {x : Nat} (hd : decode cc pc = .ok (.aload_n 1, 1)) (k : J C E S (pc + 1) (a0 :: some (.ref x) :: r) (.ref x :: st)) : J C E S pc (a0 :: some (.ref x) :: r) st := j_aload_n hE hd rfl k
theorem j_lload1 (hE : Jok l C E own cc d) {a0 : Option Value} {r : List (Option Value)} {x : Int64} (hd : decode cc pc = .ok (.lload_n 1, 1)) (k : J C E S (pc + 1) (a0 :: some (.long x) :: r) (.long x :: st)) : J C E S pc (a0 :: some (.long x) :: r) st := j_lload_n hE hd rfl k
theorem j_istore1 (hE : Jok l C E own cc d) {a0 : Option Value} {b : Option Value} {r : List (Option Value)} {x : Int32} (hd : decode cc pc = .ok (.istore_n 1, 1)) (ho : ok1 (a0 :: b :: r) 1 = true) (k : J C E S (pc + 1) (a0 :: some (.int x) :: r) st) : J C E S pc (a0 :: b :: r) (.int x :: st) := j_istore_n hE hd (by show 1 < _; simp only [List.length_cons]; omega) ho k
theorem j_astore1 (hE : Jok l C E own cc d) {a0 : Option Value} {b : Option Value} {r : List (Option Value)} {x : Nat} (hd : decode cc pc = .ok (.astore_n 1, 1)) (ho : ok1 (a0 :: b :: r) 1 = true) (k : J C E S (pc + 1) (a0 :: some (.ref x) :: r) st) : J C E S pc (a0 :: b :: r) (.ref x :: st) := j_astore_n hE hd (by show 1 < _; simp only [List.length_cons]; omega) ho k
theorem j_iinc1 (hE : Jok l C E own cc d) {a0 : Option Value} {r : List (Option Value)} {n : Int} {x : Int32} (v : Int32) (hd : decode cc pc = .ok (.iinc 1 n, 3)) (hv : x + Int32.ofInt n = v) (ho : ok1 (a0 :: some (.int x) :: r) 1 = true) (k : J C E S (pc + 3) (a0 :: some (.int v) :: r) st) : J C E S pc (a0 :: some (.int x) :: r) st := j_iinc_g hE v hd rfl hv ho k
theorem j_iload2 (hE : Jok l C E own cc d) {a0 a1 : Option Value} {r : List (Option Value)} {x : Int32} (hd : decode cc pc = .ok (.iload_n 2, 1)) (k : J C E S (pc + 1) (a0 :: a1 :: some (.int x) :: r) (.int x :: st)) : J C E S pc (a0 :: a1 :: some (.int x) :: r) st := j_iload_n hE hd rfl k
theorem j_aload2 (hE : Jok l C E own cc d) {a0 a1 : Option Value} {r : List (Option Value)} {x : Nat} (hd : decode cc pc = .ok (.aload_n 2, 1)) (k : J C E S (pc + 1) (a0 :: a1 :: some (.ref x) :: r) (.ref x :: st)) : J C E S pc (a0 :: a1 :: some (.ref x) :: r) st := j_aload_n hE hd rfl k
theorem j_lload2 (hE : Jok l C E own cc d) {a0 a1 : Option Value} {r : List (Option Value)} {x : Int64} (hd : decode cc pc = .ok (.lload_n 2, 1)) (k : J C E S (pc + 1) (a0 :: a1 :: some (.long x) :: r) (.long x :: st)) : J C E S pc (a0 :: a1 :: some (.long x) :: r) st := j_lload_n hE hd rfl k
theorem j_istore2 (hE : Jok l C E own cc d) {a0 a1 : Option Value} {b : Option Value} {r : List (Option Value)} {x : Int32} (hd : decode cc pc = .ok (.istore_n 2, 1)) (ho : ok1 (a0 :: a1 :: b :: r) 2 = true) (k : J C E S (pc + 1) (a0 :: a1 :: some (.int x) :: r) st) : J C E S pc (a0 :: a1 :: b :: r) (.int x :: st) := j_istore_n hE hd (by show 2 < _; simp only [List.length_cons]; omega) ho k
theorem j_astore2 (hE : Jok l C E own cc d) {a0 a1 : Option Value} {b : Option Value} {r : List (Option Value)} {x : Nat} (hd : decode cc pc = .ok (.astore_n 2, 1)) (ho : ok1 (a0 :: a1 :: b :: r) 2 = true) (k : J C E S (pc + 1) (a0 :: a1 :: some (.ref x) :: r) st) : J C E S pc (a0 :: a1 :: b :: r) (.ref x :: st) := j_astore_n hE hd (by show 2 < _; simp only [List.length_cons]; omega) ho k
theorem j_iinc2 (hE : Jok l C E own cc d) {a0 a1 : Option Value} {r : List (Option Value)} {n : Int} {x : Int32} (v : Int32) (hd : decode cc pc = .ok (.iinc 2 n, 3)) (hv : x + Int32.ofInt n = v) (ho : ok1 (a0 :: a1 :: some (.int x) :: r) 2 = true) (k : J C E S (pc + 3) (a0 :: a1 :: some (.int v) :: r) st) : J C E S pc (a0 :: a1 :: some (.int x) :: r) st := j_iinc_g hE v hd rfl hv ho k
theorem j_iload3 (hE : Jok l C E own cc d) {a0 a1 a2 : Option Value} {r : List (Option Value)} {x : Int32} (hd : decode cc pc = .ok (.iload_n 3, 1)) (k : J C E S (pc + 1) (a0 :: a1 :: a2 :: some (.int x) :: r) (.int x :: st)) : J C E S pc (a0 :: a1 :: a2 :: some (.int x) :: r) st := j_iload_n hE hd rfl k
theorem j_aload3 (hE : Jok l C E own cc d) {a0 a1 a2 : Option Value} {r : List (Option Value)} {x : Nat} (hd : decode cc pc = .ok (.aload_n 3, 1)) (k : J C E S (pc + 1) (a0 :: a1 :: a2 :: some (.ref x) :: r) (.ref x :: st)) : J C E S pc (a0 :: a1 :: a2 :: some (.ref x) :: r) st := j_aload_n hE hd rfl k
theorem j_lload3 (hE : Jok l C E own cc d) {a0 a1 a2 : Option Value} {r : List (Option Value)} {x : Int64} (hd : decode cc pc = .ok (.lload_n 3, 1)) (k : J C E S (pc + 1) (a0 :: a1 :: a2 :: some (.long x) :: r) (.long x :: st)) : J C E S pc (a0 :: a1 :: a2 :: some (.long x) :: r) st := j_lload_n hE hd rfl k
theorem j_istore3 (hE : Jok l C E own cc d) {a0 a1 a2 : Option Value} {b : Option Value} {r : List (Option Value)} {x : Int32} (hd : decode cc pc = .ok (.istore_n 3, 1)) (ho : ok1 (a0 :: a1 :: a2 :: b :: r) 3 = true) (k : J C E S (pc + 1) (a0 :: a1 :: a2 :: some (.int x) :: r) st) : J C E S pc (a0 :: a1 :: a2 :: b :: r) (.int x :: st) := j_istore_n hE hd (by show 3 < _; simp only [List.length_cons]; omega) ho k
theorem j_astore3 (hE : Jok l C E own cc d) {a0 a1 a2 : Option Value} {b : Option Value} {r : List (Option Value)} {x : Nat} (hd : decode cc pc = .ok (.astore_n 3, 1)) (ho : ok1 (a0 :: a1 :: a2 :: b :: r) 3 = true) (k : J C E S (pc + 1) (a0 :: a1 :: a2 :: some (.ref x) :: r) st) : J C E S pc (a0 :: a1 :: a2 :: b :: r) (.ref x :: st) := j_astore_n hE hd (by show 3 < _; simp only [List.length_cons]; omega) ho k
theorem j_iinc3 (hE : Jok l C E own cc d) {a0 a1 a2 : Option Value} {r : List (Option Value)} {n : Int} {x : Int32} (v : Int32) (hd : decode cc pc = .ok (.iinc 3 n, 3)) (hv : x + Int32.ofInt n = v) (ho : ok1 (a0 :: a1 :: a2 :: some (.int x) :: r) 3 = true) (k : J C E S (pc + 3) (a0 :: a1 :: a2 :: some (.int v) :: r) st) : J C E S pc (a0 :: a1 :: a2 :: some (.int x) :: r) st := j_iinc_g hE v hd rfl hv ho k
theorem j_iload4 (hE : Jok l C E own cc d) {a0 a1 a2 a3 : Option Value} {r : List (Option Value)} {x : Int32} (hd : decode cc pc = .ok (.iload 4, 2)) (k : J C E S (pc + 2) (a0 :: a1 :: a2 :: a3 :: some (.int x) :: r) (.int x :: st)) : J C E S pc (a0 :: a1 :: a2 :: a3 :: some (.int x) :: r) st := j_iload_g hE hd rfl k
theorem j_aload4 (hE : Jok l C E own cc d) {a0 a1 a2 a3 : Option Value} {r : List (Option Value)} {x : Nat} (hd : decode cc pc = .ok (.aload 4, 2)) (k : J C E S (pc + 2) (a0 :: a1 :: a2 :: a3 :: some (.ref x) :: r) (.ref x :: st)) : J C E S pc (a0 :: a1 :: a2 :: a3 :: some (.ref x) :: r) st := j_aload_g hE hd rfl k
theorem j_lload4 (hE : Jok l C E own cc d) {a0 a1 a2 a3 : Option Value} {r : List (Option Value)} {x : Int64} (hd : decode cc pc = .ok (.lload 4, 2)) (k : J C E S (pc + 2) (a0 :: a1 :: a2 :: a3 :: some (.long x) :: r) (.long x :: st)) : J C E S pc (a0 :: a1 :: a2 :: a3 :: some (.long x) :: r) st := j_lload_g hE hd rfl k
theorem j_istore4 (hE : Jok l C E own cc d) {a0 a1 a2 a3 : Option Value} {b : Option Value} {r : List (Option Value)} {x : Int32} (hd : decode cc pc = .ok (.istore 4, 2)) (ho : ok1 (a0 :: a1 :: a2 :: a3 :: b :: r) 4 = true) (k : J C E S (pc + 2) (a0 :: a1 :: a2 :: a3 :: some (.int x) :: r) st) : J C E S pc (a0 :: a1 :: a2 :: a3 :: b :: r) (.int x :: st) := j_istore_g hE hd (by show 4 < _; simp only [List.length_cons]; omega) ho k
theorem j_astore4 (hE : Jok l C E own cc d) {a0 a1 a2 a3 : Option Value} {b : Option Value} {r : List (Option Value)} {x : Nat} (hd : decode cc pc = .ok (.astore 4, 2)) (ho : ok1 (a0 :: a1 :: a2 :: a3 :: b :: r) 4 = true) (k : J C E S (pc + 2) (a0 :: a1 :: a2 :: a3 :: some (.ref x) :: r) st) : J C E S pc (a0 :: a1 :: a2 :: a3 :: b :: r) (.ref x :: st) := j_astore_g hE hd (by show 4 < _; simp only [List.length_cons]; omega) ho k
theorem j_iinc4 (hE : Jok l C E own cc d) {a0 a1 a2 a3 : Option Value} {r : List (Option Value)} {n : Int} {x : Int32} (v : Int32) (hd : decode cc pc = .ok (.iinc 4 n, 3)) (hv : x + Int32.ofInt n = v) (ho : ok1 (a0 :: a1 :: a2 :: a3 :: some (.int x) :: r) 4 = true) (k : J C E S (pc + 3) (a0 :: a1 :: a2 :: a3 :: some (.int v) :: r) st) : J C E S pc (a0 :: a1 :: a2 :: a3 :: some (.int x) :: r) st := j_iinc_g hE v hd rfl hv ho k
theorem j_iload5 (hE : Jok l C E own cc d) {a0 a1 a2 a3 a4 : Option Value} {r : List (Option Value)} {x : Int32} (hd : decode cc pc = .ok (.iload 5, 2)) (k : J C E S (pc + 2) (a0 :: a1 :: a2 :: a3 :: a4 :: some (.int x) :: r) (.int x :: st)) : J C E S pc (a0 :: a1 :: a2 :: a3 :: a4 :: some (.int x) :: r) st := j_iload_g hE hd rfl k
theorem j_aload5 (hE : Jok l C E own cc d) {a0 a1 a2 a3 a4 : Option Value} {r : List (Option Value)} {x : Nat} (hd : decode cc pc = .ok (.aload 5, 2)) (k : J C E S (pc + 2) (a0 :: a1 :: a2 :: a3 :: a4 :: some (.ref x) :: r) (.ref x :: st)) : J C E S pc (a0 :: a1 :: a2 :: a3 :: a4 :: some (.ref x) :: r) st := j_aload_g hE hd rfl k
theorem j_lload5 (hE : Jok l C E own cc d) {a0 a1 a2 a3 a4 : Option Value} {r : List (Option Value)} {x : Int64} (hd : decode cc pc = .ok (.lload 5, 2)) (k : J C E S (pc + 2) (a0 :: a1 :: a2 :: a3 :: a4 :: some (.long x) :: r) (.long x :: st)) : J C E S pc (a0 :: a1 :: a2 :: a3 :: a4 :: some (.long x) :: r) st := j_lload_g hE hd rfl k
theorem j_istore5 (hE : Jok l C E own cc d) {a0 a1 a2 a3 a4 : Option Value} {b : Option Value} {r : List (Option Value)} {x : Int32} (hd : decode cc pc = .ok (.istore 5, 2)) (ho : ok1 (a0 :: a1 :: a2 :: a3 :: a4 :: b :: r) 5 = true) (k : J C E S (pc + 2) (a0 :: a1 :: a2 :: a3 :: a4 :: some (.int x) :: r) st) : J C E S pc (a0 :: a1 :: a2 :: a3 :: a4 :: b :: r) (.int x :: st) := j_istore_g hE hd (by show 5 < _; simp only [List.length_cons]; omega) ho k
theorem j_astore5 (hE : Jok l C E own cc d) {a0 a1 a2 a3 a4 : Option Value} {b : Option Value} {r : List (Option Value)} {x : Nat} (hd : decode cc pc = .ok (.astore 5, 2)) (ho : ok1 (a0 :: a1 :: a2 :: a3 :: a4 :: b :: r) 5 = true) (k : J C E S (pc + 2) (a0 :: a1 :: a2 :: a3 :: a4 :: some (.ref x) :: r) st) : J C E S pc (a0 :: a1 :: a2 :: a3 :: a4 :: b :: r) (.ref x :: st) := j_astore_g hE hd (by show 5 < _; simp only [List.length_cons]; omega) ho k
theorem j_iinc5 (hE : Jok l C E own cc d) {a0 a1 a2 a3 a4 : Option Value} {r : List (Option Value)} {n : Int} {x : Int32} (v : Int32) (hd : decode cc pc = .ok (.iinc 5 n, 3)) (hv : x + Int32.ofInt n = v) (ho : ok1 (a0 :: a1 :: a2 :: a3 :: a4 :: some (.int x) :: r) 5 = true) (k : J C E S (pc + 3) (a0 :: a1 :: a2 :: a3 :: a4 :: some (.int v) :: r) st) : J C E S pc (a0 :: a1 :: a2 :: a3 :: a4 :: some (.int x) :: r) st := j_iinc_g hE v hd rfl hv ho k
theorem j_iload6 (hE : Jok l C E own cc d) {a0 a1 a2 a3 a4 a5 : Option Value} {r : List (Option Value)} {x : Int32} (hd : decode cc pc = .ok (.iload 6, 2)) (k : J C E S (pc + 2) (a0 :: a1 :: a2 :: a3 :: a4 :: a5 :: some (.int x) :: r) (.int x :: st)) : J C E S pc (a0 :: a1 :: a2 :: a3 :: a4 :: a5 :: some (.int x) :: r) st := j_iload_g hE hd rfl k
theorem j_aload6 (hE : Jok l C E own cc d) {a0 a1 a2 a3 a4 a5 : Option Value} {r : List (Option Value)} {x : Nat} (hd : decode cc pc = .ok (.aload 6, 2)) (k : J C E S (pc + 2) (a0 :: a1 :: a2 :: a3 :: a4 :: a5 :: some (.ref x) :: r) (.ref x :: st)) : J C E S pc (a0 :: a1 :: a2 :: a3 :: a4 :: a5 :: some (.ref x) :: r) st := j_aload_g hE hd rfl k
theorem j_lload6 (hE : Jok l C E own cc d) {a0 a1 a2 a3 a4 a5 : Option Value} {r : List (Option Value)} {x : Int64} (hd : decode cc pc = .ok (.lload 6, 2)) (k : J C E S (pc + 2) (a0 :: a1 :: a2 :: a3 :: a4 :: a5 :: some (.long x) :: r) (.long x :: st)) : J C E S pc (a0 :: a1 :: a2 :: a3 :: a4 :: a5 :: some (.long x) :: r) st := j_lload_g hE hd rfl k
theorem j_istore6 (hE : Jok l C E own cc d) {a0 a1 a2 a3 a4 a5 : Option Value} {b : Option Value} {r : List (Option Value)} {x : Int32} (hd : decode cc pc = .ok (.istore 6, 2)) (ho : ok1 (a0 :: a1 :: a2 :: a3 :: a4 :: a5 :: b :: r) 6 = true) (k : J C E S (pc + 2) (a0 :: a1 :: a2 :: a3 :: a4 :: a5 :: some (.int x) :: r) st) : J C E S pc (a0 :: a1 :: a2 :: a3 :: a4 :: a5 :: b :: r) (.int x :: st) := j_istore_g hE hd (by show 6 < _; simp only [List.length_cons]; omega) ho k
theorem j_astore6 (hE : Jok l C E own cc d) {a0 a1 a2 a3 a4 a5 : Option Value} {b : Option Value} {r : List (Option Value)} {x : Nat} (hd : decode cc pc = .ok (.astore 6, 2)) (ho : ok1 (a0 :: a1 :: a2 :: a3 :: a4 :: a5 :: b :: r) 6 = true) (k : J C E S (pc + 2) (a0 :: a1 :: a2 :: a3 :: a4 :: a5 :: some (.ref x) :: r) st) : J C E S pc (a0 :: a1 :: a2 :: a3 :: a4 :: a5 :: b :: r) (.ref x :: st) := j_astore_g hE hd (by show 6 < _; simp only [List.length_cons]; omega) ho k
theorem j_iinc6 (hE : Jok l C E own cc d) {a0 a1 a2 a3 a4 a5 : Option Value} {r : List (Option Value)} {n : Int} {x : Int32} (v : Int32) (hd : decode cc pc = .ok (.iinc 6 n, 3)) (hv : x + Int32.ofInt n = v) (ho : ok1 (a0 :: a1 :: a2 :: a3 :: a4 :: a5 :: some (.int x) :: r) 6 = true) (k : J C E S (pc + 3) (a0 :: a1 :: a2 :: a3 :: a4 :: a5 :: some (.int v) :: r) st) : J C E S pc (a0 :: a1 :: a2 :: a3 :: a4 :: a5 :: some (.int x) :: r) st := j_iinc_g hE v hd rfl hv ho k
theorem j_iload7 (hE : Jok l C E own cc d) {a0 a1 a2 a3 a4 a5 a6 : Option Value} {r : List (Option Value)} {x : Int32} (hd : decode cc pc = .ok (.iload 7, 2)) (k : J C E S (pc + 2) (a0 :: a1 :: a2 :: a3 :: a4 :: a5 :: a6 :: some (.int x) :: r) (.int x :: st)) : J C E S pc (a0 :: a1 :: a2 :: a3 :: a4 :: a5 :: a6 :: some (.int x) :: r) st := j_iload_g hE hd rfl k
theorem j_aload7 (hE : Jok l C E own cc d) {a0 a1 a2 a3 a4 a5 a6 : Option Value} {r : List (Option Value)} {x : Nat} (hd : decode cc pc = .ok (.aload 7, 2)) (k : J C E S (pc + 2) (a0 :: a1 :: a2 :: a3 :: a4 :: a5 :: a6 :: some (.ref x) :: r) (.ref x :: st)) : J C E S pc (a0 :: a1 :: a2 :: a3 :: a4 :: a5 :: a6 :: some (.ref x) :: r) st := j_aload_g hE hd rfl k
theorem j_lload7 (hE : Jok l C E own cc d) {a0 a1 a2 a3 a4 a5 a6 : Option Value} {r : List (Option Value)} {x : Int64} (hd : decode cc pc = .ok (.lload 7, 2)) (k : J C E S (pc + 2) (a0 :: a1 :: a2 :: a3 :: a4 :: a5 :: a6 :: some (.long x) :: r) (.long x :: st)) : J C E S pc (a0 :: a1 :: a2 :: a3 :: a4 :: a5 :: a6 :: some (.long x) :: r) st := j_lload_g hE hd rfl k
theorem j_istore7 (hE : Jok l C E own cc d) {a0 a1 a2 a3 a4 a5 a6 : Option Value} {b : Option Value} {r : List (Option Value)} {x : Int32} (hd : decode cc pc = .ok (.istore 7, 2)) (ho : ok1 (a0 :: a1 :: a2 :: a3 :: a4 :: a5 :: a6 :: b :: r) 7 = true) (k : J C E S (pc + 2) (a0 :: a1 :: a2 :: a3 :: a4 :: a5 :: a6 :: some (.int x) :: r) st) : J C E S pc (a0 :: a1 :: a2 :: a3 :: a4 :: a5 :: a6 :: b :: r) (.int x :: st) := j_istore_g hE hd (by show 7 < _; simp only [List.length_cons]; omega) ho k
theorem j_astore7 (hE : Jok l C E own cc d) {a0 a1 a2 a3 a4 a5 a6 : Option Value} {b : Option Value} {r : List (Option Value)} {x : Nat} (hd : decode cc pc = .ok (.astore 7, 2)) (ho : ok1 (a0 :: a1 :: a2 :: a3 :: a4 :: a5 :: a6 :: b :: r) 7 = true) (k : J C E S (pc + 2) (a0 :: a1 :: a2 :: a3 :: a4 :: a5 :: a6 :: some (.ref x) :: r) st) : J C E S pc (a0 :: a1 :: a2 :: a3 :: a4 :: a5 :: a6 :: b :: r) (.ref x :: st) := j_astore_g hE hd (by show 7 < _; simp only [List.length_cons]; omega) ho k
theorem j_iinc7 (hE : Jok l C E own cc d) {a0 a1 a2 a3 a4 a5 a6 : Option Value} {r : List (Option Value)} {n : Int} {x : Int32} (v : Int32) (hd : decode cc pc = .ok (.iinc 7 n, 3)) (hv : x + Int32.ofInt n = v) (ho : ok1 (a0 :: a1 :: a2 :: a3 :: a4 :: a5 :: a6 :: some (.int x) :: r) 7 = true) (k : J C E S (pc + 3) (a0 :: a1 :: a2 :: a3 :: a4 :: a5 :: a6 :: some (.int v) :: r) st) : J C E S pc (a0 :: a1 :: a2 :: a3 :: a4 :: a5 :: a6 :: some (.int x) :: r) st := j_iinc_g hE v hd rfl hv ho k
theorem j_iload8 (hE : Jok l C E own cc d) {a0 a1 a2 a3 a4 a5 a6 a7 : Option Value} {r : List (Option Value)} {x : Int32} (hd : decode cc pc = .ok (.iload 8, 2)) (k : J C E S (pc + 2) (a0 :: a1 :: a2 :: a3 :: a4 :: a5 :: a6 :: a7 :: some (.int x) :: r) (.int x :: st)) : J C E S pc (a0 :: a1 :: a2 :: a3 :: a4 :: a5 :: a6 :: a7 :: some (.int x) :: r) st := j_iload_g hE hd rfl k
theorem j_aload8 (hE : Jok l C E own cc d) {a0 a1 a2 a3 a4 a5 a6 a7 : Option Value} {r : List (Option Value)} {x : Nat} (hd : decode cc pc = .ok (.aload 8, 2)) (k : J C E S (pc + 2) (a0 :: a1 :: a2 :: a3 :: a4 :: a5 :: a6 :: a7 :: some (.ref x) :: r) (.ref x :: st)) : J C E S pc (a0 :: a1 :: a2 :: a3 :: a4 :: a5 :: a6 :: a7 :: some (.ref x) :: r) st := j_aload_g hE hd rfl k
theorem j_lload8 (hE : Jok l C E own cc d) {a0 a1 a2 a3 a4 a5 a6 a7 : Option Value} {r : List (Option Value)} {x : Int64} (hd : decode cc pc = .ok (.lload 8, 2)) (k : J C E S (pc + 2) (a0 :: a1 :: a2 :: a3 :: a4 :: a5 :: a6 :: a7 :: some (.long x) :: r) (.long x :: st)) : J C E S pc (a0 :: a1 :: a2 :: a3 :: a4 :: a5 :: a6 :: a7 :: some (.long x) :: r) st := j_lload_g hE hd rfl k
theorem j_istore8 (hE : Jok l C E own cc d) {a0 a1 a2 a3 a4 a5 a6 a7 : Option Value} {b : Option Value} {r : List (Option Value)} {x : Int32} (hd : decode cc pc = .ok (.istore 8, 2)) (ho : ok1 (a0 :: a1 :: a2 :: a3 :: a4 :: a5 :: a6 :: a7 :: b :: r) 8 = true) (k : J C E S (pc + 2) (a0 :: a1 :: a2 :: a3 :: a4 :: a5 :: a6 :: a7 :: some (.int x) :: r) st) : J C E S pc (a0 :: a1 :: a2 :: a3 :: a4 :: a5 :: a6 :: a7 :: b :: r) (.int x :: st) := j_istore_g hE hd (by show 8 < _; simp only [List.length_cons]; omega) ho k
theorem j_astore8 (hE : Jok l C E own cc d) {a0 a1 a2 a3 a4 a5 a6 a7 : Option Value} {b : Option Value} {r : List (Option Value)} {x : Nat} (hd : decode cc pc = .ok (.astore 8, 2)) (ho : ok1 (a0 :: a1 :: a2 :: a3 :: a4 :: a5 :: a6 :: a7 :: b :: r) 8 = true) (k : J C E S (pc + 2) (a0 :: a1 :: a2 :: a3 :: a4 :: a5 :: a6 :: a7 :: some (.ref x) :: r) st) : J C E S pc (a0 :: a1 :: a2 :: a3 :: a4 :: a5 :: a6 :: a7 :: b :: r) (.ref x :: st) := j_astore_g hE hd (by show 8 < _; simp only [List.length_cons]; omega) ho k
theorem j_iinc8 (hE : Jok l C E own cc d) {a0 a1 a2 a3 a4 a5 a6 a7 : Option Value} {r : List (Option Value)} {n : Int} {x : Int32} (v : Int32) (hd : decode cc pc = .ok (.iinc 8 n, 3)) (hv : x + Int32.ofInt n = v) (ho : ok1 (a0 :: a1 :: a2 :: a3 :: a4 :: a5 :: a6 :: a7 :: some (.int x) :: r) 8 = true) (k : J C E S (pc + 3) (a0 :: a1 :: a2 :: a3 :: a4 :: a5 :: a6 :: a7 :: some (.int v) :: r) st) : J C E S pc (a0 :: a1 :: a2 :: a3 :: a4 :: a5 :: a6 :: a7 :: some (.int x) :: r) st := j_iinc_g hE v hd rfl hv ho k
theorem j_iload9 (hE : Jok l C E own cc d) {a0 a1 a2 a3 a4 a5 a6 a7 a8 : Option Value} {r : List (Option Value)} {x : Int32} (hd : decode cc pc = .ok (.iload 9, 2)) (k : J C E S (pc + 2) (a0 :: a1 :: a2 :: a3 :: a4 :: a5 :: a6 :: a7 :: a8 :: some (.int x) :: r) (.int x :: st)) : J C E S pc (a0 :: a1 :: a2 :: a3 :: a4 :: a5 :: a6 :: a7 :: a8 :: some (.int x) :: r) st := j_iload_g hE hd rfl k
theorem j_aload9 (hE : Jok l C E own cc d) {a0 a1 a2 a3 a4 a5 a6 a7 a8 : Option Value} {r : List (Option Value)} {x : Nat} (hd : decode cc pc = .ok (.aload 9, 2)) (k : J C E S (pc + 2) (a0 :: a1 :: a2 :: a3 :: a4 :: a5 :: a6 :: a7 :: a8 :: some (.ref x) :: r) (.ref x :: st)) : J C E S pc (a0 :: a1 :: a2 :: a3 :: a4 :: a5 :: a6 :: a7 :: a8 :: some (.ref x) :: r) st := j_aload_g hE hd rfl k
theorem j_lload9 (hE : Jok l C E own cc d) {a0 a1 a2 a3 a4 a5 a6 a7 a8 : Option Value} {r : List (Option Value)} {x : Int64} (hd : decode cc pc = .ok (.lload 9, 2)) (k : J C E S (pc + 2) (a0 :: a1 :: a2 :: a3 :: a4 :: a5 :: a6 :: a7 :: a8 :: some (.long x) :: r) (.long x :: st)) : J C E S pc (a0 :: a1 :: a2 :: a3 :: a4 :: a5 :: a6 :: a7 :: a8 :: some (.long x) :: r) st := j_lload_g hE hd rfl k
theorem j_istore9 (hE : Jok l C E own cc d) {a0 a1 a2 a3 a4 a5 a6 a7 a8 : Option Value} {b : Option Value} {r : List (Option Value)} {x : Int32} (hd : decode cc pc = .ok (.istore 9, 2)) (ho : ok1 (a0 :: a1 :: a2 :: a3 :: a4 :: a5 :: a6 :: a7 :: a8 :: b :: r) 9 = true) (k : J C E S (pc + 2) (a0 :: a1 :: a2 :: a3 :: a4 :: a5 :: a6 :: a7 :: a8 :: some (.int x) :: r) st) : J C E S pc (a0 :: a1 :: a2 :: a3 :: a4 :: a5 :: a6 :: a7 :: a8 :: b :: r) (.int x :: st) := j_istore_g hE hd (by show 9 < _; simp only [List.length_cons]; omega) ho k
theorem j_astore9 (hE : Jok l C E own cc d) {a0 a1 a2 a3 a4 a5 a6 a7 a8 : Option Value} {b : Option Value} {r : List (Option Value)} {x : Nat} (hd : decode cc pc = .ok (.astore 9, 2)) (ho : ok1 (a0 :: a1 :: a2 :: a3 :: a4 :: a5 :: a6 :: a7 :: a8 :: b :: r) 9 = true) (k : J C E S (pc + 2) (a0 :: a1 :: a2 :: a3 :: a4 :: a5 :: a6 :: a7 :: a8 :: some (.ref x) :: r) st) : J C E S pc (a0 :: a1 :: a2 :: a3 :: a4 :: a5 :: a6 :: a7 :: a8 :: b :: r) (.ref x :: st) := j_astore_g hE hd (by show 9 < _; simp only [List.length_cons]; omega) ho k
theorem j_iinc9 (hE : Jok l C E own cc d) {a0 a1 a2 a3 a4 a5 a6 a7 a8 : Option Value} {r : List (Option Value)} {n : Int} {x : Int32} (v : Int32) (hd : decode cc pc = .ok (.iinc 9 n, 3)) (hv : x + Int32.ofInt n = v) (ho : ok1 (a0 :: a1 :: a2 :: a3 :: a4 :: a5 :: a6 :: a7 :: a8 :: some (.int x) :: r) 9 = true) (k : J C E S (pc + 3) (a0 :: a1 :: a2 :: a3 :: a4 :: a5 :: a6 :: a7 :: a8 :: some (.int v) :: r) st) : J C E S pc (a0 :: a1 :: a2 :: a3 :: a4 :: a5 :: a6 :: a7 :: a8 :: some (.int x) :: r) st := j_iinc_g hE v hd rfl hv ho k
end Rows
end
section
/-! class facts by number -/
theorem wt_self {c' : Cond} (h : c' ∈ WT) : GoodIn WT (c' :: WT) := fun w hw => by
  rcases List.mem_cons.mp hw with rfl | hw
  · exact ⟨h, good_of_word (List.mem_filter.mp h).2⟩
  · exact ⟨hw, good_of_word (List.mem_filter.mp hw).2⟩
abbrev jtyX : List (Nat → FieldType) := [tyX0, tyX1, tyX2, tyX3, tyX4, tyX6, tyX7, tyX8, tyX9, tyX10, tyX11]
def jT (ci : Nat) : vw_C := jcls.getD ci ("", TX0, 0)
theorem jT_lt {ci : Nat} (h : ci < 11) : jcls[ci]? = some (jT ci) := by
  match ci, h with
  | 0, _ => rfl
  | 1, _ => rfl
  | 2, _ => rfl
  | 3, _ => rfl
  | 4, _ => rfl
  | 5, _ => rfl
  | 6, _ => rfl
  | 7, _ => rfl
  | 8, _ => rfl
  | 9, _ => rfl
  | 10, _ => rfl
  | ci + 11, h => omega
theorem jT_in {ci : Nat} (h : ci < 11) : ∀ w ∈ u_ws (jT ci).1 (jT ci).2.1 (jT ci).2.2, w ∈ WT := by
  match ci, h with
  | 0, _ => exact jin0
  | 1, _ => exact jin1
  | 2, _ => exact jin2
  | 3, _ => exact jin3
  | 4, _ => exact jin4
  | 5, _ => exact jin6
  | 6, _ => exact jin7
  | 7, _ => exact jin8
  | 8, _ => exact jin9
  | 9, _ => exact jin10
  | 10, _ => exact jin11
  | ci + 11, h => omega
theorem jT_ty {ci : Nat} (h : ci < 11) : ∀ k, k < (jT ci).2.2 → parseFieldDescriptor ((jT ci).2.1 k).2.2.1 = some ((jtyX.getD ci tyX0) k) := by
  match ci, h with
  | 0, _ => exact tyX0_ok
  | 1, _ => exact tyX1_ok
  | 2, _ => exact tyX2_ok
  | 3, _ => exact tyX3_ok
  | 4, _ => exact tyX4_ok
  | 5, _ => exact tyX6_ok
  | 6, _ => exact tyX7_ok
  | 7, _ => exact tyX8_ok
  | 8, _ => exact tyX9_ok
  | 9, _ => exact tyX10_ok
  | 10, _ => exact tyX11_ok
  | ci + 11, h => omega
theorem jT_nm {ci : Nat} (h : ci < 11) : ∀ a, a < (jT ci).2.2 → ∀ b, b < (jT ci).2.2 → a ≠ b → ((jT ci).2.1 a).2.1 ≠ ((jT ci).2.1 b).2.1 := by
  match ci, h with
  | 0, _ => exact nmX0
  | 1, _ => exact nmX1
  | 2, _ => exact nmX2
  | 3, _ => exact nmX3
  | 4, _ => exact nmX4
  | 5, _ => exact nmX6
  | 6, _ => exact nmX7
  | 7, _ => exact nmX8
  | 8, _ => exact nmX9
  | 9, _ => exact nmX10
  | 10, _ => exact nmX11
  | ci + 11, h => omega
theorem jT_nf {ci : Nat} (h : ci < 11) : (jT ci).2.2 = nfl ci := by
  match ci, h with
  | 0, _ => rfl
  | 1, _ => rfl
  | 2, _ => rfl
  | 3, _ => rfl
  | 4, _ => rfl
  | 5, _ => rfl
  | 6, _ => rfl
  | 7, _ => rfl
  | 8, _ => rfl
  | 9, _ => rfl
  | 10, _ => rfl
  | ci + 11, h => omega
/-- a field that class own reads or writes by its constant idx: field k of class ci; a reference or not; final or not -/
def FL (own : String) (idx ci k : Nat) (r : Bool) : Prop := ci < 11 ∧ k < nfl ci ∧ isR ci k = r ∧ Cond.fieldLink own idx ((jT ci).2.1 k).1 ((jT ci).2.1 k).2.1 ((jT ci).2.1 k).2.2.1 ∈ WT
/-- a field that may be written: of ints (or booleans: ty) -/
def FP (own : String) (idx ci k : Nat) (ty : FieldType) : Prop := FL own idx ci k false ∧ ((jT ci).2.1 k).2.2.2 = false ∧ parseFieldDescriptor ((jT ci).2.1 k).2.2.1 = some ty
def CB (y : MethodName) (bytes : ByteArray) (nL : Nat) (ret : Option FieldType) (n : Nat) : Prop := Cond.code y bytes nL ret ∈ WT ∧ Cond.initialized y.cls ∈ WT ∧ (y.cls ≠ "java/lang/invoke/MethodHandle" ∧ y.cls ≠ "java/lang/invoke/VarHandle" ∧ (parseMethodDescriptor y.desc).map (fun d => d.parameters.length) = some n) ∧ nL ≤ 60
def CS (own : String) (idx : Nat) (y : MethodName) (bytes : ByteArray) (nL : Nat) (ret : Option FieldType) (n : Nat) : Prop := CB y bytes nL ret n ∧ Cond.methodLink own idx y ∈ WT ∧ Cond.static y ∈ WT
def CSN (own : String) (idx : Nat) (y : MethodName) (bytes : ByteArray) (nL : Nat) (ret : Option FieldType) (n : Nat) : Prop := CB y bytes nL ret n ∧ (own, idx, y, "DampLikeness") ∈ nestL ∧ Cond.static y ∈ WT
def CV (own : String) (idx : Nat) (y : MethodName) (bytes : ByteArray) (nL : Nat) (ret : Option FieldType) (n ci : Nat) : Prop := CB y bytes nL ret n ∧ Cond.methodLink own idx y ∈ WT ∧ Cond.instanceMethod y ∈ WT ∧ Cond.selects y.cls y y ∈ WT ∧ ci < 11 ∧ (jT ci).1 = y.cls
section HRows
variable {l : Launch} {C : JC} {E : JE} {own : String} {cc : ByteArray} {d : Nat} {S : Sto} {pc : Nat} {lv : List (Option Value)} {st : List Value}
theorem jw_ofs {C : JC} {S : Sto} {i ci : Nat} (hs : jsh i = (0, ci)) : (jw C S)[i]? = some (C.2.1 i, .inr (ci, (List.range (nfl ci)).map (jfv C S ci i))) := by
  rw [jw_at C S (jsh_lt hs (by decide)), jcell_o C S hs]
theorem j_geti (hE : Jok l C E own cc d) {idx ci k : Nat} (hf : FL own idx ci k false) (hd : decode cc pc = .ok (.getfield idx, 3)) {i : Nat} (hs : jsh i = (0, ci)) (kk : J C E S (pc + 3) lv (.int (S i k) :: st)) : J C E S pc lv (.ref (C.2.1 i) :: st) := by
  obtain ⟨p, l0, e, R, s, m, args, below, meth, c, A, cells, slots, nL, Q⟩ := E
  obtain ⟨rfl, hx, hb, hml, hown, hts, hK, hN, hC, hA, hfr, hlo, hce, hsl⟩ := hE
  obtain ⟨h1, h2, h3, h4⟩ := hf
  intro H locs ls hP hS hv
  exact va_get (D := C.1) (ci := ci) (C := (jT ci).1) (T := (jT ci).2.1) (N := (jT ci).2.2) hx hb hts (jT_in h1) hown hK hP i (jw_ofs hs) (jT_lt h1) k (by rw [jT_nf h1]; exact h2) (hts _ h4) (fun _ h => h) (v := .int (S i k)) (by rw [jfs_at C S i h2]; unfold jfv; rw [if_neg (by rw [h3]; decide)]) hd (kk H locs ls hP hS hv)
theorem j_getr (hE : Jok l C E own cc d) {idx ci k : Nat} (hf : FL own idx ci k true) (hd : decode cc pc = .ok (.getfield idx, 3)) {i j : Nat} (hs : jsh i = (0, ci)) (hr : rf S i k = j) (kk : J C E S (pc + 3) lv (.ref (C.2.1 j) :: st)) : J C E S pc lv (.ref (C.2.1 i) :: st) := by
  obtain ⟨p, l0, e, R, s, m, args, below, meth, c, A, cells, slots, nL, Q⟩ := E
  obtain ⟨rfl, hx, hb, hml, hown, hts, hK, hN, hC, hA, hfr, hlo, hce, hsl⟩ := hE
  obtain ⟨h1, h2, h3, h4⟩ := hf
  subst hr
  intro H locs ls hP hS hv
  exact va_get (D := C.1) (ci := ci) (C := (jT ci).1) (T := (jT ci).2.1) (N := (jT ci).2.2) hx hb hts (jT_in h1) hown hK hP i (jw_ofs hs) (jT_lt h1) k (by rw [jT_nf h1]; exact h2) (hts _ h4) (fun _ h => h) (v := .ref (C.2.1 (rf S i k))) (by rw [jfs_at C S i h2]; unfold jfv; rw [if_pos h3]) hd (kk H locs ls hP hS hv)
theorem j_puti (hE : Jok l C E own cc d) {idx ci k : Nat} {ty : FieldType} (hf : FP own idx ci k ty) (hd : decode cc pc = .ok (.putfield idx, 3)) {i : Nat} {v : Int32} (hs : jsh i = (0, ci)) (h0 : i = 0 → ci = 9) (hn : narrow ty (.int v) = .int v) (hfit : fits ty (.int v) = true) (kk : J C E (up2 S i k v) (pc + 3) lv st) : J C E S pc lv (.int v :: .ref (C.2.1 i) :: st) := by
  obtain ⟨p, l0, e, R, s, m, args, below, meth, c, A, cells, slots, nL, Q⟩ := E
  obtain ⟨rfl, hx, hb, hml, hown, hts, hK, hN, hC, hA, hfr, hlo, hce, hsl⟩ := hE
  obtain ⟨⟨h1, h2, h3, h4⟩, h5, h6⟩ := hf
  intro H locs ls hP hS hv
  refine va_put (D := C.1) (ci := ci) (C := (jT ci).1) (T := (jT ci).2.1) (N := (jT ci).2.2) hx hb hts (jT_in h1) _ (jT_ty h1) (jT_nm h1) hown hK hP (jw_D C S hC hA) hS i (jw_ofs hs) (jT_lt h1) k (by rw [jT_nf h1]; exact h2) (hts _ h4) (fun _ h => h) h5 h6 hn hfit (by simp [h2]) hd (fun H1 locs1 hP1 _ hS1 => ?_)
  rw [jw_puti C S hs h2 h3 h0] at hP1
  exact kk H1 locs1 ls hP1 hS1 hv
theorem j_putp (hE : Jok l C E own cc d) {idx k x : Nat} (hf : FL own idx 9 k true) (hk : k = 8 ∨ k = 9) (hx' : x < NN) (hd : decode cc pc = .ok (.putfield idx, 3)) (kk : J C E (up2 S 0 k (nI x)) (pc + 3) lv st) : J C E S pc lv (.ref (C.2.1 x) :: .ref (C.2.1 0) :: st) := by
  obtain ⟨p, l0, e, R, s, m, args, below, meth, c, A, cells, slots, nL, Q⟩ := E
  obtain ⟨rfl, hx, hb, hml, hown, hts, hK, hN, hC, hA, hfr, hlo, hce, hsl⟩ := hE
  obtain ⟨h1, h2, h3, h4⟩ := hf
  intro H locs ls hP hS hv
  refine va_put (D := C.1) (ci := 9) (C := (jT 9).1) (T := (jT 9).2.1) (N := (jT 9).2.2) (ty := .object "DampLikeness$Plan") hx hb hts (jT_in h1) _ (jT_ty h1) (jT_nm h1) hown hK hP (jw_D C S hC hA) hS 0 (jw_ofs (show jsh 0 = (0, 9) from rfl)) (jT_lt h1) k (by rw [jT_nf h1]; exact h2) (hts _ h4) (fun _ h => h) (by rcases hk with rfl | rfl <;> rfl) (by rcases hk with rfl | rfl <;> decide +kernel) rfl rfl (by simp [h2]) hd (fun H1 locs1 hP1 _ hS1 => ?_)
  rw [jw_putp C S hk hx'] at hP1
  exact kk H1 locs1 ls hP1 hS1 hv
theorem jw_of1 {C : JC} {S : Sto} {i n : Nat} (hs : jsh i = (1, n)) : (jw C S)[i]? = some (C.2.1 i, .inl (C.2.2.1, n, .inl (S i))) := by
  rw [jw_at C S (jsh_lt hs (by decide)), jcell_1 C S hs]
theorem jw_of2 {C : JC} {S : Sto} {i n : Nat} (hs : jsh i = (2, n)) : (jw C S)[i]? = some (C.2.1 i, .inl (C.2.2.2.1, n, .inl (S i))) := by
  rw [jw_at C S (jsh_lt hs (by decide)), jcell_2 C S hs]
theorem jw_of3 {C : JC} {S : Sto} {i n : Nat} (hs : jsh i = (3, n)) : (jw C S)[i]? = some (C.2.1 i, .inl (C.2.2.2.2.1, n, .inr (.inr (.inr (.inr (fun j => some (C.2.1 (rfa i j)))))))) := by
  rw [jw_at C S (jsh_lt hs (by decide)), jcell_3 C S hs]
theorem jw_of4 {C : JC} {S : Sto} {i n : Nat} (hs : jsh i = (4, n)) : (jw C S)[i]? = some (C.2.1 i, .inl (C.2.2.2.2.2, n, .inr (.inr (.inr (.inr (fun j => some (C.2.1 (rfa i j)))))))) := by
  rw [jw_at C S (jsh_lt hs (by decide)), jcell_4 C S hs]
theorem j_iald (hE : Jok l C E own cc d) (hd : decode cc pc = .ok (.iaload, 1)) {i n : Nat} {x : Int32} (hs : jsh i = (1, n)) (hi : vp_in x n) (kk : J C E S (pc + 1) lv (.int (S i x.toNatClampNeg) :: st)) : J C E S pc lv (.int x :: .ref (C.2.1 i) :: st) := by
  obtain ⟨p, l0, e, R, s, m, args, below, meth, c, A, cells, slots, nL, Q⟩ := E
  obtain ⟨rfl, hx, hb, hml, hown, hts, hK, hN, hC, hA, hfr, hlo, hce, hsl⟩ := hE
  intro H locs ls hP hS hv
  exact va_iald hx hb hK hP i 0 (jw_of1 hs) rfl hi hd (kk H locs ls hP hS hv)
theorem j_ialdN (hE : Jok l C E own cc d) (hd : decode cc pc = .ok (.iaload, 1)) {i n x : Nat} (hs : jsh i = (1, n)) (hi : x < n) (hn : n < 2 ^ 31) (kk : J C E S (pc + 1) lv (.int (S i x) :: st)) : J C E S pc lv (.int (nI x) :: .ref (C.2.1 i) :: st) := by
  refine j_iald hE hd hs (vp_in_nI hi hn) ?_
  rw [nI_clamp (Nat.lt_trans hi hn)]
  exact kk
theorem j_iast (hE : Jok l C E own cc d) (hd : decode cc pc = .ok (.iastore, 1)) {i n : Nat} {x v : Int32} (hs : jsh i = (1, n)) (hi : vp_in x n) (kk : J C E (up2 S i x.toNatClampNeg v) (pc + 1) lv st) : J C E S pc lv (.int v :: .int x :: .ref (C.2.1 i) :: st) := by
  obtain ⟨p, l0, e, R, s, m, args, below, meth, c, A, cells, slots, nL, Q⟩ := E
  obtain ⟨rfl, hx, hb, hml, hown, hts, hK, hN, hC, hA, hfr, hlo, hce, hsl⟩ := hE
  intro H locs ls hP hS hv
  refine va_iast hx hb hK hP (jw_D C S hC hA) hS i 0 (jw_of1 hs) rfl hi hd (fun H1 locs1 hP1 _ hS1 => ?_)
  rw [jw_arr1 C S hs] at hP1
  exact kk H1 locs1 ls hP1 hS1 hv
theorem j_iastN (hE : Jok l C E own cc d) (hd : decode cc pc = .ok (.iastore, 1)) {i n x : Nat} {v : Int32} (hs : jsh i = (1, n)) (hi : x < n) (hn : n < 2 ^ 31) (kk : J C E (up2 S i x v) (pc + 1) lv st) : J C E S pc lv (.int v :: .int (nI x) :: .ref (C.2.1 i) :: st) := by
  refine j_iast hE hd hs (vp_in_nI hi hn) ?_
  rw [nI_clamp (Nat.lt_trans hi hn)]
  exact kk
theorem j_zald (hE : Jok l C E own cc d) (hd : decode cc pc = .ok (.baload, 1)) {i n : Nat} {x : Int32} (hs : jsh i = (2, n)) (hi : vp_in x n) (kk : J C E S (pc + 1) lv (.int (S i x.toNatClampNeg) :: st)) : J C E S pc lv (.int x :: .ref (C.2.1 i) :: st) := by
  obtain ⟨p, l0, e, R, s, m, args, below, meth, c, A, cells, slots, nL, Q⟩ := E
  obtain ⟨rfl, hx, hb, hml, hown, hts, hK, hN, hC, hA, hfr, hlo, hce, hsl⟩ := hE
  intro H locs ls hP hS hv
  exact va_zald hx hb hK hP i 1 (jw_of2 hs) rfl hi hd (kk H locs ls hP hS hv)
theorem j_zast (hE : Jok l C E own cc d) (hd : decode cc pc = .ok (.bastore, 1)) {i n : Nat} {x v : Int32} (hs : jsh i = (2, n)) (hi : vp_in x n) (hv0 : vp_nar .boolean v = v) (kk : J C E (up2 S i x.toNatClampNeg v) (pc + 1) lv st) : J C E S pc lv (.int v :: .int x :: .ref (C.2.1 i) :: st) := by
  obtain ⟨p, l0, e, R, s, m, args, below, meth, c, A, cells, slots, nL, Q⟩ := E
  obtain ⟨rfl, hx, hb, hml, hown, hts, hK, hN, hC, hA, hfr, hlo, hce, hsl⟩ := hE
  intro H locs ls hP hS hv
  refine va_zast hx hb hK hP (jw_D C S hC hA) hS i 1 (jw_of2 hs) rfl hi hd (fun H1 locs1 hP1 _ hS1 => ?_)
  rw [hv0, jw_arr2 C S hs] at hP1
  exact kk H1 locs1 ls hP1 hS1 hv
theorem j_aald3 (hE : Jok l C E own cc d) (hd : decode cc pc = .ok (.aaload, 1)) {i n j : Nat} {x : Int32} (hs : jsh i = (3, n)) (hi : vp_in x n) (hj : rfa i x.toNatClampNeg = j) (kk : J C E S (pc + 1) lv (.ref (C.2.1 j) :: st)) : J C E S pc lv (.int x :: .ref (C.2.1 i) :: st) := by
  obtain ⟨p, l0, e, R, s, m, args, below, meth, c, A, cells, slots, nL, Q⟩ := E
  obtain ⟨rfl, hx, hb, hml, hown, hts, hK, hN, hC, hA, hfr, hlo, hce, hsl⟩ := hE
  subst hj
  intro H locs ls hP hS hv
  exact va_aldq hx hb hK hP i 2 (jw_of3 hs) rfl hi hd (kk H locs ls hP hS hv)
theorem j_aald4 (hE : Jok l C E own cc d) (hd : decode cc pc = .ok (.aaload, 1)) {i n j : Nat} {x : Int32} (hs : jsh i = (4, n)) (hi : vp_in x n) (hj : rfa i x.toNatClampNeg = j) (kk : J C E S (pc + 1) lv (.ref (C.2.1 j) :: st)) : J C E S pc lv (.int x :: .ref (C.2.1 i) :: st) := by
  obtain ⟨p, l0, e, R, s, m, args, below, meth, c, A, cells, slots, nL, Q⟩ := E
  obtain ⟨rfl, hx, hb, hml, hown, hts, hK, hN, hC, hA, hfr, hlo, hce, hsl⟩ := hE
  subst hj
  intro H locs ls hP hS hv
  exact va_aldq hx hb hK hP i 3 (jw_of4 hs) rfl hi hd (kk H locs ls hP hS hv)
theorem j_alen (hE : Jok l C E own cc d) (hd : decode cc pc = .ok (.arraylength, 1)) {i n : Nat} (v : Int32) (hs : jsh i = (1, n)) (hv0 : Int32.ofNat n = v) (kk : J C E S (pc + 1) lv (.int v :: st)) : J C E S pc lv (.ref (C.2.1 i) :: st) := by
  obtain ⟨p, l0, e, R, s, m, args, below, meth, c, A, cells, slots, nL, Q⟩ := E
  obtain ⟨rfl, hx, hb, hml, hown, hts, hK, hN, hC, hA, hfr, hlo, hce, hsl⟩ := hE
  intro H locs ls hP hS hv
  exact va_alen hx hb hK hP i 0 (jw_of1 hs) rfl hv0 hd (kk H locs ls hP hS hv)
theorem j_alen3 (hE : Jok l C E own cc d) (hd : decode cc pc = .ok (.arraylength, 1)) {i n : Nat} (v : Int32) (hs : jsh i = (3, n)) (hv0 : Int32.ofNat n = v) (kk : J C E S (pc + 1) lv (.int v :: st)) : J C E S pc lv (.ref (C.2.1 i) :: st) := by
  obtain ⟨p, l0, e, R, s, m, args, below, meth, c, A, cells, slots, nL, Q⟩ := E
  obtain ⟨rfl, hx, hb, hml, hown, hts, hK, hN, hC, hA, hfr, hlo, hce, hsl⟩ := hE
  intro H locs ls hP hS hv
  exact va_alen hx hb hK hP i 2 (jw_of3 hs) rfl hv0 hd (kk H locs ls hP hS hv)
theorem j_alen4 (hE : Jok l C E own cc d) (hd : decode cc pc = .ok (.arraylength, 1)) {i n : Nat} (v : Int32) (hs : jsh i = (4, n)) (hv0 : Int32.ofNat n = v) (kk : J C E S (pc + 1) lv (.int v :: st)) : J C E S pc lv (.ref (C.2.1 i) :: st) := by
  obtain ⟨p, l0, e, R, s, m, args, below, meth, c, A, cells, slots, nL, Q⟩ := E
  obtain ⟨rfl, hx, hb, hml, hown, hts, hK, hN, hC, hA, hfr, hlo, hce, hsl⟩ := hE
  intro H locs ls hP hS hv
  exact va_alen hx hb hK hP i 3 (jw_of4 hs) rfl hv0 hd (kk H locs ls hP hS hv)
/-- the first N of f, then g -/
def cpN (N : Nat) (f g : Nat → Int32) : Nat → Int32 := fun k => if k < N then f k else g k
theorem cpN_eq (N : Nat) (f g : Nat → Int32) : va_cpy f g 0 0 N = cpN N f g := by
  funext k
  unfold va_cpy cpN
  simp
theorem j_copy (hE : Jok l C E own cc d) {idx : Nat} (hl : Cond.methodLink own idx arraycopyName ∈ WT) (hn1 : Cond.native arraycopyName ∈ WT) (hn2 : Cond.static arraycopyName ∈ WT) (hn3 : Cond.initialized "java/lang/System" ∈ WT) (hd : decode cc pc = .ok (.invokestatic idx, 3)) {a0 a1 n0 n1 : Nat} {n : Int32} (N : Nat) (hd1 : 1 ≤ d) (h0 : jsh a0 = (1, n0)) (h1 : jsh a1 = (1, n1)) (hNn : n.toNatClampNeg = N) (hp : ¬ n < 0) (h4 : N ≤ n0) (h5 : N ≤ n1) (kk : J C E (upA S a1 (cpN N (S a0) (S a1))) (pc + 3) lv []) : J C E S pc lv (.int n :: .int 0 :: .ref (C.2.1 a1) :: .int 0 :: .ref (C.2.1 a0) :: []) := by
  obtain ⟨p, l0, e, R, s, m, args, below, meth, c, A, cells, slots, nL, Q⟩ := E
  obtain ⟨rfl, hx, hb, hml, hown, hts, hK, hN, hC, hA, hfr, hlo, hce, hsl⟩ := hE
  intro H locs ls hP hS hv
  refine va_copyi hx hb (hml.trans hv.1.symm) hown (hts _ hl) (hts _ hn1) (hts _ hn2) (hts _ hn3) hK hP (jw_D C S hC hA) hS a0 a1 0 0 (jw_of1 h0) (jw_of1 h1) rfl rfl rfl (by decide) (by decide) hp (by rw [hNn]; show 0 + N ≤ n0; omega) (by rw [hNn]; show 0 + N ≤ n1; omega) (fun i _ => rfl) (Nat.le_trans hd1 hfr) (Nat.le_trans (by decide : _ ≤ 128) (Nat.le_trans (by omega : 128 ≤ 128 * d) hlo)) hd (fun H1 locs1 hP1 _ hS1 => ?_)
  rw [hNn, show (0 : Int32).toNatClampNeg = 0 from rfl, cpN_eq, jw_arr1 C S h1] at hP1
  exact kk H1 locs1 ls hP1 hS1 hv
/-! calls -/
theorem j_after {p : Program} {l0 : Launch} {e : Env} {R : Room} {s : State} {m : MethodId} {args : Array Value} {below : List Frame} {meth : Method} {c : Code} {A : Nat → Prop} {cells slots : Nat} {Q : State → Prop} {H : Heap} {locs : List Loc} {ls : Array Slot} {st0 rest : List Value} {a : Array Value} {v : Option Value} {S' : Sto}
    (hr : va_Run p l0 e R s m args below meth c H locs cells slots 0 0 (F0 m pc ls st0) rest (JQ C v S' a) (JA C)) (hS : va_S A s.heap H locs) (hA : ∀ i, i < NN → A (C.2.1 i))
    (kk : ∀ (H1 : Heap) (locs1 : List Loc), va_P C.1 jcls (jw C S') H1 → va_S A s.heap H1 locs1 → W p l0 e R s m args below meth c H1 locs1 cells slots Q (F0 m (pc + 3) ls (v.toList ++ rest))) : W p l0 e R s m args below meth c H locs cells slots Q (F0 m pc ls st0) := by
  intro T hT X
  obtain ⟨v', st₀, t, T', L, h0, X', hL, e1, e2, ⟨⟨hv, hb⟩, hz, hk⟩, st⟩ := hr T hT X
  cases hv
  rw [h0] at hz hk
  have hAA : ∀ q, JA C q → A q := fun q ⟨i, hi, e⟩ => e ▸ hA i hi
  obtain ⟨t2, a1, b1⟩ := kk T'.heap (locs ++ L) (by rw [e1]; exact hb)
    ⟨Nat.le_trans hS.1 (by rw [e1]; exact hz), fun q h1 h2 => by rw [e1, hk q (Nat.lt_of_lt_of_le h1 hS.1) (fun z => h2 (hAA q z))]; exact hS.2.1 q h1 h2, fun q hq => by
      rcases List.mem_append.mp hq with h | h
      · exact hS.2.2 q h
      · exact hAA _ (hL q h)⟩ T' rfl X'
  exact ⟨t2, st t2 a1, b1⟩
theorem JP_blind (C : JC) (S : Sto) (av : List Value) : FrameBlind (va_Pc av (JP C S)) := fun a U g mk q => by
  obtain ⟨q0, qP, qK, qN⟩ := q
  exact ⟨q0, qP, va_K.moved (u := U) (U := U.calling g mk a) (Vm.Alike.refl U.vm) qK, fun w hw => va_Nw.same (u := U) (U := U.calling g mk a) rfl rfl (qN w hw)⟩
theorem JP_pre {C : JC} {S : Sto} {av : List Value} {s : State} {H : Heap} (hK : va_K C.1 jcls (jty C) s) (hN : JN s) (hP : va_P C.1 jcls (jw C S) H) : ∀ U : State, U.heap = H → s.WarmedH U.vm → va_Pc av (JP C S) av.toArray U := fun U hU hW => ⟨rfl, by rw [hU]; exact hP, va_K.moved hW.alike hK, JN.warm hW hN⟩
theorem j_invS (hE : Jok l C E own cc d) {y : MethodName} {bytes : ByteArray} {nL' : Nat} {ret : Option FieldType} {d' n idx : Nat} {av rest : List Value} {v : Option Value} {S' : Sto} (hc : CS own idx y bytes nL' ret n) (hM : Con l C y bytes nL' ret d' av S v S') (hd : decode cc pc = .ok (.invokestatic idx, 3)) (hd' : d' + 1 ≤ d) (hn : av.length = n) (hr : (rest.map fun v => v.category).sum ≤ 8) (kk : J C E S' (pc + 3) lv (v.toList ++ rest)) : J C E S pc lv (av.reverse ++ rest) := by
  obtain ⟨p, l0, e, R, s, m, args, below, meth, c, A, cells, slots, nL, Q⟩ := E
  obtain ⟨rfl, hx, hb, hml, hown, hts, hK, hN, hC, hA, hfr, hlo, hce, hsl⟩ := hE
  obtain ⟨⟨c1, c2, c3, c4⟩, c5, c6⟩ := hc
  intro H locs ls hP hS hv
  exact j_after (va_runS (As := av) (rest := rest) (Ts := WT) ⟨hx, hb, rfl, hown, hts⟩ hM ⟨callB_of n hts (wt_self c1) rfl rfl rfl (hts _ c2) (hts _ c5) c3 ⟨Nat.le_trans hd' hfr, Nat.le_trans (by show 8 + (nL' + 11) + 128 * d' ≤ 128 * d; omega) hlo⟩, hts _ c6⟩ ⟨JP_blind C S av, JP_pre hK hN hP⟩ rfl hn (hv.1.trans hml.symm) rfl (lv_room hr) hd ⟨hce, hsl⟩) hS hA (fun H1 locs1 hP1 hS1 => kk H1 locs1 ls hP1 hS1 hv)
theorem j_invSN (hE : Jok l C E own cc d) {y : MethodName} {bytes : ByteArray} {nL' : Nat} {ret : Option FieldType} {d' n idx : Nat} {av rest : List Value} {v : Option Value} {S' : Sto} (hc : CSN own idx y bytes nL' ret n) (hM : Con l C y bytes nL' ret d' av S v S') (hd : decode cc pc = .ok (.invokestatic idx, 3)) (hd' : d' + 1 ≤ d) (hn : av.length = n) (hr : (rest.map fun v => v.category).sum ≤ 8) (kk : J C E S' (pc + 3) lv (v.toList ++ rest)) : J C E S pc lv (av.reverse ++ rest) := by
  obtain ⟨p, l0, e, R, s, m, args, below, meth, c, A, cells, slots, nL, Q⟩ := E
  obtain ⟨rfl, hx, hb, hml, hown, hts, hK, hN, hC, hA, hfr, hlo, hce, hsl⟩ := hE
  obtain ⟨⟨c1, c2, c3, c4⟩, c5, c6⟩ := hc
  intro H locs ls hP hS hv
  exact j_after (va_runSN (As := av) (rest := rest) (Ts := WT) ⟨hx, hb, rfl, hown, hts⟩ hM ⟨va_cnB n hts (wt_self c1) rfl rfl rfl (hN _ c5) (hts _ c2) c3 ⟨Nat.le_trans hd' hfr, Nat.le_trans (by show 8 + (nL' + 11) + 128 * d' ≤ 128 * d; omega) hlo⟩, hts _ c6, trivial⟩ ⟨JP_blind C S av, JP_pre hK hN hP⟩ rfl hn (hv.1.trans hml.symm) rfl (lv_room hr) hd ⟨hce, hsl⟩) hS hA (fun H1 locs1 hP1 hS1 => kk H1 locs1 ls hP1 hS1 hv)
theorem j_invV (hE : Jok l C E own cc d) {y : MethodName} {bytes : ByteArray} {nL' : Nat} {ret : Option FieldType} {d' n idx ci i : Nat} {av rest : List Value} {v : Option Value} {S' : Sto} (hc : CV own idx y bytes nL' ret n ci) (hM : Con l C y bytes nL' ret d' (.ref (C.2.1 i) :: av) S v S') (hd : decode cc pc = .ok (.invokevirtual idx, 3)) (hs : jsh i = (0, ci)) (hd' : d' + 1 ≤ d) (hn : av.length = n) (hr : (rest.map fun v => v.category).sum ≤ 8) (kk : J C E S' (pc + 3) lv (v.toList ++ rest)) : J C E S pc lv (av.reverse ++ .ref (C.2.1 i) :: rest) := by
  obtain ⟨p, l0, e, R, s, m, args, below, meth, c, A, cells, slots, nL, Q⟩ := E
  obtain ⟨rfl, hx, hb, hml, hown, hts, hK, hN, hC, hA, hfr, hlo, hce, hsl⟩ := hE
  obtain ⟨⟨c1, c2, c3, c4⟩, c5, c6, c7, c8, c9⟩ := hc
  intro H locs ls hP hS hv
  exact j_after (va_runV (C := y.cls) (As := av) (rest := rest) (Ts := WT) ⟨hx, hb, rfl, hown, hts⟩ hM ⟨callB_of n hts (wt_self c1) rfl rfl rfl (hts _ c2) (hts _ c5) c3 ⟨Nat.le_trans hd' hfr, Nat.le_trans (by show 8 + (nL' + 11) + 128 * d' ≤ 128 * d; omega) hlo⟩, hts _ c6, hts _ c7⟩ ⟨JP_blind C S _, by rw [← c9]; exact va_recv hK hP (jT_lt c8) (jw_ofs hs), JP_pre (av := .ref (C.2.1 i) :: av) hK hN hP⟩ rfl hn (hv.1.trans hml.symm) rfl (lv_room hr) hd ⟨hce, hsl⟩) hS hA (fun H1 locs1 hP1 hS1 => kk H1 locs1 ls hP1 hS1 hv)
/-! returns -/
theorem j_iret (hE : Jok l C E own cc d) {r r' : Int32} {S' : Sto} (hR : Jret C E cc (some .int) (some (.int r')) S') (hd : decode cc pc = .ok (.ireturn, 1)) (hr : r = r') (hS' : S = S') : J C E S pc lv [.int r] := by
  obtain ⟨p, l0, e, R, s, m, args, below, meth, c, A, cells, slots, nL, Q⟩ := E
  subst hr
  subst hS'
  intro H locs ls hP hS hv
  exact hR.1 r .int H locs ls pc rfl rfl (vp_nar_int r) hP hS hd
theorem j_zret (hE : Jok l C E own cc d) {r r' : Int32} {S' : Sto} (hR : Jret C E cc (some .boolean) (some (.int r')) S') (hd : decode cc pc = .ok (.ireturn, 1)) (hr : r = r') (hS' : S = S') (hn : narrow .boolean (.int r') = .int r') : J C E S pc lv [.int r] := by
  obtain ⟨p, l0, e, R, s, m, args, below, meth, c, A, cells, slots, nL, Q⟩ := E
  subst hr
  subst hS'
  intro H locs ls hP hS hv
  exact hR.1 r .boolean H locs ls pc rfl rfl hn hP hS hd
theorem j_vret (hE : Jok l C E own cc d) {S' : Sto} (hR : Jret C E cc none none S') (hd : decode cc pc = .ok (.return_, 1)) (hS' : S = S') : J C E S pc lv [] := by
  obtain ⟨p, l0, e, R, s, m, args, below, meth, c, A, cells, slots, nL, Q⟩ := E
  subst hS'
  intro H locs ls hP hS hv
  exact hR.2 H locs ls pc rfl rfl hP hS hd
theorem j_eqS {S' : Sto} (h : S = S') (k : J C E S' pc lv st) : J C E S pc lv st := h ▸ k
theorem j_top {x y : Int32} (h : x = y) (k : J C E S pc lv (.int y :: st)) : J C E S pc lv (.int x :: st) := h ▸ k
theorem j_inj (hE : Jok l C E own cc d) : JInj C := by
  obtain ⟨p, l0, e, R, s, m, args, below, meth, c, A, cells, slots, nL, Q⟩ := E
  obtain ⟨rfl, hx, hb, hml, hown, hts, hK, hN, hC, hA, hfr, hlo, hce, hsl⟩ := hE
  exact hC
theorem nar_b {c : Prop} [Decidable c] : narrow .boolean (.int (if c then 1 else 0)) = .int (if c then 1 else 0) := by
  by_cases h : c
  · rw [if_pos h]; rfl
  · rw [if_neg h]; rfl
theorem j_S0i (hE : Jok l C E own cc d) {y : MethodName} {bytes : ByteArray} {nL' : Nat} {ret : Option FieldType} {d' idx : Nat} {rest : List Value} {r : Int32} {S' : Sto} (hc : CS own idx y bytes nL' ret 0) (hM : Con l C y bytes nL' ret d' [] S (some (.int r)) S') (hd : decode cc pc = .ok (.invokestatic idx, 3)) (hd' : d' + 1 ≤ d) (hr : (rest.map fun v => v.category).sum ≤ 8) (kk : J C E S' (pc + 3) lv (.int r :: rest)) : J C E S pc lv (rest) := j_invS hE hc hM hd hd' rfl hr kk
theorem j_S0v (hE : Jok l C E own cc d) {y : MethodName} {bytes : ByteArray} {nL' : Nat} {ret : Option FieldType} {d' idx : Nat} {rest : List Value} {S' : Sto} (hc : CS own idx y bytes nL' ret 0) (hM : Con l C y bytes nL' ret d' [] S none S') (hd : decode cc pc = .ok (.invokestatic idx, 3)) (hd' : d' + 1 ≤ d) (hr : (rest.map fun v => v.category).sum ≤ 8) (kk : J C E S' (pc + 3) lv (rest)) : J C E S pc lv (rest) := j_invS hE hc hM hd hd' rfl hr kk
theorem j_SN0i (hE : Jok l C E own cc d) {y : MethodName} {bytes : ByteArray} {nL' : Nat} {ret : Option FieldType} {d' idx : Nat} {rest : List Value} {r : Int32} {S' : Sto} (hc : CSN own idx y bytes nL' ret 0) (hM : Con l C y bytes nL' ret d' [] S (some (.int r)) S') (hd : decode cc pc = .ok (.invokestatic idx, 3)) (hd' : d' + 1 ≤ d) (hr : (rest.map fun v => v.category).sum ≤ 8) (kk : J C E S' (pc + 3) lv (.int r :: rest)) : J C E S pc lv (rest) := j_invSN hE hc hM hd hd' rfl hr kk
theorem j_SN0v (hE : Jok l C E own cc d) {y : MethodName} {bytes : ByteArray} {nL' : Nat} {ret : Option FieldType} {d' idx : Nat} {rest : List Value} {S' : Sto} (hc : CSN own idx y bytes nL' ret 0) (hM : Con l C y bytes nL' ret d' [] S none S') (hd : decode cc pc = .ok (.invokestatic idx, 3)) (hd' : d' + 1 ≤ d) (hr : (rest.map fun v => v.category).sum ≤ 8) (kk : J C E S' (pc + 3) lv (rest)) : J C E S pc lv (rest) := j_invSN hE hc hM hd hd' rfl hr kk
theorem j_V0i (hE : Jok l C E own cc d) {y : MethodName} {bytes : ByteArray} {nL' : Nat} {ret : Option FieldType} {d' idx ci i : Nat} {rest : List Value} {r : Int32} {S' : Sto} (hc : CV own idx y bytes nL' ret 0 ci) (hM : Con l C y bytes nL' ret d' [.ref (C.2.1 i)] S (some (.int r)) S') (hd : decode cc pc = .ok (.invokevirtual idx, 3)) (hs : jsh i = (0, ci)) (hd' : d' + 1 ≤ d) (hr : (rest.map fun v => v.category).sum ≤ 8) (kk : J C E S' (pc + 3) lv (.int r :: rest)) : J C E S pc lv (.ref (C.2.1 i) :: rest) := j_invV hE hc hM hd hs hd' rfl hr kk
theorem j_V0v (hE : Jok l C E own cc d) {y : MethodName} {bytes : ByteArray} {nL' : Nat} {ret : Option FieldType} {d' idx ci i : Nat} {rest : List Value} {S' : Sto} (hc : CV own idx y bytes nL' ret 0 ci) (hM : Con l C y bytes nL' ret d' [.ref (C.2.1 i)] S none S') (hd : decode cc pc = .ok (.invokevirtual idx, 3)) (hs : jsh i = (0, ci)) (hd' : d' + 1 ≤ d) (hr : (rest.map fun v => v.category).sum ≤ 8) (kk : J C E S' (pc + 3) lv (rest)) : J C E S pc lv (.ref (C.2.1 i) :: rest) := j_invV hE hc hM hd hs hd' rfl hr kk
theorem j_S1i (hE : Jok l C E own cc d) {y : MethodName} {bytes : ByteArray} {nL' : Nat} {ret : Option FieldType} {d' idx : Nat} {x0 : Value} {rest : List Value} {r : Int32} {S' : Sto} (hc : CS own idx y bytes nL' ret 1) (hM : Con l C y bytes nL' ret d' [x0] S (some (.int r)) S') (hd : decode cc pc = .ok (.invokestatic idx, 3)) (hd' : d' + 1 ≤ d) (hr : (rest.map fun v => v.category).sum ≤ 8) (kk : J C E S' (pc + 3) lv (.int r :: rest)) : J C E S pc lv (x0 :: rest) := j_invS hE hc hM hd hd' rfl hr kk
theorem j_S1v (hE : Jok l C E own cc d) {y : MethodName} {bytes : ByteArray} {nL' : Nat} {ret : Option FieldType} {d' idx : Nat} {x0 : Value} {rest : List Value} {S' : Sto} (hc : CS own idx y bytes nL' ret 1) (hM : Con l C y bytes nL' ret d' [x0] S none S') (hd : decode cc pc = .ok (.invokestatic idx, 3)) (hd' : d' + 1 ≤ d) (hr : (rest.map fun v => v.category).sum ≤ 8) (kk : J C E S' (pc + 3) lv (rest)) : J C E S pc lv (x0 :: rest) := j_invS hE hc hM hd hd' rfl hr kk
theorem j_SN1i (hE : Jok l C E own cc d) {y : MethodName} {bytes : ByteArray} {nL' : Nat} {ret : Option FieldType} {d' idx : Nat} {x0 : Value} {rest : List Value} {r : Int32} {S' : Sto} (hc : CSN own idx y bytes nL' ret 1) (hM : Con l C y bytes nL' ret d' [x0] S (some (.int r)) S') (hd : decode cc pc = .ok (.invokestatic idx, 3)) (hd' : d' + 1 ≤ d) (hr : (rest.map fun v => v.category).sum ≤ 8) (kk : J C E S' (pc + 3) lv (.int r :: rest)) : J C E S pc lv (x0 :: rest) := j_invSN hE hc hM hd hd' rfl hr kk
theorem j_SN1v (hE : Jok l C E own cc d) {y : MethodName} {bytes : ByteArray} {nL' : Nat} {ret : Option FieldType} {d' idx : Nat} {x0 : Value} {rest : List Value} {S' : Sto} (hc : CSN own idx y bytes nL' ret 1) (hM : Con l C y bytes nL' ret d' [x0] S none S') (hd : decode cc pc = .ok (.invokestatic idx, 3)) (hd' : d' + 1 ≤ d) (hr : (rest.map fun v => v.category).sum ≤ 8) (kk : J C E S' (pc + 3) lv (rest)) : J C E S pc lv (x0 :: rest) := j_invSN hE hc hM hd hd' rfl hr kk
theorem j_V1i (hE : Jok l C E own cc d) {y : MethodName} {bytes : ByteArray} {nL' : Nat} {ret : Option FieldType} {d' idx ci i : Nat} {x0 : Value} {rest : List Value} {r : Int32} {S' : Sto} (hc : CV own idx y bytes nL' ret 1 ci) (hM : Con l C y bytes nL' ret d' [.ref (C.2.1 i), x0] S (some (.int r)) S') (hd : decode cc pc = .ok (.invokevirtual idx, 3)) (hs : jsh i = (0, ci)) (hd' : d' + 1 ≤ d) (hr : (rest.map fun v => v.category).sum ≤ 8) (kk : J C E S' (pc + 3) lv (.int r :: rest)) : J C E S pc lv (x0 :: .ref (C.2.1 i) :: rest) := j_invV hE hc hM hd hs hd' rfl hr kk
theorem j_V1v (hE : Jok l C E own cc d) {y : MethodName} {bytes : ByteArray} {nL' : Nat} {ret : Option FieldType} {d' idx ci i : Nat} {x0 : Value} {rest : List Value} {S' : Sto} (hc : CV own idx y bytes nL' ret 1 ci) (hM : Con l C y bytes nL' ret d' [.ref (C.2.1 i), x0] S none S') (hd : decode cc pc = .ok (.invokevirtual idx, 3)) (hs : jsh i = (0, ci)) (hd' : d' + 1 ≤ d) (hr : (rest.map fun v => v.category).sum ≤ 8) (kk : J C E S' (pc + 3) lv (rest)) : J C E S pc lv (x0 :: .ref (C.2.1 i) :: rest) := j_invV hE hc hM hd hs hd' rfl hr kk
theorem j_S2i (hE : Jok l C E own cc d) {y : MethodName} {bytes : ByteArray} {nL' : Nat} {ret : Option FieldType} {d' idx : Nat} {x0 x1 : Value} {rest : List Value} {r : Int32} {S' : Sto} (hc : CS own idx y bytes nL' ret 2) (hM : Con l C y bytes nL' ret d' [x0, x1] S (some (.int r)) S') (hd : decode cc pc = .ok (.invokestatic idx, 3)) (hd' : d' + 1 ≤ d) (hr : (rest.map fun v => v.category).sum ≤ 8) (kk : J C E S' (pc + 3) lv (.int r :: rest)) : J C E S pc lv (x1 :: x0 :: rest) := j_invS hE hc hM hd hd' rfl hr kk
theorem j_S2v (hE : Jok l C E own cc d) {y : MethodName} {bytes : ByteArray} {nL' : Nat} {ret : Option FieldType} {d' idx : Nat} {x0 x1 : Value} {rest : List Value} {S' : Sto} (hc : CS own idx y bytes nL' ret 2) (hM : Con l C y bytes nL' ret d' [x0, x1] S none S') (hd : decode cc pc = .ok (.invokestatic idx, 3)) (hd' : d' + 1 ≤ d) (hr : (rest.map fun v => v.category).sum ≤ 8) (kk : J C E S' (pc + 3) lv (rest)) : J C E S pc lv (x1 :: x0 :: rest) := j_invS hE hc hM hd hd' rfl hr kk
theorem j_SN2i (hE : Jok l C E own cc d) {y : MethodName} {bytes : ByteArray} {nL' : Nat} {ret : Option FieldType} {d' idx : Nat} {x0 x1 : Value} {rest : List Value} {r : Int32} {S' : Sto} (hc : CSN own idx y bytes nL' ret 2) (hM : Con l C y bytes nL' ret d' [x0, x1] S (some (.int r)) S') (hd : decode cc pc = .ok (.invokestatic idx, 3)) (hd' : d' + 1 ≤ d) (hr : (rest.map fun v => v.category).sum ≤ 8) (kk : J C E S' (pc + 3) lv (.int r :: rest)) : J C E S pc lv (x1 :: x0 :: rest) := j_invSN hE hc hM hd hd' rfl hr kk
theorem j_SN2v (hE : Jok l C E own cc d) {y : MethodName} {bytes : ByteArray} {nL' : Nat} {ret : Option FieldType} {d' idx : Nat} {x0 x1 : Value} {rest : List Value} {S' : Sto} (hc : CSN own idx y bytes nL' ret 2) (hM : Con l C y bytes nL' ret d' [x0, x1] S none S') (hd : decode cc pc = .ok (.invokestatic idx, 3)) (hd' : d' + 1 ≤ d) (hr : (rest.map fun v => v.category).sum ≤ 8) (kk : J C E S' (pc + 3) lv (rest)) : J C E S pc lv (x1 :: x0 :: rest) := j_invSN hE hc hM hd hd' rfl hr kk
theorem j_V2i (hE : Jok l C E own cc d) {y : MethodName} {bytes : ByteArray} {nL' : Nat} {ret : Option FieldType} {d' idx ci i : Nat} {x0 x1 : Value} {rest : List Value} {r : Int32} {S' : Sto} (hc : CV own idx y bytes nL' ret 2 ci) (hM : Con l C y bytes nL' ret d' [.ref (C.2.1 i), x0, x1] S (some (.int r)) S') (hd : decode cc pc = .ok (.invokevirtual idx, 3)) (hs : jsh i = (0, ci)) (hd' : d' + 1 ≤ d) (hr : (rest.map fun v => v.category).sum ≤ 8) (kk : J C E S' (pc + 3) lv (.int r :: rest)) : J C E S pc lv (x1 :: x0 :: .ref (C.2.1 i) :: rest) := j_invV hE hc hM hd hs hd' rfl hr kk
theorem j_V2v (hE : Jok l C E own cc d) {y : MethodName} {bytes : ByteArray} {nL' : Nat} {ret : Option FieldType} {d' idx ci i : Nat} {x0 x1 : Value} {rest : List Value} {S' : Sto} (hc : CV own idx y bytes nL' ret 2 ci) (hM : Con l C y bytes nL' ret d' [.ref (C.2.1 i), x0, x1] S none S') (hd : decode cc pc = .ok (.invokevirtual idx, 3)) (hs : jsh i = (0, ci)) (hd' : d' + 1 ≤ d) (hr : (rest.map fun v => v.category).sum ≤ 8) (kk : J C E S' (pc + 3) lv (rest)) : J C E S pc lv (x1 :: x0 :: .ref (C.2.1 i) :: rest) := j_invV hE hc hM hd hs hd' rfl hr kk
theorem j_S3i (hE : Jok l C E own cc d) {y : MethodName} {bytes : ByteArray} {nL' : Nat} {ret : Option FieldType} {d' idx : Nat} {x0 x1 x2 : Value} {rest : List Value} {r : Int32} {S' : Sto} (hc : CS own idx y bytes nL' ret 3) (hM : Con l C y bytes nL' ret d' [x0, x1, x2] S (some (.int r)) S') (hd : decode cc pc = .ok (.invokestatic idx, 3)) (hd' : d' + 1 ≤ d) (hr : (rest.map fun v => v.category).sum ≤ 8) (kk : J C E S' (pc + 3) lv (.int r :: rest)) : J C E S pc lv (x2 :: x1 :: x0 :: rest) := j_invS hE hc hM hd hd' rfl hr kk
theorem j_S3v (hE : Jok l C E own cc d) {y : MethodName} {bytes : ByteArray} {nL' : Nat} {ret : Option FieldType} {d' idx : Nat} {x0 x1 x2 : Value} {rest : List Value} {S' : Sto} (hc : CS own idx y bytes nL' ret 3) (hM : Con l C y bytes nL' ret d' [x0, x1, x2] S none S') (hd : decode cc pc = .ok (.invokestatic idx, 3)) (hd' : d' + 1 ≤ d) (hr : (rest.map fun v => v.category).sum ≤ 8) (kk : J C E S' (pc + 3) lv (rest)) : J C E S pc lv (x2 :: x1 :: x0 :: rest) := j_invS hE hc hM hd hd' rfl hr kk
theorem j_SN3i (hE : Jok l C E own cc d) {y : MethodName} {bytes : ByteArray} {nL' : Nat} {ret : Option FieldType} {d' idx : Nat} {x0 x1 x2 : Value} {rest : List Value} {r : Int32} {S' : Sto} (hc : CSN own idx y bytes nL' ret 3) (hM : Con l C y bytes nL' ret d' [x0, x1, x2] S (some (.int r)) S') (hd : decode cc pc = .ok (.invokestatic idx, 3)) (hd' : d' + 1 ≤ d) (hr : (rest.map fun v => v.category).sum ≤ 8) (kk : J C E S' (pc + 3) lv (.int r :: rest)) : J C E S pc lv (x2 :: x1 :: x0 :: rest) := j_invSN hE hc hM hd hd' rfl hr kk
theorem j_SN3v (hE : Jok l C E own cc d) {y : MethodName} {bytes : ByteArray} {nL' : Nat} {ret : Option FieldType} {d' idx : Nat} {x0 x1 x2 : Value} {rest : List Value} {S' : Sto} (hc : CSN own idx y bytes nL' ret 3) (hM : Con l C y bytes nL' ret d' [x0, x1, x2] S none S') (hd : decode cc pc = .ok (.invokestatic idx, 3)) (hd' : d' + 1 ≤ d) (hr : (rest.map fun v => v.category).sum ≤ 8) (kk : J C E S' (pc + 3) lv (rest)) : J C E S pc lv (x2 :: x1 :: x0 :: rest) := j_invSN hE hc hM hd hd' rfl hr kk
theorem j_V3i (hE : Jok l C E own cc d) {y : MethodName} {bytes : ByteArray} {nL' : Nat} {ret : Option FieldType} {d' idx ci i : Nat} {x0 x1 x2 : Value} {rest : List Value} {r : Int32} {S' : Sto} (hc : CV own idx y bytes nL' ret 3 ci) (hM : Con l C y bytes nL' ret d' [.ref (C.2.1 i), x0, x1, x2] S (some (.int r)) S') (hd : decode cc pc = .ok (.invokevirtual idx, 3)) (hs : jsh i = (0, ci)) (hd' : d' + 1 ≤ d) (hr : (rest.map fun v => v.category).sum ≤ 8) (kk : J C E S' (pc + 3) lv (.int r :: rest)) : J C E S pc lv (x2 :: x1 :: x0 :: .ref (C.2.1 i) :: rest) := j_invV hE hc hM hd hs hd' rfl hr kk
theorem j_V3v (hE : Jok l C E own cc d) {y : MethodName} {bytes : ByteArray} {nL' : Nat} {ret : Option FieldType} {d' idx ci i : Nat} {x0 x1 x2 : Value} {rest : List Value} {S' : Sto} (hc : CV own idx y bytes nL' ret 3 ci) (hM : Con l C y bytes nL' ret d' [.ref (C.2.1 i), x0, x1, x2] S none S') (hd : decode cc pc = .ok (.invokevirtual idx, 3)) (hs : jsh i = (0, ci)) (hd' : d' + 1 ≤ d) (hr : (rest.map fun v => v.category).sum ≤ 8) (kk : J C E S' (pc + 3) lv (rest)) : J C E S pc lv (x2 :: x1 :: x0 :: .ref (C.2.1 i) :: rest) := j_invV hE hc hM hd hs hd' rfl hr kk
theorem j_S4i (hE : Jok l C E own cc d) {y : MethodName} {bytes : ByteArray} {nL' : Nat} {ret : Option FieldType} {d' idx : Nat} {x0 x1 x2 x3 : Value} {rest : List Value} {r : Int32} {S' : Sto} (hc : CS own idx y bytes nL' ret 4) (hM : Con l C y bytes nL' ret d' [x0, x1, x2, x3] S (some (.int r)) S') (hd : decode cc pc = .ok (.invokestatic idx, 3)) (hd' : d' + 1 ≤ d) (hr : (rest.map fun v => v.category).sum ≤ 8) (kk : J C E S' (pc + 3) lv (.int r :: rest)) : J C E S pc lv (x3 :: x2 :: x1 :: x0 :: rest) := j_invS hE hc hM hd hd' rfl hr kk
theorem j_S4v (hE : Jok l C E own cc d) {y : MethodName} {bytes : ByteArray} {nL' : Nat} {ret : Option FieldType} {d' idx : Nat} {x0 x1 x2 x3 : Value} {rest : List Value} {S' : Sto} (hc : CS own idx y bytes nL' ret 4) (hM : Con l C y bytes nL' ret d' [x0, x1, x2, x3] S none S') (hd : decode cc pc = .ok (.invokestatic idx, 3)) (hd' : d' + 1 ≤ d) (hr : (rest.map fun v => v.category).sum ≤ 8) (kk : J C E S' (pc + 3) lv (rest)) : J C E S pc lv (x3 :: x2 :: x1 :: x0 :: rest) := j_invS hE hc hM hd hd' rfl hr kk
theorem j_SN4i (hE : Jok l C E own cc d) {y : MethodName} {bytes : ByteArray} {nL' : Nat} {ret : Option FieldType} {d' idx : Nat} {x0 x1 x2 x3 : Value} {rest : List Value} {r : Int32} {S' : Sto} (hc : CSN own idx y bytes nL' ret 4) (hM : Con l C y bytes nL' ret d' [x0, x1, x2, x3] S (some (.int r)) S') (hd : decode cc pc = .ok (.invokestatic idx, 3)) (hd' : d' + 1 ≤ d) (hr : (rest.map fun v => v.category).sum ≤ 8) (kk : J C E S' (pc + 3) lv (.int r :: rest)) : J C E S pc lv (x3 :: x2 :: x1 :: x0 :: rest) := j_invSN hE hc hM hd hd' rfl hr kk
theorem j_SN4v (hE : Jok l C E own cc d) {y : MethodName} {bytes : ByteArray} {nL' : Nat} {ret : Option FieldType} {d' idx : Nat} {x0 x1 x2 x3 : Value} {rest : List Value} {S' : Sto} (hc : CSN own idx y bytes nL' ret 4) (hM : Con l C y bytes nL' ret d' [x0, x1, x2, x3] S none S') (hd : decode cc pc = .ok (.invokestatic idx, 3)) (hd' : d' + 1 ≤ d) (hr : (rest.map fun v => v.category).sum ≤ 8) (kk : J C E S' (pc + 3) lv (rest)) : J C E S pc lv (x3 :: x2 :: x1 :: x0 :: rest) := j_invSN hE hc hM hd hd' rfl hr kk
theorem j_V4i (hE : Jok l C E own cc d) {y : MethodName} {bytes : ByteArray} {nL' : Nat} {ret : Option FieldType} {d' idx ci i : Nat} {x0 x1 x2 x3 : Value} {rest : List Value} {r : Int32} {S' : Sto} (hc : CV own idx y bytes nL' ret 4 ci) (hM : Con l C y bytes nL' ret d' [.ref (C.2.1 i), x0, x1, x2, x3] S (some (.int r)) S') (hd : decode cc pc = .ok (.invokevirtual idx, 3)) (hs : jsh i = (0, ci)) (hd' : d' + 1 ≤ d) (hr : (rest.map fun v => v.category).sum ≤ 8) (kk : J C E S' (pc + 3) lv (.int r :: rest)) : J C E S pc lv (x3 :: x2 :: x1 :: x0 :: .ref (C.2.1 i) :: rest) := j_invV hE hc hM hd hs hd' rfl hr kk
theorem j_V4v (hE : Jok l C E own cc d) {y : MethodName} {bytes : ByteArray} {nL' : Nat} {ret : Option FieldType} {d' idx ci i : Nat} {x0 x1 x2 x3 : Value} {rest : List Value} {S' : Sto} (hc : CV own idx y bytes nL' ret 4 ci) (hM : Con l C y bytes nL' ret d' [.ref (C.2.1 i), x0, x1, x2, x3] S none S') (hd : decode cc pc = .ok (.invokevirtual idx, 3)) (hs : jsh i = (0, ci)) (hd' : d' + 1 ≤ d) (hr : (rest.map fun v => v.category).sum ≤ 8) (kk : J C E S' (pc + 3) lv (rest)) : J C E S pc lv (x3 :: x2 :: x1 :: x0 :: .ref (C.2.1 i) :: rest) := j_invV hE hc hM hd hs hd' rfl hr kk
theorem j_S5i (hE : Jok l C E own cc d) {y : MethodName} {bytes : ByteArray} {nL' : Nat} {ret : Option FieldType} {d' idx : Nat} {x0 x1 x2 x3 x4 : Value} {rest : List Value} {r : Int32} {S' : Sto} (hc : CS own idx y bytes nL' ret 5) (hM : Con l C y bytes nL' ret d' [x0, x1, x2, x3, x4] S (some (.int r)) S') (hd : decode cc pc = .ok (.invokestatic idx, 3)) (hd' : d' + 1 ≤ d) (hr : (rest.map fun v => v.category).sum ≤ 8) (kk : J C E S' (pc + 3) lv (.int r :: rest)) : J C E S pc lv (x4 :: x3 :: x2 :: x1 :: x0 :: rest) := j_invS hE hc hM hd hd' rfl hr kk
theorem j_S5v (hE : Jok l C E own cc d) {y : MethodName} {bytes : ByteArray} {nL' : Nat} {ret : Option FieldType} {d' idx : Nat} {x0 x1 x2 x3 x4 : Value} {rest : List Value} {S' : Sto} (hc : CS own idx y bytes nL' ret 5) (hM : Con l C y bytes nL' ret d' [x0, x1, x2, x3, x4] S none S') (hd : decode cc pc = .ok (.invokestatic idx, 3)) (hd' : d' + 1 ≤ d) (hr : (rest.map fun v => v.category).sum ≤ 8) (kk : J C E S' (pc + 3) lv (rest)) : J C E S pc lv (x4 :: x3 :: x2 :: x1 :: x0 :: rest) := j_invS hE hc hM hd hd' rfl hr kk
theorem j_SN5i (hE : Jok l C E own cc d) {y : MethodName} {bytes : ByteArray} {nL' : Nat} {ret : Option FieldType} {d' idx : Nat} {x0 x1 x2 x3 x4 : Value} {rest : List Value} {r : Int32} {S' : Sto} (hc : CSN own idx y bytes nL' ret 5) (hM : Con l C y bytes nL' ret d' [x0, x1, x2, x3, x4] S (some (.int r)) S') (hd : decode cc pc = .ok (.invokestatic idx, 3)) (hd' : d' + 1 ≤ d) (hr : (rest.map fun v => v.category).sum ≤ 8) (kk : J C E S' (pc + 3) lv (.int r :: rest)) : J C E S pc lv (x4 :: x3 :: x2 :: x1 :: x0 :: rest) := j_invSN hE hc hM hd hd' rfl hr kk
theorem j_SN5v (hE : Jok l C E own cc d) {y : MethodName} {bytes : ByteArray} {nL' : Nat} {ret : Option FieldType} {d' idx : Nat} {x0 x1 x2 x3 x4 : Value} {rest : List Value} {S' : Sto} (hc : CSN own idx y bytes nL' ret 5) (hM : Con l C y bytes nL' ret d' [x0, x1, x2, x3, x4] S none S') (hd : decode cc pc = .ok (.invokestatic idx, 3)) (hd' : d' + 1 ≤ d) (hr : (rest.map fun v => v.category).sum ≤ 8) (kk : J C E S' (pc + 3) lv (rest)) : J C E S pc lv (x4 :: x3 :: x2 :: x1 :: x0 :: rest) := j_invSN hE hc hM hd hd' rfl hr kk
theorem j_V5i (hE : Jok l C E own cc d) {y : MethodName} {bytes : ByteArray} {nL' : Nat} {ret : Option FieldType} {d' idx ci i : Nat} {x0 x1 x2 x3 x4 : Value} {rest : List Value} {r : Int32} {S' : Sto} (hc : CV own idx y bytes nL' ret 5 ci) (hM : Con l C y bytes nL' ret d' [.ref (C.2.1 i), x0, x1, x2, x3, x4] S (some (.int r)) S') (hd : decode cc pc = .ok (.invokevirtual idx, 3)) (hs : jsh i = (0, ci)) (hd' : d' + 1 ≤ d) (hr : (rest.map fun v => v.category).sum ≤ 8) (kk : J C E S' (pc + 3) lv (.int r :: rest)) : J C E S pc lv (x4 :: x3 :: x2 :: x1 :: x0 :: .ref (C.2.1 i) :: rest) := j_invV hE hc hM hd hs hd' rfl hr kk
theorem j_V5v (hE : Jok l C E own cc d) {y : MethodName} {bytes : ByteArray} {nL' : Nat} {ret : Option FieldType} {d' idx ci i : Nat} {x0 x1 x2 x3 x4 : Value} {rest : List Value} {S' : Sto} (hc : CV own idx y bytes nL' ret 5 ci) (hM : Con l C y bytes nL' ret d' [.ref (C.2.1 i), x0, x1, x2, x3, x4] S none S') (hd : decode cc pc = .ok (.invokevirtual idx, 3)) (hs : jsh i = (0, ci)) (hd' : d' + 1 ≤ d) (hr : (rest.map fun v => v.category).sum ≤ 8) (kk : J C E S' (pc + 3) lv (rest)) : J C E S pc lv (x4 :: x3 :: x2 :: x1 :: x0 :: .ref (C.2.1 i) :: rest) := j_invV hE hc hM hd hs hd' rfl hr kk
theorem j_S6i (hE : Jok l C E own cc d) {y : MethodName} {bytes : ByteArray} {nL' : Nat} {ret : Option FieldType} {d' idx : Nat} {x0 x1 x2 x3 x4 x5 : Value} {rest : List Value} {r : Int32} {S' : Sto} (hc : CS own idx y bytes nL' ret 6) (hM : Con l C y bytes nL' ret d' [x0, x1, x2, x3, x4, x5] S (some (.int r)) S') (hd : decode cc pc = .ok (.invokestatic idx, 3)) (hd' : d' + 1 ≤ d) (hr : (rest.map fun v => v.category).sum ≤ 8) (kk : J C E S' (pc + 3) lv (.int r :: rest)) : J C E S pc lv (x5 :: x4 :: x3 :: x2 :: x1 :: x0 :: rest) := j_invS hE hc hM hd hd' rfl hr kk
theorem j_S6v (hE : Jok l C E own cc d) {y : MethodName} {bytes : ByteArray} {nL' : Nat} {ret : Option FieldType} {d' idx : Nat} {x0 x1 x2 x3 x4 x5 : Value} {rest : List Value} {S' : Sto} (hc : CS own idx y bytes nL' ret 6) (hM : Con l C y bytes nL' ret d' [x0, x1, x2, x3, x4, x5] S none S') (hd : decode cc pc = .ok (.invokestatic idx, 3)) (hd' : d' + 1 ≤ d) (hr : (rest.map fun v => v.category).sum ≤ 8) (kk : J C E S' (pc + 3) lv (rest)) : J C E S pc lv (x5 :: x4 :: x3 :: x2 :: x1 :: x0 :: rest) := j_invS hE hc hM hd hd' rfl hr kk
theorem j_SN6i (hE : Jok l C E own cc d) {y : MethodName} {bytes : ByteArray} {nL' : Nat} {ret : Option FieldType} {d' idx : Nat} {x0 x1 x2 x3 x4 x5 : Value} {rest : List Value} {r : Int32} {S' : Sto} (hc : CSN own idx y bytes nL' ret 6) (hM : Con l C y bytes nL' ret d' [x0, x1, x2, x3, x4, x5] S (some (.int r)) S') (hd : decode cc pc = .ok (.invokestatic idx, 3)) (hd' : d' + 1 ≤ d) (hr : (rest.map fun v => v.category).sum ≤ 8) (kk : J C E S' (pc + 3) lv (.int r :: rest)) : J C E S pc lv (x5 :: x4 :: x3 :: x2 :: x1 :: x0 :: rest) := j_invSN hE hc hM hd hd' rfl hr kk
theorem j_SN6v (hE : Jok l C E own cc d) {y : MethodName} {bytes : ByteArray} {nL' : Nat} {ret : Option FieldType} {d' idx : Nat} {x0 x1 x2 x3 x4 x5 : Value} {rest : List Value} {S' : Sto} (hc : CSN own idx y bytes nL' ret 6) (hM : Con l C y bytes nL' ret d' [x0, x1, x2, x3, x4, x5] S none S') (hd : decode cc pc = .ok (.invokestatic idx, 3)) (hd' : d' + 1 ≤ d) (hr : (rest.map fun v => v.category).sum ≤ 8) (kk : J C E S' (pc + 3) lv (rest)) : J C E S pc lv (x5 :: x4 :: x3 :: x2 :: x1 :: x0 :: rest) := j_invSN hE hc hM hd hd' rfl hr kk
theorem j_V6i (hE : Jok l C E own cc d) {y : MethodName} {bytes : ByteArray} {nL' : Nat} {ret : Option FieldType} {d' idx ci i : Nat} {x0 x1 x2 x3 x4 x5 : Value} {rest : List Value} {r : Int32} {S' : Sto} (hc : CV own idx y bytes nL' ret 6 ci) (hM : Con l C y bytes nL' ret d' [.ref (C.2.1 i), x0, x1, x2, x3, x4, x5] S (some (.int r)) S') (hd : decode cc pc = .ok (.invokevirtual idx, 3)) (hs : jsh i = (0, ci)) (hd' : d' + 1 ≤ d) (hr : (rest.map fun v => v.category).sum ≤ 8) (kk : J C E S' (pc + 3) lv (.int r :: rest)) : J C E S pc lv (x5 :: x4 :: x3 :: x2 :: x1 :: x0 :: .ref (C.2.1 i) :: rest) := j_invV hE hc hM hd hs hd' rfl hr kk
theorem j_V6v (hE : Jok l C E own cc d) {y : MethodName} {bytes : ByteArray} {nL' : Nat} {ret : Option FieldType} {d' idx ci i : Nat} {x0 x1 x2 x3 x4 x5 : Value} {rest : List Value} {S' : Sto} (hc : CV own idx y bytes nL' ret 6 ci) (hM : Con l C y bytes nL' ret d' [.ref (C.2.1 i), x0, x1, x2, x3, x4, x5] S none S') (hd : decode cc pc = .ok (.invokevirtual idx, 3)) (hs : jsh i = (0, ci)) (hd' : d' + 1 ≤ d) (hr : (rest.map fun v => v.category).sum ≤ 8) (kk : J C E S' (pc + 3) lv (rest)) : J C E S pc lv (x5 :: x4 :: x3 :: x2 :: x1 :: x0 :: .ref (C.2.1 i) :: rest) := j_invV hE hc hM hd hs hd' rfl hr kk
end HRows
end
