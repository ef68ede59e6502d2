theorem dX0_init_0 : decode cX0_init 0 = .ok (.aload_n 0, 1) := by decide +kernel
theorem dX0_init_1 : decode cX0_init 1 = .ok (.invokespecial 3, 3) := by decide +kernel
theorem dX0_init_4 : decode cX0_init 4 = .ok (.aload_n 0, 1) := by decide +kernel
theorem dX0_init_5 : decode cX0_init 5 = .ok (.bipush 15, 2) := by decide +kernel
theorem dX0_init_7 : decode cX0_init 7 = .ok (.newarray .int, 2) := by decide +kernel
theorem dX0_init_9 : decode cX0_init 9 = .ok (.putfield 9, 3) := by decide +kernel
theorem dX0_init_12 : decode cX0_init 12 = .ok (.aload_n 0, 1) := by decide +kernel
theorem dX0_init_13 : decode cX0_init 13 = .ok (.bipush 15, 2) := by decide +kernel
theorem dX0_init_15 : decode cX0_init 15 = .ok (.newarray .int, 2) := by decide +kernel
theorem dX0_init_17 : decode cX0_init 17 = .ok (.putfield 15, 3) := by decide +kernel
theorem dX0_init_20 : decode cX0_init 20 = .ok (.return_, 1) := by decide +kernel
theorem dX0_clear_0 : decode cX0_clear 0 = .ok (.aload_n 0, 1) := by decide +kernel
theorem dX0_clear_1 : decode cX0_clear 1 = .ok (.iconst 0, 1) := by decide +kernel
theorem dX0_clear_2 : decode cX0_clear 2 = .ok (.putfield 18, 3) := by decide +kernel
theorem dX0_clear_5 : decode cX0_clear 5 = .ok (.return_, 1) := by decide +kernel
theorem dX0_add_0 : decode cX0_add 0 = .ok (.aload_n 0, 1) := by decide +kernel
theorem dX0_add_1 : decode cX0_add 1 = .ok (.getfield 18, 3) := by decide +kernel
theorem dX0_add_4 : decode cX0_add 4 = .ok (.bipush 15, 2) := by decide +kernel
theorem dX0_add_6 : decode cX0_add 6 = .ok (.if_icmp .lt 6, 3) := by decide +kernel
theorem dX0_add_9 : decode cX0_add 9 = .ok (.ldc 22, 2) := by decide +kernel
theorem dX0_add_11 : decode cX0_add 11 = .ok (.ireturn, 1) := by decide +kernel
theorem dX0_add_12 : decode cX0_add 12 = .ok (.aload_n 0, 1) := by decide +kernel
theorem dX0_add_13 : decode cX0_add 13 = .ok (.getfield 9, 3) := by decide +kernel
theorem dX0_add_16 : decode cX0_add 16 = .ok (.aload_n 0, 1) := by decide +kernel
theorem dX0_add_17 : decode cX0_add 17 = .ok (.getfield 18, 3) := by decide +kernel
theorem dX0_add_20 : decode cX0_add 20 = .ok (.iload_n 1, 1) := by decide +kernel
theorem dX0_add_21 : decode cX0_add 21 = .ok (.invokestatic 23, 3) := by decide +kernel
theorem dX0_add_24 : decode cX0_add 24 = .ok (.aload_n 0, 1) := by decide +kernel
theorem dX0_add_25 : decode cX0_add 25 = .ok (.getfield 15, 3) := by decide +kernel
theorem dX0_add_28 : decode cX0_add 28 = .ok (.aload_n 0, 1) := by decide +kernel
theorem dX0_add_29 : decode cX0_add 29 = .ok (.getfield 18, 3) := by decide +kernel
theorem dX0_add_32 : decode cX0_add 32 = .ok (.iload_n 2, 1) := by decide +kernel
theorem dX0_add_33 : decode cX0_add 33 = .ok (.invokestatic 23, 3) := by decide +kernel
theorem dX0_add_36 : decode cX0_add 36 = .ok (.aload_n 0, 1) := by decide +kernel
theorem dX0_add_37 : decode cX0_add 37 = .ok (.dup, 1) := by decide +kernel
theorem dX0_add_38 : decode cX0_add 38 = .ok (.getfield 18, 3) := by decide +kernel
theorem dX0_add_41 : decode cX0_add 41 = .ok (.iconst 1, 1) := by decide +kernel
theorem dX0_add_42 : decode cX0_add 42 = .ok (.iadd, 1) := by decide +kernel
theorem dX0_add_43 : decode cX0_add 43 = .ok (.putfield 18, 3) := by decide +kernel
theorem dX0_add_46 : decode cX0_add 46 = .ok (.aload_n 0, 1) := by decide +kernel
theorem dX0_add_47 : decode cX0_add 47 = .ok (.getfield 18, 3) := by decide +kernel
theorem dX0_add_50 : decode cX0_add 50 = .ok (.ireturn, 1) := by decide +kernel
theorem dX0_firstWrong_0 : decode cX0_firstWrong 0 = .ok (.iconst 0, 1) := by decide +kernel
theorem dX0_firstWrong_1 : decode cX0_firstWrong 1 = .ok (.istore_n 2, 1) := by decide +kernel
theorem dX0_firstWrong_2 : decode cX0_firstWrong 2 = .ok (.iload_n 2, 1) := by decide +kernel
theorem dX0_firstWrong_3 : decode cX0_firstWrong 3 = .ok (.aload_n 0, 1) := by decide +kernel
theorem dX0_firstWrong_4 : decode cX0_firstWrong 4 = .ok (.getfield 18, 3) := by decide +kernel
theorem dX0_firstWrong_7 : decode cX0_firstWrong 7 = .ok (.if_icmp .ge 37, 3) := by decide +kernel
theorem dX0_firstWrong_10 : decode cX0_firstWrong 10 = .ok (.aload_n 1, 1) := by decide +kernel
theorem dX0_firstWrong_11 : decode cX0_firstWrong 11 = .ok (.getfield 27, 3) := by decide +kernel
theorem dX0_firstWrong_14 : decode cX0_firstWrong 14 = .ok (.aload_n 0, 1) := by decide +kernel
theorem dX0_firstWrong_15 : decode cX0_firstWrong 15 = .ok (.getfield 9, 3) := by decide +kernel
theorem dX0_firstWrong_18 : decode cX0_firstWrong 18 = .ok (.iload_n 2, 1) := by decide +kernel
theorem dX0_firstWrong_19 : decode cX0_firstWrong 19 = .ok (.invokestatic 32, 3) := by decide +kernel
theorem dX0_firstWrong_22 : decode cX0_firstWrong 22 = .ok (.invokestatic 32, 3) := by decide +kernel
theorem dX0_firstWrong_25 : decode cX0_firstWrong 25 = .ok (.aload_n 0, 1) := by decide +kernel
theorem dX0_firstWrong_26 : decode cX0_firstWrong 26 = .ok (.getfield 15, 3) := by decide +kernel
theorem dX0_firstWrong_29 : decode cX0_firstWrong 29 = .ok (.iload_n 2, 1) := by decide +kernel
theorem dX0_firstWrong_30 : decode cX0_firstWrong 30 = .ok (.invokestatic 32, 3) := by decide +kernel
theorem dX0_firstWrong_33 : decode cX0_firstWrong 33 = .ok (.if_icmp .eq 5, 3) := by decide +kernel
theorem dX0_firstWrong_36 : decode cX0_firstWrong 36 = .ok (.iload_n 2, 1) := by decide +kernel
theorem dX0_firstWrong_37 : decode cX0_firstWrong 37 = .ok (.ireturn, 1) := by decide +kernel
theorem dX0_firstWrong_38 : decode cX0_firstWrong 38 = .ok (.iinc 2 1, 3) := by decide +kernel
theorem dX0_firstWrong_41 : decode cX0_firstWrong 41 = .ok (.goto (-39), 3) := by decide +kernel
theorem dX0_firstWrong_44 : decode cX0_firstWrong 44 = .ok (.iconst (-1), 1) := by decide +kernel
theorem dX0_firstWrong_45 : decode cX0_firstWrong 45 = .ok (.ireturn, 1) := by decide +kernel
theorem dX1_init_0 : decode cX1_init 0 = .ok (.aload_n 0, 1) := by decide +kernel
theorem dX1_init_1 : decode cX1_init 1 = .ok (.invokespecial 3, 3) := by decide +kernel
theorem dX1_init_4 : decode cX1_init 4 = .ok (.aload_n 0, 1) := by decide +kernel
theorem dX1_init_5 : decode cX1_init 5 = .ok (.bipush 25, 2) := by decide +kernel
theorem dX1_init_7 : decode cX1_init 7 = .ok (.newarray .int, 2) := by decide +kernel
theorem dX1_init_9 : decode cX1_init 9 = .ok (.putfield 9, 3) := by decide +kernel
theorem dX1_init_12 : decode cX1_init 12 = .ok (.aload_n 0, 1) := by decide +kernel
theorem dX1_init_13 : decode cX1_init 13 = .ok (.iconst 4, 1) := by decide +kernel
theorem dX1_init_14 : decode cX1_init 14 = .ok (.newarray .int, 2) := by decide +kernel
theorem dX1_init_16 : decode cX1_init 16 = .ok (.putfield 15, 3) := by decide +kernel
theorem dX1_init_19 : decode cX1_init 19 = .ok (.return_, 1) := by decide +kernel
theorem dX1_begin_0 : decode cX1_begin 0 = .ok (.iconst 0, 1) := by decide +kernel
theorem dX1_begin_1 : decode cX1_begin 1 = .ok (.istore_n 2, 1) := by decide +kernel
theorem dX1_begin_2 : decode cX1_begin 2 = .ok (.iload_n 2, 1) := by decide +kernel
theorem dX1_begin_3 : decode cX1_begin 3 = .ok (.aload_n 0, 1) := by decide +kernel
theorem dX1_begin_4 : decode cX1_begin 4 = .ok (.getfield 9, 3) := by decide +kernel
theorem dX1_begin_7 : decode cX1_begin 7 = .ok (.arraylength, 1) := by decide +kernel
theorem dX1_begin_8 : decode cX1_begin 8 = .ok (.if_icmp .ge 16, 3) := by decide +kernel
theorem dX1_begin_11 : decode cX1_begin 11 = .ok (.aload_n 0, 1) := by decide +kernel
theorem dX1_begin_12 : decode cX1_begin 12 = .ok (.getfield 9, 3) := by decide +kernel
theorem dX1_begin_15 : decode cX1_begin 15 = .ok (.iload_n 2, 1) := by decide +kernel
theorem dX1_begin_16 : decode cX1_begin 16 = .ok (.iconst 0, 1) := by decide +kernel
theorem dX1_begin_17 : decode cX1_begin 17 = .ok (.iastore, 1) := by decide +kernel
theorem dX1_begin_18 : decode cX1_begin 18 = .ok (.iinc 2 1, 3) := by decide +kernel
theorem dX1_begin_21 : decode cX1_begin 21 = .ok (.goto (-19), 3) := by decide +kernel
theorem dX1_begin_24 : decode cX1_begin 24 = .ok (.iconst 0, 1) := by decide +kernel
theorem dX1_begin_25 : decode cX1_begin 25 = .ok (.istore_n 2, 1) := by decide +kernel
theorem dX1_begin_26 : decode cX1_begin 26 = .ok (.iload_n 2, 1) := by decide +kernel
theorem dX1_begin_27 : decode cX1_begin 27 = .ok (.aload_n 0, 1) := by decide +kernel
theorem dX1_begin_28 : decode cX1_begin 28 = .ok (.getfield 15, 3) := by decide +kernel
theorem dX1_begin_31 : decode cX1_begin 31 = .ok (.arraylength, 1) := by decide +kernel
theorem dX1_begin_32 : decode cX1_begin 32 = .ok (.if_icmp .ge 23, 3) := by decide +kernel
theorem dX1_begin_35 : decode cX1_begin 35 = .ok (.aload_n 0, 1) := by decide +kernel
theorem dX1_begin_36 : decode cX1_begin 36 = .ok (.getfield 15, 3) := by decide +kernel
theorem dX1_begin_39 : decode cX1_begin 39 = .ok (.iload_n 2, 1) := by decide +kernel
theorem dX1_begin_40 : decode cX1_begin 40 = .ok (.aload_n 1, 1) := by decide +kernel
theorem dX1_begin_41 : decode cX1_begin 41 = .ok (.getfield 18, 3) := by decide +kernel
theorem dX1_begin_44 : decode cX1_begin 44 = .ok (.iload_n 2, 1) := by decide +kernel
theorem dX1_begin_45 : decode cX1_begin 45 = .ok (.invokestatic 21, 3) := by decide +kernel
theorem dX1_begin_48 : decode cX1_begin 48 = .ok (.iastore, 1) := by decide +kernel
theorem dX1_begin_49 : decode cX1_begin 49 = .ok (.iinc 2 1, 3) := by decide +kernel
theorem dX1_begin_52 : decode cX1_begin 52 = .ok (.goto (-26), 3) := by decide +kernel
theorem dX1_begin_55 : decode cX1_begin 55 = .ok (.aload_n 0, 1) := by decide +kernel
theorem dX1_begin_56 : decode cX1_begin 56 = .ok (.aload_n 1, 1) := by decide +kernel
theorem dX1_begin_57 : decode cX1_begin 57 = .ok (.getfield 25, 3) := by decide +kernel
theorem dX1_begin_60 : decode cX1_begin 60 = .ok (.putfield 29, 3) := by decide +kernel
theorem dX1_begin_63 : decode cX1_begin 63 = .ok (.aload_n 0, 1) := by decide +kernel
theorem dX1_begin_64 : decode cX1_begin 64 = .ok (.iconst 0, 1) := by decide +kernel
theorem dX1_begin_65 : decode cX1_begin 65 = .ok (.putfield 30, 3) := by decide +kernel
theorem dX1_begin_68 : decode cX1_begin 68 = .ok (.aload_n 0, 1) := by decide +kernel
theorem dX1_begin_69 : decode cX1_begin 69 = .ok (.iconst 0, 1) := by decide +kernel
theorem dX1_begin_70 : decode cX1_begin 70 = .ok (.putfield 33, 3) := by decide +kernel
theorem dX1_begin_73 : decode cX1_begin 73 = .ok (.aload_n 0, 1) := by decide +kernel
theorem dX1_begin_74 : decode cX1_begin 74 = .ok (.iconst 0, 1) := by decide +kernel
theorem dX1_begin_75 : decode cX1_begin 75 = .ok (.putfield 36, 3) := by decide +kernel
theorem dX1_begin_78 : decode cX1_begin 78 = .ok (.aload_n 0, 1) := by decide +kernel
theorem dX1_begin_79 : decode cX1_begin 79 = .ok (.iconst 0, 1) := by decide +kernel
theorem dX1_begin_80 : decode cX1_begin 80 = .ok (.putfield 39, 3) := by decide +kernel
theorem dX1_begin_83 : decode cX1_begin 83 = .ok (.return_, 1) := by decide +kernel
theorem dX1_copyFrom_0 : decode cX1_copyFrom 0 = .ok (.aload_n 1, 1) := by decide +kernel
theorem dX1_copyFrom_1 : decode cX1_copyFrom 1 = .ok (.getfield 9, 3) := by decide +kernel
theorem dX1_copyFrom_4 : decode cX1_copyFrom 4 = .ok (.iconst 0, 1) := by decide +kernel
theorem dX1_copyFrom_5 : decode cX1_copyFrom 5 = .ok (.aload_n 0, 1) := by decide +kernel
theorem dX1_copyFrom_6 : decode cX1_copyFrom 6 = .ok (.getfield 9, 3) := by decide +kernel
theorem dX1_copyFrom_9 : decode cX1_copyFrom 9 = .ok (.iconst 0, 1) := by decide +kernel
theorem dX1_copyFrom_10 : decode cX1_copyFrom 10 = .ok (.bipush 25, 2) := by decide +kernel
theorem dX1_copyFrom_12 : decode cX1_copyFrom 12 = .ok (.invokestatic 42, 3) := by decide +kernel
theorem dX1_copyFrom_15 : decode cX1_copyFrom 15 = .ok (.aload_n 1, 1) := by decide +kernel
theorem dX1_copyFrom_16 : decode cX1_copyFrom 16 = .ok (.getfield 15, 3) := by decide +kernel
theorem dX1_copyFrom_19 : decode cX1_copyFrom 19 = .ok (.iconst 0, 1) := by decide +kernel
theorem dX1_copyFrom_20 : decode cX1_copyFrom 20 = .ok (.aload_n 0, 1) := by decide +kernel
theorem dX1_copyFrom_21 : decode cX1_copyFrom 21 = .ok (.getfield 15, 3) := by decide +kernel
theorem dX1_copyFrom_24 : decode cX1_copyFrom 24 = .ok (.iconst 0, 1) := by decide +kernel
theorem dX1_copyFrom_25 : decode cX1_copyFrom 25 = .ok (.iconst 4, 1) := by decide +kernel
theorem dX1_copyFrom_26 : decode cX1_copyFrom 26 = .ok (.invokestatic 42, 3) := by decide +kernel
theorem dX1_copyFrom_29 : decode cX1_copyFrom 29 = .ok (.aload_n 0, 1) := by decide +kernel
theorem dX1_copyFrom_30 : decode cX1_copyFrom 30 = .ok (.aload_n 1, 1) := by decide +kernel
theorem dX1_copyFrom_31 : decode cX1_copyFrom 31 = .ok (.getfield 29, 3) := by decide +kernel
theorem dX1_copyFrom_34 : decode cX1_copyFrom 34 = .ok (.putfield 29, 3) := by decide +kernel
theorem dX1_copyFrom_37 : decode cX1_copyFrom 37 = .ok (.aload_n 0, 1) := by decide +kernel
theorem dX1_copyFrom_38 : decode cX1_copyFrom 38 = .ok (.aload_n 1, 1) := by decide +kernel
theorem dX1_copyFrom_39 : decode cX1_copyFrom 39 = .ok (.getfield 30, 3) := by decide +kernel
theorem dX1_copyFrom_42 : decode cX1_copyFrom 42 = .ok (.putfield 30, 3) := by decide +kernel
theorem dX1_copyFrom_45 : decode cX1_copyFrom 45 = .ok (.aload_n 0, 1) := by decide +kernel
theorem dX1_copyFrom_46 : decode cX1_copyFrom 46 = .ok (.aload_n 1, 1) := by decide +kernel
theorem dX1_copyFrom_47 : decode cX1_copyFrom 47 = .ok (.getfield 33, 3) := by decide +kernel
theorem dX1_copyFrom_50 : decode cX1_copyFrom 50 = .ok (.putfield 33, 3) := by decide +kernel
theorem dX1_copyFrom_53 : decode cX1_copyFrom 53 = .ok (.aload_n 0, 1) := by decide +kernel
theorem dX1_copyFrom_54 : decode cX1_copyFrom 54 = .ok (.aload_n 1, 1) := by decide +kernel
theorem dX1_copyFrom_55 : decode cX1_copyFrom 55 = .ok (.getfield 36, 3) := by decide +kernel
theorem dX1_copyFrom_58 : decode cX1_copyFrom 58 = .ok (.putfield 36, 3) := by decide +kernel
theorem dX1_copyFrom_61 : decode cX1_copyFrom 61 = .ok (.aload_n 0, 1) := by decide +kernel
theorem dX1_copyFrom_62 : decode cX1_copyFrom 62 = .ok (.aload_n 1, 1) := by decide +kernel
theorem dX1_copyFrom_63 : decode cX1_copyFrom 63 = .ok (.getfield 39, 3) := by decide +kernel
theorem dX1_copyFrom_66 : decode cX1_copyFrom 66 = .ok (.putfield 39, 3) := by decide +kernel
theorem dX1_copyFrom_69 : decode cX1_copyFrom 69 = .ok (.return_, 1) := by decide +kernel
theorem dX1_isFilled_0 : decode cX1_isFilled 0 = .ok (.aload_n 0, 1) := by decide +kernel
theorem dX1_isFilled_1 : decode cX1_isFilled 1 = .ok (.getfield 30, 3) := by decide +kernel
theorem dX1_isFilled_4 : decode cX1_isFilled 4 = .ok (.iload_n 1, 1) := by decide +kernel
theorem dX1_isFilled_5 : decode cX1_isFilled 5 = .ok (.ishr, 1) := by decide +kernel
theorem dX1_isFilled_6 : decode cX1_isFilled 6 = .ok (.iconst 1, 1) := by decide +kernel
theorem dX1_isFilled_7 : decode cX1_isFilled 7 = .ok (.iand, 1) := by decide +kernel
theorem dX1_isFilled_8 : decode cX1_isFilled 8 = .ok (.ifCond .eq 7, 3) := by decide +kernel
theorem dX1_isFilled_11 : decode cX1_isFilled 11 = .ok (.iconst 1, 1) := by decide +kernel
theorem dX1_isFilled_12 : decode cX1_isFilled 12 = .ok (.goto 4, 3) := by decide +kernel
theorem dX1_isFilled_15 : decode cX1_isFilled 15 = .ok (.iconst 0, 1) := by decide +kernel
theorem dX1_isFilled_16 : decode cX1_isFilled 16 = .ok (.ireturn, 1) := by decide +kernel
theorem dX1_marks_0 : decode cX1_marks 0 = .ok (.iconst 0, 1) := by decide +kernel
theorem dX1_marks_1 : decode cX1_marks 1 = .ok (.istore_n 1, 1) := by decide +kernel
theorem dX1_marks_2 : decode cX1_marks 2 = .ok (.iconst 0, 1) := by decide +kernel
theorem dX1_marks_3 : decode cX1_marks 3 = .ok (.istore_n 2, 1) := by decide +kernel
theorem dX1_marks_4 : decode cX1_marks 4 = .ok (.iload_n 2, 1) := by decide +kernel
theorem dX1_marks_5 : decode cX1_marks 5 = .ok (.aload_n 0, 1) := by decide +kernel
theorem dX1_marks_6 : decode cX1_marks 6 = .ok (.getfield 9, 3) := by decide +kernel
theorem dX1_marks_9 : decode cX1_marks 9 = .ok (.arraylength, 1) := by decide +kernel
theorem dX1_marks_10 : decode cX1_marks 10 = .ok (.if_icmp .ge 25, 3) := by decide +kernel
theorem dX1_marks_13 : decode cX1_marks 13 = .ok (.aload_n 0, 1) := by decide +kernel
theorem dX1_marks_14 : decode cX1_marks 14 = .ok (.getfield 9, 3) := by decide +kernel
theorem dX1_marks_17 : decode cX1_marks 17 = .ok (.iload_n 2, 1) := by decide +kernel
theorem dX1_marks_18 : decode cX1_marks 18 = .ok (.iaload, 1) := by decide +kernel
theorem dX1_marks_19 : decode cX1_marks 19 = .ok (.iconst 3, 1) := by decide +kernel
theorem dX1_marks_20 : decode cX1_marks 20 = .ok (.if_icmp .lt 9, 3) := by decide +kernel
theorem dX1_marks_23 : decode cX1_marks 23 = .ok (.iload_n 1, 1) := by decide +kernel
theorem dX1_marks_24 : decode cX1_marks 24 = .ok (.iconst 1, 1) := by decide +kernel
theorem dX1_marks_25 : decode cX1_marks 25 = .ok (.iload_n 2, 1) := by decide +kernel
theorem dX1_marks_26 : decode cX1_marks 26 = .ok (.ishl, 1) := by decide +kernel
theorem dX1_marks_27 : decode cX1_marks 27 = .ok (.ior, 1) := by decide +kernel
theorem dX1_marks_28 : decode cX1_marks 28 = .ok (.istore_n 1, 1) := by decide +kernel
theorem dX1_marks_29 : decode cX1_marks 29 = .ok (.iinc 2 1, 3) := by decide +kernel
theorem dX1_marks_32 : decode cX1_marks 32 = .ok (.goto (-28), 3) := by decide +kernel
theorem dX1_marks_35 : decode cX1_marks 35 = .ok (.iload_n 1, 1) := by decide +kernel
theorem dX1_marks_36 : decode cX1_marks 36 = .ok (.ireturn, 1) := by decide +kernel
theorem dX1_markCount_0 : decode cX1_markCount 0 = .ok (.aload_n 0, 1) := by decide +kernel
theorem dX1_markCount_1 : decode cX1_markCount 1 = .ok (.invokevirtual 48, 3) := by decide +kernel
theorem dX1_markCount_4 : decode cX1_markCount 4 = .ok (.invokestatic 52, 3) := by decide +kernel
theorem dX1_markCount_7 : decode cX1_markCount 7 = .ok (.ireturn, 1) := by decide +kernel
theorem dX1_allWet_0 : decode cX1_allWet 0 = .ok (.iconst 0, 1) := by decide +kernel
theorem dX1_allWet_1 : decode cX1_allWet 1 = .ok (.istore_n 1, 1) := by decide +kernel
theorem dX1_allWet_2 : decode cX1_allWet 2 = .ok (.iconst 0, 1) := by decide +kernel
theorem dX1_allWet_3 : decode cX1_allWet 3 = .ok (.istore_n 2, 1) := by decide +kernel
theorem dX1_allWet_4 : decode cX1_allWet 4 = .ok (.iload_n 2, 1) := by decide +kernel
theorem dX1_allWet_5 : decode cX1_allWet 5 = .ok (.aload_n 0, 1) := by decide +kernel
theorem dX1_allWet_6 : decode cX1_allWet 6 = .ok (.getfield 9, 3) := by decide +kernel
theorem dX1_allWet_9 : decode cX1_allWet 9 = .ok (.arraylength, 1) := by decide +kernel
theorem dX1_allWet_10 : decode cX1_allWet 10 = .ok (.if_icmp .ge 18, 3) := by decide +kernel
theorem dX1_allWet_13 : decode cX1_allWet 13 = .ok (.iload_n 1, 1) := by decide +kernel
theorem dX1_allWet_14 : decode cX1_allWet 14 = .ok (.aload_n 0, 1) := by decide +kernel
theorem dX1_allWet_15 : decode cX1_allWet 15 = .ok (.getfield 9, 3) := by decide +kernel
theorem dX1_allWet_18 : decode cX1_allWet 18 = .ok (.iload_n 2, 1) := by decide +kernel
theorem dX1_allWet_19 : decode cX1_allWet 19 = .ok (.iaload, 1) := by decide +kernel
theorem dX1_allWet_20 : decode cX1_allWet 20 = .ok (.iadd, 1) := by decide +kernel
theorem dX1_allWet_21 : decode cX1_allWet 21 = .ok (.istore_n 1, 1) := by decide +kernel
theorem dX1_allWet_22 : decode cX1_allWet 22 = .ok (.iinc 2 1, 3) := by decide +kernel
theorem dX1_allWet_25 : decode cX1_allWet 25 = .ok (.goto (-21), 3) := by decide +kernel
theorem dX1_allWet_28 : decode cX1_allWet 28 = .ok (.iload_n 1, 1) := by decide +kernel
theorem dX1_allWet_29 : decode cX1_allWet 29 = .ok (.ireturn, 1) := by decide +kernel
theorem dX1_shrink_0 : decode cX1_shrink 0 = .ok (.aload_n 1, 1) := by decide +kernel
theorem dX1_shrink_1 : decode cX1_shrink 1 = .ok (.aload_n 0, 1) := by decide +kernel
theorem dX1_shrink_2 : decode cX1_shrink 2 = .ok (.invokevirtual 48, 3) := by decide +kernel
theorem dX1_shrink_5 : decode cX1_shrink 5 = .ok (.invokestatic 58, 3) := by decide +kernel
theorem dX1_shrink_8 : decode cX1_shrink 8 = .ok (.istore_n 2, 1) := by decide +kernel
theorem dX1_shrink_9 : decode cX1_shrink 9 = .ok (.iconst 0, 1) := by decide +kernel
theorem dX1_shrink_10 : decode cX1_shrink 10 = .ok (.istore_n 3, 1) := by decide +kernel
theorem dX1_shrink_11 : decode cX1_shrink 11 = .ok (.iload_n 3, 1) := by decide +kernel
theorem dX1_shrink_12 : decode cX1_shrink 12 = .ok (.aload_n 0, 1) := by decide +kernel
theorem dX1_shrink_13 : decode cX1_shrink 13 = .ok (.getfield 9, 3) := by decide +kernel
theorem dX1_shrink_16 : decode cX1_shrink 16 = .ok (.arraylength, 1) := by decide +kernel
theorem dX1_shrink_17 : decode cX1_shrink 17 = .ok (.if_icmp .ge 27, 3) := by decide +kernel
theorem dX1_shrink_20 : decode cX1_shrink 20 = .ok (.iload_n 2, 1) := by decide +kernel
theorem dX1_shrink_21 : decode cX1_shrink 21 = .ok (.iload_n 3, 1) := by decide +kernel
theorem dX1_shrink_22 : decode cX1_shrink 22 = .ok (.ishr, 1) := by decide +kernel
theorem dX1_shrink_23 : decode cX1_shrink 23 = .ok (.iconst 1, 1) := by decide +kernel
theorem dX1_shrink_24 : decode cX1_shrink 24 = .ok (.iand, 1) := by decide +kernel
theorem dX1_shrink_25 : decode cX1_shrink 25 = .ok (.ifCond .eq 13, 3) := by decide +kernel
theorem dX1_shrink_28 : decode cX1_shrink 28 = .ok (.aload_n 0, 1) := by decide +kernel
theorem dX1_shrink_29 : decode cX1_shrink 29 = .ok (.getfield 9, 3) := by decide +kernel
theorem dX1_shrink_32 : decode cX1_shrink 32 = .ok (.iload_n 3, 1) := by decide +kernel
theorem dX1_shrink_33 : decode cX1_shrink 33 = .ok (.dup2, 1) := by decide +kernel
theorem dX1_shrink_34 : decode cX1_shrink 34 = .ok (.iaload, 1) := by decide +kernel
theorem dX1_shrink_35 : decode cX1_shrink 35 = .ok (.iconst 2, 1) := by decide +kernel
theorem dX1_shrink_36 : decode cX1_shrink 36 = .ok (.isub, 1) := by decide +kernel
theorem dX1_shrink_37 : decode cX1_shrink 37 = .ok (.iastore, 1) := by decide +kernel
theorem dX1_shrink_38 : decode cX1_shrink 38 = .ok (.iinc 3 1, 3) := by decide +kernel
theorem dX1_shrink_41 : decode cX1_shrink 41 = .ok (.goto (-30), 3) := by decide +kernel
theorem dX1_shrink_44 : decode cX1_shrink 44 = .ok (.aload_n 0, 1) := by decide +kernel
theorem dX1_shrink_45 : decode cX1_shrink 45 = .ok (.dup, 1) := by decide +kernel
theorem dX1_shrink_46 : decode cX1_shrink 46 = .ok (.getfield 36, 3) := by decide +kernel
theorem dX1_shrink_49 : decode cX1_shrink 49 = .ok (.iconst 1, 1) := by decide +kernel
theorem dX1_shrink_50 : decode cX1_shrink 50 = .ok (.iadd, 1) := by decide +kernel
theorem dX1_shrink_51 : decode cX1_shrink 51 = .ok (.putfield 36, 3) := by decide +kernel
theorem dX1_shrink_54 : decode cX1_shrink 54 = .ok (.return_, 1) := by decide +kernel
theorem dX2_init_0 : decode cX2_init 0 = .ok (.aload_n 0, 1) := by decide +kernel
theorem dX2_init_1 : decode cX2_init 1 = .ok (.invokespecial 1, 3) := by decide +kernel
theorem dX2_init_4 : decode cX2_init 4 = .ok (.return_, 1) := by decide +kernel
theorem dX2_draw_0 : decode cX2_draw 0 = .ok (.aload_n 0, 1) := by decide +kernel
theorem dX2_draw_1 : decode cX2_draw 1 = .ok (.aload_n 0, 1) := by decide +kernel
theorem dX2_draw_2 : decode cX2_draw 2 = .ok (.getfield 7, 3) := by decide +kernel
theorem dX2_draw_5 : decode cX2_draw 5 = .ok (.ldc 13, 2) := by decide +kernel
theorem dX2_draw_7 : decode cX2_draw 7 = .ok (.imul, 1) := by decide +kernel
theorem dX2_draw_8 : decode cX2_draw 8 = .ok (.sipush 12345, 3) := by decide +kernel
theorem dX2_draw_11 : decode cX2_draw 11 = .ok (.iadd, 1) := by decide +kernel
theorem dX2_draw_12 : decode cX2_draw 12 = .ok (.ldc 14, 2) := by decide +kernel
theorem dX2_draw_14 : decode cX2_draw 14 = .ok (.iand, 1) := by decide +kernel
theorem dX2_draw_15 : decode cX2_draw 15 = .ok (.putfield 7, 3) := by decide +kernel
theorem dX2_draw_18 : decode cX2_draw 18 = .ok (.iload_n 1, 1) := by decide +kernel
theorem dX2_draw_19 : decode cX2_draw 19 = .ok (.ifCond .le 15, 3) := by decide +kernel
theorem dX2_draw_22 : decode cX2_draw 22 = .ok (.aload_n 0, 1) := by decide +kernel
theorem dX2_draw_23 : decode cX2_draw 23 = .ok (.getfield 7, 3) := by decide +kernel
theorem dX2_draw_26 : decode cX2_draw 26 = .ok (.ldc 15, 2) := by decide +kernel
theorem dX2_draw_28 : decode cX2_draw 28 = .ok (.idiv, 1) := by decide +kernel
theorem dX2_draw_29 : decode cX2_draw 29 = .ok (.iload_n 1, 1) := by decide +kernel
theorem dX2_draw_30 : decode cX2_draw 30 = .ok (.irem, 1) := by decide +kernel
theorem dX2_draw_31 : decode cX2_draw 31 = .ok (.goto 4, 3) := by decide +kernel
theorem dX2_draw_34 : decode cX2_draw 34 = .ok (.iconst 0, 1) := by decide +kernel
theorem dX2_draw_35 : decode cX2_draw 35 = .ok (.ireturn, 1) := by decide +kernel
theorem dX3_init_0 : decode cX3_init 0 = .ok (.aload_n 0, 1) := by decide +kernel
theorem dX3_init_1 : decode cX3_init 1 = .ok (.invokespecial 3, 3) := by decide +kernel
theorem dX3_init_4 : decode cX3_init 4 = .ok (.aload_n 0, 1) := by decide +kernel
theorem dX3_init_5 : decode cX3_init 5 = .ok (.bipush 25, 2) := by decide +kernel
theorem dX3_init_7 : decode cX3_init 7 = .ok (.newarray .int, 2) := by decide +kernel
theorem dX3_init_9 : decode cX3_init 9 = .ok (.putfield 9, 3) := by decide +kernel
theorem dX3_init_12 : decode cX3_init 12 = .ok (.aload_n 0, 1) := by decide +kernel
theorem dX3_init_13 : decode cX3_init 13 = .ok (.bipush 25, 2) := by decide +kernel
theorem dX3_init_15 : decode cX3_init 15 = .ok (.newarray .int, 2) := by decide +kernel
theorem dX3_init_17 : decode cX3_init 17 = .ok (.putfield 15, 3) := by decide +kernel
theorem dX3_init_20 : decode cX3_init 20 = .ok (.return_, 1) := by decide +kernel
theorem dX3_rainDays_0 : decode cX3_rainDays 0 = .ok (.iconst 0, 1) := by decide +kernel
theorem dX3_rainDays_1 : decode cX3_rainDays 1 = .ok (.istore 5, 2) := by decide +kernel
theorem dX3_rainDays_3 : decode cX3_rainDays 3 = .ok (.iload 5, 2) := by decide +kernel
theorem dX3_rainDays_5 : decode cX3_rainDays 5 = .ok (.iload_n 3, 1) := by decide +kernel
theorem dX3_rainDays_6 : decode cX3_rainDays 6 = .ok (.if_icmp .ge 17, 3) := by decide +kernel
theorem dX3_rainDays_9 : decode cX3_rainDays 9 = .ok (.aload_n 0, 1) := by decide +kernel
theorem dX3_rainDays_10 : decode cX3_rainDays 10 = .ok (.aload_n 1, 1) := by decide +kernel
theorem dX3_rainDays_11 : decode cX3_rainDays 11 = .ok (.aload_n 2, 1) := by decide +kernel
theorem dX3_rainDays_12 : decode cX3_rainDays 12 = .ok (.iload 4, 2) := by decide +kernel
theorem dX3_rainDays_14 : decode cX3_rainDays 14 = .ok (.invokevirtual 18, 3) := by decide +kernel
theorem dX3_rainDays_17 : decode cX3_rainDays 17 = .ok (.iinc 5 1, 3) := by decide +kernel
theorem dX3_rainDays_20 : decode cX3_rainDays 20 = .ok (.goto (-17), 3) := by decide +kernel
theorem dX3_rainDays_23 : decode cX3_rainDays 23 = .ok (.return_, 1) := by decide +kernel
theorem dX3_rainDay_0 : decode cX3_rainDay 0 = .ok (.iconst 0, 1) := by decide +kernel
theorem dX3_rainDay_1 : decode cX3_rainDay 1 = .ok (.istore 4, 2) := by decide +kernel
theorem dX3_rainDay_3 : decode cX3_rainDay 3 = .ok (.iload 4, 2) := by decide +kernel
theorem dX3_rainDay_5 : decode cX3_rainDay 5 = .ok (.aload_n 1, 1) := by decide +kernel
theorem dX3_rainDay_6 : decode cX3_rainDay 6 = .ok (.getfield 22, 3) := by decide +kernel
theorem dX3_rainDay_9 : decode cX3_rainDay 9 = .ok (.if_icmp .ge 45, 3) := by decide +kernel
theorem dX3_rainDay_12 : decode cX3_rainDay 12 = .ok (.aload_n 2, 1) := by decide +kernel
theorem dX3_rainDay_13 : decode cX3_rainDay 13 = .ok (.getfield 28, 3) := by decide +kernel
theorem dX3_rainDay_16 : decode cX3_rainDay 16 = .ok (.iload 4, 2) := by decide +kernel
theorem dX3_rainDay_18 : decode cX3_rainDay 18 = .ok (.invokestatic 33, 3) := by decide +kernel
theorem dX3_rainDay_21 : decode cX3_rainDay 21 = .ok (.istore 5, 2) := by decide +kernel
theorem dX3_rainDay_23 : decode cX3_rainDay 23 = .ok (.aload_n 2, 1) := by decide +kernel
theorem dX3_rainDay_24 : decode cX3_rainDay 24 = .ok (.getfield 37, 3) := by decide +kernel
theorem dX3_rainDay_27 : decode cX3_rainDay 27 = .ok (.iload 5, 2) := by decide +kernel
theorem dX3_rainDay_29 : decode cX3_rainDay 29 = .ok (.bipush 9, 2) := by decide +kernel
theorem dX3_rainDay_31 : decode cX3_rainDay 31 = .ok (.aload_n 2, 1) := by decide +kernel
theorem dX3_rainDay_32 : decode cX3_rainDay 32 = .ok (.getfield 37, 3) := by decide +kernel
theorem dX3_rainDay_35 : decode cX3_rainDay 35 = .ok (.iload 5, 2) := by decide +kernel
theorem dX3_rainDay_37 : decode cX3_rainDay 37 = .ok (.invokestatic 33, 3) := by decide +kernel
theorem dX3_rainDay_40 : decode cX3_rainDay 40 = .ok (.iload_n 3, 1) := by decide +kernel
theorem dX3_rainDay_41 : decode cX3_rainDay 41 = .ok (.iadd, 1) := by decide +kernel
theorem dX3_rainDay_42 : decode cX3_rainDay 42 = .ok (.invokestatic 40, 3) := by decide +kernel
theorem dX3_rainDay_45 : decode cX3_rainDay 45 = .ok (.invokestatic 46, 3) := by decide +kernel
theorem dX3_rainDay_48 : decode cX3_rainDay 48 = .ok (.iinc 4 1, 3) := by decide +kernel
theorem dX3_rainDay_51 : decode cX3_rainDay 51 = .ok (.goto (-48), 3) := by decide +kernel
theorem dX3_rainDay_54 : decode cX3_rainDay 54 = .ok (.aload_n 2, 1) := by decide +kernel
theorem dX3_rainDay_55 : decode cX3_rainDay 55 = .ok (.getfield 37, 3) := by decide +kernel
theorem dX3_rainDay_58 : decode cX3_rainDay 58 = .ok (.iconst 0, 1) := by decide +kernel
theorem dX3_rainDay_59 : decode cX3_rainDay 59 = .ok (.aload_n 0, 1) := by decide +kernel
theorem dX3_rainDay_60 : decode cX3_rainDay 60 = .ok (.getfield 9, 3) := by decide +kernel
theorem dX3_rainDay_63 : decode cX3_rainDay 63 = .ok (.iconst 0, 1) := by decide +kernel
theorem dX3_rainDay_64 : decode cX3_rainDay 64 = .ok (.bipush 25, 2) := by decide +kernel
theorem dX3_rainDay_66 : decode cX3_rainDay 66 = .ok (.invokestatic 50, 3) := by decide +kernel
theorem dX3_rainDay_69 : decode cX3_rainDay 69 = .ok (.aload_n 0, 1) := by decide +kernel
theorem dX3_rainDay_70 : decode cX3_rainDay 70 = .ok (.aload_n 1, 1) := by decide +kernel
theorem dX3_rainDay_71 : decode cX3_rainDay 71 = .ok (.aload_n 2, 1) := by decide +kernel
theorem dX3_rainDay_72 : decode cX3_rainDay 72 = .ok (.invokevirtual 56, 3) := by decide +kernel
theorem dX3_rainDay_75 : decode cX3_rainDay 75 = .ok (.aload_n 0, 1) := by decide +kernel
theorem dX3_rainDay_76 : decode cX3_rainDay 76 = .ok (.aload_n 1, 1) := by decide +kernel
theorem dX3_rainDay_77 : decode cX3_rainDay 77 = .ok (.aload_n 2, 1) := by decide +kernel
theorem dX3_rainDay_78 : decode cX3_rainDay 78 = .ok (.invokevirtual 60, 3) := by decide +kernel
theorem dX3_rainDay_81 : decode cX3_rainDay 81 = .ok (.aload_n 0, 1) := by decide +kernel
theorem dX3_rainDay_82 : decode cX3_rainDay 82 = .ok (.aload_n 2, 1) := by decide +kernel
theorem dX3_rainDay_83 : decode cX3_rainDay 83 = .ok (.iload_n 3, 1) := by decide +kernel
theorem dX3_rainDay_84 : decode cX3_rainDay 84 = .ok (.ifCond .ne 7, 3) := by decide +kernel
theorem dX3_rainDay_87 : decode cX3_rainDay 87 = .ok (.iconst 1, 1) := by decide +kernel
theorem dX3_rainDay_88 : decode cX3_rainDay 88 = .ok (.goto 4, 3) := by decide +kernel
theorem dX3_rainDay_91 : decode cX3_rainDay 91 = .ok (.iconst 0, 1) := by decide +kernel
theorem dX3_rainDay_92 : decode cX3_rainDay 92 = .ok (.invokevirtual 63, 3) := by decide +kernel
theorem dX3_rainDay_95 : decode cX3_rainDay 95 = .ok (.aload_n 2, 1) := by decide +kernel
theorem dX3_rainDay_96 : decode cX3_rainDay 96 = .ok (.dup, 1) := by decide +kernel
theorem dX3_rainDay_97 : decode cX3_rainDay 97 = .ok (.getfield 67, 3) := by decide +kernel
theorem dX3_rainDay_100 : decode cX3_rainDay 100 = .ok (.iconst 1, 1) := by decide +kernel
theorem dX3_rainDay_101 : decode cX3_rainDay 101 = .ok (.iadd, 1) := by decide +kernel
theorem dX3_rainDay_102 : decode cX3_rainDay 102 = .ok (.putfield 67, 3) := by decide +kernel
theorem dX3_rainDay_105 : decode cX3_rainDay 105 = .ok (.return_, 1) := by decide +kernel
theorem dX3_runDownAndByWind_0 : decode cX3_runDownAndByWind 0 = .ok (.iconst 0, 1) := by decide +kernel
theorem dX3_runDownAndByWind_1 : decode cX3_runDownAndByWind 1 = .ok (.istore_n 3, 1) := by decide +kernel
theorem dX3_runDownAndByWind_2 : decode cX3_runDownAndByWind 2 = .ok (.iload_n 3, 1) := by decide +kernel
theorem dX3_runDownAndByWind_3 : decode cX3_runDownAndByWind 3 = .ok (.aload_n 0, 1) := by decide +kernel
theorem dX3_runDownAndByWind_4 : decode cX3_runDownAndByWind 4 = .ok (.getfield 9, 3) := by decide +kernel
theorem dX3_runDownAndByWind_7 : decode cX3_runDownAndByWind 7 = .ok (.arraylength, 1) := by decide +kernel
theorem dX3_runDownAndByWind_8 : decode cX3_runDownAndByWind 8 = .ok (.if_icmp .ge 55, 3) := by decide +kernel
theorem dX3_runDownAndByWind_11 : decode cX3_runDownAndByWind 11 = .ok (.aload_n 0, 1) := by decide +kernel
theorem dX3_runDownAndByWind_12 : decode cX3_runDownAndByWind 12 = .ok (.getfield 9, 3) := by decide +kernel
theorem dX3_runDownAndByWind_15 : decode cX3_runDownAndByWind 15 = .ok (.iload_n 3, 1) := by decide +kernel
theorem dX3_runDownAndByWind_16 : decode cX3_runDownAndByWind 16 = .ok (.iaload, 1) := by decide +kernel
theorem dX3_runDownAndByWind_17 : decode cX3_runDownAndByWind 17 = .ok (.iconst 2, 1) := by decide +kernel
theorem dX3_runDownAndByWind_18 : decode cX3_runDownAndByWind 18 = .ok (.if_icmp .lt 14, 3) := by decide +kernel
theorem dX3_runDownAndByWind_21 : decode cX3_runDownAndByWind 21 = .ok (.aload_n 0, 1) := by decide +kernel
theorem dX3_runDownAndByWind_22 : decode cX3_runDownAndByWind 22 = .ok (.aload_n 2, 1) := by decide +kernel
theorem dX3_runDownAndByWind_23 : decode cX3_runDownAndByWind 23 = .ok (.iload_n 3, 1) := by decide +kernel
theorem dX3_runDownAndByWind_24 : decode cX3_runDownAndByWind 24 = .ok (.aload_n 1, 1) := by decide +kernel
theorem dX3_runDownAndByWind_25 : decode cX3_runDownAndByWind 25 = .ok (.iload_n 3, 1) := by decide +kernel
theorem dX3_runDownAndByWind_26 : decode cX3_runDownAndByWind 26 = .ok (.invokevirtual 70, 3) := by decide +kernel
theorem dX3_runDownAndByWind_29 : decode cX3_runDownAndByWind 29 = .ok (.invokevirtual 74, 3) := by decide +kernel
theorem dX3_runDownAndByWind_32 : decode cX3_runDownAndByWind 32 = .ok (.aload_n 0, 1) := by decide +kernel
theorem dX3_runDownAndByWind_33 : decode cX3_runDownAndByWind 33 = .ok (.getfield 9, 3) := by decide +kernel
theorem dX3_runDownAndByWind_36 : decode cX3_runDownAndByWind 36 = .ok (.iload_n 3, 1) := by decide +kernel
theorem dX3_runDownAndByWind_37 : decode cX3_runDownAndByWind 37 = .ok (.iaload, 1) := by decide +kernel
theorem dX3_runDownAndByWind_38 : decode cX3_runDownAndByWind 38 = .ok (.iconst 4, 1) := by decide +kernel
theorem dX3_runDownAndByWind_39 : decode cX3_runDownAndByWind 39 = .ok (.if_icmp .lt 18, 3) := by decide +kernel
theorem dX3_runDownAndByWind_42 : decode cX3_runDownAndByWind 42 = .ok (.aload_n 0, 1) := by decide +kernel
theorem dX3_runDownAndByWind_43 : decode cX3_runDownAndByWind 43 = .ok (.aload_n 2, 1) := by decide +kernel
theorem dX3_runDownAndByWind_44 : decode cX3_runDownAndByWind 44 = .ok (.iload_n 3, 1) := by decide +kernel
theorem dX3_runDownAndByWind_45 : decode cX3_runDownAndByWind 45 = .ok (.aload_n 1, 1) := by decide +kernel
theorem dX3_runDownAndByWind_46 : decode cX3_runDownAndByWind 46 = .ok (.iload_n 3, 1) := by decide +kernel
theorem dX3_runDownAndByWind_47 : decode cX3_runDownAndByWind 47 = .ok (.aload_n 2, 1) := by decide +kernel
theorem dX3_runDownAndByWind_48 : decode cX3_runDownAndByWind 48 = .ok (.getfield 78, 3) := by decide +kernel
theorem dX3_runDownAndByWind_51 : decode cX3_runDownAndByWind 51 = .ok (.invokevirtual 81, 3) := by decide +kernel
theorem dX3_runDownAndByWind_54 : decode cX3_runDownAndByWind 54 = .ok (.invokevirtual 74, 3) := by decide +kernel
theorem dX3_runDownAndByWind_57 : decode cX3_runDownAndByWind 57 = .ok (.iinc 3 1, 3) := by decide +kernel
theorem dX3_runDownAndByWind_60 : decode cX3_runDownAndByWind 60 = .ok (.goto (-58), 3) := by decide +kernel
theorem dX3_runDownAndByWind_63 : decode cX3_runDownAndByWind 63 = .ok (.return_, 1) := by decide +kernel
theorem dX3_runByCracks_0 : decode cX3_runByCracks 0 = .ok (.iconst 0, 1) := by decide +kernel
theorem dX3_runByCracks_1 : decode cX3_runByCracks 1 = .ok (.istore_n 3, 1) := by decide +kernel
theorem dX3_runByCracks_2 : decode cX3_runByCracks 2 = .ok (.iload_n 3, 1) := by decide +kernel
theorem dX3_runByCracks_3 : decode cX3_runByCracks 3 = .ok (.aload_n 1, 1) := by decide +kernel
theorem dX3_runByCracks_4 : decode cX3_runByCracks 4 = .ok (.getfield 84, 3) := by decide +kernel
theorem dX3_runByCracks_7 : decode cX3_runByCracks 7 = .ok (.if_icmp .ge 95, 3) := by decide +kernel
theorem dX3_runByCracks_10 : decode cX3_runByCracks 10 = .ok (.aload_n 2, 1) := by decide +kernel
theorem dX3_runByCracks_11 : decode cX3_runByCracks 11 = .ok (.iload_n 3, 1) := by decide +kernel
theorem dX3_runByCracks_12 : decode cX3_runByCracks 12 = .ok (.invokevirtual 87, 3) := by decide +kernel
theorem dX3_runByCracks_15 : decode cX3_runByCracks 15 = .ok (.ifCond .eq 6, 3) := by decide +kernel
theorem dX3_runByCracks_18 : decode cX3_runByCracks 18 = .ok (.goto 78, 3) := by decide +kernel
theorem dX3_runByCracks_21 : decode cX3_runByCracks 21 = .ok (.aload_n 1, 1) := by decide +kernel
theorem dX3_runByCracks_22 : decode cX3_runByCracks 22 = .ok (.getfield 91, 3) := by decide +kernel
theorem dX3_runByCracks_25 : decode cX3_runByCracks 25 = .ok (.iload_n 3, 1) := by decide +kernel
theorem dX3_runByCracks_26 : decode cX3_runByCracks 26 = .ok (.invokestatic 33, 3) := by decide +kernel
theorem dX3_runByCracks_29 : decode cX3_runByCracks 29 = .ok (.istore 4, 2) := by decide +kernel
theorem dX3_runByCracks_31 : decode cX3_runByCracks 31 = .ok (.aload_n 1, 1) := by decide +kernel
theorem dX3_runByCracks_32 : decode cX3_runByCracks 32 = .ok (.getfield 94, 3) := by decide +kernel
theorem dX3_runByCracks_35 : decode cX3_runByCracks 35 = .ok (.iload_n 3, 1) := by decide +kernel
theorem dX3_runByCracks_36 : decode cX3_runByCracks 36 = .ok (.invokestatic 33, 3) := by decide +kernel
theorem dX3_runByCracks_39 : decode cX3_runByCracks 39 = .ok (.istore 5, 2) := by decide +kernel
theorem dX3_runByCracks_41 : decode cX3_runByCracks 41 = .ok (.aload_n 0, 1) := by decide +kernel
theorem dX3_runByCracks_42 : decode cX3_runByCracks 42 = .ok (.getfield 9, 3) := by decide +kernel
theorem dX3_runByCracks_45 : decode cX3_runByCracks 45 = .ok (.iload 4, 2) := by decide +kernel
theorem dX3_runByCracks_47 : decode cX3_runByCracks 47 = .ok (.invokestatic 33, 3) := by decide +kernel
theorem dX3_runByCracks_50 : decode cX3_runByCracks 50 = .ok (.aload_n 0, 1) := by decide +kernel
theorem dX3_runByCracks_51 : decode cX3_runByCracks 51 = .ok (.getfield 9, 3) := by decide +kernel
theorem dX3_runByCracks_54 : decode cX3_runByCracks 54 = .ok (.iload 5, 2) := by decide +kernel
theorem dX3_runByCracks_56 : decode cX3_runByCracks 56 = .ok (.invokestatic 33, 3) := by decide +kernel
theorem dX3_runByCracks_59 : decode cX3_runByCracks 59 = .ok (.isub, 1) := by decide +kernel
theorem dX3_runByCracks_60 : decode cX3_runByCracks 60 = .ok (.istore 6, 2) := by decide +kernel
theorem dX3_runByCracks_62 : decode cX3_runByCracks 62 = .ok (.iload 6, 2) := by decide +kernel
theorem dX3_runByCracks_64 : decode cX3_runByCracks 64 = .ok (.iconst 2, 1) := by decide +kernel
theorem dX3_runByCracks_65 : decode cX3_runByCracks 65 = .ok (.if_icmp .lt 15, 3) := by decide +kernel
theorem dX3_runByCracks_68 : decode cX3_runByCracks 68 = .ok (.aload_n 0, 1) := by decide +kernel
theorem dX3_runByCracks_69 : decode cX3_runByCracks 69 = .ok (.aload_n 2, 1) := by decide +kernel
theorem dX3_runByCracks_70 : decode cX3_runByCracks 70 = .ok (.iload 4, 2) := by decide +kernel
theorem dX3_runByCracks_72 : decode cX3_runByCracks 72 = .ok (.iload 5, 2) := by decide +kernel
theorem dX3_runByCracks_74 : decode cX3_runByCracks 74 = .ok (.invokevirtual 74, 3) := by decide +kernel
theorem dX3_runByCracks_77 : decode cX3_runByCracks 77 = .ok (.goto 19, 3) := by decide +kernel
theorem dX3_runByCracks_80 : decode cX3_runByCracks 80 = .ok (.iload 6, 2) := by decide +kernel
theorem dX3_runByCracks_82 : decode cX3_runByCracks 82 = .ok (.bipush (-2), 2) := by decide +kernel
theorem dX3_runByCracks_84 : decode cX3_runByCracks 84 = .ok (.if_icmp .gt 12, 3) := by decide +kernel
theorem dX3_runByCracks_87 : decode cX3_runByCracks 87 = .ok (.aload_n 0, 1) := by decide +kernel
theorem dX3_runByCracks_88 : decode cX3_runByCracks 88 = .ok (.aload_n 2, 1) := by decide +kernel
theorem dX3_runByCracks_89 : decode cX3_runByCracks 89 = .ok (.iload 5, 2) := by decide +kernel
theorem dX3_runByCracks_91 : decode cX3_runByCracks 91 = .ok (.iload 4, 2) := by decide +kernel
theorem dX3_runByCracks_93 : decode cX3_runByCracks 93 = .ok (.invokevirtual 74, 3) := by decide +kernel
theorem dX3_runByCracks_96 : decode cX3_runByCracks 96 = .ok (.iinc 3 1, 3) := by decide +kernel
theorem dX3_runByCracks_99 : decode cX3_runByCracks 99 = .ok (.goto (-97), 3) := by decide +kernel
theorem dX3_runByCracks_102 : decode cX3_runByCracks 102 = .ok (.return_, 1) := by decide +kernel
theorem dX3_give_0 : decode cX3_give 0 = .ok (.iload_n 3, 1) := by decide +kernel
theorem dX3_give_1 : decode cX3_give 1 = .ok (.iconst (-1), 1) := by decide +kernel
theorem dX3_give_2 : decode cX3_give 2 = .ok (.if_icmp .eq 50, 3) := by decide +kernel
theorem dX3_give_5 : decode cX3_give 5 = .ok (.aload_n 1, 1) := by decide +kernel
theorem dX3_give_6 : decode cX3_give 6 = .ok (.getfield 37, 3) := by decide +kernel
theorem dX3_give_9 : decode cX3_give 9 = .ok (.iload_n 2, 1) := by decide +kernel
theorem dX3_give_10 : decode cX3_give 10 = .ok (.invokestatic 33, 3) := by decide +kernel
theorem dX3_give_13 : decode cX3_give 13 = .ok (.ifCond .le 39, 3) := by decide +kernel
theorem dX3_give_16 : decode cX3_give 16 = .ok (.aload_n 1, 1) := by decide +kernel
theorem dX3_give_17 : decode cX3_give 17 = .ok (.getfield 37, 3) := by decide +kernel
theorem dX3_give_20 : decode cX3_give 20 = .ok (.iload_n 2, 1) := by decide +kernel
theorem dX3_give_21 : decode cX3_give 21 = .ok (.aload_n 1, 1) := by decide +kernel
theorem dX3_give_22 : decode cX3_give 22 = .ok (.getfield 37, 3) := by decide +kernel
theorem dX3_give_25 : decode cX3_give 25 = .ok (.iload_n 2, 1) := by decide +kernel
theorem dX3_give_26 : decode cX3_give 26 = .ok (.invokestatic 33, 3) := by decide +kernel
theorem dX3_give_29 : decode cX3_give 29 = .ok (.iconst 1, 1) := by decide +kernel
theorem dX3_give_30 : decode cX3_give 30 = .ok (.isub, 1) := by decide +kernel
theorem dX3_give_31 : decode cX3_give 31 = .ok (.invokestatic 46, 3) := by decide +kernel
theorem dX3_give_34 : decode cX3_give 34 = .ok (.aload_n 0, 1) := by decide +kernel
theorem dX3_give_35 : decode cX3_give 35 = .ok (.getfield 15, 3) := by decide +kernel
theorem dX3_give_38 : decode cX3_give 38 = .ok (.iload_n 3, 1) := by decide +kernel
theorem dX3_give_39 : decode cX3_give 39 = .ok (.aload_n 0, 1) := by decide +kernel
theorem dX3_give_40 : decode cX3_give 40 = .ok (.getfield 15, 3) := by decide +kernel
theorem dX3_give_43 : decode cX3_give 43 = .ok (.iload_n 3, 1) := by decide +kernel
theorem dX3_give_44 : decode cX3_give 44 = .ok (.invokestatic 33, 3) := by decide +kernel
theorem dX3_give_47 : decode cX3_give 47 = .ok (.iconst 1, 1) := by decide +kernel
theorem dX3_give_48 : decode cX3_give 48 = .ok (.iadd, 1) := by decide +kernel
theorem dX3_give_49 : decode cX3_give 49 = .ok (.invokestatic 46, 3) := by decide +kernel
theorem dX3_give_52 : decode cX3_give 52 = .ok (.return_, 1) := by decide +kernel
theorem dX3_settle_0 : decode cX3_settle 0 = .ok (.iconst 0, 1) := by decide +kernel
theorem dX3_settle_1 : decode cX3_settle 1 = .ok (.istore_n 3, 1) := by decide +kernel
theorem dX3_settle_2 : decode cX3_settle 2 = .ok (.iload_n 3, 1) := by decide +kernel
theorem dX3_settle_3 : decode cX3_settle 3 = .ok (.aload_n 0, 1) := by decide +kernel
theorem dX3_settle_4 : decode cX3_settle 4 = .ok (.getfield 15, 3) := by decide +kernel
theorem dX3_settle_7 : decode cX3_settle 7 = .ok (.arraylength, 1) := by decide +kernel
theorem dX3_settle_8 : decode cX3_settle 8 = .ok (.if_icmp .ge 54, 3) := by decide +kernel
theorem dX3_settle_11 : decode cX3_settle 11 = .ok (.bipush 9, 2) := by decide +kernel
theorem dX3_settle_13 : decode cX3_settle 13 = .ok (.aload_n 1, 1) := by decide +kernel
theorem dX3_settle_14 : decode cX3_settle 14 = .ok (.getfield 37, 3) := by decide +kernel
theorem dX3_settle_17 : decode cX3_settle 17 = .ok (.iload_n 3, 1) := by decide +kernel
theorem dX3_settle_18 : decode cX3_settle 18 = .ok (.invokestatic 33, 3) := by decide +kernel
theorem dX3_settle_21 : decode cX3_settle 21 = .ok (.aload_n 0, 1) := by decide +kernel
theorem dX3_settle_22 : decode cX3_settle 22 = .ok (.getfield 15, 3) := by decide +kernel
theorem dX3_settle_25 : decode cX3_settle 25 = .ok (.iload_n 3, 1) := by decide +kernel
theorem dX3_settle_26 : decode cX3_settle 26 = .ok (.iaload, 1) := by decide +kernel
theorem dX3_settle_27 : decode cX3_settle 27 = .ok (.iadd, 1) := by decide +kernel
theorem dX3_settle_28 : decode cX3_settle 28 = .ok (.invokestatic 40, 3) := by decide +kernel
theorem dX3_settle_31 : decode cX3_settle 31 = .ok (.istore 4, 2) := by decide +kernel
theorem dX3_settle_33 : decode cX3_settle 33 = .ok (.aload_n 1, 1) := by decide +kernel
theorem dX3_settle_34 : decode cX3_settle 34 = .ok (.getfield 37, 3) := by decide +kernel
theorem dX3_settle_37 : decode cX3_settle 37 = .ok (.iload_n 3, 1) := by decide +kernel
theorem dX3_settle_38 : decode cX3_settle 38 = .ok (.iconst 0, 1) := by decide +kernel
theorem dX3_settle_39 : decode cX3_settle 39 = .ok (.iload 4, 2) := by decide +kernel
theorem dX3_settle_41 : decode cX3_settle 41 = .ok (.iload_n 2, 1) := by decide +kernel
theorem dX3_settle_42 : decode cX3_settle 42 = .ok (.isub, 1) := by decide +kernel
theorem dX3_settle_43 : decode cX3_settle 43 = .ok (.invokestatic 97, 3) := by decide +kernel
theorem dX3_settle_46 : decode cX3_settle 46 = .ok (.invokestatic 46, 3) := by decide +kernel
theorem dX3_settle_49 : decode cX3_settle 49 = .ok (.aload_n 0, 1) := by decide +kernel
theorem dX3_settle_50 : decode cX3_settle 50 = .ok (.getfield 15, 3) := by decide +kernel
theorem dX3_settle_53 : decode cX3_settle 53 = .ok (.iload_n 3, 1) := by decide +kernel
theorem dX3_settle_54 : decode cX3_settle 54 = .ok (.iconst 0, 1) := by decide +kernel
theorem dX3_settle_55 : decode cX3_settle 55 = .ok (.iastore, 1) := by decide +kernel
theorem dX3_settle_56 : decode cX3_settle 56 = .ok (.iinc 3 1, 3) := by decide +kernel
theorem dX3_settle_59 : decode cX3_settle 59 = .ok (.goto (-57), 3) := by decide +kernel
theorem dX3_settle_62 : decode cX3_settle 62 = .ok (.return_, 1) := by decide +kernel
theorem dX4_init_0 : decode cX4_init 0 = .ok (.aload_n 0, 1) := by decide +kernel
theorem dX4_init_1 : decode cX4_init 1 = .ok (.invokespecial 1, 3) := by decide +kernel
theorem dX4_init_4 : decode cX4_init 4 = .ok (.aload_n 0, 1) := by decide +kernel
theorem dX4_init_5 : decode cX4_init 5 = .ok (.new 7, 3) := by decide +kernel
theorem dX4_init_8 : decode cX4_init 8 = .ok (.dup, 1) := by decide +kernel
theorem dX4_init_9 : decode cX4_init 9 = .ok (.invokespecial 9, 3) := by decide +kernel
theorem dX4_init_12 : decode cX4_init 12 = .ok (.putfield 10, 3) := by decide +kernel
theorem dX4_init_15 : decode cX4_init 15 = .ok (.return_, 1) := by decide +kernel
theorem dX5_besideSet_0 : decode cX5_besideSet 0 = .ok (.iload_n 2, 1) := by decide +kernel
theorem dX5_besideSet_1 : decode cX5_besideSet 1 = .ok (.tableswitch 62 0 2 #[27, 39, 46], 27) := by decide +kernel
theorem dX5_besideSet_28 : decode cX5_besideSet 28 = .ok (.iload_n 1, 1) := by decide +kernel
theorem dX5_besideSet_29 : decode cX5_besideSet 29 = .ok (.aload_n 0, 1) := by decide +kernel
theorem dX5_besideSet_30 : decode cX5_besideSet 30 = .ok (.getfield 9, 3) := by decide +kernel
theorem dX5_besideSet_33 : decode cX5_besideSet 33 = .ok (.ishl, 1) := by decide +kernel
theorem dX5_besideSet_34 : decode cX5_besideSet 34 = .ok (.aload_n 0, 1) := by decide +kernel
theorem dX5_besideSet_35 : decode cX5_besideSet 35 = .ok (.getfield 15, 3) := by decide +kernel
theorem dX5_besideSet_38 : decode cX5_besideSet 38 = .ok (.iand, 1) := by decide +kernel
theorem dX5_besideSet_39 : decode cX5_besideSet 39 = .ok (.ireturn, 1) := by decide +kernel
theorem dX5_besideSet_40 : decode cX5_besideSet 40 = .ok (.iload_n 1, 1) := by decide +kernel
theorem dX5_besideSet_41 : decode cX5_besideSet 41 = .ok (.aload_n 0, 1) := by decide +kernel
theorem dX5_besideSet_42 : decode cX5_besideSet 42 = .ok (.getfield 9, 3) := by decide +kernel
theorem dX5_besideSet_45 : decode cX5_besideSet 45 = .ok (.ishr, 1) := by decide +kernel
theorem dX5_besideSet_46 : decode cX5_besideSet 46 = .ok (.ireturn, 1) := by decide +kernel
theorem dX5_besideSet_47 : decode cX5_besideSet 47 = .ok (.iload_n 1, 1) := by decide +kernel
theorem dX5_besideSet_48 : decode cX5_besideSet 48 = .ok (.iconst 1, 1) := by decide +kernel
theorem dX5_besideSet_49 : decode cX5_besideSet 49 = .ok (.ishl, 1) := by decide +kernel
theorem dX5_besideSet_50 : decode cX5_besideSet 50 = .ok (.aload_n 0, 1) := by decide +kernel
theorem dX5_besideSet_51 : decode cX5_besideSet 51 = .ok (.getfield 15, 3) := by decide +kernel
theorem dX5_besideSet_54 : decode cX5_besideSet 54 = .ok (.iand, 1) := by decide +kernel
theorem dX5_besideSet_55 : decode cX5_besideSet 55 = .ok (.aload_n 0, 1) := by decide +kernel
theorem dX5_besideSet_56 : decode cX5_besideSet 56 = .ok (.getfield 18, 3) := by decide +kernel
theorem dX5_besideSet_59 : decode cX5_besideSet 59 = .ok (.iconst (-1), 1) := by decide +kernel
theorem dX5_besideSet_60 : decode cX5_besideSet 60 = .ok (.ixor, 1) := by decide +kernel
theorem dX5_besideSet_61 : decode cX5_besideSet 61 = .ok (.iand, 1) := by decide +kernel
theorem dX5_besideSet_62 : decode cX5_besideSet 62 = .ok (.ireturn, 1) := by decide +kernel
theorem dX5_besideSet_63 : decode cX5_besideSet 63 = .ok (.iload_n 1, 1) := by decide +kernel
theorem dX5_besideSet_64 : decode cX5_besideSet 64 = .ok (.aload_n 0, 1) := by decide +kernel
theorem dX5_besideSet_65 : decode cX5_besideSet 65 = .ok (.getfield 18, 3) := by decide +kernel
theorem dX5_besideSet_68 : decode cX5_besideSet 68 = .ok (.iconst (-1), 1) := by decide +kernel
theorem dX5_besideSet_69 : decode cX5_besideSet 69 = .ok (.ixor, 1) := by decide +kernel
theorem dX5_besideSet_70 : decode cX5_besideSet 70 = .ok (.iand, 1) := by decide +kernel
theorem dX5_besideSet_71 : decode cX5_besideSet 71 = .ok (.iconst 1, 1) := by decide +kernel
theorem dX5_besideSet_72 : decode cX5_besideSet 72 = .ok (.ishr, 1) := by decide +kernel
theorem dX5_besideSet_73 : decode cX5_besideSet 73 = .ok (.ireturn, 1) := by decide +kernel
theorem dX5_lonely_0 : decode cX5_lonely 0 = .ok (.iconst 0, 1) := by decide +kernel
theorem dX5_lonely_1 : decode cX5_lonely 1 = .ok (.istore_n 2, 1) := by decide +kernel
theorem dX5_lonely_2 : decode cX5_lonely 2 = .ok (.iconst 0, 1) := by decide +kernel
theorem dX5_lonely_3 : decode cX5_lonely 3 = .ok (.istore_n 3, 1) := by decide +kernel
theorem dX5_lonely_4 : decode cX5_lonely 4 = .ok (.iconst 0, 1) := by decide +kernel
theorem dX5_lonely_5 : decode cX5_lonely 5 = .ok (.istore 4, 2) := by decide +kernel
theorem dX5_lonely_7 : decode cX5_lonely 7 = .ok (.iload 4, 2) := by decide +kernel
theorem dX5_lonely_9 : decode cX5_lonely 9 = .ok (.iconst 4, 1) := by decide +kernel
theorem dX5_lonely_10 : decode cX5_lonely 10 = .ok (.if_icmp .ge 30, 3) := by decide +kernel
theorem dX5_lonely_13 : decode cX5_lonely 13 = .ok (.aload_n 0, 1) := by decide +kernel
theorem dX5_lonely_14 : decode cX5_lonely 14 = .ok (.iload_n 1, 1) := by decide +kernel
theorem dX5_lonely_15 : decode cX5_lonely 15 = .ok (.iload 4, 2) := by decide +kernel
theorem dX5_lonely_17 : decode cX5_lonely 17 = .ok (.invokestatic 21, 3) := by decide +kernel
theorem dX5_lonely_20 : decode cX5_lonely 20 = .ok (.istore 5, 2) := by decide +kernel
theorem dX5_lonely_22 : decode cX5_lonely 22 = .ok (.iload_n 3, 1) := by decide +kernel
theorem dX5_lonely_23 : decode cX5_lonely 23 = .ok (.iload_n 2, 1) := by decide +kernel
theorem dX5_lonely_24 : decode cX5_lonely 24 = .ok (.iload 5, 2) := by decide +kernel
theorem dX5_lonely_26 : decode cX5_lonely 26 = .ok (.iand, 1) := by decide +kernel
theorem dX5_lonely_27 : decode cX5_lonely 27 = .ok (.ior, 1) := by decide +kernel
theorem dX5_lonely_28 : decode cX5_lonely 28 = .ok (.istore_n 3, 1) := by decide +kernel
theorem dX5_lonely_29 : decode cX5_lonely 29 = .ok (.iload_n 2, 1) := by decide +kernel
theorem dX5_lonely_30 : decode cX5_lonely 30 = .ok (.iload 5, 2) := by decide +kernel
theorem dX5_lonely_32 : decode cX5_lonely 32 = .ok (.ior, 1) := by decide +kernel
theorem dX5_lonely_33 : decode cX5_lonely 33 = .ok (.istore_n 2, 1) := by decide +kernel
theorem dX5_lonely_34 : decode cX5_lonely 34 = .ok (.iinc 4 1, 3) := by decide +kernel
theorem dX5_lonely_37 : decode cX5_lonely 37 = .ok (.goto (-30), 3) := by decide +kernel
theorem dX5_lonely_40 : decode cX5_lonely 40 = .ok (.iload_n 1, 1) := by decide +kernel
theorem dX5_lonely_41 : decode cX5_lonely 41 = .ok (.iload_n 3, 1) := by decide +kernel
theorem dX5_lonely_42 : decode cX5_lonely 42 = .ok (.iconst (-1), 1) := by decide +kernel
theorem dX5_lonely_43 : decode cX5_lonely 43 = .ok (.ixor, 1) := by decide +kernel
theorem dX5_lonely_44 : decode cX5_lonely 44 = .ok (.iand, 1) := by decide +kernel
theorem dX5_lonely_45 : decode cX5_lonely 45 = .ok (.ireturn, 1) := by decide +kernel
theorem dX5_border_0 : decode cX5_border 0 = .ok (.iconst 0, 1) := by decide +kernel
theorem dX5_border_1 : decode cX5_border 1 = .ok (.istore_n 2, 1) := by decide +kernel
theorem dX5_border_2 : decode cX5_border 2 = .ok (.iconst 0, 1) := by decide +kernel
theorem dX5_border_3 : decode cX5_border 3 = .ok (.istore_n 3, 1) := by decide +kernel
theorem dX5_border_4 : decode cX5_border 4 = .ok (.iload_n 3, 1) := by decide +kernel
theorem dX5_border_5 : decode cX5_border 5 = .ok (.iconst 4, 1) := by decide +kernel
theorem dX5_border_6 : decode cX5_border 6 = .ok (.if_icmp .ge 25, 3) := by decide +kernel
theorem dX5_border_9 : decode cX5_border 9 = .ok (.iload_n 2, 1) := by decide +kernel
theorem dX5_border_10 : decode cX5_border 10 = .ok (.iload_n 1, 1) := by decide +kernel
theorem dX5_border_11 : decode cX5_border 11 = .ok (.aload_n 0, 1) := by decide +kernel
theorem dX5_border_12 : decode cX5_border 12 = .ok (.iload_n 1, 1) := by decide +kernel
theorem dX5_border_13 : decode cX5_border 13 = .ok (.iload_n 3, 1) := by decide +kernel
theorem dX5_border_14 : decode cX5_border 14 = .ok (.invokestatic 21, 3) := by decide +kernel
theorem dX5_border_17 : decode cX5_border 17 = .ok (.iconst (-1), 1) := by decide +kernel
theorem dX5_border_18 : decode cX5_border 18 = .ok (.ixor, 1) := by decide +kernel
theorem dX5_border_19 : decode cX5_border 19 = .ok (.iand, 1) := by decide +kernel
theorem dX5_border_20 : decode cX5_border 20 = .ok (.invokestatic 27, 3) := by decide +kernel
theorem dX5_border_23 : decode cX5_border 23 = .ok (.iadd, 1) := by decide +kernel
theorem dX5_border_24 : decode cX5_border 24 = .ok (.istore_n 2, 1) := by decide +kernel
theorem dX5_border_25 : decode cX5_border 25 = .ok (.iinc 3 1, 3) := by decide +kernel
theorem dX5_border_28 : decode cX5_border 28 = .ok (.goto (-24), 3) := by decide +kernel
theorem dX5_border_31 : decode cX5_border 31 = .ok (.iload_n 2, 1) := by decide +kernel
theorem dX5_border_32 : decode cX5_border 32 = .ok (.ireturn, 1) := by decide +kernel
theorem dX5_groupOf_0 : decode cX5_groupOf 0 = .ok (.iconst 1, 1) := by decide +kernel
theorem dX5_groupOf_1 : decode cX5_groupOf 1 = .ok (.iload_n 2, 1) := by decide +kernel
theorem dX5_groupOf_2 : decode cX5_groupOf 2 = .ok (.ishl, 1) := by decide +kernel
theorem dX5_groupOf_3 : decode cX5_groupOf 3 = .ok (.istore_n 3, 1) := by decide +kernel
theorem dX5_groupOf_4 : decode cX5_groupOf 4 = .ok (.iconst 0, 1) := by decide +kernel
theorem dX5_groupOf_5 : decode cX5_groupOf 5 = .ok (.istore 4, 2) := by decide +kernel
theorem dX5_groupOf_7 : decode cX5_groupOf 7 = .ok (.iload 4, 2) := by decide +kernel
theorem dX5_groupOf_9 : decode cX5_groupOf 9 = .ok (.bipush 25, 2) := by decide +kernel
theorem dX5_groupOf_11 : decode cX5_groupOf 11 = .ok (.if_icmp .ge 53, 3) := by decide +kernel
theorem dX5_groupOf_14 : decode cX5_groupOf 14 = .ok (.iload_n 3, 1) := by decide +kernel
theorem dX5_groupOf_15 : decode cX5_groupOf 15 = .ok (.istore 5, 2) := by decide +kernel
theorem dX5_groupOf_17 : decode cX5_groupOf 17 = .ok (.iconst 0, 1) := by decide +kernel
theorem dX5_groupOf_18 : decode cX5_groupOf 18 = .ok (.istore 6, 2) := by decide +kernel
theorem dX5_groupOf_20 : decode cX5_groupOf 20 = .ok (.iload 6, 2) := by decide +kernel
theorem dX5_groupOf_22 : decode cX5_groupOf 22 = .ok (.iconst 4, 1) := by decide +kernel
theorem dX5_groupOf_23 : decode cX5_groupOf 23 = .ok (.if_icmp .ge 23, 3) := by decide +kernel
theorem dX5_groupOf_26 : decode cX5_groupOf 26 = .ok (.iload 5, 2) := by decide +kernel
theorem dX5_groupOf_28 : decode cX5_groupOf 28 = .ok (.aload_n 0, 1) := by decide +kernel
theorem dX5_groupOf_29 : decode cX5_groupOf 29 = .ok (.iload_n 3, 1) := by decide +kernel
theorem dX5_groupOf_30 : decode cX5_groupOf 30 = .ok (.iload 6, 2) := by decide +kernel
theorem dX5_groupOf_32 : decode cX5_groupOf 32 = .ok (.invokestatic 21, 3) := by decide +kernel
theorem dX5_groupOf_35 : decode cX5_groupOf 35 = .ok (.iload_n 1, 1) := by decide +kernel
theorem dX5_groupOf_36 : decode cX5_groupOf 36 = .ok (.iand, 1) := by decide +kernel
theorem dX5_groupOf_37 : decode cX5_groupOf 37 = .ok (.ior, 1) := by decide +kernel
theorem dX5_groupOf_38 : decode cX5_groupOf 38 = .ok (.istore 5, 2) := by decide +kernel
theorem dX5_groupOf_40 : decode cX5_groupOf 40 = .ok (.iinc 6 1, 3) := by decide +kernel
theorem dX5_groupOf_43 : decode cX5_groupOf 43 = .ok (.goto (-23), 3) := by decide +kernel
theorem dX5_groupOf_46 : decode cX5_groupOf 46 = .ok (.iload 5, 2) := by decide +kernel
theorem dX5_groupOf_48 : decode cX5_groupOf 48 = .ok (.iload_n 3, 1) := by decide +kernel
theorem dX5_groupOf_49 : decode cX5_groupOf 49 = .ok (.if_icmp .ne 6, 3) := by decide +kernel
theorem dX5_groupOf_52 : decode cX5_groupOf 52 = .ok (.goto 12, 3) := by decide +kernel
theorem dX5_groupOf_55 : decode cX5_groupOf 55 = .ok (.iload 5, 2) := by decide +kernel
theorem dX5_groupOf_57 : decode cX5_groupOf 57 = .ok (.istore_n 3, 1) := by decide +kernel
theorem dX5_groupOf_58 : decode cX5_groupOf 58 = .ok (.iinc 4 1, 3) := by decide +kernel
theorem dX5_groupOf_61 : decode cX5_groupOf 61 = .ok (.goto (-54), 3) := by decide +kernel
theorem dX5_groupOf_64 : decode cX5_groupOf 64 = .ok (.iload_n 3, 1) := by decide +kernel
theorem dX5_groupOf_65 : decode cX5_groupOf 65 = .ok (.ireturn, 1) := by decide +kernel
theorem dX5_groups_0 : decode cX5_groups 0 = .ok (.iload_n 1, 1) := by decide +kernel
theorem dX5_groups_1 : decode cX5_groups 1 = .ok (.istore_n 2, 1) := by decide +kernel
theorem dX5_groups_2 : decode cX5_groups 2 = .ok (.iconst 0, 1) := by decide +kernel
theorem dX5_groups_3 : decode cX5_groups 3 = .ok (.istore_n 3, 1) := by decide +kernel
theorem dX5_groups_4 : decode cX5_groups 4 = .ok (.iconst 0, 1) := by decide +kernel
theorem dX5_groups_5 : decode cX5_groups 5 = .ok (.istore 4, 2) := by decide +kernel
theorem dX5_groups_7 : decode cX5_groups 7 = .ok (.iload 4, 2) := by decide +kernel
theorem dX5_groups_9 : decode cX5_groups 9 = .ok (.aload_n 0, 1) := by decide +kernel
theorem dX5_groups_10 : decode cX5_groups 10 = .ok (.invokevirtual 33, 3) := by decide +kernel
theorem dX5_groups_13 : decode cX5_groups 13 = .ok (.if_icmp .ge 33, 3) := by decide +kernel
theorem dX5_groups_16 : decode cX5_groups 16 = .ok (.iload_n 2, 1) := by decide +kernel
theorem dX5_groups_17 : decode cX5_groups 17 = .ok (.iload 4, 2) := by decide +kernel
theorem dX5_groups_19 : decode cX5_groups 19 = .ok (.ishr, 1) := by decide +kernel
theorem dX5_groups_20 : decode cX5_groups 20 = .ok (.iconst 1, 1) := by decide +kernel
theorem dX5_groups_21 : decode cX5_groups 21 = .ok (.iand, 1) := by decide +kernel
theorem dX5_groups_22 : decode cX5_groups 22 = .ok (.ifCond .eq 18, 3) := by decide +kernel
theorem dX5_groups_25 : decode cX5_groups 25 = .ok (.iload_n 2, 1) := by decide +kernel
theorem dX5_groups_26 : decode cX5_groups 26 = .ok (.aload_n 0, 1) := by decide +kernel
theorem dX5_groups_27 : decode cX5_groups 27 = .ok (.iload_n 1, 1) := by decide +kernel
theorem dX5_groups_28 : decode cX5_groups 28 = .ok (.iload 4, 2) := by decide +kernel
theorem dX5_groups_30 : decode cX5_groups 30 = .ok (.invokestatic 37, 3) := by decide +kernel
theorem dX5_groups_33 : decode cX5_groups 33 = .ok (.iconst (-1), 1) := by decide +kernel
theorem dX5_groups_34 : decode cX5_groups 34 = .ok (.ixor, 1) := by decide +kernel
theorem dX5_groups_35 : decode cX5_groups 35 = .ok (.iand, 1) := by decide +kernel
theorem dX5_groups_36 : decode cX5_groups 36 = .ok (.istore_n 2, 1) := by decide +kernel
theorem dX5_groups_37 : decode cX5_groups 37 = .ok (.iinc 3 1, 3) := by decide +kernel
theorem dX5_groups_40 : decode cX5_groups 40 = .ok (.iinc 4 1, 3) := by decide +kernel
theorem dX5_groups_43 : decode cX5_groups 43 = .ok (.goto (-36), 3) := by decide +kernel
theorem dX5_groups_46 : decode cX5_groups 46 = .ok (.iload_n 3, 1) := by decide +kernel
theorem dX5_groups_47 : decode cX5_groups 47 = .ok (.ireturn, 1) := by decide +kernel
theorem dX5_greatestGroup_0 : decode cX5_greatestGroup 0 = .ok (.iload_n 1, 1) := by decide +kernel
theorem dX5_greatestGroup_1 : decode cX5_greatestGroup 1 = .ok (.istore_n 2, 1) := by decide +kernel
theorem dX5_greatestGroup_2 : decode cX5_greatestGroup 2 = .ok (.iconst 0, 1) := by decide +kernel
theorem dX5_greatestGroup_3 : decode cX5_greatestGroup 3 = .ok (.istore_n 3, 1) := by decide +kernel
theorem dX5_greatestGroup_4 : decode cX5_greatestGroup 4 = .ok (.iconst 0, 1) := by decide +kernel
theorem dX5_greatestGroup_5 : decode cX5_greatestGroup 5 = .ok (.istore 4, 2) := by decide +kernel
theorem dX5_greatestGroup_7 : decode cX5_greatestGroup 7 = .ok (.iload 4, 2) := by decide +kernel
theorem dX5_greatestGroup_9 : decode cX5_greatestGroup 9 = .ok (.aload_n 0, 1) := by decide +kernel
theorem dX5_greatestGroup_10 : decode cX5_greatestGroup 10 = .ok (.invokevirtual 33, 3) := by decide +kernel
theorem dX5_greatestGroup_13 : decode cX5_greatestGroup 13 = .ok (.if_icmp .ge 49, 3) := by decide +kernel
theorem dX5_greatestGroup_16 : decode cX5_greatestGroup 16 = .ok (.iload_n 2, 1) := by decide +kernel
theorem dX5_greatestGroup_17 : decode cX5_greatestGroup 17 = .ok (.iload 4, 2) := by decide +kernel
theorem dX5_greatestGroup_19 : decode cX5_greatestGroup 19 = .ok (.ishr, 1) := by decide +kernel
theorem dX5_greatestGroup_20 : decode cX5_greatestGroup 20 = .ok (.iconst 1, 1) := by decide +kernel
theorem dX5_greatestGroup_21 : decode cX5_greatestGroup 21 = .ok (.iand, 1) := by decide +kernel
theorem dX5_greatestGroup_22 : decode cX5_greatestGroup 22 = .ok (.ifCond .eq 34, 3) := by decide +kernel
theorem dX5_greatestGroup_25 : decode cX5_greatestGroup 25 = .ok (.aload_n 0, 1) := by decide +kernel
theorem dX5_greatestGroup_26 : decode cX5_greatestGroup 26 = .ok (.iload_n 1, 1) := by decide +kernel
theorem dX5_greatestGroup_27 : decode cX5_greatestGroup 27 = .ok (.iload 4, 2) := by decide +kernel
theorem dX5_greatestGroup_29 : decode cX5_greatestGroup 29 = .ok (.invokestatic 37, 3) := by decide +kernel
theorem dX5_greatestGroup_32 : decode cX5_greatestGroup 32 = .ok (.istore 5, 2) := by decide +kernel
theorem dX5_greatestGroup_34 : decode cX5_greatestGroup 34 = .ok (.iload_n 2, 1) := by decide +kernel
theorem dX5_greatestGroup_35 : decode cX5_greatestGroup 35 = .ok (.iload 5, 2) := by decide +kernel
theorem dX5_greatestGroup_37 : decode cX5_greatestGroup 37 = .ok (.iconst (-1), 1) := by decide +kernel
theorem dX5_greatestGroup_38 : decode cX5_greatestGroup 38 = .ok (.ixor, 1) := by decide +kernel
theorem dX5_greatestGroup_39 : decode cX5_greatestGroup 39 = .ok (.iand, 1) := by decide +kernel
theorem dX5_greatestGroup_40 : decode cX5_greatestGroup 40 = .ok (.istore_n 2, 1) := by decide +kernel
theorem dX5_greatestGroup_41 : decode cX5_greatestGroup 41 = .ok (.iload 5, 2) := by decide +kernel
theorem dX5_greatestGroup_43 : decode cX5_greatestGroup 43 = .ok (.invokestatic 27, 3) := by decide +kernel
theorem dX5_greatestGroup_46 : decode cX5_greatestGroup 46 = .ok (.iload_n 3, 1) := by decide +kernel
theorem dX5_greatestGroup_47 : decode cX5_greatestGroup 47 = .ok (.invokestatic 27, 3) := by decide +kernel
theorem dX5_greatestGroup_50 : decode cX5_greatestGroup 50 = .ok (.if_icmp .le 6, 3) := by decide +kernel
theorem dX5_greatestGroup_53 : decode cX5_greatestGroup 53 = .ok (.iload 5, 2) := by decide +kernel
theorem dX5_greatestGroup_55 : decode cX5_greatestGroup 55 = .ok (.istore_n 3, 1) := by decide +kernel
theorem dX5_greatestGroup_56 : decode cX5_greatestGroup 56 = .ok (.iinc 4 1, 3) := by decide +kernel
theorem dX5_greatestGroup_59 : decode cX5_greatestGroup 59 = .ok (.goto (-52), 3) := by decide +kernel
theorem dX5_greatestGroup_62 : decode cX5_greatestGroup 62 = .ok (.iload_n 3, 1) := by decide +kernel
theorem dX5_greatestGroup_63 : decode cX5_greatestGroup 63 = .ok (.ireturn, 1) := by decide +kernel
theorem dX5_fullest_0 : decode cX5_fullest 0 = .ok (.iconst (-1), 1) := by decide +kernel
theorem dX5_fullest_1 : decode cX5_fullest 1 = .ok (.istore_n 2, 1) := by decide +kernel
theorem dX5_fullest_2 : decode cX5_fullest 2 = .ok (.iconst 0, 1) := by decide +kernel
theorem dX5_fullest_3 : decode cX5_fullest 3 = .ok (.istore_n 3, 1) := by decide +kernel
theorem dX5_fullest_4 : decode cX5_fullest 4 = .ok (.iconst 0, 1) := by decide +kernel
theorem dX5_fullest_5 : decode cX5_fullest 5 = .ok (.istore 4, 2) := by decide +kernel
theorem dX5_fullest_7 : decode cX5_fullest 7 = .ok (.iload 4, 2) := by decide +kernel
theorem dX5_fullest_9 : decode cX5_fullest 9 = .ok (.aload_n 0, 1) := by decide +kernel
theorem dX5_fullest_10 : decode cX5_fullest 10 = .ok (.getfield 40, 3) := by decide +kernel
theorem dX5_fullest_13 : decode cX5_fullest 13 = .ok (.if_icmp .ge 47, 3) := by decide +kernel
theorem dX5_fullest_16 : decode cX5_fullest 16 = .ok (.iload_n 1, 1) := by decide +kernel
theorem dX5_fullest_17 : decode cX5_fullest 17 = .ok (.iload 4, 2) := by decide +kernel
theorem dX5_fullest_19 : decode cX5_fullest 19 = .ok (.aload_n 0, 1) := by decide +kernel
theorem dX5_fullest_20 : decode cX5_fullest 20 = .ok (.getfield 9, 3) := by decide +kernel
theorem dX5_fullest_23 : decode cX5_fullest 23 = .ok (.imul, 1) := by decide +kernel
theorem dX5_fullest_24 : decode cX5_fullest 24 = .ok (.ishr, 1) := by decide +kernel
theorem dX5_fullest_25 : decode cX5_fullest 25 = .ok (.iconst 1, 1) := by decide +kernel
theorem dX5_fullest_26 : decode cX5_fullest 26 = .ok (.aload_n 0, 1) := by decide +kernel
theorem dX5_fullest_27 : decode cX5_fullest 27 = .ok (.getfield 9, 3) := by decide +kernel
theorem dX5_fullest_30 : decode cX5_fullest 30 = .ok (.ishl, 1) := by decide +kernel
theorem dX5_fullest_31 : decode cX5_fullest 31 = .ok (.iconst 1, 1) := by decide +kernel
theorem dX5_fullest_32 : decode cX5_fullest 32 = .ok (.isub, 1) := by decide +kernel
theorem dX5_fullest_33 : decode cX5_fullest 33 = .ok (.iand, 1) := by decide +kernel
theorem dX5_fullest_34 : decode cX5_fullest 34 = .ok (.istore 5, 2) := by decide +kernel
theorem dX5_fullest_36 : decode cX5_fullest 36 = .ok (.iload 5, 2) := by decide +kernel
theorem dX5_fullest_38 : decode cX5_fullest 38 = .ok (.invokestatic 27, 3) := by decide +kernel
theorem dX5_fullest_41 : decode cX5_fullest 41 = .ok (.iload_n 3, 1) := by decide +kernel
theorem dX5_fullest_42 : decode cX5_fullest 42 = .ok (.if_icmp .le 12, 3) := by decide +kernel
theorem dX5_fullest_45 : decode cX5_fullest 45 = .ok (.iload 5, 2) := by decide +kernel
theorem dX5_fullest_47 : decode cX5_fullest 47 = .ok (.invokestatic 27, 3) := by decide +kernel
theorem dX5_fullest_50 : decode cX5_fullest 50 = .ok (.istore_n 3, 1) := by decide +kernel
theorem dX5_fullest_51 : decode cX5_fullest 51 = .ok (.iload 4, 2) := by decide +kernel
theorem dX5_fullest_53 : decode cX5_fullest 53 = .ok (.istore_n 2, 1) := by decide +kernel
theorem dX5_fullest_54 : decode cX5_fullest 54 = .ok (.iinc 4 1, 3) := by decide +kernel
theorem dX5_fullest_57 : decode cX5_fullest 57 = .ok (.goto (-50), 3) := by decide +kernel
theorem dX5_fullest_60 : decode cX5_fullest 60 = .ok (.iload_n 2, 1) := by decide +kernel
theorem dX5_fullest_61 : decode cX5_fullest 61 = .ok (.ireturn, 1) := by decide +kernel
theorem dX5_like_0 : decode cX5_like 0 = .ok (.aload_n 0, 1) := by decide +kernel
theorem dX5_like_1 : decode cX5_like 1 = .ok (.invokevirtual 33, 3) := by decide +kernel
theorem dX5_like_4 : decode cX5_like 4 = .ok (.iload_n 1, 1) := by decide +kernel
theorem dX5_like_5 : decode cX5_like 5 = .ok (.iload_n 2, 1) := by decide +kernel
theorem dX5_like_6 : decode cX5_like 6 = .ok (.ixor, 1) := by decide +kernel
theorem dX5_like_7 : decode cX5_like 7 = .ok (.invokestatic 27, 3) := by decide +kernel
theorem dX5_like_10 : decode cX5_like 10 = .ok (.isub, 1) := by decide +kernel
theorem dX5_like_11 : decode cX5_like 11 = .ok (.ireturn, 1) := by decide +kernel
theorem dX5_whom_0 : decode cX5_whom 0 = .ok (.iconst (-1), 1) := by decide +kernel
theorem dX5_whom_1 : decode cX5_whom 1 = .ok (.istore_n 2, 1) := by decide +kernel
theorem dX5_whom_2 : decode cX5_whom 2 = .ok (.iconst (-1), 1) := by decide +kernel
theorem dX5_whom_3 : decode cX5_whom 3 = .ok (.istore_n 3, 1) := by decide +kernel
theorem dX5_whom_4 : decode cX5_whom 4 = .ok (.iconst 0, 1) := by decide +kernel
theorem dX5_whom_5 : decode cX5_whom 5 = .ok (.istore 4, 2) := by decide +kernel
theorem dX5_whom_7 : decode cX5_whom 7 = .ok (.iload 4, 2) := by decide +kernel
theorem dX5_whom_9 : decode cX5_whom 9 = .ok (.aload_n 0, 1) := by decide +kernel
theorem dX5_whom_10 : decode cX5_whom 10 = .ok (.getfield 43, 3) := by decide +kernel
theorem dX5_whom_13 : decode cX5_whom 13 = .ok (.if_icmp .ge 37, 3) := by decide +kernel
theorem dX5_whom_16 : decode cX5_whom 16 = .ok (.aload_n 0, 1) := by decide +kernel
theorem dX5_whom_17 : decode cX5_whom 17 = .ok (.iload_n 1, 1) := by decide +kernel
theorem dX5_whom_18 : decode cX5_whom 18 = .ok (.aload_n 0, 1) := by decide +kernel
theorem dX5_whom_19 : decode cX5_whom 19 = .ok (.getfield 46, 3) := by decide +kernel
theorem dX5_whom_22 : decode cX5_whom 22 = .ok (.iload 4, 2) := by decide +kernel
theorem dX5_whom_24 : decode cX5_whom 24 = .ok (.invokestatic 50, 3) := by decide +kernel
theorem dX5_whom_27 : decode cX5_whom 27 = .ok (.invokestatic 54, 3) := by decide +kernel
theorem dX5_whom_30 : decode cX5_whom 30 = .ok (.istore 5, 2) := by decide +kernel
theorem dX5_whom_32 : decode cX5_whom 32 = .ok (.iload 5, 2) := by decide +kernel
theorem dX5_whom_34 : decode cX5_whom 34 = .ok (.iload_n 3, 1) := by decide +kernel
theorem dX5_whom_35 : decode cX5_whom 35 = .ok (.if_icmp .le 9, 3) := by decide +kernel
theorem dX5_whom_38 : decode cX5_whom 38 = .ok (.iload 5, 2) := by decide +kernel
theorem dX5_whom_40 : decode cX5_whom 40 = .ok (.istore_n 3, 1) := by decide +kernel
theorem dX5_whom_41 : decode cX5_whom 41 = .ok (.iload 4, 2) := by decide +kernel
theorem dX5_whom_43 : decode cX5_whom 43 = .ok (.istore_n 2, 1) := by decide +kernel
theorem dX5_whom_44 : decode cX5_whom 44 = .ok (.iinc 4 1, 3) := by decide +kernel
theorem dX5_whom_47 : decode cX5_whom 47 = .ok (.goto (-40), 3) := by decide +kernel
theorem dX5_whom_50 : decode cX5_whom 50 = .ok (.iload_n 2, 1) := by decide +kernel
theorem dX5_whom_51 : decode cX5_whom 51 = .ok (.ireturn, 1) := by decide +kernel
theorem dX5_mayBe_0 : decode cX5_mayBe 0 = .ok (.iconst 0, 1) := by decide +kernel
theorem dX5_mayBe_1 : decode cX5_mayBe 1 = .ok (.istore_n 2, 1) := by decide +kernel
theorem dX5_mayBe_2 : decode cX5_mayBe 2 = .ok (.iconst 0, 1) := by decide +kernel
theorem dX5_mayBe_3 : decode cX5_mayBe 3 = .ok (.istore_n 3, 1) := by decide +kernel
theorem dX5_mayBe_4 : decode cX5_mayBe 4 = .ok (.iload_n 3, 1) := by decide +kernel
theorem dX5_mayBe_5 : decode cX5_mayBe 5 = .ok (.aload_n 0, 1) := by decide +kernel
theorem dX5_mayBe_6 : decode cX5_mayBe 6 = .ok (.getfield 43, 3) := by decide +kernel
theorem dX5_mayBe_9 : decode cX5_mayBe 9 = .ok (.if_icmp .ge 30, 3) := by decide +kernel
theorem dX5_mayBe_12 : decode cX5_mayBe 12 = .ok (.iload_n 1, 1) := by decide +kernel
theorem dX5_mayBe_13 : decode cX5_mayBe 13 = .ok (.aload_n 0, 1) := by decide +kernel
theorem dX5_mayBe_14 : decode cX5_mayBe 14 = .ok (.getfield 46, 3) := by decide +kernel
theorem dX5_mayBe_17 : decode cX5_mayBe 17 = .ok (.iload_n 3, 1) := by decide +kernel
theorem dX5_mayBe_18 : decode cX5_mayBe 18 = .ok (.invokestatic 50, 3) := by decide +kernel
theorem dX5_mayBe_21 : decode cX5_mayBe 21 = .ok (.iconst (-1), 1) := by decide +kernel
theorem dX5_mayBe_22 : decode cX5_mayBe 22 = .ok (.ixor, 1) := by decide +kernel
theorem dX5_mayBe_23 : decode cX5_mayBe 23 = .ok (.iand, 1) := by decide +kernel
theorem dX5_mayBe_24 : decode cX5_mayBe 24 = .ok (.ifCond .ne 9, 3) := by decide +kernel
theorem dX5_mayBe_27 : decode cX5_mayBe 27 = .ok (.iload_n 2, 1) := by decide +kernel
theorem dX5_mayBe_28 : decode cX5_mayBe 28 = .ok (.iconst 1, 1) := by decide +kernel
theorem dX5_mayBe_29 : decode cX5_mayBe 29 = .ok (.iload_n 3, 1) := by decide +kernel
theorem dX5_mayBe_30 : decode cX5_mayBe 30 = .ok (.ishl, 1) := by decide +kernel
theorem dX5_mayBe_31 : decode cX5_mayBe 31 = .ok (.ior, 1) := by decide +kernel
theorem dX5_mayBe_32 : decode cX5_mayBe 32 = .ok (.istore_n 2, 1) := by decide +kernel
theorem dX5_mayBe_33 : decode cX5_mayBe 33 = .ok (.iinc 3 1, 3) := by decide +kernel
theorem dX5_mayBe_36 : decode cX5_mayBe 36 = .ok (.goto (-32), 3) := by decide +kernel
theorem dX5_mayBe_39 : decode cX5_mayBe 39 = .ok (.iload_n 2, 1) := by decide +kernel
theorem dX5_mayBe_40 : decode cX5_mayBe 40 = .ok (.ireturn, 1) := by decide +kernel
theorem dX6_init_0 : decode cX6_init 0 = .ok (.aload_n 0, 1) := by decide +kernel
theorem dX6_init_1 : decode cX6_init 1 = .ok (.invokespecial 3, 3) := by decide +kernel
theorem dX6_init_4 : decode cX6_init 4 = .ok (.aload_n 0, 1) := by decide +kernel
theorem dX6_init_5 : decode cX6_init 5 = .ok (.bipush 16, 2) := by decide +kernel
theorem dX6_init_7 : decode cX6_init 7 = .ok (.anewarray 9, 3) := by decide +kernel
theorem dX6_init_10 : decode cX6_init 10 = .ok (.putfield 11, 3) := by decide +kernel
theorem dX6_init_13 : decode cX6_init 13 = .ok (.iconst 0, 1) := by decide +kernel
theorem dX6_init_14 : decode cX6_init 14 = .ok (.istore_n 1, 1) := by decide +kernel
theorem dX6_init_15 : decode cX6_init 15 = .ok (.iload_n 1, 1) := by decide +kernel
theorem dX6_init_16 : decode cX6_init 16 = .ok (.aload_n 0, 1) := by decide +kernel
theorem dX6_init_17 : decode cX6_init 17 = .ok (.getfield 11, 3) := by decide +kernel
theorem dX6_init_20 : decode cX6_init 20 = .ok (.arraylength, 1) := by decide +kernel
theorem dX6_init_21 : decode cX6_init 21 = .ok (.if_icmp .ge 22, 3) := by decide +kernel
theorem dX6_init_24 : decode cX6_init 24 = .ok (.aload_n 0, 1) := by decide +kernel
theorem dX6_init_25 : decode cX6_init 25 = .ok (.getfield 11, 3) := by decide +kernel
theorem dX6_init_28 : decode cX6_init 28 = .ok (.iload_n 1, 1) := by decide +kernel
theorem dX6_init_29 : decode cX6_init 29 = .ok (.new 9, 3) := by decide +kernel
theorem dX6_init_32 : decode cX6_init 32 = .ok (.dup, 1) := by decide +kernel
theorem dX6_init_33 : decode cX6_init 33 = .ok (.invokespecial 17, 3) := by decide +kernel
theorem dX6_init_36 : decode cX6_init 36 = .ok (.aastore, 1) := by decide +kernel
theorem dX6_init_37 : decode cX6_init 37 = .ok (.iinc 1 1, 3) := by decide +kernel
theorem dX6_init_40 : decode cX6_init 40 = .ok (.goto (-25), 3) := by decide +kernel
theorem dX6_init_43 : decode cX6_init 43 = .ok (.return_, 1) := by decide +kernel
theorem dX6_clear_0 : decode cX6_clear 0 = .ok (.aload_n 0, 1) := by decide +kernel
theorem dX6_clear_1 : decode cX6_clear 1 = .ok (.iconst 0, 1) := by decide +kernel
theorem dX6_clear_2 : decode cX6_clear 2 = .ok (.putfield 18, 3) := by decide +kernel
theorem dX6_clear_5 : decode cX6_clear 5 = .ok (.return_, 1) := by decide +kernel
theorem dX6_push_0 : decode cX6_push 0 = .ok (.aload_n 0, 1) := by decide +kernel
theorem dX6_push_1 : decode cX6_push 1 = .ok (.getfield 22, 3) := by decide +kernel
theorem dX6_push_4 : decode cX6_push 4 = .ok (.ifCond .lt 28, 3) := by decide +kernel
theorem dX6_push_7 : decode cX6_push 7 = .ok (.aload_n 0, 1) := by decide +kernel
theorem dX6_push_8 : decode cX6_push 8 = .ok (.getfield 22, 3) := by decide +kernel
theorem dX6_push_11 : decode cX6_push 11 = .ok (.aload_n 0, 1) := by decide +kernel
theorem dX6_push_12 : decode cX6_push 12 = .ok (.getfield 11, 3) := by decide +kernel
theorem dX6_push_15 : decode cX6_push 15 = .ok (.arraylength, 1) := by decide +kernel
theorem dX6_push_16 : decode cX6_push 16 = .ok (.if_icmp .ge 16, 3) := by decide +kernel
theorem dX6_push_19 : decode cX6_push 19 = .ok (.aload_n 0, 1) := by decide +kernel
theorem dX6_push_20 : decode cX6_push 20 = .ok (.getfield 11, 3) := by decide +kernel
theorem dX6_push_23 : decode cX6_push 23 = .ok (.aload_n 0, 1) := by decide +kernel
theorem dX6_push_24 : decode cX6_push 24 = .ok (.getfield 22, 3) := by decide +kernel
theorem dX6_push_27 : decode cX6_push 27 = .ok (.aaload, 1) := by decide +kernel
theorem dX6_push_28 : decode cX6_push 28 = .ok (.aload_n 1, 1) := by decide +kernel
theorem dX6_push_29 : decode cX6_push 29 = .ok (.invokevirtual 25, 3) := by decide +kernel
theorem dX6_push_32 : decode cX6_push 32 = .ok (.aload_n 0, 1) := by decide +kernel
theorem dX6_push_33 : decode cX6_push 33 = .ok (.aload_n 0, 1) := by decide +kernel
theorem dX6_push_34 : decode cX6_push 34 = .ok (.getfield 22, 3) := by decide +kernel
theorem dX6_push_37 : decode cX6_push 37 = .ok (.iconst 1, 1) := by decide +kernel
theorem dX6_push_38 : decode cX6_push 38 = .ok (.iadd, 1) := by decide +kernel
theorem dX6_push_39 : decode cX6_push 39 = .ok (.bipush 16, 2) := by decide +kernel
theorem dX6_push_41 : decode cX6_push 41 = .ok (.if_icmp .ge 12, 3) := by decide +kernel
theorem dX6_push_44 : decode cX6_push 44 = .ok (.aload_n 0, 1) := by decide +kernel
theorem dX6_push_45 : decode cX6_push 45 = .ok (.getfield 22, 3) := by decide +kernel
theorem dX6_push_48 : decode cX6_push 48 = .ok (.iconst 1, 1) := by decide +kernel
theorem dX6_push_49 : decode cX6_push 49 = .ok (.iadd, 1) := by decide +kernel
theorem dX6_push_50 : decode cX6_push 50 = .ok (.goto 4, 3) := by decide +kernel
theorem dX6_push_53 : decode cX6_push 53 = .ok (.iconst 0, 1) := by decide +kernel
theorem dX6_push_54 : decode cX6_push 54 = .ok (.putfield 22, 3) := by decide +kernel
theorem dX6_push_57 : decode cX6_push 57 = .ok (.aload_n 0, 1) := by decide +kernel
theorem dX6_push_58 : decode cX6_push 58 = .ok (.bipush 16, 2) := by decide +kernel
theorem dX6_push_60 : decode cX6_push 60 = .ok (.aload_n 0, 1) := by decide +kernel
theorem dX6_push_61 : decode cX6_push 61 = .ok (.getfield 18, 3) := by decide +kernel
theorem dX6_push_64 : decode cX6_push 64 = .ok (.iconst 1, 1) := by decide +kernel
theorem dX6_push_65 : decode cX6_push 65 = .ok (.iadd, 1) := by decide +kernel
theorem dX6_push_66 : decode cX6_push 66 = .ok (.invokestatic 29, 3) := by decide +kernel
theorem dX6_push_69 : decode cX6_push 69 = .ok (.putfield 18, 3) := by decide +kernel
theorem dX6_push_72 : decode cX6_push 72 = .ok (.return_, 1) := by decide +kernel
theorem dX6_pop_0 : decode cX6_pop 0 = .ok (.aload_n 0, 1) := by decide +kernel
theorem dX6_pop_1 : decode cX6_pop 1 = .ok (.getfield 18, 3) := by decide +kernel
theorem dX6_pop_4 : decode cX6_pop 4 = .ok (.ifCond .gt 5, 3) := by decide +kernel
theorem dX6_pop_7 : decode cX6_pop 7 = .ok (.iconst 0, 1) := by decide +kernel
theorem dX6_pop_8 : decode cX6_pop 8 = .ok (.ireturn, 1) := by decide +kernel
theorem dX6_pop_9 : decode cX6_pop 9 = .ok (.aload_n 0, 1) := by decide +kernel
theorem dX6_pop_10 : decode cX6_pop 10 = .ok (.dup, 1) := by decide +kernel
theorem dX6_pop_11 : decode cX6_pop 11 = .ok (.getfield 18, 3) := by decide +kernel
theorem dX6_pop_14 : decode cX6_pop 14 = .ok (.iconst 1, 1) := by decide +kernel
theorem dX6_pop_15 : decode cX6_pop 15 = .ok (.isub, 1) := by decide +kernel
theorem dX6_pop_16 : decode cX6_pop 16 = .ok (.putfield 18, 3) := by decide +kernel
theorem dX6_pop_19 : decode cX6_pop 19 = .ok (.aload_n 0, 1) := by decide +kernel
theorem dX6_pop_20 : decode cX6_pop 20 = .ok (.aload_n 0, 1) := by decide +kernel
theorem dX6_pop_21 : decode cX6_pop 21 = .ok (.getfield 22, 3) := by decide +kernel
theorem dX6_pop_24 : decode cX6_pop 24 = .ok (.ifCond .le 12, 3) := by decide +kernel
theorem dX6_pop_27 : decode cX6_pop 27 = .ok (.aload_n 0, 1) := by decide +kernel
theorem dX6_pop_28 : decode cX6_pop 28 = .ok (.getfield 22, 3) := by decide +kernel
theorem dX6_pop_31 : decode cX6_pop 31 = .ok (.iconst 1, 1) := by decide +kernel
theorem dX6_pop_32 : decode cX6_pop 32 = .ok (.isub, 1) := by decide +kernel
theorem dX6_pop_33 : decode cX6_pop 33 = .ok (.goto 5, 3) := by decide +kernel
theorem dX6_pop_36 : decode cX6_pop 36 = .ok (.bipush 15, 2) := by decide +kernel
theorem dX6_pop_38 : decode cX6_pop 38 = .ok (.putfield 22, 3) := by decide +kernel
theorem dX6_pop_41 : decode cX6_pop 41 = .ok (.aload_n 0, 1) := by decide +kernel
theorem dX6_pop_42 : decode cX6_pop 42 = .ok (.getfield 22, 3) := by decide +kernel
theorem dX6_pop_45 : decode cX6_pop 45 = .ok (.ifCond .lt 28, 3) := by decide +kernel
theorem dX6_pop_48 : decode cX6_pop 48 = .ok (.aload_n 0, 1) := by decide +kernel
theorem dX6_pop_49 : decode cX6_pop 49 = .ok (.getfield 22, 3) := by decide +kernel
theorem dX6_pop_52 : decode cX6_pop 52 = .ok (.aload_n 0, 1) := by decide +kernel
theorem dX6_pop_53 : decode cX6_pop 53 = .ok (.getfield 11, 3) := by decide +kernel
theorem dX6_pop_56 : decode cX6_pop 56 = .ok (.arraylength, 1) := by decide +kernel
theorem dX6_pop_57 : decode cX6_pop 57 = .ok (.if_icmp .ge 16, 3) := by decide +kernel
theorem dX6_pop_60 : decode cX6_pop 60 = .ok (.aload_n 1, 1) := by decide +kernel
theorem dX6_pop_61 : decode cX6_pop 61 = .ok (.aload_n 0, 1) := by decide +kernel
theorem dX6_pop_62 : decode cX6_pop 62 = .ok (.getfield 11, 3) := by decide +kernel
theorem dX6_pop_65 : decode cX6_pop 65 = .ok (.aload_n 0, 1) := by decide +kernel
theorem dX6_pop_66 : decode cX6_pop 66 = .ok (.getfield 22, 3) := by decide +kernel
theorem dX6_pop_69 : decode cX6_pop 69 = .ok (.aaload, 1) := by decide +kernel
theorem dX6_pop_70 : decode cX6_pop 70 = .ok (.invokevirtual 25, 3) := by decide +kernel
theorem dX6_pop_73 : decode cX6_pop 73 = .ok (.iconst 1, 1) := by decide +kernel
theorem dX6_pop_74 : decode cX6_pop 74 = .ok (.ireturn, 1) := by decide +kernel
theorem dX7_init_0 : decode cX7_init 0 = .ok (.aload_n 0, 1) := by decide +kernel
theorem dX7_init_1 : decode cX7_init 1 = .ok (.invokespecial 3, 3) := by decide +kernel
theorem dX7_init_4 : decode cX7_init 4 = .ok (.aload_n 0, 1) := by decide +kernel
theorem dX7_init_5 : decode cX7_init 5 = .ok (.iconst 4, 1) := by decide +kernel
theorem dX7_init_6 : decode cX7_init 6 = .ok (.newarray .int, 2) := by decide +kernel
theorem dX7_init_8 : decode cX7_init 8 = .ok (.putfield 9, 3) := by decide +kernel
theorem dX7_init_11 : decode cX7_init 11 = .ok (.aload_n 0, 1) := by decide +kernel
theorem dX7_init_12 : decode cX7_init 12 = .ok (.bipush 6, 2) := by decide +kernel
theorem dX7_init_14 : decode cX7_init 14 = .ok (.newarray .int, 2) := by decide +kernel
theorem dX7_init_16 : decode cX7_init 16 = .ok (.putfield 15, 3) := by decide +kernel
theorem dX7_init_19 : decode cX7_init 19 = .ok (.aload_n 0, 1) := by decide +kernel
theorem dX7_init_20 : decode cX7_init 20 = .ok (.bipush 6, 2) := by decide +kernel
theorem dX7_init_22 : decode cX7_init 22 = .ok (.newarray .int, 2) := by decide +kernel
theorem dX7_init_24 : decode cX7_init 24 = .ok (.putfield 18, 3) := by decide +kernel
theorem dX7_init_27 : decode cX7_init 27 = .ok (.aload_n 0, 1) := by decide +kernel
theorem dX7_init_28 : decode cX7_init 28 = .ok (.iconst 5, 1) := by decide +kernel
theorem dX7_init_29 : decode cX7_init 29 = .ok (.newarray .int, 2) := by decide +kernel
theorem dX7_init_31 : decode cX7_init 31 = .ok (.putfield 21, 3) := by decide +kernel
theorem dX7_init_34 : decode cX7_init 34 = .ok (.return_, 1) := by decide +kernel
theorem dX7_clear_0 : decode cX7_clear 0 = .ok (.aload_n 0, 1) := by decide +kernel
theorem dX7_clear_1 : decode cX7_clear 1 = .ok (.iconst 0, 1) := by decide +kernel
theorem dX7_clear_2 : decode cX7_clear 2 = .ok (.iconst 0, 1) := by decide +kernel
theorem dX7_clear_3 : decode cX7_clear 3 = .ok (.invokevirtual 24, 3) := by decide +kernel
theorem dX7_clear_6 : decode cX7_clear 6 = .ok (.aload_n 0, 1) := by decide +kernel
theorem dX7_clear_7 : decode cX7_clear 7 = .ok (.iconst 0, 1) := by decide +kernel
theorem dX7_clear_8 : decode cX7_clear 8 = .ok (.putfield 28, 3) := by decide +kernel
theorem dX7_clear_11 : decode cX7_clear 11 = .ok (.aload_n 0, 1) := by decide +kernel
theorem dX7_clear_12 : decode cX7_clear 12 = .ok (.iconst 0, 1) := by decide +kernel
theorem dX7_clear_13 : decode cX7_clear 13 = .ok (.putfield 32, 3) := by decide +kernel
theorem dX7_clear_16 : decode cX7_clear 16 = .ok (.aload_n 0, 1) := by decide +kernel
theorem dX7_clear_17 : decode cX7_clear 17 = .ok (.iconst 0, 1) := by decide +kernel
theorem dX7_clear_18 : decode cX7_clear 18 = .ok (.putfield 35, 3) := by decide +kernel
theorem dX7_clear_21 : decode cX7_clear 21 = .ok (.aload_n 0, 1) := by decide +kernel
theorem dX7_clear_22 : decode cX7_clear 22 = .ok (.iconst 0, 1) := by decide +kernel
theorem dX7_clear_23 : decode cX7_clear 23 = .ok (.putfield 38, 3) := by decide +kernel
theorem dX7_clear_26 : decode cX7_clear 26 = .ok (.return_, 1) := by decide +kernel
theorem dX7_cells_0 : decode cX7_cells 0 = .ok (.aload_n 0, 1) := by decide +kernel
theorem dX7_cells_1 : decode cX7_cells 1 = .ok (.getfield 41, 3) := by decide +kernel
theorem dX7_cells_4 : decode cX7_cells 4 = .ok (.aload_n 0, 1) := by decide +kernel
theorem dX7_cells_5 : decode cX7_cells 5 = .ok (.getfield 44, 3) := by decide +kernel
theorem dX7_cells_8 : decode cX7_cells 8 = .ok (.imul, 1) := by decide +kernel
theorem dX7_cells_9 : decode cX7_cells 9 = .ok (.ireturn, 1) := by decide +kernel
theorem dX7_resize_0 : decode cX7_resize 0 = .ok (.aload_n 0, 1) := by decide +kernel
theorem dX7_resize_1 : decode cX7_resize 1 = .ok (.iload_n 1, 1) := by decide +kernel
theorem dX7_resize_2 : decode cX7_resize 2 = .ok (.putfield 41, 3) := by decide +kernel
theorem dX7_resize_5 : decode cX7_resize 5 = .ok (.aload_n 0, 1) := by decide +kernel
theorem dX7_resize_6 : decode cX7_resize 6 = .ok (.iload_n 2, 1) := by decide +kernel
theorem dX7_resize_7 : decode cX7_resize 7 = .ok (.putfield 44, 3) := by decide +kernel
theorem dX7_resize_10 : decode cX7_resize 10 = .ok (.aload_n 0, 1) := by decide +kernel
theorem dX7_resize_11 : decode cX7_resize 11 = .ok (.iconst 1, 1) := by decide +kernel
theorem dX7_resize_12 : decode cX7_resize 12 = .ok (.iload_n 1, 1) := by decide +kernel
theorem dX7_resize_13 : decode cX7_resize 13 = .ok (.iload_n 2, 1) := by decide +kernel
theorem dX7_resize_14 : decode cX7_resize 14 = .ok (.imul, 1) := by decide +kernel
theorem dX7_resize_15 : decode cX7_resize 15 = .ok (.ishl, 1) := by decide +kernel
theorem dX7_resize_16 : decode cX7_resize 16 = .ok (.iconst 1, 1) := by decide +kernel
theorem dX7_resize_17 : decode cX7_resize 17 = .ok (.isub, 1) := by decide +kernel
theorem dX7_resize_18 : decode cX7_resize 18 = .ok (.putfield 47, 3) := by decide +kernel
theorem dX7_resize_21 : decode cX7_resize 21 = .ok (.aload_n 0, 1) := by decide +kernel
theorem dX7_resize_22 : decode cX7_resize 22 = .ok (.iconst 0, 1) := by decide +kernel
theorem dX7_resize_23 : decode cX7_resize 23 = .ok (.putfield 50, 3) := by decide +kernel
theorem dX7_resize_26 : decode cX7_resize 26 = .ok (.iconst 0, 1) := by decide +kernel
theorem dX7_resize_27 : decode cX7_resize 27 = .ok (.istore_n 3, 1) := by decide +kernel
theorem dX7_resize_28 : decode cX7_resize 28 = .ok (.iload_n 3, 1) := by decide +kernel
theorem dX7_resize_29 : decode cX7_resize 29 = .ok (.iload_n 1, 1) := by decide +kernel
theorem dX7_resize_30 : decode cX7_resize 30 = .ok (.if_icmp .ge 23, 3) := by decide +kernel
theorem dX7_resize_33 : decode cX7_resize 33 = .ok (.aload_n 0, 1) := by decide +kernel
theorem dX7_resize_34 : decode cX7_resize 34 = .ok (.dup, 1) := by decide +kernel
theorem dX7_resize_35 : decode cX7_resize 35 = .ok (.getfield 50, 3) := by decide +kernel
theorem dX7_resize_38 : decode cX7_resize 38 = .ok (.iconst 1, 1) := by decide +kernel
theorem dX7_resize_39 : decode cX7_resize 39 = .ok (.iload_n 3, 1) := by decide +kernel
theorem dX7_resize_40 : decode cX7_resize 40 = .ok (.iload_n 2, 1) := by decide +kernel
theorem dX7_resize_41 : decode cX7_resize 41 = .ok (.imul, 1) := by decide +kernel
theorem dX7_resize_42 : decode cX7_resize 42 = .ok (.ishl, 1) := by decide +kernel
theorem dX7_resize_43 : decode cX7_resize 43 = .ok (.ior, 1) := by decide +kernel
theorem dX7_resize_44 : decode cX7_resize 44 = .ok (.putfield 50, 3) := by decide +kernel
theorem dX7_resize_47 : decode cX7_resize 47 = .ok (.iinc 3 1, 3) := by decide +kernel
theorem dX7_resize_50 : decode cX7_resize 50 = .ok (.goto (-22), 3) := by decide +kernel
theorem dX7_resize_53 : decode cX7_resize 53 = .ok (.return_, 1) := by decide +kernel
theorem dX7_columnOf_0 : decode cX7_columnOf 0 = .ok (.aload_n 0, 1) := by decide +kernel
theorem dX7_columnOf_1 : decode cX7_columnOf 1 = .ok (.getfield 44, 3) := by decide +kernel
theorem dX7_columnOf_4 : decode cX7_columnOf 4 = .ok (.ifCond .le 12, 3) := by decide +kernel
theorem dX7_columnOf_7 : decode cX7_columnOf 7 = .ok (.iload_n 1, 1) := by decide +kernel
theorem dX7_columnOf_8 : decode cX7_columnOf 8 = .ok (.aload_n 0, 1) := by decide +kernel
theorem dX7_columnOf_9 : decode cX7_columnOf 9 = .ok (.getfield 44, 3) := by decide +kernel
theorem dX7_columnOf_12 : decode cX7_columnOf 12 = .ok (.irem, 1) := by decide +kernel
theorem dX7_columnOf_13 : decode cX7_columnOf 13 = .ok (.goto 4, 3) := by decide +kernel
theorem dX7_columnOf_16 : decode cX7_columnOf 16 = .ok (.iconst 0, 1) := by decide +kernel
theorem dX7_columnOf_17 : decode cX7_columnOf 17 = .ok (.ireturn, 1) := by decide +kernel
theorem dX7_hasCell_0 : decode cX7_hasCell 0 = .ok (.iload_n 1, 1) := by decide +kernel
theorem dX7_hasCell_1 : decode cX7_hasCell 1 = .ok (.ifCond .lt 15, 3) := by decide +kernel
theorem dX7_hasCell_4 : decode cX7_hasCell 4 = .ok (.iload_n 1, 1) := by decide +kernel
theorem dX7_hasCell_5 : decode cX7_hasCell 5 = .ok (.aload_n 0, 1) := by decide +kernel
theorem dX7_hasCell_6 : decode cX7_hasCell 6 = .ok (.invokevirtual 53, 3) := by decide +kernel
theorem dX7_hasCell_9 : decode cX7_hasCell 9 = .ok (.if_icmp .ge 7, 3) := by decide +kernel
theorem dX7_hasCell_12 : decode cX7_hasCell 12 = .ok (.iconst 1, 1) := by decide +kernel
theorem dX7_hasCell_13 : decode cX7_hasCell 13 = .ok (.goto 4, 3) := by decide +kernel
theorem dX7_hasCell_16 : decode cX7_hasCell 16 = .ok (.iconst 0, 1) := by decide +kernel
theorem dX7_hasCell_17 : decode cX7_hasCell 17 = .ok (.ireturn, 1) := by decide +kernel
theorem dX7_hasLeak_0 : decode cX7_hasLeak 0 = .ok (.iload_n 1, 1) := by decide +kernel
theorem dX7_hasLeak_1 : decode cX7_hasLeak 1 = .ok (.ifCond .lt 15, 3) := by decide +kernel
theorem dX7_hasLeak_4 : decode cX7_hasLeak 4 = .ok (.iload_n 1, 1) := by decide +kernel
theorem dX7_hasLeak_5 : decode cX7_hasLeak 5 = .ok (.aload_n 0, 1) := by decide +kernel
theorem dX7_hasLeak_6 : decode cX7_hasLeak 6 = .ok (.getfield 32, 3) := by decide +kernel
theorem dX7_hasLeak_9 : decode cX7_hasLeak 9 = .ok (.if_icmp .ge 7, 3) := by decide +kernel
theorem dX7_hasLeak_12 : decode cX7_hasLeak 12 = .ok (.iconst 1, 1) := by decide +kernel
theorem dX7_hasLeak_13 : decode cX7_hasLeak 13 = .ok (.goto 4, 3) := by decide +kernel
theorem dX7_hasLeak_16 : decode cX7_hasLeak 16 = .ok (.iconst 0, 1) := by decide +kernel
theorem dX7_hasLeak_17 : decode cX7_hasLeak 17 = .ok (.ireturn, 1) := by decide +kernel
theorem dX7_hasCrack_0 : decode cX7_hasCrack 0 = .ok (.iload_n 1, 1) := by decide +kernel
theorem dX7_hasCrack_1 : decode cX7_hasCrack 1 = .ok (.ifCond .lt 15, 3) := by decide +kernel
theorem dX7_hasCrack_4 : decode cX7_hasCrack 4 = .ok (.iload_n 1, 1) := by decide +kernel
theorem dX7_hasCrack_5 : decode cX7_hasCrack 5 = .ok (.aload_n 0, 1) := by decide +kernel
theorem dX7_hasCrack_6 : decode cX7_hasCrack 6 = .ok (.getfield 35, 3) := by decide +kernel
theorem dX7_hasCrack_9 : decode cX7_hasCrack 9 = .ok (.if_icmp .ge 7, 3) := by decide +kernel
theorem dX7_hasCrack_12 : decode cX7_hasCrack 12 = .ok (.iconst 1, 1) := by decide +kernel
theorem dX7_hasCrack_13 : decode cX7_hasCrack 13 = .ok (.goto 4, 3) := by decide +kernel
theorem dX7_hasCrack_16 : decode cX7_hasCrack 16 = .ok (.iconst 0, 1) := by decide +kernel
theorem dX7_hasCrack_17 : decode cX7_hasCrack 17 = .ok (.ireturn, 1) := by decide +kernel
theorem dX7_hasFace_0 : decode cX7_hasFace 0 = .ok (.iload_n 1, 1) := by decide +kernel
theorem dX7_hasFace_1 : decode cX7_hasFace 1 = .ok (.ifCond .lt 15, 3) := by decide +kernel
theorem dX7_hasFace_4 : decode cX7_hasFace 4 = .ok (.iload_n 1, 1) := by decide +kernel
theorem dX7_hasFace_5 : decode cX7_hasFace 5 = .ok (.aload_n 0, 1) := by decide +kernel
theorem dX7_hasFace_6 : decode cX7_hasFace 6 = .ok (.getfield 38, 3) := by decide +kernel
theorem dX7_hasFace_9 : decode cX7_hasFace 9 = .ok (.if_icmp .ge 7, 3) := by decide +kernel
theorem dX7_hasFace_12 : decode cX7_hasFace 12 = .ok (.iconst 1, 1) := by decide +kernel
theorem dX7_hasFace_13 : decode cX7_hasFace 13 = .ok (.goto 4, 3) := by decide +kernel
theorem dX7_hasFace_16 : decode cX7_hasFace 16 = .ok (.iconst 0, 1) := by decide +kernel
theorem dX7_hasFace_17 : decode cX7_hasFace 17 = .ok (.ireturn, 1) := by decide +kernel
theorem dX7_addLeak_0 : decode cX7_addLeak 0 = .ok (.aload_n 0, 1) := by decide +kernel
theorem dX7_addLeak_1 : decode cX7_addLeak 1 = .ok (.getfield 9, 3) := by decide +kernel
theorem dX7_addLeak_4 : decode cX7_addLeak 4 = .ok (.aload_n 0, 1) := by decide +kernel
theorem dX7_addLeak_5 : decode cX7_addLeak 5 = .ok (.getfield 32, 3) := by decide +kernel
theorem dX7_addLeak_8 : decode cX7_addLeak 8 = .ok (.iload_n 1, 1) := by decide +kernel
theorem dX7_addLeak_9 : decode cX7_addLeak 9 = .ok (.invokestatic 57, 3) := by decide +kernel
theorem dX7_addLeak_12 : decode cX7_addLeak 12 = .ok (.aload_n 0, 1) := by decide +kernel
theorem dX7_addLeak_13 : decode cX7_addLeak 13 = .ok (.dup, 1) := by decide +kernel
theorem dX7_addLeak_14 : decode cX7_addLeak 14 = .ok (.getfield 32, 3) := by decide +kernel
theorem dX7_addLeak_17 : decode cX7_addLeak 17 = .ok (.iconst 1, 1) := by decide +kernel
theorem dX7_addLeak_18 : decode cX7_addLeak 18 = .ok (.iadd, 1) := by decide +kernel
theorem dX7_addLeak_19 : decode cX7_addLeak 19 = .ok (.putfield 32, 3) := by decide +kernel
theorem dX7_addLeak_22 : decode cX7_addLeak 22 = .ok (.return_, 1) := by decide +kernel
theorem dX7_addCrack_0 : decode cX7_addCrack 0 = .ok (.aload_n 0, 1) := by decide +kernel
theorem dX7_addCrack_1 : decode cX7_addCrack 1 = .ok (.getfield 15, 3) := by decide +kernel
theorem dX7_addCrack_4 : decode cX7_addCrack 4 = .ok (.aload_n 0, 1) := by decide +kernel
theorem dX7_addCrack_5 : decode cX7_addCrack 5 = .ok (.getfield 35, 3) := by decide +kernel
theorem dX7_addCrack_8 : decode cX7_addCrack 8 = .ok (.iload_n 1, 1) := by decide +kernel
theorem dX7_addCrack_9 : decode cX7_addCrack 9 = .ok (.invokestatic 57, 3) := by decide +kernel
theorem dX7_addCrack_12 : decode cX7_addCrack 12 = .ok (.aload_n 0, 1) := by decide +kernel
theorem dX7_addCrack_13 : decode cX7_addCrack 13 = .ok (.getfield 18, 3) := by decide +kernel
theorem dX7_addCrack_16 : decode cX7_addCrack 16 = .ok (.aload_n 0, 1) := by decide +kernel
theorem dX7_addCrack_17 : decode cX7_addCrack 17 = .ok (.getfield 35, 3) := by decide +kernel
theorem dX7_addCrack_20 : decode cX7_addCrack 20 = .ok (.iload_n 2, 1) := by decide +kernel
theorem dX7_addCrack_21 : decode cX7_addCrack 21 = .ok (.invokestatic 57, 3) := by decide +kernel
theorem dX7_addCrack_24 : decode cX7_addCrack 24 = .ok (.aload_n 0, 1) := by decide +kernel
theorem dX7_addCrack_25 : decode cX7_addCrack 25 = .ok (.dup, 1) := by decide +kernel
theorem dX7_addCrack_26 : decode cX7_addCrack 26 = .ok (.getfield 35, 3) := by decide +kernel
theorem dX7_addCrack_29 : decode cX7_addCrack 29 = .ok (.iconst 1, 1) := by decide +kernel
theorem dX7_addCrack_30 : decode cX7_addCrack 30 = .ok (.iadd, 1) := by decide +kernel
theorem dX7_addCrack_31 : decode cX7_addCrack 31 = .ok (.putfield 35, 3) := by decide +kernel
theorem dX7_addCrack_34 : decode cX7_addCrack 34 = .ok (.return_, 1) := by decide +kernel
theorem dX7_addFace_0 : decode cX7_addFace 0 = .ok (.aload_n 0, 1) := by decide +kernel
theorem dX7_addFace_1 : decode cX7_addFace 1 = .ok (.getfield 21, 3) := by decide +kernel
theorem dX7_addFace_4 : decode cX7_addFace 4 = .ok (.aload_n 0, 1) := by decide +kernel
theorem dX7_addFace_5 : decode cX7_addFace 5 = .ok (.getfield 38, 3) := by decide +kernel
theorem dX7_addFace_8 : decode cX7_addFace 8 = .ok (.iload_n 1, 1) := by decide +kernel
theorem dX7_addFace_9 : decode cX7_addFace 9 = .ok (.invokestatic 57, 3) := by decide +kernel
theorem dX7_addFace_12 : decode cX7_addFace 12 = .ok (.aload_n 0, 1) := by decide +kernel
theorem dX7_addFace_13 : decode cX7_addFace 13 = .ok (.dup, 1) := by decide +kernel
theorem dX7_addFace_14 : decode cX7_addFace 14 = .ok (.getfield 38, 3) := by decide +kernel
theorem dX7_addFace_17 : decode cX7_addFace 17 = .ok (.iconst 1, 1) := by decide +kernel
theorem dX7_addFace_18 : decode cX7_addFace 18 = .ok (.iadd, 1) := by decide +kernel
theorem dX7_addFace_19 : decode cX7_addFace 19 = .ok (.putfield 38, 3) := by decide +kernel
theorem dX7_addFace_22 : decode cX7_addFace 22 = .ok (.return_, 1) := by decide +kernel
theorem dX7_touch_0 : decode cX7_touch 0 = .ok (.iload_n 1, 1) := by decide +kernel
theorem dX7_touch_1 : decode cX7_touch 1 = .ok (.iload_n 2, 1) := by decide +kernel
theorem dX7_touch_2 : decode cX7_touch 2 = .ok (.invokestatic 61, 3) := by decide +kernel
theorem dX7_touch_5 : decode cX7_touch 5 = .ok (.istore_n 3, 1) := by decide +kernel
theorem dX7_touch_6 : decode cX7_touch 6 = .ok (.iload_n 1, 1) := by decide +kernel
theorem dX7_touch_7 : decode cX7_touch 7 = .ok (.iload_n 2, 1) := by decide +kernel
theorem dX7_touch_8 : decode cX7_touch 8 = .ok (.invokestatic 67, 3) := by decide +kernel
theorem dX7_touch_11 : decode cX7_touch 11 = .ok (.iload_n 3, 1) := by decide +kernel
theorem dX7_touch_12 : decode cX7_touch 12 = .ok (.isub, 1) := by decide +kernel
theorem dX7_touch_13 : decode cX7_touch 13 = .ok (.istore 4, 2) := by decide +kernel
theorem dX7_touch_15 : decode cX7_touch 15 = .ok (.iload 4, 2) := by decide +kernel
theorem dX7_touch_17 : decode cX7_touch 17 = .ok (.aload_n 0, 1) := by decide +kernel
theorem dX7_touch_18 : decode cX7_touch 18 = .ok (.getfield 44, 3) := by decide +kernel
theorem dX7_touch_21 : decode cX7_touch 21 = .ok (.if_icmp .eq 23, 3) := by decide +kernel
theorem dX7_touch_24 : decode cX7_touch 24 = .ok (.iload 4, 2) := by decide +kernel
theorem dX7_touch_26 : decode cX7_touch 26 = .ok (.iconst 1, 1) := by decide +kernel
theorem dX7_touch_27 : decode cX7_touch 27 = .ok (.if_icmp .ne 21, 3) := by decide +kernel
theorem dX7_touch_30 : decode cX7_touch 30 = .ok (.aload_n 0, 1) := by decide +kernel
theorem dX7_touch_31 : decode cX7_touch 31 = .ok (.iload_n 3, 1) := by decide +kernel
theorem dX7_touch_32 : decode cX7_touch 32 = .ok (.invokevirtual 70, 3) := by decide +kernel
theorem dX7_touch_35 : decode cX7_touch 35 = .ok (.iconst 1, 1) := by decide +kernel
theorem dX7_touch_36 : decode cX7_touch 36 = .ok (.iadd, 1) := by decide +kernel
theorem dX7_touch_37 : decode cX7_touch 37 = .ok (.aload_n 0, 1) := by decide +kernel
theorem dX7_touch_38 : decode cX7_touch 38 = .ok (.getfield 44, 3) := by decide +kernel
theorem dX7_touch_41 : decode cX7_touch 41 = .ok (.if_icmp .ge 7, 3) := by decide +kernel
theorem dX7_touch_44 : decode cX7_touch 44 = .ok (.iconst 1, 1) := by decide +kernel
theorem dX7_touch_45 : decode cX7_touch 45 = .ok (.goto 4, 3) := by decide +kernel
theorem dX7_touch_48 : decode cX7_touch 48 = .ok (.iconst 0, 1) := by decide +kernel
theorem dX7_touch_49 : decode cX7_touch 49 = .ok (.ireturn, 1) := by decide +kernel
theorem dX7_isCracked_0 : decode cX7_isCracked 0 = .ok (.iconst 0, 1) := by decide +kernel
theorem dX7_isCracked_1 : decode cX7_isCracked 1 = .ok (.istore_n 3, 1) := by decide +kernel
theorem dX7_isCracked_2 : decode cX7_isCracked 2 = .ok (.iload_n 3, 1) := by decide +kernel
theorem dX7_isCracked_3 : decode cX7_isCracked 3 = .ok (.aload_n 0, 1) := by decide +kernel
theorem dX7_isCracked_4 : decode cX7_isCracked 4 = .ok (.getfield 35, 3) := by decide +kernel
theorem dX7_isCracked_7 : decode cX7_isCracked 7 = .ok (.if_icmp .ge 69, 3) := by decide +kernel
theorem dX7_isCracked_10 : decode cX7_isCracked 10 = .ok (.iload_n 3, 1) := by decide +kernel
theorem dX7_isCracked_11 : decode cX7_isCracked 11 = .ok (.aload_n 0, 1) := by decide +kernel
theorem dX7_isCracked_12 : decode cX7_isCracked 12 = .ok (.getfield 15, 3) := by decide +kernel
theorem dX7_isCracked_15 : decode cX7_isCracked 15 = .ok (.arraylength, 1) := by decide +kernel
theorem dX7_isCracked_16 : decode cX7_isCracked 16 = .ok (.if_icmp .ge 60, 3) := by decide +kernel
theorem dX7_isCracked_19 : decode cX7_isCracked 19 = .ok (.iload_n 3, 1) := by decide +kernel
theorem dX7_isCracked_20 : decode cX7_isCracked 20 = .ok (.aload_n 0, 1) := by decide +kernel
theorem dX7_isCracked_21 : decode cX7_isCracked 21 = .ok (.getfield 18, 3) := by decide +kernel
theorem dX7_isCracked_24 : decode cX7_isCracked 24 = .ok (.arraylength, 1) := by decide +kernel
theorem dX7_isCracked_25 : decode cX7_isCracked 25 = .ok (.if_icmp .ge 51, 3) := by decide +kernel
theorem dX7_isCracked_28 : decode cX7_isCracked 28 = .ok (.aload_n 0, 1) := by decide +kernel
theorem dX7_isCracked_29 : decode cX7_isCracked 29 = .ok (.getfield 15, 3) := by decide +kernel
theorem dX7_isCracked_32 : decode cX7_isCracked 32 = .ok (.iload_n 3, 1) := by decide +kernel
theorem dX7_isCracked_33 : decode cX7_isCracked 33 = .ok (.iaload, 1) := by decide +kernel
theorem dX7_isCracked_34 : decode cX7_isCracked 34 = .ok (.iload_n 1, 1) := by decide +kernel
theorem dX7_isCracked_35 : decode cX7_isCracked 35 = .ok (.if_icmp .ne 13, 3) := by decide +kernel
theorem dX7_isCracked_38 : decode cX7_isCracked 38 = .ok (.aload_n 0, 1) := by decide +kernel
theorem dX7_isCracked_39 : decode cX7_isCracked 39 = .ok (.getfield 18, 3) := by decide +kernel
theorem dX7_isCracked_42 : decode cX7_isCracked 42 = .ok (.iload_n 3, 1) := by decide +kernel
theorem dX7_isCracked_43 : decode cX7_isCracked 43 = .ok (.iaload, 1) := by decide +kernel
theorem dX7_isCracked_44 : decode cX7_isCracked 44 = .ok (.iload_n 2, 1) := by decide +kernel
theorem dX7_isCracked_45 : decode cX7_isCracked 45 = .ok (.if_icmp .eq 23, 3) := by decide +kernel
theorem dX7_isCracked_48 : decode cX7_isCracked 48 = .ok (.aload_n 0, 1) := by decide +kernel
theorem dX7_isCracked_49 : decode cX7_isCracked 49 = .ok (.getfield 15, 3) := by decide +kernel
theorem dX7_isCracked_52 : decode cX7_isCracked 52 = .ok (.iload_n 3, 1) := by decide +kernel
theorem dX7_isCracked_53 : decode cX7_isCracked 53 = .ok (.iaload, 1) := by decide +kernel
theorem dX7_isCracked_54 : decode cX7_isCracked 54 = .ok (.iload_n 2, 1) := by decide +kernel
theorem dX7_isCracked_55 : decode cX7_isCracked 55 = .ok (.if_icmp .ne 15, 3) := by decide +kernel
theorem dX7_isCracked_58 : decode cX7_isCracked 58 = .ok (.aload_n 0, 1) := by decide +kernel
theorem dX7_isCracked_59 : decode cX7_isCracked 59 = .ok (.getfield 18, 3) := by decide +kernel
theorem dX7_isCracked_62 : decode cX7_isCracked 62 = .ok (.iload_n 3, 1) := by decide +kernel
theorem dX7_isCracked_63 : decode cX7_isCracked 63 = .ok (.iaload, 1) := by decide +kernel
theorem dX7_isCracked_64 : decode cX7_isCracked 64 = .ok (.iload_n 1, 1) := by decide +kernel
theorem dX7_isCracked_65 : decode cX7_isCracked 65 = .ok (.if_icmp .ne 5, 3) := by decide +kernel
theorem dX7_isCracked_68 : decode cX7_isCracked 68 = .ok (.iconst 1, 1) := by decide +kernel
theorem dX7_isCracked_69 : decode cX7_isCracked 69 = .ok (.ireturn, 1) := by decide +kernel
theorem dX7_isCracked_70 : decode cX7_isCracked 70 = .ok (.iinc 3 1, 3) := by decide +kernel
theorem dX7_isCracked_73 : decode cX7_isCracked 73 = .ok (.goto (-71), 3) := by decide +kernel
theorem dX7_isCracked_76 : decode cX7_isCracked 76 = .ok (.iconst 0, 1) := by decide +kernel
theorem dX7_isCracked_77 : decode cX7_isCracked 77 = .ok (.ireturn, 1) := by decide +kernel
theorem dX7_below_0 : decode cX7_below 0 = .ok (.iload_n 1, 1) := by decide +kernel
theorem dX7_below_1 : decode cX7_below 1 = .ok (.aload_n 0, 1) := by decide +kernel
theorem dX7_below_2 : decode cX7_below 2 = .ok (.getfield 44, 3) := by decide +kernel
theorem dX7_below_5 : decode cX7_below 5 = .ok (.iadd, 1) := by decide +kernel
theorem dX7_below_6 : decode cX7_below 6 = .ok (.aload_n 0, 1) := by decide +kernel
theorem dX7_below_7 : decode cX7_below 7 = .ok (.invokevirtual 53, 3) := by decide +kernel
theorem dX7_below_10 : decode cX7_below 10 = .ok (.if_icmp .ge 12, 3) := by decide +kernel
theorem dX7_below_13 : decode cX7_below 13 = .ok (.iload_n 1, 1) := by decide +kernel
theorem dX7_below_14 : decode cX7_below 14 = .ok (.aload_n 0, 1) := by decide +kernel
theorem dX7_below_15 : decode cX7_below 15 = .ok (.getfield 44, 3) := by decide +kernel
theorem dX7_below_18 : decode cX7_below 18 = .ok (.iadd, 1) := by decide +kernel
theorem dX7_below_19 : decode cX7_below 19 = .ok (.goto 4, 3) := by decide +kernel
theorem dX7_below_22 : decode cX7_below 22 = .ok (.iconst (-1), 1) := by decide +kernel
theorem dX7_below_23 : decode cX7_below 23 = .ok (.ireturn, 1) := by decide +kernel
theorem dX7_beside_0 : decode cX7_beside 0 = .ok (.iload_n 2, 1) := by decide +kernel
theorem dX7_beside_1 : decode cX7_beside 1 = .ok (.iconst 1, 1) := by decide +kernel
theorem dX7_beside_2 : decode cX7_beside 2 = .ok (.if_icmp .ne 19, 3) := by decide +kernel
theorem dX7_beside_5 : decode cX7_beside 5 = .ok (.aload_n 0, 1) := by decide +kernel
theorem dX7_beside_6 : decode cX7_beside 6 = .ok (.iload_n 1, 1) := by decide +kernel
theorem dX7_beside_7 : decode cX7_beside 7 = .ok (.invokevirtual 70, 3) := by decide +kernel
theorem dX7_beside_10 : decode cX7_beside 10 = .ok (.ifCond .le 9, 3) := by decide +kernel
theorem dX7_beside_13 : decode cX7_beside 13 = .ok (.iload_n 1, 1) := by decide +kernel
theorem dX7_beside_14 : decode cX7_beside 14 = .ok (.iconst 1, 1) := by decide +kernel
theorem dX7_beside_15 : decode cX7_beside 15 = .ok (.isub, 1) := by decide +kernel
theorem dX7_beside_16 : decode cX7_beside 16 = .ok (.goto 4, 3) := by decide +kernel
theorem dX7_beside_19 : decode cX7_beside 19 = .ok (.iconst (-1), 1) := by decide +kernel
theorem dX7_beside_20 : decode cX7_beside 20 = .ok (.ireturn, 1) := by decide +kernel
theorem dX7_beside_21 : decode cX7_beside 21 = .ok (.iload_n 2, 1) := by decide +kernel
theorem dX7_beside_22 : decode cX7_beside 22 = .ok (.iconst 2, 1) := by decide +kernel
theorem dX7_beside_23 : decode cX7_beside 23 = .ok (.if_icmp .ne 23, 3) := by decide +kernel
theorem dX7_beside_26 : decode cX7_beside 26 = .ok (.aload_n 0, 1) := by decide +kernel
theorem dX7_beside_27 : decode cX7_beside 27 = .ok (.iload_n 1, 1) := by decide +kernel
theorem dX7_beside_28 : decode cX7_beside 28 = .ok (.invokevirtual 70, 3) := by decide +kernel
theorem dX7_beside_31 : decode cX7_beside 31 = .ok (.iconst 1, 1) := by decide +kernel
theorem dX7_beside_32 : decode cX7_beside 32 = .ok (.iadd, 1) := by decide +kernel
theorem dX7_beside_33 : decode cX7_beside 33 = .ok (.aload_n 0, 1) := by decide +kernel
theorem dX7_beside_34 : decode cX7_beside 34 = .ok (.getfield 44, 3) := by decide +kernel
theorem dX7_beside_37 : decode cX7_beside 37 = .ok (.if_icmp .ge 9, 3) := by decide +kernel
theorem dX7_beside_40 : decode cX7_beside 40 = .ok (.iload_n 1, 1) := by decide +kernel
theorem dX7_beside_41 : decode cX7_beside 41 = .ok (.iconst 1, 1) := by decide +kernel
theorem dX7_beside_42 : decode cX7_beside 42 = .ok (.iadd, 1) := by decide +kernel
theorem dX7_beside_43 : decode cX7_beside 43 = .ok (.goto 4, 3) := by decide +kernel
theorem dX7_beside_46 : decode cX7_beside 46 = .ok (.iconst (-1), 1) := by decide +kernel
theorem dX7_beside_47 : decode cX7_beside 47 = .ok (.ireturn, 1) := by decide +kernel
theorem dX8_init_0 : decode cX8_init 0 = .ok (.aload_n 0, 1) := by decide +kernel
theorem dX8_init_1 : decode cX8_init 1 = .ok (.invokespecial 3, 3) := by decide +kernel
theorem dX8_init_4 : decode cX8_init 4 = .ok (.aload_n 0, 1) := by decide +kernel
theorem dX8_init_5 : decode cX8_init 5 = .ok (.sipush 240, 3) := by decide +kernel
theorem dX8_init_8 : decode cX8_init 8 = .ok (.newarray .int, 2) := by decide +kernel
theorem dX8_init_10 : decode cX8_init 10 = .ok (.putfield 9, 3) := by decide +kernel
theorem dX8_init_13 : decode cX8_init 13 = .ok (.aload_n 0, 1) := by decide +kernel
theorem dX8_init_14 : decode cX8_init 14 = .ok (.iconst (-1), 1) := by decide +kernel
theorem dX8_init_15 : decode cX8_init 15 = .ok (.putfield 15, 3) := by decide +kernel
theorem dX8_init_18 : decode cX8_init 18 = .ok (.return_, 1) := by decide +kernel
theorem dX8_add_0 : decode cX8_add 0 = .ok (.aload_n 0, 1) := by decide +kernel
theorem dX8_add_1 : decode cX8_add 1 = .ok (.getfield 19, 3) := by decide +kernel
theorem dX8_add_4 : decode cX8_add 4 = .ok (.aload_n 0, 1) := by decide +kernel
theorem dX8_add_5 : decode cX8_add 5 = .ok (.getfield 9, 3) := by decide +kernel
theorem dX8_add_8 : decode cX8_add 8 = .ok (.arraylength, 1) := by decide +kernel
theorem dX8_add_9 : decode cX8_add 9 = .ok (.if_icmp .lt 6, 3) := by decide +kernel
theorem dX8_add_12 : decode cX8_add 12 = .ok (.ldc 22, 2) := by decide +kernel
theorem dX8_add_14 : decode cX8_add 14 = .ok (.ireturn, 1) := by decide +kernel
theorem dX8_add_15 : decode cX8_add 15 = .ok (.aload_n 0, 1) := by decide +kernel
theorem dX8_add_16 : decode cX8_add 16 = .ok (.getfield 9, 3) := by decide +kernel
theorem dX8_add_19 : decode cX8_add 19 = .ok (.aload_n 0, 1) := by decide +kernel
theorem dX8_add_20 : decode cX8_add 20 = .ok (.getfield 19, 3) := by decide +kernel
theorem dX8_add_23 : decode cX8_add 23 = .ok (.iload_n 1, 1) := by decide +kernel
theorem dX8_add_24 : decode cX8_add 24 = .ok (.invokestatic 23, 3) := by decide +kernel
theorem dX8_add_27 : decode cX8_add 27 = .ok (.aload_n 0, 1) := by decide +kernel
theorem dX8_add_28 : decode cX8_add 28 = .ok (.dup, 1) := by decide +kernel
theorem dX8_add_29 : decode cX8_add 29 = .ok (.getfield 19, 3) := by decide +kernel
theorem dX8_add_32 : decode cX8_add 32 = .ok (.iconst 1, 1) := by decide +kernel
theorem dX8_add_33 : decode cX8_add 33 = .ok (.iadd, 1) := by decide +kernel
theorem dX8_add_34 : decode cX8_add 34 = .ok (.putfield 19, 3) := by decide +kernel
theorem dX8_add_37 : decode cX8_add 37 = .ok (.aload_n 0, 1) := by decide +kernel
theorem dX8_add_38 : decode cX8_add 38 = .ok (.getfield 19, 3) := by decide +kernel
theorem dX8_add_41 : decode cX8_add 41 = .ok (.ireturn, 1) := by decide +kernel
theorem dX8_read_0 : decode cX8_read 0 = .ok (.aload_n 0, 1) := by decide +kernel
theorem dX8_read_1 : decode cX8_read 1 = .ok (.iconst 0, 1) := by decide +kernel
theorem dX8_read_2 : decode cX8_read 2 = .ok (.putfield 27, 3) := by decide +kernel
theorem dX8_read_5 : decode cX8_read 5 = .ok (.aload_n 0, 1) := by decide +kernel
theorem dX8_read_6 : decode cX8_read 6 = .ok (.iconst 0, 1) := by decide +kernel
theorem dX8_read_7 : decode cX8_read 7 = .ok (.putfield 30, 3) := by decide +kernel
theorem dX8_read_10 : decode cX8_read 10 = .ok (.aload_n 0, 1) := by decide +kernel
theorem dX8_read_11 : decode cX8_read 11 = .ok (.iconst (-1), 1) := by decide +kernel
theorem dX8_read_12 : decode cX8_read 12 = .ok (.putfield 15, 3) := by decide +kernel
theorem dX8_read_15 : decode cX8_read 15 = .ok (.aload_n 0, 1) := by decide +kernel
theorem dX8_read_16 : decode cX8_read 16 = .ok (.iconst 0, 1) := by decide +kernel
theorem dX8_read_17 : decode cX8_read 17 = .ok (.putfield 33, 3) := by decide +kernel
theorem dX8_read_20 : decode cX8_read 20 = .ok (.aload_n 1, 1) := by decide +kernel
theorem dX8_read_21 : decode cX8_read 21 = .ok (.invokevirtual 37, 3) := by decide +kernel
theorem dX8_read_24 : decode cX8_read 24 = .ok (.iconst 0, 1) := by decide +kernel
theorem dX8_read_25 : decode cX8_read 25 = .ok (.istore_n 2, 1) := by decide +kernel
theorem dX8_read_26 : decode cX8_read 26 = .ok (.iload_n 2, 1) := by decide +kernel
theorem dX8_read_27 : decode cX8_read 27 = .ok (.sipush 240, 3) := by decide +kernel
theorem dX8_read_30 : decode cX8_read 30 = .ok (.if_icmp .ge 29, 3) := by decide +kernel
theorem dX8_read_33 : decode cX8_read 33 = .ok (.aload_n 0, 1) := by decide +kernel
theorem dX8_read_34 : decode cX8_read 34 = .ok (.getfield 30, 3) := by decide +kernel
theorem dX8_read_37 : decode cX8_read 37 = .ok (.ifCond .ne 22, 3) := by decide +kernel
theorem dX8_read_40 : decode cX8_read 40 = .ok (.aload_n 0, 1) := by decide +kernel
theorem dX8_read_41 : decode cX8_read 41 = .ok (.invokevirtual 42, 3) := by decide +kernel
theorem dX8_read_44 : decode cX8_read 44 = .ok (.iconst (-1), 1) := by decide +kernel
theorem dX8_read_45 : decode cX8_read 45 = .ok (.if_icmp .eq 14, 3) := by decide +kernel
theorem dX8_read_48 : decode cX8_read 48 = .ok (.aload_n 0, 1) := by decide +kernel
theorem dX8_read_49 : decode cX8_read 49 = .ok (.aload_n 1, 1) := by decide +kernel
theorem dX8_read_50 : decode cX8_read 50 = .ok (.invokevirtual 46, 3) := by decide +kernel
theorem dX8_read_53 : decode cX8_read 53 = .ok (.iinc 2 1, 3) := by decide +kernel
theorem dX8_read_56 : decode cX8_read 56 = .ok (.goto (-30), 3) := by decide +kernel
theorem dX8_read_59 : decode cX8_read 59 = .ok (.aload_n 0, 1) := by decide +kernel
theorem dX8_read_60 : decode cX8_read 60 = .ok (.iconst 0, 1) := by decide +kernel
theorem dX8_read_61 : decode cX8_read 61 = .ok (.putfield 19, 3) := by decide +kernel
theorem dX8_read_64 : decode cX8_read 64 = .ok (.aload_n 0, 1) := by decide +kernel
theorem dX8_read_65 : decode cX8_read 65 = .ok (.getfield 30, 3) := by decide +kernel
theorem dX8_read_68 : decode cX8_read 68 = .ok (.ifCond .ne 7, 3) := by decide +kernel
theorem dX8_read_71 : decode cX8_read 71 = .ok (.iconst 1, 1) := by decide +kernel
theorem dX8_read_72 : decode cX8_read 72 = .ok (.goto 4, 3) := by decide +kernel
theorem dX8_read_75 : decode cX8_read 75 = .ok (.iconst 0, 1) := by decide +kernel
theorem dX8_read_76 : decode cX8_read 76 = .ok (.ireturn, 1) := by decide +kernel
theorem dX8_readClause_0 : decode cX8_readClause 0 = .ok (.aload_n 0, 1) := by decide +kernel
theorem dX8_readClause_1 : decode cX8_readClause 1 = .ok (.invokevirtual 42, 3) := by decide +kernel
theorem dX8_readClause_4 : decode cX8_readClause 4 = .ok (.istore_n 2, 1) := by decide +kernel
theorem dX8_readClause_5 : decode cX8_readClause 5 = .ok (.aload_n 1, 1) := by decide +kernel
theorem dX8_readClause_6 : decode cX8_readClause 6 = .ok (.getfield 50, 3) := by decide +kernel
theorem dX8_readClause_9 : decode cX8_readClause 9 = .ok (.ifCond .ne 19, 3) := by decide +kernel
theorem dX8_readClause_12 : decode cX8_readClause 12 = .ok (.iload_n 2, 1) := by decide +kernel
theorem dX8_readClause_13 : decode cX8_readClause 13 = .ok (.bipush 119, 2) := by decide +kernel
theorem dX8_readClause_15 : decode cX8_readClause 15 = .ok (.if_icmp .eq 13, 3) := by decide +kernel
theorem dX8_readClause_18 : decode cX8_readClause 18 = .ok (.aload_n 0, 1) := by decide +kernel
theorem dX8_readClause_19 : decode cX8_readClause 19 = .ok (.iconst 1, 1) := by decide +kernel
theorem dX8_readClause_20 : decode cX8_readClause 20 = .ok (.aload_n 0, 1) := by decide +kernel
theorem dX8_readClause_21 : decode cX8_readClause 21 = .ok (.getfield 27, 3) := by decide +kernel
theorem dX8_readClause_24 : decode cX8_readClause 24 = .ok (.invokevirtual 53, 3) := by decide +kernel
theorem dX8_readClause_27 : decode cX8_readClause 27 = .ok (.return_, 1) := by decide +kernel
theorem dX8_readClause_28 : decode cX8_readClause 28 = .ok (.iload_n 2, 1) := by decide +kernel
theorem dX8_readClause_29 : decode cX8_readClause 29 = .ok (.lookupswitch 91 #[(99, 67), (102, 75), (108, 59), (110, 83), (119, 51)], 51) := by decide +kernel
theorem dX8_readClause_80 : decode cX8_readClause 80 = .ok (.aload_n 0, 1) := by decide +kernel
theorem dX8_readClause_81 : decode cX8_readClause 81 = .ok (.aload_n 1, 1) := by decide +kernel
theorem dX8_readClause_82 : decode cX8_readClause 82 = .ok (.invokevirtual 57, 3) := by decide +kernel
theorem dX8_readClause_85 : decode cX8_readClause 85 = .ok (.goto 44, 3) := by decide +kernel
theorem dX8_readClause_88 : decode cX8_readClause 88 = .ok (.aload_n 0, 1) := by decide +kernel
theorem dX8_readClause_89 : decode cX8_readClause 89 = .ok (.aload_n 1, 1) := by decide +kernel
theorem dX8_readClause_90 : decode cX8_readClause 90 = .ok (.invokevirtual 60, 3) := by decide +kernel
theorem dX8_readClause_93 : decode cX8_readClause 93 = .ok (.goto 36, 3) := by decide +kernel
theorem dX8_readClause_96 : decode cX8_readClause 96 = .ok (.aload_n 0, 1) := by decide +kernel
theorem dX8_readClause_97 : decode cX8_readClause 97 = .ok (.aload_n 1, 1) := by decide +kernel
theorem dX8_readClause_98 : decode cX8_readClause 98 = .ok (.invokevirtual 63, 3) := by decide +kernel
theorem dX8_readClause_101 : decode cX8_readClause 101 = .ok (.goto 28, 3) := by decide +kernel
theorem dX8_readClause_104 : decode cX8_readClause 104 = .ok (.aload_n 0, 1) := by decide +kernel
theorem dX8_readClause_105 : decode cX8_readClause 105 = .ok (.aload_n 1, 1) := by decide +kernel
theorem dX8_readClause_106 : decode cX8_readClause 106 = .ok (.invokevirtual 66, 3) := by decide +kernel
theorem dX8_readClause_109 : decode cX8_readClause 109 = .ok (.goto 20, 3) := by decide +kernel
theorem dX8_readClause_112 : decode cX8_readClause 112 = .ok (.aload_n 0, 1) := by decide +kernel
theorem dX8_readClause_113 : decode cX8_readClause 113 = .ok (.aload_n 1, 1) := by decide +kernel
theorem dX8_readClause_114 : decode cX8_readClause 114 = .ok (.invokevirtual 69, 3) := by decide +kernel
theorem dX8_readClause_117 : decode cX8_readClause 117 = .ok (.goto 12, 3) := by decide +kernel
theorem dX8_readClause_120 : decode cX8_readClause 120 = .ok (.aload_n 0, 1) := by decide +kernel
theorem dX8_readClause_121 : decode cX8_readClause 121 = .ok (.iconst 1, 1) := by decide +kernel
theorem dX8_readClause_122 : decode cX8_readClause 122 = .ok (.aload_n 0, 1) := by decide +kernel
theorem dX8_readClause_123 : decode cX8_readClause 123 = .ok (.getfield 27, 3) := by decide +kernel
theorem dX8_readClause_126 : decode cX8_readClause 126 = .ok (.invokevirtual 53, 3) := by decide +kernel
theorem dX8_readClause_129 : decode cX8_readClause 129 = .ok (.return_, 1) := by decide +kernel
theorem dX8_readSize_0 : decode cX8_readSize 0 = .ok (.aload_n 0, 1) := by decide +kernel
theorem dX8_readSize_1 : decode cX8_readSize 1 = .ok (.aload_n 1, 1) := by decide +kernel
theorem dX8_readSize_2 : decode cX8_readSize 2 = .ok (.getfield 50, 3) := by decide +kernel
theorem dX8_readSize_5 : decode cX8_readSize 5 = .ok (.ifCond .le 7, 3) := by decide +kernel
theorem dX8_readSize_8 : decode cX8_readSize 8 = .ok (.iconst 1, 1) := by decide +kernel
theorem dX8_readSize_9 : decode cX8_readSize 9 = .ok (.goto 4, 3) := by decide +kernel
theorem dX8_readSize_12 : decode cX8_readSize 12 = .ok (.iconst 0, 1) := by decide +kernel
theorem dX8_readSize_13 : decode cX8_readSize 13 = .ok (.invokevirtual 72, 3) := by decide +kernel
theorem dX8_readSize_16 : decode cX8_readSize 16 = .ok (.aload_n 0, 1) := by decide +kernel
theorem dX8_readSize_17 : decode cX8_readSize 17 = .ok (.iconst 2, 1) := by decide +kernel
theorem dX8_readSize_18 : decode cX8_readSize 18 = .ok (.iconst 5, 1) := by decide +kernel
theorem dX8_readSize_19 : decode cX8_readSize 19 = .ok (.invokevirtual 76, 3) := by decide +kernel
theorem dX8_readSize_22 : decode cX8_readSize 22 = .ok (.istore_n 2, 1) := by decide +kernel
theorem dX8_readSize_23 : decode cX8_readSize 23 = .ok (.aload_n 0, 1) := by decide +kernel
theorem dX8_readSize_24 : decode cX8_readSize 24 = .ok (.iconst 2, 1) := by decide +kernel
theorem dX8_readSize_25 : decode cX8_readSize 25 = .ok (.iconst 5, 1) := by decide +kernel
theorem dX8_readSize_26 : decode cX8_readSize 26 = .ok (.invokevirtual 76, 3) := by decide +kernel
theorem dX8_readSize_29 : decode cX8_readSize 29 = .ok (.istore_n 3, 1) := by decide +kernel
theorem dX8_readSize_30 : decode cX8_readSize 30 = .ok (.aload_n 0, 1) := by decide +kernel
theorem dX8_readSize_31 : decode cX8_readSize 31 = .ok (.bipush 59, 2) := by decide +kernel
theorem dX8_readSize_33 : decode cX8_readSize 33 = .ok (.invokevirtual 80, 3) := by decide +kernel
theorem dX8_readSize_36 : decode cX8_readSize 36 = .ok (.ifCond .eq 9, 3) := by decide +kernel
theorem dX8_readSize_39 : decode cX8_readSize 39 = .ok (.aload_n 1, 1) := by decide +kernel
theorem dX8_readSize_40 : decode cX8_readSize 40 = .ok (.iload_n 2, 1) := by decide +kernel
theorem dX8_readSize_41 : decode cX8_readSize 41 = .ok (.iload_n 3, 1) := by decide +kernel
theorem dX8_readSize_42 : decode cX8_readSize 42 = .ok (.invokevirtual 84, 3) := by decide +kernel
theorem dX8_readSize_45 : decode cX8_readSize 45 = .ok (.return_, 1) := by decide +kernel
theorem dX8_readLeak_0 : decode cX8_readLeak 0 = .ok (.aload_n 0, 1) := by decide +kernel
theorem dX8_readLeak_1 : decode cX8_readLeak 1 = .ok (.aload_n 1, 1) := by decide +kernel
theorem dX8_readLeak_2 : decode cX8_readLeak 2 = .ok (.getfield 87, 3) := by decide +kernel
theorem dX8_readLeak_5 : decode cX8_readLeak 5 = .ok (.iconst 4, 1) := by decide +kernel
theorem dX8_readLeak_6 : decode cX8_readLeak 6 = .ok (.if_icmp .lt 7, 3) := by decide +kernel
theorem dX8_readLeak_9 : decode cX8_readLeak 9 = .ok (.iconst 1, 1) := by decide +kernel
theorem dX8_readLeak_10 : decode cX8_readLeak 10 = .ok (.goto 4, 3) := by decide +kernel
theorem dX8_readLeak_13 : decode cX8_readLeak 13 = .ok (.iconst 0, 1) := by decide +kernel
theorem dX8_readLeak_14 : decode cX8_readLeak 14 = .ok (.invokevirtual 72, 3) := by decide +kernel
theorem dX8_readLeak_17 : decode cX8_readLeak 17 = .ok (.aload_n 0, 1) := by decide +kernel
theorem dX8_readLeak_18 : decode cX8_readLeak 18 = .ok (.iconst 0, 1) := by decide +kernel
theorem dX8_readLeak_19 : decode cX8_readLeak 19 = .ok (.aload_n 1, 1) := by decide +kernel
theorem dX8_readLeak_20 : decode cX8_readLeak 20 = .ok (.invokevirtual 90, 3) := by decide +kernel
theorem dX8_readLeak_23 : decode cX8_readLeak 23 = .ok (.iconst 1, 1) := by decide +kernel
theorem dX8_readLeak_24 : decode cX8_readLeak 24 = .ok (.isub, 1) := by decide +kernel
theorem dX8_readLeak_25 : decode cX8_readLeak 25 = .ok (.invokevirtual 76, 3) := by decide +kernel
theorem dX8_readLeak_28 : decode cX8_readLeak 28 = .ok (.istore_n 2, 1) := by decide +kernel
theorem dX8_readLeak_29 : decode cX8_readLeak 29 = .ok (.aload_n 0, 1) := by decide +kernel
theorem dX8_readLeak_30 : decode cX8_readLeak 30 = .ok (.bipush 59, 2) := by decide +kernel
theorem dX8_readLeak_32 : decode cX8_readLeak 32 = .ok (.invokevirtual 80, 3) := by decide +kernel
theorem dX8_readLeak_35 : decode cX8_readLeak 35 = .ok (.ifCond .eq 8, 3) := by decide +kernel
theorem dX8_readLeak_38 : decode cX8_readLeak 38 = .ok (.aload_n 1, 1) := by decide +kernel
theorem dX8_readLeak_39 : decode cX8_readLeak 39 = .ok (.iload_n 2, 1) := by decide +kernel
theorem dX8_readLeak_40 : decode cX8_readLeak 40 = .ok (.invokevirtual 93, 3) := by decide +kernel
theorem dX8_readLeak_43 : decode cX8_readLeak 43 = .ok (.return_, 1) := by decide +kernel
theorem dX8_readCrack_0 : decode cX8_readCrack 0 = .ok (.aload_n 0, 1) := by decide +kernel
theorem dX8_readCrack_1 : decode cX8_readCrack 1 = .ok (.aload_n 1, 1) := by decide +kernel
theorem dX8_readCrack_2 : decode cX8_readCrack 2 = .ok (.getfield 97, 3) := by decide +kernel
theorem dX8_readCrack_5 : decode cX8_readCrack 5 = .ok (.bipush 6, 2) := by decide +kernel
theorem dX8_readCrack_7 : decode cX8_readCrack 7 = .ok (.if_icmp .lt 7, 3) := by decide +kernel
theorem dX8_readCrack_10 : decode cX8_readCrack 10 = .ok (.iconst 1, 1) := by decide +kernel
theorem dX8_readCrack_11 : decode cX8_readCrack 11 = .ok (.goto 4, 3) := by decide +kernel
theorem dX8_readCrack_14 : decode cX8_readCrack 14 = .ok (.iconst 0, 1) := by decide +kernel
theorem dX8_readCrack_15 : decode cX8_readCrack 15 = .ok (.invokevirtual 72, 3) := by decide +kernel
theorem dX8_readCrack_18 : decode cX8_readCrack 18 = .ok (.aload_n 0, 1) := by decide +kernel
theorem dX8_readCrack_19 : decode cX8_readCrack 19 = .ok (.iconst 0, 1) := by decide +kernel
theorem dX8_readCrack_20 : decode cX8_readCrack 20 = .ok (.aload_n 1, 1) := by decide +kernel
theorem dX8_readCrack_21 : decode cX8_readCrack 21 = .ok (.invokevirtual 90, 3) := by decide +kernel
theorem dX8_readCrack_24 : decode cX8_readCrack 24 = .ok (.iconst 1, 1) := by decide +kernel
theorem dX8_readCrack_25 : decode cX8_readCrack 25 = .ok (.isub, 1) := by decide +kernel
theorem dX8_readCrack_26 : decode cX8_readCrack 26 = .ok (.invokevirtual 76, 3) := by decide +kernel
theorem dX8_readCrack_29 : decode cX8_readCrack 29 = .ok (.istore_n 2, 1) := by decide +kernel
theorem dX8_readCrack_30 : decode cX8_readCrack 30 = .ok (.aload_n 0, 1) := by decide +kernel
theorem dX8_readCrack_31 : decode cX8_readCrack 31 = .ok (.iconst 0, 1) := by decide +kernel
theorem dX8_readCrack_32 : decode cX8_readCrack 32 = .ok (.aload_n 1, 1) := by decide +kernel
theorem dX8_readCrack_33 : decode cX8_readCrack 33 = .ok (.invokevirtual 90, 3) := by decide +kernel
theorem dX8_readCrack_36 : decode cX8_readCrack 36 = .ok (.iconst 1, 1) := by decide +kernel
theorem dX8_readCrack_37 : decode cX8_readCrack 37 = .ok (.isub, 1) := by decide +kernel
theorem dX8_readCrack_38 : decode cX8_readCrack 38 = .ok (.invokevirtual 76, 3) := by decide +kernel
theorem dX8_readCrack_41 : decode cX8_readCrack 41 = .ok (.istore_n 3, 1) := by decide +kernel
theorem dX8_readCrack_42 : decode cX8_readCrack 42 = .ok (.aload_n 1, 1) := by decide +kernel
theorem dX8_readCrack_43 : decode cX8_readCrack 43 = .ok (.iload_n 2, 1) := by decide +kernel
theorem dX8_readCrack_44 : decode cX8_readCrack 44 = .ok (.iload_n 3, 1) := by decide +kernel
theorem dX8_readCrack_45 : decode cX8_readCrack 45 = .ok (.invokevirtual 100, 3) := by decide +kernel
theorem dX8_readCrack_48 : decode cX8_readCrack 48 = .ok (.ifCond .eq 12, 3) := by decide +kernel
theorem dX8_readCrack_51 : decode cX8_readCrack 51 = .ok (.aload_n 1, 1) := by decide +kernel
theorem dX8_readCrack_52 : decode cX8_readCrack 52 = .ok (.iload_n 2, 1) := by decide +kernel
theorem dX8_readCrack_53 : decode cX8_readCrack 53 = .ok (.iload_n 3, 1) := by decide +kernel
theorem dX8_readCrack_54 : decode cX8_readCrack 54 = .ok (.invokevirtual 104, 3) := by decide +kernel
theorem dX8_readCrack_57 : decode cX8_readCrack 57 = .ok (.ifCond .eq 12, 3) := by decide +kernel
theorem dX8_readCrack_60 : decode cX8_readCrack 60 = .ok (.aload_n 0, 1) := by decide +kernel
theorem dX8_readCrack_61 : decode cX8_readCrack 61 = .ok (.iconst 4, 1) := by decide +kernel
theorem dX8_readCrack_62 : decode cX8_readCrack 62 = .ok (.aload_n 0, 1) := by decide +kernel
theorem dX8_readCrack_63 : decode cX8_readCrack 63 = .ok (.getfield 107, 3) := by decide +kernel
theorem dX8_readCrack_66 : decode cX8_readCrack 66 = .ok (.invokevirtual 53, 3) := by decide +kernel
theorem dX8_readCrack_69 : decode cX8_readCrack 69 = .ok (.aload_n 0, 1) := by decide +kernel
theorem dX8_readCrack_70 : decode cX8_readCrack 70 = .ok (.bipush 59, 2) := by decide +kernel
theorem dX8_readCrack_72 : decode cX8_readCrack 72 = .ok (.invokevirtual 80, 3) := by decide +kernel
theorem dX8_readCrack_75 : decode cX8_readCrack 75 = .ok (.ifCond .eq 9, 3) := by decide +kernel
theorem dX8_readCrack_78 : decode cX8_readCrack 78 = .ok (.aload_n 1, 1) := by decide +kernel
theorem dX8_readCrack_79 : decode cX8_readCrack 79 = .ok (.iload_n 2, 1) := by decide +kernel
theorem dX8_readCrack_80 : decode cX8_readCrack 80 = .ok (.iload_n 3, 1) := by decide +kernel
theorem dX8_readCrack_81 : decode cX8_readCrack 81 = .ok (.invokevirtual 110, 3) := by decide +kernel
theorem dX8_readCrack_84 : decode cX8_readCrack 84 = .ok (.return_, 1) := by decide +kernel
theorem dX8_readFace_0 : decode cX8_readFace 0 = .ok (.aload_n 0, 1) := by decide +kernel
theorem dX8_readFace_1 : decode cX8_readFace 1 = .ok (.aload_n 1, 1) := by decide +kernel
theorem dX8_readFace_2 : decode cX8_readFace 2 = .ok (.getfield 113, 3) := by decide +kernel
theorem dX8_readFace_5 : decode cX8_readFace 5 = .ok (.iconst 5, 1) := by decide +kernel
theorem dX8_readFace_6 : decode cX8_readFace 6 = .ok (.if_icmp .lt 7, 3) := by decide +kernel
theorem dX8_readFace_9 : decode cX8_readFace 9 = .ok (.iconst 1, 1) := by decide +kernel
theorem dX8_readFace_10 : decode cX8_readFace 10 = .ok (.goto 4, 3) := by decide +kernel
theorem dX8_readFace_13 : decode cX8_readFace 13 = .ok (.iconst 0, 1) := by decide +kernel
theorem dX8_readFace_14 : decode cX8_readFace 14 = .ok (.invokevirtual 72, 3) := by decide +kernel
theorem dX8_readFace_17 : decode cX8_readFace 17 = .ok (.iconst 0, 1) := by decide +kernel
theorem dX8_readFace_18 : decode cX8_readFace 18 = .ok (.istore_n 2, 1) := by decide +kernel
theorem dX8_readFace_19 : decode cX8_readFace 19 = .ok (.iconst 0, 1) := by decide +kernel
theorem dX8_readFace_20 : decode cX8_readFace 20 = .ok (.istore_n 3, 1) := by decide +kernel
theorem dX8_readFace_21 : decode cX8_readFace 21 = .ok (.iload_n 3, 1) := by decide +kernel
theorem dX8_readFace_22 : decode cX8_readFace 22 = .ok (.aload_n 1, 1) := by decide +kernel
theorem dX8_readFace_23 : decode cX8_readFace 23 = .ok (.getfield 50, 3) := by decide +kernel
theorem dX8_readFace_26 : decode cX8_readFace 26 = .ok (.if_icmp .ge 43, 3) := by decide +kernel
theorem dX8_readFace_29 : decode cX8_readFace 29 = .ok (.iload_n 3, 1) := by decide +kernel
theorem dX8_readFace_30 : decode cX8_readFace 30 = .ok (.ifCond .le 10, 3) := by decide +kernel
theorem dX8_readFace_33 : decode cX8_readFace 33 = .ok (.aload_n 0, 1) := by decide +kernel
theorem dX8_readFace_34 : decode cX8_readFace 34 = .ok (.bipush 44, 2) := by decide +kernel
theorem dX8_readFace_36 : decode cX8_readFace 36 = .ok (.invokevirtual 80, 3) := by decide +kernel
theorem dX8_readFace_39 : decode cX8_readFace 39 = .ok (.pop, 1) := by decide +kernel
theorem dX8_readFace_40 : decode cX8_readFace 40 = .ok (.iload_n 2, 1) := by decide +kernel
theorem dX8_readFace_41 : decode cX8_readFace 41 = .ok (.aload_n 0, 1) := by decide +kernel
theorem dX8_readFace_42 : decode cX8_readFace 42 = .ok (.iconst 0, 1) := by decide +kernel
theorem dX8_readFace_43 : decode cX8_readFace 43 = .ok (.iconst 1, 1) := by decide +kernel
theorem dX8_readFace_44 : decode cX8_readFace 44 = .ok (.aload_n 1, 1) := by decide +kernel
theorem dX8_readFace_45 : decode cX8_readFace 45 = .ok (.getfield 116, 3) := by decide +kernel
theorem dX8_readFace_48 : decode cX8_readFace 48 = .ok (.ishl, 1) := by decide +kernel
theorem dX8_readFace_49 : decode cX8_readFace 49 = .ok (.iconst 1, 1) := by decide +kernel
theorem dX8_readFace_50 : decode cX8_readFace 50 = .ok (.isub, 1) := by decide +kernel
theorem dX8_readFace_51 : decode cX8_readFace 51 = .ok (.invokevirtual 76, 3) := by decide +kernel
theorem dX8_readFace_54 : decode cX8_readFace 54 = .ok (.iload_n 3, 1) := by decide +kernel
theorem dX8_readFace_55 : decode cX8_readFace 55 = .ok (.aload_n 1, 1) := by decide +kernel
theorem dX8_readFace_56 : decode cX8_readFace 56 = .ok (.getfield 116, 3) := by decide +kernel
theorem dX8_readFace_59 : decode cX8_readFace 59 = .ok (.imul, 1) := by decide +kernel
theorem dX8_readFace_60 : decode cX8_readFace 60 = .ok (.ishl, 1) := by decide +kernel
theorem dX8_readFace_61 : decode cX8_readFace 61 = .ok (.ior, 1) := by decide +kernel
theorem dX8_readFace_62 : decode cX8_readFace 62 = .ok (.istore_n 2, 1) := by decide +kernel
theorem dX8_readFace_63 : decode cX8_readFace 63 = .ok (.iinc 3 1, 3) := by decide +kernel
theorem dX8_readFace_66 : decode cX8_readFace 66 = .ok (.goto (-45), 3) := by decide +kernel
theorem dX8_readFace_69 : decode cX8_readFace 69 = .ok (.aload_n 0, 1) := by decide +kernel
theorem dX8_readFace_70 : decode cX8_readFace 70 = .ok (.bipush 59, 2) := by decide +kernel
theorem dX8_readFace_72 : decode cX8_readFace 72 = .ok (.invokevirtual 80, 3) := by decide +kernel
theorem dX8_readFace_75 : decode cX8_readFace 75 = .ok (.ifCond .eq 8, 3) := by decide +kernel
theorem dX8_readFace_78 : decode cX8_readFace 78 = .ok (.aload_n 1, 1) := by decide +kernel
theorem dX8_readFace_79 : decode cX8_readFace 79 = .ok (.iload_n 2, 1) := by decide +kernel
theorem dX8_readFace_80 : decode cX8_readFace 80 = .ok (.invokevirtual 119, 3) := by decide +kernel
theorem dX8_readFace_83 : decode cX8_readFace 83 = .ok (.return_, 1) := by decide +kernel
theorem dX8_readWind_0 : decode cX8_readWind 0 = .ok (.aload_n 0, 1) := by decide +kernel
theorem dX8_readWind_1 : decode cX8_readWind 1 = .ok (.aload_n 0, 1) := by decide +kernel
theorem dX8_readWind_2 : decode cX8_readWind 2 = .ok (.getfield 33, 3) := by decide +kernel
theorem dX8_readWind_5 : decode cX8_readWind 5 = .ok (.invokevirtual 72, 3) := by decide +kernel
theorem dX8_readWind_8 : decode cX8_readWind 8 = .ok (.aload_n 0, 1) := by decide +kernel
theorem dX8_readWind_9 : decode cX8_readWind 9 = .ok (.iconst 0, 1) := by decide +kernel
theorem dX8_readWind_10 : decode cX8_readWind 10 = .ok (.iconst 2, 1) := by decide +kernel
theorem dX8_readWind_11 : decode cX8_readWind 11 = .ok (.invokevirtual 76, 3) := by decide +kernel
theorem dX8_readWind_14 : decode cX8_readWind 14 = .ok (.istore_n 2, 1) := by decide +kernel
theorem dX8_readWind_15 : decode cX8_readWind 15 = .ok (.aload_n 0, 1) := by decide +kernel
theorem dX8_readWind_16 : decode cX8_readWind 16 = .ok (.bipush 59, 2) := by decide +kernel
theorem dX8_readWind_18 : decode cX8_readWind 18 = .ok (.invokevirtual 80, 3) := by decide +kernel
theorem dX8_readWind_21 : decode cX8_readWind 21 = .ok (.ifCond .eq 13, 3) := by decide +kernel
theorem dX8_readWind_24 : decode cX8_readWind 24 = .ok (.aload_n 1, 1) := by decide +kernel
theorem dX8_readWind_25 : decode cX8_readWind 25 = .ok (.iload_n 2, 1) := by decide +kernel
theorem dX8_readWind_26 : decode cX8_readWind 26 = .ok (.putfield 122, 3) := by decide +kernel
theorem dX8_readWind_29 : decode cX8_readWind 29 = .ok (.aload_n 0, 1) := by decide +kernel
theorem dX8_readWind_30 : decode cX8_readWind 30 = .ok (.iconst 1, 1) := by decide +kernel
theorem dX8_readWind_31 : decode cX8_readWind 31 = .ok (.putfield 33, 3) := by decide +kernel
theorem dX8_readWind_34 : decode cX8_readWind 34 = .ok (.return_, 1) := by decide +kernel
theorem dX8_fail_0 : decode cX8_fail 0 = .ok (.aload_n 0, 1) := by decide +kernel
theorem dX8_fail_1 : decode cX8_fail 1 = .ok (.getfield 30, 3) := by decide +kernel
theorem dX8_fail_4 : decode cX8_fail 4 = .ok (.ifCond .ne 13, 3) := by decide +kernel
theorem dX8_fail_7 : decode cX8_fail 7 = .ok (.aload_n 0, 1) := by decide +kernel
theorem dX8_fail_8 : decode cX8_fail 8 = .ok (.iload_n 1, 1) := by decide +kernel
theorem dX8_fail_9 : decode cX8_fail 9 = .ok (.putfield 30, 3) := by decide +kernel
theorem dX8_fail_12 : decode cX8_fail 12 = .ok (.aload_n 0, 1) := by decide +kernel
theorem dX8_fail_13 : decode cX8_fail 13 = .ok (.iload_n 2, 1) := by decide +kernel
theorem dX8_fail_14 : decode cX8_fail 14 = .ok (.putfield 15, 3) := by decide +kernel
theorem dX8_fail_17 : decode cX8_fail 17 = .ok (.return_, 1) := by decide +kernel
theorem dX8_peek_0 : decode cX8_peek 0 = .ok (.aload_n 0, 1) := by decide +kernel
theorem dX8_peek_1 : decode cX8_peek 1 = .ok (.getfield 27, 3) := by decide +kernel
theorem dX8_peek_4 : decode cX8_peek 4 = .ok (.aload_n 0, 1) := by decide +kernel
theorem dX8_peek_5 : decode cX8_peek 5 = .ok (.getfield 19, 3) := by decide +kernel
theorem dX8_peek_8 : decode cX8_peek 8 = .ok (.if_icmp .ge 32, 3) := by decide +kernel
theorem dX8_peek_11 : decode cX8_peek 11 = .ok (.aload_n 0, 1) := by decide +kernel
theorem dX8_peek_12 : decode cX8_peek 12 = .ok (.getfield 9, 3) := by decide +kernel
theorem dX8_peek_15 : decode cX8_peek 15 = .ok (.aload_n 0, 1) := by decide +kernel
theorem dX8_peek_16 : decode cX8_peek 16 = .ok (.getfield 27, 3) := by decide +kernel
theorem dX8_peek_19 : decode cX8_peek 19 = .ok (.invokestatic 125, 3) := by decide +kernel
theorem dX8_peek_22 : decode cX8_peek 22 = .ok (.bipush 32, 2) := by decide +kernel
theorem dX8_peek_24 : decode cX8_peek 24 = .ok (.if_icmp .ne 16, 3) := by decide +kernel
theorem dX8_peek_27 : decode cX8_peek 27 = .ok (.aload_n 0, 1) := by decide +kernel
theorem dX8_peek_28 : decode cX8_peek 28 = .ok (.dup, 1) := by decide +kernel
theorem dX8_peek_29 : decode cX8_peek 29 = .ok (.getfield 27, 3) := by decide +kernel
theorem dX8_peek_32 : decode cX8_peek 32 = .ok (.iconst 1, 1) := by decide +kernel
theorem dX8_peek_33 : decode cX8_peek 33 = .ok (.iadd, 1) := by decide +kernel
theorem dX8_peek_34 : decode cX8_peek 34 = .ok (.putfield 27, 3) := by decide +kernel
theorem dX8_peek_37 : decode cX8_peek 37 = .ok (.goto (-37), 3) := by decide +kernel
theorem dX8_peek_40 : decode cX8_peek 40 = .ok (.aload_n 0, 1) := by decide +kernel
theorem dX8_peek_41 : decode cX8_peek 41 = .ok (.getfield 27, 3) := by decide +kernel
theorem dX8_peek_44 : decode cX8_peek 44 = .ok (.aload_n 0, 1) := by decide +kernel
theorem dX8_peek_45 : decode cX8_peek 45 = .ok (.getfield 19, 3) := by decide +kernel
theorem dX8_peek_48 : decode cX8_peek 48 = .ok (.if_icmp .ge 17, 3) := by decide +kernel
theorem dX8_peek_51 : decode cX8_peek 51 = .ok (.aload_n 0, 1) := by decide +kernel
theorem dX8_peek_52 : decode cX8_peek 52 = .ok (.getfield 9, 3) := by decide +kernel
theorem dX8_peek_55 : decode cX8_peek 55 = .ok (.aload_n 0, 1) := by decide +kernel
theorem dX8_peek_56 : decode cX8_peek 56 = .ok (.getfield 27, 3) := by decide +kernel
theorem dX8_peek_59 : decode cX8_peek 59 = .ok (.invokestatic 125, 3) := by decide +kernel
theorem dX8_peek_62 : decode cX8_peek 62 = .ok (.goto 4, 3) := by decide +kernel
theorem dX8_peek_65 : decode cX8_peek 65 = .ok (.iconst (-1), 1) := by decide +kernel
theorem dX8_peek_66 : decode cX8_peek 66 = .ok (.ireturn, 1) := by decide +kernel
theorem dX8_takeWord_0 : decode cX8_takeWord 0 = .ok (.iload_n 1, 1) := by decide +kernel
theorem dX8_takeWord_1 : decode cX8_takeWord 1 = .ok (.ifCond .eq 12, 3) := by decide +kernel
theorem dX8_takeWord_4 : decode cX8_takeWord 4 = .ok (.aload_n 0, 1) := by decide +kernel
theorem dX8_takeWord_5 : decode cX8_takeWord 5 = .ok (.iconst 3, 1) := by decide +kernel
theorem dX8_takeWord_6 : decode cX8_takeWord 6 = .ok (.aload_n 0, 1) := by decide +kernel
theorem dX8_takeWord_7 : decode cX8_takeWord 7 = .ok (.getfield 27, 3) := by decide +kernel
theorem dX8_takeWord_10 : decode cX8_takeWord 10 = .ok (.invokevirtual 53, 3) := by decide +kernel
theorem dX8_takeWord_13 : decode cX8_takeWord 13 = .ok (.aload_n 0, 1) := by decide +kernel
theorem dX8_takeWord_14 : decode cX8_takeWord 14 = .ok (.dup, 1) := by decide +kernel
theorem dX8_takeWord_15 : decode cX8_takeWord 15 = .ok (.getfield 27, 3) := by decide +kernel
theorem dX8_takeWord_18 : decode cX8_takeWord 18 = .ok (.iconst 1, 1) := by decide +kernel
theorem dX8_takeWord_19 : decode cX8_takeWord 19 = .ok (.iadd, 1) := by decide +kernel
theorem dX8_takeWord_20 : decode cX8_takeWord 20 = .ok (.putfield 27, 3) := by decide +kernel
theorem dX8_takeWord_23 : decode cX8_takeWord 23 = .ok (.return_, 1) := by decide +kernel
theorem dX8_takeSign_0 : decode cX8_takeSign 0 = .ok (.aload_n 0, 1) := by decide +kernel
theorem dX8_takeSign_1 : decode cX8_takeSign 1 = .ok (.getfield 30, 3) := by decide +kernel
theorem dX8_takeSign_4 : decode cX8_takeSign 4 = .ok (.ifCond .ne 20, 3) := by decide +kernel
theorem dX8_takeSign_7 : decode cX8_takeSign 7 = .ok (.aload_n 0, 1) := by decide +kernel
theorem dX8_takeSign_8 : decode cX8_takeSign 8 = .ok (.invokevirtual 42, 3) := by decide +kernel
theorem dX8_takeSign_11 : decode cX8_takeSign 11 = .ok (.iload_n 1, 1) := by decide +kernel
theorem dX8_takeSign_12 : decode cX8_takeSign 12 = .ok (.if_icmp .eq 12, 3) := by decide +kernel
theorem dX8_takeSign_15 : decode cX8_takeSign 15 = .ok (.aload_n 0, 1) := by decide +kernel
theorem dX8_takeSign_16 : decode cX8_takeSign 16 = .ok (.iconst 1, 1) := by decide +kernel
theorem dX8_takeSign_17 : decode cX8_takeSign 17 = .ok (.aload_n 0, 1) := by decide +kernel
theorem dX8_takeSign_18 : decode cX8_takeSign 18 = .ok (.getfield 27, 3) := by decide +kernel
theorem dX8_takeSign_21 : decode cX8_takeSign 21 = .ok (.invokevirtual 53, 3) := by decide +kernel
theorem dX8_takeSign_24 : decode cX8_takeSign 24 = .ok (.aload_n 0, 1) := by decide +kernel
theorem dX8_takeSign_25 : decode cX8_takeSign 25 = .ok (.getfield 30, 3) := by decide +kernel
theorem dX8_takeSign_28 : decode cX8_takeSign 28 = .ok (.ifCond .eq 5, 3) := by decide +kernel
theorem dX8_takeSign_31 : decode cX8_takeSign 31 = .ok (.iconst 0, 1) := by decide +kernel
theorem dX8_takeSign_32 : decode cX8_takeSign 32 = .ok (.ireturn, 1) := by decide +kernel
theorem dX8_takeSign_33 : decode cX8_takeSign 33 = .ok (.aload_n 0, 1) := by decide +kernel
theorem dX8_takeSign_34 : decode cX8_takeSign 34 = .ok (.dup, 1) := by decide +kernel
theorem dX8_takeSign_35 : decode cX8_takeSign 35 = .ok (.getfield 27, 3) := by decide +kernel
theorem dX8_takeSign_38 : decode cX8_takeSign 38 = .ok (.iconst 1, 1) := by decide +kernel
theorem dX8_takeSign_39 : decode cX8_takeSign 39 = .ok (.iadd, 1) := by decide +kernel
theorem dX8_takeSign_40 : decode cX8_takeSign 40 = .ok (.putfield 27, 3) := by decide +kernel
theorem dX8_takeSign_43 : decode cX8_takeSign 43 = .ok (.iconst 1, 1) := by decide +kernel
theorem dX8_takeSign_44 : decode cX8_takeSign 44 = .ok (.ireturn, 1) := by decide +kernel
theorem dX8_takeNumber_0 : decode cX8_takeNumber 0 = .ok (.aload_n 0, 1) := by decide +kernel
theorem dX8_takeNumber_1 : decode cX8_takeNumber 1 = .ok (.getfield 30, 3) := by decide +kernel
theorem dX8_takeNumber_4 : decode cX8_takeNumber 4 = .ok (.ifCond .ne 22, 3) := by decide +kernel
theorem dX8_takeNumber_7 : decode cX8_takeNumber 7 = .ok (.aload_n 0, 1) := by decide +kernel
theorem dX8_takeNumber_8 : decode cX8_takeNumber 8 = .ok (.invokevirtual 42, 3) := by decide +kernel
theorem dX8_takeNumber_11 : decode cX8_takeNumber 11 = .ok (.invokestatic 129, 3) := by decide +kernel
theorem dX8_takeNumber_14 : decode cX8_takeNumber 14 = .ok (.ifCond .ne 12, 3) := by decide +kernel
theorem dX8_takeNumber_17 : decode cX8_takeNumber 17 = .ok (.aload_n 0, 1) := by decide +kernel
theorem dX8_takeNumber_18 : decode cX8_takeNumber 18 = .ok (.iconst 1, 1) := by decide +kernel
theorem dX8_takeNumber_19 : decode cX8_takeNumber 19 = .ok (.aload_n 0, 1) := by decide +kernel
theorem dX8_takeNumber_20 : decode cX8_takeNumber 20 = .ok (.getfield 27, 3) := by decide +kernel
theorem dX8_takeNumber_23 : decode cX8_takeNumber 23 = .ok (.invokevirtual 53, 3) := by decide +kernel
theorem dX8_takeNumber_26 : decode cX8_takeNumber 26 = .ok (.aload_n 0, 1) := by decide +kernel
theorem dX8_takeNumber_27 : decode cX8_takeNumber 27 = .ok (.getfield 30, 3) := by decide +kernel
theorem dX8_takeNumber_30 : decode cX8_takeNumber 30 = .ok (.ifCond .eq 5, 3) := by decide +kernel
theorem dX8_takeNumber_33 : decode cX8_takeNumber 33 = .ok (.iconst 0, 1) := by decide +kernel
theorem dX8_takeNumber_34 : decode cX8_takeNumber 34 = .ok (.ireturn, 1) := by decide +kernel
theorem dX8_takeNumber_35 : decode cX8_takeNumber 35 = .ok (.aload_n 0, 1) := by decide +kernel
theorem dX8_takeNumber_36 : decode cX8_takeNumber 36 = .ok (.aload_n 0, 1) := by decide +kernel
theorem dX8_takeNumber_37 : decode cX8_takeNumber 37 = .ok (.getfield 27, 3) := by decide +kernel
theorem dX8_takeNumber_40 : decode cX8_takeNumber 40 = .ok (.putfield 107, 3) := by decide +kernel
theorem dX8_takeNumber_43 : decode cX8_takeNumber 43 = .ok (.iconst 0, 1) := by decide +kernel
theorem dX8_takeNumber_44 : decode cX8_takeNumber 44 = .ok (.istore_n 3, 1) := by decide +kernel
theorem dX8_takeNumber_45 : decode cX8_takeNumber 45 = .ok (.aload_n 0, 1) := by decide +kernel
theorem dX8_takeNumber_46 : decode cX8_takeNumber 46 = .ok (.getfield 27, 3) := by decide +kernel
theorem dX8_takeNumber_49 : decode cX8_takeNumber 49 = .ok (.aload_n 0, 1) := by decide +kernel
theorem dX8_takeNumber_50 : decode cX8_takeNumber 50 = .ok (.getfield 19, 3) := by decide +kernel
theorem dX8_takeNumber_53 : decode cX8_takeNumber 53 = .ok (.if_icmp .ge 66, 3) := by decide +kernel
theorem dX8_takeNumber_56 : decode cX8_takeNumber 56 = .ok (.aload_n 0, 1) := by decide +kernel
theorem dX8_takeNumber_57 : decode cX8_takeNumber 57 = .ok (.getfield 9, 3) := by decide +kernel
theorem dX8_takeNumber_60 : decode cX8_takeNumber 60 = .ok (.aload_n 0, 1) := by decide +kernel
theorem dX8_takeNumber_61 : decode cX8_takeNumber 61 = .ok (.getfield 27, 3) := by decide +kernel
theorem dX8_takeNumber_64 : decode cX8_takeNumber 64 = .ok (.invokestatic 125, 3) := by decide +kernel
theorem dX8_takeNumber_67 : decode cX8_takeNumber 67 = .ok (.invokestatic 129, 3) := by decide +kernel
theorem dX8_takeNumber_70 : decode cX8_takeNumber 70 = .ok (.ifCond .eq 49, 3) := by decide +kernel
theorem dX8_takeNumber_73 : decode cX8_takeNumber 73 = .ok (.aload_n 0, 1) := by decide +kernel
theorem dX8_takeNumber_74 : decode cX8_takeNumber 74 = .ok (.getfield 27, 3) := by decide +kernel
theorem dX8_takeNumber_77 : decode cX8_takeNumber 77 = .ok (.aload_n 0, 1) := by decide +kernel
theorem dX8_takeNumber_78 : decode cX8_takeNumber 78 = .ok (.getfield 107, 3) := by decide +kernel
theorem dX8_takeNumber_81 : decode cX8_takeNumber 81 = .ok (.isub, 1) := by decide +kernel
theorem dX8_takeNumber_82 : decode cX8_takeNumber 82 = .ok (.iconst 3, 1) := by decide +kernel
theorem dX8_takeNumber_83 : decode cX8_takeNumber 83 = .ok (.if_icmp .ge 23, 3) := by decide +kernel
theorem dX8_takeNumber_86 : decode cX8_takeNumber 86 = .ok (.iload_n 3, 1) := by decide +kernel
theorem dX8_takeNumber_87 : decode cX8_takeNumber 87 = .ok (.bipush 10, 2) := by decide +kernel
theorem dX8_takeNumber_89 : decode cX8_takeNumber 89 = .ok (.imul, 1) := by decide +kernel
theorem dX8_takeNumber_90 : decode cX8_takeNumber 90 = .ok (.aload_n 0, 1) := by decide +kernel
theorem dX8_takeNumber_91 : decode cX8_takeNumber 91 = .ok (.getfield 9, 3) := by decide +kernel
theorem dX8_takeNumber_94 : decode cX8_takeNumber 94 = .ok (.aload_n 0, 1) := by decide +kernel
theorem dX8_takeNumber_95 : decode cX8_takeNumber 95 = .ok (.getfield 27, 3) := by decide +kernel
theorem dX8_takeNumber_98 : decode cX8_takeNumber 98 = .ok (.invokestatic 125, 3) := by decide +kernel
theorem dX8_takeNumber_101 : decode cX8_takeNumber 101 = .ok (.iadd, 1) := by decide +kernel
theorem dX8_takeNumber_102 : decode cX8_takeNumber 102 = .ok (.bipush 48, 2) := by decide +kernel
theorem dX8_takeNumber_104 : decode cX8_takeNumber 104 = .ok (.isub, 1) := by decide +kernel
theorem dX8_takeNumber_105 : decode cX8_takeNumber 105 = .ok (.istore_n 3, 1) := by decide +kernel
theorem dX8_takeNumber_106 : decode cX8_takeNumber 106 = .ok (.aload_n 0, 1) := by decide +kernel
theorem dX8_takeNumber_107 : decode cX8_takeNumber 107 = .ok (.dup, 1) := by decide +kernel
theorem dX8_takeNumber_108 : decode cX8_takeNumber 108 = .ok (.getfield 27, 3) := by decide +kernel
theorem dX8_takeNumber_111 : decode cX8_takeNumber 111 = .ok (.iconst 1, 1) := by decide +kernel
theorem dX8_takeNumber_112 : decode cX8_takeNumber 112 = .ok (.iadd, 1) := by decide +kernel
theorem dX8_takeNumber_113 : decode cX8_takeNumber 113 = .ok (.putfield 27, 3) := by decide +kernel
theorem dX8_takeNumber_116 : decode cX8_takeNumber 116 = .ok (.goto (-71), 3) := by decide +kernel
theorem dX8_takeNumber_119 : decode cX8_takeNumber 119 = .ok (.aload_n 0, 1) := by decide +kernel
theorem dX8_takeNumber_120 : decode cX8_takeNumber 120 = .ok (.getfield 27, 3) := by decide +kernel
theorem dX8_takeNumber_123 : decode cX8_takeNumber 123 = .ok (.aload_n 0, 1) := by decide +kernel
theorem dX8_takeNumber_124 : decode cX8_takeNumber 124 = .ok (.getfield 107, 3) := by decide +kernel
theorem dX8_takeNumber_127 : decode cX8_takeNumber 127 = .ok (.isub, 1) := by decide +kernel
theorem dX8_takeNumber_128 : decode cX8_takeNumber 128 = .ok (.iconst 3, 1) := by decide +kernel
theorem dX8_takeNumber_129 : decode cX8_takeNumber 129 = .ok (.if_icmp .gt 12, 3) := by decide +kernel
theorem dX8_takeNumber_132 : decode cX8_takeNumber 132 = .ok (.iload_n 3, 1) := by decide +kernel
theorem dX8_takeNumber_133 : decode cX8_takeNumber 133 = .ok (.iload_n 1, 1) := by decide +kernel
theorem dX8_takeNumber_134 : decode cX8_takeNumber 134 = .ok (.iload_n 2, 1) := by decide +kernel
theorem dX8_takeNumber_135 : decode cX8_takeNumber 135 = .ok (.invokestatic 132, 3) := by decide +kernel
theorem dX8_takeNumber_138 : decode cX8_takeNumber 138 = .ok (.ifCond .eq 12, 3) := by decide +kernel
theorem dX8_takeNumber_141 : decode cX8_takeNumber 141 = .ok (.aload_n 0, 1) := by decide +kernel
theorem dX8_takeNumber_142 : decode cX8_takeNumber 142 = .ok (.iconst 2, 1) := by decide +kernel
theorem dX8_takeNumber_143 : decode cX8_takeNumber 143 = .ok (.aload_n 0, 1) := by decide +kernel
theorem dX8_takeNumber_144 : decode cX8_takeNumber 144 = .ok (.getfield 107, 3) := by decide +kernel
theorem dX8_takeNumber_147 : decode cX8_takeNumber 147 = .ok (.invokevirtual 53, 3) := by decide +kernel
theorem dX8_takeNumber_150 : decode cX8_takeNumber 150 = .ok (.iload_n 3, 1) := by decide +kernel
theorem dX8_takeNumber_151 : decode cX8_takeNumber 151 = .ok (.ireturn, 1) := by decide +kernel
theorem dX8_isFigure_0 : decode cX8_isFigure 0 = .ok (.iload_n 0, 1) := by decide +kernel
theorem dX8_isFigure_1 : decode cX8_isFigure 1 = .ok (.bipush 48, 2) := by decide +kernel
theorem dX8_isFigure_3 : decode cX8_isFigure 3 = .ok (.if_icmp .lt 13, 3) := by decide +kernel
theorem dX8_isFigure_6 : decode cX8_isFigure 6 = .ok (.iload_n 0, 1) := by decide +kernel
theorem dX8_isFigure_7 : decode cX8_isFigure 7 = .ok (.bipush 57, 2) := by decide +kernel
theorem dX8_isFigure_9 : decode cX8_isFigure 9 = .ok (.if_icmp .gt 7, 3) := by decide +kernel
theorem dX8_isFigure_12 : decode cX8_isFigure 12 = .ok (.iconst 1, 1) := by decide +kernel
theorem dX8_isFigure_13 : decode cX8_isFigure 13 = .ok (.goto 4, 3) := by decide +kernel
theorem dX8_isFigure_16 : decode cX8_isFigure 16 = .ok (.iconst 0, 1) := by decide +kernel
theorem dX8_isFigure_17 : decode cX8_isFigure 17 = .ok (.ireturn, 1) := by decide +kernel
theorem dX9_init_0 : decode cX9_init 0 = .ok (.aload_n 0, 1) := by decide +kernel
theorem dX9_init_1 : decode cX9_init 1 = .ok (.invokespecial 3, 3) := by decide +kernel
theorem dX9_init_4 : decode cX9_init 4 = .ok (.aload_n 0, 1) := by decide +kernel
theorem dX9_init_5 : decode cX9_init 5 = .ok (.new 9, 3) := by decide +kernel
theorem dX9_init_8 : decode cX9_init 8 = .ok (.dup, 1) := by decide +kernel
theorem dX9_init_9 : decode cX9_init 9 = .ok (.invokespecial 11, 3) := by decide +kernel
theorem dX9_init_12 : decode cX9_init 12 = .ok (.putfield 12, 3) := by decide +kernel
theorem dX9_init_15 : decode cX9_init 15 = .ok (.aload_n 0, 1) := by decide +kernel
theorem dX9_init_16 : decode cX9_init 16 = .ok (.new 18, 3) := by decide +kernel
theorem dX9_init_19 : decode cX9_init 19 = .ok (.dup, 1) := by decide +kernel
theorem dX9_init_20 : decode cX9_init 20 = .ok (.invokespecial 20, 3) := by decide +kernel
theorem dX9_init_23 : decode cX9_init 23 = .ok (.putfield 21, 3) := by decide +kernel
theorem dX9_init_26 : decode cX9_init 26 = .ok (.aload_n 0, 1) := by decide +kernel
theorem dX9_init_27 : decode cX9_init 27 = .ok (.bipush 8, 2) := by decide +kernel
theorem dX9_init_29 : decode cX9_init 29 = .ok (.anewarray 18, 3) := by decide +kernel
theorem dX9_init_32 : decode cX9_init 32 = .ok (.putfield 25, 3) := by decide +kernel
theorem dX9_init_35 : decode cX9_init 35 = .ok (.iconst 0, 1) := by decide +kernel
theorem dX9_init_36 : decode cX9_init 36 = .ok (.istore_n 1, 1) := by decide +kernel
theorem dX9_init_37 : decode cX9_init 37 = .ok (.iload_n 1, 1) := by decide +kernel
theorem dX9_init_38 : decode cX9_init 38 = .ok (.aload_n 0, 1) := by decide +kernel
theorem dX9_init_39 : decode cX9_init 39 = .ok (.getfield 25, 3) := by decide +kernel
theorem dX9_init_42 : decode cX9_init 42 = .ok (.arraylength, 1) := by decide +kernel
theorem dX9_init_43 : decode cX9_init 43 = .ok (.if_icmp .ge 22, 3) := by decide +kernel
