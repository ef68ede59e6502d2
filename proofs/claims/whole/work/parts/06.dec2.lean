theorem dX9_init_46 : decode cX9_init 46 = .ok (.aload_n 0, 1) := by decide +kernel
theorem dX9_init_47 : decode cX9_init 47 = .ok (.getfield 25, 3) := by decide +kernel
theorem dX9_init_50 : decode cX9_init 50 = .ok (.iload_n 1, 1) := by decide +kernel
theorem dX9_init_51 : decode cX9_init 51 = .ok (.new 18, 3) := by decide +kernel
theorem dX9_init_54 : decode cX9_init 54 = .ok (.dup, 1) := by decide +kernel
theorem dX9_init_55 : decode cX9_init 55 = .ok (.invokespecial 20, 3) := by decide +kernel
theorem dX9_init_58 : decode cX9_init 58 = .ok (.aastore, 1) := by decide +kernel
theorem dX9_init_59 : decode cX9_init 59 = .ok (.iinc 1 1, 3) := by decide +kernel
theorem dX9_init_62 : decode cX9_init 62 = .ok (.goto (-25), 3) := by decide +kernel
theorem dX9_init_65 : decode cX9_init 65 = .ok (.return_, 1) := by decide +kernel
theorem dX9_marksBehind_0 : decode cX9_marksBehind 0 = .ok (.aload_n 0, 1) := by decide +kernel
theorem dX9_marksBehind_1 : decode cX9_marksBehind 1 = .ok (.getfield 21, 3) := by decide +kernel
theorem dX9_marksBehind_4 : decode cX9_marksBehind 4 = .ok (.aload_n 2, 1) := by decide +kernel
theorem dX9_marksBehind_5 : decode cX9_marksBehind 5 = .ok (.invokevirtual 29, 3) := by decide +kernel
theorem dX9_marksBehind_8 : decode cX9_marksBehind 8 = .ok (.aload_n 0, 1) := by decide +kernel
theorem dX9_marksBehind_9 : decode cX9_marksBehind 9 = .ok (.getfield 12, 3) := by decide +kernel
theorem dX9_marksBehind_12 : decode cX9_marksBehind 12 = .ok (.aload_n 1, 1) := by decide +kernel
theorem dX9_marksBehind_13 : decode cX9_marksBehind 13 = .ok (.aload_n 0, 1) := by decide +kernel
theorem dX9_marksBehind_14 : decode cX9_marksBehind 14 = .ok (.getfield 21, 3) := by decide +kernel
theorem dX9_marksBehind_17 : decode cX9_marksBehind 17 = .ok (.iload_n 3, 1) := by decide +kernel
theorem dX9_marksBehind_18 : decode cX9_marksBehind 18 = .ok (.iload 4, 2) := by decide +kernel
theorem dX9_marksBehind_20 : decode cX9_marksBehind 20 = .ok (.invokevirtual 33, 3) := by decide +kernel
theorem dX9_marksBehind_23 : decode cX9_marksBehind 23 = .ok (.aload_n 0, 1) := by decide +kernel
theorem dX9_marksBehind_24 : decode cX9_marksBehind 24 = .ok (.getfield 21, 3) := by decide +kernel
theorem dX9_marksBehind_27 : decode cX9_marksBehind 27 = .ok (.invokevirtual 37, 3) := by decide +kernel
theorem dX9_marksBehind_30 : decode cX9_marksBehind 30 = .ok (.ireturn, 1) := by decide +kernel
theorem dX9_daysTillMarks_0 : decode cX9_daysTillMarks 0 = .ok (.aload_n 0, 1) := by decide +kernel
theorem dX9_daysTillMarks_1 : decode cX9_daysTillMarks 1 = .ok (.getfield 21, 3) := by decide +kernel
theorem dX9_daysTillMarks_4 : decode cX9_daysTillMarks 4 = .ok (.aload_n 2, 1) := by decide +kernel
theorem dX9_daysTillMarks_5 : decode cX9_daysTillMarks 5 = .ok (.invokevirtual 29, 3) := by decide +kernel
theorem dX9_daysTillMarks_8 : decode cX9_daysTillMarks 8 = .ok (.iconst 0, 1) := by decide +kernel
theorem dX9_daysTillMarks_9 : decode cX9_daysTillMarks 9 = .ok (.istore 5, 2) := by decide +kernel
theorem dX9_daysTillMarks_11 : decode cX9_daysTillMarks 11 = .ok (.iload 5, 2) := by decide +kernel
theorem dX9_daysTillMarks_13 : decode cX9_daysTillMarks 13 = .ok (.bipush 60, 2) := by decide +kernel
theorem dX9_daysTillMarks_15 : decode cX9_daysTillMarks 15 = .ok (.if_icmp .gt 37, 3) := by decide +kernel
theorem dX9_daysTillMarks_18 : decode cX9_daysTillMarks 18 = .ok (.aload_n 0, 1) := by decide +kernel
theorem dX9_daysTillMarks_19 : decode cX9_daysTillMarks 19 = .ok (.getfield 21, 3) := by decide +kernel
theorem dX9_daysTillMarks_22 : decode cX9_daysTillMarks 22 = .ok (.invokevirtual 41, 3) := by decide +kernel
theorem dX9_daysTillMarks_25 : decode cX9_daysTillMarks 25 = .ok (.iload_n 3, 1) := by decide +kernel
theorem dX9_daysTillMarks_26 : decode cX9_daysTillMarks 26 = .ok (.if_icmp .lt 6, 3) := by decide +kernel
theorem dX9_daysTillMarks_29 : decode cX9_daysTillMarks 29 = .ok (.iload 5, 2) := by decide +kernel
theorem dX9_daysTillMarks_31 : decode cX9_daysTillMarks 31 = .ok (.ireturn, 1) := by decide +kernel
theorem dX9_daysTillMarks_32 : decode cX9_daysTillMarks 32 = .ok (.aload_n 0, 1) := by decide +kernel
theorem dX9_daysTillMarks_33 : decode cX9_daysTillMarks 33 = .ok (.getfield 12, 3) := by decide +kernel
theorem dX9_daysTillMarks_36 : decode cX9_daysTillMarks 36 = .ok (.aload_n 1, 1) := by decide +kernel
theorem dX9_daysTillMarks_37 : decode cX9_daysTillMarks 37 = .ok (.aload_n 0, 1) := by decide +kernel
theorem dX9_daysTillMarks_38 : decode cX9_daysTillMarks 38 = .ok (.getfield 21, 3) := by decide +kernel
theorem dX9_daysTillMarks_41 : decode cX9_daysTillMarks 41 = .ok (.iload 4, 2) := by decide +kernel
theorem dX9_daysTillMarks_43 : decode cX9_daysTillMarks 43 = .ok (.invokevirtual 44, 3) := by decide +kernel
theorem dX9_daysTillMarks_46 : decode cX9_daysTillMarks 46 = .ok (.iinc 5 1, 3) := by decide +kernel
theorem dX9_daysTillMarks_49 : decode cX9_daysTillMarks 49 = .ok (.goto (-38), 3) := by decide +kernel
theorem dX9_daysTillMarks_52 : decode cX9_daysTillMarks 52 = .ok (.iconst (-1), 1) := by decide +kernel
theorem dX9_daysTillMarks_53 : decode cX9_daysTillMarks 53 = .ok (.ireturn, 1) := by decide +kernel
theorem dX9_daysTillDry_0 : decode cX9_daysTillDry 0 = .ok (.aload_n 0, 1) := by decide +kernel
theorem dX9_daysTillDry_1 : decode cX9_daysTillDry 1 = .ok (.getfield 21, 3) := by decide +kernel
theorem dX9_daysTillDry_4 : decode cX9_daysTillDry 4 = .ok (.aload_n 2, 1) := by decide +kernel
theorem dX9_daysTillDry_5 : decode cX9_daysTillDry 5 = .ok (.invokevirtual 29, 3) := by decide +kernel
theorem dX9_daysTillDry_8 : decode cX9_daysTillDry 8 = .ok (.iconst 0, 1) := by decide +kernel
theorem dX9_daysTillDry_9 : decode cX9_daysTillDry 9 = .ok (.istore_n 3, 1) := by decide +kernel
theorem dX9_daysTillDry_10 : decode cX9_daysTillDry 10 = .ok (.iload_n 3, 1) := by decide +kernel
theorem dX9_daysTillDry_11 : decode cX9_daysTillDry 11 = .ok (.bipush 60, 2) := by decide +kernel
theorem dX9_daysTillDry_13 : decode cX9_daysTillDry 13 = .ok (.if_icmp .gt 34, 3) := by decide +kernel
theorem dX9_daysTillDry_16 : decode cX9_daysTillDry 16 = .ok (.aload_n 0, 1) := by decide +kernel
theorem dX9_daysTillDry_17 : decode cX9_daysTillDry 17 = .ok (.getfield 21, 3) := by decide +kernel
theorem dX9_daysTillDry_20 : decode cX9_daysTillDry 20 = .ok (.invokevirtual 48, 3) := by decide +kernel
theorem dX9_daysTillDry_23 : decode cX9_daysTillDry 23 = .ok (.ifCond .ne 5, 3) := by decide +kernel
theorem dX9_daysTillDry_26 : decode cX9_daysTillDry 26 = .ok (.iload_n 3, 1) := by decide +kernel
theorem dX9_daysTillDry_27 : decode cX9_daysTillDry 27 = .ok (.ireturn, 1) := by decide +kernel
theorem dX9_daysTillDry_28 : decode cX9_daysTillDry 28 = .ok (.aload_n 0, 1) := by decide +kernel
theorem dX9_daysTillDry_29 : decode cX9_daysTillDry 29 = .ok (.getfield 12, 3) := by decide +kernel
theorem dX9_daysTillDry_32 : decode cX9_daysTillDry 32 = .ok (.aload_n 1, 1) := by decide +kernel
theorem dX9_daysTillDry_33 : decode cX9_daysTillDry 33 = .ok (.aload_n 0, 1) := by decide +kernel
theorem dX9_daysTillDry_34 : decode cX9_daysTillDry 34 = .ok (.getfield 21, 3) := by decide +kernel
theorem dX9_daysTillDry_37 : decode cX9_daysTillDry 37 = .ok (.iconst 0, 1) := by decide +kernel
theorem dX9_daysTillDry_38 : decode cX9_daysTillDry 38 = .ok (.invokevirtual 44, 3) := by decide +kernel
theorem dX9_daysTillDry_41 : decode cX9_daysTillDry 41 = .ok (.iinc 3 1, 3) := by decide +kernel
theorem dX9_daysTillDry_44 : decode cX9_daysTillDry 44 = .ok (.goto (-34), 3) := by decide +kernel
theorem dX9_daysTillDry_47 : decode cX9_daysTillDry 47 = .ok (.iconst (-1), 1) := by decide +kernel
theorem dX9_daysTillDry_48 : decode cX9_daysTillDry 48 = .ok (.ireturn, 1) := by decide +kernel
theorem dX9_leadBest_0 : decode cX9_leadBest 0 = .ok (.aload_n 0, 1) := by decide +kernel
theorem dX9_leadBest_1 : decode cX9_leadBest 1 = .ok (.iconst (-1), 1) := by decide +kernel
theorem dX9_leadBest_2 : decode cX9_leadBest 2 = .ok (.putfield 51, 3) := by decide +kernel
theorem dX9_leadBest_5 : decode cX9_leadBest 5 = .ok (.aload_n 0, 1) := by decide +kernel
theorem dX9_leadBest_6 : decode cX9_leadBest 6 = .ok (.iconst (-1), 1) := by decide +kernel
theorem dX9_leadBest_7 : decode cX9_leadBest 7 = .ok (.putfield 55, 3) := by decide +kernel
theorem dX9_leadBest_10 : decode cX9_leadBest 10 = .ok (.iconst 0, 1) := by decide +kernel
theorem dX9_leadBest_11 : decode cX9_leadBest 11 = .ok (.istore 7, 2) := by decide +kernel
theorem dX9_leadBest_13 : decode cX9_leadBest 13 = .ok (.iload 7, 2) := by decide +kernel
theorem dX9_leadBest_15 : decode cX9_leadBest 15 = .ok (.aload_n 1, 1) := by decide +kernel
theorem dX9_leadBest_16 : decode cX9_leadBest 16 = .ok (.invokevirtual 58, 3) := by decide +kernel
theorem dX9_leadBest_19 : decode cX9_leadBest 19 = .ok (.if_icmp .ge 82, 3) := by decide +kernel
theorem dX9_leadBest_22 : decode cX9_leadBest 22 = .ok (.aload_n 0, 1) := by decide +kernel
theorem dX9_leadBest_23 : decode cX9_leadBest 23 = .ok (.getfield 21, 3) := by decide +kernel
theorem dX9_leadBest_26 : decode cX9_leadBest 26 = .ok (.aload_n 2, 1) := by decide +kernel
theorem dX9_leadBest_27 : decode cX9_leadBest 27 = .ok (.invokevirtual 29, 3) := by decide +kernel
theorem dX9_leadBest_30 : decode cX9_leadBest 30 = .ok (.aload_n 0, 1) := by decide +kernel
theorem dX9_leadBest_31 : decode cX9_leadBest 31 = .ok (.getfield 21, 3) := by decide +kernel
theorem dX9_leadBest_34 : decode cX9_leadBest 34 = .ok (.getfield 63, 3) := by decide +kernel
theorem dX9_leadBest_37 : decode cX9_leadBest 37 = .ok (.iload_n 3, 1) := by decide +kernel
theorem dX9_leadBest_38 : decode cX9_leadBest 38 = .ok (.iload 7, 2) := by decide +kernel
theorem dX9_leadBest_40 : decode cX9_leadBest 40 = .ok (.invokestatic 67, 3) := by decide +kernel
theorem dX9_leadBest_43 : decode cX9_leadBest 43 = .ok (.aload_n 0, 1) := by decide +kernel
theorem dX9_leadBest_44 : decode cX9_leadBest 44 = .ok (.getfield 12, 3) := by decide +kernel
theorem dX9_leadBest_47 : decode cX9_leadBest 47 = .ok (.aload_n 1, 1) := by decide +kernel
theorem dX9_leadBest_48 : decode cX9_leadBest 48 = .ok (.aload_n 0, 1) := by decide +kernel
theorem dX9_leadBest_49 : decode cX9_leadBest 49 = .ok (.getfield 21, 3) := by decide +kernel
theorem dX9_leadBest_52 : decode cX9_leadBest 52 = .ok (.iload 5, 2) := by decide +kernel
theorem dX9_leadBest_54 : decode cX9_leadBest 54 = .ok (.iload 6, 2) := by decide +kernel
theorem dX9_leadBest_56 : decode cX9_leadBest 56 = .ok (.invokevirtual 33, 3) := by decide +kernel
theorem dX9_leadBest_59 : decode cX9_leadBest 59 = .ok (.aload_n 1, 1) := by decide +kernel
theorem dX9_leadBest_60 : decode cX9_leadBest 60 = .ok (.aload_n 0, 1) := by decide +kernel
theorem dX9_leadBest_61 : decode cX9_leadBest 61 = .ok (.getfield 21, 3) := by decide +kernel
theorem dX9_leadBest_64 : decode cX9_leadBest 64 = .ok (.invokevirtual 37, 3) := by decide +kernel
theorem dX9_leadBest_67 : decode cX9_leadBest 67 = .ok (.iload 4, 2) := by decide +kernel
theorem dX9_leadBest_69 : decode cX9_leadBest 69 = .ok (.invokestatic 71, 3) := by decide +kernel
theorem dX9_leadBest_72 : decode cX9_leadBest 72 = .ok (.istore 8, 2) := by decide +kernel
theorem dX9_leadBest_74 : decode cX9_leadBest 74 = .ok (.iload 8, 2) := by decide +kernel
theorem dX9_leadBest_76 : decode cX9_leadBest 76 = .ok (.aload_n 0, 1) := by decide +kernel
theorem dX9_leadBest_77 : decode cX9_leadBest 77 = .ok (.getfield 55, 3) := by decide +kernel
theorem dX9_leadBest_80 : decode cX9_leadBest 80 = .ok (.if_icmp .le 15, 3) := by decide +kernel
theorem dX9_leadBest_83 : decode cX9_leadBest 83 = .ok (.aload_n 0, 1) := by decide +kernel
theorem dX9_leadBest_84 : decode cX9_leadBest 84 = .ok (.iload 8, 2) := by decide +kernel
theorem dX9_leadBest_86 : decode cX9_leadBest 86 = .ok (.putfield 55, 3) := by decide +kernel
theorem dX9_leadBest_89 : decode cX9_leadBest 89 = .ok (.aload_n 0, 1) := by decide +kernel
theorem dX9_leadBest_90 : decode cX9_leadBest 90 = .ok (.iload 7, 2) := by decide +kernel
theorem dX9_leadBest_92 : decode cX9_leadBest 92 = .ok (.putfield 51, 3) := by decide +kernel
theorem dX9_leadBest_95 : decode cX9_leadBest 95 = .ok (.iinc 7 1, 3) := by decide +kernel
theorem dX9_leadBest_98 : decode cX9_leadBest 98 = .ok (.goto (-85), 3) := by decide +kernel
theorem dX9_leadBest_101 : decode cX9_leadBest 101 = .ok (.return_, 1) := by decide +kernel
theorem dX9_rainsThatShow_0 : decode cX9_rainsThatShow 0 = .ok (.iconst 0, 1) := by decide +kernel
theorem dX9_rainsThatShow_1 : decode cX9_rainsThatShow 1 = .ok (.istore 4, 2) := by decide +kernel
theorem dX9_rainsThatShow_3 : decode cX9_rainsThatShow 3 = .ok (.iconst 0, 1) := by decide +kernel
theorem dX9_rainsThatShow_4 : decode cX9_rainsThatShow 4 = .ok (.istore 5, 2) := by decide +kernel
theorem dX9_rainsThatShow_6 : decode cX9_rainsThatShow 6 = .ok (.iload 5, 2) := by decide +kernel
theorem dX9_rainsThatShow_8 : decode cX9_rainsThatShow 8 = .ok (.bipush 9, 2) := by decide +kernel
theorem dX9_rainsThatShow_10 : decode cX9_rainsThatShow 10 = .ok (.if_icmp .gt 31, 3) := by decide +kernel
theorem dX9_rainsThatShow_13 : decode cX9_rainsThatShow 13 = .ok (.aload_n 0, 1) := by decide +kernel
theorem dX9_rainsThatShow_14 : decode cX9_rainsThatShow 14 = .ok (.aload_n 1, 1) := by decide +kernel
theorem dX9_rainsThatShow_15 : decode cX9_rainsThatShow 15 = .ok (.aload_n 2, 1) := by decide +kernel
theorem dX9_rainsThatShow_16 : decode cX9_rainsThatShow 16 = .ok (.iconst 1, 1) := by decide +kernel
theorem dX9_rainsThatShow_17 : decode cX9_rainsThatShow 17 = .ok (.iload 5, 2) := by decide +kernel
theorem dX9_rainsThatShow_19 : decode cX9_rainsThatShow 19 = .ok (.invokevirtual 77, 3) := by decide +kernel
theorem dX9_rainsThatShow_22 : decode cX9_rainsThatShow 22 = .ok (.iload_n 3, 1) := by decide +kernel
theorem dX9_rainsThatShow_23 : decode cX9_rainsThatShow 23 = .ok (.if_icmp .ne 12, 3) := by decide +kernel
theorem dX9_rainsThatShow_26 : decode cX9_rainsThatShow 26 = .ok (.iload 4, 2) := by decide +kernel
theorem dX9_rainsThatShow_28 : decode cX9_rainsThatShow 28 = .ok (.iconst 1, 1) := by decide +kernel
theorem dX9_rainsThatShow_29 : decode cX9_rainsThatShow 29 = .ok (.iload 5, 2) := by decide +kernel
theorem dX9_rainsThatShow_31 : decode cX9_rainsThatShow 31 = .ok (.ishl, 1) := by decide +kernel
theorem dX9_rainsThatShow_32 : decode cX9_rainsThatShow 32 = .ok (.ior, 1) := by decide +kernel
theorem dX9_rainsThatShow_33 : decode cX9_rainsThatShow 33 = .ok (.istore 4, 2) := by decide +kernel
theorem dX9_rainsThatShow_35 : decode cX9_rainsThatShow 35 = .ok (.iinc 5 1, 3) := by decide +kernel
theorem dX9_rainsThatShow_38 : decode cX9_rainsThatShow 38 = .ok (.goto (-32), 3) := by decide +kernel
theorem dX9_rainsThatShow_41 : decode cX9_rainsThatShow 41 = .ok (.iload 4, 2) := by decide +kernel
theorem dX9_rainsThatShow_43 : decode cX9_rainsThatShow 43 = .ok (.ireturn, 1) := by decide +kernel
theorem dX9_rainThatLeavesFewest_0 : decode cX9_rainThatLeavesFewest 0 = .ok (.aload_n 0, 1) := by decide +kernel
theorem dX9_rainThatLeavesFewest_1 : decode cX9_rainThatLeavesFewest 1 = .ok (.iconst (-1), 1) := by decide +kernel
theorem dX9_rainThatLeavesFewest_2 : decode cX9_rainThatLeavesFewest 2 = .ok (.putfield 51, 3) := by decide +kernel
theorem dX9_rainThatLeavesFewest_5 : decode cX9_rainThatLeavesFewest 5 = .ok (.aload_n 0, 1) := by decide +kernel
theorem dX9_rainThatLeavesFewest_6 : decode cX9_rainThatLeavesFewest 6 = .ok (.bipush 6, 2) := by decide +kernel
theorem dX9_rainThatLeavesFewest_8 : decode cX9_rainThatLeavesFewest 8 = .ok (.putfield 55, 3) := by decide +kernel
theorem dX9_rainThatLeavesFewest_11 : decode cX9_rainThatLeavesFewest 11 = .ok (.iconst 0, 1) := by decide +kernel
theorem dX9_rainThatLeavesFewest_12 : decode cX9_rainThatLeavesFewest 12 = .ok (.istore_n 3, 1) := by decide +kernel
theorem dX9_rainThatLeavesFewest_13 : decode cX9_rainThatLeavesFewest 13 = .ok (.iload_n 3, 1) := by decide +kernel
theorem dX9_rainThatLeavesFewest_14 : decode cX9_rainThatLeavesFewest 14 = .ok (.bipush 9, 2) := by decide +kernel
theorem dX9_rainThatLeavesFewest_16 : decode cX9_rainThatLeavesFewest 16 = .ok (.if_icmp .gt 46, 3) := by decide +kernel
theorem dX9_rainThatLeavesFewest_19 : decode cX9_rainThatLeavesFewest 19 = .ok (.aload_n 1, 1) := by decide +kernel
theorem dX9_rainThatLeavesFewest_20 : decode cX9_rainThatLeavesFewest 20 = .ok (.aload_n 0, 1) := by decide +kernel
theorem dX9_rainThatLeavesFewest_21 : decode cX9_rainThatLeavesFewest 21 = .ok (.aload_n 1, 1) := by decide +kernel
theorem dX9_rainThatLeavesFewest_22 : decode cX9_rainThatLeavesFewest 22 = .ok (.aload_n 2, 1) := by decide +kernel
theorem dX9_rainThatLeavesFewest_23 : decode cX9_rainThatLeavesFewest 23 = .ok (.iconst 1, 1) := by decide +kernel
theorem dX9_rainThatLeavesFewest_24 : decode cX9_rainThatLeavesFewest 24 = .ok (.iload_n 3, 1) := by decide +kernel
theorem dX9_rainThatLeavesFewest_25 : decode cX9_rainThatLeavesFewest 25 = .ok (.invokevirtual 77, 3) := by decide +kernel
theorem dX9_rainThatLeavesFewest_28 : decode cX9_rainThatLeavesFewest 28 = .ok (.invokestatic 81, 3) := by decide +kernel
theorem dX9_rainThatLeavesFewest_31 : decode cX9_rainThatLeavesFewest 31 = .ok (.invokestatic 85, 3) := by decide +kernel
theorem dX9_rainThatLeavesFewest_34 : decode cX9_rainThatLeavesFewest 34 = .ok (.istore 4, 2) := by decide +kernel
theorem dX9_rainThatLeavesFewest_36 : decode cX9_rainThatLeavesFewest 36 = .ok (.iload 4, 2) := by decide +kernel
theorem dX9_rainThatLeavesFewest_38 : decode cX9_rainThatLeavesFewest 38 = .ok (.aload_n 0, 1) := by decide +kernel
theorem dX9_rainThatLeavesFewest_39 : decode cX9_rainThatLeavesFewest 39 = .ok (.getfield 55, 3) := by decide +kernel
theorem dX9_rainThatLeavesFewest_42 : decode cX9_rainThatLeavesFewest 42 = .ok (.if_icmp .ge 14, 3) := by decide +kernel
theorem dX9_rainThatLeavesFewest_45 : decode cX9_rainThatLeavesFewest 45 = .ok (.aload_n 0, 1) := by decide +kernel
theorem dX9_rainThatLeavesFewest_46 : decode cX9_rainThatLeavesFewest 46 = .ok (.iload 4, 2) := by decide +kernel
theorem dX9_rainThatLeavesFewest_48 : decode cX9_rainThatLeavesFewest 48 = .ok (.putfield 55, 3) := by decide +kernel
theorem dX9_rainThatLeavesFewest_51 : decode cX9_rainThatLeavesFewest 51 = .ok (.aload_n 0, 1) := by decide +kernel
theorem dX9_rainThatLeavesFewest_52 : decode cX9_rainThatLeavesFewest 52 = .ok (.iload_n 3, 1) := by decide +kernel
theorem dX9_rainThatLeavesFewest_53 : decode cX9_rainThatLeavesFewest 53 = .ok (.putfield 51, 3) := by decide +kernel
theorem dX9_rainThatLeavesFewest_56 : decode cX9_rainThatLeavesFewest 56 = .ok (.iinc 3 1, 3) := by decide +kernel
theorem dX9_rainThatLeavesFewest_59 : decode cX9_rainThatLeavesFewest 59 = .ok (.goto (-46), 3) := by decide +kernel
theorem dX9_rainThatLeavesFewest_62 : decode cX9_rainThatLeavesFewest 62 = .ok (.return_, 1) := by decide +kernel
theorem dX9_lookMost_0 : decode cX9_lookMost 0 = .ok (.aload_n 0, 1) := by decide +kernel
theorem dX9_lookMost_1 : decode cX9_lookMost 1 = .ok (.iload_n 3, 1) := by decide +kernel
theorem dX9_lookMost_2 : decode cX9_lookMost 2 = .ok (.putfield 91, 3) := by decide +kernel
theorem dX9_lookMost_5 : decode cX9_lookMost 5 = .ok (.aload_n 0, 1) := by decide +kernel
theorem dX9_lookMost_6 : decode cX9_lookMost 6 = .ok (.iload 4, 2) := by decide +kernel
theorem dX9_lookMost_8 : decode cX9_lookMost 8 = .ok (.putfield 94, 3) := by decide +kernel
theorem dX9_lookMost_11 : decode cX9_lookMost 11 = .ok (.aload_n 0, 1) := by decide +kernel
theorem dX9_lookMost_12 : decode cX9_lookMost 12 = .ok (.iload 5, 2) := by decide +kernel
theorem dX9_lookMost_14 : decode cX9_lookMost 14 = .ok (.putfield 97, 3) := by decide +kernel
theorem dX9_lookMost_17 : decode cX9_lookMost 17 = .ok (.aload_n 0, 1) := by decide +kernel
theorem dX9_lookMost_18 : decode cX9_lookMost 18 = .ok (.iconst (-1), 1) := by decide +kernel
theorem dX9_lookMost_19 : decode cX9_lookMost 19 = .ok (.putfield 51, 3) := by decide +kernel
theorem dX9_lookMost_22 : decode cX9_lookMost 22 = .ok (.aload_n 0, 1) := by decide +kernel
theorem dX9_lookMost_23 : decode cX9_lookMost 23 = .ok (.iconst (-1), 1) := by decide +kernel
theorem dX9_lookMost_24 : decode cX9_lookMost 24 = .ok (.putfield 55, 3) := by decide +kernel
theorem dX9_lookMost_27 : decode cX9_lookMost 27 = .ok (.aload_n 0, 1) := by decide +kernel
theorem dX9_lookMost_28 : decode cX9_lookMost 28 = .ok (.aload_n 1, 1) := by decide +kernel
theorem dX9_lookMost_29 : decode cX9_lookMost 29 = .ok (.aload_n 2, 1) := by decide +kernel
theorem dX9_lookMost_30 : decode cX9_lookMost 30 = .ok (.iconst 0, 1) := by decide +kernel
theorem dX9_lookMost_31 : decode cX9_lookMost 31 = .ok (.iconst 0, 1) := by decide +kernel
theorem dX9_lookMost_32 : decode cX9_lookMost 32 = .ok (.invokestatic 100, 3) := by decide +kernel
theorem dX9_lookMost_35 : decode cX9_lookMost 35 = .ok (.return_, 1) := by decide +kernel
theorem dX9_tryLooks_0 : decode cX9_tryLooks 0 = .ok (.iload_n 3, 1) := by decide +kernel
theorem dX9_tryLooks_1 : decode cX9_tryLooks 1 = .ok (.aload_n 0, 1) := by decide +kernel
theorem dX9_tryLooks_2 : decode cX9_tryLooks 2 = .ok (.getfield 91, 3) := by decide +kernel
theorem dX9_tryLooks_5 : decode cX9_tryLooks 5 = .ok (.if_icmp .ge 12, 3) := by decide +kernel
theorem dX9_tryLooks_8 : decode cX9_tryLooks 8 = .ok (.iload_n 3, 1) := by decide +kernel
theorem dX9_tryLooks_9 : decode cX9_tryLooks 9 = .ok (.aload_n 0, 1) := by decide +kernel
theorem dX9_tryLooks_10 : decode cX9_tryLooks 10 = .ok (.getfield 25, 3) := by decide +kernel
theorem dX9_tryLooks_13 : decode cX9_tryLooks 13 = .ok (.arraylength, 1) := by decide +kernel
theorem dX9_tryLooks_14 : decode cX9_tryLooks 14 = .ok (.if_icmp .lt 11, 3) := by decide +kernel
theorem dX9_tryLooks_17 : decode cX9_tryLooks 17 = .ok (.aload_n 0, 1) := by decide +kernel
theorem dX9_tryLooks_18 : decode cX9_tryLooks 18 = .ok (.aload_n 2, 1) := by decide +kernel
theorem dX9_tryLooks_19 : decode cX9_tryLooks 19 = .ok (.iload 4, 2) := by decide +kernel
theorem dX9_tryLooks_21 : decode cX9_tryLooks 21 = .ok (.invokevirtual 104, 3) := by decide +kernel
theorem dX9_tryLooks_24 : decode cX9_tryLooks 24 = .ok (.return_, 1) := by decide +kernel
theorem dX9_tryLooks_25 : decode cX9_tryLooks 25 = .ok (.aload_n 0, 1) := by decide +kernel
theorem dX9_tryLooks_26 : decode cX9_tryLooks 26 = .ok (.getfield 25, 3) := by decide +kernel
theorem dX9_tryLooks_29 : decode cX9_tryLooks 29 = .ok (.iload_n 3, 1) := by decide +kernel
theorem dX9_tryLooks_30 : decode cX9_tryLooks 30 = .ok (.aaload, 1) := by decide +kernel
theorem dX9_tryLooks_31 : decode cX9_tryLooks 31 = .ok (.astore 5, 2) := by decide +kernel
theorem dX9_tryLooks_33 : decode cX9_tryLooks 33 = .ok (.aload 5, 2) := by decide +kernel
theorem dX9_tryLooks_35 : decode cX9_tryLooks 35 = .ok (.aload_n 2, 1) := by decide +kernel
theorem dX9_tryLooks_36 : decode cX9_tryLooks 36 = .ok (.invokevirtual 29, 3) := by decide +kernel
theorem dX9_tryLooks_39 : decode cX9_tryLooks 39 = .ok (.aload_n 0, 1) := by decide +kernel
theorem dX9_tryLooks_40 : decode cX9_tryLooks 40 = .ok (.getfield 12, 3) := by decide +kernel
theorem dX9_tryLooks_43 : decode cX9_tryLooks 43 = .ok (.aload_n 1, 1) := by decide +kernel
theorem dX9_tryLooks_44 : decode cX9_tryLooks 44 = .ok (.aload 5, 2) := by decide +kernel
theorem dX9_tryLooks_46 : decode cX9_tryLooks 46 = .ok (.aload_n 0, 1) := by decide +kernel
theorem dX9_tryLooks_47 : decode cX9_tryLooks 47 = .ok (.getfield 94, 3) := by decide +kernel
theorem dX9_tryLooks_50 : decode cX9_tryLooks 50 = .ok (.invokevirtual 44, 3) := by decide +kernel
theorem dX9_tryLooks_53 : decode cX9_tryLooks 53 = .ok (.aload_n 0, 1) := by decide +kernel
theorem dX9_tryLooks_54 : decode cX9_tryLooks 54 = .ok (.aload_n 1, 1) := by decide +kernel
theorem dX9_tryLooks_55 : decode cX9_tryLooks 55 = .ok (.aload 5, 2) := by decide +kernel
theorem dX9_tryLooks_57 : decode cX9_tryLooks 57 = .ok (.iload_n 3, 1) := by decide +kernel
theorem dX9_tryLooks_58 : decode cX9_tryLooks 58 = .ok (.iconst 1, 1) := by decide +kernel
theorem dX9_tryLooks_59 : decode cX9_tryLooks 59 = .ok (.iadd, 1) := by decide +kernel
theorem dX9_tryLooks_60 : decode cX9_tryLooks 60 = .ok (.iload 4, 2) := by decide +kernel
theorem dX9_tryLooks_62 : decode cX9_tryLooks 62 = .ok (.invokestatic 100, 3) := by decide +kernel
theorem dX9_tryLooks_65 : decode cX9_tryLooks 65 = .ok (.aload 5, 2) := by decide +kernel
theorem dX9_tryLooks_67 : decode cX9_tryLooks 67 = .ok (.aload_n 1, 1) := by decide +kernel
theorem dX9_tryLooks_68 : decode cX9_tryLooks 68 = .ok (.invokevirtual 108, 3) := by decide +kernel
theorem dX9_tryLooks_71 : decode cX9_tryLooks 71 = .ok (.aload_n 0, 1) := by decide +kernel
theorem dX9_tryLooks_72 : decode cX9_tryLooks 72 = .ok (.aload_n 1, 1) := by decide +kernel
theorem dX9_tryLooks_73 : decode cX9_tryLooks 73 = .ok (.aload 5, 2) := by decide +kernel
theorem dX9_tryLooks_75 : decode cX9_tryLooks 75 = .ok (.iload_n 3, 1) := by decide +kernel
theorem dX9_tryLooks_76 : decode cX9_tryLooks 76 = .ok (.iconst 1, 1) := by decide +kernel
theorem dX9_tryLooks_77 : decode cX9_tryLooks 77 = .ok (.iadd, 1) := by decide +kernel
theorem dX9_tryLooks_78 : decode cX9_tryLooks 78 = .ok (.iload 4, 2) := by decide +kernel
theorem dX9_tryLooks_80 : decode cX9_tryLooks 80 = .ok (.iconst 1, 1) := by decide +kernel
theorem dX9_tryLooks_81 : decode cX9_tryLooks 81 = .ok (.iload_n 3, 1) := by decide +kernel
theorem dX9_tryLooks_82 : decode cX9_tryLooks 82 = .ok (.ishl, 1) := by decide +kernel
theorem dX9_tryLooks_83 : decode cX9_tryLooks 83 = .ok (.ior, 1) := by decide +kernel
theorem dX9_tryLooks_84 : decode cX9_tryLooks 84 = .ok (.invokestatic 100, 3) := by decide +kernel
theorem dX9_tryLooks_87 : decode cX9_tryLooks 87 = .ok (.return_, 1) := by decide +kernel
theorem dX9_weigh_0 : decode cX9_weigh 0 = .ok (.iload_n 2, 1) := by decide +kernel
theorem dX9_weigh_1 : decode cX9_weigh 1 = .ok (.invokestatic 85, 3) := by decide +kernel
theorem dX9_weigh_4 : decode cX9_weigh 4 = .ok (.istore_n 3, 1) := by decide +kernel
theorem dX9_weigh_5 : decode cX9_weigh 5 = .ok (.iload_n 3, 1) := by decide +kernel
theorem dX9_weigh_6 : decode cX9_weigh 6 = .ok (.aload_n 0, 1) := by decide +kernel
theorem dX9_weigh_7 : decode cX9_weigh 7 = .ok (.getfield 55, 3) := by decide +kernel
theorem dX9_weigh_10 : decode cX9_weigh 10 = .ok (.if_icmp .gt 19, 3) := by decide +kernel
theorem dX9_weigh_13 : decode cX9_weigh 13 = .ok (.iload_n 3, 1) := by decide +kernel
theorem dX9_weigh_14 : decode cX9_weigh 14 = .ok (.aload_n 0, 1) := by decide +kernel
theorem dX9_weigh_15 : decode cX9_weigh 15 = .ok (.getfield 55, 3) := by decide +kernel
theorem dX9_weigh_18 : decode cX9_weigh 18 = .ok (.if_icmp .ne 15, 3) := by decide +kernel
theorem dX9_weigh_21 : decode cX9_weigh 21 = .ok (.iload_n 2, 1) := by decide +kernel
theorem dX9_weigh_22 : decode cX9_weigh 22 = .ok (.aload_n 0, 1) := by decide +kernel
theorem dX9_weigh_23 : decode cX9_weigh 23 = .ok (.getfield 51, 3) := by decide +kernel
theorem dX9_weigh_26 : decode cX9_weigh 26 = .ok (.if_icmp .ge 7, 3) := by decide +kernel
theorem dX9_weigh_29 : decode cX9_weigh 29 = .ok (.iconst 1, 1) := by decide +kernel
theorem dX9_weigh_30 : decode cX9_weigh 30 = .ok (.goto 4, 3) := by decide +kernel
theorem dX9_weigh_33 : decode cX9_weigh 33 = .ok (.iconst 0, 1) := by decide +kernel
theorem dX9_weigh_34 : decode cX9_weigh 34 = .ok (.istore 4, 2) := by decide +kernel
theorem dX9_weigh_36 : decode cX9_weigh 36 = .ok (.iload 4, 2) := by decide +kernel
theorem dX9_weigh_38 : decode cX9_weigh 38 = .ok (.ifCond .eq 24, 3) := by decide +kernel
theorem dX9_weigh_41 : decode cX9_weigh 41 = .ok (.aload_n 1, 1) := by decide +kernel
theorem dX9_weigh_42 : decode cX9_weigh 42 = .ok (.invokevirtual 41, 3) := by decide +kernel
theorem dX9_weigh_45 : decode cX9_weigh 45 = .ok (.aload_n 0, 1) := by decide +kernel
theorem dX9_weigh_46 : decode cX9_weigh 46 = .ok (.getfield 97, 3) := by decide +kernel
theorem dX9_weigh_49 : decode cX9_weigh 49 = .ok (.if_icmp .lt 13, 3) := by decide +kernel
theorem dX9_weigh_52 : decode cX9_weigh 52 = .ok (.aload_n 0, 1) := by decide +kernel
theorem dX9_weigh_53 : decode cX9_weigh 53 = .ok (.iload_n 3, 1) := by decide +kernel
theorem dX9_weigh_54 : decode cX9_weigh 54 = .ok (.putfield 55, 3) := by decide +kernel
theorem dX9_weigh_57 : decode cX9_weigh 57 = .ok (.aload_n 0, 1) := by decide +kernel
theorem dX9_weigh_58 : decode cX9_weigh 58 = .ok (.iload_n 2, 1) := by decide +kernel
theorem dX9_weigh_59 : decode cX9_weigh 59 = .ok (.putfield 51, 3) := by decide +kernel
theorem dX9_weigh_62 : decode cX9_weigh 62 = .ok (.return_, 1) := by decide +kernel
theorem dX10_init_0 : decode cX10_init 0 = .ok (.aload_n 0, 1) := by decide +kernel
theorem dX10_init_1 : decode cX10_init 1 = .ok (.invokespecial 1, 3) := by decide +kernel
theorem dX10_init_4 : decode cX10_init 4 = .ok (.aload_n 0, 1) := by decide +kernel
theorem dX10_init_5 : decode cX10_init 5 = .ok (.new 7, 3) := by decide +kernel
theorem dX10_init_8 : decode cX10_init 8 = .ok (.dup, 1) := by decide +kernel
theorem dX10_init_9 : decode cX10_init 9 = .ok (.invokespecial 9, 3) := by decide +kernel
theorem dX10_init_12 : decode cX10_init 12 = .ok (.putfield 10, 3) := by decide +kernel
theorem dX10_init_15 : decode cX10_init 15 = .ok (.aload_n 0, 1) := by decide +kernel
theorem dX10_init_16 : decode cX10_init 16 = .ok (.new 16, 3) := by decide +kernel
theorem dX10_init_19 : decode cX10_init 19 = .ok (.dup, 1) := by decide +kernel
theorem dX10_init_20 : decode cX10_init 20 = .ok (.invokespecial 18, 3) := by decide +kernel
theorem dX10_init_23 : decode cX10_init 23 = .ok (.putfield 19, 3) := by decide +kernel
theorem dX10_init_26 : decode cX10_init 26 = .ok (.aload_n 0, 1) := by decide +kernel
theorem dX10_init_27 : decode cX10_init 27 = .ok (.new 23, 3) := by decide +kernel
theorem dX10_init_30 : decode cX10_init 30 = .ok (.dup, 1) := by decide +kernel
theorem dX10_init_31 : decode cX10_init 31 = .ok (.invokespecial 25, 3) := by decide +kernel
theorem dX10_init_34 : decode cX10_init 34 = .ok (.putfield 26, 3) := by decide +kernel
theorem dX10_init_37 : decode cX10_init 37 = .ok (.aload_n 0, 1) := by decide +kernel
theorem dX10_init_38 : decode cX10_init 38 = .ok (.new 30, 3) := by decide +kernel
theorem dX10_init_41 : decode cX10_init 41 = .ok (.dup, 1) := by decide +kernel
theorem dX10_init_42 : decode cX10_init 42 = .ok (.invokespecial 32, 3) := by decide +kernel
theorem dX10_init_45 : decode cX10_init 45 = .ok (.putfield 33, 3) := by decide +kernel
theorem dX10_init_48 : decode cX10_init 48 = .ok (.aload_n 0, 1) := by decide +kernel
theorem dX10_init_49 : decode cX10_init 49 = .ok (.new 37, 3) := by decide +kernel
theorem dX10_init_52 : decode cX10_init 52 = .ok (.dup, 1) := by decide +kernel
theorem dX10_init_53 : decode cX10_init 53 = .ok (.invokespecial 39, 3) := by decide +kernel
theorem dX10_init_56 : decode cX10_init 56 = .ok (.putfield 40, 3) := by decide +kernel
theorem dX10_init_59 : decode cX10_init 59 = .ok (.aload_n 0, 1) := by decide +kernel
theorem dX10_init_60 : decode cX10_init 60 = .ok (.new 44, 3) := by decide +kernel
theorem dX10_init_63 : decode cX10_init 63 = .ok (.dup, 1) := by decide +kernel
theorem dX10_init_64 : decode cX10_init 64 = .ok (.invokespecial 46, 3) := by decide +kernel
theorem dX10_init_67 : decode cX10_init 67 = .ok (.putfield 47, 3) := by decide +kernel
theorem dX10_init_70 : decode cX10_init 70 = .ok (.aload_n 0, 1) := by decide +kernel
theorem dX10_init_71 : decode cX10_init 71 = .ok (.new 51, 3) := by decide +kernel
theorem dX10_init_74 : decode cX10_init 74 = .ok (.dup, 1) := by decide +kernel
theorem dX10_init_75 : decode cX10_init 75 = .ok (.invokespecial 53, 3) := by decide +kernel
theorem dX10_init_78 : decode cX10_init 78 = .ok (.putfield 54, 3) := by decide +kernel
theorem dX10_init_81 : decode cX10_init 81 = .ok (.aload_n 0, 1) := by decide +kernel
theorem dX10_init_82 : decode cX10_init 82 = .ok (.iconst 2, 1) := by decide +kernel
theorem dX10_init_83 : decode cX10_init 83 = .ok (.anewarray 58, 3) := by decide +kernel
theorem dX10_init_86 : decode cX10_init 86 = .ok (.putfield 60, 3) := by decide +kernel
theorem dX10_init_89 : decode cX10_init 89 = .ok (.aload_n 0, 1) := by decide +kernel
theorem dX10_init_90 : decode cX10_init 90 = .ok (.new 64, 3) := by decide +kernel
theorem dX10_init_93 : decode cX10_init 93 = .ok (.dup, 1) := by decide +kernel
theorem dX10_init_94 : decode cX10_init 94 = .ok (.invokespecial 66, 3) := by decide +kernel
theorem dX10_init_97 : decode cX10_init 97 = .ok (.putfield 67, 3) := by decide +kernel
theorem dX10_init_100 : decode cX10_init 100 = .ok (.aload_n 0, 1) := by decide +kernel
theorem dX10_init_101 : decode cX10_init 101 = .ok (.new 64, 3) := by decide +kernel
theorem dX10_init_104 : decode cX10_init 104 = .ok (.dup, 1) := by decide +kernel
theorem dX10_init_105 : decode cX10_init 105 = .ok (.invokespecial 66, 3) := by decide +kernel
theorem dX10_init_108 : decode cX10_init 108 = .ok (.putfield 71, 3) := by decide +kernel
theorem dX10_init_111 : decode cX10_init 111 = .ok (.iconst 0, 1) := by decide +kernel
theorem dX10_init_112 : decode cX10_init 112 = .ok (.istore_n 1, 1) := by decide +kernel
theorem dX10_init_113 : decode cX10_init 113 = .ok (.iload_n 1, 1) := by decide +kernel
theorem dX10_init_114 : decode cX10_init 114 = .ok (.aload_n 0, 1) := by decide +kernel
theorem dX10_init_115 : decode cX10_init 115 = .ok (.getfield 60, 3) := by decide +kernel
theorem dX10_init_118 : decode cX10_init 118 = .ok (.arraylength, 1) := by decide +kernel
theorem dX10_init_119 : decode cX10_init 119 = .ok (.if_icmp .ge 22, 3) := by decide +kernel
theorem dX10_init_122 : decode cX10_init 122 = .ok (.aload_n 0, 1) := by decide +kernel
theorem dX10_init_123 : decode cX10_init 123 = .ok (.getfield 60, 3) := by decide +kernel
theorem dX10_init_126 : decode cX10_init 126 = .ok (.iload_n 1, 1) := by decide +kernel
theorem dX10_init_127 : decode cX10_init 127 = .ok (.new 58, 3) := by decide +kernel
theorem dX10_init_130 : decode cX10_init 130 = .ok (.dup, 1) := by decide +kernel
theorem dX10_init_131 : decode cX10_init 131 = .ok (.invokespecial 74, 3) := by decide +kernel
theorem dX10_init_134 : decode cX10_init 134 = .ok (.aastore, 1) := by decide +kernel
theorem dX10_init_135 : decode cX10_init 135 = .ok (.iinc 1 1, 3) := by decide +kernel
theorem dX10_init_138 : decode cX10_init 138 = .ok (.goto (-25), 3) := by decide +kernel
theorem dX10_init_141 : decode cX10_init 141 = .ok (.return_, 1) := by decide +kernel
theorem dX10_feed_0 : decode cX10_feed 0 = .ok (.iload_n 1, 1) := by decide +kernel
theorem dX10_feed_1 : decode cX10_feed 1 = .ok (.iconst 0, 1) := by decide +kernel
theorem dX10_feed_2 : decode cX10_feed 2 = .ok (.sipush 255, 3) := by decide +kernel
theorem dX10_feed_5 : decode cX10_feed 5 = .ok (.invokestatic 75, 3) := by decide +kernel
theorem dX10_feed_8 : decode cX10_feed 8 = .ok (.ifCond .eq 8, 3) := by decide +kernel
theorem dX10_feed_11 : decode cX10_feed 11 = .ok (.ldc 79, 2) := by decide +kernel
theorem dX10_feed_13 : decode cX10_feed 13 = .ok (.goto 11, 3) := by decide +kernel
theorem dX10_feed_16 : decode cX10_feed 16 = .ok (.aload_n 0, 1) := by decide +kernel
theorem dX10_feed_17 : decode cX10_feed 17 = .ok (.getfield 10, 3) := by decide +kernel
theorem dX10_feed_20 : decode cX10_feed 20 = .ok (.iload_n 1, 1) := by decide +kernel
theorem dX10_feed_21 : decode cX10_feed 21 = .ok (.invokevirtual 80, 3) := by decide +kernel
theorem dX10_feed_24 : decode cX10_feed 24 = .ok (.ireturn, 1) := by decide +kernel
theorem dX10_wall_0 : decode cX10_wall 0 = .ok (.aload_n 0, 1) := by decide +kernel
theorem dX10_wall_1 : decode cX10_wall 1 = .ok (.getfield 10, 3) := by decide +kernel
theorem dX10_wall_4 : decode cX10_wall 4 = .ok (.aload_n 0, 1) := by decide +kernel
theorem dX10_wall_5 : decode cX10_wall 5 = .ok (.getfield 71, 3) := by decide +kernel
theorem dX10_wall_8 : decode cX10_wall 8 = .ok (.invokevirtual 84, 3) := by decide +kernel
theorem dX10_wall_11 : decode cX10_wall 11 = .ok (.ifCond .ne 14, 3) := by decide +kernel
theorem dX10_wall_14 : decode cX10_wall 14 = .ok (.bipush (-10), 2) := by decide +kernel
theorem dX10_wall_16 : decode cX10_wall 16 = .ok (.aload_n 0, 1) := by decide +kernel
theorem dX10_wall_17 : decode cX10_wall 17 = .ok (.getfield 10, 3) := by decide +kernel
theorem dX10_wall_20 : decode cX10_wall 20 = .ok (.getfield 88, 3) := by decide +kernel
theorem dX10_wall_23 : decode cX10_wall 23 = .ok (.isub, 1) := by decide +kernel
theorem dX10_wall_24 : decode cX10_wall 24 = .ok (.ireturn, 1) := by decide +kernel
theorem dX10_wall_25 : decode cX10_wall 25 = .ok (.aload_n 0, 1) := by decide +kernel
theorem dX10_wall_26 : decode cX10_wall 26 = .ok (.getfield 67, 3) := by decide +kernel
theorem dX10_wall_29 : decode cX10_wall 29 = .ok (.astore_n 1, 1) := by decide +kernel
theorem dX10_wall_30 : decode cX10_wall 30 = .ok (.aload_n 0, 1) := by decide +kernel
theorem dX10_wall_31 : decode cX10_wall 31 = .ok (.aload_n 0, 1) := by decide +kernel
theorem dX10_wall_32 : decode cX10_wall 32 = .ok (.getfield 71, 3) := by decide +kernel
theorem dX10_wall_35 : decode cX10_wall 35 = .ok (.putfield 67, 3) := by decide +kernel
theorem dX10_wall_38 : decode cX10_wall 38 = .ok (.aload_n 0, 1) := by decide +kernel
theorem dX10_wall_39 : decode cX10_wall 39 = .ok (.aload_n 1, 1) := by decide +kernel
theorem dX10_wall_40 : decode cX10_wall 40 = .ok (.putfield 71, 3) := by decide +kernel
theorem dX10_wall_43 : decode cX10_wall 43 = .ok (.aload_n 0, 1) := by decide +kernel
theorem dX10_wall_44 : decode cX10_wall 44 = .ok (.getfield 19, 3) := by decide +kernel
theorem dX10_wall_47 : decode cX10_wall 47 = .ok (.aload_n 0, 1) := by decide +kernel
theorem dX10_wall_48 : decode cX10_wall 48 = .ok (.getfield 67, 3) := by decide +kernel
theorem dX10_wall_51 : decode cX10_wall 51 = .ok (.invokevirtual 92, 3) := by decide +kernel
theorem dX10_wall_54 : decode cX10_wall 54 = .ok (.aload_n 0, 1) := by decide +kernel
theorem dX10_wall_55 : decode cX10_wall 55 = .ok (.getfield 47, 3) := by decide +kernel
theorem dX10_wall_58 : decode cX10_wall 58 = .ok (.invokevirtual 96, 3) := by decide +kernel
theorem dX10_wall_61 : decode cX10_wall 61 = .ok (.aload_n 0, 1) := by decide +kernel
theorem dX10_wall_62 : decode cX10_wall 62 = .ok (.getfield 40, 3) := by decide +kernel
theorem dX10_wall_65 : decode cX10_wall 65 = .ok (.invokevirtual 99, 3) := by decide +kernel
theorem dX10_wall_68 : decode cX10_wall 68 = .ok (.iconst 0, 1) := by decide +kernel
theorem dX10_wall_69 : decode cX10_wall 69 = .ok (.istore_n 2, 1) := by decide +kernel
theorem dX10_wall_70 : decode cX10_wall 70 = .ok (.iload_n 2, 1) := by decide +kernel
theorem dX10_wall_71 : decode cX10_wall 71 = .ok (.aload_n 0, 1) := by decide +kernel
theorem dX10_wall_72 : decode cX10_wall 72 = .ok (.getfield 60, 3) := by decide +kernel
theorem dX10_wall_75 : decode cX10_wall 75 = .ok (.arraylength, 1) := by decide +kernel
theorem dX10_wall_76 : decode cX10_wall 76 = .ok (.if_icmp .ge 19, 3) := by decide +kernel
theorem dX10_wall_79 : decode cX10_wall 79 = .ok (.aload_n 0, 1) := by decide +kernel
theorem dX10_wall_80 : decode cX10_wall 80 = .ok (.getfield 60, 3) := by decide +kernel
theorem dX10_wall_83 : decode cX10_wall 83 = .ok (.iload_n 2, 1) := by decide +kernel
theorem dX10_wall_84 : decode cX10_wall 84 = .ok (.aaload, 1) := by decide +kernel
theorem dX10_wall_85 : decode cX10_wall 85 = .ok (.iconst 0, 1) := by decide +kernel
theorem dX10_wall_86 : decode cX10_wall 86 = .ok (.putfield 100, 3) := by decide +kernel
theorem dX10_wall_89 : decode cX10_wall 89 = .ok (.iinc 2 1, 3) := by decide +kernel
theorem dX10_wall_92 : decode cX10_wall 92 = .ok (.goto (-22), 3) := by decide +kernel
theorem dX10_wall_95 : decode cX10_wall 95 = .ok (.aload_n 0, 1) := by decide +kernel
theorem dX10_wall_96 : decode cX10_wall 96 = .ok (.getfield 67, 3) := by decide +kernel
theorem dX10_wall_99 : decode cX10_wall 99 = .ok (.invokevirtual 104, 3) := by decide +kernel
theorem dX10_wall_102 : decode cX10_wall 102 = .ok (.ireturn, 1) := by decide +kernel
theorem dX10_fault_0 : decode cX10_fault 0 = .ok (.aload_n 0, 1) := by decide +kernel
theorem dX10_fault_1 : decode cX10_fault 1 = .ok (.getfield 10, 3) := by decide +kernel
theorem dX10_fault_4 : decode cX10_fault 4 = .ok (.getfield 108, 3) := by decide +kernel
theorem dX10_fault_7 : decode cX10_fault 7 = .ok (.ireturn, 1) := by decide +kernel
theorem dX10_told_0 : decode cX10_told 0 = .ok (.iload_n 1, 1) := by decide +kernel
theorem dX10_told_1 : decode cX10_told 1 = .ok (.tableswitch 309 0 20 #[99, 107, 115, 123, 131, 139, 147, 155, 163, 171, 179, 187, 195, 203, 218, 233, 248, 263, 278, 293, 301], 99) := by decide +kernel
theorem dX10_told_100 : decode cX10_told 100 = .ok (.aload_n 0, 1) := by decide +kernel
theorem dX10_told_101 : decode cX10_told 101 = .ok (.getfield 67, 3) := by decide +kernel
theorem dX10_told_104 : decode cX10_told 104 = .ok (.getfield 111, 3) := by decide +kernel
theorem dX10_told_107 : decode cX10_told 107 = .ok (.ireturn, 1) := by decide +kernel
theorem dX10_told_108 : decode cX10_told 108 = .ok (.aload_n 0, 1) := by decide +kernel
theorem dX10_told_109 : decode cX10_told 109 = .ok (.getfield 67, 3) := by decide +kernel
theorem dX10_told_112 : decode cX10_told 112 = .ok (.getfield 114, 3) := by decide +kernel
theorem dX10_told_115 : decode cX10_told 115 = .ok (.ireturn, 1) := by decide +kernel
theorem dX10_told_116 : decode cX10_told 116 = .ok (.aload_n 0, 1) := by decide +kernel
theorem dX10_told_117 : decode cX10_told 117 = .ok (.getfield 67, 3) := by decide +kernel
theorem dX10_told_120 : decode cX10_told 120 = .ok (.getfield 117, 3) := by decide +kernel
theorem dX10_told_123 : decode cX10_told 123 = .ok (.ireturn, 1) := by decide +kernel
theorem dX10_told_124 : decode cX10_told 124 = .ok (.aload_n 0, 1) := by decide +kernel
theorem dX10_told_125 : decode cX10_told 125 = .ok (.getfield 67, 3) := by decide +kernel
theorem dX10_told_128 : decode cX10_told 128 = .ok (.getfield 120, 3) := by decide +kernel
theorem dX10_told_131 : decode cX10_told 131 = .ok (.ireturn, 1) := by decide +kernel
theorem dX10_told_132 : decode cX10_told 132 = .ok (.aload_n 0, 1) := by decide +kernel
theorem dX10_told_133 : decode cX10_told 133 = .ok (.getfield 67, 3) := by decide +kernel
theorem dX10_told_136 : decode cX10_told 136 = .ok (.getfield 123, 3) := by decide +kernel
theorem dX10_told_139 : decode cX10_told 139 = .ok (.ireturn, 1) := by decide +kernel
theorem dX10_told_140 : decode cX10_told 140 = .ok (.aload_n 0, 1) := by decide +kernel
theorem dX10_told_141 : decode cX10_told 141 = .ok (.getfield 10, 3) := by decide +kernel
theorem dX10_told_144 : decode cX10_told 144 = .ok (.getfield 126, 3) := by decide +kernel
theorem dX10_told_147 : decode cX10_told 147 = .ok (.ireturn, 1) := by decide +kernel
theorem dX10_told_148 : decode cX10_told 148 = .ok (.aload_n 0, 1) := by decide +kernel
theorem dX10_told_149 : decode cX10_told 149 = .ok (.getfield 19, 3) := by decide +kernel
theorem dX10_told_152 : decode cX10_told 152 = .ok (.getfield 129, 3) := by decide +kernel
theorem dX10_told_155 : decode cX10_told 155 = .ok (.ireturn, 1) := by decide +kernel
theorem dX10_told_156 : decode cX10_told 156 = .ok (.aload_n 0, 1) := by decide +kernel
theorem dX10_told_157 : decode cX10_told 157 = .ok (.getfield 19, 3) := by decide +kernel
theorem dX10_told_160 : decode cX10_told 160 = .ok (.getfield 132, 3) := by decide +kernel
theorem dX10_told_163 : decode cX10_told 163 = .ok (.ireturn, 1) := by decide +kernel
theorem dX10_told_164 : decode cX10_told 164 = .ok (.aload_n 0, 1) := by decide +kernel
theorem dX10_told_165 : decode cX10_told 165 = .ok (.getfield 19, 3) := by decide +kernel
theorem dX10_told_168 : decode cX10_told 168 = .ok (.invokevirtual 135, 3) := by decide +kernel
theorem dX10_told_171 : decode cX10_told 171 = .ok (.ireturn, 1) := by decide +kernel
theorem dX10_told_172 : decode cX10_told 172 = .ok (.aload_n 0, 1) := by decide +kernel
theorem dX10_told_173 : decode cX10_told 173 = .ok (.getfield 19, 3) := by decide +kernel
theorem dX10_told_176 : decode cX10_told 176 = .ok (.getfield 138, 3) := by decide +kernel
theorem dX10_told_179 : decode cX10_told 179 = .ok (.ireturn, 1) := by decide +kernel
theorem dX10_told_180 : decode cX10_told 180 = .ok (.aload_n 0, 1) := by decide +kernel
theorem dX10_told_181 : decode cX10_told 181 = .ok (.getfield 19, 3) := by decide +kernel
theorem dX10_told_184 : decode cX10_told 184 = .ok (.getfield 141, 3) := by decide +kernel
theorem dX10_told_187 : decode cX10_told 187 = .ok (.ireturn, 1) := by decide +kernel
theorem dX10_told_188 : decode cX10_told 188 = .ok (.aload_n 0, 1) := by decide +kernel
theorem dX10_told_189 : decode cX10_told 189 = .ok (.getfield 19, 3) := by decide +kernel
theorem dX10_told_192 : decode cX10_told 192 = .ok (.getfield 144, 3) := by decide +kernel
theorem dX10_told_195 : decode cX10_told 195 = .ok (.ireturn, 1) := by decide +kernel
theorem dX10_told_196 : decode cX10_told 196 = .ok (.aload_n 0, 1) := by decide +kernel
theorem dX10_told_197 : decode cX10_told 197 = .ok (.getfield 19, 3) := by decide +kernel
theorem dX10_told_200 : decode cX10_told 200 = .ok (.invokevirtual 147, 3) := by decide +kernel
theorem dX10_told_203 : decode cX10_told 203 = .ok (.ireturn, 1) := by decide +kernel
theorem dX10_told_204 : decode cX10_told 204 = .ok (.aload_n 0, 1) := by decide +kernel
theorem dX10_told_205 : decode cX10_told 205 = .ok (.getfield 67, 3) := by decide +kernel
theorem dX10_told_208 : decode cX10_told 208 = .ok (.aload_n 0, 1) := by decide +kernel
theorem dX10_told_209 : decode cX10_told 209 = .ok (.getfield 19, 3) := by decide +kernel
theorem dX10_told_212 : decode cX10_told 212 = .ok (.invokevirtual 135, 3) := by decide +kernel
theorem dX10_told_215 : decode cX10_told 215 = .ok (.invokestatic 150, 3) := by decide +kernel
theorem dX10_told_218 : decode cX10_told 218 = .ok (.ireturn, 1) := by decide +kernel
theorem dX10_told_219 : decode cX10_told 219 = .ok (.aload_n 0, 1) := by decide +kernel
theorem dX10_told_220 : decode cX10_told 220 = .ok (.getfield 67, 3) := by decide +kernel
theorem dX10_told_223 : decode cX10_told 223 = .ok (.aload_n 0, 1) := by decide +kernel
theorem dX10_told_224 : decode cX10_told 224 = .ok (.getfield 19, 3) := by decide +kernel
theorem dX10_told_227 : decode cX10_told 227 = .ok (.invokevirtual 135, 3) := by decide +kernel
theorem dX10_told_230 : decode cX10_told 230 = .ok (.invokestatic 156, 3) := by decide +kernel
theorem dX10_told_233 : decode cX10_told 233 = .ok (.ireturn, 1) := by decide +kernel
theorem dX10_told_234 : decode cX10_told 234 = .ok (.aload_n 0, 1) := by decide +kernel
theorem dX10_told_235 : decode cX10_told 235 = .ok (.getfield 67, 3) := by decide +kernel
theorem dX10_told_238 : decode cX10_told 238 = .ok (.aload_n 0, 1) := by decide +kernel
theorem dX10_told_239 : decode cX10_told 239 = .ok (.getfield 19, 3) := by decide +kernel
theorem dX10_told_242 : decode cX10_told 242 = .ok (.invokevirtual 135, 3) := by decide +kernel
theorem dX10_told_245 : decode cX10_told 245 = .ok (.invokestatic 159, 3) := by decide +kernel
theorem dX10_told_248 : decode cX10_told 248 = .ok (.ireturn, 1) := by decide +kernel
theorem dX10_told_249 : decode cX10_told 249 = .ok (.aload_n 0, 1) := by decide +kernel
theorem dX10_told_250 : decode cX10_told 250 = .ok (.getfield 67, 3) := by decide +kernel
theorem dX10_told_253 : decode cX10_told 253 = .ok (.aload_n 0, 1) := by decide +kernel
theorem dX10_told_254 : decode cX10_told 254 = .ok (.getfield 19, 3) := by decide +kernel
theorem dX10_told_257 : decode cX10_told 257 = .ok (.invokevirtual 135, 3) := by decide +kernel
theorem dX10_told_260 : decode cX10_told 260 = .ok (.invokestatic 162, 3) := by decide +kernel
theorem dX10_told_263 : decode cX10_told 263 = .ok (.ireturn, 1) := by decide +kernel
theorem dX10_told_264 : decode cX10_told 264 = .ok (.aload_n 0, 1) := by decide +kernel
theorem dX10_told_265 : decode cX10_told 265 = .ok (.getfield 67, 3) := by decide +kernel
theorem dX10_told_268 : decode cX10_told 268 = .ok (.aload_n 0, 1) := by decide +kernel
theorem dX10_told_269 : decode cX10_told 269 = .ok (.getfield 19, 3) := by decide +kernel
theorem dX10_told_272 : decode cX10_told 272 = .ok (.invokevirtual 135, 3) := by decide +kernel
theorem dX10_told_275 : decode cX10_told 275 = .ok (.invokestatic 165, 3) := by decide +kernel
theorem dX10_told_278 : decode cX10_told 278 = .ok (.ireturn, 1) := by decide +kernel
theorem dX10_told_279 : decode cX10_told 279 = .ok (.aload_n 0, 1) := by decide +kernel
theorem dX10_told_280 : decode cX10_told 280 = .ok (.getfield 67, 3) := by decide +kernel
theorem dX10_told_283 : decode cX10_told 283 = .ok (.aload_n 0, 1) := by decide +kernel
theorem dX10_told_284 : decode cX10_told 284 = .ok (.getfield 19, 3) := by decide +kernel
theorem dX10_told_287 : decode cX10_told 287 = .ok (.invokevirtual 135, 3) := by decide +kernel
theorem dX10_told_290 : decode cX10_told 290 = .ok (.invokestatic 168, 3) := by decide +kernel
theorem dX10_told_293 : decode cX10_told 293 = .ok (.ireturn, 1) := by decide +kernel
theorem dX10_told_294 : decode cX10_told 294 = .ok (.aload_n 0, 1) := by decide +kernel
theorem dX10_told_295 : decode cX10_told 295 = .ok (.getfield 47, 3) := by decide +kernel
theorem dX10_told_298 : decode cX10_told 298 = .ok (.getfield 171, 3) := by decide +kernel
theorem dX10_told_301 : decode cX10_told 301 = .ok (.ireturn, 1) := by decide +kernel
theorem dX10_told_302 : decode cX10_told 302 = .ok (.aload_n 0, 1) := by decide +kernel
theorem dX10_told_303 : decode cX10_told 303 = .ok (.getfield 40, 3) := by decide +kernel
theorem dX10_told_306 : decode cX10_told 306 = .ok (.getfield 172, 3) := by decide +kernel
theorem dX10_told_309 : decode cX10_told 309 = .ok (.ireturn, 1) := by decide +kernel
theorem dX10_told_310 : decode cX10_told 310 = .ok (.ldc 79, 2) := by decide +kernel
theorem dX10_told_312 : decode cX10_told 312 = .ok (.ireturn, 1) := by decide +kernel
theorem dX10_cell_0 : decode cX10_cell 0 = .ok (.aload_n 0, 1) := by decide +kernel
theorem dX10_cell_1 : decode cX10_cell 1 = .ok (.getfield 67, 3) := by decide +kernel
theorem dX10_cell_4 : decode cX10_cell 4 = .ok (.iload_n 1, 1) := by decide +kernel
theorem dX10_cell_5 : decode cX10_cell 5 = .ok (.invokevirtual 173, 3) := by decide +kernel
theorem dX10_cell_8 : decode cX10_cell 8 = .ok (.ifCond .eq 17, 3) := by decide +kernel
theorem dX10_cell_11 : decode cX10_cell 11 = .ok (.aload_n 0, 1) := by decide +kernel
theorem dX10_cell_12 : decode cX10_cell 12 = .ok (.getfield 19, 3) := by decide +kernel
theorem dX10_cell_15 : decode cX10_cell 15 = .ok (.getfield 177, 3) := by decide +kernel
theorem dX10_cell_18 : decode cX10_cell 18 = .ok (.iload_n 1, 1) := by decide +kernel
theorem dX10_cell_19 : decode cX10_cell 19 = .ok (.invokestatic 181, 3) := by decide +kernel
theorem dX10_cell_22 : decode cX10_cell 22 = .ok (.goto 5, 3) := by decide +kernel
theorem dX10_cell_25 : decode cX10_cell 25 = .ok (.ldc 185, 2) := by decide +kernel
theorem dX10_cell_27 : decode cX10_cell 27 = .ok (.ireturn, 1) := by decide +kernel
theorem dX10_leak_0 : decode cX10_leak 0 = .ok (.aload_n 0, 1) := by decide +kernel
theorem dX10_leak_1 : decode cX10_leak 1 = .ok (.getfield 67, 3) := by decide +kernel
theorem dX10_leak_4 : decode cX10_leak 4 = .ok (.iload_n 1, 1) := by decide +kernel
theorem dX10_leak_5 : decode cX10_leak 5 = .ok (.invokevirtual 186, 3) := by decide +kernel
theorem dX10_leak_8 : decode cX10_leak 8 = .ok (.ifCond .eq 17, 3) := by decide +kernel
theorem dX10_leak_11 : decode cX10_leak 11 = .ok (.aload_n 0, 1) := by decide +kernel
theorem dX10_leak_12 : decode cX10_leak 12 = .ok (.getfield 19, 3) := by decide +kernel
theorem dX10_leak_15 : decode cX10_leak 15 = .ok (.getfield 189, 3) := by decide +kernel
theorem dX10_leak_18 : decode cX10_leak 18 = .ok (.iload_n 1, 1) := by decide +kernel
theorem dX10_leak_19 : decode cX10_leak 19 = .ok (.invokestatic 181, 3) := by decide +kernel
theorem dX10_leak_22 : decode cX10_leak 22 = .ok (.goto 5, 3) := by decide +kernel
theorem dX10_leak_25 : decode cX10_leak 25 = .ok (.ldc 185, 2) := by decide +kernel
theorem dX10_leak_27 : decode cX10_leak 27 = .ok (.ireturn, 1) := by decide +kernel
theorem dX10_crack_0 : decode cX10_crack 0 = .ok (.aload_n 0, 1) := by decide +kernel
theorem dX10_crack_1 : decode cX10_crack 1 = .ok (.getfield 67, 3) := by decide +kernel
theorem dX10_crack_4 : decode cX10_crack 4 = .ok (.iload_n 1, 1) := by decide +kernel
theorem dX10_crack_5 : decode cX10_crack 5 = .ok (.invokevirtual 192, 3) := by decide +kernel
theorem dX10_crack_8 : decode cX10_crack 8 = .ok (.ifCond .ne 6, 3) := by decide +kernel
theorem dX10_crack_11 : decode cX10_crack 11 = .ok (.ldc 185, 2) := by decide +kernel
theorem dX10_crack_13 : decode cX10_crack 13 = .ok (.ireturn, 1) := by decide +kernel
theorem dX10_crack_14 : decode cX10_crack 14 = .ok (.iload_n 2, 1) := by decide +kernel
theorem dX10_crack_15 : decode cX10_crack 15 = .ok (.tableswitch 66 0 2 #[25, 37, 49], 25) := by decide +kernel
theorem dX10_crack_40 : decode cX10_crack 40 = .ok (.aload_n 0, 1) := by decide +kernel
theorem dX10_crack_41 : decode cX10_crack 41 = .ok (.getfield 67, 3) := by decide +kernel
theorem dX10_crack_44 : decode cX10_crack 44 = .ok (.getfield 195, 3) := by decide +kernel
theorem dX10_crack_47 : decode cX10_crack 47 = .ok (.iload_n 1, 1) := by decide +kernel
theorem dX10_crack_48 : decode cX10_crack 48 = .ok (.invokestatic 181, 3) := by decide +kernel
theorem dX10_crack_51 : decode cX10_crack 51 = .ok (.ireturn, 1) := by decide +kernel
theorem dX10_crack_52 : decode cX10_crack 52 = .ok (.aload_n 0, 1) := by decide +kernel
theorem dX10_crack_53 : decode cX10_crack 53 = .ok (.getfield 67, 3) := by decide +kernel
theorem dX10_crack_56 : decode cX10_crack 56 = .ok (.getfield 198, 3) := by decide +kernel
theorem dX10_crack_59 : decode cX10_crack 59 = .ok (.iload_n 1, 1) := by decide +kernel
theorem dX10_crack_60 : decode cX10_crack 60 = .ok (.invokestatic 181, 3) := by decide +kernel
theorem dX10_crack_63 : decode cX10_crack 63 = .ok (.ireturn, 1) := by decide +kernel
theorem dX10_crack_64 : decode cX10_crack 64 = .ok (.aload_n 0, 1) := by decide +kernel
theorem dX10_crack_65 : decode cX10_crack 65 = .ok (.getfield 19, 3) := by decide +kernel
theorem dX10_crack_68 : decode cX10_crack 68 = .ok (.iload_n 1, 1) := by decide +kernel
theorem dX10_crack_69 : decode cX10_crack 69 = .ok (.invokevirtual 201, 3) := by decide +kernel
theorem dX10_crack_72 : decode cX10_crack 72 = .ok (.ifCond .eq 7, 3) := by decide +kernel
theorem dX10_crack_75 : decode cX10_crack 75 = .ok (.iconst 1, 1) := by decide +kernel
theorem dX10_crack_76 : decode cX10_crack 76 = .ok (.goto 4, 3) := by decide +kernel
theorem dX10_crack_79 : decode cX10_crack 79 = .ok (.iconst 0, 1) := by decide +kernel
theorem dX10_crack_80 : decode cX10_crack 80 = .ok (.ireturn, 1) := by decide +kernel
theorem dX10_crack_81 : decode cX10_crack 81 = .ok (.ldc 79, 2) := by decide +kernel
theorem dX10_crack_83 : decode cX10_crack 83 = .ok (.ireturn, 1) := by decide +kernel
theorem dX10_likeness_0 : decode cX10_likeness 0 = .ok (.aload_n 0, 1) := by decide +kernel
theorem dX10_likeness_1 : decode cX10_likeness 1 = .ok (.getfield 67, 3) := by decide +kernel
theorem dX10_likeness_4 : decode cX10_likeness 4 = .ok (.iload_n 1, 1) := by decide +kernel
theorem dX10_likeness_5 : decode cX10_likeness 5 = .ok (.invokevirtual 204, 3) := by decide +kernel
theorem dX10_likeness_8 : decode cX10_likeness 8 = .ok (.ifCond .ne 6, 3) := by decide +kernel
theorem dX10_likeness_11 : decode cX10_likeness 11 = .ok (.ldc 185, 2) := by decide +kernel
theorem dX10_likeness_13 : decode cX10_likeness 13 = .ok (.ireturn, 1) := by decide +kernel
theorem dX10_likeness_14 : decode cX10_likeness 14 = .ok (.aload_n 0, 1) := by decide +kernel
theorem dX10_likeness_15 : decode cX10_likeness 15 = .ok (.getfield 67, 3) := by decide +kernel
theorem dX10_likeness_18 : decode cX10_likeness 18 = .ok (.getfield 207, 3) := by decide +kernel
theorem dX10_likeness_21 : decode cX10_likeness 21 = .ok (.iload_n 1, 1) := by decide +kernel
theorem dX10_likeness_22 : decode cX10_likeness 22 = .ok (.invokestatic 181, 3) := by decide +kernel
theorem dX10_likeness_25 : decode cX10_likeness 25 = .ok (.istore_n 3, 1) := by decide +kernel
theorem dX10_likeness_26 : decode cX10_likeness 26 = .ok (.iload_n 2, 1) := by decide +kernel
theorem dX10_likeness_27 : decode cX10_likeness 27 = .ok (.tableswitch 58 0 2 #[25, 27, 43], 25) := by decide +kernel
theorem dX10_likeness_52 : decode cX10_likeness 52 = .ok (.iload_n 3, 1) := by decide +kernel
theorem dX10_likeness_53 : decode cX10_likeness 53 = .ok (.ireturn, 1) := by decide +kernel
theorem dX10_likeness_54 : decode cX10_likeness 54 = .ok (.aload_n 0, 1) := by decide +kernel
theorem dX10_likeness_55 : decode cX10_likeness 55 = .ok (.getfield 67, 3) := by decide +kernel
theorem dX10_likeness_58 : decode cX10_likeness 58 = .ok (.aload_n 0, 1) := by decide +kernel
theorem dX10_likeness_59 : decode cX10_likeness 59 = .ok (.getfield 19, 3) := by decide +kernel
theorem dX10_likeness_62 : decode cX10_likeness 62 = .ok (.invokevirtual 135, 3) := by decide +kernel
theorem dX10_likeness_65 : decode cX10_likeness 65 = .ok (.iload_n 3, 1) := by decide +kernel
theorem dX10_likeness_66 : decode cX10_likeness 66 = .ok (.invokestatic 210, 3) := by decide +kernel
theorem dX10_likeness_69 : decode cX10_likeness 69 = .ok (.ireturn, 1) := by decide +kernel
theorem dX10_likeness_70 : decode cX10_likeness 70 = .ok (.aload_n 0, 1) := by decide +kernel
theorem dX10_likeness_71 : decode cX10_likeness 71 = .ok (.getfield 19, 3) := by decide +kernel
theorem dX10_likeness_74 : decode cX10_likeness 74 = .ok (.invokevirtual 135, 3) := by decide +kernel
theorem dX10_likeness_77 : decode cX10_likeness 77 = .ok (.iload_n 3, 1) := by decide +kernel
theorem dX10_likeness_78 : decode cX10_likeness 78 = .ok (.iconst (-1), 1) := by decide +kernel
theorem dX10_likeness_79 : decode cX10_likeness 79 = .ok (.ixor, 1) := by decide +kernel
theorem dX10_likeness_80 : decode cX10_likeness 80 = .ok (.iand, 1) := by decide +kernel
theorem dX10_likeness_81 : decode cX10_likeness 81 = .ok (.invokestatic 214, 3) := by decide +kernel
theorem dX10_likeness_84 : decode cX10_likeness 84 = .ok (.ireturn, 1) := by decide +kernel
theorem dX10_likeness_85 : decode cX10_likeness 85 = .ok (.ldc 79, 2) := by decide +kernel
theorem dX10_likeness_87 : decode cX10_likeness 87 = .ok (.ireturn, 1) := by decide +kernel
theorem dX10_day_0 : decode cX10_day 0 = .ok (.iload_n 1, 1) := by decide +kernel
theorem dX10_day_1 : decode cX10_day 1 = .ok (.iconst 1, 1) := by decide +kernel
theorem dX10_day_2 : decode cX10_day 2 = .ok (.bipush 60, 2) := by decide +kernel
theorem dX10_day_4 : decode cX10_day 4 = .ok (.invokestatic 75, 3) := by decide +kernel
theorem dX10_day_7 : decode cX10_day 7 = .ok (.ifCond .ne 13, 3) := by decide +kernel
theorem dX10_day_10 : decode cX10_day 10 = .ok (.iload_n 2, 1) := by decide +kernel
theorem dX10_day_11 : decode cX10_day 11 = .ok (.iconst 0, 1) := by decide +kernel
theorem dX10_day_12 : decode cX10_day 12 = .ok (.bipush 9, 2) := by decide +kernel
theorem dX10_day_14 : decode cX10_day 14 = .ok (.invokestatic 75, 3) := by decide +kernel
theorem dX10_day_17 : decode cX10_day 17 = .ok (.ifCond .eq 6, 3) := by decide +kernel
theorem dX10_day_20 : decode cX10_day 20 = .ok (.ldc 79, 2) := by decide +kernel
theorem dX10_day_22 : decode cX10_day 22 = .ok (.ireturn, 1) := by decide +kernel
theorem dX10_day_23 : decode cX10_day 23 = .ok (.aload_n 0, 1) := by decide +kernel
theorem dX10_day_24 : decode cX10_day 24 = .ok (.invokevirtual 219, 3) := by decide +kernel
theorem dX10_day_27 : decode cX10_day 27 = .ok (.ifCond .eq 6, 3) := by decide +kernel
theorem dX10_day_30 : decode cX10_day 30 = .ok (.ldc 223, 2) := by decide +kernel
theorem dX10_day_32 : decode cX10_day 32 = .ok (.ireturn, 1) := by decide +kernel
theorem dX10_day_33 : decode cX10_day 33 = .ok (.aload_n 0, 1) := by decide +kernel
theorem dX10_day_34 : decode cX10_day 34 = .ok (.getfield 19, 3) := by decide +kernel
theorem dX10_day_37 : decode cX10_day 37 = .ok (.getfield 129, 3) := by decide +kernel
theorem dX10_day_40 : decode cX10_day 40 = .ok (.sipush 9000, 3) := by decide +kernel
theorem dX10_day_43 : decode cX10_day 43 = .ok (.if_icmp .le 6, 3) := by decide +kernel
theorem dX10_day_46 : decode cX10_day 46 = .ok (.ldc 224, 2) := by decide +kernel
theorem dX10_day_48 : decode cX10_day 48 = .ok (.ireturn, 1) := by decide +kernel
theorem dX10_day_49 : decode cX10_day 49 = .ok (.aload_n 0, 1) := by decide +kernel
theorem dX10_day_50 : decode cX10_day 50 = .ok (.getfield 40, 3) := by decide +kernel
theorem dX10_day_53 : decode cX10_day 53 = .ok (.aload_n 0, 1) := by decide +kernel
theorem dX10_day_54 : decode cX10_day 54 = .ok (.getfield 19, 3) := by decide +kernel
theorem dX10_day_57 : decode cX10_day 57 = .ok (.invokevirtual 225, 3) := by decide +kernel
theorem dX10_day_60 : decode cX10_day 60 = .ok (.aload_n 0, 1) := by decide +kernel
theorem dX10_day_61 : decode cX10_day 61 = .ok (.getfield 26, 3) := by decide +kernel
theorem dX10_day_64 : decode cX10_day 64 = .ok (.aload_n 0, 1) := by decide +kernel
theorem dX10_day_65 : decode cX10_day 65 = .ok (.getfield 67, 3) := by decide +kernel
theorem dX10_day_68 : decode cX10_day 68 = .ok (.aload_n 0, 1) := by decide +kernel
theorem dX10_day_69 : decode cX10_day 69 = .ok (.getfield 19, 3) := by decide +kernel
theorem dX10_day_72 : decode cX10_day 72 = .ok (.iload_n 1, 1) := by decide +kernel
theorem dX10_day_73 : decode cX10_day 73 = .ok (.iload_n 2, 1) := by decide +kernel
theorem dX10_day_74 : decode cX10_day 74 = .ok (.invokevirtual 229, 3) := by decide +kernel
theorem dX10_day_77 : decode cX10_day 77 = .ok (.aload_n 0, 1) := by decide +kernel
theorem dX10_day_78 : decode cX10_day 78 = .ok (.getfield 19, 3) := by decide +kernel
theorem dX10_day_81 : decode cX10_day 81 = .ok (.invokevirtual 233, 3) := by decide +kernel
theorem dX10_day_84 : decode cX10_day 84 = .ok (.ireturn, 1) := by decide +kernel
theorem dX10_look_0 : decode cX10_look 0 = .ok (.aload_n 0, 1) := by decide +kernel
theorem dX10_look_1 : decode cX10_look 1 = .ok (.invokevirtual 219, 3) := by decide +kernel
theorem dX10_look_4 : decode cX10_look 4 = .ok (.ifCond .eq 6, 3) := by decide +kernel
theorem dX10_look_7 : decode cX10_look 7 = .ok (.ldc 223, 2) := by decide +kernel
theorem dX10_look_9 : decode cX10_look 9 = .ok (.ireturn, 1) := by decide +kernel
theorem dX10_look_10 : decode cX10_look 10 = .ok (.aload_n 0, 1) := by decide +kernel
theorem dX10_look_11 : decode cX10_look 11 = .ok (.getfield 40, 3) := by decide +kernel
theorem dX10_look_14 : decode cX10_look 14 = .ok (.aload_n 0, 1) := by decide +kernel
theorem dX10_look_15 : decode cX10_look 15 = .ok (.getfield 19, 3) := by decide +kernel
theorem dX10_look_18 : decode cX10_look 18 = .ok (.invokevirtual 225, 3) := by decide +kernel
theorem dX10_look_21 : decode cX10_look 21 = .ok (.aload_n 0, 1) := by decide +kernel
theorem dX10_look_22 : decode cX10_look 22 = .ok (.getfield 19, 3) := by decide +kernel
theorem dX10_look_25 : decode cX10_look 25 = .ok (.aload_n 0, 1) := by decide +kernel
theorem dX10_look_26 : decode cX10_look 26 = .ok (.getfield 67, 3) := by decide +kernel
theorem dX10_look_29 : decode cX10_look 29 = .ok (.invokevirtual 236, 3) := by decide +kernel
theorem dX10_look_32 : decode cX10_look 32 = .ok (.aload_n 0, 1) := by decide +kernel
theorem dX10_look_33 : decode cX10_look 33 = .ok (.getfield 19, 3) := by decide +kernel
theorem dX10_look_36 : decode cX10_look 36 = .ok (.invokevirtual 233, 3) := by decide +kernel
theorem dX10_look_39 : decode cX10_look 39 = .ok (.ireturn, 1) := by decide +kernel
theorem dX10_brush_0 : decode cX10_brush 0 = .ok (.aload_n 0, 1) := by decide +kernel
theorem dX10_brush_1 : decode cX10_brush 1 = .ok (.getfield 67, 3) := by decide +kernel
theorem dX10_brush_4 : decode cX10_brush 4 = .ok (.iload_n 1, 1) := by decide +kernel
theorem dX10_brush_5 : decode cX10_brush 5 = .ok (.invokevirtual 173, 3) := by decide +kernel
theorem dX10_brush_8 : decode cX10_brush 8 = .ok (.ifCond .ne 6, 3) := by decide +kernel
theorem dX10_brush_11 : decode cX10_brush 11 = .ok (.ldc 185, 2) := by decide +kernel
theorem dX10_brush_13 : decode cX10_brush 13 = .ok (.ireturn, 1) := by decide +kernel
theorem dX10_brush_14 : decode cX10_brush 14 = .ok (.aload_n 0, 1) := by decide +kernel
theorem dX10_brush_15 : decode cX10_brush 15 = .ok (.getfield 40, 3) := by decide +kernel
theorem dX10_brush_18 : decode cX10_brush 18 = .ok (.aload_n 0, 1) := by decide +kernel
theorem dX10_brush_19 : decode cX10_brush 19 = .ok (.getfield 19, 3) := by decide +kernel
theorem dX10_brush_22 : decode cX10_brush 22 = .ok (.invokevirtual 225, 3) := by decide +kernel
theorem dX10_brush_25 : decode cX10_brush 25 = .ok (.aload_n 0, 1) := by decide +kernel
theorem dX10_brush_26 : decode cX10_brush 26 = .ok (.getfield 19, 3) := by decide +kernel
theorem dX10_brush_29 : decode cX10_brush 29 = .ok (.getfield 177, 3) := by decide +kernel
theorem dX10_brush_32 : decode cX10_brush 32 = .ok (.iload_n 1, 1) := by decide +kernel
theorem dX10_brush_33 : decode cX10_brush 33 = .ok (.invokestatic 181, 3) := by decide +kernel
theorem dX10_brush_36 : decode cX10_brush 36 = .ok (.istore_n 2, 1) := by decide +kernel
theorem dX10_brush_37 : decode cX10_brush 37 = .ok (.aload_n 0, 1) := by decide +kernel
theorem dX10_brush_38 : decode cX10_brush 38 = .ok (.getfield 19, 3) := by decide +kernel
theorem dX10_brush_41 : decode cX10_brush 41 = .ok (.getfield 177, 3) := by decide +kernel
theorem dX10_brush_44 : decode cX10_brush 44 = .ok (.iload_n 1, 1) := by decide +kernel
theorem dX10_brush_45 : decode cX10_brush 45 = .ok (.iconst 0, 1) := by decide +kernel
theorem dX10_brush_46 : decode cX10_brush 46 = .ok (.invokestatic 239, 3) := by decide +kernel
theorem dX10_brush_49 : decode cX10_brush 49 = .ok (.aload_n 0, 1) := by decide +kernel
theorem dX10_brush_50 : decode cX10_brush 50 = .ok (.getfield 19, 3) := by decide +kernel
theorem dX10_brush_53 : decode cX10_brush 53 = .ok (.dup, 1) := by decide +kernel
theorem dX10_brush_54 : decode cX10_brush 54 = .ok (.getfield 144, 3) := by decide +kernel
theorem dX10_brush_57 : decode cX10_brush 57 = .ok (.iconst 1, 1) := by decide +kernel
theorem dX10_brush_58 : decode cX10_brush 58 = .ok (.iadd, 1) := by decide +kernel
theorem dX10_brush_59 : decode cX10_brush 59 = .ok (.putfield 144, 3) := by decide +kernel
theorem dX10_brush_62 : decode cX10_brush 62 = .ok (.iload_n 2, 1) := by decide +kernel
theorem dX10_brush_63 : decode cX10_brush 63 = .ok (.ireturn, 1) := by decide +kernel
theorem dX10_lead_0 : decode cX10_lead 0 = .ok (.aload_n 0, 1) := by decide +kernel
theorem dX10_lead_1 : decode cX10_lead 1 = .ok (.getfield 67, 3) := by decide +kernel
theorem dX10_lead_4 : decode cX10_lead 4 = .ok (.iload_n 1, 1) := by decide +kernel
theorem dX10_lead_5 : decode cX10_lead 5 = .ok (.invokevirtual 186, 3) := by decide +kernel
theorem dX10_lead_8 : decode cX10_lead 8 = .ok (.ifCond .eq 14, 3) := by decide +kernel
theorem dX10_lead_11 : decode cX10_lead 11 = .ok (.aload_n 0, 1) := by decide +kernel
theorem dX10_lead_12 : decode cX10_lead 12 = .ok (.getfield 67, 3) := by decide +kernel
theorem dX10_lead_15 : decode cX10_lead 15 = .ok (.iload_n 2, 1) := by decide +kernel
theorem dX10_lead_16 : decode cX10_lead 16 = .ok (.invokevirtual 173, 3) := by decide +kernel
theorem dX10_lead_19 : decode cX10_lead 19 = .ok (.ifCond .ne 6, 3) := by decide +kernel
theorem dX10_lead_22 : decode cX10_lead 22 = .ok (.ldc 185, 2) := by decide +kernel
theorem dX10_lead_24 : decode cX10_lead 24 = .ok (.ireturn, 1) := by decide +kernel
theorem dX10_lead_25 : decode cX10_lead 25 = .ok (.aload_n 0, 1) := by decide +kernel
theorem dX10_lead_26 : decode cX10_lead 26 = .ok (.getfield 40, 3) := by decide +kernel
theorem dX10_lead_29 : decode cX10_lead 29 = .ok (.aload_n 0, 1) := by decide +kernel
theorem dX10_lead_30 : decode cX10_lead 30 = .ok (.getfield 19, 3) := by decide +kernel
theorem dX10_lead_33 : decode cX10_lead 33 = .ok (.invokevirtual 225, 3) := by decide +kernel
theorem dX10_lead_36 : decode cX10_lead 36 = .ok (.aload_n 0, 1) := by decide +kernel
theorem dX10_lead_37 : decode cX10_lead 37 = .ok (.getfield 19, 3) := by decide +kernel
theorem dX10_lead_40 : decode cX10_lead 40 = .ok (.getfield 189, 3) := by decide +kernel
theorem dX10_lead_43 : decode cX10_lead 43 = .ok (.iload_n 1, 1) := by decide +kernel
theorem dX10_lead_44 : decode cX10_lead 44 = .ok (.invokestatic 181, 3) := by decide +kernel
theorem dX10_lead_47 : decode cX10_lead 47 = .ok (.istore_n 3, 1) := by decide +kernel
theorem dX10_lead_48 : decode cX10_lead 48 = .ok (.aload_n 0, 1) := by decide +kernel
theorem dX10_lead_49 : decode cX10_lead 49 = .ok (.getfield 19, 3) := by decide +kernel
theorem dX10_lead_52 : decode cX10_lead 52 = .ok (.getfield 189, 3) := by decide +kernel
theorem dX10_lead_55 : decode cX10_lead 55 = .ok (.iload_n 1, 1) := by decide +kernel
theorem dX10_lead_56 : decode cX10_lead 56 = .ok (.iload_n 2, 1) := by decide +kernel
theorem dX10_lead_57 : decode cX10_lead 57 = .ok (.invokestatic 239, 3) := by decide +kernel
theorem dX10_lead_60 : decode cX10_lead 60 = .ok (.iload_n 3, 1) := by decide +kernel
theorem dX10_lead_61 : decode cX10_lead 61 = .ok (.ireturn, 1) := by decide +kernel
theorem dX10_wind_0 : decode cX10_wind 0 = .ok (.iload_n 1, 1) := by decide +kernel
theorem dX10_wind_1 : decode cX10_wind 1 = .ok (.iconst 0, 1) := by decide +kernel
theorem dX10_wind_2 : decode cX10_wind 2 = .ok (.iconst 2, 1) := by decide +kernel
theorem dX10_wind_3 : decode cX10_wind 3 = .ok (.invokestatic 75, 3) := by decide +kernel
theorem dX10_wind_6 : decode cX10_wind 6 = .ok (.ifCond .eq 6, 3) := by decide +kernel
theorem dX10_wind_9 : decode cX10_wind 9 = .ok (.ldc 79, 2) := by decide +kernel
theorem dX10_wind_11 : decode cX10_wind 11 = .ok (.ireturn, 1) := by decide +kernel
theorem dX10_wind_12 : decode cX10_wind 12 = .ok (.aload_n 0, 1) := by decide +kernel
theorem dX10_wind_13 : decode cX10_wind 13 = .ok (.invokevirtual 219, 3) := by decide +kernel
theorem dX10_wind_16 : decode cX10_wind 16 = .ok (.ifCond .eq 6, 3) := by decide +kernel
theorem dX10_wind_19 : decode cX10_wind 19 = .ok (.ldc 223, 2) := by decide +kernel
theorem dX10_wind_21 : decode cX10_wind 21 = .ok (.ireturn, 1) := by decide +kernel
theorem dX10_wind_22 : decode cX10_wind 22 = .ok (.aload_n 0, 1) := by decide +kernel
theorem dX10_wind_23 : decode cX10_wind 23 = .ok (.getfield 40, 3) := by decide +kernel
theorem dX10_wind_26 : decode cX10_wind 26 = .ok (.aload_n 0, 1) := by decide +kernel
theorem dX10_wind_27 : decode cX10_wind 27 = .ok (.getfield 19, 3) := by decide +kernel
theorem dX10_wind_30 : decode cX10_wind 30 = .ok (.invokevirtual 225, 3) := by decide +kernel
theorem dX10_wind_33 : decode cX10_wind 33 = .ok (.aload_n 0, 1) := by decide +kernel
theorem dX10_wind_34 : decode cX10_wind 34 = .ok (.getfield 19, 3) := by decide +kernel
theorem dX10_wind_37 : decode cX10_wind 37 = .ok (.getfield 132, 3) := by decide +kernel
theorem dX10_wind_40 : decode cX10_wind 40 = .ok (.istore_n 2, 1) := by decide +kernel
theorem dX10_wind_41 : decode cX10_wind 41 = .ok (.aload_n 0, 1) := by decide +kernel
theorem dX10_wind_42 : decode cX10_wind 42 = .ok (.getfield 19, 3) := by decide +kernel
theorem dX10_wind_45 : decode cX10_wind 45 = .ok (.iload_n 1, 1) := by decide +kernel
theorem dX10_wind_46 : decode cX10_wind 46 = .ok (.putfield 132, 3) := by decide +kernel
theorem dX10_wind_49 : decode cX10_wind 49 = .ok (.iload_n 2, 1) := by decide +kernel
theorem dX10_wind_50 : decode cX10_wind 50 = .ok (.ireturn, 1) := by decide +kernel
theorem dX10_fill_0 : decode cX10_fill 0 = .ok (.aload_n 0, 1) := by decide +kernel
theorem dX10_fill_1 : decode cX10_fill 1 = .ok (.getfield 67, 3) := by decide +kernel
theorem dX10_fill_4 : decode cX10_fill 4 = .ok (.iload_n 1, 1) := by decide +kernel
theorem dX10_fill_5 : decode cX10_fill 5 = .ok (.invokevirtual 192, 3) := by decide +kernel
theorem dX10_fill_8 : decode cX10_fill 8 = .ok (.ifCond .ne 6, 3) := by decide +kernel
theorem dX10_fill_11 : decode cX10_fill 11 = .ok (.ldc 185, 2) := by decide +kernel
theorem dX10_fill_13 : decode cX10_fill 13 = .ok (.ireturn, 1) := by decide +kernel
theorem dX10_fill_14 : decode cX10_fill 14 = .ok (.aload_n 0, 1) := by decide +kernel
theorem dX10_fill_15 : decode cX10_fill 15 = .ok (.getfield 40, 3) := by decide +kernel
theorem dX10_fill_18 : decode cX10_fill 18 = .ok (.aload_n 0, 1) := by decide +kernel
theorem dX10_fill_19 : decode cX10_fill 19 = .ok (.getfield 19, 3) := by decide +kernel
theorem dX10_fill_22 : decode cX10_fill 22 = .ok (.invokevirtual 225, 3) := by decide +kernel
theorem dX10_fill_25 : decode cX10_fill 25 = .ok (.aload_n 0, 1) := by decide +kernel
theorem dX10_fill_26 : decode cX10_fill 26 = .ok (.getfield 19, 3) := by decide +kernel
theorem dX10_fill_29 : decode cX10_fill 29 = .ok (.iload_n 1, 1) := by decide +kernel
theorem dX10_fill_30 : decode cX10_fill 30 = .ok (.invokevirtual 201, 3) := by decide +kernel
theorem dX10_fill_33 : decode cX10_fill 33 = .ok (.ifCond .eq 7, 3) := by decide +kernel
theorem dX10_fill_36 : decode cX10_fill 36 = .ok (.iconst 1, 1) := by decide +kernel
theorem dX10_fill_37 : decode cX10_fill 37 = .ok (.goto 4, 3) := by decide +kernel
theorem dX10_fill_40 : decode cX10_fill 40 = .ok (.iconst 0, 1) := by decide +kernel
theorem dX10_fill_41 : decode cX10_fill 41 = .ok (.istore_n 3, 1) := by decide +kernel
theorem dX10_fill_42 : decode cX10_fill 42 = .ok (.aload_n 0, 1) := by decide +kernel
theorem dX10_fill_43 : decode cX10_fill 43 = .ok (.getfield 19, 3) := by decide +kernel
theorem dX10_fill_46 : decode cX10_fill 46 = .ok (.iload_n 2, 1) := by decide +kernel
theorem dX10_fill_47 : decode cX10_fill 47 = .ok (.ifCond .eq 17, 3) := by decide +kernel
theorem dX10_fill_50 : decode cX10_fill 50 = .ok (.aload_n 0, 1) := by decide +kernel
theorem dX10_fill_51 : decode cX10_fill 51 = .ok (.getfield 19, 3) := by decide +kernel
theorem dX10_fill_54 : decode cX10_fill 54 = .ok (.getfield 138, 3) := by decide +kernel
theorem dX10_fill_57 : decode cX10_fill 57 = .ok (.iconst 1, 1) := by decide +kernel
theorem dX10_fill_58 : decode cX10_fill 58 = .ok (.iload_n 1, 1) := by decide +kernel
theorem dX10_fill_59 : decode cX10_fill 59 = .ok (.ishl, 1) := by decide +kernel
theorem dX10_fill_60 : decode cX10_fill 60 = .ok (.ior, 1) := by decide +kernel
theorem dX10_fill_61 : decode cX10_fill 61 = .ok (.goto 16, 3) := by decide +kernel
theorem dX10_fill_64 : decode cX10_fill 64 = .ok (.aload_n 0, 1) := by decide +kernel
theorem dX10_fill_65 : decode cX10_fill 65 = .ok (.getfield 19, 3) := by decide +kernel
theorem dX10_fill_68 : decode cX10_fill 68 = .ok (.getfield 138, 3) := by decide +kernel
theorem dX10_fill_71 : decode cX10_fill 71 = .ok (.iconst 1, 1) := by decide +kernel
theorem dX10_fill_72 : decode cX10_fill 72 = .ok (.iload_n 1, 1) := by decide +kernel
theorem dX10_fill_73 : decode cX10_fill 73 = .ok (.ishl, 1) := by decide +kernel
theorem dX10_fill_74 : decode cX10_fill 74 = .ok (.iconst (-1), 1) := by decide +kernel
theorem dX10_fill_75 : decode cX10_fill 75 = .ok (.ixor, 1) := by decide +kernel
theorem dX10_fill_76 : decode cX10_fill 76 = .ok (.iand, 1) := by decide +kernel
theorem dX10_fill_77 : decode cX10_fill 77 = .ok (.putfield 138, 3) := by decide +kernel
theorem dX10_fill_80 : decode cX10_fill 80 = .ok (.iload_n 3, 1) := by decide +kernel
theorem dX10_fill_81 : decode cX10_fill 81 = .ok (.ireturn, 1) := by decide +kernel
theorem dX10_drift_0 : decode cX10_drift 0 = .ok (.iload_n 1, 1) := by decide +kernel
theorem dX10_drift_1 : decode cX10_drift 1 = .ok (.iconst 1, 1) := by decide +kernel
theorem dX10_drift_2 : decode cX10_drift 2 = .ok (.bipush 60, 2) := by decide +kernel
theorem dX10_drift_4 : decode cX10_drift 4 = .ok (.invokestatic 75, 3) := by decide +kernel
theorem dX10_drift_7 : decode cX10_drift 7 = .ok (.ifCond .eq 6, 3) := by decide +kernel
theorem dX10_drift_10 : decode cX10_drift 10 = .ok (.ldc 79, 2) := by decide +kernel
theorem dX10_drift_12 : decode cX10_drift 12 = .ok (.ireturn, 1) := by decide +kernel
theorem dX10_drift_13 : decode cX10_drift 13 = .ok (.aload_n 0, 1) := by decide +kernel
theorem dX10_drift_14 : decode cX10_drift 14 = .ok (.invokevirtual 219, 3) := by decide +kernel
theorem dX10_drift_17 : decode cX10_drift 17 = .ok (.ifCond .eq 6, 3) := by decide +kernel
theorem dX10_drift_20 : decode cX10_drift 20 = .ok (.ldc 223, 2) := by decide +kernel
theorem dX10_drift_22 : decode cX10_drift 22 = .ok (.ireturn, 1) := by decide +kernel
theorem dX10_drift_23 : decode cX10_drift 23 = .ok (.aload_n 0, 1) := by decide +kernel
theorem dX10_drift_24 : decode cX10_drift 24 = .ok (.getfield 19, 3) := by decide +kernel
theorem dX10_drift_27 : decode cX10_drift 27 = .ok (.getfield 129, 3) := by decide +kernel
theorem dX10_drift_30 : decode cX10_drift 30 = .ok (.sipush 9000, 3) := by decide +kernel
theorem dX10_drift_33 : decode cX10_drift 33 = .ok (.if_icmp .le 6, 3) := by decide +kernel
theorem dX10_drift_36 : decode cX10_drift 36 = .ok (.ldc 224, 2) := by decide +kernel
theorem dX10_drift_38 : decode cX10_drift 38 = .ok (.ireturn, 1) := by decide +kernel
theorem dX10_drift_39 : decode cX10_drift 39 = .ok (.aload_n 0, 1) := by decide +kernel
theorem dX10_drift_40 : decode cX10_drift 40 = .ok (.getfield 40, 3) := by decide +kernel
theorem dX10_drift_43 : decode cX10_drift 43 = .ok (.aload_n 0, 1) := by decide +kernel
theorem dX10_drift_44 : decode cX10_drift 44 = .ok (.getfield 19, 3) := by decide +kernel
theorem dX10_drift_47 : decode cX10_drift 47 = .ok (.invokevirtual 225, 3) := by decide +kernel
theorem dX10_drift_50 : decode cX10_drift 50 = .ok (.iconst 0, 1) := by decide +kernel
theorem dX10_drift_51 : decode cX10_drift 51 = .ok (.istore_n 2, 1) := by decide +kernel
theorem dX10_drift_52 : decode cX10_drift 52 = .ok (.iload_n 2, 1) := by decide +kernel
theorem dX10_drift_53 : decode cX10_drift 53 = .ok (.iload_n 1, 1) := by decide +kernel
theorem dX10_drift_54 : decode cX10_drift 54 = .ok (.if_icmp .ge 13, 3) := by decide +kernel
theorem dX10_drift_57 : decode cX10_drift 57 = .ok (.aload_n 0, 1) := by decide +kernel
theorem dX10_drift_58 : decode cX10_drift 58 = .ok (.invokevirtual 243, 3) := by decide +kernel
theorem dX10_drift_61 : decode cX10_drift 61 = .ok (.iinc 2 1, 3) := by decide +kernel
theorem dX10_drift_64 : decode cX10_drift 64 = .ok (.goto (-12), 3) := by decide +kernel
theorem dX10_drift_67 : decode cX10_drift 67 = .ok (.aload_n 0, 1) := by decide +kernel
theorem dX10_drift_68 : decode cX10_drift 68 = .ok (.getfield 19, 3) := by decide +kernel
theorem dX10_drift_71 : decode cX10_drift 71 = .ok (.invokevirtual 233, 3) := by decide +kernel
theorem dX10_drift_74 : decode cX10_drift 74 = .ok (.ireturn, 1) := by decide +kernel
theorem dX10_undo_0 : decode cX10_undo 0 = .ok (.aload_n 0, 1) := by decide +kernel
theorem dX10_undo_1 : decode cX10_undo 1 = .ok (.getfield 40, 3) := by decide +kernel
theorem dX10_undo_4 : decode cX10_undo 4 = .ok (.aload_n 0, 1) := by decide +kernel
theorem dX10_undo_5 : decode cX10_undo 5 = .ok (.getfield 19, 3) := by decide +kernel
theorem dX10_undo_8 : decode cX10_undo 8 = .ok (.invokevirtual 246, 3) := by decide +kernel
theorem dX10_undo_11 : decode cX10_undo 11 = .ok (.ifCond .eq 13, 3) := by decide +kernel
theorem dX10_undo_14 : decode cX10_undo 14 = .ok (.aload_n 0, 1) := by decide +kernel
theorem dX10_undo_15 : decode cX10_undo 15 = .ok (.getfield 40, 3) := by decide +kernel
theorem dX10_undo_18 : decode cX10_undo 18 = .ok (.getfield 172, 3) := by decide +kernel
theorem dX10_undo_21 : decode cX10_undo 21 = .ok (.goto 5, 3) := by decide +kernel
theorem dX10_undo_24 : decode cX10_undo 24 = .ok (.ldc 223, 2) := by decide +kernel
theorem dX10_undo_26 : decode cX10_undo 26 = .ok (.ireturn, 1) := by decide +kernel
theorem dX10_shown_0 : decode cX10_shown 0 = .ok (.iload_n 1, 1) := by decide +kernel
theorem dX10_shown_1 : decode cX10_shown 1 = .ok (.iconst 0, 1) := by decide +kernel
theorem dX10_shown_2 : decode cX10_shown 2 = .ok (.bipush 60, 2) := by decide +kernel
theorem dX10_shown_4 : decode cX10_shown 4 = .ok (.invokestatic 75, 3) := by decide +kernel
theorem dX10_shown_7 : decode cX10_shown 7 = .ok (.ifCond .ne 13, 3) := by decide +kernel
theorem dX10_shown_10 : decode cX10_shown 10 = .ok (.iload_n 2, 1) := by decide +kernel
theorem dX10_shown_11 : decode cX10_shown 11 = .ok (.iconst 0, 1) := by decide +kernel
theorem dX10_shown_12 : decode cX10_shown 12 = .ok (.bipush 9, 2) := by decide +kernel
theorem dX10_shown_14 : decode cX10_shown 14 = .ok (.invokestatic 75, 3) := by decide +kernel
theorem dX10_shown_17 : decode cX10_shown 17 = .ok (.ifCond .eq 6, 3) := by decide +kernel
theorem dX10_shown_20 : decode cX10_shown 20 = .ok (.ldc 79, 2) := by decide +kernel
theorem dX10_shown_22 : decode cX10_shown 22 = .ok (.ireturn, 1) := by decide +kernel
theorem dX10_shown_23 : decode cX10_shown 23 = .ok (.aload_n 0, 1) := by decide +kernel
theorem dX10_shown_24 : decode cX10_shown 24 = .ok (.invokevirtual 219, 3) := by decide +kernel
theorem dX10_shown_27 : decode cX10_shown 27 = .ok (.ifCond .eq 8, 3) := by decide +kernel
theorem dX10_shown_30 : decode cX10_shown 30 = .ok (.ldc 223, 2) := by decide +kernel
theorem dX10_shown_32 : decode cX10_shown 32 = .ok (.goto 20, 3) := by decide +kernel
theorem dX10_shown_35 : decode cX10_shown 35 = .ok (.aload_n 0, 1) := by decide +kernel
theorem dX10_shown_36 : decode cX10_shown 36 = .ok (.getfield 33, 3) := by decide +kernel
theorem dX10_shown_39 : decode cX10_shown 39 = .ok (.aload_n 0, 1) := by decide +kernel
theorem dX10_shown_40 : decode cX10_shown 40 = .ok (.getfield 67, 3) := by decide +kernel
theorem dX10_shown_43 : decode cX10_shown 43 = .ok (.aload_n 0, 1) := by decide +kernel
theorem dX10_shown_44 : decode cX10_shown 44 = .ok (.getfield 19, 3) := by decide +kernel
theorem dX10_shown_47 : decode cX10_shown 47 = .ok (.iload_n 1, 1) := by decide +kernel
theorem dX10_shown_48 : decode cX10_shown 48 = .ok (.iload_n 2, 1) := by decide +kernel
theorem dX10_shown_49 : decode cX10_shown 49 = .ok (.invokevirtual 250, 3) := by decide +kernel
theorem dX10_shown_52 : decode cX10_shown 52 = .ok (.ireturn, 1) := by decide +kernel
theorem dX10_first_0 : decode cX10_first 0 = .ok (.iload_n 1, 1) := by decide +kernel
theorem dX10_first_1 : decode cX10_first 1 = .ok (.iconst 0, 1) := by decide +kernel
theorem dX10_first_2 : decode cX10_first 2 = .ok (.bipush 25, 2) := by decide +kernel
theorem dX10_first_4 : decode cX10_first 4 = .ok (.invokestatic 75, 3) := by decide +kernel
theorem dX10_first_7 : decode cX10_first 7 = .ok (.ifCond .ne 13, 3) := by decide +kernel
theorem dX10_first_10 : decode cX10_first 10 = .ok (.iload_n 2, 1) := by decide +kernel
theorem dX10_first_11 : decode cX10_first 11 = .ok (.iconst 0, 1) := by decide +kernel
theorem dX10_first_12 : decode cX10_first 12 = .ok (.bipush 9, 2) := by decide +kernel
theorem dX10_first_14 : decode cX10_first 14 = .ok (.invokestatic 75, 3) := by decide +kernel
theorem dX10_first_17 : decode cX10_first 17 = .ok (.ifCond .eq 6, 3) := by decide +kernel
theorem dX10_first_20 : decode cX10_first 20 = .ok (.ldc 79, 2) := by decide +kernel
theorem dX10_first_22 : decode cX10_first 22 = .ok (.ireturn, 1) := by decide +kernel
theorem dX10_first_23 : decode cX10_first 23 = .ok (.aload_n 0, 1) := by decide +kernel
theorem dX10_first_24 : decode cX10_first 24 = .ok (.invokevirtual 219, 3) := by decide +kernel
theorem dX10_first_27 : decode cX10_first 27 = .ok (.ifCond .eq 8, 3) := by decide +kernel
theorem dX10_first_30 : decode cX10_first 30 = .ok (.ldc 223, 2) := by decide +kernel
theorem dX10_first_32 : decode cX10_first 32 = .ok (.goto 20, 3) := by decide +kernel
theorem dX10_first_35 : decode cX10_first 35 = .ok (.aload_n 0, 1) := by decide +kernel
theorem dX10_first_36 : decode cX10_first 36 = .ok (.getfield 33, 3) := by decide +kernel
theorem dX10_first_39 : decode cX10_first 39 = .ok (.aload_n 0, 1) := by decide +kernel
theorem dX10_first_40 : decode cX10_first 40 = .ok (.getfield 67, 3) := by decide +kernel
theorem dX10_first_43 : decode cX10_first 43 = .ok (.aload_n 0, 1) := by decide +kernel
theorem dX10_first_44 : decode cX10_first 44 = .ok (.getfield 19, 3) := by decide +kernel
theorem dX10_first_47 : decode cX10_first 47 = .ok (.iload_n 1, 1) := by decide +kernel
theorem dX10_first_48 : decode cX10_first 48 = .ok (.iload_n 2, 1) := by decide +kernel
theorem dX10_first_49 : decode cX10_first 49 = .ok (.invokevirtual 254, 3) := by decide +kernel
theorem dX10_first_52 : decode cX10_first 52 = .ok (.ireturn, 1) := by decide +kernel
theorem dX10_leadTo_0 : decode cX10_leadTo 0 = .ok (.aload_n 0, 1) := by decide +kernel
theorem dX10_leadTo_1 : decode cX10_leadTo 1 = .ok (.getfield 67, 3) := by decide +kernel
theorem dX10_leadTo_4 : decode cX10_leadTo 4 = .ok (.iload_n 1, 1) := by decide +kernel
theorem dX10_leadTo_5 : decode cX10_leadTo 5 = .ok (.invokevirtual 186, 3) := by decide +kernel
theorem dX10_leadTo_8 : decode cX10_leadTo 8 = .ok (.ifCond .eq 14, 3) := by decide +kernel
theorem dX10_leadTo_11 : decode cX10_leadTo 11 = .ok (.aload_n 0, 1) := by decide +kernel
theorem dX10_leadTo_12 : decode cX10_leadTo 12 = .ok (.getfield 67, 3) := by decide +kernel
theorem dX10_leadTo_15 : decode cX10_leadTo 15 = .ok (.iload_n 2, 1) := by decide +kernel
theorem dX10_leadTo_16 : decode cX10_leadTo 16 = .ok (.invokevirtual 204, 3) := by decide +kernel
theorem dX10_leadTo_19 : decode cX10_leadTo 19 = .ok (.ifCond .ne 6, 3) := by decide +kernel
theorem dX10_leadTo_22 : decode cX10_leadTo 22 = .ok (.ldc 185, 2) := by decide +kernel
theorem dX10_leadTo_24 : decode cX10_leadTo 24 = .ok (.ireturn, 1) := by decide +kernel
theorem dX10_leadTo_25 : decode cX10_leadTo 25 = .ok (.iload_n 3, 1) := by decide +kernel
theorem dX10_leadTo_26 : decode cX10_leadTo 26 = .ok (.iconst 1, 1) := by decide +kernel
theorem dX10_leadTo_27 : decode cX10_leadTo 27 = .ok (.bipush 20, 2) := by decide +kernel
theorem dX10_leadTo_29 : decode cX10_leadTo 29 = .ok (.invokestatic 75, 3) := by decide +kernel
theorem dX10_leadTo_32 : decode cX10_leadTo 32 = .ok (.ifCond .ne 24, 3) := by decide +kernel
theorem dX10_leadTo_35 : decode cX10_leadTo 35 = .ok (.iload 4, 2) := by decide +kernel
theorem dX10_leadTo_37 : decode cX10_leadTo 37 = .ok (.iconst 0, 1) := by decide +kernel
theorem dX10_leadTo_38 : decode cX10_leadTo 38 = .ok (.bipush 9, 2) := by decide +kernel
theorem dX10_leadTo_40 : decode cX10_leadTo 40 = .ok (.invokestatic 75, 3) := by decide +kernel
theorem dX10_leadTo_43 : decode cX10_leadTo 43 = .ok (.ifCond .ne 13, 3) := by decide +kernel
theorem dX10_leadTo_46 : decode cX10_leadTo 46 = .ok (.iload 5, 2) := by decide +kernel
theorem dX10_leadTo_48 : decode cX10_leadTo 48 = .ok (.iconst 0, 1) := by decide +kernel
theorem dX10_leadTo_49 : decode cX10_leadTo 49 = .ok (.iconst 1, 1) := by decide +kernel
theorem dX10_leadTo_50 : decode cX10_leadTo 50 = .ok (.invokestatic 75, 3) := by decide +kernel
theorem dX10_leadTo_53 : decode cX10_leadTo 53 = .ok (.ifCond .eq 6, 3) := by decide +kernel
theorem dX10_leadTo_56 : decode cX10_leadTo 56 = .ok (.ldc 79, 2) := by decide +kernel
theorem dX10_leadTo_58 : decode cX10_leadTo 58 = .ok (.ireturn, 1) := by decide +kernel
theorem dX10_leadTo_59 : decode cX10_leadTo 59 = .ok (.aload_n 0, 1) := by decide +kernel
theorem dX10_leadTo_60 : decode cX10_leadTo 60 = .ok (.getfield 33, 3) := by decide +kernel
theorem dX10_leadTo_63 : decode cX10_leadTo 63 = .ok (.aload_n 0, 1) := by decide +kernel
theorem dX10_leadTo_64 : decode cX10_leadTo 64 = .ok (.getfield 67, 3) := by decide +kernel
theorem dX10_leadTo_67 : decode cX10_leadTo 67 = .ok (.aload_n 0, 1) := by decide +kernel
theorem dX10_leadTo_68 : decode cX10_leadTo 68 = .ok (.getfield 19, 3) := by decide +kernel
theorem dX10_leadTo_71 : decode cX10_leadTo 71 = .ok (.iload_n 1, 1) := by decide +kernel
theorem dX10_leadTo_72 : decode cX10_leadTo 72 = .ok (.aload_n 0, 1) := by decide +kernel
theorem dX10_leadTo_73 : decode cX10_leadTo 73 = .ok (.getfield 67, 3) := by decide +kernel
theorem dX10_leadTo_76 : decode cX10_leadTo 76 = .ok (.getfield 207, 3) := by decide +kernel
theorem dX10_leadTo_79 : decode cX10_leadTo 79 = .ok (.iload_n 2, 1) := by decide +kernel
theorem dX10_leadTo_80 : decode cX10_leadTo 80 = .ok (.invokestatic 181, 3) := by decide +kernel
theorem dX10_leadTo_83 : decode cX10_leadTo 83 = .ok (.iload_n 3, 1) := by decide +kernel
theorem dX10_leadTo_84 : decode cX10_leadTo 84 = .ok (.iload 4, 2) := by decide +kernel
theorem dX10_leadTo_86 : decode cX10_leadTo 86 = .ok (.invokevirtual 257, 3) := by decide +kernel
theorem dX10_leadTo_89 : decode cX10_leadTo 89 = .ok (.iload 5, 2) := by decide +kernel
theorem dX10_leadTo_91 : decode cX10_leadTo 91 = .ok (.ifCond .ne 13, 3) := by decide +kernel
theorem dX10_leadTo_94 : decode cX10_leadTo 94 = .ok (.aload_n 0, 1) := by decide +kernel
theorem dX10_leadTo_95 : decode cX10_leadTo 95 = .ok (.getfield 33, 3) := by decide +kernel
theorem dX10_leadTo_98 : decode cX10_leadTo 98 = .ok (.getfield 261, 3) := by decide +kernel
theorem dX10_leadTo_101 : decode cX10_leadTo 101 = .ok (.goto 10, 3) := by decide +kernel
theorem dX10_leadTo_104 : decode cX10_leadTo 104 = .ok (.aload_n 0, 1) := by decide +kernel
theorem dX10_leadTo_105 : decode cX10_leadTo 105 = .ok (.getfield 33, 3) := by decide +kernel
theorem dX10_leadTo_108 : decode cX10_leadTo 108 = .ok (.getfield 264, 3) := by decide +kernel
theorem dX10_leadTo_111 : decode cX10_leadTo 111 = .ok (.ireturn, 1) := by decide +kernel
theorem dX10_often_0 : decode cX10_often 0 = .ok (.iload_n 1, 1) := by decide +kernel
theorem dX10_often_1 : decode cX10_often 1 = .ok (.iconst 1, 1) := by decide +kernel
theorem dX10_often_2 : decode cX10_often 2 = .ok (.bipush 8, 2) := by decide +kernel
theorem dX10_often_4 : decode cX10_often 4 = .ok (.invokestatic 75, 3) := by decide +kernel
theorem dX10_often_7 : decode cX10_often 7 = .ok (.ifCond .ne 33, 3) := by decide +kernel
theorem dX10_often_10 : decode cX10_often 10 = .ok (.iload_n 2, 1) := by decide +kernel
theorem dX10_often_11 : decode cX10_often 11 = .ok (.iconst 0, 1) := by decide +kernel
theorem dX10_often_12 : decode cX10_often 12 = .ok (.bipush 9, 2) := by decide +kernel
theorem dX10_often_14 : decode cX10_often 14 = .ok (.invokestatic 75, 3) := by decide +kernel
theorem dX10_often_17 : decode cX10_often 17 = .ok (.ifCond .ne 23, 3) := by decide +kernel
theorem dX10_often_20 : decode cX10_often 20 = .ok (.iload_n 3, 1) := by decide +kernel
theorem dX10_often_21 : decode cX10_often 21 = .ok (.iconst 0, 1) := by decide +kernel
theorem dX10_often_22 : decode cX10_often 22 = .ok (.bipush 25, 2) := by decide +kernel
theorem dX10_often_24 : decode cX10_often 24 = .ok (.invokestatic 75, 3) := by decide +kernel
theorem dX10_often_27 : decode cX10_often 27 = .ok (.ifCond .ne 13, 3) := by decide +kernel
theorem dX10_often_30 : decode cX10_often 30 = .ok (.iload 4, 2) := by decide +kernel
theorem dX10_often_32 : decode cX10_often 32 = .ok (.iconst 0, 1) := by decide +kernel
theorem dX10_often_33 : decode cX10_often 33 = .ok (.iconst 1, 1) := by decide +kernel
theorem dX10_often_34 : decode cX10_often 34 = .ok (.invokestatic 75, 3) := by decide +kernel
theorem dX10_often_37 : decode cX10_often 37 = .ok (.ifCond .eq 6, 3) := by decide +kernel
theorem dX10_often_40 : decode cX10_often 40 = .ok (.ldc 79, 2) := by decide +kernel
theorem dX10_often_42 : decode cX10_often 42 = .ok (.ireturn, 1) := by decide +kernel
theorem dX10_often_43 : decode cX10_often 43 = .ok (.aload_n 0, 1) := by decide +kernel
theorem dX10_often_44 : decode cX10_often 44 = .ok (.invokevirtual 219, 3) := by decide +kernel
theorem dX10_often_47 : decode cX10_often 47 = .ok (.ifCond .eq 6, 3) := by decide +kernel
theorem dX10_often_50 : decode cX10_often 50 = .ok (.ldc 223, 2) := by decide +kernel
theorem dX10_often_52 : decode cX10_often 52 = .ok (.ireturn, 1) := by decide +kernel
theorem dX10_often_53 : decode cX10_often 53 = .ok (.aload_n 0, 1) := by decide +kernel
theorem dX10_often_54 : decode cX10_often 54 = .ok (.getfield 33, 3) := by decide +kernel
theorem dX10_often_57 : decode cX10_often 57 = .ok (.aload_n 0, 1) := by decide +kernel
theorem dX10_often_58 : decode cX10_often 58 = .ok (.getfield 67, 3) := by decide +kernel
theorem dX10_often_61 : decode cX10_often 61 = .ok (.aload_n 0, 1) := by decide +kernel
theorem dX10_often_62 : decode cX10_often 62 = .ok (.getfield 19, 3) := by decide +kernel
theorem dX10_often_65 : decode cX10_often 65 = .ok (.iload_n 1, 1) := by decide +kernel
theorem dX10_often_66 : decode cX10_often 66 = .ok (.iload_n 2, 1) := by decide +kernel
theorem dX10_often_67 : decode cX10_often 67 = .ok (.iload_n 3, 1) := by decide +kernel
theorem dX10_often_68 : decode cX10_often 68 = .ok (.invokevirtual 267, 3) := by decide +kernel
theorem dX10_often_71 : decode cX10_often 71 = .ok (.iload 4, 2) := by decide +kernel
theorem dX10_often_73 : decode cX10_often 73 = .ok (.ifCond .ne 13, 3) := by decide +kernel
theorem dX10_often_76 : decode cX10_often 76 = .ok (.aload_n 0, 1) := by decide +kernel
theorem dX10_often_77 : decode cX10_often 77 = .ok (.getfield 33, 3) := by decide +kernel
theorem dX10_often_80 : decode cX10_often 80 = .ok (.getfield 264, 3) := by decide +kernel
theorem dX10_often_83 : decode cX10_often 83 = .ok (.goto 10, 3) := by decide +kernel
theorem dX10_often_86 : decode cX10_often 86 = .ok (.aload_n 0, 1) := by decide +kernel
theorem dX10_often_87 : decode cX10_often 87 = .ok (.getfield 33, 3) := by decide +kernel
theorem dX10_often_90 : decode cX10_often 90 = .ok (.getfield 261, 3) := by decide +kernel
theorem dX10_often_93 : decode cX10_often 93 = .ok (.ireturn, 1) := by decide +kernel
theorem dX10_wasRain_0 : decode cX10_wasRain 0 = .ok (.iload_n 1, 1) := by decide +kernel
theorem dX10_wasRain_1 : decode cX10_wasRain 1 = .ok (.aload_n 0, 1) := by decide +kernel
theorem dX10_wasRain_2 : decode cX10_wasRain 2 = .ok (.getfield 67, 3) := by decide +kernel
theorem dX10_wasRain_5 : decode cX10_wasRain 5 = .ok (.getfield 271, 3) := by decide +kernel
theorem dX10_wasRain_8 : decode cX10_wasRain 8 = .ok (.iconst (-1), 1) := by decide +kernel
theorem dX10_wasRain_9 : decode cX10_wasRain 9 = .ok (.ixor, 1) := by decide +kernel
theorem dX10_wasRain_10 : decode cX10_wasRain 10 = .ok (.iand, 1) := by decide +kernel
theorem dX10_wasRain_11 : decode cX10_wasRain 11 = .ok (.ifCond .eq 6, 3) := by decide +kernel
theorem dX10_wasRain_14 : decode cX10_wasRain 14 = .ok (.ldc 185, 2) := by decide +kernel
theorem dX10_wasRain_16 : decode cX10_wasRain 16 = .ok (.ireturn, 1) := by decide +kernel
theorem dX10_wasRain_17 : decode cX10_wasRain 17 = .ok (.aload_n 0, 1) := by decide +kernel
theorem dX10_wasRain_18 : decode cX10_wasRain 18 = .ok (.invokevirtual 219, 3) := by decide +kernel
theorem dX10_wasRain_21 : decode cX10_wasRain 21 = .ok (.ifCond .eq 8, 3) := by decide +kernel
theorem dX10_wasRain_24 : decode cX10_wasRain 24 = .ok (.ldc 223, 2) := by decide +kernel
theorem dX10_wasRain_26 : decode cX10_wasRain 26 = .ok (.goto 19, 3) := by decide +kernel
theorem dX10_wasRain_29 : decode cX10_wasRain 29 = .ok (.aload_n 0, 1) := by decide +kernel
theorem dX10_wasRain_30 : decode cX10_wasRain 30 = .ok (.getfield 33, 3) := by decide +kernel
theorem dX10_wasRain_33 : decode cX10_wasRain 33 = .ok (.aload_n 0, 1) := by decide +kernel
theorem dX10_wasRain_34 : decode cX10_wasRain 34 = .ok (.getfield 67, 3) := by decide +kernel
theorem dX10_wasRain_37 : decode cX10_wasRain 37 = .ok (.aload_n 0, 1) := by decide +kernel
theorem dX10_wasRain_38 : decode cX10_wasRain 38 = .ok (.getfield 19, 3) := by decide +kernel
theorem dX10_wasRain_41 : decode cX10_wasRain 41 = .ok (.iload_n 1, 1) := by decide +kernel
theorem dX10_wasRain_42 : decode cX10_wasRain 42 = .ok (.invokevirtual 274, 3) := by decide +kernel
theorem dX10_wasRain_45 : decode cX10_wasRain 45 = .ok (.ireturn, 1) := by decide +kernel
theorem dX10_rainToTell_0 : decode cX10_rainToTell 0 = .ok (.iload_n 1, 1) := by decide +kernel
theorem dX10_rainToTell_1 : decode cX10_rainToTell 1 = .ok (.iconst 0, 1) := by decide +kernel
theorem dX10_rainToTell_2 : decode cX10_rainToTell 2 = .ok (.iconst 1, 1) := by decide +kernel
theorem dX10_rainToTell_3 : decode cX10_rainToTell 3 = .ok (.invokestatic 75, 3) := by decide +kernel
theorem dX10_rainToTell_6 : decode cX10_rainToTell 6 = .ok (.ifCond .eq 6, 3) := by decide +kernel
theorem dX10_rainToTell_9 : decode cX10_rainToTell 9 = .ok (.ldc 79, 2) := by decide +kernel
theorem dX10_rainToTell_11 : decode cX10_rainToTell 11 = .ok (.ireturn, 1) := by decide +kernel
theorem dX10_rainToTell_12 : decode cX10_rainToTell 12 = .ok (.aload_n 0, 1) := by decide +kernel
theorem dX10_rainToTell_13 : decode cX10_rainToTell 13 = .ok (.invokevirtual 219, 3) := by decide +kernel
theorem dX10_rainToTell_16 : decode cX10_rainToTell 16 = .ok (.ifCond .eq 6, 3) := by decide +kernel
theorem dX10_rainToTell_19 : decode cX10_rainToTell 19 = .ok (.ldc 223, 2) := by decide +kernel
theorem dX10_rainToTell_21 : decode cX10_rainToTell 21 = .ok (.ireturn, 1) := by decide +kernel
theorem dX10_rainToTell_22 : decode cX10_rainToTell 22 = .ok (.aload_n 0, 1) := by decide +kernel
theorem dX10_rainToTell_23 : decode cX10_rainToTell 23 = .ok (.getfield 33, 3) := by decide +kernel
theorem dX10_rainToTell_26 : decode cX10_rainToTell 26 = .ok (.aload_n 0, 1) := by decide +kernel
theorem dX10_rainToTell_27 : decode cX10_rainToTell 27 = .ok (.getfield 67, 3) := by decide +kernel
theorem dX10_rainToTell_30 : decode cX10_rainToTell 30 = .ok (.aload_n 0, 1) := by decide +kernel
theorem dX10_rainToTell_31 : decode cX10_rainToTell 31 = .ok (.getfield 19, 3) := by decide +kernel
theorem dX10_rainToTell_34 : decode cX10_rainToTell 34 = .ok (.invokevirtual 278, 3) := by decide +kernel
theorem dX10_rainToTell_37 : decode cX10_rainToTell 37 = .ok (.iload_n 1, 1) := by decide +kernel
theorem dX10_rainToTell_38 : decode cX10_rainToTell 38 = .ok (.ifCond .ne 13, 3) := by decide +kernel
theorem dX10_rainToTell_41 : decode cX10_rainToTell 41 = .ok (.aload_n 0, 1) := by decide +kernel
theorem dX10_rainToTell_42 : decode cX10_rainToTell 42 = .ok (.getfield 33, 3) := by decide +kernel
theorem dX10_rainToTell_45 : decode cX10_rainToTell 45 = .ok (.getfield 261, 3) := by decide +kernel
theorem dX10_rainToTell_48 : decode cX10_rainToTell 48 = .ok (.goto 10, 3) := by decide +kernel
theorem dX10_rainToTell_51 : decode cX10_rainToTell 51 = .ok (.aload_n 0, 1) := by decide +kernel
theorem dX10_rainToTell_52 : decode cX10_rainToTell 52 = .ok (.getfield 33, 3) := by decide +kernel
theorem dX10_rainToTell_55 : decode cX10_rainToTell 55 = .ok (.getfield 264, 3) := by decide +kernel
theorem dX10_rainToTell_58 : decode cX10_rainToTell 58 = .ok (.ireturn, 1) := by decide +kernel
theorem dX10_dryIn_0 : decode cX10_dryIn 0 = .ok (.aload_n 0, 1) := by decide +kernel
theorem dX10_dryIn_1 : decode cX10_dryIn 1 = .ok (.invokevirtual 219, 3) := by decide +kernel
theorem dX10_dryIn_4 : decode cX10_dryIn 4 = .ok (.ifCond .eq 8, 3) := by decide +kernel
theorem dX10_dryIn_7 : decode cX10_dryIn 7 = .ok (.ldc 223, 2) := by decide +kernel
theorem dX10_dryIn_9 : decode cX10_dryIn 9 = .ok (.goto 18, 3) := by decide +kernel
theorem dX10_dryIn_12 : decode cX10_dryIn 12 = .ok (.aload_n 0, 1) := by decide +kernel
theorem dX10_dryIn_13 : decode cX10_dryIn 13 = .ok (.getfield 33, 3) := by decide +kernel
theorem dX10_dryIn_16 : decode cX10_dryIn 16 = .ok (.aload_n 0, 1) := by decide +kernel
theorem dX10_dryIn_17 : decode cX10_dryIn 17 = .ok (.getfield 67, 3) := by decide +kernel
theorem dX10_dryIn_20 : decode cX10_dryIn 20 = .ok (.aload_n 0, 1) := by decide +kernel
theorem dX10_dryIn_21 : decode cX10_dryIn 21 = .ok (.getfield 19, 3) := by decide +kernel
theorem dX10_dryIn_24 : decode cX10_dryIn 24 = .ok (.invokevirtual 282, 3) := by decide +kernel
theorem dX10_dryIn_27 : decode cX10_dryIn 27 = .ok (.ireturn, 1) := by decide +kernel
theorem dX10_either_0 : decode cX10_either 0 = .ok (.aload_n 0, 1) := by decide +kernel
theorem dX10_either_1 : decode cX10_either 1 = .ok (.getfield 67, 3) := by decide +kernel
theorem dX10_either_4 : decode cX10_either 4 = .ok (.iload_n 1, 1) := by decide +kernel
theorem dX10_either_5 : decode cX10_either 5 = .ok (.invokevirtual 204, 3) := by decide +kernel
theorem dX10_either_8 : decode cX10_either 8 = .ok (.ifCond .eq 14, 3) := by decide +kernel
theorem dX10_either_11 : decode cX10_either 11 = .ok (.aload_n 0, 1) := by decide +kernel
theorem dX10_either_12 : decode cX10_either 12 = .ok (.getfield 67, 3) := by decide +kernel
theorem dX10_either_15 : decode cX10_either 15 = .ok (.iload_n 2, 1) := by decide +kernel
theorem dX10_either_16 : decode cX10_either 16 = .ok (.invokevirtual 204, 3) := by decide +kernel
theorem dX10_either_19 : decode cX10_either 19 = .ok (.ifCond .ne 6, 3) := by decide +kernel
theorem dX10_either_22 : decode cX10_either 22 = .ok (.ldc 185, 2) := by decide +kernel
theorem dX10_either_24 : decode cX10_either 24 = .ok (.ireturn, 1) := by decide +kernel
theorem dX10_either_25 : decode cX10_either 25 = .ok (.aload_n 0, 1) := by decide +kernel
theorem dX10_either_26 : decode cX10_either 26 = .ok (.getfield 67, 3) := by decide +kernel
theorem dX10_either_29 : decode cX10_either 29 = .ok (.getfield 207, 3) := by decide +kernel
theorem dX10_either_32 : decode cX10_either 32 = .ok (.iload_n 1, 1) := by decide +kernel
theorem dX10_either_33 : decode cX10_either 33 = .ok (.invokestatic 181, 3) := by decide +kernel
theorem dX10_either_36 : decode cX10_either 36 = .ok (.istore 4, 2) := by decide +kernel
theorem dX10_either_38 : decode cX10_either 38 = .ok (.iload 4, 2) := by decide +kernel
theorem dX10_either_40 : decode cX10_either 40 = .ok (.aload_n 0, 1) := by decide +kernel
theorem dX10_either_41 : decode cX10_either 41 = .ok (.getfield 67, 3) := by decide +kernel
theorem dX10_either_44 : decode cX10_either 44 = .ok (.getfield 207, 3) := by decide +kernel
theorem dX10_either_47 : decode cX10_either 47 = .ok (.iload_n 2, 1) := by decide +kernel
theorem dX10_either_48 : decode cX10_either 48 = .ok (.invokestatic 181, 3) := by decide +kernel
theorem dX10_either_51 : decode cX10_either 51 = .ok (.ixor, 1) := by decide +kernel
theorem dX10_either_52 : decode cX10_either 52 = .ok (.istore 5, 2) := by decide +kernel
theorem dX10_either_54 : decode cX10_either 54 = .ok (.iload_n 3, 1) := by decide +kernel
theorem dX10_either_55 : decode cX10_either 55 = .ok (.lookupswitch 47 #[(0, 25), (1, 28)], 25) := by decide +kernel
theorem dX10_either_80 : decode cX10_either 80 = .ok (.iload 5, 2) := by decide +kernel
theorem dX10_either_82 : decode cX10_either 82 = .ok (.ireturn, 1) := by decide +kernel
theorem dX10_either_83 : decode cX10_either 83 = .ok (.iload 5, 2) := by decide +kernel
theorem dX10_either_85 : decode cX10_either 85 = .ok (.aload_n 0, 1) := by decide +kernel
theorem dX10_either_86 : decode cX10_either 86 = .ok (.getfield 19, 3) := by decide +kernel
theorem dX10_either_89 : decode cX10_either 89 = .ok (.invokevirtual 135, 3) := by decide +kernel
theorem dX10_either_92 : decode cX10_either 92 = .ok (.iload 4, 2) := by decide +kernel
theorem dX10_either_94 : decode cX10_either 94 = .ok (.ixor, 1) := by decide +kernel
theorem dX10_either_95 : decode cX10_either 95 = .ok (.iconst (-1), 1) := by decide +kernel
theorem dX10_either_96 : decode cX10_either 96 = .ok (.ixor, 1) := by decide +kernel
theorem dX10_either_97 : decode cX10_either 97 = .ok (.iand, 1) := by decide +kernel
theorem dX10_either_98 : decode cX10_either 98 = .ok (.invokestatic 214, 3) := by decide +kernel
theorem dX10_either_101 : decode cX10_either 101 = .ok (.ireturn, 1) := by decide +kernel
theorem dX10_either_102 : decode cX10_either 102 = .ok (.ldc 79, 2) := by decide +kernel
theorem dX10_either_104 : decode cX10_either 104 = .ok (.ireturn, 1) := by decide +kernel
theorem dX10_rainy_0 : decode cX10_rainy 0 = .ok (.iload_n 1, 1) := by decide +kernel
theorem dX10_rainy_1 : decode cX10_rainy 1 = .ok (.iconst 0, 1) := by decide +kernel
theorem dX10_rainy_2 : decode cX10_rainy 2 = .ok (.bipush 60, 2) := by decide +kernel
theorem dX10_rainy_4 : decode cX10_rainy 4 = .ok (.invokestatic 75, 3) := by decide +kernel
theorem dX10_rainy_7 : decode cX10_rainy 7 = .ok (.ifCond .ne 13, 3) := by decide +kernel
theorem dX10_rainy_10 : decode cX10_rainy 10 = .ok (.iload_n 2, 1) := by decide +kernel
theorem dX10_rainy_11 : decode cX10_rainy 11 = .ok (.iconst 0, 1) := by decide +kernel
theorem dX10_rainy_12 : decode cX10_rainy 12 = .ok (.bipush 100, 2) := by decide +kernel
theorem dX10_rainy_14 : decode cX10_rainy 14 = .ok (.invokestatic 75, 3) := by decide +kernel
theorem dX10_rainy_17 : decode cX10_rainy 17 = .ok (.ifCond .eq 6, 3) := by decide +kernel
theorem dX10_rainy_20 : decode cX10_rainy 20 = .ok (.ldc 79, 2) := by decide +kernel
theorem dX10_rainy_22 : decode cX10_rainy 22 = .ok (.ireturn, 1) := by decide +kernel
theorem dX10_rainy_23 : decode cX10_rainy 23 = .ok (.ldc2_w 286, 3) := by decide +kernel
theorem dX10_rainy_26 : decode cX10_rainy 26 = .ok (.lstore_n 3, 1) := by decide +kernel
theorem dX10_rainy_27 : decode cX10_rainy 27 = .ok (.iconst 0, 1) := by decide +kernel
theorem dX10_rainy_28 : decode cX10_rainy 28 = .ok (.istore 5, 2) := by decide +kernel
theorem dX10_rainy_30 : decode cX10_rainy 30 = .ok (.iload 5, 2) := by decide +kernel
theorem dX10_rainy_32 : decode cX10_rainy 32 = .ok (.iload_n 1, 1) := by decide +kernel
theorem dX10_rainy_33 : decode cX10_rainy 33 = .ok (.if_icmp .ge 18, 3) := by decide +kernel
theorem dX10_rainy_36 : decode cX10_rainy 36 = .ok (.lload_n 3, 1) := by decide +kernel
theorem dX10_rainy_37 : decode cX10_rainy 37 = .ok (.iload_n 2, 1) := by decide +kernel
theorem dX10_rainy_38 : decode cX10_rainy 38 = .ok (.i2l, 1) := by decide +kernel
theorem dX10_rainy_39 : decode cX10_rainy 39 = .ok (.lmul, 1) := by decide +kernel
theorem dX10_rainy_40 : decode cX10_rainy 40 = .ok (.ldc2_w 288, 3) := by decide +kernel
theorem dX10_rainy_43 : decode cX10_rainy 43 = .ok (.ldiv, 1) := by decide +kernel
theorem dX10_rainy_44 : decode cX10_rainy 44 = .ok (.lstore_n 3, 1) := by decide +kernel
theorem dX10_rainy_45 : decode cX10_rainy 45 = .ok (.iinc 5 1, 3) := by decide +kernel
theorem dX10_rainy_48 : decode cX10_rainy 48 = .ok (.goto (-18), 3) := by decide +kernel
theorem dX10_rainy_51 : decode cX10_rainy 51 = .ok (.lload_n 3, 1) := by decide +kernel
theorem dX10_rainy_52 : decode cX10_rainy 52 = .ok (.l2i, 1) := by decide +kernel
theorem dX10_rainy_53 : decode cX10_rainy 53 = .ok (.ireturn, 1) := by decide +kernel
theorem dX10_write_0 : decode cX10_write 0 = .ok (.aload_n 0, 1) := by decide +kernel
theorem dX10_write_1 : decode cX10_write 1 = .ok (.getfield 67, 3) := by decide +kernel
theorem dX10_write_4 : decode cX10_write 4 = .ok (.iload_n 1, 1) := by decide +kernel
theorem dX10_write_5 : decode cX10_write 5 = .ok (.invokevirtual 173, 3) := by decide +kernel
theorem dX10_write_8 : decode cX10_write 8 = .ok (.ifCond .ne 6, 3) := by decide +kernel
theorem dX10_write_11 : decode cX10_write 11 = .ok (.ldc 185, 2) := by decide +kernel
theorem dX10_write_13 : decode cX10_write 13 = .ok (.ireturn, 1) := by decide +kernel
theorem dX10_write_14 : decode cX10_write 14 = .ok (.iload_n 2, 1) := by decide +kernel
theorem dX10_write_15 : decode cX10_write 15 = .ok (.iconst 0, 1) := by decide +kernel
theorem dX10_write_16 : decode cX10_write 16 = .ok (.bipush 9, 2) := by decide +kernel
theorem dX10_write_18 : decode cX10_write 18 = .ok (.invokestatic 75, 3) := by decide +kernel
theorem dX10_write_21 : decode cX10_write 21 = .ok (.ifCond .eq 8, 3) := by decide +kernel
theorem dX10_write_24 : decode cX10_write 24 = .ok (.ldc 79, 2) := by decide +kernel
theorem dX10_write_26 : decode cX10_write 26 = .ok (.goto 12, 3) := by decide +kernel
theorem dX10_write_29 : decode cX10_write 29 = .ok (.aload_n 0, 1) := by decide +kernel
theorem dX10_write_30 : decode cX10_write 30 = .ok (.getfield 47, 3) := by decide +kernel
theorem dX10_write_33 : decode cX10_write 33 = .ok (.iload_n 1, 1) := by decide +kernel
theorem dX10_write_34 : decode cX10_write 34 = .ok (.iload_n 2, 1) := by decide +kernel
theorem dX10_write_35 : decode cX10_write 35 = .ok (.invokevirtual 290, 3) := by decide +kernel
theorem dX10_write_38 : decode cX10_write 38 = .ok (.ireturn, 1) := by decide +kernel
theorem dX10_tear_0 : decode cX10_tear 0 = .ok (.aload_n 0, 1) := by decide +kernel
theorem dX10_tear_1 : decode cX10_tear 1 = .ok (.getfield 47, 3) := by decide +kernel
theorem dX10_tear_4 : decode cX10_tear 4 = .ok (.getfield 171, 3) := by decide +kernel
theorem dX10_tear_7 : decode cX10_tear 7 = .ok (.istore_n 1, 1) := by decide +kernel
theorem dX10_tear_8 : decode cX10_tear 8 = .ok (.aload_n 0, 1) := by decide +kernel
theorem dX10_tear_9 : decode cX10_tear 9 = .ok (.getfield 47, 3) := by decide +kernel
theorem dX10_tear_12 : decode cX10_tear 12 = .ok (.invokevirtual 96, 3) := by decide +kernel
theorem dX10_tear_15 : decode cX10_tear 15 = .ok (.iload_n 1, 1) := by decide +kernel
theorem dX10_tear_16 : decode cX10_tear 16 = .ok (.ireturn, 1) := by decide +kernel
theorem dX10_judge_0 : decode cX10_judge 0 = .ok (.aload_n 0, 1) := by decide +kernel
theorem dX10_judge_1 : decode cX10_judge 1 = .ok (.getfield 47, 3) := by decide +kernel
theorem dX10_judge_4 : decode cX10_judge 4 = .ok (.aload_n 0, 1) := by decide +kernel
theorem dX10_judge_5 : decode cX10_judge 5 = .ok (.getfield 19, 3) := by decide +kernel
theorem dX10_judge_8 : decode cX10_judge 8 = .ok (.invokevirtual 293, 3) := by decide +kernel
theorem dX10_judge_11 : decode cX10_judge 11 = .ok (.ireturn, 1) := by decide +kernel
theorem dX10_seed_0 : decode cX10_seed 0 = .ok (.iload_n 1, 1) := by decide +kernel
theorem dX10_seed_1 : decode cX10_seed 1 = .ok (.ifCond .ge 6, 3) := by decide +kernel
theorem dX10_seed_4 : decode cX10_seed 4 = .ok (.ldc 79, 2) := by decide +kernel
theorem dX10_seed_6 : decode cX10_seed 6 = .ok (.ireturn, 1) := by decide +kernel
theorem dX10_seed_7 : decode cX10_seed 7 = .ok (.aload_n 0, 1) := by decide +kernel
theorem dX10_seed_8 : decode cX10_seed 8 = .ok (.getfield 54, 3) := by decide +kernel
theorem dX10_seed_11 : decode cX10_seed 11 = .ok (.getfield 297, 3) := by decide +kernel
theorem dX10_seed_14 : decode cX10_seed 14 = .ok (.istore_n 2, 1) := by decide +kernel
theorem dX10_seed_15 : decode cX10_seed 15 = .ok (.aload_n 0, 1) := by decide +kernel
theorem dX10_seed_16 : decode cX10_seed 16 = .ok (.getfield 54, 3) := by decide +kernel
theorem dX10_seed_19 : decode cX10_seed 19 = .ok (.iload_n 1, 1) := by decide +kernel
theorem dX10_seed_20 : decode cX10_seed 20 = .ok (.putfield 297, 3) := by decide +kernel
theorem dX10_seed_23 : decode cX10_seed 23 = .ok (.iload_n 2, 1) := by decide +kernel
theorem dX10_seed_24 : decode cX10_seed 24 = .ok (.ireturn, 1) := by decide +kernel
theorem dX10_keep_0 : decode cX10_keep 0 = .ok (.iload_n 1, 1) := by decide +kernel
theorem dX10_keep_1 : decode cX10_keep 1 = .ok (.iconst 0, 1) := by decide +kernel
theorem dX10_keep_2 : decode cX10_keep 2 = .ok (.aload_n 0, 1) := by decide +kernel
theorem dX10_keep_3 : decode cX10_keep 3 = .ok (.getfield 60, 3) := by decide +kernel
theorem dX10_keep_6 : decode cX10_keep 6 = .ok (.arraylength, 1) := by decide +kernel
theorem dX10_keep_7 : decode cX10_keep 7 = .ok (.iconst 1, 1) := by decide +kernel
theorem dX10_keep_8 : decode cX10_keep 8 = .ok (.isub, 1) := by decide +kernel
theorem dX10_keep_9 : decode cX10_keep 9 = .ok (.invokestatic 75, 3) := by decide +kernel
theorem dX10_keep_12 : decode cX10_keep 12 = .ok (.ifCond .eq 6, 3) := by decide +kernel
theorem dX10_keep_15 : decode cX10_keep 15 = .ok (.ldc 185, 2) := by decide +kernel
theorem dX10_keep_17 : decode cX10_keep 17 = .ok (.ireturn, 1) := by decide +kernel
theorem dX10_keep_18 : decode cX10_keep 18 = .ok (.aload_n 0, 1) := by decide +kernel
theorem dX10_keep_19 : decode cX10_keep 19 = .ok (.getfield 60, 3) := by decide +kernel
theorem dX10_keep_22 : decode cX10_keep 22 = .ok (.iload_n 1, 1) := by decide +kernel
theorem dX10_keep_23 : decode cX10_keep 23 = .ok (.aaload, 1) := by decide +kernel
theorem dX10_keep_24 : decode cX10_keep 24 = .ok (.astore_n 2, 1) := by decide +kernel
theorem dX10_keep_25 : decode cX10_keep 25 = .ok (.aload_n 2, 1) := by decide +kernel
theorem dX10_keep_26 : decode cX10_keep 26 = .ok (.getfield 300, 3) := by decide +kernel
theorem dX10_keep_29 : decode cX10_keep 29 = .ok (.aload_n 0, 1) := by decide +kernel
theorem dX10_keep_30 : decode cX10_keep 30 = .ok (.getfield 19, 3) := by decide +kernel
theorem dX10_keep_33 : decode cX10_keep 33 = .ok (.invokevirtual 303, 3) := by decide +kernel
theorem dX10_keep_36 : decode cX10_keep 36 = .ok (.aload_n 2, 1) := by decide +kernel
theorem dX10_keep_37 : decode cX10_keep 37 = .ok (.aload_n 0, 1) := by decide +kernel
theorem dX10_keep_38 : decode cX10_keep 38 = .ok (.getfield 54, 3) := by decide +kernel
theorem dX10_keep_41 : decode cX10_keep 41 = .ok (.getfield 297, 3) := by decide +kernel
theorem dX10_keep_44 : decode cX10_keep 44 = .ok (.putfield 306, 3) := by decide +kernel
theorem dX10_keep_47 : decode cX10_keep 47 = .ok (.aload_n 2, 1) := by decide +kernel
theorem dX10_keep_48 : decode cX10_keep 48 = .ok (.iconst 1, 1) := by decide +kernel
theorem dX10_keep_49 : decode cX10_keep 49 = .ok (.putfield 100, 3) := by decide +kernel
theorem dX10_keep_52 : decode cX10_keep 52 = .ok (.aload_n 0, 1) := by decide +kernel
theorem dX10_keep_53 : decode cX10_keep 53 = .ok (.getfield 40, 3) := by decide +kernel
theorem dX10_keep_56 : decode cX10_keep 56 = .ok (.invokevirtual 99, 3) := by decide +kernel
theorem dX10_keep_59 : decode cX10_keep 59 = .ok (.iconst 1, 1) := by decide +kernel
theorem dX10_keep_60 : decode cX10_keep 60 = .ok (.ireturn, 1) := by decide +kernel
theorem dX10_goBack_0 : decode cX10_goBack 0 = .ok (.iload_n 1, 1) := by decide +kernel
theorem dX10_goBack_1 : decode cX10_goBack 1 = .ok (.iconst 0, 1) := by decide +kernel
theorem dX10_goBack_2 : decode cX10_goBack 2 = .ok (.aload_n 0, 1) := by decide +kernel
theorem dX10_goBack_3 : decode cX10_goBack 3 = .ok (.getfield 60, 3) := by decide +kernel
theorem dX10_goBack_6 : decode cX10_goBack 6 = .ok (.arraylength, 1) := by decide +kernel
theorem dX10_goBack_7 : decode cX10_goBack 7 = .ok (.iconst 1, 1) := by decide +kernel
theorem dX10_goBack_8 : decode cX10_goBack 8 = .ok (.isub, 1) := by decide +kernel
theorem dX10_goBack_9 : decode cX10_goBack 9 = .ok (.invokestatic 75, 3) := by decide +kernel
theorem dX10_goBack_12 : decode cX10_goBack 12 = .ok (.ifCond .eq 6, 3) := by decide +kernel
theorem dX10_goBack_15 : decode cX10_goBack 15 = .ok (.ldc 185, 2) := by decide +kernel
theorem dX10_goBack_17 : decode cX10_goBack 17 = .ok (.ireturn, 1) := by decide +kernel
theorem dX10_goBack_18 : decode cX10_goBack 18 = .ok (.aload_n 0, 1) := by decide +kernel
theorem dX10_goBack_19 : decode cX10_goBack 19 = .ok (.getfield 60, 3) := by decide +kernel
theorem dX10_goBack_22 : decode cX10_goBack 22 = .ok (.iload_n 1, 1) := by decide +kernel
theorem dX10_goBack_23 : decode cX10_goBack 23 = .ok (.aaload, 1) := by decide +kernel
theorem dX10_goBack_24 : decode cX10_goBack 24 = .ok (.astore_n 2, 1) := by decide +kernel
theorem dX10_goBack_25 : decode cX10_goBack 25 = .ok (.aload_n 2, 1) := by decide +kernel
theorem dX10_goBack_26 : decode cX10_goBack 26 = .ok (.getfield 100, 3) := by decide +kernel
theorem dX10_goBack_29 : decode cX10_goBack 29 = .ok (.ifCond .ne 6, 3) := by decide +kernel
theorem dX10_goBack_32 : decode cX10_goBack 32 = .ok (.ldc 223, 2) := by decide +kernel
theorem dX10_goBack_34 : decode cX10_goBack 34 = .ok (.ireturn, 1) := by decide +kernel
theorem dX10_goBack_35 : decode cX10_goBack 35 = .ok (.aload_n 0, 1) := by decide +kernel
theorem dX10_goBack_36 : decode cX10_goBack 36 = .ok (.getfield 19, 3) := by decide +kernel
theorem dX10_goBack_39 : decode cX10_goBack 39 = .ok (.aload_n 2, 1) := by decide +kernel
theorem dX10_goBack_40 : decode cX10_goBack 40 = .ok (.getfield 300, 3) := by decide +kernel
theorem dX10_goBack_43 : decode cX10_goBack 43 = .ok (.invokevirtual 303, 3) := by decide +kernel
theorem dX10_goBack_46 : decode cX10_goBack 46 = .ok (.aload_n 0, 1) := by decide +kernel
theorem dX10_goBack_47 : decode cX10_goBack 47 = .ok (.getfield 54, 3) := by decide +kernel
theorem dX10_goBack_50 : decode cX10_goBack 50 = .ok (.aload_n 2, 1) := by decide +kernel
theorem dX10_goBack_51 : decode cX10_goBack 51 = .ok (.getfield 306, 3) := by decide +kernel
theorem dX10_goBack_54 : decode cX10_goBack 54 = .ok (.putfield 297, 3) := by decide +kernel
theorem dX10_goBack_57 : decode cX10_goBack 57 = .ok (.aload_n 0, 1) := by decide +kernel
theorem dX10_goBack_58 : decode cX10_goBack 58 = .ok (.getfield 40, 3) := by decide +kernel
theorem dX10_goBack_61 : decode cX10_goBack 61 = .ok (.invokevirtual 99, 3) := by decide +kernel
theorem dX10_goBack_64 : decode cX10_goBack 64 = .ok (.iconst 1, 1) := by decide +kernel
theorem dX10_goBack_65 : decode cX10_goBack 65 = .ok (.ireturn, 1) := by decide +kernel
theorem dX10_noWall_0 : decode cX10_noWall 0 = .ok (.aload_n 0, 1) := by decide +kernel
theorem dX10_noWall_1 : decode cX10_noWall 1 = .ok (.getfield 67, 3) := by decide +kernel
theorem dX10_noWall_4 : decode cX10_noWall 4 = .ok (.invokevirtual 104, 3) := by decide +kernel
theorem dX10_noWall_7 : decode cX10_noWall 7 = .ok (.ifCond .ne 7, 3) := by decide +kernel
theorem dX10_noWall_10 : decode cX10_noWall 10 = .ok (.iconst 1, 1) := by decide +kernel
theorem dX10_noWall_11 : decode cX10_noWall 11 = .ok (.goto 4, 3) := by decide +kernel
theorem dX10_noWall_14 : decode cX10_noWall 14 = .ok (.iconst 0, 1) := by decide +kernel
theorem dX10_noWall_15 : decode cX10_noWall 15 = .ok (.ireturn, 1) := by decide +kernel
theorem dX10_driftOneDay_0 : decode cX10_driftOneDay 0 = .ok (.aload_n 0, 1) := by decide +kernel
theorem dX10_driftOneDay_1 : decode cX10_driftOneDay 1 = .ok (.getfield 26, 3) := by decide +kernel
theorem dX10_driftOneDay_4 : decode cX10_driftOneDay 4 = .ok (.aload_n 0, 1) := by decide +kernel
theorem dX10_driftOneDay_5 : decode cX10_driftOneDay 5 = .ok (.getfield 67, 3) := by decide +kernel
theorem dX10_driftOneDay_8 : decode cX10_driftOneDay 8 = .ok (.aload_n 0, 1) := by decide +kernel
theorem dX10_driftOneDay_9 : decode cX10_driftOneDay 9 = .ok (.getfield 19, 3) := by decide +kernel
theorem dX10_driftOneDay_12 : decode cX10_driftOneDay 12 = .ok (.aload_n 0, 1) := by decide +kernel
theorem dX10_driftOneDay_13 : decode cX10_driftOneDay 13 = .ok (.getfield 54, 3) := by decide +kernel
theorem dX10_driftOneDay_16 : decode cX10_driftOneDay 16 = .ok (.bipush 10, 2) := by decide +kernel
theorem dX10_driftOneDay_18 : decode cX10_driftOneDay 18 = .ok (.invokevirtual 309, 3) := by decide +kernel
theorem dX10_driftOneDay_21 : decode cX10_driftOneDay 21 = .ok (.invokevirtual 312, 3) := by decide +kernel
theorem dX10_driftOneDay_24 : decode cX10_driftOneDay 24 = .ok (.aload_n 0, 1) := by decide +kernel
theorem dX10_driftOneDay_25 : decode cX10_driftOneDay 25 = .ok (.getfield 54, 3) := by decide +kernel
theorem dX10_driftOneDay_28 : decode cX10_driftOneDay 28 = .ok (.bipush 6, 2) := by decide +kernel
theorem dX10_driftOneDay_30 : decode cX10_driftOneDay 30 = .ok (.invokevirtual 309, 3) := by decide +kernel
theorem dX10_driftOneDay_33 : decode cX10_driftOneDay 33 = .ok (.istore_n 1, 1) := by decide +kernel
theorem dX10_driftOneDay_34 : decode cX10_driftOneDay 34 = .ok (.iload_n 1, 1) := by decide +kernel
theorem dX10_driftOneDay_35 : decode cX10_driftOneDay 35 = .ok (.ifCond .ne 17, 3) := by decide +kernel
theorem dX10_driftOneDay_38 : decode cX10_driftOneDay 38 = .ok (.aload_n 0, 1) := by decide +kernel
theorem dX10_driftOneDay_39 : decode cX10_driftOneDay 39 = .ok (.getfield 19, 3) := by decide +kernel
theorem dX10_driftOneDay_42 : decode cX10_driftOneDay 42 = .ok (.aload_n 0, 1) := by decide +kernel
theorem dX10_driftOneDay_43 : decode cX10_driftOneDay 43 = .ok (.getfield 67, 3) := by decide +kernel
theorem dX10_driftOneDay_46 : decode cX10_driftOneDay 46 = .ok (.invokevirtual 236, 3) := by decide +kernel
theorem dX10_driftOneDay_49 : decode cX10_driftOneDay 49 = .ok (.goto 81, 3) := by decide +kernel
theorem dX10_driftOneDay_52 : decode cX10_driftOneDay 52 = .ok (.iload_n 1, 1) := by decide +kernel
theorem dX10_driftOneDay_53 : decode cX10_driftOneDay 53 = .ok (.iconst 1, 1) := by decide +kernel
theorem dX10_driftOneDay_54 : decode cX10_driftOneDay 54 = .ok (.if_icmp .ne 21, 3) := by decide +kernel
theorem dX10_driftOneDay_57 : decode cX10_driftOneDay 57 = .ok (.aload_n 0, 1) := by decide +kernel
theorem dX10_driftOneDay_58 : decode cX10_driftOneDay 58 = .ok (.getfield 19, 3) := by decide +kernel
theorem dX10_driftOneDay_61 : decode cX10_driftOneDay 61 = .ok (.aload_n 0, 1) := by decide +kernel
theorem dX10_driftOneDay_62 : decode cX10_driftOneDay 62 = .ok (.getfield 54, 3) := by decide +kernel
theorem dX10_driftOneDay_65 : decode cX10_driftOneDay 65 = .ok (.iconst 3, 1) := by decide +kernel
theorem dX10_driftOneDay_66 : decode cX10_driftOneDay 66 = .ok (.invokevirtual 309, 3) := by decide +kernel
theorem dX10_driftOneDay_69 : decode cX10_driftOneDay 69 = .ok (.putfield 132, 3) := by decide +kernel
theorem dX10_driftOneDay_72 : decode cX10_driftOneDay 72 = .ok (.goto 58, 3) := by decide +kernel
theorem dX10_driftOneDay_75 : decode cX10_driftOneDay 75 = .ok (.iload_n 1, 1) := by decide +kernel
theorem dX10_driftOneDay_76 : decode cX10_driftOneDay 76 = .ok (.iconst 2, 1) := by decide +kernel
theorem dX10_driftOneDay_77 : decode cX10_driftOneDay 77 = .ok (.if_icmp .ne 53, 3) := by decide +kernel
theorem dX10_driftOneDay_80 : decode cX10_driftOneDay 80 = .ok (.aload_n 0, 1) := by decide +kernel
theorem dX10_driftOneDay_81 : decode cX10_driftOneDay 81 = .ok (.getfield 67, 3) := by decide +kernel
theorem dX10_driftOneDay_84 : decode cX10_driftOneDay 84 = .ok (.getfield 117, 3) := by decide +kernel
theorem dX10_driftOneDay_87 : decode cX10_driftOneDay 87 = .ok (.ifCond .le 43, 3) := by decide +kernel
theorem dX10_driftOneDay_90 : decode cX10_driftOneDay 90 = .ok (.aload_n 0, 1) := by decide +kernel
theorem dX10_driftOneDay_91 : decode cX10_driftOneDay 91 = .ok (.getfield 54, 3) := by decide +kernel
theorem dX10_driftOneDay_94 : decode cX10_driftOneDay 94 = .ok (.aload_n 0, 1) := by decide +kernel
theorem dX10_driftOneDay_95 : decode cX10_driftOneDay 95 = .ok (.getfield 67, 3) := by decide +kernel
theorem dX10_driftOneDay_98 : decode cX10_driftOneDay 98 = .ok (.getfield 117, 3) := by decide +kernel
theorem dX10_driftOneDay_101 : decode cX10_driftOneDay 101 = .ok (.invokevirtual 309, 3) := by decide +kernel
theorem dX10_driftOneDay_104 : decode cX10_driftOneDay 104 = .ok (.istore_n 2, 1) := by decide +kernel
theorem dX10_driftOneDay_105 : decode cX10_driftOneDay 105 = .ok (.aload_n 0, 1) := by decide +kernel
theorem dX10_driftOneDay_106 : decode cX10_driftOneDay 106 = .ok (.getfield 19, 3) := by decide +kernel
theorem dX10_driftOneDay_109 : decode cX10_driftOneDay 109 = .ok (.getfield 189, 3) := by decide +kernel
theorem dX10_driftOneDay_112 : decode cX10_driftOneDay 112 = .ok (.iload_n 2, 1) := by decide +kernel
theorem dX10_driftOneDay_113 : decode cX10_driftOneDay 113 = .ok (.aload_n 0, 1) := by decide +kernel
theorem dX10_driftOneDay_114 : decode cX10_driftOneDay 114 = .ok (.getfield 54, 3) := by decide +kernel
theorem dX10_driftOneDay_117 : decode cX10_driftOneDay 117 = .ok (.aload_n 0, 1) := by decide +kernel
theorem dX10_driftOneDay_118 : decode cX10_driftOneDay 118 = .ok (.getfield 67, 3) := by decide +kernel
theorem dX10_driftOneDay_121 : decode cX10_driftOneDay 121 = .ok (.invokevirtual 104, 3) := by decide +kernel
theorem dX10_driftOneDay_124 : decode cX10_driftOneDay 124 = .ok (.invokevirtual 309, 3) := by decide +kernel
theorem dX10_driftOneDay_127 : decode cX10_driftOneDay 127 = .ok (.invokestatic 239, 3) := by decide +kernel
theorem dX10_driftOneDay_130 : decode cX10_driftOneDay 130 = .ok (.return_, 1) := by decide +kernel
theorem dX10_outside_0 : decode cX10_outside 0 = .ok (.iload_n 0, 1) := by decide +kernel
theorem dX10_outside_1 : decode cX10_outside 1 = .ok (.iload_n 1, 1) := by decide +kernel
theorem dX10_outside_2 : decode cX10_outside 2 = .ok (.if_icmp .lt 8, 3) := by decide +kernel
theorem dX10_outside_5 : decode cX10_outside 5 = .ok (.iload_n 0, 1) := by decide +kernel
theorem dX10_outside_6 : decode cX10_outside 6 = .ok (.iload_n 2, 1) := by decide +kernel
theorem dX10_outside_7 : decode cX10_outside 7 = .ok (.if_icmp .le 7, 3) := by decide +kernel
theorem dX10_outside_10 : decode cX10_outside 10 = .ok (.iconst 1, 1) := by decide +kernel
theorem dX10_outside_11 : decode cX10_outside 11 = .ok (.goto 4, 3) := by decide +kernel
theorem dX10_outside_14 : decode cX10_outside 14 = .ok (.iconst 0, 1) := by decide +kernel
theorem dX10_outside_15 : decode cX10_outside 15 = .ok (.ireturn, 1) := by decide +kernel
theorem dX10_pick_0 : decode cX10_pick 0 = .ok (.iload_n 1, 1) := by decide +kernel
theorem dX10_pick_1 : decode cX10_pick 1 = .ok (.ifCond .lt 15, 3) := by decide +kernel
theorem dX10_pick_4 : decode cX10_pick 4 = .ok (.iload_n 1, 1) := by decide +kernel
theorem dX10_pick_5 : decode cX10_pick 5 = .ok (.aload_n 0, 1) := by decide +kernel
theorem dX10_pick_6 : decode cX10_pick 6 = .ok (.arraylength, 1) := by decide +kernel
theorem dX10_pick_7 : decode cX10_pick 7 = .ok (.if_icmp .ge 9, 3) := by decide +kernel
theorem dX10_pick_10 : decode cX10_pick 10 = .ok (.aload_n 0, 1) := by decide +kernel
theorem dX10_pick_11 : decode cX10_pick 11 = .ok (.iload_n 1, 1) := by decide +kernel
theorem dX10_pick_12 : decode cX10_pick 12 = .ok (.iaload, 1) := by decide +kernel
theorem dX10_pick_13 : decode cX10_pick 13 = .ok (.goto 4, 3) := by decide +kernel
theorem dX10_pick_16 : decode cX10_pick 16 = .ok (.iconst 0, 1) := by decide +kernel
theorem dX10_pick_17 : decode cX10_pick 17 = .ok (.ireturn, 1) := by decide +kernel
theorem dX10_put_0 : decode cX10_put 0 = .ok (.iload_n 1, 1) := by decide +kernel
theorem dX10_put_1 : decode cX10_put 1 = .ok (.ifCond .lt 13, 3) := by decide +kernel
theorem dX10_put_4 : decode cX10_put 4 = .ok (.iload_n 1, 1) := by decide +kernel
theorem dX10_put_5 : decode cX10_put 5 = .ok (.aload_n 0, 1) := by decide +kernel
theorem dX10_put_6 : decode cX10_put 6 = .ok (.arraylength, 1) := by decide +kernel
theorem dX10_put_7 : decode cX10_put 7 = .ok (.if_icmp .ge 7, 3) := by decide +kernel
theorem dX10_put_10 : decode cX10_put 10 = .ok (.aload_n 0, 1) := by decide +kernel
theorem dX10_put_11 : decode cX10_put 11 = .ok (.iload_n 1, 1) := by decide +kernel
theorem dX10_put_12 : decode cX10_put 12 = .ok (.iload_n 2, 1) := by decide +kernel
theorem dX10_put_13 : decode cX10_put 13 = .ok (.iastore, 1) := by decide +kernel
theorem dX10_put_14 : decode cX10_put 14 = .ok (.return_, 1) := by decide +kernel
theorem dX11_init_0 : decode cX11_init 0 = .ok (.aload_n 0, 1) := by decide +kernel
theorem dX11_init_1 : decode cX11_init 1 = .ok (.invokespecial 1, 3) := by decide +kernel
theorem dX11_init_4 : decode cX11_init 4 = .ok (.aload_n 0, 1) := by decide +kernel
theorem dX11_init_5 : decode cX11_init 5 = .ok (.iconst 4, 1) := by decide +kernel
theorem dX11_init_6 : decode cX11_init 6 = .ok (.newarray .int, 2) := by decide +kernel
theorem dX11_init_8 : decode cX11_init 8 = .ok (.putfield 7, 3) := by decide +kernel
theorem dX11_init_11 : decode cX11_init 11 = .ok (.aload_n 0, 1) := by decide +kernel
theorem dX11_init_12 : decode cX11_init 12 = .ok (.bipush 6, 2) := by decide +kernel
theorem dX11_init_14 : decode cX11_init 14 = .ok (.newarray .int, 2) := by decide +kernel
theorem dX11_init_16 : decode cX11_init 16 = .ok (.putfield 13, 3) := by decide +kernel
theorem dX11_init_19 : decode cX11_init 19 = .ok (.aload_n 0, 1) := by decide +kernel
theorem dX11_init_20 : decode cX11_init 20 = .ok (.bipush 6, 2) := by decide +kernel
theorem dX11_init_22 : decode cX11_init 22 = .ok (.newarray .int, 2) := by decide +kernel
theorem dX11_init_24 : decode cX11_init 24 = .ok (.putfield 16, 3) := by decide +kernel
theorem dX11_init_27 : decode cX11_init 27 = .ok (.aload_n 0, 1) := by decide +kernel
theorem dX11_init_28 : decode cX11_init 28 = .ok (.iconst 5, 1) := by decide +kernel
theorem dX11_init_29 : decode cX11_init 29 = .ok (.newarray .int, 2) := by decide +kernel
theorem dX11_init_31 : decode cX11_init 31 = .ok (.putfield 19, 3) := by decide +kernel
theorem dX11_init_34 : decode cX11_init 34 = .ok (.aload_n 0, 1) := by decide +kernel
theorem dX11_init_35 : decode cX11_init 35 = .ok (.bipush 34, 2) := by decide +kernel
theorem dX11_init_37 : decode cX11_init 37 = .ok (.newarray .int, 2) := by decide +kernel
theorem dX11_init_39 : decode cX11_init 39 = .ok (.putfield 22, 3) := by decide +kernel
theorem dX11_init_42 : decode cX11_init 42 = .ok (.aload_n 0, 1) := by decide +kernel
theorem dX11_init_43 : decode cX11_init 43 = .ok (.sipush 240, 3) := by decide +kernel
theorem dX11_init_46 : decode cX11_init 46 = .ok (.newarray .int, 2) := by decide +kernel
theorem dX11_init_48 : decode cX11_init 48 = .ok (.putfield 25, 3) := by decide +kernel
theorem dX11_init_51 : decode cX11_init 51 = .ok (.aload_n 0, 1) := by decide +kernel
theorem dX11_init_52 : decode cX11_init 52 = .ok (.iconst (-1), 1) := by decide +kernel
theorem dX11_init_53 : decode cX11_init 53 = .ok (.putfield 28, 3) := by decide +kernel
theorem dX11_init_56 : decode cX11_init 56 = .ok (.aload_n 0, 1) := by decide +kernel
theorem dX11_init_57 : decode cX11_init 57 = .ok (.iconst 4, 1) := by decide +kernel
theorem dX11_init_58 : decode cX11_init 58 = .ok (.newarray .int, 2) := by decide +kernel
theorem dX11_init_60 : decode cX11_init 60 = .ok (.putfield 32, 3) := by decide +kernel
theorem dX11_init_63 : decode cX11_init 63 = .ok (.aload_n 0, 1) := by decide +kernel
theorem dX11_init_64 : decode cX11_init 64 = .ok (.bipush 6, 2) := by decide +kernel
theorem dX11_init_66 : decode cX11_init 66 = .ok (.newarray .int, 2) := by decide +kernel
theorem dX11_init_68 : decode cX11_init 68 = .ok (.putfield 35, 3) := by decide +kernel
theorem dX11_init_71 : decode cX11_init 71 = .ok (.aload_n 0, 1) := by decide +kernel
theorem dX11_init_72 : decode cX11_init 72 = .ok (.bipush 6, 2) := by decide +kernel
theorem dX11_init_74 : decode cX11_init 74 = .ok (.newarray .int, 2) := by decide +kernel
theorem dX11_init_76 : decode cX11_init 76 = .ok (.putfield 38, 3) := by decide +kernel
theorem dX11_init_79 : decode cX11_init 79 = .ok (.aload_n 0, 1) := by decide +kernel
theorem dX11_init_80 : decode cX11_init 80 = .ok (.iconst 5, 1) := by decide +kernel
theorem dX11_init_81 : decode cX11_init 81 = .ok (.newarray .int, 2) := by decide +kernel
theorem dX11_init_83 : decode cX11_init 83 = .ok (.putfield 41, 3) := by decide +kernel
theorem dX11_init_86 : decode cX11_init 86 = .ok (.aload_n 0, 1) := by decide +kernel
theorem dX11_init_87 : decode cX11_init 87 = .ok (.bipush 25, 2) := by decide +kernel
theorem dX11_init_89 : decode cX11_init 89 = .ok (.newarray .int, 2) := by decide +kernel
theorem dX11_init_91 : decode cX11_init 91 = .ok (.putfield 44, 3) := by decide +kernel
theorem dX11_init_94 : decode cX11_init 94 = .ok (.aload_n 0, 1) := by decide +kernel
theorem dX11_init_95 : decode cX11_init 95 = .ok (.bipush 25, 2) := by decide +kernel
theorem dX11_init_97 : decode cX11_init 97 = .ok (.newarray .int, 2) := by decide +kernel
theorem dX11_init_99 : decode cX11_init 99 = .ok (.putfield 47, 3) := by decide +kernel
theorem dX11_init_102 : decode cX11_init 102 = .ok (.aload_n 0, 1) := by decide +kernel
theorem dX11_init_103 : decode cX11_init 103 = .ok (.bipush 25, 2) := by decide +kernel
theorem dX11_init_105 : decode cX11_init 105 = .ok (.newarray .int, 2) := by decide +kernel
theorem dX11_init_107 : decode cX11_init 107 = .ok (.putfield 50, 3) := by decide +kernel
theorem dX11_init_110 : decode cX11_init 110 = .ok (.aload_n 0, 1) := by decide +kernel
theorem dX11_init_111 : decode cX11_init 111 = .ok (.sipush 544, 3) := by decide +kernel
theorem dX11_init_114 : decode cX11_init 114 = .ok (.newarray .int, 2) := by decide +kernel
theorem dX11_init_116 : decode cX11_init 116 = .ok (.putfield 53, 3) := by decide +kernel
theorem dX11_init_119 : decode cX11_init 119 = .ok (.aload_n 0, 1) := by decide +kernel
theorem dX11_init_120 : decode cX11_init 120 = .ok (.bipush 34, 2) := by decide +kernel
theorem dX11_init_122 : decode cX11_init 122 = .ok (.newarray .int, 2) := by decide +kernel
theorem dX11_init_124 : decode cX11_init 124 = .ok (.putfield 56, 3) := by decide +kernel
theorem dX11_init_127 : decode cX11_init 127 = .ok (.aload_n 0, 1) := by decide +kernel
theorem dX11_init_128 : decode cX11_init 128 = .ok (.bipush 15, 2) := by decide +kernel
theorem dX11_init_130 : decode cX11_init 130 = .ok (.newarray .int, 2) := by decide +kernel
theorem dX11_init_132 : decode cX11_init 132 = .ok (.putfield 59, 3) := by decide +kernel
theorem dX11_init_135 : decode cX11_init 135 = .ok (.aload_n 0, 1) := by decide +kernel
theorem dX11_init_136 : decode cX11_init 136 = .ok (.bipush 15, 2) := by decide +kernel
theorem dX11_init_138 : decode cX11_init 138 = .ok (.newarray .int, 2) := by decide +kernel
theorem dX11_init_140 : decode cX11_init 140 = .ok (.putfield 62, 3) := by decide +kernel
theorem dX11_init_143 : decode cX11_init 143 = .ok (.aload_n 0, 1) := by decide +kernel
theorem dX11_init_144 : decode cX11_init 144 = .ok (.bipush 70, 2) := by decide +kernel
theorem dX11_init_146 : decode cX11_init 146 = .ok (.newarray .int, 2) := by decide +kernel
theorem dX11_init_148 : decode cX11_init 148 = .ok (.putfield 65, 3) := by decide +kernel
theorem dX11_init_151 : decode cX11_init 151 = .ok (.aload_n 0, 1) := by decide +kernel
theorem dX11_init_152 : decode cX11_init 152 = .ok (.iconst 2, 1) := by decide +kernel
theorem dX11_init_153 : decode cX11_init 153 = .ok (.newarray .boolean, 2) := by decide +kernel
theorem dX11_init_155 : decode cX11_init 155 = .ok (.putfield 68, 3) := by decide +kernel
theorem dX11_init_158 : decode cX11_init 158 = .ok (.aload_n 0, 1) := by decide +kernel
theorem dX11_init_159 : decode cX11_init 159 = .ok (.iconst 0, 1) := by decide +kernel
theorem dX11_init_160 : decode cX11_init 160 = .ok (.putfield 72, 3) := by decide +kernel
theorem dX11_init_163 : decode cX11_init 163 = .ok (.return_, 1) := by decide +kernel
theorem dX11_in_0 : decode cX11_in 0 = .ok (.lload_n 0, 1) := by decide +kernel
theorem dX11_in_1 : decode cX11_in 1 = .ok (.lload_n 2, 1) := by decide +kernel
theorem dX11_in_2 : decode cX11_in 2 = .ok (.lcmp, 1) := by decide +kernel
theorem dX11_in_3 : decode cX11_in 3 = .ok (.ifCond .lt 14, 3) := by decide +kernel
theorem dX11_in_6 : decode cX11_in 6 = .ok (.lload_n 0, 1) := by decide +kernel
theorem dX11_in_7 : decode cX11_in 7 = .ok (.lload 4, 2) := by decide +kernel
theorem dX11_in_9 : decode cX11_in 9 = .ok (.lcmp, 1) := by decide +kernel
theorem dX11_in_10 : decode cX11_in 10 = .ok (.ifCond .gt 7, 3) := by decide +kernel
theorem dX11_in_13 : decode cX11_in 13 = .ok (.iconst 1, 1) := by decide +kernel
theorem dX11_in_14 : decode cX11_in 14 = .ok (.goto 4, 3) := by decide +kernel
theorem dX11_in_17 : decode cX11_in 17 = .ok (.iconst 0, 1) := by decide +kernel
theorem dX11_in_18 : decode cX11_in 18 = .ok (.ireturn, 1) := by decide +kernel
theorem dX11_has_0 : decode cX11_has 0 = .ok (.iload_n 0, 1) := by decide +kernel
theorem dX11_has_1 : decode cX11_has 1 = .ok (.iload_n 1, 1) := by decide +kernel
theorem dX11_has_2 : decode cX11_has 2 = .ok (.ishr, 1) := by decide +kernel
theorem dX11_has_3 : decode cX11_has 3 = .ok (.iconst 1, 1) := by decide +kernel
theorem dX11_has_4 : decode cX11_has 4 = .ok (.iand, 1) := by decide +kernel
theorem dX11_has_5 : decode cX11_has 5 = .ok (.iconst 1, 1) := by decide +kernel
theorem dX11_has_6 : decode cX11_has 6 = .ok (.if_icmp .ne 7, 3) := by decide +kernel
theorem dX11_has_9 : decode cX11_has 9 = .ok (.iconst 1, 1) := by decide +kernel
theorem dX11_has_10 : decode cX11_has 10 = .ok (.goto 4, 3) := by decide +kernel
theorem dX11_has_13 : decode cX11_has 13 = .ok (.iconst 0, 1) := by decide +kernel
theorem dX11_has_14 : decode cX11_has 14 = .ok (.ireturn, 1) := by decide +kernel
theorem dX11_bits_0 : decode cX11_bits 0 = .ok (.iconst 0, 1) := by decide +kernel
theorem dX11_bits_1 : decode cX11_bits 1 = .ok (.istore_n 1, 1) := by decide +kernel
theorem dX11_bits_2 : decode cX11_bits 2 = .ok (.iconst 0, 1) := by decide +kernel
theorem dX11_bits_3 : decode cX11_bits 3 = .ok (.istore_n 2, 1) := by decide +kernel
theorem dX11_bits_4 : decode cX11_bits 4 = .ok (.iload_n 2, 1) := by decide +kernel
theorem dX11_bits_5 : decode cX11_bits 5 = .ok (.bipush 25, 2) := by decide +kernel
theorem dX11_bits_7 : decode cX11_bits 7 = .ok (.if_icmp .ge 17, 3) := by decide +kernel
theorem dX11_bits_10 : decode cX11_bits 10 = .ok (.iload_n 1, 1) := by decide +kernel
theorem dX11_bits_11 : decode cX11_bits 11 = .ok (.iload_n 0, 1) := by decide +kernel
theorem dX11_bits_12 : decode cX11_bits 12 = .ok (.iload_n 2, 1) := by decide +kernel
theorem dX11_bits_13 : decode cX11_bits 13 = .ok (.ishr, 1) := by decide +kernel
theorem dX11_bits_14 : decode cX11_bits 14 = .ok (.iconst 1, 1) := by decide +kernel
theorem dX11_bits_15 : decode cX11_bits 15 = .ok (.iand, 1) := by decide +kernel
theorem dX11_bits_16 : decode cX11_bits 16 = .ok (.iadd, 1) := by decide +kernel
theorem dX11_bits_17 : decode cX11_bits 17 = .ok (.istore_n 1, 1) := by decide +kernel
theorem dX11_bits_18 : decode cX11_bits 18 = .ok (.iinc 2 1, 3) := by decide +kernel
theorem dX11_bits_21 : decode cX11_bits 21 = .ok (.goto (-17), 3) := by decide +kernel
theorem dX11_bits_24 : decode cX11_bits 24 = .ok (.iload_n 1, 1) := by decide +kernel
theorem dX11_bits_25 : decode cX11_bits 25 = .ok (.ireturn, 1) := by decide +kernel
theorem dX11_cells_0 : decode cX11_cells 0 = .ok (.aload_n 0, 1) := by decide +kernel
theorem dX11_cells_1 : decode cX11_cells 1 = .ok (.getfield 72, 3) := by decide +kernel
theorem dX11_cells_4 : decode cX11_cells 4 = .ok (.aload_n 0, 1) := by decide +kernel
theorem dX11_cells_5 : decode cX11_cells 5 = .ok (.getfield 75, 3) := by decide +kernel
theorem dX11_cells_8 : decode cX11_cells 8 = .ok (.imul, 1) := by decide +kernel
theorem dX11_cells_9 : decode cX11_cells 9 = .ok (.ireturn, 1) := by decide +kernel
theorem dX11_isCell_0 : decode cX11_isCell 0 = .ok (.iload_n 1, 1) := by decide +kernel
theorem dX11_isCell_1 : decode cX11_isCell 1 = .ok (.i2l, 1) := by decide +kernel
theorem dX11_isCell_2 : decode cX11_isCell 2 = .ok (.lconst 0, 1) := by decide +kernel
theorem dX11_isCell_3 : decode cX11_isCell 3 = .ok (.aload_n 0, 1) := by decide +kernel
theorem dX11_isCell_4 : decode cX11_isCell 4 = .ok (.invokevirtual 78, 3) := by decide +kernel
theorem dX11_isCell_7 : decode cX11_isCell 7 = .ok (.iconst 1, 1) := by decide +kernel
theorem dX11_isCell_8 : decode cX11_isCell 8 = .ok (.isub, 1) := by decide +kernel
theorem dX11_isCell_9 : decode cX11_isCell 9 = .ok (.i2l, 1) := by decide +kernel
theorem dX11_isCell_10 : decode cX11_isCell 10 = .ok (.invokestatic 82, 3) := by decide +kernel
theorem dX11_isCell_13 : decode cX11_isCell 13 = .ok (.ireturn, 1) := by decide +kernel
theorem dX11_isLeak_0 : decode cX11_isLeak 0 = .ok (.iload_n 1, 1) := by decide +kernel
theorem dX11_isLeak_1 : decode cX11_isLeak 1 = .ok (.i2l, 1) := by decide +kernel
theorem dX11_isLeak_2 : decode cX11_isLeak 2 = .ok (.lconst 0, 1) := by decide +kernel
theorem dX11_isLeak_3 : decode cX11_isLeak 3 = .ok (.aload_n 0, 1) := by decide +kernel
theorem dX11_isLeak_4 : decode cX11_isLeak 4 = .ok (.getfield 86, 3) := by decide +kernel
theorem dX11_isLeak_7 : decode cX11_isLeak 7 = .ok (.iconst 1, 1) := by decide +kernel
theorem dX11_isLeak_8 : decode cX11_isLeak 8 = .ok (.isub, 1) := by decide +kernel
theorem dX11_isLeak_9 : decode cX11_isLeak 9 = .ok (.i2l, 1) := by decide +kernel
theorem dX11_isLeak_10 : decode cX11_isLeak 10 = .ok (.invokestatic 82, 3) := by decide +kernel
theorem dX11_isLeak_13 : decode cX11_isLeak 13 = .ok (.ireturn, 1) := by decide +kernel
theorem dX11_isCrack_0 : decode cX11_isCrack 0 = .ok (.iload_n 1, 1) := by decide +kernel
theorem dX11_isCrack_1 : decode cX11_isCrack 1 = .ok (.i2l, 1) := by decide +kernel
theorem dX11_isCrack_2 : decode cX11_isCrack 2 = .ok (.lconst 0, 1) := by decide +kernel
theorem dX11_isCrack_3 : decode cX11_isCrack 3 = .ok (.aload_n 0, 1) := by decide +kernel
theorem dX11_isCrack_4 : decode cX11_isCrack 4 = .ok (.getfield 89, 3) := by decide +kernel
theorem dX11_isCrack_7 : decode cX11_isCrack 7 = .ok (.iconst 1, 1) := by decide +kernel
theorem dX11_isCrack_8 : decode cX11_isCrack 8 = .ok (.isub, 1) := by decide +kernel
theorem dX11_isCrack_9 : decode cX11_isCrack 9 = .ok (.i2l, 1) := by decide +kernel
theorem dX11_isCrack_10 : decode cX11_isCrack 10 = .ok (.invokestatic 82, 3) := by decide +kernel
theorem dX11_isCrack_13 : decode cX11_isCrack 13 = .ok (.ireturn, 1) := by decide +kernel
theorem dX11_isLike_0 : decode cX11_isLike 0 = .ok (.iload_n 1, 1) := by decide +kernel
theorem dX11_isLike_1 : decode cX11_isLike 1 = .ok (.i2l, 1) := by decide +kernel
theorem dX11_isLike_2 : decode cX11_isLike 2 = .ok (.lconst 0, 1) := by decide +kernel
theorem dX11_isLike_3 : decode cX11_isLike 3 = .ok (.aload_n 0, 1) := by decide +kernel
theorem dX11_isLike_4 : decode cX11_isLike 4 = .ok (.getfield 92, 3) := by decide +kernel
theorem dX11_isLike_7 : decode cX11_isLike 7 = .ok (.iconst 1, 1) := by decide +kernel
theorem dX11_isLike_8 : decode cX11_isLike 8 = .ok (.isub, 1) := by decide +kernel
theorem dX11_isLike_9 : decode cX11_isLike 9 = .ok (.i2l, 1) := by decide +kernel
theorem dX11_isLike_10 : decode cX11_isLike 10 = .ok (.invokestatic 82, 3) := by decide +kernel
theorem dX11_isLike_13 : decode cX11_isLike 13 = .ok (.ireturn, 1) := by decide +kernel
theorem dX11_areNext_0 : decode cX11_areNext 0 = .ok (.iload_n 0, 1) := by decide +kernel
theorem dX11_areNext_1 : decode cX11_areNext 1 = .ok (.iload_n 2, 1) := by decide +kernel
theorem dX11_areNext_2 : decode cX11_areNext 2 = .ok (.irem, 1) := by decide +kernel
theorem dX11_areNext_3 : decode cX11_areNext 3 = .ok (.iload_n 1, 1) := by decide +kernel
theorem dX11_areNext_4 : decode cX11_areNext 4 = .ok (.iload_n 2, 1) := by decide +kernel
theorem dX11_areNext_5 : decode cX11_areNext 5 = .ok (.irem, 1) := by decide +kernel
theorem dX11_areNext_6 : decode cX11_areNext 6 = .ok (.isub, 1) := by decide +kernel
theorem dX11_areNext_7 : decode cX11_areNext 7 = .ok (.istore_n 3, 1) := by decide +kernel
theorem dX11_areNext_8 : decode cX11_areNext 8 = .ok (.iload_n 0, 1) := by decide +kernel
theorem dX11_areNext_9 : decode cX11_areNext 9 = .ok (.iload_n 2, 1) := by decide +kernel
theorem dX11_areNext_10 : decode cX11_areNext 10 = .ok (.idiv, 1) := by decide +kernel
theorem dX11_areNext_11 : decode cX11_areNext 11 = .ok (.iload_n 1, 1) := by decide +kernel
theorem dX11_areNext_12 : decode cX11_areNext 12 = .ok (.iload_n 2, 1) := by decide +kernel
theorem dX11_areNext_13 : decode cX11_areNext 13 = .ok (.idiv, 1) := by decide +kernel
theorem dX11_areNext_14 : decode cX11_areNext 14 = .ok (.isub, 1) := by decide +kernel
theorem dX11_areNext_15 : decode cX11_areNext 15 = .ok (.istore 4, 2) := by decide +kernel
theorem dX11_areNext_17 : decode cX11_areNext 17 = .ok (.iload_n 3, 1) := by decide +kernel
theorem dX11_areNext_18 : decode cX11_areNext 18 = .ok (.iload_n 3, 1) := by decide +kernel
theorem dX11_areNext_19 : decode cX11_areNext 19 = .ok (.imul, 1) := by decide +kernel
theorem dX11_areNext_20 : decode cX11_areNext 20 = .ok (.iload 4, 2) := by decide +kernel
theorem dX11_areNext_22 : decode cX11_areNext 22 = .ok (.iload 4, 2) := by decide +kernel
theorem dX11_areNext_24 : decode cX11_areNext 24 = .ok (.imul, 1) := by decide +kernel
theorem dX11_areNext_25 : decode cX11_areNext 25 = .ok (.iadd, 1) := by decide +kernel
theorem dX11_areNext_26 : decode cX11_areNext 26 = .ok (.iconst 1, 1) := by decide +kernel
theorem dX11_areNext_27 : decode cX11_areNext 27 = .ok (.if_icmp .ne 7, 3) := by decide +kernel
theorem dX11_areNext_30 : decode cX11_areNext 30 = .ok (.iconst 1, 1) := by decide +kernel
theorem dX11_areNext_31 : decode cX11_areNext 31 = .ok (.goto 4, 3) := by decide +kernel
theorem dX11_areNext_34 : decode cX11_areNext 34 = .ok (.iconst 0, 1) := by decide +kernel
theorem dX11_areNext_35 : decode cX11_areNext 35 = .ok (.ireturn, 1) := by decide +kernel
theorem dX11_feed_0 : decode cX11_feed 0 = .ok (.iload_n 1, 1) := by decide +kernel
theorem dX11_feed_1 : decode cX11_feed 1 = .ok (.i2l, 1) := by decide +kernel
theorem dX11_feed_2 : decode cX11_feed 2 = .ok (.lconst 0, 1) := by decide +kernel
theorem dX11_feed_3 : decode cX11_feed 3 = .ok (.ldc2_w 95, 3) := by decide +kernel
theorem dX11_feed_6 : decode cX11_feed 6 = .ok (.invokestatic 82, 3) := by decide +kernel
theorem dX11_feed_9 : decode cX11_feed 9 = .ok (.ifCond .ne 6, 3) := by decide +kernel
theorem dX11_feed_12 : decode cX11_feed 12 = .ok (.ldc 97, 2) := by decide +kernel
theorem dX11_feed_14 : decode cX11_feed 14 = .ok (.ireturn, 1) := by decide +kernel
theorem dX11_feed_15 : decode cX11_feed 15 = .ok (.aload_n 0, 1) := by decide +kernel
theorem dX11_feed_16 : decode cX11_feed 16 = .ok (.getfield 98, 3) := by decide +kernel
theorem dX11_feed_19 : decode cX11_feed 19 = .ok (.sipush 240, 3) := by decide +kernel
theorem dX11_feed_22 : decode cX11_feed 22 = .ok (.if_icmp .ne 6, 3) := by decide +kernel
theorem dX11_feed_25 : decode cX11_feed 25 = .ok (.ldc 101, 2) := by decide +kernel
theorem dX11_feed_27 : decode cX11_feed 27 = .ok (.ireturn, 1) := by decide +kernel
theorem dX11_feed_28 : decode cX11_feed 28 = .ok (.aload_n 0, 1) := by decide +kernel
theorem dX11_feed_29 : decode cX11_feed 29 = .ok (.getfield 25, 3) := by decide +kernel
theorem dX11_feed_32 : decode cX11_feed 32 = .ok (.aload_n 0, 1) := by decide +kernel
theorem dX11_feed_33 : decode cX11_feed 33 = .ok (.getfield 98, 3) := by decide +kernel
theorem dX11_feed_36 : decode cX11_feed 36 = .ok (.iload_n 1, 1) := by decide +kernel
theorem dX11_feed_37 : decode cX11_feed 37 = .ok (.iastore, 1) := by decide +kernel
theorem dX11_feed_38 : decode cX11_feed 38 = .ok (.aload_n 0, 1) := by decide +kernel
theorem dX11_feed_39 : decode cX11_feed 39 = .ok (.dup, 1) := by decide +kernel
theorem dX11_feed_40 : decode cX11_feed 40 = .ok (.getfield 98, 3) := by decide +kernel
theorem dX11_feed_43 : decode cX11_feed 43 = .ok (.iconst 1, 1) := by decide +kernel
theorem dX11_feed_44 : decode cX11_feed 44 = .ok (.iadd, 1) := by decide +kernel
theorem dX11_feed_45 : decode cX11_feed 45 = .ok (.putfield 98, 3) := by decide +kernel
theorem dX11_feed_48 : decode cX11_feed 48 = .ok (.aload_n 0, 1) := by decide +kernel
theorem dX11_feed_49 : decode cX11_feed 49 = .ok (.getfield 98, 3) := by decide +kernel
theorem dX11_feed_52 : decode cX11_feed 52 = .ok (.ireturn, 1) := by decide +kernel
theorem dX11_here_0 : decode cX11_here 0 = .ok (.aload_n 0, 1) := by decide +kernel
theorem dX11_here_1 : decode cX11_here 1 = .ok (.getfield 102, 3) := by decide +kernel
theorem dX11_here_4 : decode cX11_here 4 = .ok (.aload_n 0, 1) := by decide +kernel
theorem dX11_here_5 : decode cX11_here 5 = .ok (.getfield 98, 3) := by decide +kernel
theorem dX11_here_8 : decode cX11_here 8 = .ok (.if_icmp .ge 30, 3) := by decide +kernel
theorem dX11_here_11 : decode cX11_here 11 = .ok (.aload_n 0, 1) := by decide +kernel
theorem dX11_here_12 : decode cX11_here 12 = .ok (.getfield 25, 3) := by decide +kernel
theorem dX11_here_15 : decode cX11_here 15 = .ok (.aload_n 0, 1) := by decide +kernel
theorem dX11_here_16 : decode cX11_here 16 = .ok (.getfield 102, 3) := by decide +kernel
theorem dX11_here_19 : decode cX11_here 19 = .ok (.iaload, 1) := by decide +kernel
theorem dX11_here_20 : decode cX11_here 20 = .ok (.bipush 32, 2) := by decide +kernel
theorem dX11_here_22 : decode cX11_here 22 = .ok (.if_icmp .ne 16, 3) := by decide +kernel
theorem dX11_here_25 : decode cX11_here 25 = .ok (.aload_n 0, 1) := by decide +kernel
theorem dX11_here_26 : decode cX11_here 26 = .ok (.dup, 1) := by decide +kernel
theorem dX11_here_27 : decode cX11_here 27 = .ok (.getfield 102, 3) := by decide +kernel
theorem dX11_here_30 : decode cX11_here 30 = .ok (.iconst 1, 1) := by decide +kernel
theorem dX11_here_31 : decode cX11_here 31 = .ok (.iadd, 1) := by decide +kernel
theorem dX11_here_32 : decode cX11_here 32 = .ok (.putfield 102, 3) := by decide +kernel
theorem dX11_here_35 : decode cX11_here 35 = .ok (.goto (-35), 3) := by decide +kernel
theorem dX11_here_38 : decode cX11_here 38 = .ok (.aload_n 0, 1) := by decide +kernel
theorem dX11_here_39 : decode cX11_here 39 = .ok (.getfield 102, 3) := by decide +kernel
theorem dX11_here_42 : decode cX11_here 42 = .ok (.aload_n 0, 1) := by decide +kernel
theorem dX11_here_43 : decode cX11_here 43 = .ok (.getfield 98, 3) := by decide +kernel
theorem dX11_here_46 : decode cX11_here 46 = .ok (.if_icmp .ge 15, 3) := by decide +kernel
theorem dX11_here_49 : decode cX11_here 49 = .ok (.aload_n 0, 1) := by decide +kernel
theorem dX11_here_50 : decode cX11_here 50 = .ok (.getfield 25, 3) := by decide +kernel
theorem dX11_here_53 : decode cX11_here 53 = .ok (.aload_n 0, 1) := by decide +kernel
theorem dX11_here_54 : decode cX11_here 54 = .ok (.getfield 102, 3) := by decide +kernel
theorem dX11_here_57 : decode cX11_here 57 = .ok (.iaload, 1) := by decide +kernel
theorem dX11_here_58 : decode cX11_here 58 = .ok (.goto 4, 3) := by decide +kernel
theorem dX11_here_61 : decode cX11_here 61 = .ok (.iconst (-1), 1) := by decide +kernel
theorem dX11_here_62 : decode cX11_here 62 = .ok (.ireturn, 1) := by decide +kernel
theorem dX11_fails_0 : decode cX11_fails 0 = .ok (.aload_n 0, 1) := by decide +kernel
theorem dX11_fails_1 : decode cX11_fails 1 = .ok (.iload_n 2, 1) := by decide +kernel
theorem dX11_fails_2 : decode cX11_fails 2 = .ok (.putfield 28, 3) := by decide +kernel
theorem dX11_fails_5 : decode cX11_fails 5 = .ok (.iload_n 1, 1) := by decide +kernel
theorem dX11_fails_6 : decode cX11_fails 6 = .ok (.ireturn, 1) := by decide +kernel
theorem dX11_takeNumber_0 : decode cX11_takeNumber 0 = .ok (.aload_n 0, 1) := by decide +kernel
theorem dX11_takeNumber_1 : decode cX11_takeNumber 1 = .ok (.invokevirtual 105, 3) := by decide +kernel
theorem dX11_takeNumber_4 : decode cX11_takeNumber 4 = .ok (.istore_n 3, 1) := by decide +kernel
theorem dX11_takeNumber_5 : decode cX11_takeNumber 5 = .ok (.iload_n 3, 1) := by decide +kernel
theorem dX11_takeNumber_6 : decode cX11_takeNumber 6 = .ok (.i2l, 1) := by decide +kernel
theorem dX11_takeNumber_7 : decode cX11_takeNumber 7 = .ok (.ldc2_w 108, 3) := by decide +kernel
theorem dX11_takeNumber_10 : decode cX11_takeNumber 10 = .ok (.ldc2_w 110, 3) := by decide +kernel
theorem dX11_takeNumber_13 : decode cX11_takeNumber 13 = .ok (.invokestatic 82, 3) := by decide +kernel
theorem dX11_takeNumber_16 : decode cX11_takeNumber 16 = .ok (.ifCond .ne 13, 3) := by decide +kernel
theorem dX11_takeNumber_19 : decode cX11_takeNumber 19 = .ok (.aload_n 0, 1) := by decide +kernel
theorem dX11_takeNumber_20 : decode cX11_takeNumber 20 = .ok (.iconst 1, 1) := by decide +kernel
theorem dX11_takeNumber_21 : decode cX11_takeNumber 21 = .ok (.aload_n 0, 1) := by decide +kernel
theorem dX11_takeNumber_22 : decode cX11_takeNumber 22 = .ok (.getfield 102, 3) := by decide +kernel
theorem dX11_takeNumber_25 : decode cX11_takeNumber 25 = .ok (.invokevirtual 112, 3) := by decide +kernel
theorem dX11_takeNumber_28 : decode cX11_takeNumber 28 = .ok (.ireturn, 1) := by decide +kernel
theorem dX11_takeNumber_29 : decode cX11_takeNumber 29 = .ok (.aload_n 0, 1) := by decide +kernel
theorem dX11_takeNumber_30 : decode cX11_takeNumber 30 = .ok (.aload_n 0, 1) := by decide +kernel
theorem dX11_takeNumber_31 : decode cX11_takeNumber 31 = .ok (.getfield 102, 3) := by decide +kernel
theorem dX11_takeNumber_34 : decode cX11_takeNumber 34 = .ok (.putfield 116, 3) := by decide +kernel
theorem dX11_takeNumber_37 : decode cX11_takeNumber 37 = .ok (.aload_n 0, 1) := by decide +kernel
theorem dX11_takeNumber_38 : decode cX11_takeNumber 38 = .ok (.iconst 0, 1) := by decide +kernel
theorem dX11_takeNumber_39 : decode cX11_takeNumber 39 = .ok (.putfield 119, 3) := by decide +kernel
theorem dX11_takeNumber_42 : decode cX11_takeNumber 42 = .ok (.aload_n 0, 1) := by decide +kernel
theorem dX11_takeNumber_43 : decode cX11_takeNumber 43 = .ok (.getfield 102, 3) := by decide +kernel
theorem dX11_takeNumber_46 : decode cX11_takeNumber 46 = .ok (.aload_n 0, 1) := by decide +kernel
theorem dX11_takeNumber_47 : decode cX11_takeNumber 47 = .ok (.getfield 98, 3) := by decide +kernel
theorem dX11_takeNumber_50 : decode cX11_takeNumber 50 = .ok (.if_icmp .ge 79, 3) := by decide +kernel
theorem dX11_takeNumber_53 : decode cX11_takeNumber 53 = .ok (.aload_n 0, 1) := by decide +kernel
theorem dX11_takeNumber_54 : decode cX11_takeNumber 54 = .ok (.getfield 25, 3) := by decide +kernel
theorem dX11_takeNumber_57 : decode cX11_takeNumber 57 = .ok (.aload_n 0, 1) := by decide +kernel
theorem dX11_takeNumber_58 : decode cX11_takeNumber 58 = .ok (.getfield 102, 3) := by decide +kernel
theorem dX11_takeNumber_61 : decode cX11_takeNumber 61 = .ok (.iaload, 1) := by decide +kernel
theorem dX11_takeNumber_62 : decode cX11_takeNumber 62 = .ok (.i2l, 1) := by decide +kernel
theorem dX11_takeNumber_63 : decode cX11_takeNumber 63 = .ok (.ldc2_w 108, 3) := by decide +kernel
theorem dX11_takeNumber_66 : decode cX11_takeNumber 66 = .ok (.ldc2_w 110, 3) := by decide +kernel
theorem dX11_takeNumber_69 : decode cX11_takeNumber 69 = .ok (.invokestatic 82, 3) := by decide +kernel
theorem dX11_takeNumber_72 : decode cX11_takeNumber 72 = .ok (.ifCond .eq 57, 3) := by decide +kernel
theorem dX11_takeNumber_75 : decode cX11_takeNumber 75 = .ok (.aload_n 0, 1) := by decide +kernel
