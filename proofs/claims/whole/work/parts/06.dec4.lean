theorem dX11_dayByDraws_34 : decode cX11_dayByDraws 34 = .ok (.getfield 22, 3) := by decide +kernel
theorem dX11_dayByDraws_37 : decode cX11_dayByDraws 37 = .ok (.bipush 29, 2) := by decide +kernel
theorem dX11_dayByDraws_39 : decode cX11_dayByDraws 39 = .ok (.aload_n 0, 1) := by decide +kernel
theorem dX11_dayByDraws_40 : decode cX11_dayByDraws 40 = .ok (.iconst 3, 1) := by decide +kernel
theorem dX11_dayByDraws_41 : decode cX11_dayByDraws 41 = .ok (.invokevirtual 291, 3) := by decide +kernel
theorem dX11_dayByDraws_44 : decode cX11_dayByDraws 44 = .ok (.iastore, 1) := by decide +kernel
theorem dX11_dayByDraws_45 : decode cX11_dayByDraws 45 = .ok (.goto 41, 3) := by decide +kernel
theorem dX11_dayByDraws_48 : decode cX11_dayByDraws 48 = .ok (.iload_n 1, 1) := by decide +kernel
theorem dX11_dayByDraws_49 : decode cX11_dayByDraws 49 = .ok (.iconst 2, 1) := by decide +kernel
theorem dX11_dayByDraws_50 : decode cX11_dayByDraws 50 = .ok (.if_icmp .ne 36, 3) := by decide +kernel
theorem dX11_dayByDraws_53 : decode cX11_dayByDraws 53 = .ok (.aload_n 0, 1) := by decide +kernel
theorem dX11_dayByDraws_54 : decode cX11_dayByDraws 54 = .ok (.getfield 86, 3) := by decide +kernel
theorem dX11_dayByDraws_57 : decode cX11_dayByDraws 57 = .ok (.ifCond .le 29, 3) := by decide +kernel
theorem dX11_dayByDraws_60 : decode cX11_dayByDraws 60 = .ok (.aload_n 0, 1) := by decide +kernel
theorem dX11_dayByDraws_61 : decode cX11_dayByDraws 61 = .ok (.aload_n 0, 1) := by decide +kernel
theorem dX11_dayByDraws_62 : decode cX11_dayByDraws 62 = .ok (.getfield 86, 3) := by decide +kernel
theorem dX11_dayByDraws_65 : decode cX11_dayByDraws 65 = .ok (.invokevirtual 291, 3) := by decide +kernel
theorem dX11_dayByDraws_68 : decode cX11_dayByDraws 68 = .ok (.istore_n 2, 1) := by decide +kernel
theorem dX11_dayByDraws_69 : decode cX11_dayByDraws 69 = .ok (.aload_n 0, 1) := by decide +kernel
theorem dX11_dayByDraws_70 : decode cX11_dayByDraws 70 = .ok (.getfield 22, 3) := by decide +kernel
theorem dX11_dayByDraws_73 : decode cX11_dayByDraws 73 = .ok (.bipush 25, 2) := by decide +kernel
theorem dX11_dayByDraws_75 : decode cX11_dayByDraws 75 = .ok (.iload_n 2, 1) := by decide +kernel
theorem dX11_dayByDraws_76 : decode cX11_dayByDraws 76 = .ok (.iadd, 1) := by decide +kernel
theorem dX11_dayByDraws_77 : decode cX11_dayByDraws 77 = .ok (.aload_n 0, 1) := by decide +kernel
theorem dX11_dayByDraws_78 : decode cX11_dayByDraws 78 = .ok (.aload_n 0, 1) := by decide +kernel
theorem dX11_dayByDraws_79 : decode cX11_dayByDraws 79 = .ok (.invokevirtual 78, 3) := by decide +kernel
theorem dX11_dayByDraws_82 : decode cX11_dayByDraws 82 = .ok (.invokevirtual 291, 3) := by decide +kernel
theorem dX11_dayByDraws_85 : decode cX11_dayByDraws 85 = .ok (.iastore, 1) := by decide +kernel
theorem dX11_dayByDraws_86 : decode cX11_dayByDraws 86 = .ok (.return_, 1) := by decide +kernel
theorem dX11_drift_0 : decode cX11_drift 0 = .ok (.iload_n 1, 1) := by decide +kernel
theorem dX11_drift_1 : decode cX11_drift 1 = .ok (.i2l, 1) := by decide +kernel
theorem dX11_drift_2 : decode cX11_drift 2 = .ok (.lconst 1, 1) := by decide +kernel
theorem dX11_drift_3 : decode cX11_drift 3 = .ok (.ldc2_w 265, 3) := by decide +kernel
theorem dX11_drift_6 : decode cX11_drift 6 = .ok (.invokestatic 82, 3) := by decide +kernel
theorem dX11_drift_9 : decode cX11_drift 9 = .ok (.ifCond .ne 6, 3) := by decide +kernel
theorem dX11_drift_12 : decode cX11_drift 12 = .ok (.ldc 97, 2) := by decide +kernel
theorem dX11_drift_14 : decode cX11_drift 14 = .ok (.ireturn, 1) := by decide +kernel
theorem dX11_drift_15 : decode cX11_drift 15 = .ok (.aload_n 0, 1) := by decide +kernel
theorem dX11_drift_16 : decode cX11_drift 16 = .ok (.getfield 72, 3) := by decide +kernel
theorem dX11_drift_19 : decode cX11_drift 19 = .ok (.ifCond .ne 7, 3) := by decide +kernel
theorem dX11_drift_22 : decode cX11_drift 22 = .ok (.ldc_w 269, 3) := by decide +kernel
theorem dX11_drift_25 : decode cX11_drift 25 = .ok (.ireturn, 1) := by decide +kernel
theorem dX11_drift_26 : decode cX11_drift 26 = .ok (.aload_n 0, 1) := by decide +kernel
theorem dX11_drift_27 : decode cX11_drift 27 = .ok (.getfield 22, 3) := by decide +kernel
theorem dX11_drift_30 : decode cX11_drift 30 = .ok (.bipush 31, 2) := by decide +kernel
theorem dX11_drift_32 : decode cX11_drift 32 = .ok (.iaload, 1) := by decide +kernel
theorem dX11_drift_33 : decode cX11_drift 33 = .ok (.sipush 9000, 3) := by decide +kernel
theorem dX11_drift_36 : decode cX11_drift 36 = .ok (.if_icmp .le 6, 3) := by decide +kernel
theorem dX11_drift_39 : decode cX11_drift 39 = .ok (.ldc 101, 2) := by decide +kernel
theorem dX11_drift_41 : decode cX11_drift 41 = .ok (.ireturn, 1) := by decide +kernel
theorem dX11_drift_42 : decode cX11_drift 42 = .ok (.aload_n 0, 1) := by decide +kernel
theorem dX11_drift_43 : decode cX11_drift 43 = .ok (.invokevirtual 270, 3) := by decide +kernel
theorem dX11_drift_46 : decode cX11_drift 46 = .ok (.iconst 0, 1) := by decide +kernel
theorem dX11_drift_47 : decode cX11_drift 47 = .ok (.istore_n 2, 1) := by decide +kernel
theorem dX11_drift_48 : decode cX11_drift 48 = .ok (.iload_n 2, 1) := by decide +kernel
theorem dX11_drift_49 : decode cX11_drift 49 = .ok (.iload_n 1, 1) := by decide +kernel
theorem dX11_drift_50 : decode cX11_drift 50 = .ok (.if_icmp .ge 13, 3) := by decide +kernel
theorem dX11_drift_53 : decode cX11_drift 53 = .ok (.aload_n 0, 1) := by decide +kernel
theorem dX11_drift_54 : decode cX11_drift 54 = .ok (.invokevirtual 294, 3) := by decide +kernel
theorem dX11_drift_57 : decode cX11_drift 57 = .ok (.iinc 2 1, 3) := by decide +kernel
theorem dX11_drift_60 : decode cX11_drift 60 = .ok (.goto (-12), 3) := by decide +kernel
theorem dX11_drift_63 : decode cX11_drift 63 = .ok (.aload_n 0, 1) := by decide +kernel
theorem dX11_drift_64 : decode cX11_drift 64 = .ok (.invokevirtual 204, 3) := by decide +kernel
theorem dX11_drift_67 : decode cX11_drift 67 = .ok (.invokestatic 207, 3) := by decide +kernel
theorem dX11_drift_70 : decode cX11_drift 70 = .ok (.ireturn, 1) := by decide +kernel
theorem dX11_undo_0 : decode cX11_undo 0 = .ok (.aload_n 0, 1) := by decide +kernel
theorem dX11_undo_1 : decode cX11_undo 1 = .ok (.getfield 201, 3) := by decide +kernel
theorem dX11_undo_4 : decode cX11_undo 4 = .ok (.ifCond .ne 7, 3) := by decide +kernel
theorem dX11_undo_7 : decode cX11_undo 7 = .ok (.ldc_w 269, 3) := by decide +kernel
theorem dX11_undo_10 : decode cX11_undo 10 = .ok (.ireturn, 1) := by decide +kernel
theorem dX11_undo_11 : decode cX11_undo 11 = .ok (.aload_n 0, 1) := by decide +kernel
theorem dX11_undo_12 : decode cX11_undo 12 = .ok (.dup, 1) := by decide +kernel
theorem dX11_undo_13 : decode cX11_undo 13 = .ok (.getfield 201, 3) := by decide +kernel
theorem dX11_undo_16 : decode cX11_undo 16 = .ok (.iconst 1, 1) := by decide +kernel
theorem dX11_undo_17 : decode cX11_undo 17 = .ok (.isub, 1) := by decide +kernel
theorem dX11_undo_18 : decode cX11_undo 18 = .ok (.putfield 201, 3) := by decide +kernel
theorem dX11_undo_21 : decode cX11_undo 21 = .ok (.iconst 0, 1) := by decide +kernel
theorem dX11_undo_22 : decode cX11_undo 22 = .ok (.istore_n 1, 1) := by decide +kernel
theorem dX11_undo_23 : decode cX11_undo 23 = .ok (.iload_n 1, 1) := by decide +kernel
theorem dX11_undo_24 : decode cX11_undo 24 = .ok (.bipush 34, 2) := by decide +kernel
theorem dX11_undo_26 : decode cX11_undo 26 = .ok (.if_icmp .ge 29, 3) := by decide +kernel
theorem dX11_undo_29 : decode cX11_undo 29 = .ok (.aload_n 0, 1) := by decide +kernel
theorem dX11_undo_30 : decode cX11_undo 30 = .ok (.getfield 22, 3) := by decide +kernel
theorem dX11_undo_33 : decode cX11_undo 33 = .ok (.iload_n 1, 1) := by decide +kernel
theorem dX11_undo_34 : decode cX11_undo 34 = .ok (.aload_n 0, 1) := by decide +kernel
theorem dX11_undo_35 : decode cX11_undo 35 = .ok (.getfield 53, 3) := by decide +kernel
theorem dX11_undo_38 : decode cX11_undo 38 = .ok (.bipush 34, 2) := by decide +kernel
theorem dX11_undo_40 : decode cX11_undo 40 = .ok (.aload_n 0, 1) := by decide +kernel
theorem dX11_undo_41 : decode cX11_undo 41 = .ok (.getfield 201, 3) := by decide +kernel
theorem dX11_undo_44 : decode cX11_undo 44 = .ok (.imul, 1) := by decide +kernel
theorem dX11_undo_45 : decode cX11_undo 45 = .ok (.iload_n 1, 1) := by decide +kernel
theorem dX11_undo_46 : decode cX11_undo 46 = .ok (.iadd, 1) := by decide +kernel
theorem dX11_undo_47 : decode cX11_undo 47 = .ok (.iaload, 1) := by decide +kernel
theorem dX11_undo_48 : decode cX11_undo 48 = .ok (.iastore, 1) := by decide +kernel
theorem dX11_undo_49 : decode cX11_undo 49 = .ok (.iinc 1 1, 3) := by decide +kernel
theorem dX11_undo_52 : decode cX11_undo 52 = .ok (.goto (-29), 3) := by decide +kernel
theorem dX11_undo_55 : decode cX11_undo 55 = .ok (.aload_n 0, 1) := by decide +kernel
theorem dX11_undo_56 : decode cX11_undo 56 = .ok (.getfield 201, 3) := by decide +kernel
theorem dX11_undo_59 : decode cX11_undo 59 = .ok (.ireturn, 1) := by decide +kernel
theorem dX11_shownBy_0 : decode cX11_shownBy 0 = .ok (.aload_n 0, 1) := by decide +kernel
theorem dX11_shownBy_1 : decode cX11_shownBy 1 = .ok (.getfield 22, 3) := by decide +kernel
theorem dX11_shownBy_4 : decode cX11_shownBy 4 = .ok (.aload_n 0, 1) := by decide +kernel
theorem dX11_shownBy_5 : decode cX11_shownBy 5 = .ok (.getfield 56, 3) := by decide +kernel
theorem dX11_shownBy_8 : decode cX11_shownBy 8 = .ok (.bipush 34, 2) := by decide +kernel
theorem dX11_shownBy_10 : decode cX11_shownBy 10 = .ok (.invokestatic 188, 3) := by decide +kernel
theorem dX11_shownBy_13 : decode cX11_shownBy 13 = .ok (.iconst 0, 1) := by decide +kernel
theorem dX11_shownBy_14 : decode cX11_shownBy 14 = .ok (.istore_n 3, 1) := by decide +kernel
theorem dX11_shownBy_15 : decode cX11_shownBy 15 = .ok (.iload_n 3, 1) := by decide +kernel
theorem dX11_shownBy_16 : decode cX11_shownBy 16 = .ok (.iload_n 1, 1) := by decide +kernel
theorem dX11_shownBy_17 : decode cX11_shownBy 17 = .ok (.if_icmp .ge 14, 3) := by decide +kernel
theorem dX11_shownBy_20 : decode cX11_shownBy 20 = .ok (.aload_n 0, 1) := by decide +kernel
theorem dX11_shownBy_21 : decode cX11_shownBy 21 = .ok (.iload_n 2, 1) := by decide +kernel
theorem dX11_shownBy_22 : decode cX11_shownBy 22 = .ok (.invokevirtual 273, 3) := by decide +kernel
theorem dX11_shownBy_25 : decode cX11_shownBy 25 = .ok (.iinc 3 1, 3) := by decide +kernel
theorem dX11_shownBy_28 : decode cX11_shownBy 28 = .ok (.goto (-13), 3) := by decide +kernel
theorem dX11_shownBy_31 : decode cX11_shownBy 31 = .ok (.aload_n 0, 1) := by decide +kernel
theorem dX11_shownBy_32 : decode cX11_shownBy 32 = .ok (.invokevirtual 204, 3) := by decide +kernel
theorem dX11_shownBy_35 : decode cX11_shownBy 35 = .ok (.istore_n 3, 1) := by decide +kernel
theorem dX11_shownBy_36 : decode cX11_shownBy 36 = .ok (.aload_n 0, 1) := by decide +kernel
theorem dX11_shownBy_37 : decode cX11_shownBy 37 = .ok (.getfield 56, 3) := by decide +kernel
theorem dX11_shownBy_40 : decode cX11_shownBy 40 = .ok (.aload_n 0, 1) := by decide +kernel
theorem dX11_shownBy_41 : decode cX11_shownBy 41 = .ok (.getfield 22, 3) := by decide +kernel
theorem dX11_shownBy_44 : decode cX11_shownBy 44 = .ok (.bipush 34, 2) := by decide +kernel
theorem dX11_shownBy_46 : decode cX11_shownBy 46 = .ok (.invokestatic 188, 3) := by decide +kernel
theorem dX11_shownBy_49 : decode cX11_shownBy 49 = .ok (.iload_n 3, 1) := by decide +kernel
theorem dX11_shownBy_50 : decode cX11_shownBy 50 = .ok (.ireturn, 1) := by decide +kernel
theorem dX11_shown_0 : decode cX11_shown 0 = .ok (.iload_n 1, 1) := by decide +kernel
theorem dX11_shown_1 : decode cX11_shown 1 = .ok (.i2l, 1) := by decide +kernel
theorem dX11_shown_2 : decode cX11_shown 2 = .ok (.lconst 0, 1) := by decide +kernel
theorem dX11_shown_3 : decode cX11_shown 3 = .ok (.ldc2_w 265, 3) := by decide +kernel
theorem dX11_shown_6 : decode cX11_shown 6 = .ok (.invokestatic 82, 3) := by decide +kernel
theorem dX11_shown_9 : decode cX11_shown 9 = .ok (.ifCond .eq 15, 3) := by decide +kernel
theorem dX11_shown_12 : decode cX11_shown 12 = .ok (.iload_n 2, 1) := by decide +kernel
theorem dX11_shown_13 : decode cX11_shown 13 = .ok (.i2l, 1) := by decide +kernel
theorem dX11_shown_14 : decode cX11_shown 14 = .ok (.lconst 0, 1) := by decide +kernel
theorem dX11_shown_15 : decode cX11_shown 15 = .ok (.ldc2_w 267, 3) := by decide +kernel
theorem dX11_shown_18 : decode cX11_shown 18 = .ok (.invokestatic 82, 3) := by decide +kernel
theorem dX11_shown_21 : decode cX11_shown 21 = .ok (.ifCond .ne 6, 3) := by decide +kernel
theorem dX11_shown_24 : decode cX11_shown 24 = .ok (.ldc 97, 2) := by decide +kernel
theorem dX11_shown_26 : decode cX11_shown 26 = .ok (.ireturn, 1) := by decide +kernel
theorem dX11_shown_27 : decode cX11_shown 27 = .ok (.aload_n 0, 1) := by decide +kernel
theorem dX11_shown_28 : decode cX11_shown 28 = .ok (.getfield 72, 3) := by decide +kernel
theorem dX11_shown_31 : decode cX11_shown 31 = .ok (.ifCond .ne 9, 3) := by decide +kernel
theorem dX11_shown_34 : decode cX11_shown 34 = .ok (.ldc_w 269, 3) := by decide +kernel
theorem dX11_shown_37 : decode cX11_shown 37 = .ok (.goto 9, 3) := by decide +kernel
theorem dX11_shown_40 : decode cX11_shown 40 = .ok (.aload_n 0, 1) := by decide +kernel
theorem dX11_shown_41 : decode cX11_shown 41 = .ok (.iload_n 1, 1) := by decide +kernel
theorem dX11_shown_42 : decode cX11_shown 42 = .ok (.iload_n 2, 1) := by decide +kernel
theorem dX11_shown_43 : decode cX11_shown 43 = .ok (.invokevirtual 297, 3) := by decide +kernel
theorem dX11_shown_46 : decode cX11_shown 46 = .ok (.ireturn, 1) := by decide +kernel
theorem dX11_first_0 : decode cX11_first 0 = .ok (.iload_n 1, 1) := by decide +kernel
theorem dX11_first_1 : decode cX11_first 1 = .ok (.i2l, 1) := by decide +kernel
theorem dX11_first_2 : decode cX11_first 2 = .ok (.lconst 0, 1) := by decide +kernel
theorem dX11_first_3 : decode cX11_first 3 = .ok (.ldc2_w 300, 3) := by decide +kernel
theorem dX11_first_6 : decode cX11_first 6 = .ok (.invokestatic 82, 3) := by decide +kernel
theorem dX11_first_9 : decode cX11_first 9 = .ok (.ifCond .eq 15, 3) := by decide +kernel
theorem dX11_first_12 : decode cX11_first 12 = .ok (.iload_n 2, 1) := by decide +kernel
theorem dX11_first_13 : decode cX11_first 13 = .ok (.i2l, 1) := by decide +kernel
theorem dX11_first_14 : decode cX11_first 14 = .ok (.lconst 0, 1) := by decide +kernel
theorem dX11_first_15 : decode cX11_first 15 = .ok (.ldc2_w 267, 3) := by decide +kernel
theorem dX11_first_18 : decode cX11_first 18 = .ok (.invokestatic 82, 3) := by decide +kernel
theorem dX11_first_21 : decode cX11_first 21 = .ok (.ifCond .ne 6, 3) := by decide +kernel
theorem dX11_first_24 : decode cX11_first 24 = .ok (.ldc 97, 2) := by decide +kernel
theorem dX11_first_26 : decode cX11_first 26 = .ok (.ireturn, 1) := by decide +kernel
theorem dX11_first_27 : decode cX11_first 27 = .ok (.aload_n 0, 1) := by decide +kernel
theorem dX11_first_28 : decode cX11_first 28 = .ok (.getfield 72, 3) := by decide +kernel
theorem dX11_first_31 : decode cX11_first 31 = .ok (.ifCond .ne 7, 3) := by decide +kernel
theorem dX11_first_34 : decode cX11_first 34 = .ok (.ldc_w 269, 3) := by decide +kernel
theorem dX11_first_37 : decode cX11_first 37 = .ok (.ireturn, 1) := by decide +kernel
theorem dX11_first_38 : decode cX11_first 38 = .ok (.iconst 0, 1) := by decide +kernel
theorem dX11_first_39 : decode cX11_first 39 = .ok (.istore_n 3, 1) := by decide +kernel
theorem dX11_first_40 : decode cX11_first 40 = .ok (.iload_n 3, 1) := by decide +kernel
theorem dX11_first_41 : decode cX11_first 41 = .ok (.bipush 60, 2) := by decide +kernel
theorem dX11_first_43 : decode cX11_first 43 = .ok (.if_icmp .gt 24, 3) := by decide +kernel
theorem dX11_first_46 : decode cX11_first 46 = .ok (.aload_n 0, 1) := by decide +kernel
theorem dX11_first_47 : decode cX11_first 47 = .ok (.iload_n 3, 1) := by decide +kernel
theorem dX11_first_48 : decode cX11_first 48 = .ok (.iload_n 2, 1) := by decide +kernel
theorem dX11_first_49 : decode cX11_first 49 = .ok (.invokevirtual 297, 3) := by decide +kernel
theorem dX11_first_52 : decode cX11_first 52 = .ok (.invokestatic 207, 3) := by decide +kernel
theorem dX11_first_55 : decode cX11_first 55 = .ok (.iload_n 1, 1) := by decide +kernel
theorem dX11_first_56 : decode cX11_first 56 = .ok (.if_icmp .lt 5, 3) := by decide +kernel
theorem dX11_first_59 : decode cX11_first 59 = .ok (.iload_n 3, 1) := by decide +kernel
theorem dX11_first_60 : decode cX11_first 60 = .ok (.ireturn, 1) := by decide +kernel
theorem dX11_first_61 : decode cX11_first 61 = .ok (.iinc 3 1, 3) := by decide +kernel
theorem dX11_first_64 : decode cX11_first 64 = .ok (.goto (-24), 3) := by decide +kernel
theorem dX11_first_67 : decode cX11_first 67 = .ok (.iconst (-1), 1) := by decide +kernel
theorem dX11_first_68 : decode cX11_first 68 = .ok (.ireturn, 1) := by decide +kernel
theorem dX11_leadTo_0 : decode cX11_leadTo 0 = .ok (.aload_n 0, 1) := by decide +kernel
theorem dX11_leadTo_1 : decode cX11_leadTo 1 = .ok (.iload_n 1, 1) := by decide +kernel
theorem dX11_leadTo_2 : decode cX11_leadTo 2 = .ok (.invokevirtual 245, 3) := by decide +kernel
theorem dX11_leadTo_5 : decode cX11_leadTo 5 = .ok (.ifCond .eq 11, 3) := by decide +kernel
theorem dX11_leadTo_8 : decode cX11_leadTo 8 = .ok (.aload_n 0, 1) := by decide +kernel
theorem dX11_leadTo_9 : decode cX11_leadTo 9 = .ok (.iload_n 2, 1) := by decide +kernel
theorem dX11_leadTo_10 : decode cX11_leadTo 10 = .ok (.invokevirtual 251, 3) := by decide +kernel
theorem dX11_leadTo_13 : decode cX11_leadTo 13 = .ok (.ifCond .ne 6, 3) := by decide +kernel
theorem dX11_leadTo_16 : decode cX11_leadTo 16 = .ok (.ldc 244, 2) := by decide +kernel
theorem dX11_leadTo_18 : decode cX11_leadTo 18 = .ok (.ireturn, 1) := by decide +kernel
theorem dX11_leadTo_19 : decode cX11_leadTo 19 = .ok (.iload_n 3, 1) := by decide +kernel
theorem dX11_leadTo_20 : decode cX11_leadTo 20 = .ok (.i2l, 1) := by decide +kernel
theorem dX11_leadTo_21 : decode cX11_leadTo 21 = .ok (.lconst 1, 1) := by decide +kernel
theorem dX11_leadTo_22 : decode cX11_leadTo 22 = .ok (.ldc2_w 302, 3) := by decide +kernel
theorem dX11_leadTo_25 : decode cX11_leadTo 25 = .ok (.invokestatic 82, 3) := by decide +kernel
theorem dX11_leadTo_28 : decode cX11_leadTo 28 = .ok (.ifCond .eq 27, 3) := by decide +kernel
theorem dX11_leadTo_31 : decode cX11_leadTo 31 = .ok (.iload 4, 2) := by decide +kernel
theorem dX11_leadTo_33 : decode cX11_leadTo 33 = .ok (.i2l, 1) := by decide +kernel
theorem dX11_leadTo_34 : decode cX11_leadTo 34 = .ok (.lconst 0, 1) := by decide +kernel
theorem dX11_leadTo_35 : decode cX11_leadTo 35 = .ok (.ldc2_w 267, 3) := by decide +kernel
theorem dX11_leadTo_38 : decode cX11_leadTo 38 = .ok (.invokestatic 82, 3) := by decide +kernel
theorem dX11_leadTo_41 : decode cX11_leadTo 41 = .ok (.ifCond .eq 14, 3) := by decide +kernel
theorem dX11_leadTo_44 : decode cX11_leadTo 44 = .ok (.iload 5, 2) := by decide +kernel
theorem dX11_leadTo_46 : decode cX11_leadTo 46 = .ok (.i2l, 1) := by decide +kernel
theorem dX11_leadTo_47 : decode cX11_leadTo 47 = .ok (.lconst 0, 1) := by decide +kernel
theorem dX11_leadTo_48 : decode cX11_leadTo 48 = .ok (.lconst 1, 1) := by decide +kernel
theorem dX11_leadTo_49 : decode cX11_leadTo 49 = .ok (.invokestatic 82, 3) := by decide +kernel
theorem dX11_leadTo_52 : decode cX11_leadTo 52 = .ok (.ifCond .ne 6, 3) := by decide +kernel
theorem dX11_leadTo_55 : decode cX11_leadTo 55 = .ok (.ldc 97, 2) := by decide +kernel
theorem dX11_leadTo_57 : decode cX11_leadTo 57 = .ok (.ireturn, 1) := by decide +kernel
theorem dX11_leadTo_58 : decode cX11_leadTo 58 = .ok (.aload_n 0, 1) := by decide +kernel
theorem dX11_leadTo_59 : decode cX11_leadTo 59 = .ok (.getfield 22, 3) := by decide +kernel
theorem dX11_leadTo_62 : decode cX11_leadTo 62 = .ok (.bipush 25, 2) := by decide +kernel
theorem dX11_leadTo_64 : decode cX11_leadTo 64 = .ok (.iload_n 1, 1) := by decide +kernel
theorem dX11_leadTo_65 : decode cX11_leadTo 65 = .ok (.iadd, 1) := by decide +kernel
theorem dX11_leadTo_66 : decode cX11_leadTo 66 = .ok (.iaload, 1) := by decide +kernel
theorem dX11_leadTo_67 : decode cX11_leadTo 67 = .ok (.istore 6, 2) := by decide +kernel
theorem dX11_leadTo_69 : decode cX11_leadTo 69 = .ok (.iconst (-1), 1) := by decide +kernel
theorem dX11_leadTo_70 : decode cX11_leadTo 70 = .ok (.istore 7, 2) := by decide +kernel
theorem dX11_leadTo_72 : decode cX11_leadTo 72 = .ok (.iconst (-1), 1) := by decide +kernel
theorem dX11_leadTo_73 : decode cX11_leadTo 73 = .ok (.istore 8, 2) := by decide +kernel
theorem dX11_leadTo_75 : decode cX11_leadTo 75 = .ok (.iconst 0, 1) := by decide +kernel
theorem dX11_leadTo_76 : decode cX11_leadTo 76 = .ok (.istore 9, 2) := by decide +kernel
theorem dX11_leadTo_78 : decode cX11_leadTo 78 = .ok (.iload 9, 2) := by decide +kernel
theorem dX11_leadTo_80 : decode cX11_leadTo 80 = .ok (.aload_n 0, 1) := by decide +kernel
theorem dX11_leadTo_81 : decode cX11_leadTo 81 = .ok (.invokevirtual 78, 3) := by decide +kernel
theorem dX11_leadTo_84 : decode cX11_leadTo 84 = .ok (.if_icmp .ge 76, 3) := by decide +kernel
theorem dX11_leadTo_87 : decode cX11_leadTo 87 = .ok (.aload_n 0, 1) := by decide +kernel
theorem dX11_leadTo_88 : decode cX11_leadTo 88 = .ok (.getfield 22, 3) := by decide +kernel
theorem dX11_leadTo_91 : decode cX11_leadTo 91 = .ok (.bipush 25, 2) := by decide +kernel
theorem dX11_leadTo_93 : decode cX11_leadTo 93 = .ok (.iload_n 1, 1) := by decide +kernel
theorem dX11_leadTo_94 : decode cX11_leadTo 94 = .ok (.iadd, 1) := by decide +kernel
theorem dX11_leadTo_95 : decode cX11_leadTo 95 = .ok (.iload 9, 2) := by decide +kernel
theorem dX11_leadTo_97 : decode cX11_leadTo 97 = .ok (.iastore, 1) := by decide +kernel
theorem dX11_leadTo_98 : decode cX11_leadTo 98 = .ok (.aload_n 0, 1) := by decide +kernel
theorem dX11_leadTo_99 : decode cX11_leadTo 99 = .ok (.invokevirtual 78, 3) := by decide +kernel
theorem dX11_leadTo_102 : decode cX11_leadTo 102 = .ok (.aload_n 0, 1) := by decide +kernel
theorem dX11_leadTo_103 : decode cX11_leadTo 103 = .ok (.iload_n 3, 1) := by decide +kernel
theorem dX11_leadTo_104 : decode cX11_leadTo 104 = .ok (.iload 4, 2) := by decide +kernel
theorem dX11_leadTo_106 : decode cX11_leadTo 106 = .ok (.invokevirtual 297, 3) := by decide +kernel
theorem dX11_leadTo_109 : decode cX11_leadTo 109 = .ok (.aload_n 0, 1) := by decide +kernel
theorem dX11_leadTo_110 : decode cX11_leadTo 110 = .ok (.getfield 19, 3) := by decide +kernel
theorem dX11_leadTo_113 : decode cX11_leadTo 113 = .ok (.iload_n 2, 1) := by decide +kernel
theorem dX11_leadTo_114 : decode cX11_leadTo 114 = .ok (.iaload, 1) := by decide +kernel
theorem dX11_leadTo_115 : decode cX11_leadTo 115 = .ok (.ixor, 1) := by decide +kernel
theorem dX11_leadTo_116 : decode cX11_leadTo 116 = .ok (.invokestatic 207, 3) := by decide +kernel
theorem dX11_leadTo_119 : decode cX11_leadTo 119 = .ok (.isub, 1) := by decide +kernel
theorem dX11_leadTo_120 : decode cX11_leadTo 120 = .ok (.istore 10, 2) := by decide +kernel
theorem dX11_leadTo_122 : decode cX11_leadTo 122 = .ok (.iload 10, 2) := by decide +kernel
theorem dX11_leadTo_124 : decode cX11_leadTo 124 = .ok (.iload 8, 2) := by decide +kernel
theorem dX11_leadTo_126 : decode cX11_leadTo 126 = .ok (.if_icmp .le 8, 3) := by decide +kernel
theorem dX11_leadTo_129 : decode cX11_leadTo 129 = .ok (.iload 9, 2) := by decide +kernel
theorem dX11_leadTo_131 : decode cX11_leadTo 131 = .ok (.goto 5, 3) := by decide +kernel
theorem dX11_leadTo_134 : decode cX11_leadTo 134 = .ok (.iload 7, 2) := by decide +kernel
theorem dX11_leadTo_136 : decode cX11_leadTo 136 = .ok (.istore 7, 2) := by decide +kernel
theorem dX11_leadTo_138 : decode cX11_leadTo 138 = .ok (.iload 10, 2) := by decide +kernel
theorem dX11_leadTo_140 : decode cX11_leadTo 140 = .ok (.iload 8, 2) := by decide +kernel
theorem dX11_leadTo_142 : decode cX11_leadTo 142 = .ok (.if_icmp .le 8, 3) := by decide +kernel
theorem dX11_leadTo_145 : decode cX11_leadTo 145 = .ok (.iload 10, 2) := by decide +kernel
theorem dX11_leadTo_147 : decode cX11_leadTo 147 = .ok (.goto 5, 3) := by decide +kernel
theorem dX11_leadTo_150 : decode cX11_leadTo 150 = .ok (.iload 8, 2) := by decide +kernel
theorem dX11_leadTo_152 : decode cX11_leadTo 152 = .ok (.istore 8, 2) := by decide +kernel
theorem dX11_leadTo_154 : decode cX11_leadTo 154 = .ok (.iinc 9 1, 3) := by decide +kernel
theorem dX11_leadTo_157 : decode cX11_leadTo 157 = .ok (.goto (-79), 3) := by decide +kernel
theorem dX11_leadTo_160 : decode cX11_leadTo 160 = .ok (.aload_n 0, 1) := by decide +kernel
theorem dX11_leadTo_161 : decode cX11_leadTo 161 = .ok (.getfield 22, 3) := by decide +kernel
theorem dX11_leadTo_164 : decode cX11_leadTo 164 = .ok (.bipush 25, 2) := by decide +kernel
theorem dX11_leadTo_166 : decode cX11_leadTo 166 = .ok (.iload_n 1, 1) := by decide +kernel
theorem dX11_leadTo_167 : decode cX11_leadTo 167 = .ok (.iadd, 1) := by decide +kernel
theorem dX11_leadTo_168 : decode cX11_leadTo 168 = .ok (.iload 6, 2) := by decide +kernel
theorem dX11_leadTo_170 : decode cX11_leadTo 170 = .ok (.iastore, 1) := by decide +kernel
theorem dX11_leadTo_171 : decode cX11_leadTo 171 = .ok (.iload 5, 2) := by decide +kernel
theorem dX11_leadTo_173 : decode cX11_leadTo 173 = .ok (.ifCond .ne 8, 3) := by decide +kernel
theorem dX11_leadTo_176 : decode cX11_leadTo 176 = .ok (.iload 7, 2) := by decide +kernel
theorem dX11_leadTo_178 : decode cX11_leadTo 178 = .ok (.goto 5, 3) := by decide +kernel
theorem dX11_leadTo_181 : decode cX11_leadTo 181 = .ok (.iload 8, 2) := by decide +kernel
theorem dX11_leadTo_183 : decode cX11_leadTo 183 = .ok (.ireturn, 1) := by decide +kernel
theorem dX11_shownByLooks_0 : decode cX11_shownByLooks 0 = .ok (.aload_n 0, 1) := by decide +kernel
theorem dX11_shownByLooks_1 : decode cX11_shownByLooks 1 = .ok (.getfield 22, 3) := by decide +kernel
theorem dX11_shownByLooks_4 : decode cX11_shownByLooks 4 = .ok (.aload_n 0, 1) := by decide +kernel
theorem dX11_shownByLooks_5 : decode cX11_shownByLooks 5 = .ok (.getfield 56, 3) := by decide +kernel
theorem dX11_shownByLooks_8 : decode cX11_shownByLooks 8 = .ok (.bipush 34, 2) := by decide +kernel
theorem dX11_shownByLooks_10 : decode cX11_shownByLooks 10 = .ok (.invokestatic 188, 3) := by decide +kernel
theorem dX11_shownByLooks_13 : decode cX11_shownByLooks 13 = .ok (.iconst 0, 1) := by decide +kernel
theorem dX11_shownByLooks_14 : decode cX11_shownByLooks 14 = .ok (.istore 4, 2) := by decide +kernel
theorem dX11_shownByLooks_16 : decode cX11_shownByLooks 16 = .ok (.iload 4, 2) := by decide +kernel
theorem dX11_shownByLooks_18 : decode cX11_shownByLooks 18 = .ok (.iload_n 1, 1) := by decide +kernel
theorem dX11_shownByLooks_19 : decode cX11_shownByLooks 19 = .ok (.if_icmp .ge 27, 3) := by decide +kernel
theorem dX11_shownByLooks_22 : decode cX11_shownByLooks 22 = .ok (.aload_n 0, 1) := by decide +kernel
theorem dX11_shownByLooks_23 : decode cX11_shownByLooks 23 = .ok (.iload_n 2, 1) := by decide +kernel
theorem dX11_shownByLooks_24 : decode cX11_shownByLooks 24 = .ok (.invokevirtual 273, 3) := by decide +kernel
theorem dX11_shownByLooks_27 : decode cX11_shownByLooks 27 = .ok (.iload_n 3, 1) := by decide +kernel
theorem dX11_shownByLooks_28 : decode cX11_shownByLooks 28 = .ok (.iload 4, 2) := by decide +kernel
theorem dX11_shownByLooks_30 : decode cX11_shownByLooks 30 = .ok (.invokestatic 213, 3) := by decide +kernel
theorem dX11_shownByLooks_33 : decode cX11_shownByLooks 33 = .ok (.ifCond .eq 7, 3) := by decide +kernel
theorem dX11_shownByLooks_36 : decode cX11_shownByLooks 36 = .ok (.aload_n 0, 1) := by decide +kernel
theorem dX11_shownByLooks_37 : decode cX11_shownByLooks 37 = .ok (.invokevirtual 276, 3) := by decide +kernel
theorem dX11_shownByLooks_40 : decode cX11_shownByLooks 40 = .ok (.iinc 4 1, 3) := by decide +kernel
theorem dX11_shownByLooks_43 : decode cX11_shownByLooks 43 = .ok (.goto (-27), 3) := by decide +kernel
theorem dX11_shownByLooks_46 : decode cX11_shownByLooks 46 = .ok (.aload_n 0, 1) := by decide +kernel
theorem dX11_shownByLooks_47 : decode cX11_shownByLooks 47 = .ok (.invokevirtual 204, 3) := by decide +kernel
theorem dX11_shownByLooks_50 : decode cX11_shownByLooks 50 = .ok (.invokestatic 207, 3) := by decide +kernel
theorem dX11_shownByLooks_53 : decode cX11_shownByLooks 53 = .ok (.istore 4, 2) := by decide +kernel
theorem dX11_shownByLooks_55 : decode cX11_shownByLooks 55 = .ok (.aload_n 0, 1) := by decide +kernel
theorem dX11_shownByLooks_56 : decode cX11_shownByLooks 56 = .ok (.getfield 56, 3) := by decide +kernel
theorem dX11_shownByLooks_59 : decode cX11_shownByLooks 59 = .ok (.aload_n 0, 1) := by decide +kernel
theorem dX11_shownByLooks_60 : decode cX11_shownByLooks 60 = .ok (.getfield 22, 3) := by decide +kernel
theorem dX11_shownByLooks_63 : decode cX11_shownByLooks 63 = .ok (.bipush 34, 2) := by decide +kernel
theorem dX11_shownByLooks_65 : decode cX11_shownByLooks 65 = .ok (.invokestatic 188, 3) := by decide +kernel
theorem dX11_shownByLooks_68 : decode cX11_shownByLooks 68 = .ok (.iload 4, 2) := by decide +kernel
theorem dX11_shownByLooks_70 : decode cX11_shownByLooks 70 = .ok (.ireturn, 1) := by decide +kernel
theorem dX11_often_0 : decode cX11_often 0 = .ok (.iload_n 1, 1) := by decide +kernel
theorem dX11_often_1 : decode cX11_often 1 = .ok (.i2l, 1) := by decide +kernel
theorem dX11_often_2 : decode cX11_often 2 = .ok (.lconst 1, 1) := by decide +kernel
theorem dX11_often_3 : decode cX11_often 3 = .ok (.ldc2_w 304, 3) := by decide +kernel
theorem dX11_often_6 : decode cX11_often 6 = .ok (.invokestatic 82, 3) := by decide +kernel
theorem dX11_often_9 : decode cX11_often 9 = .ok (.ifCond .eq 38, 3) := by decide +kernel
theorem dX11_often_12 : decode cX11_often 12 = .ok (.iload_n 2, 1) := by decide +kernel
theorem dX11_often_13 : decode cX11_often 13 = .ok (.i2l, 1) := by decide +kernel
theorem dX11_often_14 : decode cX11_often 14 = .ok (.lconst 0, 1) := by decide +kernel
theorem dX11_often_15 : decode cX11_often 15 = .ok (.ldc2_w 267, 3) := by decide +kernel
theorem dX11_often_18 : decode cX11_often 18 = .ok (.invokestatic 82, 3) := by decide +kernel
theorem dX11_often_21 : decode cX11_often 21 = .ok (.ifCond .eq 26, 3) := by decide +kernel
theorem dX11_often_24 : decode cX11_often 24 = .ok (.iload_n 3, 1) := by decide +kernel
theorem dX11_often_25 : decode cX11_often 25 = .ok (.i2l, 1) := by decide +kernel
theorem dX11_often_26 : decode cX11_often 26 = .ok (.lconst 0, 1) := by decide +kernel
theorem dX11_often_27 : decode cX11_often 27 = .ok (.ldc2_w 300, 3) := by decide +kernel
theorem dX11_often_30 : decode cX11_often 30 = .ok (.invokestatic 82, 3) := by decide +kernel
theorem dX11_often_33 : decode cX11_often 33 = .ok (.ifCond .eq 14, 3) := by decide +kernel
theorem dX11_often_36 : decode cX11_often 36 = .ok (.iload 4, 2) := by decide +kernel
theorem dX11_often_38 : decode cX11_often 38 = .ok (.i2l, 1) := by decide +kernel
theorem dX11_often_39 : decode cX11_often 39 = .ok (.lconst 0, 1) := by decide +kernel
theorem dX11_often_40 : decode cX11_often 40 = .ok (.lconst 1, 1) := by decide +kernel
theorem dX11_often_41 : decode cX11_often 41 = .ok (.invokestatic 82, 3) := by decide +kernel
theorem dX11_often_44 : decode cX11_often 44 = .ok (.ifCond .ne 6, 3) := by decide +kernel
theorem dX11_often_47 : decode cX11_often 47 = .ok (.ldc 97, 2) := by decide +kernel
theorem dX11_often_49 : decode cX11_often 49 = .ok (.ireturn, 1) := by decide +kernel
theorem dX11_often_50 : decode cX11_often 50 = .ok (.aload_n 0, 1) := by decide +kernel
theorem dX11_often_51 : decode cX11_often 51 = .ok (.getfield 72, 3) := by decide +kernel
theorem dX11_often_54 : decode cX11_often 54 = .ok (.ifCond .ne 7, 3) := by decide +kernel
theorem dX11_often_57 : decode cX11_often 57 = .ok (.ldc_w 269, 3) := by decide +kernel
theorem dX11_often_60 : decode cX11_often 60 = .ok (.ireturn, 1) := by decide +kernel
theorem dX11_often_61 : decode cX11_often 61 = .ok (.iconst (-1), 1) := by decide +kernel
theorem dX11_often_62 : decode cX11_often 62 = .ok (.istore 5, 2) := by decide +kernel
theorem dX11_often_64 : decode cX11_often 64 = .ok (.iconst 0, 1) := by decide +kernel
theorem dX11_often_65 : decode cX11_often 65 = .ok (.istore 6, 2) := by decide +kernel
theorem dX11_often_67 : decode cX11_often 67 = .ok (.iload 6, 2) := by decide +kernel
theorem dX11_often_69 : decode cX11_often 69 = .ok (.iconst 1, 1) := by decide +kernel
theorem dX11_often_70 : decode cX11_often 70 = .ok (.iload_n 1, 1) := by decide +kernel
theorem dX11_often_71 : decode cX11_often 71 = .ok (.ishl, 1) := by decide +kernel
theorem dX11_often_72 : decode cX11_often 72 = .ok (.if_icmp .ge 60, 3) := by decide +kernel
theorem dX11_often_75 : decode cX11_often 75 = .ok (.iload 5, 2) := by decide +kernel
theorem dX11_often_77 : decode cX11_often 77 = .ok (.ifCond .lt 16, 3) := by decide +kernel
theorem dX11_often_80 : decode cX11_often 80 = .ok (.iload 6, 2) := by decide +kernel
theorem dX11_often_82 : decode cX11_often 82 = .ok (.invokestatic 207, 3) := by decide +kernel
theorem dX11_often_85 : decode cX11_often 85 = .ok (.iload 5, 2) := by decide +kernel
theorem dX11_often_87 : decode cX11_often 87 = .ok (.invokestatic 207, 3) := by decide +kernel
theorem dX11_often_90 : decode cX11_often 90 = .ok (.if_icmp .le 7, 3) := by decide +kernel
theorem dX11_often_93 : decode cX11_often 93 = .ok (.iconst 1, 1) := by decide +kernel
theorem dX11_often_94 : decode cX11_often 94 = .ok (.goto 4, 3) := by decide +kernel
theorem dX11_often_97 : decode cX11_often 97 = .ok (.iconst 0, 1) := by decide +kernel
theorem dX11_often_98 : decode cX11_often 98 = .ok (.istore 7, 2) := by decide +kernel
theorem dX11_often_100 : decode cX11_often 100 = .ok (.iload 7, 2) := by decide +kernel
theorem dX11_often_102 : decode cX11_often 102 = .ok (.ifCond .eq 20, 3) := by decide +kernel
theorem dX11_often_105 : decode cX11_often 105 = .ok (.aload_n 0, 1) := by decide +kernel
theorem dX11_often_106 : decode cX11_often 106 = .ok (.iload_n 1, 1) := by decide +kernel
theorem dX11_often_107 : decode cX11_often 107 = .ok (.iload_n 2, 1) := by decide +kernel
theorem dX11_often_108 : decode cX11_often 108 = .ok (.iload 6, 2) := by decide +kernel
theorem dX11_often_110 : decode cX11_often 110 = .ok (.invokevirtual 306, 3) := by decide +kernel
theorem dX11_often_113 : decode cX11_often 113 = .ok (.iload_n 3, 1) := by decide +kernel
theorem dX11_often_114 : decode cX11_often 114 = .ok (.if_icmp .lt 8, 3) := by decide +kernel
theorem dX11_often_117 : decode cX11_often 117 = .ok (.iload 6, 2) := by decide +kernel
theorem dX11_often_119 : decode cX11_often 119 = .ok (.goto 5, 3) := by decide +kernel
theorem dX11_often_122 : decode cX11_often 122 = .ok (.iload 5, 2) := by decide +kernel
theorem dX11_often_124 : decode cX11_often 124 = .ok (.istore 5, 2) := by decide +kernel
theorem dX11_often_126 : decode cX11_often 126 = .ok (.iinc 6 1, 3) := by decide +kernel
theorem dX11_often_129 : decode cX11_often 129 = .ok (.goto (-62), 3) := by decide +kernel
theorem dX11_often_132 : decode cX11_often 132 = .ok (.iload 5, 2) := by decide +kernel
theorem dX11_often_134 : decode cX11_often 134 = .ok (.ifCond .lt 9, 3) := by decide +kernel
theorem dX11_often_137 : decode cX11_often 137 = .ok (.iload 4, 2) := by decide +kernel
theorem dX11_often_139 : decode cX11_often 139 = .ok (.iconst 1, 1) := by decide +kernel
theorem dX11_often_140 : decode cX11_often 140 = .ok (.if_icmp .ne 8, 3) := by decide +kernel
theorem dX11_often_143 : decode cX11_often 143 = .ok (.iload 5, 2) := by decide +kernel
theorem dX11_often_145 : decode cX11_often 145 = .ok (.goto 8, 3) := by decide +kernel
theorem dX11_often_148 : decode cX11_often 148 = .ok (.iload 5, 2) := by decide +kernel
theorem dX11_often_150 : decode cX11_often 150 = .ok (.invokestatic 207, 3) := by decide +kernel
theorem dX11_often_153 : decode cX11_often 153 = .ok (.ireturn, 1) := by decide +kernel
theorem dX11_wasRain_0 : decode cX11_wasRain 0 = .ok (.iload_n 1, 1) := by decide +kernel
theorem dX11_wasRain_1 : decode cX11_wasRain 1 = .ok (.i2l, 1) := by decide +kernel
theorem dX11_wasRain_2 : decode cX11_wasRain 2 = .ok (.lconst 0, 1) := by decide +kernel
theorem dX11_wasRain_3 : decode cX11_wasRain 3 = .ok (.lconst 1, 1) := by decide +kernel
theorem dX11_wasRain_4 : decode cX11_wasRain 4 = .ok (.aload_n 0, 1) := by decide +kernel
theorem dX11_wasRain_5 : decode cX11_wasRain 5 = .ok (.invokevirtual 78, 3) := by decide +kernel
theorem dX11_wasRain_8 : decode cX11_wasRain 8 = .ok (.lshl, 1) := by decide +kernel
theorem dX11_wasRain_9 : decode cX11_wasRain 9 = .ok (.lconst 1, 1) := by decide +kernel
theorem dX11_wasRain_10 : decode cX11_wasRain 10 = .ok (.lsub, 1) := by decide +kernel
theorem dX11_wasRain_11 : decode cX11_wasRain 11 = .ok (.invokestatic 82, 3) := by decide +kernel
theorem dX11_wasRain_14 : decode cX11_wasRain 14 = .ok (.ifCond .ne 6, 3) := by decide +kernel
theorem dX11_wasRain_17 : decode cX11_wasRain 17 = .ok (.ldc 244, 2) := by decide +kernel
theorem dX11_wasRain_19 : decode cX11_wasRain 19 = .ok (.ireturn, 1) := by decide +kernel
theorem dX11_wasRain_20 : decode cX11_wasRain 20 = .ok (.aload_n 0, 1) := by decide +kernel
theorem dX11_wasRain_21 : decode cX11_wasRain 21 = .ok (.getfield 72, 3) := by decide +kernel
theorem dX11_wasRain_24 : decode cX11_wasRain 24 = .ok (.ifCond .ne 7, 3) := by decide +kernel
theorem dX11_wasRain_27 : decode cX11_wasRain 27 = .ok (.ldc_w 269, 3) := by decide +kernel
theorem dX11_wasRain_30 : decode cX11_wasRain 30 = .ok (.ireturn, 1) := by decide +kernel
theorem dX11_wasRain_31 : decode cX11_wasRain 31 = .ok (.iconst 0, 1) := by decide +kernel
theorem dX11_wasRain_32 : decode cX11_wasRain 32 = .ok (.istore_n 2, 1) := by decide +kernel
theorem dX11_wasRain_33 : decode cX11_wasRain 33 = .ok (.iconst 0, 1) := by decide +kernel
theorem dX11_wasRain_34 : decode cX11_wasRain 34 = .ok (.istore_n 3, 1) := by decide +kernel
theorem dX11_wasRain_35 : decode cX11_wasRain 35 = .ok (.iload_n 3, 1) := by decide +kernel
theorem dX11_wasRain_36 : decode cX11_wasRain 36 = .ok (.bipush 10, 2) := by decide +kernel
theorem dX11_wasRain_38 : decode cX11_wasRain 38 = .ok (.if_icmp .ge 29, 3) := by decide +kernel
theorem dX11_wasRain_41 : decode cX11_wasRain 41 = .ok (.iload_n 2, 1) := by decide +kernel
theorem dX11_wasRain_42 : decode cX11_wasRain 42 = .ok (.aload_n 0, 1) := by decide +kernel
theorem dX11_wasRain_43 : decode cX11_wasRain 43 = .ok (.iconst 1, 1) := by decide +kernel
theorem dX11_wasRain_44 : decode cX11_wasRain 44 = .ok (.iload_n 3, 1) := by decide +kernel
theorem dX11_wasRain_45 : decode cX11_wasRain 45 = .ok (.invokevirtual 297, 3) := by decide +kernel
theorem dX11_wasRain_48 : decode cX11_wasRain 48 = .ok (.iload_n 1, 1) := by decide +kernel
theorem dX11_wasRain_49 : decode cX11_wasRain 49 = .ok (.if_icmp .ne 9, 3) := by decide +kernel
theorem dX11_wasRain_52 : decode cX11_wasRain 52 = .ok (.iconst 1, 1) := by decide +kernel
theorem dX11_wasRain_53 : decode cX11_wasRain 53 = .ok (.iload_n 3, 1) := by decide +kernel
theorem dX11_wasRain_54 : decode cX11_wasRain 54 = .ok (.ishl, 1) := by decide +kernel
theorem dX11_wasRain_55 : decode cX11_wasRain 55 = .ok (.goto 4, 3) := by decide +kernel
theorem dX11_wasRain_58 : decode cX11_wasRain 58 = .ok (.iconst 0, 1) := by decide +kernel
theorem dX11_wasRain_59 : decode cX11_wasRain 59 = .ok (.ior, 1) := by decide +kernel
theorem dX11_wasRain_60 : decode cX11_wasRain 60 = .ok (.istore_n 2, 1) := by decide +kernel
theorem dX11_wasRain_61 : decode cX11_wasRain 61 = .ok (.iinc 3 1, 3) := by decide +kernel
theorem dX11_wasRain_64 : decode cX11_wasRain 64 = .ok (.goto (-29), 3) := by decide +kernel
theorem dX11_wasRain_67 : decode cX11_wasRain 67 = .ok (.iload_n 2, 1) := by decide +kernel
theorem dX11_wasRain_68 : decode cX11_wasRain 68 = .ok (.ireturn, 1) := by decide +kernel
theorem dX11_leftBy_0 : decode cX11_leftBy 0 = .ok (.aload_n 0, 1) := by decide +kernel
theorem dX11_leftBy_1 : decode cX11_leftBy 1 = .ok (.iconst 1, 1) := by decide +kernel
theorem dX11_leftBy_2 : decode cX11_leftBy 2 = .ok (.iload_n 1, 1) := by decide +kernel
theorem dX11_leftBy_3 : decode cX11_leftBy 3 = .ok (.invokevirtual 297, 3) := by decide +kernel
theorem dX11_leftBy_6 : decode cX11_leftBy 6 = .ok (.istore_n 2, 1) := by decide +kernel
theorem dX11_leftBy_7 : decode cX11_leftBy 7 = .ok (.iconst 0, 1) := by decide +kernel
theorem dX11_leftBy_8 : decode cX11_leftBy 8 = .ok (.istore_n 3, 1) := by decide +kernel
theorem dX11_leftBy_9 : decode cX11_leftBy 9 = .ok (.iconst 0, 1) := by decide +kernel
theorem dX11_leftBy_10 : decode cX11_leftBy 10 = .ok (.istore 4, 2) := by decide +kernel
theorem dX11_leftBy_12 : decode cX11_leftBy 12 = .ok (.iload 4, 2) := by decide +kernel
theorem dX11_leftBy_14 : decode cX11_leftBy 14 = .ok (.aload_n 0, 1) := by decide +kernel
theorem dX11_leftBy_15 : decode cX11_leftBy 15 = .ok (.getfield 92, 3) := by decide +kernel
theorem dX11_leftBy_18 : decode cX11_leftBy 18 = .ok (.if_icmp .ge 31, 3) := by decide +kernel
theorem dX11_leftBy_21 : decode cX11_leftBy 21 = .ok (.iload_n 3, 1) := by decide +kernel
theorem dX11_leftBy_22 : decode cX11_leftBy 22 = .ok (.iload_n 2, 1) := by decide +kernel
theorem dX11_leftBy_23 : decode cX11_leftBy 23 = .ok (.aload_n 0, 1) := by decide +kernel
theorem dX11_leftBy_24 : decode cX11_leftBy 24 = .ok (.getfield 19, 3) := by decide +kernel
theorem dX11_leftBy_27 : decode cX11_leftBy 27 = .ok (.iload 4, 2) := by decide +kernel
theorem dX11_leftBy_29 : decode cX11_leftBy 29 = .ok (.iaload, 1) := by decide +kernel
theorem dX11_leftBy_30 : decode cX11_leftBy 30 = .ok (.iconst (-1), 1) := by decide +kernel
theorem dX11_leftBy_31 : decode cX11_leftBy 31 = .ok (.ixor, 1) := by decide +kernel
theorem dX11_leftBy_32 : decode cX11_leftBy 32 = .ok (.iand, 1) := by decide +kernel
theorem dX11_leftBy_33 : decode cX11_leftBy 33 = .ok (.ifCond .ne 7, 3) := by decide +kernel
theorem dX11_leftBy_36 : decode cX11_leftBy 36 = .ok (.iconst 1, 1) := by decide +kernel
theorem dX11_leftBy_37 : decode cX11_leftBy 37 = .ok (.goto 4, 3) := by decide +kernel
theorem dX11_leftBy_40 : decode cX11_leftBy 40 = .ok (.iconst 0, 1) := by decide +kernel
theorem dX11_leftBy_41 : decode cX11_leftBy 41 = .ok (.iadd, 1) := by decide +kernel
theorem dX11_leftBy_42 : decode cX11_leftBy 42 = .ok (.istore_n 3, 1) := by decide +kernel
theorem dX11_leftBy_43 : decode cX11_leftBy 43 = .ok (.iinc 4 1, 3) := by decide +kernel
theorem dX11_leftBy_46 : decode cX11_leftBy 46 = .ok (.goto (-34), 3) := by decide +kernel
theorem dX11_leftBy_49 : decode cX11_leftBy 49 = .ok (.iload_n 3, 1) := by decide +kernel
theorem dX11_leftBy_50 : decode cX11_leftBy 50 = .ok (.ireturn, 1) := by decide +kernel
theorem dX11_rainToTell_0 : decode cX11_rainToTell 0 = .ok (.iload_n 1, 1) := by decide +kernel
theorem dX11_rainToTell_1 : decode cX11_rainToTell 1 = .ok (.i2l, 1) := by decide +kernel
theorem dX11_rainToTell_2 : decode cX11_rainToTell 2 = .ok (.lconst 0, 1) := by decide +kernel
theorem dX11_rainToTell_3 : decode cX11_rainToTell 3 = .ok (.lconst 1, 1) := by decide +kernel
theorem dX11_rainToTell_4 : decode cX11_rainToTell 4 = .ok (.invokestatic 82, 3) := by decide +kernel
theorem dX11_rainToTell_7 : decode cX11_rainToTell 7 = .ok (.ifCond .ne 6, 3) := by decide +kernel
theorem dX11_rainToTell_10 : decode cX11_rainToTell 10 = .ok (.ldc 97, 2) := by decide +kernel
theorem dX11_rainToTell_12 : decode cX11_rainToTell 12 = .ok (.ireturn, 1) := by decide +kernel
theorem dX11_rainToTell_13 : decode cX11_rainToTell 13 = .ok (.aload_n 0, 1) := by decide +kernel
theorem dX11_rainToTell_14 : decode cX11_rainToTell 14 = .ok (.getfield 72, 3) := by decide +kernel
theorem dX11_rainToTell_17 : decode cX11_rainToTell 17 = .ok (.ifCond .ne 7, 3) := by decide +kernel
theorem dX11_rainToTell_20 : decode cX11_rainToTell 20 = .ok (.ldc_w 269, 3) := by decide +kernel
theorem dX11_rainToTell_23 : decode cX11_rainToTell 23 = .ok (.ireturn, 1) := by decide +kernel
theorem dX11_rainToTell_24 : decode cX11_rainToTell 24 = .ok (.iconst 0, 1) := by decide +kernel
theorem dX11_rainToTell_25 : decode cX11_rainToTell 25 = .ok (.istore_n 2, 1) := by decide +kernel
theorem dX11_rainToTell_26 : decode cX11_rainToTell 26 = .ok (.aload_n 0, 1) := by decide +kernel
theorem dX11_rainToTell_27 : decode cX11_rainToTell 27 = .ok (.iconst 0, 1) := by decide +kernel
theorem dX11_rainToTell_28 : decode cX11_rainToTell 28 = .ok (.invokevirtual 310, 3) := by decide +kernel
theorem dX11_rainToTell_31 : decode cX11_rainToTell 31 = .ok (.istore_n 3, 1) := by decide +kernel
theorem dX11_rainToTell_32 : decode cX11_rainToTell 32 = .ok (.iconst 1, 1) := by decide +kernel
theorem dX11_rainToTell_33 : decode cX11_rainToTell 33 = .ok (.istore 4, 2) := by decide +kernel
theorem dX11_rainToTell_35 : decode cX11_rainToTell 35 = .ok (.iload 4, 2) := by decide +kernel
theorem dX11_rainToTell_37 : decode cX11_rainToTell 37 = .ok (.bipush 10, 2) := by decide +kernel
theorem dX11_rainToTell_39 : decode cX11_rainToTell 39 = .ok (.if_icmp .ge 43, 3) := by decide +kernel
theorem dX11_rainToTell_42 : decode cX11_rainToTell 42 = .ok (.aload_n 0, 1) := by decide +kernel
theorem dX11_rainToTell_43 : decode cX11_rainToTell 43 = .ok (.iload 4, 2) := by decide +kernel
theorem dX11_rainToTell_45 : decode cX11_rainToTell 45 = .ok (.invokevirtual 310, 3) := by decide +kernel
theorem dX11_rainToTell_48 : decode cX11_rainToTell 48 = .ok (.istore 5, 2) := by decide +kernel
theorem dX11_rainToTell_50 : decode cX11_rainToTell 50 = .ok (.iload 5, 2) := by decide +kernel
theorem dX11_rainToTell_52 : decode cX11_rainToTell 52 = .ok (.iload_n 3, 1) := by decide +kernel
theorem dX11_rainToTell_53 : decode cX11_rainToTell 53 = .ok (.if_icmp .ge 8, 3) := by decide +kernel
theorem dX11_rainToTell_56 : decode cX11_rainToTell 56 = .ok (.iload 4, 2) := by decide +kernel
theorem dX11_rainToTell_58 : decode cX11_rainToTell 58 = .ok (.goto 4, 3) := by decide +kernel
theorem dX11_rainToTell_61 : decode cX11_rainToTell 61 = .ok (.iload_n 2, 1) := by decide +kernel
theorem dX11_rainToTell_62 : decode cX11_rainToTell 62 = .ok (.istore_n 2, 1) := by decide +kernel
theorem dX11_rainToTell_63 : decode cX11_rainToTell 63 = .ok (.iload 5, 2) := by decide +kernel
theorem dX11_rainToTell_65 : decode cX11_rainToTell 65 = .ok (.iload_n 3, 1) := by decide +kernel
theorem dX11_rainToTell_66 : decode cX11_rainToTell 66 = .ok (.if_icmp .ge 8, 3) := by decide +kernel
theorem dX11_rainToTell_69 : decode cX11_rainToTell 69 = .ok (.iload 5, 2) := by decide +kernel
theorem dX11_rainToTell_71 : decode cX11_rainToTell 71 = .ok (.goto 4, 3) := by decide +kernel
theorem dX11_rainToTell_74 : decode cX11_rainToTell 74 = .ok (.iload_n 3, 1) := by decide +kernel
theorem dX11_rainToTell_75 : decode cX11_rainToTell 75 = .ok (.istore_n 3, 1) := by decide +kernel
theorem dX11_rainToTell_76 : decode cX11_rainToTell 76 = .ok (.iinc 4 1, 3) := by decide +kernel
theorem dX11_rainToTell_79 : decode cX11_rainToTell 79 = .ok (.goto (-44), 3) := by decide +kernel
theorem dX11_rainToTell_82 : decode cX11_rainToTell 82 = .ok (.iload_n 1, 1) := by decide +kernel
theorem dX11_rainToTell_83 : decode cX11_rainToTell 83 = .ok (.ifCond .ne 7, 3) := by decide +kernel
theorem dX11_rainToTell_86 : decode cX11_rainToTell 86 = .ok (.iload_n 2, 1) := by decide +kernel
theorem dX11_rainToTell_87 : decode cX11_rainToTell 87 = .ok (.goto 4, 3) := by decide +kernel
theorem dX11_rainToTell_90 : decode cX11_rainToTell 90 = .ok (.iload_n 3, 1) := by decide +kernel
theorem dX11_rainToTell_91 : decode cX11_rainToTell 91 = .ok (.ireturn, 1) := by decide +kernel
theorem dX11_dryIn_0 : decode cX11_dryIn 0 = .ok (.aload_n 0, 1) := by decide +kernel
theorem dX11_dryIn_1 : decode cX11_dryIn 1 = .ok (.getfield 72, 3) := by decide +kernel
theorem dX11_dryIn_4 : decode cX11_dryIn 4 = .ok (.ifCond .ne 7, 3) := by decide +kernel
theorem dX11_dryIn_7 : decode cX11_dryIn 7 = .ok (.ldc_w 269, 3) := by decide +kernel
theorem dX11_dryIn_10 : decode cX11_dryIn 10 = .ok (.ireturn, 1) := by decide +kernel
theorem dX11_dryIn_11 : decode cX11_dryIn 11 = .ok (.aload_n 0, 1) := by decide +kernel
theorem dX11_dryIn_12 : decode cX11_dryIn 12 = .ok (.getfield 22, 3) := by decide +kernel
theorem dX11_dryIn_15 : decode cX11_dryIn 15 = .ok (.aload_n 0, 1) := by decide +kernel
theorem dX11_dryIn_16 : decode cX11_dryIn 16 = .ok (.getfield 56, 3) := by decide +kernel
theorem dX11_dryIn_19 : decode cX11_dryIn 19 = .ok (.bipush 34, 2) := by decide +kernel
theorem dX11_dryIn_21 : decode cX11_dryIn 21 = .ok (.invokestatic 188, 3) := by decide +kernel
theorem dX11_dryIn_24 : decode cX11_dryIn 24 = .ok (.iconst (-1), 1) := by decide +kernel
theorem dX11_dryIn_25 : decode cX11_dryIn 25 = .ok (.istore_n 1, 1) := by decide +kernel
theorem dX11_dryIn_26 : decode cX11_dryIn 26 = .ok (.iconst 0, 1) := by decide +kernel
theorem dX11_dryIn_27 : decode cX11_dryIn 27 = .ok (.istore_n 2, 1) := by decide +kernel
theorem dX11_dryIn_28 : decode cX11_dryIn 28 = .ok (.iload_n 2, 1) := by decide +kernel
theorem dX11_dryIn_29 : decode cX11_dryIn 29 = .ok (.bipush 60, 2) := by decide +kernel
theorem dX11_dryIn_31 : decode cX11_dryIn 31 = .ok (.if_icmp .gt 31, 3) := by decide +kernel
theorem dX11_dryIn_34 : decode cX11_dryIn 34 = .ok (.iload_n 1, 1) := by decide +kernel
theorem dX11_dryIn_35 : decode cX11_dryIn 35 = .ok (.ifCond .ge 27, 3) := by decide +kernel
theorem dX11_dryIn_38 : decode cX11_dryIn 38 = .ok (.aload_n 0, 1) := by decide +kernel
theorem dX11_dryIn_39 : decode cX11_dryIn 39 = .ok (.invokevirtual 222, 3) := by decide +kernel
theorem dX11_dryIn_42 : decode cX11_dryIn 42 = .ok (.ifCond .ne 7, 3) := by decide +kernel
theorem dX11_dryIn_45 : decode cX11_dryIn 45 = .ok (.iload_n 2, 1) := by decide +kernel
theorem dX11_dryIn_46 : decode cX11_dryIn 46 = .ok (.goto 4, 3) := by decide +kernel
theorem dX11_dryIn_49 : decode cX11_dryIn 49 = .ok (.iconst (-1), 1) := by decide +kernel
theorem dX11_dryIn_50 : decode cX11_dryIn 50 = .ok (.istore_n 1, 1) := by decide +kernel
theorem dX11_dryIn_51 : decode cX11_dryIn 51 = .ok (.aload_n 0, 1) := by decide +kernel
theorem dX11_dryIn_52 : decode cX11_dryIn 52 = .ok (.iconst 0, 1) := by decide +kernel
theorem dX11_dryIn_53 : decode cX11_dryIn 53 = .ok (.invokevirtual 273, 3) := by decide +kernel
theorem dX11_dryIn_56 : decode cX11_dryIn 56 = .ok (.iinc 2 1, 3) := by decide +kernel
theorem dX11_dryIn_59 : decode cX11_dryIn 59 = .ok (.goto (-31), 3) := by decide +kernel
theorem dX11_dryIn_62 : decode cX11_dryIn 62 = .ok (.aload_n 0, 1) := by decide +kernel
theorem dX11_dryIn_63 : decode cX11_dryIn 63 = .ok (.getfield 56, 3) := by decide +kernel
theorem dX11_dryIn_66 : decode cX11_dryIn 66 = .ok (.aload_n 0, 1) := by decide +kernel
theorem dX11_dryIn_67 : decode cX11_dryIn 67 = .ok (.getfield 22, 3) := by decide +kernel
theorem dX11_dryIn_70 : decode cX11_dryIn 70 = .ok (.bipush 34, 2) := by decide +kernel
theorem dX11_dryIn_72 : decode cX11_dryIn 72 = .ok (.invokestatic 188, 3) := by decide +kernel
theorem dX11_dryIn_75 : decode cX11_dryIn 75 = .ok (.iload_n 1, 1) := by decide +kernel
theorem dX11_dryIn_76 : decode cX11_dryIn 76 = .ok (.ireturn, 1) := by decide +kernel
theorem dX11_either_0 : decode cX11_either 0 = .ok (.aload_n 0, 1) := by decide +kernel
theorem dX11_either_1 : decode cX11_either 1 = .ok (.iload_n 1, 1) := by decide +kernel
theorem dX11_either_2 : decode cX11_either 2 = .ok (.invokevirtual 251, 3) := by decide +kernel
theorem dX11_either_5 : decode cX11_either 5 = .ok (.ifCond .eq 11, 3) := by decide +kernel
theorem dX11_either_8 : decode cX11_either 8 = .ok (.aload_n 0, 1) := by decide +kernel
theorem dX11_either_9 : decode cX11_either 9 = .ok (.iload_n 2, 1) := by decide +kernel
theorem dX11_either_10 : decode cX11_either 10 = .ok (.invokevirtual 251, 3) := by decide +kernel
theorem dX11_either_13 : decode cX11_either 13 = .ok (.ifCond .ne 6, 3) := by decide +kernel
theorem dX11_either_16 : decode cX11_either 16 = .ok (.ldc 244, 2) := by decide +kernel
theorem dX11_either_18 : decode cX11_either 18 = .ok (.ireturn, 1) := by decide +kernel
theorem dX11_either_19 : decode cX11_either 19 = .ok (.iload_n 3, 1) := by decide +kernel
theorem dX11_either_20 : decode cX11_either 20 = .ok (.i2l, 1) := by decide +kernel
theorem dX11_either_21 : decode cX11_either 21 = .ok (.lconst 0, 1) := by decide +kernel
theorem dX11_either_22 : decode cX11_either 22 = .ok (.lconst 1, 1) := by decide +kernel
theorem dX11_either_23 : decode cX11_either 23 = .ok (.invokestatic 82, 3) := by decide +kernel
theorem dX11_either_26 : decode cX11_either 26 = .ok (.ifCond .ne 6, 3) := by decide +kernel
theorem dX11_either_29 : decode cX11_either 29 = .ok (.ldc 97, 2) := by decide +kernel
theorem dX11_either_31 : decode cX11_either 31 = .ok (.ireturn, 1) := by decide +kernel
theorem dX11_either_32 : decode cX11_either 32 = .ok (.aload_n 0, 1) := by decide +kernel
theorem dX11_either_33 : decode cX11_either 33 = .ok (.getfield 19, 3) := by decide +kernel
theorem dX11_either_36 : decode cX11_either 36 = .ok (.iload_n 1, 1) := by decide +kernel
theorem dX11_either_37 : decode cX11_either 37 = .ok (.iaload, 1) := by decide +kernel
theorem dX11_either_38 : decode cX11_either 38 = .ok (.aload_n 0, 1) := by decide +kernel
theorem dX11_either_39 : decode cX11_either 39 = .ok (.getfield 19, 3) := by decide +kernel
theorem dX11_either_42 : decode cX11_either 42 = .ok (.iload_n 2, 1) := by decide +kernel
theorem dX11_either_43 : decode cX11_either 43 = .ok (.iaload, 1) := by decide +kernel
theorem dX11_either_44 : decode cX11_either 44 = .ok (.ixor, 1) := by decide +kernel
theorem dX11_either_45 : decode cX11_either 45 = .ok (.istore 4, 2) := by decide +kernel
theorem dX11_either_47 : decode cX11_either 47 = .ok (.iload_n 3, 1) := by decide +kernel
theorem dX11_either_48 : decode cX11_either 48 = .ok (.ifCond .ne 8, 3) := by decide +kernel
theorem dX11_either_51 : decode cX11_either 51 = .ok (.iload 4, 2) := by decide +kernel
theorem dX11_either_53 : decode cX11_either 53 = .ok (.goto 22, 3) := by decide +kernel
theorem dX11_either_56 : decode cX11_either 56 = .ok (.iload 4, 2) := by decide +kernel
theorem dX11_either_58 : decode cX11_either 58 = .ok (.aload_n 0, 1) := by decide +kernel
theorem dX11_either_59 : decode cX11_either 59 = .ok (.invokevirtual 204, 3) := by decide +kernel
theorem dX11_either_62 : decode cX11_either 62 = .ok (.aload_n 0, 1) := by decide +kernel
theorem dX11_either_63 : decode cX11_either 63 = .ok (.getfield 19, 3) := by decide +kernel
theorem dX11_either_66 : decode cX11_either 66 = .ok (.iload_n 1, 1) := by decide +kernel
theorem dX11_either_67 : decode cX11_either 67 = .ok (.iaload, 1) := by decide +kernel
theorem dX11_either_68 : decode cX11_either 68 = .ok (.ixor, 1) := by decide +kernel
theorem dX11_either_69 : decode cX11_either 69 = .ok (.iconst (-1), 1) := by decide +kernel
theorem dX11_either_70 : decode cX11_either 70 = .ok (.ixor, 1) := by decide +kernel
theorem dX11_either_71 : decode cX11_either 71 = .ok (.iand, 1) := by decide +kernel
theorem dX11_either_72 : decode cX11_either 72 = .ok (.invokestatic 207, 3) := by decide +kernel
theorem dX11_either_75 : decode cX11_either 75 = .ok (.ireturn, 1) := by decide +kernel
theorem dX11_rainy_0 : decode cX11_rainy 0 = .ok (.iload_n 1, 1) := by decide +kernel
theorem dX11_rainy_1 : decode cX11_rainy 1 = .ok (.i2l, 1) := by decide +kernel
theorem dX11_rainy_2 : decode cX11_rainy 2 = .ok (.lconst 0, 1) := by decide +kernel
theorem dX11_rainy_3 : decode cX11_rainy 3 = .ok (.ldc2_w 265, 3) := by decide +kernel
theorem dX11_rainy_6 : decode cX11_rainy 6 = .ok (.invokestatic 82, 3) := by decide +kernel
theorem dX11_rainy_9 : decode cX11_rainy 9 = .ok (.ifCond .eq 15, 3) := by decide +kernel
theorem dX11_rainy_12 : decode cX11_rainy 12 = .ok (.iload_n 2, 1) := by decide +kernel
theorem dX11_rainy_13 : decode cX11_rainy 13 = .ok (.i2l, 1) := by decide +kernel
theorem dX11_rainy_14 : decode cX11_rainy 14 = .ok (.lconst 0, 1) := by decide +kernel
theorem dX11_rainy_15 : decode cX11_rainy 15 = .ok (.ldc2_w 313, 3) := by decide +kernel
theorem dX11_rainy_18 : decode cX11_rainy 18 = .ok (.invokestatic 82, 3) := by decide +kernel
theorem dX11_rainy_21 : decode cX11_rainy 21 = .ok (.ifCond .ne 6, 3) := by decide +kernel
theorem dX11_rainy_24 : decode cX11_rainy 24 = .ok (.ldc 97, 2) := by decide +kernel
theorem dX11_rainy_26 : decode cX11_rainy 26 = .ok (.ireturn, 1) := by decide +kernel
theorem dX11_rainy_27 : decode cX11_rainy 27 = .ok (.ldc2_w 315, 3) := by decide +kernel
theorem dX11_rainy_30 : decode cX11_rainy 30 = .ok (.lstore_n 3, 1) := by decide +kernel
theorem dX11_rainy_31 : decode cX11_rainy 31 = .ok (.iconst 0, 1) := by decide +kernel
theorem dX11_rainy_32 : decode cX11_rainy 32 = .ok (.istore 5, 2) := by decide +kernel
theorem dX11_rainy_34 : decode cX11_rainy 34 = .ok (.iload 5, 2) := by decide +kernel
theorem dX11_rainy_36 : decode cX11_rainy 36 = .ok (.iload_n 1, 1) := by decide +kernel
theorem dX11_rainy_37 : decode cX11_rainy 37 = .ok (.if_icmp .ge 18, 3) := by decide +kernel
theorem dX11_rainy_40 : decode cX11_rainy 40 = .ok (.lload_n 3, 1) := by decide +kernel
theorem dX11_rainy_41 : decode cX11_rainy 41 = .ok (.iload_n 2, 1) := by decide +kernel
theorem dX11_rainy_42 : decode cX11_rainy 42 = .ok (.i2l, 1) := by decide +kernel
theorem dX11_rainy_43 : decode cX11_rainy 43 = .ok (.lmul, 1) := by decide +kernel
theorem dX11_rainy_44 : decode cX11_rainy 44 = .ok (.ldc2_w 313, 3) := by decide +kernel
theorem dX11_rainy_47 : decode cX11_rainy 47 = .ok (.ldiv, 1) := by decide +kernel
theorem dX11_rainy_48 : decode cX11_rainy 48 = .ok (.lstore_n 3, 1) := by decide +kernel
theorem dX11_rainy_49 : decode cX11_rainy 49 = .ok (.iinc 5 1, 3) := by decide +kernel
theorem dX11_rainy_52 : decode cX11_rainy 52 = .ok (.goto (-18), 3) := by decide +kernel
theorem dX11_rainy_55 : decode cX11_rainy 55 = .ok (.lload_n 3, 1) := by decide +kernel
theorem dX11_rainy_56 : decode cX11_rainy 56 = .ok (.l2i, 1) := by decide +kernel
theorem dX11_rainy_57 : decode cX11_rainy 57 = .ok (.ireturn, 1) := by decide +kernel
theorem dX11_write_0 : decode cX11_write 0 = .ok (.aload_n 0, 1) := by decide +kernel
theorem dX11_write_1 : decode cX11_write 1 = .ok (.iload_n 1, 1) := by decide +kernel
theorem dX11_write_2 : decode cX11_write 2 = .ok (.invokevirtual 241, 3) := by decide +kernel
theorem dX11_write_5 : decode cX11_write 5 = .ok (.ifCond .ne 6, 3) := by decide +kernel
theorem dX11_write_8 : decode cX11_write 8 = .ok (.ldc 244, 2) := by decide +kernel
theorem dX11_write_10 : decode cX11_write 10 = .ok (.ireturn, 1) := by decide +kernel
theorem dX11_write_11 : decode cX11_write 11 = .ok (.iload_n 2, 1) := by decide +kernel
theorem dX11_write_12 : decode cX11_write 12 = .ok (.i2l, 1) := by decide +kernel
theorem dX11_write_13 : decode cX11_write 13 = .ok (.lconst 0, 1) := by decide +kernel
theorem dX11_write_14 : decode cX11_write 14 = .ok (.ldc2_w 267, 3) := by decide +kernel
theorem dX11_write_17 : decode cX11_write 17 = .ok (.invokestatic 82, 3) := by decide +kernel
theorem dX11_write_20 : decode cX11_write 20 = .ok (.ifCond .ne 6, 3) := by decide +kernel
theorem dX11_write_23 : decode cX11_write 23 = .ok (.ldc 97, 2) := by decide +kernel
theorem dX11_write_25 : decode cX11_write 25 = .ok (.ireturn, 1) := by decide +kernel
theorem dX11_write_26 : decode cX11_write 26 = .ok (.aload_n 0, 1) := by decide +kernel
theorem dX11_write_27 : decode cX11_write 27 = .ok (.getfield 198, 3) := by decide +kernel
theorem dX11_write_30 : decode cX11_write 30 = .ok (.bipush 15, 2) := by decide +kernel
theorem dX11_write_32 : decode cX11_write 32 = .ok (.if_icmp .ne 6, 3) := by decide +kernel
theorem dX11_write_35 : decode cX11_write 35 = .ok (.ldc 101, 2) := by decide +kernel
theorem dX11_write_37 : decode cX11_write 37 = .ok (.ireturn, 1) := by decide +kernel
theorem dX11_write_38 : decode cX11_write 38 = .ok (.aload_n 0, 1) := by decide +kernel
theorem dX11_write_39 : decode cX11_write 39 = .ok (.getfield 59, 3) := by decide +kernel
theorem dX11_write_42 : decode cX11_write 42 = .ok (.aload_n 0, 1) := by decide +kernel
theorem dX11_write_43 : decode cX11_write 43 = .ok (.getfield 198, 3) := by decide +kernel
theorem dX11_write_46 : decode cX11_write 46 = .ok (.iload_n 1, 1) := by decide +kernel
theorem dX11_write_47 : decode cX11_write 47 = .ok (.iastore, 1) := by decide +kernel
theorem dX11_write_48 : decode cX11_write 48 = .ok (.aload_n 0, 1) := by decide +kernel
theorem dX11_write_49 : decode cX11_write 49 = .ok (.getfield 62, 3) := by decide +kernel
theorem dX11_write_52 : decode cX11_write 52 = .ok (.aload_n 0, 1) := by decide +kernel
theorem dX11_write_53 : decode cX11_write 53 = .ok (.getfield 198, 3) := by decide +kernel
theorem dX11_write_56 : decode cX11_write 56 = .ok (.iload_n 2, 1) := by decide +kernel
theorem dX11_write_57 : decode cX11_write 57 = .ok (.iastore, 1) := by decide +kernel
theorem dX11_write_58 : decode cX11_write 58 = .ok (.aload_n 0, 1) := by decide +kernel
theorem dX11_write_59 : decode cX11_write 59 = .ok (.dup, 1) := by decide +kernel
theorem dX11_write_60 : decode cX11_write 60 = .ok (.getfield 198, 3) := by decide +kernel
theorem dX11_write_63 : decode cX11_write 63 = .ok (.iconst 1, 1) := by decide +kernel
theorem dX11_write_64 : decode cX11_write 64 = .ok (.iadd, 1) := by decide +kernel
theorem dX11_write_65 : decode cX11_write 65 = .ok (.putfield 198, 3) := by decide +kernel
theorem dX11_write_68 : decode cX11_write 68 = .ok (.aload_n 0, 1) := by decide +kernel
theorem dX11_write_69 : decode cX11_write 69 = .ok (.getfield 198, 3) := by decide +kernel
theorem dX11_write_72 : decode cX11_write 72 = .ok (.ireturn, 1) := by decide +kernel
theorem dX11_tear_0 : decode cX11_tear 0 = .ok (.aload_n 0, 1) := by decide +kernel
theorem dX11_tear_1 : decode cX11_tear 1 = .ok (.getfield 198, 3) := by decide +kernel
theorem dX11_tear_4 : decode cX11_tear 4 = .ok (.istore_n 1, 1) := by decide +kernel
theorem dX11_tear_5 : decode cX11_tear 5 = .ok (.aload_n 0, 1) := by decide +kernel
theorem dX11_tear_6 : decode cX11_tear 6 = .ok (.iconst 0, 1) := by decide +kernel
theorem dX11_tear_7 : decode cX11_tear 7 = .ok (.putfield 198, 3) := by decide +kernel
theorem dX11_tear_10 : decode cX11_tear 10 = .ok (.iload_n 1, 1) := by decide +kernel
theorem dX11_tear_11 : decode cX11_tear 11 = .ok (.ireturn, 1) := by decide +kernel
theorem dX11_judge_0 : decode cX11_judge 0 = .ok (.iconst 0, 1) := by decide +kernel
theorem dX11_judge_1 : decode cX11_judge 1 = .ok (.istore_n 1, 1) := by decide +kernel
theorem dX11_judge_2 : decode cX11_judge 2 = .ok (.iload_n 1, 1) := by decide +kernel
theorem dX11_judge_3 : decode cX11_judge 3 = .ok (.aload_n 0, 1) := by decide +kernel
theorem dX11_judge_4 : decode cX11_judge 4 = .ok (.getfield 198, 3) := by decide +kernel
theorem dX11_judge_7 : decode cX11_judge 7 = .ok (.if_icmp .ge 31, 3) := by decide +kernel
theorem dX11_judge_10 : decode cX11_judge 10 = .ok (.aload_n 0, 1) := by decide +kernel
theorem dX11_judge_11 : decode cX11_judge 11 = .ok (.getfield 22, 3) := by decide +kernel
theorem dX11_judge_14 : decode cX11_judge 14 = .ok (.aload_n 0, 1) := by decide +kernel
theorem dX11_judge_15 : decode cX11_judge 15 = .ok (.getfield 59, 3) := by decide +kernel
theorem dX11_judge_18 : decode cX11_judge 18 = .ok (.iload_n 1, 1) := by decide +kernel
theorem dX11_judge_19 : decode cX11_judge 19 = .ok (.iaload, 1) := by decide +kernel
theorem dX11_judge_20 : decode cX11_judge 20 = .ok (.iaload, 1) := by decide +kernel
theorem dX11_judge_21 : decode cX11_judge 21 = .ok (.aload_n 0, 1) := by decide +kernel
theorem dX11_judge_22 : decode cX11_judge 22 = .ok (.getfield 62, 3) := by decide +kernel
theorem dX11_judge_25 : decode cX11_judge 25 = .ok (.iload_n 1, 1) := by decide +kernel
theorem dX11_judge_26 : decode cX11_judge 26 = .ok (.iaload, 1) := by decide +kernel
theorem dX11_judge_27 : decode cX11_judge 27 = .ok (.if_icmp .eq 5, 3) := by decide +kernel
theorem dX11_judge_30 : decode cX11_judge 30 = .ok (.iload_n 1, 1) := by decide +kernel
theorem dX11_judge_31 : decode cX11_judge 31 = .ok (.ireturn, 1) := by decide +kernel
theorem dX11_judge_32 : decode cX11_judge 32 = .ok (.iinc 1 1, 3) := by decide +kernel
theorem dX11_judge_35 : decode cX11_judge 35 = .ok (.goto (-33), 3) := by decide +kernel
theorem dX11_judge_38 : decode cX11_judge 38 = .ok (.iconst (-1), 1) := by decide +kernel
theorem dX11_judge_39 : decode cX11_judge 39 = .ok (.ireturn, 1) := by decide +kernel
theorem dX11_seed_0 : decode cX11_seed 0 = .ok (.iload_n 1, 1) := by decide +kernel
theorem dX11_seed_1 : decode cX11_seed 1 = .ok (.ifCond .ge 6, 3) := by decide +kernel
theorem dX11_seed_4 : decode cX11_seed 4 = .ok (.ldc 97, 2) := by decide +kernel
theorem dX11_seed_6 : decode cX11_seed 6 = .ok (.ireturn, 1) := by decide +kernel
theorem dX11_seed_7 : decode cX11_seed 7 = .ok (.aload_n 0, 1) := by decide +kernel
theorem dX11_seed_8 : decode cX11_seed 8 = .ok (.getfield 281, 3) := by decide +kernel
theorem dX11_seed_11 : decode cX11_seed 11 = .ok (.istore_n 2, 1) := by decide +kernel
theorem dX11_seed_12 : decode cX11_seed 12 = .ok (.aload_n 0, 1) := by decide +kernel
theorem dX11_seed_13 : decode cX11_seed 13 = .ok (.iload_n 1, 1) := by decide +kernel
theorem dX11_seed_14 : decode cX11_seed 14 = .ok (.putfield 281, 3) := by decide +kernel
theorem dX11_seed_17 : decode cX11_seed 17 = .ok (.iload_n 2, 1) := by decide +kernel
theorem dX11_seed_18 : decode cX11_seed 18 = .ok (.ireturn, 1) := by decide +kernel
theorem dX11_keep_0 : decode cX11_keep 0 = .ok (.iload_n 1, 1) := by decide +kernel
theorem dX11_keep_1 : decode cX11_keep 1 = .ok (.i2l, 1) := by decide +kernel
theorem dX11_keep_2 : decode cX11_keep 2 = .ok (.lconst 0, 1) := by decide +kernel
theorem dX11_keep_3 : decode cX11_keep 3 = .ok (.lconst 1, 1) := by decide +kernel
theorem dX11_keep_4 : decode cX11_keep 4 = .ok (.invokestatic 82, 3) := by decide +kernel
theorem dX11_keep_7 : decode cX11_keep 7 = .ok (.ifCond .ne 6, 3) := by decide +kernel
theorem dX11_keep_10 : decode cX11_keep 10 = .ok (.ldc 244, 2) := by decide +kernel
theorem dX11_keep_12 : decode cX11_keep 12 = .ok (.ireturn, 1) := by decide +kernel
theorem dX11_keep_13 : decode cX11_keep 13 = .ok (.iconst 0, 1) := by decide +kernel
theorem dX11_keep_14 : decode cX11_keep 14 = .ok (.istore_n 2, 1) := by decide +kernel
theorem dX11_keep_15 : decode cX11_keep 15 = .ok (.iload_n 2, 1) := by decide +kernel
theorem dX11_keep_16 : decode cX11_keep 16 = .ok (.bipush 34, 2) := by decide +kernel
theorem dX11_keep_18 : decode cX11_keep 18 = .ok (.if_icmp .ge 26, 3) := by decide +kernel
theorem dX11_keep_21 : decode cX11_keep 21 = .ok (.aload_n 0, 1) := by decide +kernel
theorem dX11_keep_22 : decode cX11_keep 22 = .ok (.getfield 65, 3) := by decide +kernel
theorem dX11_keep_25 : decode cX11_keep 25 = .ok (.bipush 35, 2) := by decide +kernel
theorem dX11_keep_27 : decode cX11_keep 27 = .ok (.iload_n 1, 1) := by decide +kernel
theorem dX11_keep_28 : decode cX11_keep 28 = .ok (.imul, 1) := by decide +kernel
theorem dX11_keep_29 : decode cX11_keep 29 = .ok (.iload_n 2, 1) := by decide +kernel
theorem dX11_keep_30 : decode cX11_keep 30 = .ok (.iadd, 1) := by decide +kernel
theorem dX11_keep_31 : decode cX11_keep 31 = .ok (.aload_n 0, 1) := by decide +kernel
theorem dX11_keep_32 : decode cX11_keep 32 = .ok (.getfield 22, 3) := by decide +kernel
theorem dX11_keep_35 : decode cX11_keep 35 = .ok (.iload_n 2, 1) := by decide +kernel
theorem dX11_keep_36 : decode cX11_keep 36 = .ok (.iaload, 1) := by decide +kernel
theorem dX11_keep_37 : decode cX11_keep 37 = .ok (.iastore, 1) := by decide +kernel
theorem dX11_keep_38 : decode cX11_keep 38 = .ok (.iinc 2 1, 3) := by decide +kernel
theorem dX11_keep_41 : decode cX11_keep 41 = .ok (.goto (-26), 3) := by decide +kernel
theorem dX11_keep_44 : decode cX11_keep 44 = .ok (.aload_n 0, 1) := by decide +kernel
theorem dX11_keep_45 : decode cX11_keep 45 = .ok (.getfield 65, 3) := by decide +kernel
theorem dX11_keep_48 : decode cX11_keep 48 = .ok (.bipush 35, 2) := by decide +kernel
theorem dX11_keep_50 : decode cX11_keep 50 = .ok (.iload_n 1, 1) := by decide +kernel
theorem dX11_keep_51 : decode cX11_keep 51 = .ok (.imul, 1) := by decide +kernel
theorem dX11_keep_52 : decode cX11_keep 52 = .ok (.bipush 34, 2) := by decide +kernel
theorem dX11_keep_54 : decode cX11_keep 54 = .ok (.iadd, 1) := by decide +kernel
theorem dX11_keep_55 : decode cX11_keep 55 = .ok (.aload_n 0, 1) := by decide +kernel
theorem dX11_keep_56 : decode cX11_keep 56 = .ok (.getfield 281, 3) := by decide +kernel
theorem dX11_keep_59 : decode cX11_keep 59 = .ok (.iastore, 1) := by decide +kernel
theorem dX11_keep_60 : decode cX11_keep 60 = .ok (.aload_n 0, 1) := by decide +kernel
theorem dX11_keep_61 : decode cX11_keep 61 = .ok (.getfield 68, 3) := by decide +kernel
theorem dX11_keep_64 : decode cX11_keep 64 = .ok (.iload_n 1, 1) := by decide +kernel
theorem dX11_keep_65 : decode cX11_keep 65 = .ok (.iconst 1, 1) := by decide +kernel
theorem dX11_keep_66 : decode cX11_keep 66 = .ok (.bastore, 1) := by decide +kernel
theorem dX11_keep_67 : decode cX11_keep 67 = .ok (.aload_n 0, 1) := by decide +kernel
theorem dX11_keep_68 : decode cX11_keep 68 = .ok (.iconst 0, 1) := by decide +kernel
theorem dX11_keep_69 : decode cX11_keep 69 = .ok (.putfield 201, 3) := by decide +kernel
theorem dX11_keep_72 : decode cX11_keep 72 = .ok (.iconst 1, 1) := by decide +kernel
theorem dX11_keep_73 : decode cX11_keep 73 = .ok (.ireturn, 1) := by decide +kernel
theorem dX11_goBack_0 : decode cX11_goBack 0 = .ok (.iload_n 1, 1) := by decide +kernel
theorem dX11_goBack_1 : decode cX11_goBack 1 = .ok (.i2l, 1) := by decide +kernel
theorem dX11_goBack_2 : decode cX11_goBack 2 = .ok (.lconst 0, 1) := by decide +kernel
theorem dX11_goBack_3 : decode cX11_goBack 3 = .ok (.lconst 1, 1) := by decide +kernel
theorem dX11_goBack_4 : decode cX11_goBack 4 = .ok (.invokestatic 82, 3) := by decide +kernel
theorem dX11_goBack_7 : decode cX11_goBack 7 = .ok (.ifCond .ne 6, 3) := by decide +kernel
theorem dX11_goBack_10 : decode cX11_goBack 10 = .ok (.ldc 244, 2) := by decide +kernel
theorem dX11_goBack_12 : decode cX11_goBack 12 = .ok (.ireturn, 1) := by decide +kernel
theorem dX11_goBack_13 : decode cX11_goBack 13 = .ok (.aload_n 0, 1) := by decide +kernel
theorem dX11_goBack_14 : decode cX11_goBack 14 = .ok (.getfield 68, 3) := by decide +kernel
theorem dX11_goBack_17 : decode cX11_goBack 17 = .ok (.iload_n 1, 1) := by decide +kernel
theorem dX11_goBack_18 : decode cX11_goBack 18 = .ok (.baload, 1) := by decide +kernel
theorem dX11_goBack_19 : decode cX11_goBack 19 = .ok (.ifCond .ne 7, 3) := by decide +kernel
theorem dX11_goBack_22 : decode cX11_goBack 22 = .ok (.ldc_w 269, 3) := by decide +kernel
theorem dX11_goBack_25 : decode cX11_goBack 25 = .ok (.ireturn, 1) := by decide +kernel
theorem dX11_goBack_26 : decode cX11_goBack 26 = .ok (.iconst 0, 1) := by decide +kernel
theorem dX11_goBack_27 : decode cX11_goBack 27 = .ok (.istore_n 2, 1) := by decide +kernel
theorem dX11_goBack_28 : decode cX11_goBack 28 = .ok (.iload_n 2, 1) := by decide +kernel
theorem dX11_goBack_29 : decode cX11_goBack 29 = .ok (.bipush 34, 2) := by decide +kernel
theorem dX11_goBack_31 : decode cX11_goBack 31 = .ok (.if_icmp .ge 26, 3) := by decide +kernel
theorem dX11_goBack_34 : decode cX11_goBack 34 = .ok (.aload_n 0, 1) := by decide +kernel
theorem dX11_goBack_35 : decode cX11_goBack 35 = .ok (.getfield 22, 3) := by decide +kernel
theorem dX11_goBack_38 : decode cX11_goBack 38 = .ok (.iload_n 2, 1) := by decide +kernel
theorem dX11_goBack_39 : decode cX11_goBack 39 = .ok (.aload_n 0, 1) := by decide +kernel
theorem dX11_goBack_40 : decode cX11_goBack 40 = .ok (.getfield 65, 3) := by decide +kernel
theorem dX11_goBack_43 : decode cX11_goBack 43 = .ok (.bipush 35, 2) := by decide +kernel
theorem dX11_goBack_45 : decode cX11_goBack 45 = .ok (.iload_n 1, 1) := by decide +kernel
theorem dX11_goBack_46 : decode cX11_goBack 46 = .ok (.imul, 1) := by decide +kernel
theorem dX11_goBack_47 : decode cX11_goBack 47 = .ok (.iload_n 2, 1) := by decide +kernel
theorem dX11_goBack_48 : decode cX11_goBack 48 = .ok (.iadd, 1) := by decide +kernel
theorem dX11_goBack_49 : decode cX11_goBack 49 = .ok (.iaload, 1) := by decide +kernel
theorem dX11_goBack_50 : decode cX11_goBack 50 = .ok (.iastore, 1) := by decide +kernel
theorem dX11_goBack_51 : decode cX11_goBack 51 = .ok (.iinc 2 1, 3) := by decide +kernel
theorem dX11_goBack_54 : decode cX11_goBack 54 = .ok (.goto (-26), 3) := by decide +kernel
theorem dX11_goBack_57 : decode cX11_goBack 57 = .ok (.aload_n 0, 1) := by decide +kernel
theorem dX11_goBack_58 : decode cX11_goBack 58 = .ok (.aload_n 0, 1) := by decide +kernel
theorem dX11_goBack_59 : decode cX11_goBack 59 = .ok (.getfield 65, 3) := by decide +kernel
theorem dX11_goBack_62 : decode cX11_goBack 62 = .ok (.bipush 35, 2) := by decide +kernel
theorem dX11_goBack_64 : decode cX11_goBack 64 = .ok (.iload_n 1, 1) := by decide +kernel
theorem dX11_goBack_65 : decode cX11_goBack 65 = .ok (.imul, 1) := by decide +kernel
theorem dX11_goBack_66 : decode cX11_goBack 66 = .ok (.bipush 34, 2) := by decide +kernel
theorem dX11_goBack_68 : decode cX11_goBack 68 = .ok (.iadd, 1) := by decide +kernel
theorem dX11_goBack_69 : decode cX11_goBack 69 = .ok (.iaload, 1) := by decide +kernel
theorem dX11_goBack_70 : decode cX11_goBack 70 = .ok (.putfield 281, 3) := by decide +kernel
theorem dX11_goBack_73 : decode cX11_goBack 73 = .ok (.aload_n 0, 1) := by decide +kernel
theorem dX11_goBack_74 : decode cX11_goBack 74 = .ok (.iconst 0, 1) := by decide +kernel
theorem dX11_goBack_75 : decode cX11_goBack 75 = .ok (.putfield 201, 3) := by decide +kernel
theorem dX11_goBack_78 : decode cX11_goBack 78 = .ok (.iconst 1, 1) := by decide +kernel
theorem dX11_goBack_79 : decode cX11_goBack 79 = .ok (.ireturn, 1) := by decide +kernel
theorem dJ6_bitCount_0f7a4_0 : decode cJ6_bitCount_0f7a4 0 = .ok (.iload_n 0, 1) := by decide +kernel
theorem dJ6_bitCount_0f7a4_1 : decode cJ6_bitCount_0f7a4 1 = .ok (.iload_n 0, 1) := by decide +kernel
theorem dJ6_bitCount_0f7a4_2 : decode cJ6_bitCount_0f7a4 2 = .ok (.iconst 1, 1) := by decide +kernel
theorem dJ6_bitCount_0f7a4_3 : decode cJ6_bitCount_0f7a4 3 = .ok (.iushr, 1) := by decide +kernel
theorem dJ6_bitCount_0f7a4_4 : decode cJ6_bitCount_0f7a4 4 = .ok (.ldc_w 265, 3) := by decide +kernel
theorem dJ6_bitCount_0f7a4_7 : decode cJ6_bitCount_0f7a4 7 = .ok (.iand, 1) := by decide +kernel
theorem dJ6_bitCount_0f7a4_8 : decode cJ6_bitCount_0f7a4 8 = .ok (.isub, 1) := by decide +kernel
theorem dJ6_bitCount_0f7a4_9 : decode cJ6_bitCount_0f7a4 9 = .ok (.istore_n 0, 1) := by decide +kernel
theorem dJ6_bitCount_0f7a4_10 : decode cJ6_bitCount_0f7a4 10 = .ok (.iload_n 0, 1) := by decide +kernel
theorem dJ6_bitCount_0f7a4_11 : decode cJ6_bitCount_0f7a4 11 = .ok (.ldc_w 266, 3) := by decide +kernel
theorem dJ6_bitCount_0f7a4_14 : decode cJ6_bitCount_0f7a4 14 = .ok (.iand, 1) := by decide +kernel
theorem dJ6_bitCount_0f7a4_15 : decode cJ6_bitCount_0f7a4 15 = .ok (.iload_n 0, 1) := by decide +kernel
theorem dJ6_bitCount_0f7a4_16 : decode cJ6_bitCount_0f7a4 16 = .ok (.iconst 2, 1) := by decide +kernel
theorem dJ6_bitCount_0f7a4_17 : decode cJ6_bitCount_0f7a4 17 = .ok (.iushr, 1) := by decide +kernel
theorem dJ6_bitCount_0f7a4_18 : decode cJ6_bitCount_0f7a4 18 = .ok (.ldc_w 266, 3) := by decide +kernel
theorem dJ6_bitCount_0f7a4_21 : decode cJ6_bitCount_0f7a4 21 = .ok (.iand, 1) := by decide +kernel
theorem dJ6_bitCount_0f7a4_22 : decode cJ6_bitCount_0f7a4 22 = .ok (.iadd, 1) := by decide +kernel
theorem dJ6_bitCount_0f7a4_23 : decode cJ6_bitCount_0f7a4 23 = .ok (.istore_n 0, 1) := by decide +kernel
theorem dJ6_bitCount_0f7a4_24 : decode cJ6_bitCount_0f7a4 24 = .ok (.iload_n 0, 1) := by decide +kernel
theorem dJ6_bitCount_0f7a4_25 : decode cJ6_bitCount_0f7a4 25 = .ok (.iload_n 0, 1) := by decide +kernel
theorem dJ6_bitCount_0f7a4_26 : decode cJ6_bitCount_0f7a4 26 = .ok (.iconst 4, 1) := by decide +kernel
theorem dJ6_bitCount_0f7a4_27 : decode cJ6_bitCount_0f7a4 27 = .ok (.iushr, 1) := by decide +kernel
theorem dJ6_bitCount_0f7a4_28 : decode cJ6_bitCount_0f7a4 28 = .ok (.iadd, 1) := by decide +kernel
theorem dJ6_bitCount_0f7a4_29 : decode cJ6_bitCount_0f7a4 29 = .ok (.ldc_w 267, 3) := by decide +kernel
theorem dJ6_bitCount_0f7a4_32 : decode cJ6_bitCount_0f7a4 32 = .ok (.iand, 1) := by decide +kernel
theorem dJ6_bitCount_0f7a4_33 : decode cJ6_bitCount_0f7a4 33 = .ok (.istore_n 0, 1) := by decide +kernel
theorem dJ6_bitCount_0f7a4_34 : decode cJ6_bitCount_0f7a4 34 = .ok (.iload_n 0, 1) := by decide +kernel
theorem dJ6_bitCount_0f7a4_35 : decode cJ6_bitCount_0f7a4 35 = .ok (.iload_n 0, 1) := by decide +kernel
theorem dJ6_bitCount_0f7a4_36 : decode cJ6_bitCount_0f7a4 36 = .ok (.bipush 8, 2) := by decide +kernel
theorem dJ6_bitCount_0f7a4_38 : decode cJ6_bitCount_0f7a4 38 = .ok (.iushr, 1) := by decide +kernel
theorem dJ6_bitCount_0f7a4_39 : decode cJ6_bitCount_0f7a4 39 = .ok (.iadd, 1) := by decide +kernel
theorem dJ6_bitCount_0f7a4_40 : decode cJ6_bitCount_0f7a4 40 = .ok (.istore_n 0, 1) := by decide +kernel
theorem dJ6_bitCount_0f7a4_41 : decode cJ6_bitCount_0f7a4 41 = .ok (.iload_n 0, 1) := by decide +kernel
theorem dJ6_bitCount_0f7a4_42 : decode cJ6_bitCount_0f7a4 42 = .ok (.iload_n 0, 1) := by decide +kernel
theorem dJ6_bitCount_0f7a4_43 : decode cJ6_bitCount_0f7a4 43 = .ok (.bipush 16, 2) := by decide +kernel
theorem dJ6_bitCount_0f7a4_45 : decode cJ6_bitCount_0f7a4 45 = .ok (.iushr, 1) := by decide +kernel
theorem dJ6_bitCount_0f7a4_46 : decode cJ6_bitCount_0f7a4 46 = .ok (.iadd, 1) := by decide +kernel
theorem dJ6_bitCount_0f7a4_47 : decode cJ6_bitCount_0f7a4 47 = .ok (.istore_n 0, 1) := by decide +kernel
theorem dJ6_bitCount_0f7a4_48 : decode cJ6_bitCount_0f7a4 48 = .ok (.iload_n 0, 1) := by decide +kernel
theorem dJ6_bitCount_0f7a4_49 : decode cJ6_bitCount_0f7a4 49 = .ok (.bipush 63, 2) := by decide +kernel
theorem dJ6_bitCount_0f7a4_51 : decode cJ6_bitCount_0f7a4 51 = .ok (.iand, 1) := by decide +kernel
theorem dJ6_bitCount_0f7a4_52 : decode cJ6_bitCount_0f7a4 52 = .ok (.ireturn, 1) := by decide +kernel
theorem dJ9_max_7cf53_0 : decode cJ9_max_7cf53 0 = .ok (.iload_n 0, 1) := by decide +kernel
theorem dJ9_max_7cf53_1 : decode cJ9_max_7cf53 1 = .ok (.iload_n 1, 1) := by decide +kernel
theorem dJ9_max_7cf53_2 : decode cJ9_max_7cf53 2 = .ok (.if_icmp .lt 7, 3) := by decide +kernel
theorem dJ9_max_7cf53_5 : decode cJ9_max_7cf53 5 = .ok (.iload_n 0, 1) := by decide +kernel
theorem dJ9_max_7cf53_6 : decode cJ9_max_7cf53 6 = .ok (.goto 4, 3) := by decide +kernel
theorem dJ9_max_7cf53_9 : decode cJ9_max_7cf53 9 = .ok (.iload_n 1, 1) := by decide +kernel
theorem dJ9_max_7cf53_10 : decode cJ9_max_7cf53 10 = .ok (.ireturn, 1) := by decide +kernel
theorem dJ9_min_7cf53_0 : decode cJ9_min_7cf53 0 = .ok (.iload_n 0, 1) := by decide +kernel
theorem dJ9_min_7cf53_1 : decode cJ9_min_7cf53 1 = .ok (.iload_n 1, 1) := by decide +kernel
theorem dJ9_min_7cf53_2 : decode cJ9_min_7cf53 2 = .ok (.if_icmp .gt 7, 3) := by decide +kernel
theorem dJ9_min_7cf53_5 : decode cJ9_min_7cf53 5 = .ok (.iload_n 0, 1) := by decide +kernel
theorem dJ9_min_7cf53_6 : decode cJ9_min_7cf53 6 = .ok (.goto 4, 3) := by decide +kernel
theorem dJ9_min_7cf53_9 : decode cJ9_min_7cf53 9 = .ok (.iload_n 1, 1) := by decide +kernel
theorem dJ9_min_7cf53_10 : decode cJ9_min_7cf53 10 = .ok (.ireturn, 1) := by decide +kernel
theorem dL_law_0 : decode cL_law 0 = .ok (.new 7, 3) := by decide +kernel
theorem dL_law_3 : decode cL_law 3 = .ok (.dup, 1) := by decide +kernel
theorem dL_law_4 : decode cL_law 4 = .ok (.invokespecial 9, 3) := by decide +kernel
theorem dL_law_7 : decode cL_law 7 = .ok (.astore_n 1, 1) := by decide +kernel
theorem dL_law_8 : decode cL_law 8 = .ok (.new 10, 3) := by decide +kernel
theorem dL_law_11 : decode cL_law 11 = .ok (.dup, 1) := by decide +kernel
theorem dL_law_12 : decode cL_law 12 = .ok (.invokespecial 12, 3) := by decide +kernel
theorem dL_law_15 : decode cL_law 15 = .ok (.astore_n 2, 1) := by decide +kernel
theorem dL_law_16 : decode cL_law 16 = .ok (.iconst 0, 1) := by decide +kernel
theorem dL_law_17 : decode cL_law 17 = .ok (.istore_n 3, 1) := by decide +kernel
theorem dL_law_18 : decode cL_law 18 = .ok (.iload_n 3, 1) := by decide +kernel
theorem dL_law_19 : decode cL_law 19 = .ok (.aload_n 0, 1) := by decide +kernel
theorem dL_law_20 : decode cL_law 20 = .ok (.arraylength, 1) := by decide +kernel
theorem dL_law_21 : decode cL_law 21 = .ok (.bipush 6, 2) := by decide +kernel
theorem dL_law_23 : decode cL_law 23 = .ok (.isub, 1) := by decide +kernel
theorem dL_law_24 : decode cL_law 24 = .ok (.if_icmp .gt 993, 3) := by decide +kernel
theorem dL_law_27 : decode cL_law 27 = .ok (.aload_n 0, 1) := by decide +kernel
theorem dL_law_28 : decode cL_law 28 = .ok (.iload_n 3, 1) := by decide +kernel
theorem dL_law_29 : decode cL_law 29 = .ok (.iaload, 1) := by decide +kernel
theorem dL_law_30 : decode cL_law 30 = .ok (.bipush 31, 2) := by decide +kernel
theorem dL_law_32 : decode cL_law 32 = .ok (.iand, 1) := by decide +kernel
theorem dL_law_33 : decode cL_law 33 = .ok (.tableswitch 978 0 30 #[139, 162, 175, 188, 211, 234, 257, 290, 323, 356, 369, 392, 425, 448, 497, 520, 533, 566, 599, 662, 715, 738, 761, 774, 817, 850, 883, 896, 909, 932, 955], 139) := by decide +kernel
theorem dL_law_172 : decode cL_law 172 = .ok (.aload_n 1, 1) := by decide +kernel
theorem dL_law_173 : decode cL_law 173 = .ok (.aload_n 0, 1) := by decide +kernel
theorem dL_law_174 : decode cL_law 174 = .ok (.iload_n 3, 1) := by decide +kernel
theorem dL_law_175 : decode cL_law 175 = .ok (.iconst 1, 1) := by decide +kernel
theorem dL_law_176 : decode cL_law 176 = .ok (.iadd, 1) := by decide +kernel
theorem dL_law_177 : decode cL_law 177 = .ok (.iaload, 1) := by decide +kernel
theorem dL_law_178 : decode cL_law 178 = .ok (.invokevirtual 13, 3) := by decide +kernel
theorem dL_law_181 : decode cL_law 181 = .ok (.aload_n 2, 1) := by decide +kernel
theorem dL_law_182 : decode cL_law 182 = .ok (.aload_n 0, 1) := by decide +kernel
theorem dL_law_183 : decode cL_law 183 = .ok (.iload_n 3, 1) := by decide +kernel
theorem dL_law_184 : decode cL_law 184 = .ok (.iconst 1, 1) := by decide +kernel
theorem dL_law_185 : decode cL_law 185 = .ok (.iadd, 1) := by decide +kernel
theorem dL_law_186 : decode cL_law 186 = .ok (.iaload, 1) := by decide +kernel
theorem dL_law_187 : decode cL_law 187 = .ok (.invokevirtual 17, 3) := by decide +kernel
theorem dL_law_190 : decode cL_law 190 = .ok (.if_icmp .eq 821, 3) := by decide +kernel
theorem dL_law_193 : decode cL_law 193 = .ok (.iconst 0, 1) := by decide +kernel
theorem dL_law_194 : decode cL_law 194 = .ok (.ireturn, 1) := by decide +kernel
theorem dL_law_195 : decode cL_law 195 = .ok (.aload_n 1, 1) := by decide +kernel
theorem dL_law_196 : decode cL_law 196 = .ok (.invokevirtual 18, 3) := by decide +kernel
theorem dL_law_199 : decode cL_law 199 = .ok (.aload_n 2, 1) := by decide +kernel
theorem dL_law_200 : decode cL_law 200 = .ok (.invokevirtual 22, 3) := by decide +kernel
theorem dL_law_203 : decode cL_law 203 = .ok (.if_icmp .eq 808, 3) := by decide +kernel
theorem dL_law_206 : decode cL_law 206 = .ok (.iconst 0, 1) := by decide +kernel
theorem dL_law_207 : decode cL_law 207 = .ok (.ireturn, 1) := by decide +kernel
theorem dL_law_208 : decode cL_law 208 = .ok (.aload_n 1, 1) := by decide +kernel
theorem dL_law_209 : decode cL_law 209 = .ok (.invokevirtual 23, 3) := by decide +kernel
theorem dL_law_212 : decode cL_law 212 = .ok (.aload_n 2, 1) := by decide +kernel
theorem dL_law_213 : decode cL_law 213 = .ok (.invokevirtual 26, 3) := by decide +kernel
theorem dL_law_216 : decode cL_law 216 = .ok (.if_icmp .eq 795, 3) := by decide +kernel
theorem dL_law_219 : decode cL_law 219 = .ok (.iconst 0, 1) := by decide +kernel
theorem dL_law_220 : decode cL_law 220 = .ok (.ireturn, 1) := by decide +kernel
theorem dL_law_221 : decode cL_law 221 = .ok (.aload_n 1, 1) := by decide +kernel
theorem dL_law_222 : decode cL_law 222 = .ok (.aload_n 0, 1) := by decide +kernel
theorem dL_law_223 : decode cL_law 223 = .ok (.iload_n 3, 1) := by decide +kernel
theorem dL_law_224 : decode cL_law 224 = .ok (.iconst 1, 1) := by decide +kernel
theorem dL_law_225 : decode cL_law 225 = .ok (.iadd, 1) := by decide +kernel
theorem dL_law_226 : decode cL_law 226 = .ok (.iaload, 1) := by decide +kernel
theorem dL_law_227 : decode cL_law 227 = .ok (.invokevirtual 27, 3) := by decide +kernel
theorem dL_law_230 : decode cL_law 230 = .ok (.aload_n 2, 1) := by decide +kernel
theorem dL_law_231 : decode cL_law 231 = .ok (.aload_n 0, 1) := by decide +kernel
theorem dL_law_232 : decode cL_law 232 = .ok (.iload_n 3, 1) := by decide +kernel
theorem dL_law_233 : decode cL_law 233 = .ok (.iconst 1, 1) := by decide +kernel
theorem dL_law_234 : decode cL_law 234 = .ok (.iadd, 1) := by decide +kernel
theorem dL_law_235 : decode cL_law 235 = .ok (.iaload, 1) := by decide +kernel
theorem dL_law_236 : decode cL_law 236 = .ok (.invokevirtual 30, 3) := by decide +kernel
theorem dL_law_239 : decode cL_law 239 = .ok (.if_icmp .eq 772, 3) := by decide +kernel
theorem dL_law_242 : decode cL_law 242 = .ok (.iconst 0, 1) := by decide +kernel
theorem dL_law_243 : decode cL_law 243 = .ok (.ireturn, 1) := by decide +kernel
theorem dL_law_244 : decode cL_law 244 = .ok (.aload_n 1, 1) := by decide +kernel
theorem dL_law_245 : decode cL_law 245 = .ok (.aload_n 0, 1) := by decide +kernel
theorem dL_law_246 : decode cL_law 246 = .ok (.iload_n 3, 1) := by decide +kernel
theorem dL_law_247 : decode cL_law 247 = .ok (.iconst 1, 1) := by decide +kernel
theorem dL_law_248 : decode cL_law 248 = .ok (.iadd, 1) := by decide +kernel
theorem dL_law_249 : decode cL_law 249 = .ok (.iaload, 1) := by decide +kernel
theorem dL_law_250 : decode cL_law 250 = .ok (.invokevirtual 31, 3) := by decide +kernel
theorem dL_law_253 : decode cL_law 253 = .ok (.aload_n 2, 1) := by decide +kernel
theorem dL_law_254 : decode cL_law 254 = .ok (.aload_n 0, 1) := by decide +kernel
theorem dL_law_255 : decode cL_law 255 = .ok (.iload_n 3, 1) := by decide +kernel
theorem dL_law_256 : decode cL_law 256 = .ok (.iconst 1, 1) := by decide +kernel
theorem dL_law_257 : decode cL_law 257 = .ok (.iadd, 1) := by decide +kernel
theorem dL_law_258 : decode cL_law 258 = .ok (.iaload, 1) := by decide +kernel
theorem dL_law_259 : decode cL_law 259 = .ok (.invokevirtual 34, 3) := by decide +kernel
theorem dL_law_262 : decode cL_law 262 = .ok (.if_icmp .eq 749, 3) := by decide +kernel
theorem dL_law_265 : decode cL_law 265 = .ok (.iconst 0, 1) := by decide +kernel
theorem dL_law_266 : decode cL_law 266 = .ok (.ireturn, 1) := by decide +kernel
theorem dL_law_267 : decode cL_law 267 = .ok (.aload_n 1, 1) := by decide +kernel
theorem dL_law_268 : decode cL_law 268 = .ok (.aload_n 0, 1) := by decide +kernel
theorem dL_law_269 : decode cL_law 269 = .ok (.iload_n 3, 1) := by decide +kernel
theorem dL_law_270 : decode cL_law 270 = .ok (.iconst 1, 1) := by decide +kernel
theorem dL_law_271 : decode cL_law 271 = .ok (.iadd, 1) := by decide +kernel
theorem dL_law_272 : decode cL_law 272 = .ok (.iaload, 1) := by decide +kernel
theorem dL_law_273 : decode cL_law 273 = .ok (.invokevirtual 35, 3) := by decide +kernel
theorem dL_law_276 : decode cL_law 276 = .ok (.aload_n 2, 1) := by decide +kernel
theorem dL_law_277 : decode cL_law 277 = .ok (.aload_n 0, 1) := by decide +kernel
theorem dL_law_278 : decode cL_law 278 = .ok (.iload_n 3, 1) := by decide +kernel
theorem dL_law_279 : decode cL_law 279 = .ok (.iconst 1, 1) := by decide +kernel
theorem dL_law_280 : decode cL_law 280 = .ok (.iadd, 1) := by decide +kernel
theorem dL_law_281 : decode cL_law 281 = .ok (.iaload, 1) := by decide +kernel
theorem dL_law_282 : decode cL_law 282 = .ok (.invokevirtual 38, 3) := by decide +kernel
theorem dL_law_285 : decode cL_law 285 = .ok (.if_icmp .eq 726, 3) := by decide +kernel
theorem dL_law_288 : decode cL_law 288 = .ok (.iconst 0, 1) := by decide +kernel
theorem dL_law_289 : decode cL_law 289 = .ok (.ireturn, 1) := by decide +kernel
theorem dL_law_290 : decode cL_law 290 = .ok (.aload_n 1, 1) := by decide +kernel
theorem dL_law_291 : decode cL_law 291 = .ok (.aload_n 0, 1) := by decide +kernel
theorem dL_law_292 : decode cL_law 292 = .ok (.iload_n 3, 1) := by decide +kernel
theorem dL_law_293 : decode cL_law 293 = .ok (.iconst 1, 1) := by decide +kernel
theorem dL_law_294 : decode cL_law 294 = .ok (.iadd, 1) := by decide +kernel
theorem dL_law_295 : decode cL_law 295 = .ok (.iaload, 1) := by decide +kernel
theorem dL_law_296 : decode cL_law 296 = .ok (.aload_n 0, 1) := by decide +kernel
theorem dL_law_297 : decode cL_law 297 = .ok (.iload_n 3, 1) := by decide +kernel
theorem dL_law_298 : decode cL_law 298 = .ok (.iconst 2, 1) := by decide +kernel
theorem dL_law_299 : decode cL_law 299 = .ok (.iadd, 1) := by decide +kernel
theorem dL_law_300 : decode cL_law 300 = .ok (.iaload, 1) := by decide +kernel
theorem dL_law_301 : decode cL_law 301 = .ok (.invokevirtual 39, 3) := by decide +kernel
theorem dL_law_304 : decode cL_law 304 = .ok (.aload_n 2, 1) := by decide +kernel
theorem dL_law_305 : decode cL_law 305 = .ok (.aload_n 0, 1) := by decide +kernel
theorem dL_law_306 : decode cL_law 306 = .ok (.iload_n 3, 1) := by decide +kernel
theorem dL_law_307 : decode cL_law 307 = .ok (.iconst 1, 1) := by decide +kernel
theorem dL_law_308 : decode cL_law 308 = .ok (.iadd, 1) := by decide +kernel
theorem dL_law_309 : decode cL_law 309 = .ok (.iaload, 1) := by decide +kernel
theorem dL_law_310 : decode cL_law 310 = .ok (.aload_n 0, 1) := by decide +kernel
theorem dL_law_311 : decode cL_law 311 = .ok (.iload_n 3, 1) := by decide +kernel
theorem dL_law_312 : decode cL_law 312 = .ok (.iconst 2, 1) := by decide +kernel
theorem dL_law_313 : decode cL_law 313 = .ok (.iadd, 1) := by decide +kernel
theorem dL_law_314 : decode cL_law 314 = .ok (.iaload, 1) := by decide +kernel
theorem dL_law_315 : decode cL_law 315 = .ok (.invokevirtual 43, 3) := by decide +kernel
theorem dL_law_318 : decode cL_law 318 = .ok (.if_icmp .eq 693, 3) := by decide +kernel
theorem dL_law_321 : decode cL_law 321 = .ok (.iconst 0, 1) := by decide +kernel
theorem dL_law_322 : decode cL_law 322 = .ok (.ireturn, 1) := by decide +kernel
theorem dL_law_323 : decode cL_law 323 = .ok (.aload_n 1, 1) := by decide +kernel
theorem dL_law_324 : decode cL_law 324 = .ok (.aload_n 0, 1) := by decide +kernel
theorem dL_law_325 : decode cL_law 325 = .ok (.iload_n 3, 1) := by decide +kernel
theorem dL_law_326 : decode cL_law 326 = .ok (.iconst 1, 1) := by decide +kernel
theorem dL_law_327 : decode cL_law 327 = .ok (.iadd, 1) := by decide +kernel
theorem dL_law_328 : decode cL_law 328 = .ok (.iaload, 1) := by decide +kernel
theorem dL_law_329 : decode cL_law 329 = .ok (.aload_n 0, 1) := by decide +kernel
theorem dL_law_330 : decode cL_law 330 = .ok (.iload_n 3, 1) := by decide +kernel
theorem dL_law_331 : decode cL_law 331 = .ok (.iconst 2, 1) := by decide +kernel
theorem dL_law_332 : decode cL_law 332 = .ok (.iadd, 1) := by decide +kernel
theorem dL_law_333 : decode cL_law 333 = .ok (.iaload, 1) := by decide +kernel
theorem dL_law_334 : decode cL_law 334 = .ok (.invokevirtual 44, 3) := by decide +kernel
theorem dL_law_337 : decode cL_law 337 = .ok (.aload_n 2, 1) := by decide +kernel
theorem dL_law_338 : decode cL_law 338 = .ok (.aload_n 0, 1) := by decide +kernel
theorem dL_law_339 : decode cL_law 339 = .ok (.iload_n 3, 1) := by decide +kernel
theorem dL_law_340 : decode cL_law 340 = .ok (.iconst 1, 1) := by decide +kernel
theorem dL_law_341 : decode cL_law 341 = .ok (.iadd, 1) := by decide +kernel
theorem dL_law_342 : decode cL_law 342 = .ok (.iaload, 1) := by decide +kernel
theorem dL_law_343 : decode cL_law 343 = .ok (.aload_n 0, 1) := by decide +kernel
theorem dL_law_344 : decode cL_law 344 = .ok (.iload_n 3, 1) := by decide +kernel
theorem dL_law_345 : decode cL_law 345 = .ok (.iconst 2, 1) := by decide +kernel
theorem dL_law_346 : decode cL_law 346 = .ok (.iadd, 1) := by decide +kernel
theorem dL_law_347 : decode cL_law 347 = .ok (.iaload, 1) := by decide +kernel
theorem dL_law_348 : decode cL_law 348 = .ok (.invokevirtual 47, 3) := by decide +kernel
theorem dL_law_351 : decode cL_law 351 = .ok (.if_icmp .eq 660, 3) := by decide +kernel
theorem dL_law_354 : decode cL_law 354 = .ok (.iconst 0, 1) := by decide +kernel
theorem dL_law_355 : decode cL_law 355 = .ok (.ireturn, 1) := by decide +kernel
theorem dL_law_356 : decode cL_law 356 = .ok (.aload_n 1, 1) := by decide +kernel
theorem dL_law_357 : decode cL_law 357 = .ok (.aload_n 0, 1) := by decide +kernel
theorem dL_law_358 : decode cL_law 358 = .ok (.iload_n 3, 1) := by decide +kernel
theorem dL_law_359 : decode cL_law 359 = .ok (.iconst 1, 1) := by decide +kernel
theorem dL_law_360 : decode cL_law 360 = .ok (.iadd, 1) := by decide +kernel
theorem dL_law_361 : decode cL_law 361 = .ok (.iaload, 1) := by decide +kernel
theorem dL_law_362 : decode cL_law 362 = .ok (.aload_n 0, 1) := by decide +kernel
theorem dL_law_363 : decode cL_law 363 = .ok (.iload_n 3, 1) := by decide +kernel
theorem dL_law_364 : decode cL_law 364 = .ok (.iconst 2, 1) := by decide +kernel
theorem dL_law_365 : decode cL_law 365 = .ok (.iadd, 1) := by decide +kernel
theorem dL_law_366 : decode cL_law 366 = .ok (.iaload, 1) := by decide +kernel
theorem dL_law_367 : decode cL_law 367 = .ok (.invokevirtual 48, 3) := by decide +kernel
theorem dL_law_370 : decode cL_law 370 = .ok (.aload_n 2, 1) := by decide +kernel
theorem dL_law_371 : decode cL_law 371 = .ok (.aload_n 0, 1) := by decide +kernel
theorem dL_law_372 : decode cL_law 372 = .ok (.iload_n 3, 1) := by decide +kernel
theorem dL_law_373 : decode cL_law 373 = .ok (.iconst 1, 1) := by decide +kernel
theorem dL_law_374 : decode cL_law 374 = .ok (.iadd, 1) := by decide +kernel
theorem dL_law_375 : decode cL_law 375 = .ok (.iaload, 1) := by decide +kernel
theorem dL_law_376 : decode cL_law 376 = .ok (.aload_n 0, 1) := by decide +kernel
theorem dL_law_377 : decode cL_law 377 = .ok (.iload_n 3, 1) := by decide +kernel
theorem dL_law_378 : decode cL_law 378 = .ok (.iconst 2, 1) := by decide +kernel
theorem dL_law_379 : decode cL_law 379 = .ok (.iadd, 1) := by decide +kernel
theorem dL_law_380 : decode cL_law 380 = .ok (.iaload, 1) := by decide +kernel
theorem dL_law_381 : decode cL_law 381 = .ok (.invokevirtual 51, 3) := by decide +kernel
theorem dL_law_384 : decode cL_law 384 = .ok (.if_icmp .eq 627, 3) := by decide +kernel
theorem dL_law_387 : decode cL_law 387 = .ok (.iconst 0, 1) := by decide +kernel
theorem dL_law_388 : decode cL_law 388 = .ok (.ireturn, 1) := by decide +kernel
theorem dL_law_389 : decode cL_law 389 = .ok (.aload_n 1, 1) := by decide +kernel
theorem dL_law_390 : decode cL_law 390 = .ok (.invokevirtual 52, 3) := by decide +kernel
theorem dL_law_393 : decode cL_law 393 = .ok (.aload_n 2, 1) := by decide +kernel
theorem dL_law_394 : decode cL_law 394 = .ok (.invokevirtual 55, 3) := by decide +kernel
theorem dL_law_397 : decode cL_law 397 = .ok (.if_icmp .eq 614, 3) := by decide +kernel
theorem dL_law_400 : decode cL_law 400 = .ok (.iconst 0, 1) := by decide +kernel
theorem dL_law_401 : decode cL_law 401 = .ok (.ireturn, 1) := by decide +kernel
theorem dL_law_402 : decode cL_law 402 = .ok (.aload_n 1, 1) := by decide +kernel
theorem dL_law_403 : decode cL_law 403 = .ok (.aload_n 0, 1) := by decide +kernel
theorem dL_law_404 : decode cL_law 404 = .ok (.iload_n 3, 1) := by decide +kernel
theorem dL_law_405 : decode cL_law 405 = .ok (.iconst 1, 1) := by decide +kernel
theorem dL_law_406 : decode cL_law 406 = .ok (.iadd, 1) := by decide +kernel
theorem dL_law_407 : decode cL_law 407 = .ok (.iaload, 1) := by decide +kernel
theorem dL_law_408 : decode cL_law 408 = .ok (.invokevirtual 56, 3) := by decide +kernel
theorem dL_law_411 : decode cL_law 411 = .ok (.aload_n 2, 1) := by decide +kernel
theorem dL_law_412 : decode cL_law 412 = .ok (.aload_n 0, 1) := by decide +kernel
theorem dL_law_413 : decode cL_law 413 = .ok (.iload_n 3, 1) := by decide +kernel
theorem dL_law_414 : decode cL_law 414 = .ok (.iconst 1, 1) := by decide +kernel
theorem dL_law_415 : decode cL_law 415 = .ok (.iadd, 1) := by decide +kernel
theorem dL_law_416 : decode cL_law 416 = .ok (.iaload, 1) := by decide +kernel
theorem dL_law_417 : decode cL_law 417 = .ok (.invokevirtual 59, 3) := by decide +kernel
theorem dL_law_420 : decode cL_law 420 = .ok (.if_icmp .eq 591, 3) := by decide +kernel
theorem dL_law_423 : decode cL_law 423 = .ok (.iconst 0, 1) := by decide +kernel
theorem dL_law_424 : decode cL_law 424 = .ok (.ireturn, 1) := by decide +kernel
theorem dL_law_425 : decode cL_law 425 = .ok (.aload_n 1, 1) := by decide +kernel
theorem dL_law_426 : decode cL_law 426 = .ok (.aload_n 0, 1) := by decide +kernel
theorem dL_law_427 : decode cL_law 427 = .ok (.iload_n 3, 1) := by decide +kernel
theorem dL_law_428 : decode cL_law 428 = .ok (.iconst 1, 1) := by decide +kernel
theorem dL_law_429 : decode cL_law 429 = .ok (.iadd, 1) := by decide +kernel
theorem dL_law_430 : decode cL_law 430 = .ok (.iaload, 1) := by decide +kernel
theorem dL_law_431 : decode cL_law 431 = .ok (.aload_n 0, 1) := by decide +kernel
theorem dL_law_432 : decode cL_law 432 = .ok (.iload_n 3, 1) := by decide +kernel
theorem dL_law_433 : decode cL_law 433 = .ok (.iconst 2, 1) := by decide +kernel
theorem dL_law_434 : decode cL_law 434 = .ok (.iadd, 1) := by decide +kernel
theorem dL_law_435 : decode cL_law 435 = .ok (.iaload, 1) := by decide +kernel
theorem dL_law_436 : decode cL_law 436 = .ok (.invokevirtual 60, 3) := by decide +kernel
theorem dL_law_439 : decode cL_law 439 = .ok (.aload_n 2, 1) := by decide +kernel
theorem dL_law_440 : decode cL_law 440 = .ok (.aload_n 0, 1) := by decide +kernel
theorem dL_law_441 : decode cL_law 441 = .ok (.iload_n 3, 1) := by decide +kernel
theorem dL_law_442 : decode cL_law 442 = .ok (.iconst 1, 1) := by decide +kernel
theorem dL_law_443 : decode cL_law 443 = .ok (.iadd, 1) := by decide +kernel
theorem dL_law_444 : decode cL_law 444 = .ok (.iaload, 1) := by decide +kernel
theorem dL_law_445 : decode cL_law 445 = .ok (.aload_n 0, 1) := by decide +kernel
theorem dL_law_446 : decode cL_law 446 = .ok (.iload_n 3, 1) := by decide +kernel
theorem dL_law_447 : decode cL_law 447 = .ok (.iconst 2, 1) := by decide +kernel
theorem dL_law_448 : decode cL_law 448 = .ok (.iadd, 1) := by decide +kernel
theorem dL_law_449 : decode cL_law 449 = .ok (.iaload, 1) := by decide +kernel
theorem dL_law_450 : decode cL_law 450 = .ok (.invokevirtual 63, 3) := by decide +kernel
theorem dL_law_453 : decode cL_law 453 = .ok (.if_icmp .eq 558, 3) := by decide +kernel
theorem dL_law_456 : decode cL_law 456 = .ok (.iconst 0, 1) := by decide +kernel
theorem dL_law_457 : decode cL_law 457 = .ok (.ireturn, 1) := by decide +kernel
theorem dL_law_458 : decode cL_law 458 = .ok (.aload_n 1, 1) := by decide +kernel
theorem dL_law_459 : decode cL_law 459 = .ok (.aload_n 0, 1) := by decide +kernel
theorem dL_law_460 : decode cL_law 460 = .ok (.iload_n 3, 1) := by decide +kernel
theorem dL_law_461 : decode cL_law 461 = .ok (.iconst 1, 1) := by decide +kernel
theorem dL_law_462 : decode cL_law 462 = .ok (.iadd, 1) := by decide +kernel
theorem dL_law_463 : decode cL_law 463 = .ok (.iaload, 1) := by decide +kernel
theorem dL_law_464 : decode cL_law 464 = .ok (.invokevirtual 64, 3) := by decide +kernel
theorem dL_law_467 : decode cL_law 467 = .ok (.aload_n 2, 1) := by decide +kernel
theorem dL_law_468 : decode cL_law 468 = .ok (.aload_n 0, 1) := by decide +kernel
theorem dL_law_469 : decode cL_law 469 = .ok (.iload_n 3, 1) := by decide +kernel
theorem dL_law_470 : decode cL_law 470 = .ok (.iconst 1, 1) := by decide +kernel
theorem dL_law_471 : decode cL_law 471 = .ok (.iadd, 1) := by decide +kernel
theorem dL_law_472 : decode cL_law 472 = .ok (.iaload, 1) := by decide +kernel
theorem dL_law_473 : decode cL_law 473 = .ok (.invokevirtual 67, 3) := by decide +kernel
theorem dL_law_476 : decode cL_law 476 = .ok (.if_icmp .eq 535, 3) := by decide +kernel
theorem dL_law_479 : decode cL_law 479 = .ok (.iconst 0, 1) := by decide +kernel
theorem dL_law_480 : decode cL_law 480 = .ok (.ireturn, 1) := by decide +kernel
theorem dL_law_481 : decode cL_law 481 = .ok (.aload_n 1, 1) := by decide +kernel
theorem dL_law_482 : decode cL_law 482 = .ok (.aload_n 0, 1) := by decide +kernel
theorem dL_law_483 : decode cL_law 483 = .ok (.iload_n 3, 1) := by decide +kernel
theorem dL_law_484 : decode cL_law 484 = .ok (.iconst 1, 1) := by decide +kernel
theorem dL_law_485 : decode cL_law 485 = .ok (.iadd, 1) := by decide +kernel
theorem dL_law_486 : decode cL_law 486 = .ok (.iaload, 1) := by decide +kernel
theorem dL_law_487 : decode cL_law 487 = .ok (.aload_n 0, 1) := by decide +kernel
theorem dL_law_488 : decode cL_law 488 = .ok (.iload_n 3, 1) := by decide +kernel
theorem dL_law_489 : decode cL_law 489 = .ok (.iconst 2, 1) := by decide +kernel
theorem dL_law_490 : decode cL_law 490 = .ok (.iadd, 1) := by decide +kernel
theorem dL_law_491 : decode cL_law 491 = .ok (.iaload, 1) := by decide +kernel
theorem dL_law_492 : decode cL_law 492 = .ok (.ifCond .eq 7, 3) := by decide +kernel
theorem dL_law_495 : decode cL_law 495 = .ok (.iconst 1, 1) := by decide +kernel
theorem dL_law_496 : decode cL_law 496 = .ok (.goto 4, 3) := by decide +kernel
theorem dL_law_499 : decode cL_law 499 = .ok (.iconst 0, 1) := by decide +kernel
theorem dL_law_500 : decode cL_law 500 = .ok (.invokevirtual 68, 3) := by decide +kernel
theorem dL_law_503 : decode cL_law 503 = .ok (.aload_n 2, 1) := by decide +kernel
theorem dL_law_504 : decode cL_law 504 = .ok (.aload_n 0, 1) := by decide +kernel
theorem dL_law_505 : decode cL_law 505 = .ok (.iload_n 3, 1) := by decide +kernel
theorem dL_law_506 : decode cL_law 506 = .ok (.iconst 1, 1) := by decide +kernel
theorem dL_law_507 : decode cL_law 507 = .ok (.iadd, 1) := by decide +kernel
theorem dL_law_508 : decode cL_law 508 = .ok (.iaload, 1) := by decide +kernel
theorem dL_law_509 : decode cL_law 509 = .ok (.aload_n 0, 1) := by decide +kernel
theorem dL_law_510 : decode cL_law 510 = .ok (.iload_n 3, 1) := by decide +kernel
theorem dL_law_511 : decode cL_law 511 = .ok (.iconst 2, 1) := by decide +kernel
theorem dL_law_512 : decode cL_law 512 = .ok (.iadd, 1) := by decide +kernel
theorem dL_law_513 : decode cL_law 513 = .ok (.iaload, 1) := by decide +kernel
theorem dL_law_514 : decode cL_law 514 = .ok (.ifCond .eq 7, 3) := by decide +kernel
theorem dL_law_517 : decode cL_law 517 = .ok (.iconst 1, 1) := by decide +kernel
theorem dL_law_518 : decode cL_law 518 = .ok (.goto 4, 3) := by decide +kernel
theorem dL_law_521 : decode cL_law 521 = .ok (.iconst 0, 1) := by decide +kernel
theorem dL_law_522 : decode cL_law 522 = .ok (.invokevirtual 72, 3) := by decide +kernel
theorem dL_law_525 : decode cL_law 525 = .ok (.if_icmp .eq 486, 3) := by decide +kernel
theorem dL_law_528 : decode cL_law 528 = .ok (.iconst 0, 1) := by decide +kernel
theorem dL_law_529 : decode cL_law 529 = .ok (.ireturn, 1) := by decide +kernel
theorem dL_law_530 : decode cL_law 530 = .ok (.aload_n 1, 1) := by decide +kernel
theorem dL_law_531 : decode cL_law 531 = .ok (.aload_n 0, 1) := by decide +kernel
theorem dL_law_532 : decode cL_law 532 = .ok (.iload_n 3, 1) := by decide +kernel
theorem dL_law_533 : decode cL_law 533 = .ok (.iconst 1, 1) := by decide +kernel
theorem dL_law_534 : decode cL_law 534 = .ok (.iadd, 1) := by decide +kernel
theorem dL_law_535 : decode cL_law 535 = .ok (.iaload, 1) := by decide +kernel
theorem dL_law_536 : decode cL_law 536 = .ok (.invokevirtual 73, 3) := by decide +kernel
theorem dL_law_539 : decode cL_law 539 = .ok (.aload_n 2, 1) := by decide +kernel
theorem dL_law_540 : decode cL_law 540 = .ok (.aload_n 0, 1) := by decide +kernel
theorem dL_law_541 : decode cL_law 541 = .ok (.iload_n 3, 1) := by decide +kernel
theorem dL_law_542 : decode cL_law 542 = .ok (.iconst 1, 1) := by decide +kernel
theorem dL_law_543 : decode cL_law 543 = .ok (.iadd, 1) := by decide +kernel
theorem dL_law_544 : decode cL_law 544 = .ok (.iaload, 1) := by decide +kernel
theorem dL_law_545 : decode cL_law 545 = .ok (.invokevirtual 76, 3) := by decide +kernel
theorem dL_law_548 : decode cL_law 548 = .ok (.if_icmp .eq 463, 3) := by decide +kernel
theorem dL_law_551 : decode cL_law 551 = .ok (.iconst 0, 1) := by decide +kernel
theorem dL_law_552 : decode cL_law 552 = .ok (.ireturn, 1) := by decide +kernel
theorem dL_law_553 : decode cL_law 553 = .ok (.aload_n 1, 1) := by decide +kernel
theorem dL_law_554 : decode cL_law 554 = .ok (.invokevirtual 77, 3) := by decide +kernel
theorem dL_law_557 : decode cL_law 557 = .ok (.aload_n 2, 1) := by decide +kernel
theorem dL_law_558 : decode cL_law 558 = .ok (.invokevirtual 80, 3) := by decide +kernel
theorem dL_law_561 : decode cL_law 561 = .ok (.if_icmp .eq 450, 3) := by decide +kernel
theorem dL_law_564 : decode cL_law 564 = .ok (.iconst 0, 1) := by decide +kernel
theorem dL_law_565 : decode cL_law 565 = .ok (.ireturn, 1) := by decide +kernel
theorem dL_law_566 : decode cL_law 566 = .ok (.aload_n 1, 1) := by decide +kernel
theorem dL_law_567 : decode cL_law 567 = .ok (.aload_n 0, 1) := by decide +kernel
theorem dL_law_568 : decode cL_law 568 = .ok (.iload_n 3, 1) := by decide +kernel
theorem dL_law_569 : decode cL_law 569 = .ok (.iconst 1, 1) := by decide +kernel
theorem dL_law_570 : decode cL_law 570 = .ok (.iadd, 1) := by decide +kernel
theorem dL_law_571 : decode cL_law 571 = .ok (.iaload, 1) := by decide +kernel
theorem dL_law_572 : decode cL_law 572 = .ok (.aload_n 0, 1) := by decide +kernel
theorem dL_law_573 : decode cL_law 573 = .ok (.iload_n 3, 1) := by decide +kernel
theorem dL_law_574 : decode cL_law 574 = .ok (.iconst 2, 1) := by decide +kernel
theorem dL_law_575 : decode cL_law 575 = .ok (.iadd, 1) := by decide +kernel
theorem dL_law_576 : decode cL_law 576 = .ok (.iaload, 1) := by decide +kernel
theorem dL_law_577 : decode cL_law 577 = .ok (.invokevirtual 81, 3) := by decide +kernel
theorem dL_law_580 : decode cL_law 580 = .ok (.aload_n 2, 1) := by decide +kernel
theorem dL_law_581 : decode cL_law 581 = .ok (.aload_n 0, 1) := by decide +kernel
theorem dL_law_582 : decode cL_law 582 = .ok (.iload_n 3, 1) := by decide +kernel
theorem dL_law_583 : decode cL_law 583 = .ok (.iconst 1, 1) := by decide +kernel
theorem dL_law_584 : decode cL_law 584 = .ok (.iadd, 1) := by decide +kernel
theorem dL_law_585 : decode cL_law 585 = .ok (.iaload, 1) := by decide +kernel
theorem dL_law_586 : decode cL_law 586 = .ok (.aload_n 0, 1) := by decide +kernel
theorem dL_law_587 : decode cL_law 587 = .ok (.iload_n 3, 1) := by decide +kernel
theorem dL_law_588 : decode cL_law 588 = .ok (.iconst 2, 1) := by decide +kernel
theorem dL_law_589 : decode cL_law 589 = .ok (.iadd, 1) := by decide +kernel
theorem dL_law_590 : decode cL_law 590 = .ok (.iaload, 1) := by decide +kernel
theorem dL_law_591 : decode cL_law 591 = .ok (.invokevirtual 84, 3) := by decide +kernel
theorem dL_law_594 : decode cL_law 594 = .ok (.if_icmp .eq 417, 3) := by decide +kernel
theorem dL_law_597 : decode cL_law 597 = .ok (.iconst 0, 1) := by decide +kernel
theorem dL_law_598 : decode cL_law 598 = .ok (.ireturn, 1) := by decide +kernel
theorem dL_law_599 : decode cL_law 599 = .ok (.aload_n 1, 1) := by decide +kernel
theorem dL_law_600 : decode cL_law 600 = .ok (.aload_n 0, 1) := by decide +kernel
theorem dL_law_601 : decode cL_law 601 = .ok (.iload_n 3, 1) := by decide +kernel
theorem dL_law_602 : decode cL_law 602 = .ok (.iconst 1, 1) := by decide +kernel
theorem dL_law_603 : decode cL_law 603 = .ok (.iadd, 1) := by decide +kernel
theorem dL_law_604 : decode cL_law 604 = .ok (.iaload, 1) := by decide +kernel
theorem dL_law_605 : decode cL_law 605 = .ok (.aload_n 0, 1) := by decide +kernel
theorem dL_law_606 : decode cL_law 606 = .ok (.iload_n 3, 1) := by decide +kernel
theorem dL_law_607 : decode cL_law 607 = .ok (.iconst 2, 1) := by decide +kernel
theorem dL_law_608 : decode cL_law 608 = .ok (.iadd, 1) := by decide +kernel
theorem dL_law_609 : decode cL_law 609 = .ok (.iaload, 1) := by decide +kernel
theorem dL_law_610 : decode cL_law 610 = .ok (.invokevirtual 85, 3) := by decide +kernel
theorem dL_law_613 : decode cL_law 613 = .ok (.aload_n 2, 1) := by decide +kernel
theorem dL_law_614 : decode cL_law 614 = .ok (.aload_n 0, 1) := by decide +kernel
theorem dL_law_615 : decode cL_law 615 = .ok (.iload_n 3, 1) := by decide +kernel
theorem dL_law_616 : decode cL_law 616 = .ok (.iconst 1, 1) := by decide +kernel
theorem dL_law_617 : decode cL_law 617 = .ok (.iadd, 1) := by decide +kernel
theorem dL_law_618 : decode cL_law 618 = .ok (.iaload, 1) := by decide +kernel
theorem dL_law_619 : decode cL_law 619 = .ok (.aload_n 0, 1) := by decide +kernel
theorem dL_law_620 : decode cL_law 620 = .ok (.iload_n 3, 1) := by decide +kernel
theorem dL_law_621 : decode cL_law 621 = .ok (.iconst 2, 1) := by decide +kernel
theorem dL_law_622 : decode cL_law 622 = .ok (.iadd, 1) := by decide +kernel
theorem dL_law_623 : decode cL_law 623 = .ok (.iaload, 1) := by decide +kernel
theorem dL_law_624 : decode cL_law 624 = .ok (.invokevirtual 88, 3) := by decide +kernel
theorem dL_law_627 : decode cL_law 627 = .ok (.if_icmp .eq 384, 3) := by decide +kernel
theorem dL_law_630 : decode cL_law 630 = .ok (.iconst 0, 1) := by decide +kernel
theorem dL_law_631 : decode cL_law 631 = .ok (.ireturn, 1) := by decide +kernel
theorem dL_law_632 : decode cL_law 632 = .ok (.aload_n 1, 1) := by decide +kernel
theorem dL_law_633 : decode cL_law 633 = .ok (.aload_n 0, 1) := by decide +kernel
theorem dL_law_634 : decode cL_law 634 = .ok (.iload_n 3, 1) := by decide +kernel
theorem dL_law_635 : decode cL_law 635 = .ok (.iconst 1, 1) := by decide +kernel
theorem dL_law_636 : decode cL_law 636 = .ok (.iadd, 1) := by decide +kernel
theorem dL_law_637 : decode cL_law 637 = .ok (.iaload, 1) := by decide +kernel
theorem dL_law_638 : decode cL_law 638 = .ok (.aload_n 0, 1) := by decide +kernel
theorem dL_law_639 : decode cL_law 639 = .ok (.iload_n 3, 1) := by decide +kernel
theorem dL_law_640 : decode cL_law 640 = .ok (.iconst 2, 1) := by decide +kernel
theorem dL_law_641 : decode cL_law 641 = .ok (.iadd, 1) := by decide +kernel
theorem dL_law_642 : decode cL_law 642 = .ok (.iaload, 1) := by decide +kernel
theorem dL_law_643 : decode cL_law 643 = .ok (.aload_n 0, 1) := by decide +kernel
theorem dL_law_644 : decode cL_law 644 = .ok (.iload_n 3, 1) := by decide +kernel
theorem dL_law_645 : decode cL_law 645 = .ok (.iconst 3, 1) := by decide +kernel
theorem dL_law_646 : decode cL_law 646 = .ok (.iadd, 1) := by decide +kernel
theorem dL_law_647 : decode cL_law 647 = .ok (.iaload, 1) := by decide +kernel
theorem dL_law_648 : decode cL_law 648 = .ok (.aload_n 0, 1) := by decide +kernel
theorem dL_law_649 : decode cL_law 649 = .ok (.iload_n 3, 1) := by decide +kernel
theorem dL_law_650 : decode cL_law 650 = .ok (.iconst 4, 1) := by decide +kernel
theorem dL_law_651 : decode cL_law 651 = .ok (.iadd, 1) := by decide +kernel
theorem dL_law_652 : decode cL_law 652 = .ok (.iaload, 1) := by decide +kernel
theorem dL_law_653 : decode cL_law 653 = .ok (.aload_n 0, 1) := by decide +kernel
theorem dL_law_654 : decode cL_law 654 = .ok (.iload_n 3, 1) := by decide +kernel
theorem dL_law_655 : decode cL_law 655 = .ok (.iconst 5, 1) := by decide +kernel
theorem dL_law_656 : decode cL_law 656 = .ok (.iadd, 1) := by decide +kernel
theorem dL_law_657 : decode cL_law 657 = .ok (.iaload, 1) := by decide +kernel
theorem dL_law_658 : decode cL_law 658 = .ok (.invokevirtual 89, 3) := by decide +kernel
theorem dL_law_661 : decode cL_law 661 = .ok (.aload_n 2, 1) := by decide +kernel
theorem dL_law_662 : decode cL_law 662 = .ok (.aload_n 0, 1) := by decide +kernel
theorem dL_law_663 : decode cL_law 663 = .ok (.iload_n 3, 1) := by decide +kernel
theorem dL_law_664 : decode cL_law 664 = .ok (.iconst 1, 1) := by decide +kernel
theorem dL_law_665 : decode cL_law 665 = .ok (.iadd, 1) := by decide +kernel
theorem dL_law_666 : decode cL_law 666 = .ok (.iaload, 1) := by decide +kernel
theorem dL_law_667 : decode cL_law 667 = .ok (.aload_n 0, 1) := by decide +kernel
theorem dL_law_668 : decode cL_law 668 = .ok (.iload_n 3, 1) := by decide +kernel
theorem dL_law_669 : decode cL_law 669 = .ok (.iconst 2, 1) := by decide +kernel
theorem dL_law_670 : decode cL_law 670 = .ok (.iadd, 1) := by decide +kernel
theorem dL_law_671 : decode cL_law 671 = .ok (.iaload, 1) := by decide +kernel
theorem dL_law_672 : decode cL_law 672 = .ok (.aload_n 0, 1) := by decide +kernel
theorem dL_law_673 : decode cL_law 673 = .ok (.iload_n 3, 1) := by decide +kernel
theorem dL_law_674 : decode cL_law 674 = .ok (.iconst 3, 1) := by decide +kernel
theorem dL_law_675 : decode cL_law 675 = .ok (.iadd, 1) := by decide +kernel
theorem dL_law_676 : decode cL_law 676 = .ok (.iaload, 1) := by decide +kernel
theorem dL_law_677 : decode cL_law 677 = .ok (.aload_n 0, 1) := by decide +kernel
theorem dL_law_678 : decode cL_law 678 = .ok (.iload_n 3, 1) := by decide +kernel
theorem dL_law_679 : decode cL_law 679 = .ok (.iconst 4, 1) := by decide +kernel
theorem dL_law_680 : decode cL_law 680 = .ok (.iadd, 1) := by decide +kernel
theorem dL_law_681 : decode cL_law 681 = .ok (.iaload, 1) := by decide +kernel
theorem dL_law_682 : decode cL_law 682 = .ok (.aload_n 0, 1) := by decide +kernel
theorem dL_law_683 : decode cL_law 683 = .ok (.iload_n 3, 1) := by decide +kernel
theorem dL_law_684 : decode cL_law 684 = .ok (.iconst 5, 1) := by decide +kernel
theorem dL_law_685 : decode cL_law 685 = .ok (.iadd, 1) := by decide +kernel
theorem dL_law_686 : decode cL_law 686 = .ok (.iaload, 1) := by decide +kernel
theorem dL_law_687 : decode cL_law 687 = .ok (.invokevirtual 93, 3) := by decide +kernel
theorem dL_law_690 : decode cL_law 690 = .ok (.if_icmp .eq 321, 3) := by decide +kernel
theorem dL_law_693 : decode cL_law 693 = .ok (.iconst 0, 1) := by decide +kernel
theorem dL_law_694 : decode cL_law 694 = .ok (.ireturn, 1) := by decide +kernel
theorem dL_law_695 : decode cL_law 695 = .ok (.aload_n 1, 1) := by decide +kernel
theorem dL_law_696 : decode cL_law 696 = .ok (.aload_n 0, 1) := by decide +kernel
theorem dL_law_697 : decode cL_law 697 = .ok (.iload_n 3, 1) := by decide +kernel
theorem dL_law_698 : decode cL_law 698 = .ok (.iconst 1, 1) := by decide +kernel
theorem dL_law_699 : decode cL_law 699 = .ok (.iadd, 1) := by decide +kernel
theorem dL_law_700 : decode cL_law 700 = .ok (.iaload, 1) := by decide +kernel
theorem dL_law_701 : decode cL_law 701 = .ok (.aload_n 0, 1) := by decide +kernel
theorem dL_law_702 : decode cL_law 702 = .ok (.iload_n 3, 1) := by decide +kernel
theorem dL_law_703 : decode cL_law 703 = .ok (.iconst 2, 1) := by decide +kernel
theorem dL_law_704 : decode cL_law 704 = .ok (.iadd, 1) := by decide +kernel
theorem dL_law_705 : decode cL_law 705 = .ok (.iaload, 1) := by decide +kernel
theorem dL_law_706 : decode cL_law 706 = .ok (.aload_n 0, 1) := by decide +kernel
theorem dL_law_707 : decode cL_law 707 = .ok (.iload_n 3, 1) := by decide +kernel
theorem dL_law_708 : decode cL_law 708 = .ok (.iconst 3, 1) := by decide +kernel
theorem dL_law_709 : decode cL_law 709 = .ok (.iadd, 1) := by decide +kernel
theorem dL_law_710 : decode cL_law 710 = .ok (.iaload, 1) := by decide +kernel
theorem dL_law_711 : decode cL_law 711 = .ok (.aload_n 0, 1) := by decide +kernel
theorem dL_law_712 : decode cL_law 712 = .ok (.iload_n 3, 1) := by decide +kernel
theorem dL_law_713 : decode cL_law 713 = .ok (.iconst 4, 1) := by decide +kernel
theorem dL_law_714 : decode cL_law 714 = .ok (.iadd, 1) := by decide +kernel
theorem dL_law_715 : decode cL_law 715 = .ok (.iaload, 1) := by decide +kernel
theorem dL_law_716 : decode cL_law 716 = .ok (.invokevirtual 94, 3) := by decide +kernel
theorem dL_law_719 : decode cL_law 719 = .ok (.aload_n 2, 1) := by decide +kernel
theorem dL_law_720 : decode cL_law 720 = .ok (.aload_n 0, 1) := by decide +kernel
theorem dL_law_721 : decode cL_law 721 = .ok (.iload_n 3, 1) := by decide +kernel
theorem dL_law_722 : decode cL_law 722 = .ok (.iconst 1, 1) := by decide +kernel
theorem dL_law_723 : decode cL_law 723 = .ok (.iadd, 1) := by decide +kernel
theorem dL_law_724 : decode cL_law 724 = .ok (.iaload, 1) := by decide +kernel
theorem dL_law_725 : decode cL_law 725 = .ok (.aload_n 0, 1) := by decide +kernel
theorem dL_law_726 : decode cL_law 726 = .ok (.iload_n 3, 1) := by decide +kernel
theorem dL_law_727 : decode cL_law 727 = .ok (.iconst 2, 1) := by decide +kernel
theorem dL_law_728 : decode cL_law 728 = .ok (.iadd, 1) := by decide +kernel
theorem dL_law_729 : decode cL_law 729 = .ok (.iaload, 1) := by decide +kernel
theorem dL_law_730 : decode cL_law 730 = .ok (.aload_n 0, 1) := by decide +kernel
theorem dL_law_731 : decode cL_law 731 = .ok (.iload_n 3, 1) := by decide +kernel
theorem dL_law_732 : decode cL_law 732 = .ok (.iconst 3, 1) := by decide +kernel
theorem dL_law_733 : decode cL_law 733 = .ok (.iadd, 1) := by decide +kernel
theorem dL_law_734 : decode cL_law 734 = .ok (.iaload, 1) := by decide +kernel
theorem dL_law_735 : decode cL_law 735 = .ok (.aload_n 0, 1) := by decide +kernel
theorem dL_law_736 : decode cL_law 736 = .ok (.iload_n 3, 1) := by decide +kernel
theorem dL_law_737 : decode cL_law 737 = .ok (.iconst 4, 1) := by decide +kernel
theorem dL_law_738 : decode cL_law 738 = .ok (.iadd, 1) := by decide +kernel
theorem dL_law_739 : decode cL_law 739 = .ok (.iaload, 1) := by decide +kernel
theorem dL_law_740 : decode cL_law 740 = .ok (.invokevirtual 98, 3) := by decide +kernel
theorem dL_law_743 : decode cL_law 743 = .ok (.if_icmp .eq 268, 3) := by decide +kernel
theorem dL_law_746 : decode cL_law 746 = .ok (.iconst 0, 1) := by decide +kernel
theorem dL_law_747 : decode cL_law 747 = .ok (.ireturn, 1) := by decide +kernel
theorem dL_law_748 : decode cL_law 748 = .ok (.aload_n 1, 1) := by decide +kernel
theorem dL_law_749 : decode cL_law 749 = .ok (.aload_n 0, 1) := by decide +kernel
theorem dL_law_750 : decode cL_law 750 = .ok (.iload_n 3, 1) := by decide +kernel
theorem dL_law_751 : decode cL_law 751 = .ok (.iconst 1, 1) := by decide +kernel
theorem dL_law_752 : decode cL_law 752 = .ok (.iadd, 1) := by decide +kernel
theorem dL_law_753 : decode cL_law 753 = .ok (.iaload, 1) := by decide +kernel
theorem dL_law_754 : decode cL_law 754 = .ok (.invokevirtual 99, 3) := by decide +kernel
theorem dL_law_757 : decode cL_law 757 = .ok (.aload_n 2, 1) := by decide +kernel
theorem dL_law_758 : decode cL_law 758 = .ok (.aload_n 0, 1) := by decide +kernel
theorem dL_law_759 : decode cL_law 759 = .ok (.iload_n 3, 1) := by decide +kernel
theorem dL_law_760 : decode cL_law 760 = .ok (.iconst 1, 1) := by decide +kernel
theorem dL_law_761 : decode cL_law 761 = .ok (.iadd, 1) := by decide +kernel
theorem dL_law_762 : decode cL_law 762 = .ok (.iaload, 1) := by decide +kernel
theorem dL_law_763 : decode cL_law 763 = .ok (.invokevirtual 102, 3) := by decide +kernel
theorem dL_law_766 : decode cL_law 766 = .ok (.if_icmp .eq 245, 3) := by decide +kernel
theorem dL_law_769 : decode cL_law 769 = .ok (.iconst 0, 1) := by decide +kernel
theorem dL_law_770 : decode cL_law 770 = .ok (.ireturn, 1) := by decide +kernel
theorem dL_law_771 : decode cL_law 771 = .ok (.aload_n 1, 1) := by decide +kernel
theorem dL_law_772 : decode cL_law 772 = .ok (.aload_n 0, 1) := by decide +kernel
theorem dL_law_773 : decode cL_law 773 = .ok (.iload_n 3, 1) := by decide +kernel
theorem dL_law_774 : decode cL_law 774 = .ok (.iconst 1, 1) := by decide +kernel
theorem dL_law_775 : decode cL_law 775 = .ok (.iadd, 1) := by decide +kernel
theorem dL_law_776 : decode cL_law 776 = .ok (.iaload, 1) := by decide +kernel
theorem dL_law_777 : decode cL_law 777 = .ok (.invokevirtual 103, 3) := by decide +kernel
theorem dL_law_780 : decode cL_law 780 = .ok (.aload_n 2, 1) := by decide +kernel
theorem dL_law_781 : decode cL_law 781 = .ok (.aload_n 0, 1) := by decide +kernel
theorem dL_law_782 : decode cL_law 782 = .ok (.iload_n 3, 1) := by decide +kernel
theorem dL_law_783 : decode cL_law 783 = .ok (.iconst 1, 1) := by decide +kernel
theorem dL_law_784 : decode cL_law 784 = .ok (.iadd, 1) := by decide +kernel
theorem dL_law_785 : decode cL_law 785 = .ok (.iaload, 1) := by decide +kernel
theorem dL_law_786 : decode cL_law 786 = .ok (.invokevirtual 106, 3) := by decide +kernel
theorem dL_law_789 : decode cL_law 789 = .ok (.if_icmp .eq 222, 3) := by decide +kernel
theorem dL_law_792 : decode cL_law 792 = .ok (.iconst 0, 1) := by decide +kernel
theorem dL_law_793 : decode cL_law 793 = .ok (.ireturn, 1) := by decide +kernel
theorem dL_law_794 : decode cL_law 794 = .ok (.aload_n 1, 1) := by decide +kernel
theorem dL_law_795 : decode cL_law 795 = .ok (.invokevirtual 107, 3) := by decide +kernel
theorem dL_law_798 : decode cL_law 798 = .ok (.aload_n 2, 1) := by decide +kernel
theorem dL_law_799 : decode cL_law 799 = .ok (.invokevirtual 110, 3) := by decide +kernel
theorem dL_law_802 : decode cL_law 802 = .ok (.if_icmp .eq 209, 3) := by decide +kernel
theorem dL_law_805 : decode cL_law 805 = .ok (.iconst 0, 1) := by decide +kernel
theorem dL_law_806 : decode cL_law 806 = .ok (.ireturn, 1) := by decide +kernel
theorem dL_law_807 : decode cL_law 807 = .ok (.aload_n 1, 1) := by decide +kernel
theorem dL_law_808 : decode cL_law 808 = .ok (.aload_n 0, 1) := by decide +kernel
theorem dL_law_809 : decode cL_law 809 = .ok (.iload_n 3, 1) := by decide +kernel
theorem dL_law_810 : decode cL_law 810 = .ok (.iconst 1, 1) := by decide +kernel
theorem dL_law_811 : decode cL_law 811 = .ok (.iadd, 1) := by decide +kernel
theorem dL_law_812 : decode cL_law 812 = .ok (.iaload, 1) := by decide +kernel
theorem dL_law_813 : decode cL_law 813 = .ok (.aload_n 0, 1) := by decide +kernel
theorem dL_law_814 : decode cL_law 814 = .ok (.iload_n 3, 1) := by decide +kernel
theorem dL_law_815 : decode cL_law 815 = .ok (.iconst 2, 1) := by decide +kernel
theorem dL_law_816 : decode cL_law 816 = .ok (.iadd, 1) := by decide +kernel
theorem dL_law_817 : decode cL_law 817 = .ok (.iaload, 1) := by decide +kernel
theorem dL_law_818 : decode cL_law 818 = .ok (.aload_n 0, 1) := by decide +kernel
theorem dL_law_819 : decode cL_law 819 = .ok (.iload_n 3, 1) := by decide +kernel
theorem dL_law_820 : decode cL_law 820 = .ok (.iconst 3, 1) := by decide +kernel
theorem dL_law_821 : decode cL_law 821 = .ok (.iadd, 1) := by decide +kernel
theorem dL_law_822 : decode cL_law 822 = .ok (.iaload, 1) := by decide +kernel
theorem dL_law_823 : decode cL_law 823 = .ok (.invokevirtual 111, 3) := by decide +kernel
theorem dL_law_826 : decode cL_law 826 = .ok (.aload_n 2, 1) := by decide +kernel
theorem dL_law_827 : decode cL_law 827 = .ok (.aload_n 0, 1) := by decide +kernel
theorem dL_law_828 : decode cL_law 828 = .ok (.iload_n 3, 1) := by decide +kernel
theorem dL_law_829 : decode cL_law 829 = .ok (.iconst 1, 1) := by decide +kernel
theorem dL_law_830 : decode cL_law 830 = .ok (.iadd, 1) := by decide +kernel
theorem dL_law_831 : decode cL_law 831 = .ok (.iaload, 1) := by decide +kernel
theorem dL_law_832 : decode cL_law 832 = .ok (.aload_n 0, 1) := by decide +kernel
theorem dL_law_833 : decode cL_law 833 = .ok (.iload_n 3, 1) := by decide +kernel
theorem dL_law_834 : decode cL_law 834 = .ok (.iconst 2, 1) := by decide +kernel
theorem dL_law_835 : decode cL_law 835 = .ok (.iadd, 1) := by decide +kernel
theorem dL_law_836 : decode cL_law 836 = .ok (.iaload, 1) := by decide +kernel
theorem dL_law_837 : decode cL_law 837 = .ok (.aload_n 0, 1) := by decide +kernel
theorem dL_law_838 : decode cL_law 838 = .ok (.iload_n 3, 1) := by decide +kernel
theorem dL_law_839 : decode cL_law 839 = .ok (.iconst 3, 1) := by decide +kernel
theorem dL_law_840 : decode cL_law 840 = .ok (.iadd, 1) := by decide +kernel
theorem dL_law_841 : decode cL_law 841 = .ok (.iaload, 1) := by decide +kernel
theorem dL_law_842 : decode cL_law 842 = .ok (.invokevirtual 115, 3) := by decide +kernel
theorem dL_law_845 : decode cL_law 845 = .ok (.if_icmp .eq 166, 3) := by decide +kernel
theorem dL_law_848 : decode cL_law 848 = .ok (.iconst 0, 1) := by decide +kernel
theorem dL_law_849 : decode cL_law 849 = .ok (.ireturn, 1) := by decide +kernel
theorem dL_law_850 : decode cL_law 850 = .ok (.aload_n 1, 1) := by decide +kernel
theorem dL_law_851 : decode cL_law 851 = .ok (.aload_n 0, 1) := by decide +kernel
theorem dL_law_852 : decode cL_law 852 = .ok (.iload_n 3, 1) := by decide +kernel
theorem dL_law_853 : decode cL_law 853 = .ok (.iconst 1, 1) := by decide +kernel
theorem dL_law_854 : decode cL_law 854 = .ok (.iadd, 1) := by decide +kernel
theorem dL_law_855 : decode cL_law 855 = .ok (.iaload, 1) := by decide +kernel
theorem dL_law_856 : decode cL_law 856 = .ok (.aload_n 0, 1) := by decide +kernel
theorem dL_law_857 : decode cL_law 857 = .ok (.iload_n 3, 1) := by decide +kernel
theorem dL_law_858 : decode cL_law 858 = .ok (.iconst 2, 1) := by decide +kernel
theorem dL_law_859 : decode cL_law 859 = .ok (.iadd, 1) := by decide +kernel
theorem dL_law_860 : decode cL_law 860 = .ok (.iaload, 1) := by decide +kernel
theorem dL_law_861 : decode cL_law 861 = .ok (.invokevirtual 116, 3) := by decide +kernel
theorem dL_law_864 : decode cL_law 864 = .ok (.aload_n 2, 1) := by decide +kernel
theorem dL_law_865 : decode cL_law 865 = .ok (.aload_n 0, 1) := by decide +kernel
theorem dL_law_866 : decode cL_law 866 = .ok (.iload_n 3, 1) := by decide +kernel
theorem dL_law_867 : decode cL_law 867 = .ok (.iconst 1, 1) := by decide +kernel
theorem dL_law_868 : decode cL_law 868 = .ok (.iadd, 1) := by decide +kernel
theorem dL_law_869 : decode cL_law 869 = .ok (.iaload, 1) := by decide +kernel
theorem dL_law_870 : decode cL_law 870 = .ok (.aload_n 0, 1) := by decide +kernel
theorem dL_law_871 : decode cL_law 871 = .ok (.iload_n 3, 1) := by decide +kernel
theorem dL_law_872 : decode cL_law 872 = .ok (.iconst 2, 1) := by decide +kernel
theorem dL_law_873 : decode cL_law 873 = .ok (.iadd, 1) := by decide +kernel
theorem dL_law_874 : decode cL_law 874 = .ok (.iaload, 1) := by decide +kernel
theorem dL_law_875 : decode cL_law 875 = .ok (.invokevirtual 119, 3) := by decide +kernel
theorem dL_law_878 : decode cL_law 878 = .ok (.if_icmp .eq 133, 3) := by decide +kernel
theorem dL_law_881 : decode cL_law 881 = .ok (.iconst 0, 1) := by decide +kernel
theorem dL_law_882 : decode cL_law 882 = .ok (.ireturn, 1) := by decide +kernel
theorem dL_law_883 : decode cL_law 883 = .ok (.aload_n 1, 1) := by decide +kernel
theorem dL_law_884 : decode cL_law 884 = .ok (.aload_n 0, 1) := by decide +kernel
theorem dL_law_885 : decode cL_law 885 = .ok (.iload_n 3, 1) := by decide +kernel
theorem dL_law_886 : decode cL_law 886 = .ok (.iconst 1, 1) := by decide +kernel
theorem dL_law_887 : decode cL_law 887 = .ok (.iadd, 1) := by decide +kernel
theorem dL_law_888 : decode cL_law 888 = .ok (.iaload, 1) := by decide +kernel
theorem dL_law_889 : decode cL_law 889 = .ok (.aload_n 0, 1) := by decide +kernel
theorem dL_law_890 : decode cL_law 890 = .ok (.iload_n 3, 1) := by decide +kernel
theorem dL_law_891 : decode cL_law 891 = .ok (.iconst 2, 1) := by decide +kernel
theorem dL_law_892 : decode cL_law 892 = .ok (.iadd, 1) := by decide +kernel
theorem dL_law_893 : decode cL_law 893 = .ok (.iaload, 1) := by decide +kernel
theorem dL_law_894 : decode cL_law 894 = .ok (.invokevirtual 120, 3) := by decide +kernel
theorem dL_law_897 : decode cL_law 897 = .ok (.aload_n 2, 1) := by decide +kernel
theorem dL_law_898 : decode cL_law 898 = .ok (.aload_n 0, 1) := by decide +kernel
theorem dL_law_899 : decode cL_law 899 = .ok (.iload_n 3, 1) := by decide +kernel
theorem dL_law_900 : decode cL_law 900 = .ok (.iconst 1, 1) := by decide +kernel
theorem dL_law_901 : decode cL_law 901 = .ok (.iadd, 1) := by decide +kernel
theorem dL_law_902 : decode cL_law 902 = .ok (.iaload, 1) := by decide +kernel
theorem dL_law_903 : decode cL_law 903 = .ok (.aload_n 0, 1) := by decide +kernel
theorem dL_law_904 : decode cL_law 904 = .ok (.iload_n 3, 1) := by decide +kernel
theorem dL_law_905 : decode cL_law 905 = .ok (.iconst 2, 1) := by decide +kernel
theorem dL_law_906 : decode cL_law 906 = .ok (.iadd, 1) := by decide +kernel
theorem dL_law_907 : decode cL_law 907 = .ok (.iaload, 1) := by decide +kernel
theorem dL_law_908 : decode cL_law 908 = .ok (.invokevirtual 123, 3) := by decide +kernel
theorem dL_law_911 : decode cL_law 911 = .ok (.if_icmp .eq 100, 3) := by decide +kernel
theorem dL_law_914 : decode cL_law 914 = .ok (.iconst 0, 1) := by decide +kernel
theorem dL_law_915 : decode cL_law 915 = .ok (.ireturn, 1) := by decide +kernel
theorem dL_law_916 : decode cL_law 916 = .ok (.aload_n 1, 1) := by decide +kernel
theorem dL_law_917 : decode cL_law 917 = .ok (.invokevirtual 124, 3) := by decide +kernel
theorem dL_law_920 : decode cL_law 920 = .ok (.aload_n 2, 1) := by decide +kernel
theorem dL_law_921 : decode cL_law 921 = .ok (.invokevirtual 127, 3) := by decide +kernel
theorem dL_law_924 : decode cL_law 924 = .ok (.if_icmp .eq 87, 3) := by decide +kernel
theorem dL_law_927 : decode cL_law 927 = .ok (.iconst 0, 1) := by decide +kernel
theorem dL_law_928 : decode cL_law 928 = .ok (.ireturn, 1) := by decide +kernel
theorem dL_law_929 : decode cL_law 929 = .ok (.aload_n 1, 1) := by decide +kernel
theorem dL_law_930 : decode cL_law 930 = .ok (.invokevirtual 128, 3) := by decide +kernel
theorem dL_law_933 : decode cL_law 933 = .ok (.aload_n 2, 1) := by decide +kernel
theorem dL_law_934 : decode cL_law 934 = .ok (.invokevirtual 131, 3) := by decide +kernel
theorem dL_law_937 : decode cL_law 937 = .ok (.if_icmp .eq 74, 3) := by decide +kernel
theorem dL_law_940 : decode cL_law 940 = .ok (.iconst 0, 1) := by decide +kernel
theorem dL_law_941 : decode cL_law 941 = .ok (.ireturn, 1) := by decide +kernel
theorem dL_law_942 : decode cL_law 942 = .ok (.aload_n 1, 1) := by decide +kernel
theorem dL_law_943 : decode cL_law 943 = .ok (.aload_n 0, 1) := by decide +kernel
theorem dL_law_944 : decode cL_law 944 = .ok (.iload_n 3, 1) := by decide +kernel
theorem dL_law_945 : decode cL_law 945 = .ok (.iconst 1, 1) := by decide +kernel
theorem dL_law_946 : decode cL_law 946 = .ok (.iadd, 1) := by decide +kernel
theorem dL_law_947 : decode cL_law 947 = .ok (.iaload, 1) := by decide +kernel
theorem dL_law_948 : decode cL_law 948 = .ok (.invokevirtual 132, 3) := by decide +kernel
theorem dL_law_951 : decode cL_law 951 = .ok (.aload_n 2, 1) := by decide +kernel
theorem dL_law_952 : decode cL_law 952 = .ok (.aload_n 0, 1) := by decide +kernel
theorem dL_law_953 : decode cL_law 953 = .ok (.iload_n 3, 1) := by decide +kernel
theorem dL_law_954 : decode cL_law 954 = .ok (.iconst 1, 1) := by decide +kernel
theorem dL_law_955 : decode cL_law 955 = .ok (.iadd, 1) := by decide +kernel
theorem dL_law_956 : decode cL_law 956 = .ok (.iaload, 1) := by decide +kernel
theorem dL_law_957 : decode cL_law 957 = .ok (.invokevirtual 135, 3) := by decide +kernel
theorem dL_law_960 : decode cL_law 960 = .ok (.if_icmp .eq 51, 3) := by decide +kernel
theorem dL_law_963 : decode cL_law 963 = .ok (.iconst 0, 1) := by decide +kernel
theorem dL_law_964 : decode cL_law 964 = .ok (.ireturn, 1) := by decide +kernel
theorem dL_law_965 : decode cL_law 965 = .ok (.aload_n 1, 1) := by decide +kernel
theorem dL_law_966 : decode cL_law 966 = .ok (.aload_n 0, 1) := by decide +kernel
theorem dL_law_967 : decode cL_law 967 = .ok (.iload_n 3, 1) := by decide +kernel
theorem dL_law_968 : decode cL_law 968 = .ok (.iconst 1, 1) := by decide +kernel
theorem dL_law_969 : decode cL_law 969 = .ok (.iadd, 1) := by decide +kernel
theorem dL_law_970 : decode cL_law 970 = .ok (.iaload, 1) := by decide +kernel
theorem dL_law_971 : decode cL_law 971 = .ok (.invokevirtual 136, 3) := by decide +kernel
theorem dL_law_974 : decode cL_law 974 = .ok (.aload_n 2, 1) := by decide +kernel
theorem dL_law_975 : decode cL_law 975 = .ok (.aload_n 0, 1) := by decide +kernel
theorem dL_law_976 : decode cL_law 976 = .ok (.iload_n 3, 1) := by decide +kernel
theorem dL_law_977 : decode cL_law 977 = .ok (.iconst 1, 1) := by decide +kernel
theorem dL_law_978 : decode cL_law 978 = .ok (.iadd, 1) := by decide +kernel
theorem dL_law_979 : decode cL_law 979 = .ok (.iaload, 1) := by decide +kernel
theorem dL_law_980 : decode cL_law 980 = .ok (.invokevirtual 139, 3) := by decide +kernel
theorem dL_law_983 : decode cL_law 983 = .ok (.if_icmp .eq 28, 3) := by decide +kernel
theorem dL_law_986 : decode cL_law 986 = .ok (.iconst 0, 1) := by decide +kernel
theorem dL_law_987 : decode cL_law 987 = .ok (.ireturn, 1) := by decide +kernel
theorem dL_law_988 : decode cL_law 988 = .ok (.aload_n 1, 1) := by decide +kernel
theorem dL_law_989 : decode cL_law 989 = .ok (.aload_n 0, 1) := by decide +kernel
theorem dL_law_990 : decode cL_law 990 = .ok (.iload_n 3, 1) := by decide +kernel
theorem dL_law_991 : decode cL_law 991 = .ok (.iconst 1, 1) := by decide +kernel
theorem dL_law_992 : decode cL_law 992 = .ok (.iadd, 1) := by decide +kernel
theorem dL_law_993 : decode cL_law 993 = .ok (.iaload, 1) := by decide +kernel
theorem dL_law_994 : decode cL_law 994 = .ok (.invokevirtual 140, 3) := by decide +kernel
theorem dL_law_997 : decode cL_law 997 = .ok (.aload_n 2, 1) := by decide +kernel
theorem dL_law_998 : decode cL_law 998 = .ok (.aload_n 0, 1) := by decide +kernel
theorem dL_law_999 : decode cL_law 999 = .ok (.iload_n 3, 1) := by decide +kernel
theorem dL_law_1000 : decode cL_law 1000 = .ok (.iconst 1, 1) := by decide +kernel
theorem dL_law_1001 : decode cL_law 1001 = .ok (.iadd, 1) := by decide +kernel
theorem dL_law_1002 : decode cL_law 1002 = .ok (.iaload, 1) := by decide +kernel
theorem dL_law_1003 : decode cL_law 1003 = .ok (.invokevirtual 143, 3) := by decide +kernel
theorem dL_law_1006 : decode cL_law 1006 = .ok (.if_icmp .eq 5, 3) := by decide +kernel
theorem dL_law_1009 : decode cL_law 1009 = .ok (.iconst 0, 1) := by decide +kernel
theorem dL_law_1010 : decode cL_law 1010 = .ok (.ireturn, 1) := by decide +kernel
theorem dL_law_1011 : decode cL_law 1011 = .ok (.iinc 3 6, 3) := by decide +kernel
theorem dL_law_1014 : decode cL_law 1014 = .ok (.goto (-996), 3) := by decide +kernel
theorem dL_law_1017 : decode cL_law 1017 = .ok (.iconst 1, 1) := by decide +kernel
theorem dL_law_1018 : decode cL_law 1018 = .ok (.ireturn, 1) := by decide +kernel
