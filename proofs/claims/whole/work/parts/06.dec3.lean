theorem dX11_takeNumber_76 : decode cX11_takeNumber 76 = .ok (.aload_n 0, 1) := by decide +kernel
theorem dX11_takeNumber_77 : decode cX11_takeNumber 77 = .ok (.getfield 119, 3) := by decide +kernel
theorem dX11_takeNumber_80 : decode cX11_takeNumber 80 = .ok (.sipush 10000, 3) := by decide +kernel
theorem dX11_takeNumber_83 : decode cX11_takeNumber 83 = .ok (.if_icmp .le 10, 3) := by decide +kernel
theorem dX11_takeNumber_86 : decode cX11_takeNumber 86 = .ok (.aload_n 0, 1) := by decide +kernel
theorem dX11_takeNumber_87 : decode cX11_takeNumber 87 = .ok (.getfield 119, 3) := by decide +kernel
theorem dX11_takeNumber_90 : decode cX11_takeNumber 90 = .ok (.goto 23, 3) := by decide +kernel
theorem dX11_takeNumber_93 : decode cX11_takeNumber 93 = .ok (.bipush 10, 2) := by decide +kernel
theorem dX11_takeNumber_95 : decode cX11_takeNumber 95 = .ok (.aload_n 0, 1) := by decide +kernel
theorem dX11_takeNumber_96 : decode cX11_takeNumber 96 = .ok (.getfield 119, 3) := by decide +kernel
theorem dX11_takeNumber_99 : decode cX11_takeNumber 99 = .ok (.imul, 1) := by decide +kernel
theorem dX11_takeNumber_100 : decode cX11_takeNumber 100 = .ok (.aload_n 0, 1) := by decide +kernel
theorem dX11_takeNumber_101 : decode cX11_takeNumber 101 = .ok (.getfield 25, 3) := by decide +kernel
theorem dX11_takeNumber_104 : decode cX11_takeNumber 104 = .ok (.aload_n 0, 1) := by decide +kernel
theorem dX11_takeNumber_105 : decode cX11_takeNumber 105 = .ok (.getfield 102, 3) := by decide +kernel
theorem dX11_takeNumber_108 : decode cX11_takeNumber 108 = .ok (.iaload, 1) := by decide +kernel
theorem dX11_takeNumber_109 : decode cX11_takeNumber 109 = .ok (.iadd, 1) := by decide +kernel
theorem dX11_takeNumber_110 : decode cX11_takeNumber 110 = .ok (.bipush 48, 2) := by decide +kernel
theorem dX11_takeNumber_112 : decode cX11_takeNumber 112 = .ok (.isub, 1) := by decide +kernel
theorem dX11_takeNumber_113 : decode cX11_takeNumber 113 = .ok (.putfield 119, 3) := by decide +kernel
theorem dX11_takeNumber_116 : decode cX11_takeNumber 116 = .ok (.aload_n 0, 1) := by decide +kernel
theorem dX11_takeNumber_117 : decode cX11_takeNumber 117 = .ok (.dup, 1) := by decide +kernel
theorem dX11_takeNumber_118 : decode cX11_takeNumber 118 = .ok (.getfield 102, 3) := by decide +kernel
theorem dX11_takeNumber_121 : decode cX11_takeNumber 121 = .ok (.iconst 1, 1) := by decide +kernel
theorem dX11_takeNumber_122 : decode cX11_takeNumber 122 = .ok (.iadd, 1) := by decide +kernel
theorem dX11_takeNumber_123 : decode cX11_takeNumber 123 = .ok (.putfield 102, 3) := by decide +kernel
theorem dX11_takeNumber_126 : decode cX11_takeNumber 126 = .ok (.goto (-84), 3) := by decide +kernel
theorem dX11_takeNumber_129 : decode cX11_takeNumber 129 = .ok (.aload_n 0, 1) := by decide +kernel
theorem dX11_takeNumber_130 : decode cX11_takeNumber 130 = .ok (.getfield 102, 3) := by decide +kernel
theorem dX11_takeNumber_133 : decode cX11_takeNumber 133 = .ok (.aload_n 0, 1) := by decide +kernel
theorem dX11_takeNumber_134 : decode cX11_takeNumber 134 = .ok (.getfield 116, 3) := by decide +kernel
theorem dX11_takeNumber_137 : decode cX11_takeNumber 137 = .ok (.isub, 1) := by decide +kernel
theorem dX11_takeNumber_138 : decode cX11_takeNumber 138 = .ok (.iconst 3, 1) := by decide +kernel
theorem dX11_takeNumber_139 : decode cX11_takeNumber 139 = .ok (.if_icmp .gt 18, 3) := by decide +kernel
theorem dX11_takeNumber_142 : decode cX11_takeNumber 142 = .ok (.aload_n 0, 1) := by decide +kernel
theorem dX11_takeNumber_143 : decode cX11_takeNumber 143 = .ok (.getfield 119, 3) := by decide +kernel
theorem dX11_takeNumber_146 : decode cX11_takeNumber 146 = .ok (.i2l, 1) := by decide +kernel
theorem dX11_takeNumber_147 : decode cX11_takeNumber 147 = .ok (.iload_n 1, 1) := by decide +kernel
theorem dX11_takeNumber_148 : decode cX11_takeNumber 148 = .ok (.i2l, 1) := by decide +kernel
theorem dX11_takeNumber_149 : decode cX11_takeNumber 149 = .ok (.iload_n 2, 1) := by decide +kernel
theorem dX11_takeNumber_150 : decode cX11_takeNumber 150 = .ok (.i2l, 1) := by decide +kernel
theorem dX11_takeNumber_151 : decode cX11_takeNumber 151 = .ok (.invokestatic 82, 3) := by decide +kernel
theorem dX11_takeNumber_154 : decode cX11_takeNumber 154 = .ok (.ifCond .ne 15, 3) := by decide +kernel
theorem dX11_takeNumber_157 : decode cX11_takeNumber 157 = .ok (.aload_n 0, 1) := by decide +kernel
theorem dX11_takeNumber_158 : decode cX11_takeNumber 158 = .ok (.iconst 2, 1) := by decide +kernel
theorem dX11_takeNumber_159 : decode cX11_takeNumber 159 = .ok (.aload_n 0, 1) := by decide +kernel
theorem dX11_takeNumber_160 : decode cX11_takeNumber 160 = .ok (.getfield 116, 3) := by decide +kernel
theorem dX11_takeNumber_163 : decode cX11_takeNumber 163 = .ok (.invokevirtual 112, 3) := by decide +kernel
theorem dX11_takeNumber_166 : decode cX11_takeNumber 166 = .ok (.goto 4, 3) := by decide +kernel
theorem dX11_takeNumber_169 : decode cX11_takeNumber 169 = .ok (.iconst 0, 1) := by decide +kernel
theorem dX11_takeNumber_170 : decode cX11_takeNumber 170 = .ok (.ireturn, 1) := by decide +kernel
theorem dX11_into_0 : decode cX11_into 0 = .ok (.aload_n 0, 1) := by decide +kernel
theorem dX11_into_1 : decode cX11_into 1 = .ok (.iload_n 3, 1) := by decide +kernel
theorem dX11_into_2 : decode cX11_into 2 = .ok (.iload 4, 2) := by decide +kernel
theorem dX11_into_4 : decode cX11_into 4 = .ok (.invokevirtual 122, 3) := by decide +kernel
theorem dX11_into_7 : decode cX11_into 7 = .ok (.istore 5, 2) := by decide +kernel
theorem dX11_into_9 : decode cX11_into 9 = .ok (.aload_n 1, 1) := by decide +kernel
theorem dX11_into_10 : decode cX11_into 10 = .ok (.iload_n 2, 1) := by decide +kernel
theorem dX11_into_11 : decode cX11_into 11 = .ok (.aload_n 0, 1) := by decide +kernel
theorem dX11_into_12 : decode cX11_into 12 = .ok (.getfield 119, 3) := by decide +kernel
theorem dX11_into_15 : decode cX11_into 15 = .ok (.iastore, 1) := by decide +kernel
theorem dX11_into_16 : decode cX11_into 16 = .ok (.iload 5, 2) := by decide +kernel
theorem dX11_into_18 : decode cX11_into 18 = .ok (.ireturn, 1) := by decide +kernel
theorem dX11_takeWall_0 : decode cX11_takeWall 0 = .ok (.aload_n 0, 1) := by decide +kernel
theorem dX11_takeWall_1 : decode cX11_takeWall 1 = .ok (.iconst 2, 1) := by decide +kernel
theorem dX11_takeWall_2 : decode cX11_takeWall 2 = .ok (.iconst 5, 1) := by decide +kernel
theorem dX11_takeWall_3 : decode cX11_takeWall 3 = .ok (.invokevirtual 122, 3) := by decide +kernel
theorem dX11_takeWall_6 : decode cX11_takeWall 6 = .ok (.istore_n 1, 1) := by decide +kernel
theorem dX11_takeWall_7 : decode cX11_takeWall 7 = .ok (.aload_n 0, 1) := by decide +kernel
theorem dX11_takeWall_8 : decode cX11_takeWall 8 = .ok (.aload_n 0, 1) := by decide +kernel
theorem dX11_takeWall_9 : decode cX11_takeWall 9 = .ok (.getfield 119, 3) := by decide +kernel
theorem dX11_takeWall_12 : decode cX11_takeWall 12 = .ok (.putfield 125, 3) := by decide +kernel
theorem dX11_takeWall_15 : decode cX11_takeWall 15 = .ok (.iload_n 1, 1) := by decide +kernel
theorem dX11_takeWall_16 : decode cX11_takeWall 16 = .ok (.ifCond .le 7, 3) := by decide +kernel
theorem dX11_takeWall_19 : decode cX11_takeWall 19 = .ok (.iload_n 1, 1) := by decide +kernel
theorem dX11_takeWall_20 : decode cX11_takeWall 20 = .ok (.goto 9, 3) := by decide +kernel
theorem dX11_takeWall_23 : decode cX11_takeWall 23 = .ok (.aload_n 0, 1) := by decide +kernel
theorem dX11_takeWall_24 : decode cX11_takeWall 24 = .ok (.iconst 2, 1) := by decide +kernel
theorem dX11_takeWall_25 : decode cX11_takeWall 25 = .ok (.iconst 5, 1) := by decide +kernel
theorem dX11_takeWall_26 : decode cX11_takeWall 26 = .ok (.invokevirtual 122, 3) := by decide +kernel
theorem dX11_takeWall_29 : decode cX11_takeWall 29 = .ok (.istore_n 1, 1) := by decide +kernel
theorem dX11_takeWall_30 : decode cX11_takeWall 30 = .ok (.aload_n 0, 1) := by decide +kernel
theorem dX11_takeWall_31 : decode cX11_takeWall 31 = .ok (.aload_n 0, 1) := by decide +kernel
theorem dX11_takeWall_32 : decode cX11_takeWall 32 = .ok (.getfield 119, 3) := by decide +kernel
theorem dX11_takeWall_35 : decode cX11_takeWall 35 = .ok (.putfield 128, 3) := by decide +kernel
theorem dX11_takeWall_38 : decode cX11_takeWall 38 = .ok (.iload_n 1, 1) := by decide +kernel
theorem dX11_takeWall_39 : decode cX11_takeWall 39 = .ok (.ireturn, 1) := by decide +kernel
theorem dX11_readCells_0 : decode cX11_readCells 0 = .ok (.aload_n 0, 1) := by decide +kernel
theorem dX11_readCells_1 : decode cX11_readCells 1 = .ok (.getfield 125, 3) := by decide +kernel
theorem dX11_readCells_4 : decode cX11_readCells 4 = .ok (.aload_n 0, 1) := by decide +kernel
theorem dX11_readCells_5 : decode cX11_readCells 5 = .ok (.getfield 128, 3) := by decide +kernel
theorem dX11_readCells_8 : decode cX11_readCells 8 = .ok (.imul, 1) := by decide +kernel
theorem dX11_readCells_9 : decode cX11_readCells 9 = .ok (.ireturn, 1) := by decide +kernel
theorem dX11_takeLeak_0 : decode cX11_takeLeak 0 = .ok (.aload_n 0, 1) := by decide +kernel
theorem dX11_takeLeak_1 : decode cX11_takeLeak 1 = .ok (.dup, 1) := by decide +kernel
theorem dX11_takeLeak_2 : decode cX11_takeLeak 2 = .ok (.getfield 131, 3) := by decide +kernel
theorem dX11_takeLeak_5 : decode cX11_takeLeak 5 = .ok (.iconst 1, 1) := by decide +kernel
theorem dX11_takeLeak_6 : decode cX11_takeLeak 6 = .ok (.iadd, 1) := by decide +kernel
theorem dX11_takeLeak_7 : decode cX11_takeLeak 7 = .ok (.putfield 131, 3) := by decide +kernel
theorem dX11_takeLeak_10 : decode cX11_takeLeak 10 = .ok (.aload_n 0, 1) := by decide +kernel
theorem dX11_takeLeak_11 : decode cX11_takeLeak 11 = .ok (.aload_n 0, 1) := by decide +kernel
theorem dX11_takeLeak_12 : decode cX11_takeLeak 12 = .ok (.getfield 32, 3) := by decide +kernel
theorem dX11_takeLeak_15 : decode cX11_takeLeak 15 = .ok (.aload_n 0, 1) := by decide +kernel
theorem dX11_takeLeak_16 : decode cX11_takeLeak 16 = .ok (.getfield 131, 3) := by decide +kernel
theorem dX11_takeLeak_19 : decode cX11_takeLeak 19 = .ok (.iconst 1, 1) := by decide +kernel
theorem dX11_takeLeak_20 : decode cX11_takeLeak 20 = .ok (.isub, 1) := by decide +kernel
theorem dX11_takeLeak_21 : decode cX11_takeLeak 21 = .ok (.iconst 0, 1) := by decide +kernel
theorem dX11_takeLeak_22 : decode cX11_takeLeak 22 = .ok (.aload_n 0, 1) := by decide +kernel
theorem dX11_takeLeak_23 : decode cX11_takeLeak 23 = .ok (.invokevirtual 134, 3) := by decide +kernel
theorem dX11_takeLeak_26 : decode cX11_takeLeak 26 = .ok (.iconst 1, 1) := by decide +kernel
theorem dX11_takeLeak_27 : decode cX11_takeLeak 27 = .ok (.isub, 1) := by decide +kernel
theorem dX11_takeLeak_28 : decode cX11_takeLeak 28 = .ok (.invokevirtual 137, 3) := by decide +kernel
theorem dX11_takeLeak_31 : decode cX11_takeLeak 31 = .ok (.ireturn, 1) := by decide +kernel
theorem dX11_isTold_0 : decode cX11_isTold 0 = .ok (.iconst 0, 1) := by decide +kernel
theorem dX11_isTold_1 : decode cX11_isTold 1 = .ok (.istore_n 3, 1) := by decide +kernel
theorem dX11_isTold_2 : decode cX11_isTold 2 = .ok (.iconst 0, 1) := by decide +kernel
theorem dX11_isTold_3 : decode cX11_isTold 3 = .ok (.istore 4, 2) := by decide +kernel
theorem dX11_isTold_5 : decode cX11_isTold 5 = .ok (.iload 4, 2) := by decide +kernel
theorem dX11_isTold_7 : decode cX11_isTold 7 = .ok (.aload_n 0, 1) := by decide +kernel
theorem dX11_isTold_8 : decode cX11_isTold 8 = .ok (.getfield 141, 3) := by decide +kernel
theorem dX11_isTold_11 : decode cX11_isTold 11 = .ok (.if_icmp .ge 63, 3) := by decide +kernel
theorem dX11_isTold_14 : decode cX11_isTold 14 = .ok (.iload_n 3, 1) := by decide +kernel
theorem dX11_isTold_15 : decode cX11_isTold 15 = .ok (.ifCond .ne 47, 3) := by decide +kernel
theorem dX11_isTold_18 : decode cX11_isTold 18 = .ok (.aload_n 0, 1) := by decide +kernel
theorem dX11_isTold_19 : decode cX11_isTold 19 = .ok (.getfield 35, 3) := by decide +kernel
theorem dX11_isTold_22 : decode cX11_isTold 22 = .ok (.iload 4, 2) := by decide +kernel
theorem dX11_isTold_24 : decode cX11_isTold 24 = .ok (.iaload, 1) := by decide +kernel
theorem dX11_isTold_25 : decode cX11_isTold 25 = .ok (.iload_n 1, 1) := by decide +kernel
theorem dX11_isTold_26 : decode cX11_isTold 26 = .ok (.if_icmp .ne 14, 3) := by decide +kernel
theorem dX11_isTold_29 : decode cX11_isTold 29 = .ok (.aload_n 0, 1) := by decide +kernel
theorem dX11_isTold_30 : decode cX11_isTold 30 = .ok (.getfield 38, 3) := by decide +kernel
theorem dX11_isTold_33 : decode cX11_isTold 33 = .ok (.iload 4, 2) := by decide +kernel
theorem dX11_isTold_35 : decode cX11_isTold 35 = .ok (.iaload, 1) := by decide +kernel
theorem dX11_isTold_36 : decode cX11_isTold 36 = .ok (.iload_n 2, 1) := by decide +kernel
theorem dX11_isTold_37 : decode cX11_isTold 37 = .ok (.if_icmp .eq 25, 3) := by decide +kernel
theorem dX11_isTold_40 : decode cX11_isTold 40 = .ok (.aload_n 0, 1) := by decide +kernel
theorem dX11_isTold_41 : decode cX11_isTold 41 = .ok (.getfield 35, 3) := by decide +kernel
theorem dX11_isTold_44 : decode cX11_isTold 44 = .ok (.iload 4, 2) := by decide +kernel
theorem dX11_isTold_46 : decode cX11_isTold 46 = .ok (.iaload, 1) := by decide +kernel
theorem dX11_isTold_47 : decode cX11_isTold 47 = .ok (.iload_n 2, 1) := by decide +kernel
theorem dX11_isTold_48 : decode cX11_isTold 48 = .ok (.if_icmp .ne 18, 3) := by decide +kernel
theorem dX11_isTold_51 : decode cX11_isTold 51 = .ok (.aload_n 0, 1) := by decide +kernel
theorem dX11_isTold_52 : decode cX11_isTold 52 = .ok (.getfield 38, 3) := by decide +kernel
theorem dX11_isTold_55 : decode cX11_isTold 55 = .ok (.iload 4, 2) := by decide +kernel
theorem dX11_isTold_57 : decode cX11_isTold 57 = .ok (.iaload, 1) := by decide +kernel
theorem dX11_isTold_58 : decode cX11_isTold 58 = .ok (.iload_n 1, 1) := by decide +kernel
theorem dX11_isTold_59 : decode cX11_isTold 59 = .ok (.if_icmp .ne 7, 3) := by decide +kernel
theorem dX11_isTold_62 : decode cX11_isTold 62 = .ok (.iconst 1, 1) := by decide +kernel
theorem dX11_isTold_63 : decode cX11_isTold 63 = .ok (.goto 4, 3) := by decide +kernel
theorem dX11_isTold_66 : decode cX11_isTold 66 = .ok (.iconst 0, 1) := by decide +kernel
theorem dX11_isTold_67 : decode cX11_isTold 67 = .ok (.istore_n 3, 1) := by decide +kernel
theorem dX11_isTold_68 : decode cX11_isTold 68 = .ok (.iinc 4 1, 3) := by decide +kernel
theorem dX11_isTold_71 : decode cX11_isTold 71 = .ok (.goto (-66), 3) := by decide +kernel
theorem dX11_isTold_74 : decode cX11_isTold 74 = .ok (.iload_n 3, 1) := by decide +kernel
theorem dX11_isTold_75 : decode cX11_isTold 75 = .ok (.ireturn, 1) := by decide +kernel
theorem dX11_takeCrack_0 : decode cX11_takeCrack 0 = .ok (.aload_n 0, 1) := by decide +kernel
theorem dX11_takeCrack_1 : decode cX11_takeCrack 1 = .ok (.getfield 141, 3) := by decide +kernel
theorem dX11_takeCrack_4 : decode cX11_takeCrack 4 = .ok (.istore_n 1, 1) := by decide +kernel
theorem dX11_takeCrack_5 : decode cX11_takeCrack 5 = .ok (.aload_n 0, 1) := by decide +kernel
theorem dX11_takeCrack_6 : decode cX11_takeCrack 6 = .ok (.aload_n 0, 1) := by decide +kernel
theorem dX11_takeCrack_7 : decode cX11_takeCrack 7 = .ok (.getfield 35, 3) := by decide +kernel
theorem dX11_takeCrack_10 : decode cX11_takeCrack 10 = .ok (.iload_n 1, 1) := by decide +kernel
theorem dX11_takeCrack_11 : decode cX11_takeCrack 11 = .ok (.iconst 0, 1) := by decide +kernel
theorem dX11_takeCrack_12 : decode cX11_takeCrack 12 = .ok (.aload_n 0, 1) := by decide +kernel
theorem dX11_takeCrack_13 : decode cX11_takeCrack 13 = .ok (.invokevirtual 134, 3) := by decide +kernel
theorem dX11_takeCrack_16 : decode cX11_takeCrack 16 = .ok (.iconst 1, 1) := by decide +kernel
theorem dX11_takeCrack_17 : decode cX11_takeCrack 17 = .ok (.isub, 1) := by decide +kernel
theorem dX11_takeCrack_18 : decode cX11_takeCrack 18 = .ok (.invokevirtual 137, 3) := by decide +kernel
theorem dX11_takeCrack_21 : decode cX11_takeCrack 21 = .ok (.istore_n 2, 1) := by decide +kernel
theorem dX11_takeCrack_22 : decode cX11_takeCrack 22 = .ok (.iload_n 2, 1) := by decide +kernel
theorem dX11_takeCrack_23 : decode cX11_takeCrack 23 = .ok (.ifCond .le 7, 3) := by decide +kernel
theorem dX11_takeCrack_26 : decode cX11_takeCrack 26 = .ok (.iload_n 2, 1) := by decide +kernel
theorem dX11_takeCrack_27 : decode cX11_takeCrack 27 = .ok (.goto 19, 3) := by decide +kernel
theorem dX11_takeCrack_30 : decode cX11_takeCrack 30 = .ok (.aload_n 0, 1) := by decide +kernel
theorem dX11_takeCrack_31 : decode cX11_takeCrack 31 = .ok (.aload_n 0, 1) := by decide +kernel
theorem dX11_takeCrack_32 : decode cX11_takeCrack 32 = .ok (.getfield 38, 3) := by decide +kernel
theorem dX11_takeCrack_35 : decode cX11_takeCrack 35 = .ok (.iload_n 1, 1) := by decide +kernel
theorem dX11_takeCrack_36 : decode cX11_takeCrack 36 = .ok (.iconst 0, 1) := by decide +kernel
theorem dX11_takeCrack_37 : decode cX11_takeCrack 37 = .ok (.aload_n 0, 1) := by decide +kernel
theorem dX11_takeCrack_38 : decode cX11_takeCrack 38 = .ok (.invokevirtual 134, 3) := by decide +kernel
theorem dX11_takeCrack_41 : decode cX11_takeCrack 41 = .ok (.iconst 1, 1) := by decide +kernel
theorem dX11_takeCrack_42 : decode cX11_takeCrack 42 = .ok (.isub, 1) := by decide +kernel
theorem dX11_takeCrack_43 : decode cX11_takeCrack 43 = .ok (.invokevirtual 137, 3) := by decide +kernel
theorem dX11_takeCrack_46 : decode cX11_takeCrack 46 = .ok (.istore_n 2, 1) := by decide +kernel
theorem dX11_takeCrack_47 : decode cX11_takeCrack 47 = .ok (.iload_n 2, 1) := by decide +kernel
theorem dX11_takeCrack_48 : decode cX11_takeCrack 48 = .ok (.ifCond .le 5, 3) := by decide +kernel
theorem dX11_takeCrack_51 : decode cX11_takeCrack 51 = .ok (.iload_n 2, 1) := by decide +kernel
theorem dX11_takeCrack_52 : decode cX11_takeCrack 52 = .ok (.ireturn, 1) := by decide +kernel
theorem dX11_takeCrack_53 : decode cX11_takeCrack 53 = .ok (.aload_n 0, 1) := by decide +kernel
theorem dX11_takeCrack_54 : decode cX11_takeCrack 54 = .ok (.getfield 35, 3) := by decide +kernel
theorem dX11_takeCrack_57 : decode cX11_takeCrack 57 = .ok (.iload_n 1, 1) := by decide +kernel
theorem dX11_takeCrack_58 : decode cX11_takeCrack 58 = .ok (.iaload, 1) := by decide +kernel
theorem dX11_takeCrack_59 : decode cX11_takeCrack 59 = .ok (.aload_n 0, 1) := by decide +kernel
theorem dX11_takeCrack_60 : decode cX11_takeCrack 60 = .ok (.getfield 38, 3) := by decide +kernel
theorem dX11_takeCrack_63 : decode cX11_takeCrack 63 = .ok (.iload_n 1, 1) := by decide +kernel
theorem dX11_takeCrack_64 : decode cX11_takeCrack 64 = .ok (.iaload, 1) := by decide +kernel
theorem dX11_takeCrack_65 : decode cX11_takeCrack 65 = .ok (.aload_n 0, 1) := by decide +kernel
theorem dX11_takeCrack_66 : decode cX11_takeCrack 66 = .ok (.getfield 128, 3) := by decide +kernel
theorem dX11_takeCrack_69 : decode cX11_takeCrack 69 = .ok (.invokestatic 144, 3) := by decide +kernel
theorem dX11_takeCrack_72 : decode cX11_takeCrack 72 = .ok (.ifCond .eq 22, 3) := by decide +kernel
theorem dX11_takeCrack_75 : decode cX11_takeCrack 75 = .ok (.aload_n 0, 1) := by decide +kernel
theorem dX11_takeCrack_76 : decode cX11_takeCrack 76 = .ok (.aload_n 0, 1) := by decide +kernel
theorem dX11_takeCrack_77 : decode cX11_takeCrack 77 = .ok (.getfield 35, 3) := by decide +kernel
theorem dX11_takeCrack_80 : decode cX11_takeCrack 80 = .ok (.iload_n 1, 1) := by decide +kernel
theorem dX11_takeCrack_81 : decode cX11_takeCrack 81 = .ok (.iaload, 1) := by decide +kernel
theorem dX11_takeCrack_82 : decode cX11_takeCrack 82 = .ok (.aload_n 0, 1) := by decide +kernel
theorem dX11_takeCrack_83 : decode cX11_takeCrack 83 = .ok (.getfield 38, 3) := by decide +kernel
theorem dX11_takeCrack_86 : decode cX11_takeCrack 86 = .ok (.iload_n 1, 1) := by decide +kernel
theorem dX11_takeCrack_87 : decode cX11_takeCrack 87 = .ok (.iaload, 1) := by decide +kernel
theorem dX11_takeCrack_88 : decode cX11_takeCrack 88 = .ok (.invokevirtual 148, 3) := by decide +kernel
theorem dX11_takeCrack_91 : decode cX11_takeCrack 91 = .ok (.ifCond .eq 13, 3) := by decide +kernel
theorem dX11_takeCrack_94 : decode cX11_takeCrack 94 = .ok (.aload_n 0, 1) := by decide +kernel
theorem dX11_takeCrack_95 : decode cX11_takeCrack 95 = .ok (.iconst 4, 1) := by decide +kernel
theorem dX11_takeCrack_96 : decode cX11_takeCrack 96 = .ok (.aload_n 0, 1) := by decide +kernel
theorem dX11_takeCrack_97 : decode cX11_takeCrack 97 = .ok (.getfield 116, 3) := by decide +kernel
theorem dX11_takeCrack_100 : decode cX11_takeCrack 100 = .ok (.invokevirtual 112, 3) := by decide +kernel
theorem dX11_takeCrack_103 : decode cX11_takeCrack 103 = .ok (.ireturn, 1) := by decide +kernel
theorem dX11_takeCrack_104 : decode cX11_takeCrack 104 = .ok (.aload_n 0, 1) := by decide +kernel
theorem dX11_takeCrack_105 : decode cX11_takeCrack 105 = .ok (.dup, 1) := by decide +kernel
theorem dX11_takeCrack_106 : decode cX11_takeCrack 106 = .ok (.getfield 141, 3) := by decide +kernel
theorem dX11_takeCrack_109 : decode cX11_takeCrack 109 = .ok (.iconst 1, 1) := by decide +kernel
theorem dX11_takeCrack_110 : decode cX11_takeCrack 110 = .ok (.iadd, 1) := by decide +kernel
theorem dX11_takeCrack_111 : decode cX11_takeCrack 111 = .ok (.putfield 141, 3) := by decide +kernel
theorem dX11_takeCrack_114 : decode cX11_takeCrack 114 = .ok (.iconst 0, 1) := by decide +kernel
theorem dX11_takeCrack_115 : decode cX11_takeCrack 115 = .ok (.ireturn, 1) := by decide +kernel
theorem dX11_takeLike_0 : decode cX11_takeLike 0 = .ok (.aload_n 0, 1) := by decide +kernel
theorem dX11_takeLike_1 : decode cX11_takeLike 1 = .ok (.getfield 152, 3) := by decide +kernel
theorem dX11_takeLike_4 : decode cX11_takeLike 4 = .ok (.istore_n 1, 1) := by decide +kernel
theorem dX11_takeLike_5 : decode cX11_takeLike 5 = .ok (.aload_n 0, 1) := by decide +kernel
theorem dX11_takeLike_6 : decode cX11_takeLike 6 = .ok (.dup, 1) := by decide +kernel
theorem dX11_takeLike_7 : decode cX11_takeLike 7 = .ok (.getfield 152, 3) := by decide +kernel
theorem dX11_takeLike_10 : decode cX11_takeLike 10 = .ok (.iconst 1, 1) := by decide +kernel
theorem dX11_takeLike_11 : decode cX11_takeLike 11 = .ok (.iadd, 1) := by decide +kernel
theorem dX11_takeLike_12 : decode cX11_takeLike 12 = .ok (.putfield 152, 3) := by decide +kernel
theorem dX11_takeLike_15 : decode cX11_takeLike 15 = .ok (.aload_n 0, 1) := by decide +kernel
theorem dX11_takeLike_16 : decode cX11_takeLike 16 = .ok (.getfield 41, 3) := by decide +kernel
theorem dX11_takeLike_19 : decode cX11_takeLike 19 = .ok (.iload_n 1, 1) := by decide +kernel
theorem dX11_takeLike_20 : decode cX11_takeLike 20 = .ok (.iconst 0, 1) := by decide +kernel
theorem dX11_takeLike_21 : decode cX11_takeLike 21 = .ok (.iastore, 1) := by decide +kernel
theorem dX11_takeLike_22 : decode cX11_takeLike 22 = .ok (.iconst 0, 1) := by decide +kernel
theorem dX11_takeLike_23 : decode cX11_takeLike 23 = .ok (.istore_n 2, 1) := by decide +kernel
theorem dX11_takeLike_24 : decode cX11_takeLike 24 = .ok (.iconst 0, 1) := by decide +kernel
theorem dX11_takeLike_25 : decode cX11_takeLike 25 = .ok (.istore_n 3, 1) := by decide +kernel
theorem dX11_takeLike_26 : decode cX11_takeLike 26 = .ok (.iload_n 3, 1) := by decide +kernel
theorem dX11_takeLike_27 : decode cX11_takeLike 27 = .ok (.aload_n 0, 1) := by decide +kernel
theorem dX11_takeLike_28 : decode cX11_takeLike 28 = .ok (.getfield 125, 3) := by decide +kernel
theorem dX11_takeLike_31 : decode cX11_takeLike 31 = .ok (.if_icmp .ge 96, 3) := by decide +kernel
theorem dX11_takeLike_34 : decode cX11_takeLike 34 = .ok (.iload_n 2, 1) := by decide +kernel
theorem dX11_takeLike_35 : decode cX11_takeLike 35 = .ok (.ifCond .ne 92, 3) := by decide +kernel
theorem dX11_takeLike_38 : decode cX11_takeLike 38 = .ok (.iload_n 3, 1) := by decide +kernel
theorem dX11_takeLike_39 : decode cX11_takeLike 39 = .ok (.ifCond .le 22, 3) := by decide +kernel
theorem dX11_takeLike_42 : decode cX11_takeLike 42 = .ok (.aload_n 0, 1) := by decide +kernel
theorem dX11_takeLike_43 : decode cX11_takeLike 43 = .ok (.invokevirtual 105, 3) := by decide +kernel
theorem dX11_takeLike_46 : decode cX11_takeLike 46 = .ok (.bipush 44, 2) := by decide +kernel
theorem dX11_takeLike_48 : decode cX11_takeLike 48 = .ok (.if_icmp .eq 13, 3) := by decide +kernel
theorem dX11_takeLike_51 : decode cX11_takeLike 51 = .ok (.aload_n 0, 1) := by decide +kernel
theorem dX11_takeLike_52 : decode cX11_takeLike 52 = .ok (.iconst 1, 1) := by decide +kernel
theorem dX11_takeLike_53 : decode cX11_takeLike 53 = .ok (.aload_n 0, 1) := by decide +kernel
theorem dX11_takeLike_54 : decode cX11_takeLike 54 = .ok (.getfield 102, 3) := by decide +kernel
theorem dX11_takeLike_57 : decode cX11_takeLike 57 = .ok (.invokevirtual 112, 3) := by decide +kernel
theorem dX11_takeLike_60 : decode cX11_takeLike 60 = .ok (.ireturn, 1) := by decide +kernel
theorem dX11_takeLike_61 : decode cX11_takeLike 61 = .ok (.aload_n 0, 1) := by decide +kernel
theorem dX11_takeLike_62 : decode cX11_takeLike 62 = .ok (.dup, 1) := by decide +kernel
theorem dX11_takeLike_63 : decode cX11_takeLike 63 = .ok (.getfield 102, 3) := by decide +kernel
theorem dX11_takeLike_66 : decode cX11_takeLike 66 = .ok (.iload_n 3, 1) := by decide +kernel
theorem dX11_takeLike_67 : decode cX11_takeLike 67 = .ok (.ifCond .le 7, 3) := by decide +kernel
theorem dX11_takeLike_70 : decode cX11_takeLike 70 = .ok (.iconst 1, 1) := by decide +kernel
theorem dX11_takeLike_71 : decode cX11_takeLike 71 = .ok (.goto 4, 3) := by decide +kernel
theorem dX11_takeLike_74 : decode cX11_takeLike 74 = .ok (.iconst 0, 1) := by decide +kernel
theorem dX11_takeLike_75 : decode cX11_takeLike 75 = .ok (.iadd, 1) := by decide +kernel
theorem dX11_takeLike_76 : decode cX11_takeLike 76 = .ok (.putfield 102, 3) := by decide +kernel
theorem dX11_takeLike_79 : decode cX11_takeLike 79 = .ok (.aload_n 0, 1) := by decide +kernel
theorem dX11_takeLike_80 : decode cX11_takeLike 80 = .ok (.iconst 0, 1) := by decide +kernel
theorem dX11_takeLike_81 : decode cX11_takeLike 81 = .ok (.iconst 1, 1) := by decide +kernel
theorem dX11_takeLike_82 : decode cX11_takeLike 82 = .ok (.aload_n 0, 1) := by decide +kernel
theorem dX11_takeLike_83 : decode cX11_takeLike 83 = .ok (.getfield 128, 3) := by decide +kernel
theorem dX11_takeLike_86 : decode cX11_takeLike 86 = .ok (.ishl, 1) := by decide +kernel
theorem dX11_takeLike_87 : decode cX11_takeLike 87 = .ok (.iconst 1, 1) := by decide +kernel
theorem dX11_takeLike_88 : decode cX11_takeLike 88 = .ok (.isub, 1) := by decide +kernel
theorem dX11_takeLike_89 : decode cX11_takeLike 89 = .ok (.invokevirtual 122, 3) := by decide +kernel
theorem dX11_takeLike_92 : decode cX11_takeLike 92 = .ok (.istore_n 2, 1) := by decide +kernel
theorem dX11_takeLike_93 : decode cX11_takeLike 93 = .ok (.aload_n 0, 1) := by decide +kernel
theorem dX11_takeLike_94 : decode cX11_takeLike 94 = .ok (.getfield 41, 3) := by decide +kernel
theorem dX11_takeLike_97 : decode cX11_takeLike 97 = .ok (.iload_n 1, 1) := by decide +kernel
theorem dX11_takeLike_98 : decode cX11_takeLike 98 = .ok (.dup2, 1) := by decide +kernel
theorem dX11_takeLike_99 : decode cX11_takeLike 99 = .ok (.iaload, 1) := by decide +kernel
theorem dX11_takeLike_100 : decode cX11_takeLike 100 = .ok (.iload_n 2, 1) := by decide +kernel
theorem dX11_takeLike_101 : decode cX11_takeLike 101 = .ok (.ifCond .le 7, 3) := by decide +kernel
theorem dX11_takeLike_104 : decode cX11_takeLike 104 = .ok (.iconst 0, 1) := by decide +kernel
theorem dX11_takeLike_105 : decode cX11_takeLike 105 = .ok (.goto 14, 3) := by decide +kernel
theorem dX11_takeLike_108 : decode cX11_takeLike 108 = .ok (.aload_n 0, 1) := by decide +kernel
theorem dX11_takeLike_109 : decode cX11_takeLike 109 = .ok (.getfield 119, 3) := by decide +kernel
theorem dX11_takeLike_112 : decode cX11_takeLike 112 = .ok (.aload_n 0, 1) := by decide +kernel
theorem dX11_takeLike_113 : decode cX11_takeLike 113 = .ok (.getfield 128, 3) := by decide +kernel
theorem dX11_takeLike_116 : decode cX11_takeLike 116 = .ok (.iload_n 3, 1) := by decide +kernel
theorem dX11_takeLike_117 : decode cX11_takeLike 117 = .ok (.imul, 1) := by decide +kernel
theorem dX11_takeLike_118 : decode cX11_takeLike 118 = .ok (.ishl, 1) := by decide +kernel
theorem dX11_takeLike_119 : decode cX11_takeLike 119 = .ok (.ior, 1) := by decide +kernel
theorem dX11_takeLike_120 : decode cX11_takeLike 120 = .ok (.iastore, 1) := by decide +kernel
theorem dX11_takeLike_121 : decode cX11_takeLike 121 = .ok (.iinc 3 1, 3) := by decide +kernel
theorem dX11_takeLike_124 : decode cX11_takeLike 124 = .ok (.goto (-98), 3) := by decide +kernel
theorem dX11_takeLike_127 : decode cX11_takeLike 127 = .ok (.iload_n 2, 1) := by decide +kernel
theorem dX11_takeLike_128 : decode cX11_takeLike 128 = .ok (.ireturn, 1) := by decide +kernel
theorem dX11_takeWind_0 : decode cX11_takeWind 0 = .ok (.aload_n 0, 1) := by decide +kernel
theorem dX11_takeWind_1 : decode cX11_takeWind 1 = .ok (.iconst 1, 1) := by decide +kernel
theorem dX11_takeWind_2 : decode cX11_takeWind 2 = .ok (.putfield 155, 3) := by decide +kernel
theorem dX11_takeWind_5 : decode cX11_takeWind 5 = .ok (.aload_n 0, 1) := by decide +kernel
theorem dX11_takeWind_6 : decode cX11_takeWind 6 = .ok (.iconst 0, 1) := by decide +kernel
theorem dX11_takeWind_7 : decode cX11_takeWind 7 = .ok (.iconst 2, 1) := by decide +kernel
theorem dX11_takeWind_8 : decode cX11_takeWind 8 = .ok (.invokevirtual 122, 3) := by decide +kernel
theorem dX11_takeWind_11 : decode cX11_takeWind 11 = .ok (.istore_n 1, 1) := by decide +kernel
theorem dX11_takeWind_12 : decode cX11_takeWind 12 = .ok (.aload_n 0, 1) := by decide +kernel
theorem dX11_takeWind_13 : decode cX11_takeWind 13 = .ok (.aload_n 0, 1) := by decide +kernel
theorem dX11_takeWind_14 : decode cX11_takeWind 14 = .ok (.getfield 119, 3) := by decide +kernel
theorem dX11_takeWind_17 : decode cX11_takeWind 17 = .ok (.putfield 159, 3) := by decide +kernel
theorem dX11_takeWind_20 : decode cX11_takeWind 20 = .ok (.iload_n 1, 1) := by decide +kernel
theorem dX11_takeWind_21 : decode cX11_takeWind 21 = .ok (.ireturn, 1) := by decide +kernel
theorem dX11_isFull_0 : decode cX11_isFull 0 = .ok (.iload_n 1, 1) := by decide +kernel
theorem dX11_isFull_1 : decode cX11_isFull 1 = .ok (.tableswitch 87 0 3 #[31, 44, 58, 73], 31) := by decide +kernel
theorem dX11_isFull_32 : decode cX11_isFull 32 = .ok (.aload_n 0, 1) := by decide +kernel
theorem dX11_isFull_33 : decode cX11_isFull 33 = .ok (.getfield 125, 3) := by decide +kernel
theorem dX11_isFull_36 : decode cX11_isFull 36 = .ok (.ifCond .le 7, 3) := by decide +kernel
theorem dX11_isFull_39 : decode cX11_isFull 39 = .ok (.iconst 1, 1) := by decide +kernel
theorem dX11_isFull_40 : decode cX11_isFull 40 = .ok (.goto 4, 3) := by decide +kernel
theorem dX11_isFull_43 : decode cX11_isFull 43 = .ok (.iconst 0, 1) := by decide +kernel
theorem dX11_isFull_44 : decode cX11_isFull 44 = .ok (.ireturn, 1) := by decide +kernel
theorem dX11_isFull_45 : decode cX11_isFull 45 = .ok (.aload_n 0, 1) := by decide +kernel
theorem dX11_isFull_46 : decode cX11_isFull 46 = .ok (.getfield 131, 3) := by decide +kernel
theorem dX11_isFull_49 : decode cX11_isFull 49 = .ok (.iconst 4, 1) := by decide +kernel
theorem dX11_isFull_50 : decode cX11_isFull 50 = .ok (.if_icmp .ne 7, 3) := by decide +kernel
theorem dX11_isFull_53 : decode cX11_isFull 53 = .ok (.iconst 1, 1) := by decide +kernel
theorem dX11_isFull_54 : decode cX11_isFull 54 = .ok (.goto 4, 3) := by decide +kernel
theorem dX11_isFull_57 : decode cX11_isFull 57 = .ok (.iconst 0, 1) := by decide +kernel
theorem dX11_isFull_58 : decode cX11_isFull 58 = .ok (.ireturn, 1) := by decide +kernel
theorem dX11_isFull_59 : decode cX11_isFull 59 = .ok (.aload_n 0, 1) := by decide +kernel
theorem dX11_isFull_60 : decode cX11_isFull 60 = .ok (.getfield 141, 3) := by decide +kernel
theorem dX11_isFull_63 : decode cX11_isFull 63 = .ok (.bipush 6, 2) := by decide +kernel
theorem dX11_isFull_65 : decode cX11_isFull 65 = .ok (.if_icmp .ne 7, 3) := by decide +kernel
theorem dX11_isFull_68 : decode cX11_isFull 68 = .ok (.iconst 1, 1) := by decide +kernel
theorem dX11_isFull_69 : decode cX11_isFull 69 = .ok (.goto 4, 3) := by decide +kernel
theorem dX11_isFull_72 : decode cX11_isFull 72 = .ok (.iconst 0, 1) := by decide +kernel
theorem dX11_isFull_73 : decode cX11_isFull 73 = .ok (.ireturn, 1) := by decide +kernel
theorem dX11_isFull_74 : decode cX11_isFull 74 = .ok (.aload_n 0, 1) := by decide +kernel
theorem dX11_isFull_75 : decode cX11_isFull 75 = .ok (.getfield 152, 3) := by decide +kernel
theorem dX11_isFull_78 : decode cX11_isFull 78 = .ok (.iconst 5, 1) := by decide +kernel
theorem dX11_isFull_79 : decode cX11_isFull 79 = .ok (.if_icmp .ne 7, 3) := by decide +kernel
theorem dX11_isFull_82 : decode cX11_isFull 82 = .ok (.iconst 1, 1) := by decide +kernel
theorem dX11_isFull_83 : decode cX11_isFull 83 = .ok (.goto 4, 3) := by decide +kernel
theorem dX11_isFull_86 : decode cX11_isFull 86 = .ok (.iconst 0, 1) := by decide +kernel
theorem dX11_isFull_87 : decode cX11_isFull 87 = .ok (.ireturn, 1) := by decide +kernel
theorem dX11_isFull_88 : decode cX11_isFull 88 = .ok (.aload_n 0, 1) := by decide +kernel
theorem dX11_isFull_89 : decode cX11_isFull 89 = .ok (.getfield 155, 3) := by decide +kernel
theorem dX11_isFull_92 : decode cX11_isFull 92 = .ok (.ireturn, 1) := by decide +kernel
theorem dX11_takeBody_0 : decode cX11_takeBody 0 = .ok (.iload_n 1, 1) := by decide +kernel
theorem dX11_takeBody_1 : decode cX11_takeBody 1 = .ok (.tableswitch 51 0 3 #[31, 36, 41, 46], 31) := by decide +kernel
theorem dX11_takeBody_32 : decode cX11_takeBody 32 = .ok (.aload_n 0, 1) := by decide +kernel
theorem dX11_takeBody_33 : decode cX11_takeBody 33 = .ok (.invokevirtual 162, 3) := by decide +kernel
theorem dX11_takeBody_36 : decode cX11_takeBody 36 = .ok (.ireturn, 1) := by decide +kernel
theorem dX11_takeBody_37 : decode cX11_takeBody 37 = .ok (.aload_n 0, 1) := by decide +kernel
theorem dX11_takeBody_38 : decode cX11_takeBody 38 = .ok (.invokevirtual 165, 3) := by decide +kernel
theorem dX11_takeBody_41 : decode cX11_takeBody 41 = .ok (.ireturn, 1) := by decide +kernel
theorem dX11_takeBody_42 : decode cX11_takeBody 42 = .ok (.aload_n 0, 1) := by decide +kernel
theorem dX11_takeBody_43 : decode cX11_takeBody 43 = .ok (.invokevirtual 168, 3) := by decide +kernel
theorem dX11_takeBody_46 : decode cX11_takeBody 46 = .ok (.ireturn, 1) := by decide +kernel
theorem dX11_takeBody_47 : decode cX11_takeBody 47 = .ok (.aload_n 0, 1) := by decide +kernel
theorem dX11_takeBody_48 : decode cX11_takeBody 48 = .ok (.invokevirtual 171, 3) := by decide +kernel
theorem dX11_takeBody_51 : decode cX11_takeBody 51 = .ok (.ireturn, 1) := by decide +kernel
theorem dX11_takeBody_52 : decode cX11_takeBody 52 = .ok (.aload_n 0, 1) := by decide +kernel
theorem dX11_takeBody_53 : decode cX11_takeBody 53 = .ok (.invokevirtual 174, 3) := by decide +kernel
theorem dX11_takeBody_56 : decode cX11_takeBody 56 = .ok (.ireturn, 1) := by decide +kernel
theorem dX11_takeClause_0 : decode cX11_takeClause 0 = .ok (.aload_n 0, 1) := by decide +kernel
theorem dX11_takeClause_1 : decode cX11_takeClause 1 = .ok (.invokevirtual 105, 3) := by decide +kernel
theorem dX11_takeClause_4 : decode cX11_takeClause 4 = .ok (.istore_n 1, 1) := by decide +kernel
theorem dX11_takeClause_5 : decode cX11_takeClause 5 = .ok (.iload_n 1, 1) := by decide +kernel
theorem dX11_takeClause_6 : decode cX11_takeClause 6 = .ok (.bipush 119, 2) := by decide +kernel
theorem dX11_takeClause_8 : decode cX11_takeClause 8 = .ok (.if_icmp .ne 7, 3) := by decide +kernel
theorem dX11_takeClause_11 : decode cX11_takeClause 11 = .ok (.iconst 0, 1) := by decide +kernel
theorem dX11_takeClause_12 : decode cX11_takeClause 12 = .ok (.goto 44, 3) := by decide +kernel
theorem dX11_takeClause_15 : decode cX11_takeClause 15 = .ok (.iload_n 1, 1) := by decide +kernel
theorem dX11_takeClause_16 : decode cX11_takeClause 16 = .ok (.bipush 108, 2) := by decide +kernel
theorem dX11_takeClause_18 : decode cX11_takeClause 18 = .ok (.if_icmp .ne 7, 3) := by decide +kernel
theorem dX11_takeClause_21 : decode cX11_takeClause 21 = .ok (.iconst 1, 1) := by decide +kernel
theorem dX11_takeClause_22 : decode cX11_takeClause 22 = .ok (.goto 34, 3) := by decide +kernel
theorem dX11_takeClause_25 : decode cX11_takeClause 25 = .ok (.iload_n 1, 1) := by decide +kernel
theorem dX11_takeClause_26 : decode cX11_takeClause 26 = .ok (.bipush 99, 2) := by decide +kernel
theorem dX11_takeClause_28 : decode cX11_takeClause 28 = .ok (.if_icmp .ne 7, 3) := by decide +kernel
theorem dX11_takeClause_31 : decode cX11_takeClause 31 = .ok (.iconst 2, 1) := by decide +kernel
theorem dX11_takeClause_32 : decode cX11_takeClause 32 = .ok (.goto 24, 3) := by decide +kernel
theorem dX11_takeClause_35 : decode cX11_takeClause 35 = .ok (.iload_n 1, 1) := by decide +kernel
theorem dX11_takeClause_36 : decode cX11_takeClause 36 = .ok (.bipush 102, 2) := by decide +kernel
theorem dX11_takeClause_38 : decode cX11_takeClause 38 = .ok (.if_icmp .ne 7, 3) := by decide +kernel
theorem dX11_takeClause_41 : decode cX11_takeClause 41 = .ok (.iconst 3, 1) := by decide +kernel
theorem dX11_takeClause_42 : decode cX11_takeClause 42 = .ok (.goto 14, 3) := by decide +kernel
theorem dX11_takeClause_45 : decode cX11_takeClause 45 = .ok (.iload_n 1, 1) := by decide +kernel
theorem dX11_takeClause_46 : decode cX11_takeClause 46 = .ok (.bipush 110, 2) := by decide +kernel
theorem dX11_takeClause_48 : decode cX11_takeClause 48 = .ok (.if_icmp .ne 7, 3) := by decide +kernel
theorem dX11_takeClause_51 : decode cX11_takeClause 51 = .ok (.iconst 4, 1) := by decide +kernel
theorem dX11_takeClause_52 : decode cX11_takeClause 52 = .ok (.goto 4, 3) := by decide +kernel
theorem dX11_takeClause_55 : decode cX11_takeClause 55 = .ok (.iconst (-1), 1) := by decide +kernel
theorem dX11_takeClause_56 : decode cX11_takeClause 56 = .ok (.istore_n 2, 1) := by decide +kernel
theorem dX11_takeClause_57 : decode cX11_takeClause 57 = .ok (.iload_n 2, 1) := by decide +kernel
theorem dX11_takeClause_58 : decode cX11_takeClause 58 = .ok (.ifCond .lt 14, 3) := by decide +kernel
theorem dX11_takeClause_61 : decode cX11_takeClause 61 = .ok (.iload_n 2, 1) := by decide +kernel
theorem dX11_takeClause_62 : decode cX11_takeClause 62 = .ok (.ifCond .le 20, 3) := by decide +kernel
theorem dX11_takeClause_65 : decode cX11_takeClause 65 = .ok (.aload_n 0, 1) := by decide +kernel
theorem dX11_takeClause_66 : decode cX11_takeClause 66 = .ok (.getfield 125, 3) := by decide +kernel
theorem dX11_takeClause_69 : decode cX11_takeClause 69 = .ok (.ifCond .ne 13, 3) := by decide +kernel
theorem dX11_takeClause_72 : decode cX11_takeClause 72 = .ok (.aload_n 0, 1) := by decide +kernel
theorem dX11_takeClause_73 : decode cX11_takeClause 73 = .ok (.iconst 1, 1) := by decide +kernel
theorem dX11_takeClause_74 : decode cX11_takeClause 74 = .ok (.aload_n 0, 1) := by decide +kernel
theorem dX11_takeClause_75 : decode cX11_takeClause 75 = .ok (.getfield 102, 3) := by decide +kernel
theorem dX11_takeClause_78 : decode cX11_takeClause 78 = .ok (.invokevirtual 112, 3) := by decide +kernel
theorem dX11_takeClause_81 : decode cX11_takeClause 81 = .ok (.ireturn, 1) := by decide +kernel
theorem dX11_takeClause_82 : decode cX11_takeClause 82 = .ok (.aload_n 0, 1) := by decide +kernel
theorem dX11_takeClause_83 : decode cX11_takeClause 83 = .ok (.iload_n 2, 1) := by decide +kernel
theorem dX11_takeClause_84 : decode cX11_takeClause 84 = .ok (.invokevirtual 177, 3) := by decide +kernel
theorem dX11_takeClause_87 : decode cX11_takeClause 87 = .ok (.ifCond .eq 13, 3) := by decide +kernel
theorem dX11_takeClause_90 : decode cX11_takeClause 90 = .ok (.aload_n 0, 1) := by decide +kernel
theorem dX11_takeClause_91 : decode cX11_takeClause 91 = .ok (.iconst 3, 1) := by decide +kernel
theorem dX11_takeClause_92 : decode cX11_takeClause 92 = .ok (.aload_n 0, 1) := by decide +kernel
theorem dX11_takeClause_93 : decode cX11_takeClause 93 = .ok (.getfield 102, 3) := by decide +kernel
theorem dX11_takeClause_96 : decode cX11_takeClause 96 = .ok (.invokevirtual 112, 3) := by decide +kernel
theorem dX11_takeClause_99 : decode cX11_takeClause 99 = .ok (.ireturn, 1) := by decide +kernel
theorem dX11_takeClause_100 : decode cX11_takeClause 100 = .ok (.aload_n 0, 1) := by decide +kernel
theorem dX11_takeClause_101 : decode cX11_takeClause 101 = .ok (.dup, 1) := by decide +kernel
theorem dX11_takeClause_102 : decode cX11_takeClause 102 = .ok (.getfield 102, 3) := by decide +kernel
theorem dX11_takeClause_105 : decode cX11_takeClause 105 = .ok (.iconst 1, 1) := by decide +kernel
theorem dX11_takeClause_106 : decode cX11_takeClause 106 = .ok (.iadd, 1) := by decide +kernel
theorem dX11_takeClause_107 : decode cX11_takeClause 107 = .ok (.putfield 102, 3) := by decide +kernel
theorem dX11_takeClause_110 : decode cX11_takeClause 110 = .ok (.aload_n 0, 1) := by decide +kernel
theorem dX11_takeClause_111 : decode cX11_takeClause 111 = .ok (.iload_n 2, 1) := by decide +kernel
theorem dX11_takeClause_112 : decode cX11_takeClause 112 = .ok (.invokevirtual 181, 3) := by decide +kernel
theorem dX11_takeClause_115 : decode cX11_takeClause 115 = .ok (.istore_n 3, 1) := by decide +kernel
theorem dX11_takeClause_116 : decode cX11_takeClause 116 = .ok (.iload_n 3, 1) := by decide +kernel
theorem dX11_takeClause_117 : decode cX11_takeClause 117 = .ok (.ifCond .ne 22, 3) := by decide +kernel
theorem dX11_takeClause_120 : decode cX11_takeClause 120 = .ok (.aload_n 0, 1) := by decide +kernel
theorem dX11_takeClause_121 : decode cX11_takeClause 121 = .ok (.invokevirtual 105, 3) := by decide +kernel
theorem dX11_takeClause_124 : decode cX11_takeClause 124 = .ok (.bipush 59, 2) := by decide +kernel
theorem dX11_takeClause_126 : decode cX11_takeClause 126 = .ok (.if_icmp .eq 13, 3) := by decide +kernel
theorem dX11_takeClause_129 : decode cX11_takeClause 129 = .ok (.aload_n 0, 1) := by decide +kernel
theorem dX11_takeClause_130 : decode cX11_takeClause 130 = .ok (.iconst 1, 1) := by decide +kernel
theorem dX11_takeClause_131 : decode cX11_takeClause 131 = .ok (.aload_n 0, 1) := by decide +kernel
theorem dX11_takeClause_132 : decode cX11_takeClause 132 = .ok (.getfield 102, 3) := by decide +kernel
theorem dX11_takeClause_135 : decode cX11_takeClause 135 = .ok (.invokevirtual 112, 3) := by decide +kernel
theorem dX11_takeClause_138 : decode cX11_takeClause 138 = .ok (.ireturn, 1) := by decide +kernel
theorem dX11_takeClause_139 : decode cX11_takeClause 139 = .ok (.aload_n 0, 1) := by decide +kernel
theorem dX11_takeClause_140 : decode cX11_takeClause 140 = .ok (.dup, 1) := by decide +kernel
theorem dX11_takeClause_141 : decode cX11_takeClause 141 = .ok (.getfield 102, 3) := by decide +kernel
theorem dX11_takeClause_144 : decode cX11_takeClause 144 = .ok (.iconst 1, 1) := by decide +kernel
theorem dX11_takeClause_145 : decode cX11_takeClause 145 = .ok (.iadd, 1) := by decide +kernel
theorem dX11_takeClause_146 : decode cX11_takeClause 146 = .ok (.putfield 102, 3) := by decide +kernel
theorem dX11_takeClause_149 : decode cX11_takeClause 149 = .ok (.iload_n 3, 1) := by decide +kernel
theorem dX11_takeClause_150 : decode cX11_takeClause 150 = .ok (.ireturn, 1) := by decide +kernel
theorem dX11_copyRow_0 : decode cX11_copyRow 0 = .ok (.iconst 0, 1) := by decide +kernel
theorem dX11_copyRow_1 : decode cX11_copyRow 1 = .ok (.istore_n 3, 1) := by decide +kernel
theorem dX11_copyRow_2 : decode cX11_copyRow 2 = .ok (.iload_n 3, 1) := by decide +kernel
theorem dX11_copyRow_3 : decode cX11_copyRow 3 = .ok (.iload_n 2, 1) := by decide +kernel
theorem dX11_copyRow_4 : decode cX11_copyRow 4 = .ok (.if_icmp .ge 15, 3) := by decide +kernel
theorem dX11_copyRow_7 : decode cX11_copyRow 7 = .ok (.aload_n 1, 1) := by decide +kernel
theorem dX11_copyRow_8 : decode cX11_copyRow 8 = .ok (.iload_n 3, 1) := by decide +kernel
theorem dX11_copyRow_9 : decode cX11_copyRow 9 = .ok (.aload_n 0, 1) := by decide +kernel
theorem dX11_copyRow_10 : decode cX11_copyRow 10 = .ok (.iload_n 3, 1) := by decide +kernel
theorem dX11_copyRow_11 : decode cX11_copyRow 11 = .ok (.iaload, 1) := by decide +kernel
theorem dX11_copyRow_12 : decode cX11_copyRow 12 = .ok (.iastore, 1) := by decide +kernel
theorem dX11_copyRow_13 : decode cX11_copyRow 13 = .ok (.iinc 3 1, 3) := by decide +kernel
theorem dX11_copyRow_16 : decode cX11_copyRow 16 = .ok (.goto (-14), 3) := by decide +kernel
theorem dX11_copyRow_19 : decode cX11_copyRow 19 = .ok (.return_, 1) := by decide +kernel
theorem dX11_takeRead_0 : decode cX11_takeRead 0 = .ok (.aload_n 0, 1) := by decide +kernel
theorem dX11_takeRead_1 : decode cX11_takeRead 1 = .ok (.aload_n 0, 1) := by decide +kernel
theorem dX11_takeRead_2 : decode cX11_takeRead 2 = .ok (.getfield 125, 3) := by decide +kernel
theorem dX11_takeRead_5 : decode cX11_takeRead 5 = .ok (.putfield 72, 3) := by decide +kernel
theorem dX11_takeRead_8 : decode cX11_takeRead 8 = .ok (.aload_n 0, 1) := by decide +kernel
theorem dX11_takeRead_9 : decode cX11_takeRead 9 = .ok (.aload_n 0, 1) := by decide +kernel
theorem dX11_takeRead_10 : decode cX11_takeRead 10 = .ok (.getfield 128, 3) := by decide +kernel
theorem dX11_takeRead_13 : decode cX11_takeRead 13 = .ok (.putfield 75, 3) := by decide +kernel
theorem dX11_takeRead_16 : decode cX11_takeRead 16 = .ok (.aload_n 0, 1) := by decide +kernel
theorem dX11_takeRead_17 : decode cX11_takeRead 17 = .ok (.aload_n 0, 1) := by decide +kernel
theorem dX11_takeRead_18 : decode cX11_takeRead 18 = .ok (.getfield 131, 3) := by decide +kernel
theorem dX11_takeRead_21 : decode cX11_takeRead 21 = .ok (.putfield 86, 3) := by decide +kernel
theorem dX11_takeRead_24 : decode cX11_takeRead 24 = .ok (.aload_n 0, 1) := by decide +kernel
theorem dX11_takeRead_25 : decode cX11_takeRead 25 = .ok (.aload_n 0, 1) := by decide +kernel
theorem dX11_takeRead_26 : decode cX11_takeRead 26 = .ok (.getfield 141, 3) := by decide +kernel
theorem dX11_takeRead_29 : decode cX11_takeRead 29 = .ok (.putfield 89, 3) := by decide +kernel
theorem dX11_takeRead_32 : decode cX11_takeRead 32 = .ok (.aload_n 0, 1) := by decide +kernel
theorem dX11_takeRead_33 : decode cX11_takeRead 33 = .ok (.aload_n 0, 1) := by decide +kernel
theorem dX11_takeRead_34 : decode cX11_takeRead 34 = .ok (.getfield 152, 3) := by decide +kernel
theorem dX11_takeRead_37 : decode cX11_takeRead 37 = .ok (.putfield 92, 3) := by decide +kernel
theorem dX11_takeRead_40 : decode cX11_takeRead 40 = .ok (.aload_n 0, 1) := by decide +kernel
theorem dX11_takeRead_41 : decode cX11_takeRead 41 = .ok (.aload_n 0, 1) := by decide +kernel
theorem dX11_takeRead_42 : decode cX11_takeRead 42 = .ok (.getfield 159, 3) := by decide +kernel
theorem dX11_takeRead_45 : decode cX11_takeRead 45 = .ok (.putfield 185, 3) := by decide +kernel
theorem dX11_takeRead_48 : decode cX11_takeRead 48 = .ok (.aload_n 0, 1) := by decide +kernel
theorem dX11_takeRead_49 : decode cX11_takeRead 49 = .ok (.getfield 32, 3) := by decide +kernel
theorem dX11_takeRead_52 : decode cX11_takeRead 52 = .ok (.aload_n 0, 1) := by decide +kernel
theorem dX11_takeRead_53 : decode cX11_takeRead 53 = .ok (.getfield 7, 3) := by decide +kernel
theorem dX11_takeRead_56 : decode cX11_takeRead 56 = .ok (.aload_n 0, 1) := by decide +kernel
theorem dX11_takeRead_57 : decode cX11_takeRead 57 = .ok (.getfield 86, 3) := by decide +kernel
theorem dX11_takeRead_60 : decode cX11_takeRead 60 = .ok (.invokestatic 188, 3) := by decide +kernel
theorem dX11_takeRead_63 : decode cX11_takeRead 63 = .ok (.aload_n 0, 1) := by decide +kernel
theorem dX11_takeRead_64 : decode cX11_takeRead 64 = .ok (.getfield 35, 3) := by decide +kernel
theorem dX11_takeRead_67 : decode cX11_takeRead 67 = .ok (.aload_n 0, 1) := by decide +kernel
theorem dX11_takeRead_68 : decode cX11_takeRead 68 = .ok (.getfield 13, 3) := by decide +kernel
theorem dX11_takeRead_71 : decode cX11_takeRead 71 = .ok (.aload_n 0, 1) := by decide +kernel
theorem dX11_takeRead_72 : decode cX11_takeRead 72 = .ok (.getfield 89, 3) := by decide +kernel
theorem dX11_takeRead_75 : decode cX11_takeRead 75 = .ok (.invokestatic 188, 3) := by decide +kernel
theorem dX11_takeRead_78 : decode cX11_takeRead 78 = .ok (.aload_n 0, 1) := by decide +kernel
theorem dX11_takeRead_79 : decode cX11_takeRead 79 = .ok (.getfield 38, 3) := by decide +kernel
theorem dX11_takeRead_82 : decode cX11_takeRead 82 = .ok (.aload_n 0, 1) := by decide +kernel
theorem dX11_takeRead_83 : decode cX11_takeRead 83 = .ok (.getfield 16, 3) := by decide +kernel
theorem dX11_takeRead_86 : decode cX11_takeRead 86 = .ok (.aload_n 0, 1) := by decide +kernel
theorem dX11_takeRead_87 : decode cX11_takeRead 87 = .ok (.getfield 89, 3) := by decide +kernel
theorem dX11_takeRead_90 : decode cX11_takeRead 90 = .ok (.invokestatic 188, 3) := by decide +kernel
theorem dX11_takeRead_93 : decode cX11_takeRead 93 = .ok (.aload_n 0, 1) := by decide +kernel
theorem dX11_takeRead_94 : decode cX11_takeRead 94 = .ok (.getfield 41, 3) := by decide +kernel
theorem dX11_takeRead_97 : decode cX11_takeRead 97 = .ok (.aload_n 0, 1) := by decide +kernel
theorem dX11_takeRead_98 : decode cX11_takeRead 98 = .ok (.getfield 19, 3) := by decide +kernel
theorem dX11_takeRead_101 : decode cX11_takeRead 101 = .ok (.aload_n 0, 1) := by decide +kernel
theorem dX11_takeRead_102 : decode cX11_takeRead 102 = .ok (.getfield 92, 3) := by decide +kernel
theorem dX11_takeRead_105 : decode cX11_takeRead 105 = .ok (.invokestatic 188, 3) := by decide +kernel
theorem dX11_takeRead_108 : decode cX11_takeRead 108 = .ok (.iconst 0, 1) := by decide +kernel
theorem dX11_takeRead_109 : decode cX11_takeRead 109 = .ok (.istore_n 1, 1) := by decide +kernel
theorem dX11_takeRead_110 : decode cX11_takeRead 110 = .ok (.iload_n 1, 1) := by decide +kernel
theorem dX11_takeRead_111 : decode cX11_takeRead 111 = .ok (.bipush 34, 2) := by decide +kernel
theorem dX11_takeRead_113 : decode cX11_takeRead 113 = .ok (.if_icmp .ge 16, 3) := by decide +kernel
theorem dX11_takeRead_116 : decode cX11_takeRead 116 = .ok (.aload_n 0, 1) := by decide +kernel
theorem dX11_takeRead_117 : decode cX11_takeRead 117 = .ok (.getfield 22, 3) := by decide +kernel
theorem dX11_takeRead_120 : decode cX11_takeRead 120 = .ok (.iload_n 1, 1) := by decide +kernel
theorem dX11_takeRead_121 : decode cX11_takeRead 121 = .ok (.iconst 0, 1) := by decide +kernel
theorem dX11_takeRead_122 : decode cX11_takeRead 122 = .ok (.iastore, 1) := by decide +kernel
theorem dX11_takeRead_123 : decode cX11_takeRead 123 = .ok (.iinc 1 1, 3) := by decide +kernel
theorem dX11_takeRead_126 : decode cX11_takeRead 126 = .ok (.goto (-16), 3) := by decide +kernel
theorem dX11_takeRead_129 : decode cX11_takeRead 129 = .ok (.iconst 0, 1) := by decide +kernel
theorem dX11_takeRead_130 : decode cX11_takeRead 130 = .ok (.istore_n 1, 1) := by decide +kernel
theorem dX11_takeRead_131 : decode cX11_takeRead 131 = .ok (.iload_n 1, 1) := by decide +kernel
theorem dX11_takeRead_132 : decode cX11_takeRead 132 = .ok (.aload_n 0, 1) := by decide +kernel
theorem dX11_takeRead_133 : decode cX11_takeRead 133 = .ok (.getfield 86, 3) := by decide +kernel
theorem dX11_takeRead_136 : decode cX11_takeRead 136 = .ok (.if_icmp .ge 24, 3) := by decide +kernel
theorem dX11_takeRead_139 : decode cX11_takeRead 139 = .ok (.aload_n 0, 1) := by decide +kernel
theorem dX11_takeRead_140 : decode cX11_takeRead 140 = .ok (.getfield 22, 3) := by decide +kernel
theorem dX11_takeRead_143 : decode cX11_takeRead 143 = .ok (.bipush 25, 2) := by decide +kernel
theorem dX11_takeRead_145 : decode cX11_takeRead 145 = .ok (.iload_n 1, 1) := by decide +kernel
theorem dX11_takeRead_146 : decode cX11_takeRead 146 = .ok (.iadd, 1) := by decide +kernel
theorem dX11_takeRead_147 : decode cX11_takeRead 147 = .ok (.aload_n 0, 1) := by decide +kernel
theorem dX11_takeRead_148 : decode cX11_takeRead 148 = .ok (.getfield 7, 3) := by decide +kernel
theorem dX11_takeRead_151 : decode cX11_takeRead 151 = .ok (.iload_n 1, 1) := by decide +kernel
theorem dX11_takeRead_152 : decode cX11_takeRead 152 = .ok (.iaload, 1) := by decide +kernel
theorem dX11_takeRead_153 : decode cX11_takeRead 153 = .ok (.iastore, 1) := by decide +kernel
theorem dX11_takeRead_154 : decode cX11_takeRead 154 = .ok (.iinc 1 1, 3) := by decide +kernel
theorem dX11_takeRead_157 : decode cX11_takeRead 157 = .ok (.goto (-26), 3) := by decide +kernel
theorem dX11_takeRead_160 : decode cX11_takeRead 160 = .ok (.aload_n 0, 1) := by decide +kernel
theorem dX11_takeRead_161 : decode cX11_takeRead 161 = .ok (.getfield 22, 3) := by decide +kernel
theorem dX11_takeRead_164 : decode cX11_takeRead 164 = .ok (.bipush 29, 2) := by decide +kernel
theorem dX11_takeRead_166 : decode cX11_takeRead 166 = .ok (.aload_n 0, 1) := by decide +kernel
theorem dX11_takeRead_167 : decode cX11_takeRead 167 = .ok (.getfield 185, 3) := by decide +kernel
theorem dX11_takeRead_170 : decode cX11_takeRead 170 = .ok (.iastore, 1) := by decide +kernel
theorem dX11_takeRead_171 : decode cX11_takeRead 171 = .ok (.return_, 1) := by decide +kernel
theorem dX11_wall_0 : decode cX11_wall 0 = .ok (.aload_n 0, 1) := by decide +kernel
theorem dX11_wall_1 : decode cX11_wall 1 = .ok (.iconst (-1), 1) := by decide +kernel
theorem dX11_wall_2 : decode cX11_wall 2 = .ok (.putfield 28, 3) := by decide +kernel
theorem dX11_wall_5 : decode cX11_wall 5 = .ok (.aload_n 0, 1) := by decide +kernel
theorem dX11_wall_6 : decode cX11_wall 6 = .ok (.iconst 0, 1) := by decide +kernel
theorem dX11_wall_7 : decode cX11_wall 7 = .ok (.putfield 102, 3) := by decide +kernel
theorem dX11_wall_10 : decode cX11_wall 10 = .ok (.aload_n 0, 1) := by decide +kernel
theorem dX11_wall_11 : decode cX11_wall 11 = .ok (.iconst 0, 1) := by decide +kernel
theorem dX11_wall_12 : decode cX11_wall 12 = .ok (.putfield 125, 3) := by decide +kernel
theorem dX11_wall_15 : decode cX11_wall 15 = .ok (.aload_n 0, 1) := by decide +kernel
theorem dX11_wall_16 : decode cX11_wall 16 = .ok (.iconst 0, 1) := by decide +kernel
theorem dX11_wall_17 : decode cX11_wall 17 = .ok (.putfield 128, 3) := by decide +kernel
theorem dX11_wall_20 : decode cX11_wall 20 = .ok (.aload_n 0, 1) := by decide +kernel
theorem dX11_wall_21 : decode cX11_wall 21 = .ok (.iconst 0, 1) := by decide +kernel
theorem dX11_wall_22 : decode cX11_wall 22 = .ok (.putfield 131, 3) := by decide +kernel
theorem dX11_wall_25 : decode cX11_wall 25 = .ok (.aload_n 0, 1) := by decide +kernel
theorem dX11_wall_26 : decode cX11_wall 26 = .ok (.iconst 0, 1) := by decide +kernel
theorem dX11_wall_27 : decode cX11_wall 27 = .ok (.putfield 141, 3) := by decide +kernel
theorem dX11_wall_30 : decode cX11_wall 30 = .ok (.aload_n 0, 1) := by decide +kernel
theorem dX11_wall_31 : decode cX11_wall 31 = .ok (.iconst 0, 1) := by decide +kernel
theorem dX11_wall_32 : decode cX11_wall 32 = .ok (.putfield 152, 3) := by decide +kernel
theorem dX11_wall_35 : decode cX11_wall 35 = .ok (.aload_n 0, 1) := by decide +kernel
theorem dX11_wall_36 : decode cX11_wall 36 = .ok (.iconst 0, 1) := by decide +kernel
theorem dX11_wall_37 : decode cX11_wall 37 = .ok (.putfield 155, 3) := by decide +kernel
theorem dX11_wall_40 : decode cX11_wall 40 = .ok (.aload_n 0, 1) := by decide +kernel
theorem dX11_wall_41 : decode cX11_wall 41 = .ok (.iconst 0, 1) := by decide +kernel
theorem dX11_wall_42 : decode cX11_wall 42 = .ok (.putfield 159, 3) := by decide +kernel
theorem dX11_wall_45 : decode cX11_wall 45 = .ok (.iconst 0, 1) := by decide +kernel
theorem dX11_wall_46 : decode cX11_wall 46 = .ok (.istore_n 1, 1) := by decide +kernel
theorem dX11_wall_47 : decode cX11_wall 47 = .ok (.iload_n 1, 1) := by decide +kernel
theorem dX11_wall_48 : decode cX11_wall 48 = .ok (.ifCond .ne 18, 3) := by decide +kernel
theorem dX11_wall_51 : decode cX11_wall 51 = .ok (.aload_n 0, 1) := by decide +kernel
theorem dX11_wall_52 : decode cX11_wall 52 = .ok (.invokevirtual 105, 3) := by decide +kernel
theorem dX11_wall_55 : decode cX11_wall 55 = .ok (.ifCond .lt 11, 3) := by decide +kernel
theorem dX11_wall_58 : decode cX11_wall 58 = .ok (.aload_n 0, 1) := by decide +kernel
theorem dX11_wall_59 : decode cX11_wall 59 = .ok (.invokevirtual 192, 3) := by decide +kernel
theorem dX11_wall_62 : decode cX11_wall 62 = .ok (.istore_n 1, 1) := by decide +kernel
theorem dX11_wall_63 : decode cX11_wall 63 = .ok (.goto (-16), 3) := by decide +kernel
theorem dX11_wall_66 : decode cX11_wall 66 = .ok (.aload_n 0, 1) := by decide +kernel
theorem dX11_wall_67 : decode cX11_wall 67 = .ok (.iconst 0, 1) := by decide +kernel
theorem dX11_wall_68 : decode cX11_wall 68 = .ok (.putfield 98, 3) := by decide +kernel
theorem dX11_wall_71 : decode cX11_wall 71 = .ok (.iload_n 1, 1) := by decide +kernel
theorem dX11_wall_72 : decode cX11_wall 72 = .ok (.ifCond .le 8, 3) := by decide +kernel
theorem dX11_wall_75 : decode cX11_wall 75 = .ok (.bipush (-10), 2) := by decide +kernel
theorem dX11_wall_77 : decode cX11_wall 77 = .ok (.iload_n 1, 1) := by decide +kernel
theorem dX11_wall_78 : decode cX11_wall 78 = .ok (.isub, 1) := by decide +kernel
theorem dX11_wall_79 : decode cX11_wall 79 = .ok (.ireturn, 1) := by decide +kernel
theorem dX11_wall_80 : decode cX11_wall 80 = .ok (.aload_n 0, 1) := by decide +kernel
theorem dX11_wall_81 : decode cX11_wall 81 = .ok (.invokevirtual 195, 3) := by decide +kernel
theorem dX11_wall_84 : decode cX11_wall 84 = .ok (.aload_n 0, 1) := by decide +kernel
theorem dX11_wall_85 : decode cX11_wall 85 = .ok (.iconst 0, 1) := by decide +kernel
theorem dX11_wall_86 : decode cX11_wall 86 = .ok (.putfield 198, 3) := by decide +kernel
theorem dX11_wall_89 : decode cX11_wall 89 = .ok (.aload_n 0, 1) := by decide +kernel
theorem dX11_wall_90 : decode cX11_wall 90 = .ok (.iconst 0, 1) := by decide +kernel
theorem dX11_wall_91 : decode cX11_wall 91 = .ok (.putfield 201, 3) := by decide +kernel
theorem dX11_wall_94 : decode cX11_wall 94 = .ok (.aload_n 0, 1) := by decide +kernel
theorem dX11_wall_95 : decode cX11_wall 95 = .ok (.getfield 68, 3) := by decide +kernel
theorem dX11_wall_98 : decode cX11_wall 98 = .ok (.iconst 0, 1) := by decide +kernel
theorem dX11_wall_99 : decode cX11_wall 99 = .ok (.iconst 0, 1) := by decide +kernel
theorem dX11_wall_100 : decode cX11_wall 100 = .ok (.bastore, 1) := by decide +kernel
theorem dX11_wall_101 : decode cX11_wall 101 = .ok (.aload_n 0, 1) := by decide +kernel
theorem dX11_wall_102 : decode cX11_wall 102 = .ok (.getfield 68, 3) := by decide +kernel
theorem dX11_wall_105 : decode cX11_wall 105 = .ok (.iconst 1, 1) := by decide +kernel
theorem dX11_wall_106 : decode cX11_wall 106 = .ok (.iconst 0, 1) := by decide +kernel
theorem dX11_wall_107 : decode cX11_wall 107 = .ok (.bastore, 1) := by decide +kernel
theorem dX11_wall_108 : decode cX11_wall 108 = .ok (.aload_n 0, 1) := by decide +kernel
theorem dX11_wall_109 : decode cX11_wall 109 = .ok (.invokevirtual 78, 3) := by decide +kernel
theorem dX11_wall_112 : decode cX11_wall 112 = .ok (.ireturn, 1) := by decide +kernel
theorem dX11_fault_0 : decode cX11_fault 0 = .ok (.aload_n 0, 1) := by decide +kernel
theorem dX11_fault_1 : decode cX11_fault 1 = .ok (.getfield 28, 3) := by decide +kernel
theorem dX11_fault_4 : decode cX11_fault 4 = .ok (.ireturn, 1) := by decide +kernel
theorem dX11_shows_0 : decode cX11_shows 0 = .ok (.iconst 0, 1) := by decide +kernel
theorem dX11_shows_1 : decode cX11_shows 1 = .ok (.istore_n 1, 1) := by decide +kernel
theorem dX11_shows_2 : decode cX11_shows 2 = .ok (.iconst 0, 1) := by decide +kernel
theorem dX11_shows_3 : decode cX11_shows 3 = .ok (.istore_n 2, 1) := by decide +kernel
theorem dX11_shows_4 : decode cX11_shows 4 = .ok (.iload_n 2, 1) := by decide +kernel
theorem dX11_shows_5 : decode cX11_shows 5 = .ok (.aload_n 0, 1) := by decide +kernel
theorem dX11_shows_6 : decode cX11_shows 6 = .ok (.invokevirtual 78, 3) := by decide +kernel
theorem dX11_shows_9 : decode cX11_shows 9 = .ok (.if_icmp .ge 29, 3) := by decide +kernel
theorem dX11_shows_12 : decode cX11_shows 12 = .ok (.iload_n 1, 1) := by decide +kernel
theorem dX11_shows_13 : decode cX11_shows 13 = .ok (.aload_n 0, 1) := by decide +kernel
theorem dX11_shows_14 : decode cX11_shows 14 = .ok (.getfield 22, 3) := by decide +kernel
theorem dX11_shows_17 : decode cX11_shows 17 = .ok (.iload_n 2, 1) := by decide +kernel
theorem dX11_shows_18 : decode cX11_shows 18 = .ok (.iaload, 1) := by decide +kernel
theorem dX11_shows_19 : decode cX11_shows 19 = .ok (.iconst 3, 1) := by decide +kernel
theorem dX11_shows_20 : decode cX11_shows 20 = .ok (.if_icmp .lt 9, 3) := by decide +kernel
theorem dX11_shows_23 : decode cX11_shows 23 = .ok (.iconst 1, 1) := by decide +kernel
theorem dX11_shows_24 : decode cX11_shows 24 = .ok (.iload_n 2, 1) := by decide +kernel
theorem dX11_shows_25 : decode cX11_shows 25 = .ok (.ishl, 1) := by decide +kernel
theorem dX11_shows_26 : decode cX11_shows 26 = .ok (.goto 4, 3) := by decide +kernel
theorem dX11_shows_29 : decode cX11_shows 29 = .ok (.iconst 0, 1) := by decide +kernel
theorem dX11_shows_30 : decode cX11_shows 30 = .ok (.ior, 1) := by decide +kernel
theorem dX11_shows_31 : decode cX11_shows 31 = .ok (.istore_n 1, 1) := by decide +kernel
theorem dX11_shows_32 : decode cX11_shows 32 = .ok (.iinc 2 1, 3) := by decide +kernel
theorem dX11_shows_35 : decode cX11_shows 35 = .ok (.goto (-31), 3) := by decide +kernel
theorem dX11_shows_38 : decode cX11_shows 38 = .ok (.iload_n 1, 1) := by decide +kernel
theorem dX11_shows_39 : decode cX11_shows 39 = .ok (.ireturn, 1) := by decide +kernel
theorem dX11_around_0 : decode cX11_around 0 = .ok (.iconst 0, 1) := by decide +kernel
theorem dX11_around_1 : decode cX11_around 1 = .ok (.istore_n 2, 1) := by decide +kernel
theorem dX11_around_2 : decode cX11_around 2 = .ok (.iconst 0, 1) := by decide +kernel
theorem dX11_around_3 : decode cX11_around 3 = .ok (.istore_n 3, 1) := by decide +kernel
theorem dX11_around_4 : decode cX11_around 4 = .ok (.iload_n 3, 1) := by decide +kernel
theorem dX11_around_5 : decode cX11_around 5 = .ok (.aload_n 0, 1) := by decide +kernel
theorem dX11_around_6 : decode cX11_around 6 = .ok (.invokevirtual 78, 3) := by decide +kernel
theorem dX11_around_9 : decode cX11_around 9 = .ok (.if_icmp .ge 31, 3) := by decide +kernel
theorem dX11_around_12 : decode cX11_around 12 = .ok (.iload_n 2, 1) := by decide +kernel
theorem dX11_around_13 : decode cX11_around 13 = .ok (.iload_n 1, 1) := by decide +kernel
theorem dX11_around_14 : decode cX11_around 14 = .ok (.iload_n 3, 1) := by decide +kernel
theorem dX11_around_15 : decode cX11_around 15 = .ok (.aload_n 0, 1) := by decide +kernel
theorem dX11_around_16 : decode cX11_around 16 = .ok (.getfield 75, 3) := by decide +kernel
theorem dX11_around_19 : decode cX11_around 19 = .ok (.invokestatic 144, 3) := by decide +kernel
theorem dX11_around_22 : decode cX11_around 22 = .ok (.ifCond .eq 9, 3) := by decide +kernel
theorem dX11_around_25 : decode cX11_around 25 = .ok (.iconst 1, 1) := by decide +kernel
theorem dX11_around_26 : decode cX11_around 26 = .ok (.iload_n 3, 1) := by decide +kernel
theorem dX11_around_27 : decode cX11_around 27 = .ok (.ishl, 1) := by decide +kernel
theorem dX11_around_28 : decode cX11_around 28 = .ok (.goto 4, 3) := by decide +kernel
theorem dX11_around_31 : decode cX11_around 31 = .ok (.iconst 0, 1) := by decide +kernel
theorem dX11_around_32 : decode cX11_around 32 = .ok (.ior, 1) := by decide +kernel
theorem dX11_around_33 : decode cX11_around 33 = .ok (.istore_n 2, 1) := by decide +kernel
theorem dX11_around_34 : decode cX11_around 34 = .ok (.iinc 3 1, 3) := by decide +kernel
theorem dX11_around_37 : decode cX11_around 37 = .ok (.goto (-33), 3) := by decide +kernel
theorem dX11_around_40 : decode cX11_around 40 = .ok (.iload_n 2, 1) := by decide +kernel
theorem dX11_around_41 : decode cX11_around 41 = .ok (.ireturn, 1) := by decide +kernel
theorem dX11_likeOf_0 : decode cX11_likeOf 0 = .ok (.aload_n 0, 1) := by decide +kernel
theorem dX11_likeOf_1 : decode cX11_likeOf 1 = .ok (.invokevirtual 78, 3) := by decide +kernel
theorem dX11_likeOf_4 : decode cX11_likeOf 4 = .ok (.aload_n 0, 1) := by decide +kernel
theorem dX11_likeOf_5 : decode cX11_likeOf 5 = .ok (.invokevirtual 204, 3) := by decide +kernel
theorem dX11_likeOf_8 : decode cX11_likeOf 8 = .ok (.aload_n 0, 1) := by decide +kernel
theorem dX11_likeOf_9 : decode cX11_likeOf 9 = .ok (.getfield 19, 3) := by decide +kernel
theorem dX11_likeOf_12 : decode cX11_likeOf 12 = .ok (.iload_n 1, 1) := by decide +kernel
theorem dX11_likeOf_13 : decode cX11_likeOf 13 = .ok (.iaload, 1) := by decide +kernel
theorem dX11_likeOf_14 : decode cX11_likeOf 14 = .ok (.ixor, 1) := by decide +kernel
theorem dX11_likeOf_15 : decode cX11_likeOf 15 = .ok (.invokestatic 207, 3) := by decide +kernel
theorem dX11_likeOf_18 : decode cX11_likeOf 18 = .ok (.isub, 1) := by decide +kernel
theorem dX11_likeOf_19 : decode cX11_likeOf 19 = .ok (.ireturn, 1) := by decide +kernel
theorem dX11_whom_0 : decode cX11_whom 0 = .ok (.iconst (-1), 1) := by decide +kernel
theorem dX11_whom_1 : decode cX11_whom 1 = .ok (.istore_n 1, 1) := by decide +kernel
theorem dX11_whom_2 : decode cX11_whom 2 = .ok (.iconst (-1), 1) := by decide +kernel
theorem dX11_whom_3 : decode cX11_whom 3 = .ok (.istore_n 2, 1) := by decide +kernel
theorem dX11_whom_4 : decode cX11_whom 4 = .ok (.iconst 0, 1) := by decide +kernel
theorem dX11_whom_5 : decode cX11_whom 5 = .ok (.istore_n 3, 1) := by decide +kernel
theorem dX11_whom_6 : decode cX11_whom 6 = .ok (.iload_n 3, 1) := by decide +kernel
theorem dX11_whom_7 : decode cX11_whom 7 = .ok (.aload_n 0, 1) := by decide +kernel
theorem dX11_whom_8 : decode cX11_whom 8 = .ok (.getfield 92, 3) := by decide +kernel
theorem dX11_whom_11 : decode cX11_whom 11 = .ok (.if_icmp .ge 41, 3) := by decide +kernel
theorem dX11_whom_14 : decode cX11_whom 14 = .ok (.aload_n 0, 1) := by decide +kernel
theorem dX11_whom_15 : decode cX11_whom 15 = .ok (.iload_n 3, 1) := by decide +kernel
theorem dX11_whom_16 : decode cX11_whom 16 = .ok (.invokevirtual 210, 3) := by decide +kernel
theorem dX11_whom_19 : decode cX11_whom 19 = .ok (.istore 4, 2) := by decide +kernel
theorem dX11_whom_21 : decode cX11_whom 21 = .ok (.iload 4, 2) := by decide +kernel
theorem dX11_whom_23 : decode cX11_whom 23 = .ok (.iload_n 2, 1) := by decide +kernel
theorem dX11_whom_24 : decode cX11_whom 24 = .ok (.if_icmp .le 7, 3) := by decide +kernel
theorem dX11_whom_27 : decode cX11_whom 27 = .ok (.iload_n 3, 1) := by decide +kernel
theorem dX11_whom_28 : decode cX11_whom 28 = .ok (.goto 4, 3) := by decide +kernel
theorem dX11_whom_31 : decode cX11_whom 31 = .ok (.iload_n 1, 1) := by decide +kernel
theorem dX11_whom_32 : decode cX11_whom 32 = .ok (.istore_n 1, 1) := by decide +kernel
theorem dX11_whom_33 : decode cX11_whom 33 = .ok (.iload 4, 2) := by decide +kernel
theorem dX11_whom_35 : decode cX11_whom 35 = .ok (.iload_n 2, 1) := by decide +kernel
theorem dX11_whom_36 : decode cX11_whom 36 = .ok (.if_icmp .le 8, 3) := by decide +kernel
theorem dX11_whom_39 : decode cX11_whom 39 = .ok (.iload 4, 2) := by decide +kernel
theorem dX11_whom_41 : decode cX11_whom 41 = .ok (.goto 4, 3) := by decide +kernel
theorem dX11_whom_44 : decode cX11_whom 44 = .ok (.iload_n 2, 1) := by decide +kernel
theorem dX11_whom_45 : decode cX11_whom 45 = .ok (.istore_n 2, 1) := by decide +kernel
theorem dX11_whom_46 : decode cX11_whom 46 = .ok (.iinc 3 1, 3) := by decide +kernel
theorem dX11_whom_49 : decode cX11_whom 49 = .ok (.goto (-43), 3) := by decide +kernel
theorem dX11_whom_52 : decode cX11_whom 52 = .ok (.iload_n 1, 1) := by decide +kernel
theorem dX11_whom_53 : decode cX11_whom 53 = .ok (.ireturn, 1) := by decide +kernel
theorem dX11_mayBe_0 : decode cX11_mayBe 0 = .ok (.iconst 0, 1) := by decide +kernel
theorem dX11_mayBe_1 : decode cX11_mayBe 1 = .ok (.istore_n 1, 1) := by decide +kernel
theorem dX11_mayBe_2 : decode cX11_mayBe 2 = .ok (.iconst 0, 1) := by decide +kernel
theorem dX11_mayBe_3 : decode cX11_mayBe 3 = .ok (.istore_n 2, 1) := by decide +kernel
theorem dX11_mayBe_4 : decode cX11_mayBe 4 = .ok (.iload_n 2, 1) := by decide +kernel
theorem dX11_mayBe_5 : decode cX11_mayBe 5 = .ok (.aload_n 0, 1) := by decide +kernel
theorem dX11_mayBe_6 : decode cX11_mayBe 6 = .ok (.getfield 92, 3) := by decide +kernel
theorem dX11_mayBe_9 : decode cX11_mayBe 9 = .ok (.if_icmp .ge 35, 3) := by decide +kernel
theorem dX11_mayBe_12 : decode cX11_mayBe 12 = .ok (.iload_n 1, 1) := by decide +kernel
theorem dX11_mayBe_13 : decode cX11_mayBe 13 = .ok (.aload_n 0, 1) := by decide +kernel
theorem dX11_mayBe_14 : decode cX11_mayBe 14 = .ok (.invokevirtual 204, 3) := by decide +kernel
theorem dX11_mayBe_17 : decode cX11_mayBe 17 = .ok (.aload_n 0, 1) := by decide +kernel
theorem dX11_mayBe_18 : decode cX11_mayBe 18 = .ok (.getfield 19, 3) := by decide +kernel
theorem dX11_mayBe_21 : decode cX11_mayBe 21 = .ok (.iload_n 2, 1) := by decide +kernel
theorem dX11_mayBe_22 : decode cX11_mayBe 22 = .ok (.iaload, 1) := by decide +kernel
theorem dX11_mayBe_23 : decode cX11_mayBe 23 = .ok (.iconst (-1), 1) := by decide +kernel
theorem dX11_mayBe_24 : decode cX11_mayBe 24 = .ok (.ixor, 1) := by decide +kernel
theorem dX11_mayBe_25 : decode cX11_mayBe 25 = .ok (.iand, 1) := by decide +kernel
theorem dX11_mayBe_26 : decode cX11_mayBe 26 = .ok (.ifCond .ne 9, 3) := by decide +kernel
theorem dX11_mayBe_29 : decode cX11_mayBe 29 = .ok (.iconst 1, 1) := by decide +kernel
theorem dX11_mayBe_30 : decode cX11_mayBe 30 = .ok (.iload_n 2, 1) := by decide +kernel
theorem dX11_mayBe_31 : decode cX11_mayBe 31 = .ok (.ishl, 1) := by decide +kernel
theorem dX11_mayBe_32 : decode cX11_mayBe 32 = .ok (.goto 4, 3) := by decide +kernel
theorem dX11_mayBe_35 : decode cX11_mayBe 35 = .ok (.iconst 0, 1) := by decide +kernel
theorem dX11_mayBe_36 : decode cX11_mayBe 36 = .ok (.ior, 1) := by decide +kernel
theorem dX11_mayBe_37 : decode cX11_mayBe 37 = .ok (.istore_n 1, 1) := by decide +kernel
theorem dX11_mayBe_38 : decode cX11_mayBe 38 = .ok (.iinc 2 1, 3) := by decide +kernel
theorem dX11_mayBe_41 : decode cX11_mayBe 41 = .ok (.goto (-37), 3) := by decide +kernel
theorem dX11_mayBe_44 : decode cX11_mayBe 44 = .ok (.iload_n 1, 1) := by decide +kernel
theorem dX11_mayBe_45 : decode cX11_mayBe 45 = .ok (.ireturn, 1) := by decide +kernel
theorem dX11_groupOf_0 : decode cX11_groupOf 0 = .ok (.aload_n 0, 1) := by decide +kernel
theorem dX11_groupOf_1 : decode cX11_groupOf 1 = .ok (.invokevirtual 204, 3) := by decide +kernel
theorem dX11_groupOf_4 : decode cX11_groupOf 4 = .ok (.istore_n 2, 1) := by decide +kernel
theorem dX11_groupOf_5 : decode cX11_groupOf 5 = .ok (.iconst 1, 1) := by decide +kernel
theorem dX11_groupOf_6 : decode cX11_groupOf 6 = .ok (.iload_n 1, 1) := by decide +kernel
theorem dX11_groupOf_7 : decode cX11_groupOf 7 = .ok (.ishl, 1) := by decide +kernel
theorem dX11_groupOf_8 : decode cX11_groupOf 8 = .ok (.istore_n 3, 1) := by decide +kernel
theorem dX11_groupOf_9 : decode cX11_groupOf 9 = .ok (.iconst 0, 1) := by decide +kernel
theorem dX11_groupOf_10 : decode cX11_groupOf 10 = .ok (.istore 4, 2) := by decide +kernel
theorem dX11_groupOf_12 : decode cX11_groupOf 12 = .ok (.iload 4, 2) := by decide +kernel
theorem dX11_groupOf_14 : decode cX11_groupOf 14 = .ok (.bipush 25, 2) := by decide +kernel
theorem dX11_groupOf_16 : decode cX11_groupOf 16 = .ok (.if_icmp .ge 59, 3) := by decide +kernel
theorem dX11_groupOf_19 : decode cX11_groupOf 19 = .ok (.iload_n 3, 1) := by decide +kernel
theorem dX11_groupOf_20 : decode cX11_groupOf 20 = .ok (.istore 5, 2) := by decide +kernel
theorem dX11_groupOf_22 : decode cX11_groupOf 22 = .ok (.iconst 0, 1) := by decide +kernel
theorem dX11_groupOf_23 : decode cX11_groupOf 23 = .ok (.istore 6, 2) := by decide +kernel
theorem dX11_groupOf_25 : decode cX11_groupOf 25 = .ok (.iload 6, 2) := by decide +kernel
theorem dX11_groupOf_27 : decode cX11_groupOf 27 = .ok (.aload_n 0, 1) := by decide +kernel
theorem dX11_groupOf_28 : decode cX11_groupOf 28 = .ok (.invokevirtual 78, 3) := by decide +kernel
theorem dX11_groupOf_31 : decode cX11_groupOf 31 = .ok (.if_icmp .ge 35, 3) := by decide +kernel
theorem dX11_groupOf_34 : decode cX11_groupOf 34 = .ok (.iload 5, 2) := by decide +kernel
theorem dX11_groupOf_36 : decode cX11_groupOf 36 = .ok (.iload_n 3, 1) := by decide +kernel
theorem dX11_groupOf_37 : decode cX11_groupOf 37 = .ok (.iload 6, 2) := by decide +kernel
theorem dX11_groupOf_39 : decode cX11_groupOf 39 = .ok (.invokestatic 213, 3) := by decide +kernel
theorem dX11_groupOf_42 : decode cX11_groupOf 42 = .ok (.ifCond .eq 14, 3) := by decide +kernel
theorem dX11_groupOf_45 : decode cX11_groupOf 45 = .ok (.aload_n 0, 1) := by decide +kernel
theorem dX11_groupOf_46 : decode cX11_groupOf 46 = .ok (.iload 6, 2) := by decide +kernel
theorem dX11_groupOf_48 : decode cX11_groupOf 48 = .ok (.invokevirtual 216, 3) := by decide +kernel
theorem dX11_groupOf_51 : decode cX11_groupOf 51 = .ok (.iload_n 2, 1) := by decide +kernel
theorem dX11_groupOf_52 : decode cX11_groupOf 52 = .ok (.iand, 1) := by decide +kernel
theorem dX11_groupOf_53 : decode cX11_groupOf 53 = .ok (.goto 4, 3) := by decide +kernel
theorem dX11_groupOf_56 : decode cX11_groupOf 56 = .ok (.iconst 0, 1) := by decide +kernel
theorem dX11_groupOf_57 : decode cX11_groupOf 57 = .ok (.ior, 1) := by decide +kernel
theorem dX11_groupOf_58 : decode cX11_groupOf 58 = .ok (.istore 5, 2) := by decide +kernel
theorem dX11_groupOf_60 : decode cX11_groupOf 60 = .ok (.iinc 6 1, 3) := by decide +kernel
theorem dX11_groupOf_63 : decode cX11_groupOf 63 = .ok (.goto (-38), 3) := by decide +kernel
theorem dX11_groupOf_66 : decode cX11_groupOf 66 = .ok (.iload 5, 2) := by decide +kernel
theorem dX11_groupOf_68 : decode cX11_groupOf 68 = .ok (.istore_n 3, 1) := by decide +kernel
theorem dX11_groupOf_69 : decode cX11_groupOf 69 = .ok (.iinc 4 1, 3) := by decide +kernel
theorem dX11_groupOf_72 : decode cX11_groupOf 72 = .ok (.goto (-60), 3) := by decide +kernel
theorem dX11_groupOf_75 : decode cX11_groupOf 75 = .ok (.iload_n 3, 1) := by decide +kernel
theorem dX11_groupOf_76 : decode cX11_groupOf 76 = .ok (.ireturn, 1) := by decide +kernel
theorem dX11_groups_0 : decode cX11_groups 0 = .ok (.aload_n 0, 1) := by decide +kernel
theorem dX11_groups_1 : decode cX11_groups 1 = .ok (.invokevirtual 204, 3) := by decide +kernel
theorem dX11_groups_4 : decode cX11_groups 4 = .ok (.istore_n 2, 1) := by decide +kernel
theorem dX11_groups_5 : decode cX11_groups 5 = .ok (.iconst 0, 1) := by decide +kernel
theorem dX11_groups_6 : decode cX11_groups 6 = .ok (.istore_n 3, 1) := by decide +kernel
theorem dX11_groups_7 : decode cX11_groups 7 = .ok (.iconst 0, 1) := by decide +kernel
theorem dX11_groups_8 : decode cX11_groups 8 = .ok (.istore 4, 2) := by decide +kernel
theorem dX11_groups_10 : decode cX11_groups 10 = .ok (.iconst 0, 1) := by decide +kernel
theorem dX11_groups_11 : decode cX11_groups 11 = .ok (.istore 5, 2) := by decide +kernel
theorem dX11_groups_13 : decode cX11_groups 13 = .ok (.iload 5, 2) := by decide +kernel
theorem dX11_groups_15 : decode cX11_groups 15 = .ok (.aload_n 0, 1) := by decide +kernel
theorem dX11_groups_16 : decode cX11_groups 16 = .ok (.invokevirtual 78, 3) := by decide +kernel
theorem dX11_groups_19 : decode cX11_groups 19 = .ok (.if_icmp .ge 58, 3) := by decide +kernel
theorem dX11_groups_22 : decode cX11_groups 22 = .ok (.iload_n 2, 1) := by decide +kernel
theorem dX11_groups_23 : decode cX11_groups 23 = .ok (.iload 5, 2) := by decide +kernel
theorem dX11_groups_25 : decode cX11_groups 25 = .ok (.invokestatic 213, 3) := by decide +kernel
theorem dX11_groups_28 : decode cX11_groups 28 = .ok (.ifCond .eq 43, 3) := by decide +kernel
theorem dX11_groups_31 : decode cX11_groups 31 = .ok (.aload_n 0, 1) := by decide +kernel
theorem dX11_groups_32 : decode cX11_groups 32 = .ok (.iload 5, 2) := by decide +kernel
theorem dX11_groups_34 : decode cX11_groups 34 = .ok (.invokevirtual 219, 3) := by decide +kernel
theorem dX11_groups_37 : decode cX11_groups 37 = .ok (.istore 6, 2) := by decide +kernel
theorem dX11_groups_39 : decode cX11_groups 39 = .ok (.iload_n 2, 1) := by decide +kernel
theorem dX11_groups_40 : decode cX11_groups 40 = .ok (.iload 6, 2) := by decide +kernel
theorem dX11_groups_42 : decode cX11_groups 42 = .ok (.iconst (-1), 1) := by decide +kernel
theorem dX11_groups_43 : decode cX11_groups 43 = .ok (.ixor, 1) := by decide +kernel
theorem dX11_groups_44 : decode cX11_groups 44 = .ok (.iand, 1) := by decide +kernel
theorem dX11_groups_45 : decode cX11_groups 45 = .ok (.istore_n 2, 1) := by decide +kernel
theorem dX11_groups_46 : decode cX11_groups 46 = .ok (.iinc 3 1, 3) := by decide +kernel
theorem dX11_groups_49 : decode cX11_groups 49 = .ok (.iload 6, 2) := by decide +kernel
theorem dX11_groups_51 : decode cX11_groups 51 = .ok (.invokestatic 207, 3) := by decide +kernel
theorem dX11_groups_54 : decode cX11_groups 54 = .ok (.iload 4, 2) := by decide +kernel
theorem dX11_groups_56 : decode cX11_groups 56 = .ok (.invokestatic 207, 3) := by decide +kernel
theorem dX11_groups_59 : decode cX11_groups 59 = .ok (.if_icmp .le 8, 3) := by decide +kernel
theorem dX11_groups_62 : decode cX11_groups 62 = .ok (.iload 6, 2) := by decide +kernel
theorem dX11_groups_64 : decode cX11_groups 64 = .ok (.goto 5, 3) := by decide +kernel
theorem dX11_groups_67 : decode cX11_groups 67 = .ok (.iload 4, 2) := by decide +kernel
theorem dX11_groups_69 : decode cX11_groups 69 = .ok (.istore 4, 2) := by decide +kernel
theorem dX11_groups_71 : decode cX11_groups 71 = .ok (.iinc 5 1, 3) := by decide +kernel
theorem dX11_groups_74 : decode cX11_groups 74 = .ok (.goto (-61), 3) := by decide +kernel
theorem dX11_groups_77 : decode cX11_groups 77 = .ok (.iload_n 1, 1) := by decide +kernel
theorem dX11_groups_78 : decode cX11_groups 78 = .ok (.ifCond .eq 8, 3) := by decide +kernel
theorem dX11_groups_81 : decode cX11_groups 81 = .ok (.iload 4, 2) := by decide +kernel
theorem dX11_groups_83 : decode cX11_groups 83 = .ok (.goto 4, 3) := by decide +kernel
theorem dX11_groups_86 : decode cX11_groups 86 = .ok (.iload_n 3, 1) := by decide +kernel
theorem dX11_groups_87 : decode cX11_groups 87 = .ok (.ireturn, 1) := by decide +kernel
theorem dX11_border_0 : decode cX11_border 0 = .ok (.aload_n 0, 1) := by decide +kernel
theorem dX11_border_1 : decode cX11_border 1 = .ok (.invokevirtual 204, 3) := by decide +kernel
theorem dX11_border_4 : decode cX11_border 4 = .ok (.istore_n 1, 1) := by decide +kernel
theorem dX11_border_5 : decode cX11_border 5 = .ok (.iconst 0, 1) := by decide +kernel
theorem dX11_border_6 : decode cX11_border 6 = .ok (.istore_n 2, 1) := by decide +kernel
theorem dX11_border_7 : decode cX11_border 7 = .ok (.iconst 0, 1) := by decide +kernel
theorem dX11_border_8 : decode cX11_border 8 = .ok (.istore_n 3, 1) := by decide +kernel
theorem dX11_border_9 : decode cX11_border 9 = .ok (.iload_n 3, 1) := by decide +kernel
theorem dX11_border_10 : decode cX11_border 10 = .ok (.aload_n 0, 1) := by decide +kernel
theorem dX11_border_11 : decode cX11_border 11 = .ok (.invokevirtual 78, 3) := by decide +kernel
theorem dX11_border_14 : decode cX11_border 14 = .ok (.if_icmp .ge 36, 3) := by decide +kernel
theorem dX11_border_17 : decode cX11_border 17 = .ok (.iload_n 2, 1) := by decide +kernel
theorem dX11_border_18 : decode cX11_border 18 = .ok (.iload_n 1, 1) := by decide +kernel
theorem dX11_border_19 : decode cX11_border 19 = .ok (.iload_n 3, 1) := by decide +kernel
theorem dX11_border_20 : decode cX11_border 20 = .ok (.invokestatic 213, 3) := by decide +kernel
theorem dX11_border_23 : decode cX11_border 23 = .ok (.ifCond .eq 18, 3) := by decide +kernel
theorem dX11_border_26 : decode cX11_border 26 = .ok (.iconst 4, 1) := by decide +kernel
theorem dX11_border_27 : decode cX11_border 27 = .ok (.aload_n 0, 1) := by decide +kernel
theorem dX11_border_28 : decode cX11_border 28 = .ok (.iload_n 3, 1) := by decide +kernel
theorem dX11_border_29 : decode cX11_border 29 = .ok (.invokevirtual 216, 3) := by decide +kernel
theorem dX11_border_32 : decode cX11_border 32 = .ok (.iload_n 1, 1) := by decide +kernel
theorem dX11_border_33 : decode cX11_border 33 = .ok (.iand, 1) := by decide +kernel
theorem dX11_border_34 : decode cX11_border 34 = .ok (.invokestatic 207, 3) := by decide +kernel
theorem dX11_border_37 : decode cX11_border 37 = .ok (.isub, 1) := by decide +kernel
theorem dX11_border_38 : decode cX11_border 38 = .ok (.goto 4, 3) := by decide +kernel
theorem dX11_border_41 : decode cX11_border 41 = .ok (.iconst 0, 1) := by decide +kernel
theorem dX11_border_42 : decode cX11_border 42 = .ok (.iadd, 1) := by decide +kernel
theorem dX11_border_43 : decode cX11_border 43 = .ok (.istore_n 2, 1) := by decide +kernel
theorem dX11_border_44 : decode cX11_border 44 = .ok (.iinc 3 1, 3) := by decide +kernel
theorem dX11_border_47 : decode cX11_border 47 = .ok (.goto (-38), 3) := by decide +kernel
theorem dX11_border_50 : decode cX11_border 50 = .ok (.iload_n 2, 1) := by decide +kernel
theorem dX11_border_51 : decode cX11_border 51 = .ok (.ireturn, 1) := by decide +kernel
theorem dX11_fullest_0 : decode cX11_fullest 0 = .ok (.aload_n 0, 1) := by decide +kernel
theorem dX11_fullest_1 : decode cX11_fullest 1 = .ok (.invokevirtual 204, 3) := by decide +kernel
theorem dX11_fullest_4 : decode cX11_fullest 4 = .ok (.istore_n 1, 1) := by decide +kernel
theorem dX11_fullest_5 : decode cX11_fullest 5 = .ok (.iconst (-1), 1) := by decide +kernel
theorem dX11_fullest_6 : decode cX11_fullest 6 = .ok (.istore_n 2, 1) := by decide +kernel
theorem dX11_fullest_7 : decode cX11_fullest 7 = .ok (.iconst 0, 1) := by decide +kernel
theorem dX11_fullest_8 : decode cX11_fullest 8 = .ok (.istore_n 3, 1) := by decide +kernel
theorem dX11_fullest_9 : decode cX11_fullest 9 = .ok (.iconst 0, 1) := by decide +kernel
theorem dX11_fullest_10 : decode cX11_fullest 10 = .ok (.istore 4, 2) := by decide +kernel
theorem dX11_fullest_12 : decode cX11_fullest 12 = .ok (.iload 4, 2) := by decide +kernel
theorem dX11_fullest_14 : decode cX11_fullest 14 = .ok (.aload_n 0, 1) := by decide +kernel
theorem dX11_fullest_15 : decode cX11_fullest 15 = .ok (.getfield 72, 3) := by decide +kernel
theorem dX11_fullest_18 : decode cX11_fullest 18 = .ok (.if_icmp .ge 58, 3) := by decide +kernel
theorem dX11_fullest_21 : decode cX11_fullest 21 = .ok (.iload_n 1, 1) := by decide +kernel
theorem dX11_fullest_22 : decode cX11_fullest 22 = .ok (.aload_n 0, 1) := by decide +kernel
theorem dX11_fullest_23 : decode cX11_fullest 23 = .ok (.getfield 75, 3) := by decide +kernel
theorem dX11_fullest_26 : decode cX11_fullest 26 = .ok (.iload 4, 2) := by decide +kernel
theorem dX11_fullest_28 : decode cX11_fullest 28 = .ok (.imul, 1) := by decide +kernel
theorem dX11_fullest_29 : decode cX11_fullest 29 = .ok (.ishr, 1) := by decide +kernel
theorem dX11_fullest_30 : decode cX11_fullest 30 = .ok (.iconst 1, 1) := by decide +kernel
theorem dX11_fullest_31 : decode cX11_fullest 31 = .ok (.aload_n 0, 1) := by decide +kernel
theorem dX11_fullest_32 : decode cX11_fullest 32 = .ok (.getfield 75, 3) := by decide +kernel
theorem dX11_fullest_35 : decode cX11_fullest 35 = .ok (.ishl, 1) := by decide +kernel
theorem dX11_fullest_36 : decode cX11_fullest 36 = .ok (.iconst 1, 1) := by decide +kernel
theorem dX11_fullest_37 : decode cX11_fullest 37 = .ok (.isub, 1) := by decide +kernel
theorem dX11_fullest_38 : decode cX11_fullest 38 = .ok (.iand, 1) := by decide +kernel
theorem dX11_fullest_39 : decode cX11_fullest 39 = .ok (.invokestatic 207, 3) := by decide +kernel
theorem dX11_fullest_42 : decode cX11_fullest 42 = .ok (.istore 5, 2) := by decide +kernel
theorem dX11_fullest_44 : decode cX11_fullest 44 = .ok (.iload 5, 2) := by decide +kernel
theorem dX11_fullest_46 : decode cX11_fullest 46 = .ok (.iload_n 3, 1) := by decide +kernel
theorem dX11_fullest_47 : decode cX11_fullest 47 = .ok (.if_icmp .le 8, 3) := by decide +kernel
theorem dX11_fullest_50 : decode cX11_fullest 50 = .ok (.iload 4, 2) := by decide +kernel
theorem dX11_fullest_52 : decode cX11_fullest 52 = .ok (.goto 4, 3) := by decide +kernel
theorem dX11_fullest_55 : decode cX11_fullest 55 = .ok (.iload_n 2, 1) := by decide +kernel
theorem dX11_fullest_56 : decode cX11_fullest 56 = .ok (.istore_n 2, 1) := by decide +kernel
theorem dX11_fullest_57 : decode cX11_fullest 57 = .ok (.iload 5, 2) := by decide +kernel
theorem dX11_fullest_59 : decode cX11_fullest 59 = .ok (.iload_n 3, 1) := by decide +kernel
theorem dX11_fullest_60 : decode cX11_fullest 60 = .ok (.if_icmp .le 8, 3) := by decide +kernel
theorem dX11_fullest_63 : decode cX11_fullest 63 = .ok (.iload 5, 2) := by decide +kernel
theorem dX11_fullest_65 : decode cX11_fullest 65 = .ok (.goto 4, 3) := by decide +kernel
theorem dX11_fullest_68 : decode cX11_fullest 68 = .ok (.iload_n 3, 1) := by decide +kernel
theorem dX11_fullest_69 : decode cX11_fullest 69 = .ok (.istore_n 3, 1) := by decide +kernel
theorem dX11_fullest_70 : decode cX11_fullest 70 = .ok (.iinc 4 1, 3) := by decide +kernel
theorem dX11_fullest_73 : decode cX11_fullest 73 = .ok (.goto (-61), 3) := by decide +kernel
theorem dX11_fullest_76 : decode cX11_fullest 76 = .ok (.iload_n 2, 1) := by decide +kernel
theorem dX11_fullest_77 : decode cX11_fullest 77 = .ok (.ireturn, 1) := by decide +kernel
theorem dX11_allWet_0 : decode cX11_allWet 0 = .ok (.iconst 0, 1) := by decide +kernel
theorem dX11_allWet_1 : decode cX11_allWet 1 = .ok (.istore_n 1, 1) := by decide +kernel
theorem dX11_allWet_2 : decode cX11_allWet 2 = .ok (.iconst 0, 1) := by decide +kernel
theorem dX11_allWet_3 : decode cX11_allWet 3 = .ok (.istore_n 2, 1) := by decide +kernel
theorem dX11_allWet_4 : decode cX11_allWet 4 = .ok (.iload_n 2, 1) := by decide +kernel
theorem dX11_allWet_5 : decode cX11_allWet 5 = .ok (.aload_n 0, 1) := by decide +kernel
theorem dX11_allWet_6 : decode cX11_allWet 6 = .ok (.invokevirtual 78, 3) := by decide +kernel
theorem dX11_allWet_9 : decode cX11_allWet 9 = .ok (.if_icmp .ge 18, 3) := by decide +kernel
theorem dX11_allWet_12 : decode cX11_allWet 12 = .ok (.iload_n 1, 1) := by decide +kernel
theorem dX11_allWet_13 : decode cX11_allWet 13 = .ok (.aload_n 0, 1) := by decide +kernel
theorem dX11_allWet_14 : decode cX11_allWet 14 = .ok (.getfield 22, 3) := by decide +kernel
theorem dX11_allWet_17 : decode cX11_allWet 17 = .ok (.iload_n 2, 1) := by decide +kernel
theorem dX11_allWet_18 : decode cX11_allWet 18 = .ok (.iaload, 1) := by decide +kernel
theorem dX11_allWet_19 : decode cX11_allWet 19 = .ok (.iadd, 1) := by decide +kernel
theorem dX11_allWet_20 : decode cX11_allWet 20 = .ok (.istore_n 1, 1) := by decide +kernel
theorem dX11_allWet_21 : decode cX11_allWet 21 = .ok (.iinc 2 1, 3) := by decide +kernel
theorem dX11_allWet_24 : decode cX11_allWet 24 = .ok (.goto (-20), 3) := by decide +kernel
theorem dX11_allWet_27 : decode cX11_allWet 27 = .ok (.iload_n 1, 1) := by decide +kernel
theorem dX11_allWet_28 : decode cX11_allWet 28 = .ok (.ireturn, 1) := by decide +kernel
theorem dX11_told_0 : decode cX11_told 0 = .ok (.iload_n 1, 1) := by decide +kernel
theorem dX11_told_1 : decode cX11_told 1 = .ok (.tableswitch 221 0 20 #[99, 104, 109, 114, 119, 124, 129, 137, 145, 150, 158, 166, 174, 179, 184, 189, 195, 201, 206, 211, 216], 99) := by decide +kernel
theorem dX11_told_100 : decode cX11_told 100 = .ok (.aload_n 0, 1) := by decide +kernel
theorem dX11_told_101 : decode cX11_told 101 = .ok (.getfield 72, 3) := by decide +kernel
theorem dX11_told_104 : decode cX11_told 104 = .ok (.ireturn, 1) := by decide +kernel
theorem dX11_told_105 : decode cX11_told 105 = .ok (.aload_n 0, 1) := by decide +kernel
theorem dX11_told_106 : decode cX11_told 106 = .ok (.getfield 75, 3) := by decide +kernel
theorem dX11_told_109 : decode cX11_told 109 = .ok (.ireturn, 1) := by decide +kernel
theorem dX11_told_110 : decode cX11_told 110 = .ok (.aload_n 0, 1) := by decide +kernel
theorem dX11_told_111 : decode cX11_told 111 = .ok (.getfield 86, 3) := by decide +kernel
theorem dX11_told_114 : decode cX11_told 114 = .ok (.ireturn, 1) := by decide +kernel
theorem dX11_told_115 : decode cX11_told 115 = .ok (.aload_n 0, 1) := by decide +kernel
theorem dX11_told_116 : decode cX11_told 116 = .ok (.getfield 89, 3) := by decide +kernel
theorem dX11_told_119 : decode cX11_told 119 = .ok (.ireturn, 1) := by decide +kernel
theorem dX11_told_120 : decode cX11_told 120 = .ok (.aload_n 0, 1) := by decide +kernel
theorem dX11_told_121 : decode cX11_told 121 = .ok (.getfield 92, 3) := by decide +kernel
theorem dX11_told_124 : decode cX11_told 124 = .ok (.ireturn, 1) := by decide +kernel
theorem dX11_told_125 : decode cX11_told 125 = .ok (.aload_n 0, 1) := by decide +kernel
theorem dX11_told_126 : decode cX11_told 126 = .ok (.getfield 98, 3) := by decide +kernel
theorem dX11_told_129 : decode cX11_told 129 = .ok (.ireturn, 1) := by decide +kernel
theorem dX11_told_130 : decode cX11_told 130 = .ok (.aload_n 0, 1) := by decide +kernel
theorem dX11_told_131 : decode cX11_told 131 = .ok (.getfield 22, 3) := by decide +kernel
theorem dX11_told_134 : decode cX11_told 134 = .ok (.bipush 31, 2) := by decide +kernel
theorem dX11_told_136 : decode cX11_told 136 = .ok (.iaload, 1) := by decide +kernel
theorem dX11_told_137 : decode cX11_told 137 = .ok (.ireturn, 1) := by decide +kernel
theorem dX11_told_138 : decode cX11_told 138 = .ok (.aload_n 0, 1) := by decide +kernel
theorem dX11_told_139 : decode cX11_told 139 = .ok (.getfield 22, 3) := by decide +kernel
theorem dX11_told_142 : decode cX11_told 142 = .ok (.bipush 29, 2) := by decide +kernel
theorem dX11_told_144 : decode cX11_told 144 = .ok (.iaload, 1) := by decide +kernel
theorem dX11_told_145 : decode cX11_told 145 = .ok (.ireturn, 1) := by decide +kernel
theorem dX11_told_146 : decode cX11_told 146 = .ok (.aload_n 0, 1) := by decide +kernel
theorem dX11_told_147 : decode cX11_told 147 = .ok (.invokevirtual 204, 3) := by decide +kernel
theorem dX11_told_150 : decode cX11_told 150 = .ok (.ireturn, 1) := by decide +kernel
theorem dX11_told_151 : decode cX11_told 151 = .ok (.aload_n 0, 1) := by decide +kernel
theorem dX11_told_152 : decode cX11_told 152 = .ok (.getfield 22, 3) := by decide +kernel
theorem dX11_told_155 : decode cX11_told 155 = .ok (.bipush 30, 2) := by decide +kernel
theorem dX11_told_157 : decode cX11_told 157 = .ok (.iaload, 1) := by decide +kernel
theorem dX11_told_158 : decode cX11_told 158 = .ok (.ireturn, 1) := by decide +kernel
theorem dX11_told_159 : decode cX11_told 159 = .ok (.aload_n 0, 1) := by decide +kernel
theorem dX11_told_160 : decode cX11_told 160 = .ok (.getfield 22, 3) := by decide +kernel
theorem dX11_told_163 : decode cX11_told 163 = .ok (.bipush 32, 2) := by decide +kernel
theorem dX11_told_165 : decode cX11_told 165 = .ok (.iaload, 1) := by decide +kernel
theorem dX11_told_166 : decode cX11_told 166 = .ok (.ireturn, 1) := by decide +kernel
theorem dX11_told_167 : decode cX11_told 167 = .ok (.aload_n 0, 1) := by decide +kernel
theorem dX11_told_168 : decode cX11_told 168 = .ok (.getfield 22, 3) := by decide +kernel
theorem dX11_told_171 : decode cX11_told 171 = .ok (.bipush 33, 2) := by decide +kernel
theorem dX11_told_173 : decode cX11_told 173 = .ok (.iaload, 1) := by decide +kernel
theorem dX11_told_174 : decode cX11_told 174 = .ok (.ireturn, 1) := by decide +kernel
theorem dX11_told_175 : decode cX11_told 175 = .ok (.aload_n 0, 1) := by decide +kernel
theorem dX11_told_176 : decode cX11_told 176 = .ok (.invokevirtual 222, 3) := by decide +kernel
theorem dX11_told_179 : decode cX11_told 179 = .ok (.ireturn, 1) := by decide +kernel
theorem dX11_told_180 : decode cX11_told 180 = .ok (.aload_n 0, 1) := by decide +kernel
theorem dX11_told_181 : decode cX11_told 181 = .ok (.invokevirtual 225, 3) := by decide +kernel
theorem dX11_told_184 : decode cX11_told 184 = .ok (.ireturn, 1) := by decide +kernel
theorem dX11_told_185 : decode cX11_told 185 = .ok (.aload_n 0, 1) := by decide +kernel
theorem dX11_told_186 : decode cX11_told 186 = .ok (.invokevirtual 228, 3) := by decide +kernel
theorem dX11_told_189 : decode cX11_told 189 = .ok (.ireturn, 1) := by decide +kernel
theorem dX11_told_190 : decode cX11_told 190 = .ok (.aload_n 0, 1) := by decide +kernel
theorem dX11_told_191 : decode cX11_told 191 = .ok (.iconst 0, 1) := by decide +kernel
theorem dX11_told_192 : decode cX11_told 192 = .ok (.invokevirtual 231, 3) := by decide +kernel
theorem dX11_told_195 : decode cX11_told 195 = .ok (.ireturn, 1) := by decide +kernel
theorem dX11_told_196 : decode cX11_told 196 = .ok (.aload_n 0, 1) := by decide +kernel
theorem dX11_told_197 : decode cX11_told 197 = .ok (.iconst 1, 1) := by decide +kernel
theorem dX11_told_198 : decode cX11_told 198 = .ok (.invokevirtual 231, 3) := by decide +kernel
theorem dX11_told_201 : decode cX11_told 201 = .ok (.ireturn, 1) := by decide +kernel
theorem dX11_told_202 : decode cX11_told 202 = .ok (.aload_n 0, 1) := by decide +kernel
theorem dX11_told_203 : decode cX11_told 203 = .ok (.invokevirtual 235, 3) := by decide +kernel
theorem dX11_told_206 : decode cX11_told 206 = .ok (.ireturn, 1) := by decide +kernel
theorem dX11_told_207 : decode cX11_told 207 = .ok (.aload_n 0, 1) := by decide +kernel
theorem dX11_told_208 : decode cX11_told 208 = .ok (.invokevirtual 238, 3) := by decide +kernel
theorem dX11_told_211 : decode cX11_told 211 = .ok (.ireturn, 1) := by decide +kernel
theorem dX11_told_212 : decode cX11_told 212 = .ok (.aload_n 0, 1) := by decide +kernel
theorem dX11_told_213 : decode cX11_told 213 = .ok (.getfield 198, 3) := by decide +kernel
theorem dX11_told_216 : decode cX11_told 216 = .ok (.ireturn, 1) := by decide +kernel
theorem dX11_told_217 : decode cX11_told 217 = .ok (.aload_n 0, 1) := by decide +kernel
theorem dX11_told_218 : decode cX11_told 218 = .ok (.getfield 201, 3) := by decide +kernel
theorem dX11_told_221 : decode cX11_told 221 = .ok (.ireturn, 1) := by decide +kernel
theorem dX11_told_222 : decode cX11_told 222 = .ok (.ldc 97, 2) := by decide +kernel
theorem dX11_told_224 : decode cX11_told 224 = .ok (.ireturn, 1) := by decide +kernel
theorem dX11_cell_0 : decode cX11_cell 0 = .ok (.aload_n 0, 1) := by decide +kernel
theorem dX11_cell_1 : decode cX11_cell 1 = .ok (.iload_n 1, 1) := by decide +kernel
theorem dX11_cell_2 : decode cX11_cell 2 = .ok (.invokevirtual 241, 3) := by decide +kernel
theorem dX11_cell_5 : decode cX11_cell 5 = .ok (.ifCond .eq 12, 3) := by decide +kernel
theorem dX11_cell_8 : decode cX11_cell 8 = .ok (.aload_n 0, 1) := by decide +kernel
theorem dX11_cell_9 : decode cX11_cell 9 = .ok (.getfield 22, 3) := by decide +kernel
theorem dX11_cell_12 : decode cX11_cell 12 = .ok (.iload_n 1, 1) := by decide +kernel
theorem dX11_cell_13 : decode cX11_cell 13 = .ok (.iaload, 1) := by decide +kernel
theorem dX11_cell_14 : decode cX11_cell 14 = .ok (.goto 5, 3) := by decide +kernel
theorem dX11_cell_17 : decode cX11_cell 17 = .ok (.ldc 244, 2) := by decide +kernel
theorem dX11_cell_19 : decode cX11_cell 19 = .ok (.ireturn, 1) := by decide +kernel
theorem dX11_leak_0 : decode cX11_leak 0 = .ok (.aload_n 0, 1) := by decide +kernel
theorem dX11_leak_1 : decode cX11_leak 1 = .ok (.iload_n 1, 1) := by decide +kernel
theorem dX11_leak_2 : decode cX11_leak 2 = .ok (.invokevirtual 245, 3) := by decide +kernel
theorem dX11_leak_5 : decode cX11_leak 5 = .ok (.ifCond .eq 15, 3) := by decide +kernel
theorem dX11_leak_8 : decode cX11_leak 8 = .ok (.aload_n 0, 1) := by decide +kernel
theorem dX11_leak_9 : decode cX11_leak 9 = .ok (.getfield 22, 3) := by decide +kernel
theorem dX11_leak_12 : decode cX11_leak 12 = .ok (.bipush 25, 2) := by decide +kernel
theorem dX11_leak_14 : decode cX11_leak 14 = .ok (.iload_n 1, 1) := by decide +kernel
theorem dX11_leak_15 : decode cX11_leak 15 = .ok (.iadd, 1) := by decide +kernel
theorem dX11_leak_16 : decode cX11_leak 16 = .ok (.iaload, 1) := by decide +kernel
theorem dX11_leak_17 : decode cX11_leak 17 = .ok (.goto 5, 3) := by decide +kernel
theorem dX11_leak_20 : decode cX11_leak 20 = .ok (.ldc 244, 2) := by decide +kernel
theorem dX11_leak_22 : decode cX11_leak 22 = .ok (.ireturn, 1) := by decide +kernel
theorem dX11_crack_0 : decode cX11_crack 0 = .ok (.aload_n 0, 1) := by decide +kernel
theorem dX11_crack_1 : decode cX11_crack 1 = .ok (.iload_n 1, 1) := by decide +kernel
theorem dX11_crack_2 : decode cX11_crack 2 = .ok (.invokevirtual 248, 3) := by decide +kernel
theorem dX11_crack_5 : decode cX11_crack 5 = .ok (.ifCond .ne 6, 3) := by decide +kernel
theorem dX11_crack_8 : decode cX11_crack 8 = .ok (.ldc 244, 2) := by decide +kernel
theorem dX11_crack_10 : decode cX11_crack 10 = .ok (.ireturn, 1) := by decide +kernel
theorem dX11_crack_11 : decode cX11_crack 11 = .ok (.iload_n 2, 1) := by decide +kernel
theorem dX11_crack_12 : decode cX11_crack 12 = .ok (.tableswitch 54 0 2 #[28, 35, 42], 28) := by decide +kernel
theorem dX11_crack_40 : decode cX11_crack 40 = .ok (.aload_n 0, 1) := by decide +kernel
theorem dX11_crack_41 : decode cX11_crack 41 = .ok (.getfield 13, 3) := by decide +kernel
theorem dX11_crack_44 : decode cX11_crack 44 = .ok (.iload_n 1, 1) := by decide +kernel
theorem dX11_crack_45 : decode cX11_crack 45 = .ok (.iaload, 1) := by decide +kernel
theorem dX11_crack_46 : decode cX11_crack 46 = .ok (.ireturn, 1) := by decide +kernel
theorem dX11_crack_47 : decode cX11_crack 47 = .ok (.aload_n 0, 1) := by decide +kernel
theorem dX11_crack_48 : decode cX11_crack 48 = .ok (.getfield 16, 3) := by decide +kernel
theorem dX11_crack_51 : decode cX11_crack 51 = .ok (.iload_n 1, 1) := by decide +kernel
theorem dX11_crack_52 : decode cX11_crack 52 = .ok (.iaload, 1) := by decide +kernel
theorem dX11_crack_53 : decode cX11_crack 53 = .ok (.ireturn, 1) := by decide +kernel
theorem dX11_crack_54 : decode cX11_crack 54 = .ok (.aload_n 0, 1) := by decide +kernel
theorem dX11_crack_55 : decode cX11_crack 55 = .ok (.getfield 22, 3) := by decide +kernel
theorem dX11_crack_58 : decode cX11_crack 58 = .ok (.bipush 30, 2) := by decide +kernel
theorem dX11_crack_60 : decode cX11_crack 60 = .ok (.iaload, 1) := by decide +kernel
theorem dX11_crack_61 : decode cX11_crack 61 = .ok (.iload_n 1, 1) := by decide +kernel
theorem dX11_crack_62 : decode cX11_crack 62 = .ok (.ishr, 1) := by decide +kernel
theorem dX11_crack_63 : decode cX11_crack 63 = .ok (.iconst 1, 1) := by decide +kernel
theorem dX11_crack_64 : decode cX11_crack 64 = .ok (.iand, 1) := by decide +kernel
theorem dX11_crack_65 : decode cX11_crack 65 = .ok (.ireturn, 1) := by decide +kernel
theorem dX11_crack_66 : decode cX11_crack 66 = .ok (.ldc 97, 2) := by decide +kernel
theorem dX11_crack_68 : decode cX11_crack 68 = .ok (.ireturn, 1) := by decide +kernel
theorem dX11_likeness_0 : decode cX11_likeness 0 = .ok (.aload_n 0, 1) := by decide +kernel
theorem dX11_likeness_1 : decode cX11_likeness 1 = .ok (.iload_n 1, 1) := by decide +kernel
theorem dX11_likeness_2 : decode cX11_likeness 2 = .ok (.invokevirtual 251, 3) := by decide +kernel
theorem dX11_likeness_5 : decode cX11_likeness 5 = .ok (.ifCond .ne 6, 3) := by decide +kernel
theorem dX11_likeness_8 : decode cX11_likeness 8 = .ok (.ldc 244, 2) := by decide +kernel
theorem dX11_likeness_10 : decode cX11_likeness 10 = .ok (.ireturn, 1) := by decide +kernel
theorem dX11_likeness_11 : decode cX11_likeness 11 = .ok (.iload_n 2, 1) := by decide +kernel
theorem dX11_likeness_12 : decode cX11_likeness 12 = .ok (.tableswitch 58 0 2 #[28, 35, 41], 28) := by decide +kernel
theorem dX11_likeness_40 : decode cX11_likeness 40 = .ok (.aload_n 0, 1) := by decide +kernel
theorem dX11_likeness_41 : decode cX11_likeness 41 = .ok (.getfield 19, 3) := by decide +kernel
theorem dX11_likeness_44 : decode cX11_likeness 44 = .ok (.iload_n 1, 1) := by decide +kernel
theorem dX11_likeness_45 : decode cX11_likeness 45 = .ok (.iaload, 1) := by decide +kernel
theorem dX11_likeness_46 : decode cX11_likeness 46 = .ok (.ireturn, 1) := by decide +kernel
theorem dX11_likeness_47 : decode cX11_likeness 47 = .ok (.aload_n 0, 1) := by decide +kernel
theorem dX11_likeness_48 : decode cX11_likeness 48 = .ok (.iload_n 1, 1) := by decide +kernel
theorem dX11_likeness_49 : decode cX11_likeness 49 = .ok (.invokevirtual 210, 3) := by decide +kernel
theorem dX11_likeness_52 : decode cX11_likeness 52 = .ok (.ireturn, 1) := by decide +kernel
theorem dX11_likeness_53 : decode cX11_likeness 53 = .ok (.aload_n 0, 1) := by decide +kernel
theorem dX11_likeness_54 : decode cX11_likeness 54 = .ok (.invokevirtual 204, 3) := by decide +kernel
theorem dX11_likeness_57 : decode cX11_likeness 57 = .ok (.aload_n 0, 1) := by decide +kernel
theorem dX11_likeness_58 : decode cX11_likeness 58 = .ok (.getfield 19, 3) := by decide +kernel
theorem dX11_likeness_61 : decode cX11_likeness 61 = .ok (.iload_n 1, 1) := by decide +kernel
theorem dX11_likeness_62 : decode cX11_likeness 62 = .ok (.iaload, 1) := by decide +kernel
theorem dX11_likeness_63 : decode cX11_likeness 63 = .ok (.iconst (-1), 1) := by decide +kernel
theorem dX11_likeness_64 : decode cX11_likeness 64 = .ok (.ixor, 1) := by decide +kernel
theorem dX11_likeness_65 : decode cX11_likeness 65 = .ok (.iand, 1) := by decide +kernel
theorem dX11_likeness_66 : decode cX11_likeness 66 = .ok (.invokestatic 207, 3) := by decide +kernel
theorem dX11_likeness_69 : decode cX11_likeness 69 = .ok (.ireturn, 1) := by decide +kernel
theorem dX11_likeness_70 : decode cX11_likeness 70 = .ok (.ldc 97, 2) := by decide +kernel
theorem dX11_likeness_72 : decode cX11_likeness 72 = .ok (.ireturn, 1) := by decide +kernel
theorem dX11_give_0 : decode cX11_give 0 = .ok (.aload_n 0, 1) := by decide +kernel
theorem dX11_give_1 : decode cX11_give 1 = .ok (.getfield 50, 3) := by decide +kernel
theorem dX11_give_4 : decode cX11_give 4 = .ok (.iload_n 1, 1) := by decide +kernel
theorem dX11_give_5 : decode cX11_give 5 = .ok (.iaload, 1) := by decide +kernel
theorem dX11_give_6 : decode cX11_give 6 = .ok (.ifCond .le 23, 3) := by decide +kernel
theorem dX11_give_9 : decode cX11_give 9 = .ok (.aload_n 0, 1) := by decide +kernel
theorem dX11_give_10 : decode cX11_give 10 = .ok (.getfield 50, 3) := by decide +kernel
theorem dX11_give_13 : decode cX11_give 13 = .ok (.iload_n 1, 1) := by decide +kernel
theorem dX11_give_14 : decode cX11_give 14 = .ok (.dup2, 1) := by decide +kernel
theorem dX11_give_15 : decode cX11_give 15 = .ok (.iaload, 1) := by decide +kernel
theorem dX11_give_16 : decode cX11_give 16 = .ok (.iconst 1, 1) := by decide +kernel
theorem dX11_give_17 : decode cX11_give 17 = .ok (.isub, 1) := by decide +kernel
theorem dX11_give_18 : decode cX11_give 18 = .ok (.iastore, 1) := by decide +kernel
theorem dX11_give_19 : decode cX11_give 19 = .ok (.aload_n 0, 1) := by decide +kernel
theorem dX11_give_20 : decode cX11_give 20 = .ok (.getfield 47, 3) := by decide +kernel
theorem dX11_give_23 : decode cX11_give 23 = .ok (.iload_n 2, 1) := by decide +kernel
theorem dX11_give_24 : decode cX11_give 24 = .ok (.dup2, 1) := by decide +kernel
theorem dX11_give_25 : decode cX11_give 25 = .ok (.iaload, 1) := by decide +kernel
theorem dX11_give_26 : decode cX11_give 26 = .ok (.iconst 1, 1) := by decide +kernel
theorem dX11_give_27 : decode cX11_give 27 = .ok (.iadd, 1) := by decide +kernel
theorem dX11_give_28 : decode cX11_give 28 = .ok (.iastore, 1) := by decide +kernel
theorem dX11_give_29 : decode cX11_give 29 = .ok (.return_, 1) := by decide +kernel
theorem dX11_runFrom_0 : decode cX11_runFrom 0 = .ok (.iload_n 1, 1) := by decide +kernel
theorem dX11_runFrom_1 : decode cX11_runFrom 1 = .ok (.aload_n 0, 1) := by decide +kernel
theorem dX11_runFrom_2 : decode cX11_runFrom 2 = .ok (.getfield 75, 3) := by decide +kernel
theorem dX11_runFrom_5 : decode cX11_runFrom 5 = .ok (.iadd, 1) := by decide +kernel
theorem dX11_runFrom_6 : decode cX11_runFrom 6 = .ok (.aload_n 0, 1) := by decide +kernel
theorem dX11_runFrom_7 : decode cX11_runFrom 7 = .ok (.invokevirtual 78, 3) := by decide +kernel
theorem dX11_runFrom_10 : decode cX11_runFrom 10 = .ok (.if_icmp .ge 24, 3) := by decide +kernel
theorem dX11_runFrom_13 : decode cX11_runFrom 13 = .ok (.aload_n 0, 1) := by decide +kernel
theorem dX11_runFrom_14 : decode cX11_runFrom 14 = .ok (.getfield 44, 3) := by decide +kernel
theorem dX11_runFrom_17 : decode cX11_runFrom 17 = .ok (.iload_n 1, 1) := by decide +kernel
theorem dX11_runFrom_18 : decode cX11_runFrom 18 = .ok (.iaload, 1) := by decide +kernel
theorem dX11_runFrom_19 : decode cX11_runFrom 19 = .ok (.iconst 2, 1) := by decide +kernel
theorem dX11_runFrom_20 : decode cX11_runFrom 20 = .ok (.if_icmp .lt 14, 3) := by decide +kernel
theorem dX11_runFrom_23 : decode cX11_runFrom 23 = .ok (.aload_n 0, 1) := by decide +kernel
theorem dX11_runFrom_24 : decode cX11_runFrom 24 = .ok (.iload_n 1, 1) := by decide +kernel
theorem dX11_runFrom_25 : decode cX11_runFrom 25 = .ok (.iload_n 1, 1) := by decide +kernel
theorem dX11_runFrom_26 : decode cX11_runFrom 26 = .ok (.aload_n 0, 1) := by decide +kernel
theorem dX11_runFrom_27 : decode cX11_runFrom 27 = .ok (.getfield 75, 3) := by decide +kernel
theorem dX11_runFrom_30 : decode cX11_runFrom 30 = .ok (.iadd, 1) := by decide +kernel
theorem dX11_runFrom_31 : decode cX11_runFrom 31 = .ok (.invokevirtual 254, 3) := by decide +kernel
theorem dX11_runFrom_34 : decode cX11_runFrom 34 = .ok (.aload_n 0, 1) := by decide +kernel
theorem dX11_runFrom_35 : decode cX11_runFrom 35 = .ok (.getfield 22, 3) := by decide +kernel
theorem dX11_runFrom_38 : decode cX11_runFrom 38 = .ok (.bipush 29, 2) := by decide +kernel
theorem dX11_runFrom_40 : decode cX11_runFrom 40 = .ok (.iaload, 1) := by decide +kernel
theorem dX11_runFrom_41 : decode cX11_runFrom 41 = .ok (.iconst 1, 1) := by decide +kernel
theorem dX11_runFrom_42 : decode cX11_runFrom 42 = .ok (.if_icmp .ne 18, 3) := by decide +kernel
theorem dX11_runFrom_45 : decode cX11_runFrom 45 = .ok (.iload_n 1, 1) := by decide +kernel
theorem dX11_runFrom_46 : decode cX11_runFrom 46 = .ok (.aload_n 0, 1) := by decide +kernel
theorem dX11_runFrom_47 : decode cX11_runFrom 47 = .ok (.getfield 75, 3) := by decide +kernel
theorem dX11_runFrom_50 : decode cX11_runFrom 50 = .ok (.irem, 1) := by decide +kernel
theorem dX11_runFrom_51 : decode cX11_runFrom 51 = .ok (.ifCond .le 9, 3) := by decide +kernel
theorem dX11_runFrom_54 : decode cX11_runFrom 54 = .ok (.iload_n 1, 1) := by decide +kernel
theorem dX11_runFrom_55 : decode cX11_runFrom 55 = .ok (.iconst 1, 1) := by decide +kernel
theorem dX11_runFrom_56 : decode cX11_runFrom 56 = .ok (.isub, 1) := by decide +kernel
theorem dX11_runFrom_57 : decode cX11_runFrom 57 = .ok (.goto 36, 3) := by decide +kernel
theorem dX11_runFrom_60 : decode cX11_runFrom 60 = .ok (.aload_n 0, 1) := by decide +kernel
theorem dX11_runFrom_61 : decode cX11_runFrom 61 = .ok (.getfield 22, 3) := by decide +kernel
theorem dX11_runFrom_64 : decode cX11_runFrom 64 = .ok (.bipush 29, 2) := by decide +kernel
theorem dX11_runFrom_66 : decode cX11_runFrom 66 = .ok (.iaload, 1) := by decide +kernel
theorem dX11_runFrom_67 : decode cX11_runFrom 67 = .ok (.iconst 2, 1) := by decide +kernel
theorem dX11_runFrom_68 : decode cX11_runFrom 68 = .ok (.if_icmp .ne 24, 3) := by decide +kernel
theorem dX11_runFrom_71 : decode cX11_runFrom 71 = .ok (.iload_n 1, 1) := by decide +kernel
theorem dX11_runFrom_72 : decode cX11_runFrom 72 = .ok (.aload_n 0, 1) := by decide +kernel
theorem dX11_runFrom_73 : decode cX11_runFrom 73 = .ok (.getfield 75, 3) := by decide +kernel
theorem dX11_runFrom_76 : decode cX11_runFrom 76 = .ok (.irem, 1) := by decide +kernel
theorem dX11_runFrom_77 : decode cX11_runFrom 77 = .ok (.aload_n 0, 1) := by decide +kernel
theorem dX11_runFrom_78 : decode cX11_runFrom 78 = .ok (.getfield 75, 3) := by decide +kernel
theorem dX11_runFrom_81 : decode cX11_runFrom 81 = .ok (.iconst 1, 1) := by decide +kernel
theorem dX11_runFrom_82 : decode cX11_runFrom 82 = .ok (.isub, 1) := by decide +kernel
theorem dX11_runFrom_83 : decode cX11_runFrom 83 = .ok (.if_icmp .ge 9, 3) := by decide +kernel
theorem dX11_runFrom_86 : decode cX11_runFrom 86 = .ok (.iload_n 1, 1) := by decide +kernel
theorem dX11_runFrom_87 : decode cX11_runFrom 87 = .ok (.iconst 1, 1) := by decide +kernel
theorem dX11_runFrom_88 : decode cX11_runFrom 88 = .ok (.iadd, 1) := by decide +kernel
theorem dX11_runFrom_89 : decode cX11_runFrom 89 = .ok (.goto 4, 3) := by decide +kernel
theorem dX11_runFrom_92 : decode cX11_runFrom 92 = .ok (.iconst (-1), 1) := by decide +kernel
theorem dX11_runFrom_93 : decode cX11_runFrom 93 = .ok (.istore_n 2, 1) := by decide +kernel
theorem dX11_runFrom_94 : decode cX11_runFrom 94 = .ok (.iload_n 2, 1) := by decide +kernel
theorem dX11_runFrom_95 : decode cX11_runFrom 95 = .ok (.ifCond .lt 19, 3) := by decide +kernel
theorem dX11_runFrom_98 : decode cX11_runFrom 98 = .ok (.aload_n 0, 1) := by decide +kernel
theorem dX11_runFrom_99 : decode cX11_runFrom 99 = .ok (.getfield 44, 3) := by decide +kernel
theorem dX11_runFrom_102 : decode cX11_runFrom 102 = .ok (.iload_n 1, 1) := by decide +kernel
theorem dX11_runFrom_103 : decode cX11_runFrom 103 = .ok (.iaload, 1) := by decide +kernel
theorem dX11_runFrom_104 : decode cX11_runFrom 104 = .ok (.iconst 4, 1) := by decide +kernel
theorem dX11_runFrom_105 : decode cX11_runFrom 105 = .ok (.if_icmp .lt 9, 3) := by decide +kernel
theorem dX11_runFrom_108 : decode cX11_runFrom 108 = .ok (.aload_n 0, 1) := by decide +kernel
theorem dX11_runFrom_109 : decode cX11_runFrom 109 = .ok (.iload_n 1, 1) := by decide +kernel
theorem dX11_runFrom_110 : decode cX11_runFrom 110 = .ok (.iload_n 2, 1) := by decide +kernel
theorem dX11_runFrom_111 : decode cX11_runFrom 111 = .ok (.invokevirtual 254, 3) := by decide +kernel
theorem dX11_runFrom_114 : decode cX11_runFrom 114 = .ok (.iconst 0, 1) := by decide +kernel
theorem dX11_runFrom_115 : decode cX11_runFrom 115 = .ok (.istore_n 3, 1) := by decide +kernel
theorem dX11_runFrom_116 : decode cX11_runFrom 116 = .ok (.iload_n 3, 1) := by decide +kernel
theorem dX11_runFrom_117 : decode cX11_runFrom 117 = .ok (.aload_n 0, 1) := by decide +kernel
theorem dX11_runFrom_118 : decode cX11_runFrom 118 = .ok (.getfield 89, 3) := by decide +kernel
theorem dX11_runFrom_121 : decode cX11_runFrom 121 = .ok (.if_icmp .ge 94, 3) := by decide +kernel
theorem dX11_runFrom_124 : decode cX11_runFrom 124 = .ok (.aload_n 0, 1) := by decide +kernel
theorem dX11_runFrom_125 : decode cX11_runFrom 125 = .ok (.getfield 13, 3) := by decide +kernel
theorem dX11_runFrom_128 : decode cX11_runFrom 128 = .ok (.iload_n 3, 1) := by decide +kernel
theorem dX11_runFrom_129 : decode cX11_runFrom 129 = .ok (.iaload, 1) := by decide +kernel
theorem dX11_runFrom_130 : decode cX11_runFrom 130 = .ok (.iload_n 1, 1) := by decide +kernel
theorem dX11_runFrom_131 : decode cX11_runFrom 131 = .ok (.if_icmp .ne 12, 3) := by decide +kernel
theorem dX11_runFrom_134 : decode cX11_runFrom 134 = .ok (.aload_n 0, 1) := by decide +kernel
theorem dX11_runFrom_135 : decode cX11_runFrom 135 = .ok (.getfield 16, 3) := by decide +kernel
theorem dX11_runFrom_138 : decode cX11_runFrom 138 = .ok (.iload_n 3, 1) := by decide +kernel
theorem dX11_runFrom_139 : decode cX11_runFrom 139 = .ok (.iaload, 1) := by decide +kernel
theorem dX11_runFrom_140 : decode cX11_runFrom 140 = .ok (.goto 23, 3) := by decide +kernel
theorem dX11_runFrom_143 : decode cX11_runFrom 143 = .ok (.aload_n 0, 1) := by decide +kernel
theorem dX11_runFrom_144 : decode cX11_runFrom 144 = .ok (.getfield 16, 3) := by decide +kernel
theorem dX11_runFrom_147 : decode cX11_runFrom 147 = .ok (.iload_n 3, 1) := by decide +kernel
theorem dX11_runFrom_148 : decode cX11_runFrom 148 = .ok (.iaload, 1) := by decide +kernel
theorem dX11_runFrom_149 : decode cX11_runFrom 149 = .ok (.iload_n 1, 1) := by decide +kernel
theorem dX11_runFrom_150 : decode cX11_runFrom 150 = .ok (.if_icmp .ne 12, 3) := by decide +kernel
theorem dX11_runFrom_153 : decode cX11_runFrom 153 = .ok (.aload_n 0, 1) := by decide +kernel
theorem dX11_runFrom_154 : decode cX11_runFrom 154 = .ok (.getfield 13, 3) := by decide +kernel
theorem dX11_runFrom_157 : decode cX11_runFrom 157 = .ok (.iload_n 3, 1) := by decide +kernel
theorem dX11_runFrom_158 : decode cX11_runFrom 158 = .ok (.iaload, 1) := by decide +kernel
theorem dX11_runFrom_159 : decode cX11_runFrom 159 = .ok (.goto 4, 3) := by decide +kernel
theorem dX11_runFrom_162 : decode cX11_runFrom 162 = .ok (.iconst (-1), 1) := by decide +kernel
theorem dX11_runFrom_163 : decode cX11_runFrom 163 = .ok (.istore 4, 2) := by decide +kernel
theorem dX11_runFrom_165 : decode cX11_runFrom 165 = .ok (.iload 4, 2) := by decide +kernel
theorem dX11_runFrom_167 : decode cX11_runFrom 167 = .ok (.ifCond .lt 42, 3) := by decide +kernel
theorem dX11_runFrom_170 : decode cX11_runFrom 170 = .ok (.aload_n 0, 1) := by decide +kernel
theorem dX11_runFrom_171 : decode cX11_runFrom 171 = .ok (.getfield 22, 3) := by decide +kernel
theorem dX11_runFrom_174 : decode cX11_runFrom 174 = .ok (.bipush 30, 2) := by decide +kernel
theorem dX11_runFrom_176 : decode cX11_runFrom 176 = .ok (.iaload, 1) := by decide +kernel
theorem dX11_runFrom_177 : decode cX11_runFrom 177 = .ok (.iload_n 3, 1) := by decide +kernel
theorem dX11_runFrom_178 : decode cX11_runFrom 178 = .ok (.invokestatic 213, 3) := by decide +kernel
theorem dX11_runFrom_181 : decode cX11_runFrom 181 = .ok (.ifCond .ne 28, 3) := by decide +kernel
theorem dX11_runFrom_184 : decode cX11_runFrom 184 = .ok (.aload_n 0, 1) := by decide +kernel
theorem dX11_runFrom_185 : decode cX11_runFrom 185 = .ok (.getfield 44, 3) := by decide +kernel
theorem dX11_runFrom_188 : decode cX11_runFrom 188 = .ok (.iload_n 1, 1) := by decide +kernel
theorem dX11_runFrom_189 : decode cX11_runFrom 189 = .ok (.iaload, 1) := by decide +kernel
theorem dX11_runFrom_190 : decode cX11_runFrom 190 = .ok (.aload_n 0, 1) := by decide +kernel
theorem dX11_runFrom_191 : decode cX11_runFrom 191 = .ok (.getfield 44, 3) := by decide +kernel
theorem dX11_runFrom_194 : decode cX11_runFrom 194 = .ok (.iload 4, 2) := by decide +kernel
theorem dX11_runFrom_196 : decode cX11_runFrom 196 = .ok (.iaload, 1) := by decide +kernel
theorem dX11_runFrom_197 : decode cX11_runFrom 197 = .ok (.iconst 2, 1) := by decide +kernel
theorem dX11_runFrom_198 : decode cX11_runFrom 198 = .ok (.iadd, 1) := by decide +kernel
theorem dX11_runFrom_199 : decode cX11_runFrom 199 = .ok (.if_icmp .lt 10, 3) := by decide +kernel
theorem dX11_runFrom_202 : decode cX11_runFrom 202 = .ok (.aload_n 0, 1) := by decide +kernel
theorem dX11_runFrom_203 : decode cX11_runFrom 203 = .ok (.iload_n 1, 1) := by decide +kernel
theorem dX11_runFrom_204 : decode cX11_runFrom 204 = .ok (.iload 4, 2) := by decide +kernel
theorem dX11_runFrom_206 : decode cX11_runFrom 206 = .ok (.invokevirtual 254, 3) := by decide +kernel
theorem dX11_runFrom_209 : decode cX11_runFrom 209 = .ok (.iinc 3 1, 3) := by decide +kernel
theorem dX11_runFrom_212 : decode cX11_runFrom 212 = .ok (.goto (-96), 3) := by decide +kernel
theorem dX11_runFrom_215 : decode cX11_runFrom 215 = .ok (.return_, 1) := by decide +kernel
theorem dX11_bound_0 : decode cX11_bound 0 = .ok (.iload_n 0, 1) := by decide +kernel
theorem dX11_bound_1 : decode cX11_bound 1 = .ok (.bipush 9, 2) := by decide +kernel
theorem dX11_bound_3 : decode cX11_bound 3 = .ok (.if_icmp .le 8, 3) := by decide +kernel
theorem dX11_bound_6 : decode cX11_bound 6 = .ok (.bipush 9, 2) := by decide +kernel
theorem dX11_bound_8 : decode cX11_bound 8 = .ok (.goto 12, 3) := by decide +kernel
theorem dX11_bound_11 : decode cX11_bound 11 = .ok (.iload_n 0, 1) := by decide +kernel
theorem dX11_bound_12 : decode cX11_bound 12 = .ok (.ifCond .ge 7, 3) := by decide +kernel
theorem dX11_bound_15 : decode cX11_bound 15 = .ok (.iconst 0, 1) := by decide +kernel
theorem dX11_bound_16 : decode cX11_bound 16 = .ok (.goto 4, 3) := by decide +kernel
theorem dX11_bound_19 : decode cX11_bound 19 = .ok (.iload_n 0, 1) := by decide +kernel
theorem dX11_bound_20 : decode cX11_bound 20 = .ok (.ireturn, 1) := by decide +kernel
theorem dX11_pass_0 : decode cX11_pass 0 = .ok (.iconst 0, 1) := by decide +kernel
theorem dX11_pass_1 : decode cX11_pass 1 = .ok (.istore_n 2, 1) := by decide +kernel
theorem dX11_pass_2 : decode cX11_pass 2 = .ok (.iload_n 2, 1) := by decide +kernel
theorem dX11_pass_3 : decode cX11_pass 3 = .ok (.aload_n 0, 1) := by decide +kernel
theorem dX11_pass_4 : decode cX11_pass 4 = .ok (.getfield 86, 3) := by decide +kernel
theorem dX11_pass_7 : decode cX11_pass 7 = .ok (.if_icmp .ge 36, 3) := by decide +kernel
theorem dX11_pass_10 : decode cX11_pass 10 = .ok (.aload_n 0, 1) := by decide +kernel
theorem dX11_pass_11 : decode cX11_pass 11 = .ok (.getfield 22, 3) := by decide +kernel
theorem dX11_pass_14 : decode cX11_pass 14 = .ok (.bipush 25, 2) := by decide +kernel
theorem dX11_pass_16 : decode cX11_pass 16 = .ok (.iload_n 2, 1) := by decide +kernel
theorem dX11_pass_17 : decode cX11_pass 17 = .ok (.iadd, 1) := by decide +kernel
theorem dX11_pass_18 : decode cX11_pass 18 = .ok (.iaload, 1) := by decide +kernel
theorem dX11_pass_19 : decode cX11_pass 19 = .ok (.istore_n 3, 1) := by decide +kernel
theorem dX11_pass_20 : decode cX11_pass 20 = .ok (.aload_n 0, 1) := by decide +kernel
theorem dX11_pass_21 : decode cX11_pass 21 = .ok (.getfield 22, 3) := by decide +kernel
theorem dX11_pass_24 : decode cX11_pass 24 = .ok (.iload_n 3, 1) := by decide +kernel
theorem dX11_pass_25 : decode cX11_pass 25 = .ok (.aload_n 0, 1) := by decide +kernel
theorem dX11_pass_26 : decode cX11_pass 26 = .ok (.getfield 22, 3) := by decide +kernel
theorem dX11_pass_29 : decode cX11_pass 29 = .ok (.iload_n 3, 1) := by decide +kernel
theorem dX11_pass_30 : decode cX11_pass 30 = .ok (.iaload, 1) := by decide +kernel
theorem dX11_pass_31 : decode cX11_pass 31 = .ok (.iload_n 1, 1) := by decide +kernel
theorem dX11_pass_32 : decode cX11_pass 32 = .ok (.iadd, 1) := by decide +kernel
theorem dX11_pass_33 : decode cX11_pass 33 = .ok (.invokestatic 258, 3) := by decide +kernel
theorem dX11_pass_36 : decode cX11_pass 36 = .ok (.iastore, 1) := by decide +kernel
theorem dX11_pass_37 : decode cX11_pass 37 = .ok (.iinc 2 1, 3) := by decide +kernel
theorem dX11_pass_40 : decode cX11_pass 40 = .ok (.goto (-38), 3) := by decide +kernel
theorem dX11_pass_43 : decode cX11_pass 43 = .ok (.iconst 0, 1) := by decide +kernel
theorem dX11_pass_44 : decode cX11_pass 44 = .ok (.istore_n 2, 1) := by decide +kernel
theorem dX11_pass_45 : decode cX11_pass 45 = .ok (.iload_n 2, 1) := by decide +kernel
theorem dX11_pass_46 : decode cX11_pass 46 = .ok (.aload_n 0, 1) := by decide +kernel
theorem dX11_pass_47 : decode cX11_pass 47 = .ok (.invokevirtual 78, 3) := by decide +kernel
theorem dX11_pass_50 : decode cX11_pass 50 = .ok (.if_icmp .ge 40, 3) := by decide +kernel
theorem dX11_pass_53 : decode cX11_pass 53 = .ok (.aload_n 0, 1) := by decide +kernel
theorem dX11_pass_54 : decode cX11_pass 54 = .ok (.getfield 44, 3) := by decide +kernel
theorem dX11_pass_57 : decode cX11_pass 57 = .ok (.iload_n 2, 1) := by decide +kernel
theorem dX11_pass_58 : decode cX11_pass 58 = .ok (.aload_n 0, 1) := by decide +kernel
theorem dX11_pass_59 : decode cX11_pass 59 = .ok (.getfield 22, 3) := by decide +kernel
theorem dX11_pass_62 : decode cX11_pass 62 = .ok (.iload_n 2, 1) := by decide +kernel
theorem dX11_pass_63 : decode cX11_pass 63 = .ok (.iaload, 1) := by decide +kernel
theorem dX11_pass_64 : decode cX11_pass 64 = .ok (.iastore, 1) := by decide +kernel
theorem dX11_pass_65 : decode cX11_pass 65 = .ok (.aload_n 0, 1) := by decide +kernel
theorem dX11_pass_66 : decode cX11_pass 66 = .ok (.getfield 50, 3) := by decide +kernel
theorem dX11_pass_69 : decode cX11_pass 69 = .ok (.iload_n 2, 1) := by decide +kernel
theorem dX11_pass_70 : decode cX11_pass 70 = .ok (.aload_n 0, 1) := by decide +kernel
theorem dX11_pass_71 : decode cX11_pass 71 = .ok (.getfield 22, 3) := by decide +kernel
theorem dX11_pass_74 : decode cX11_pass 74 = .ok (.iload_n 2, 1) := by decide +kernel
theorem dX11_pass_75 : decode cX11_pass 75 = .ok (.iaload, 1) := by decide +kernel
theorem dX11_pass_76 : decode cX11_pass 76 = .ok (.iastore, 1) := by decide +kernel
theorem dX11_pass_77 : decode cX11_pass 77 = .ok (.aload_n 0, 1) := by decide +kernel
theorem dX11_pass_78 : decode cX11_pass 78 = .ok (.getfield 47, 3) := by decide +kernel
theorem dX11_pass_81 : decode cX11_pass 81 = .ok (.iload_n 2, 1) := by decide +kernel
theorem dX11_pass_82 : decode cX11_pass 82 = .ok (.iconst 0, 1) := by decide +kernel
theorem dX11_pass_83 : decode cX11_pass 83 = .ok (.iastore, 1) := by decide +kernel
theorem dX11_pass_84 : decode cX11_pass 84 = .ok (.iinc 2 1, 3) := by decide +kernel
theorem dX11_pass_87 : decode cX11_pass 87 = .ok (.goto (-42), 3) := by decide +kernel
theorem dX11_pass_90 : decode cX11_pass 90 = .ok (.iconst 0, 1) := by decide +kernel
theorem dX11_pass_91 : decode cX11_pass 91 = .ok (.istore_n 2, 1) := by decide +kernel
theorem dX11_pass_92 : decode cX11_pass 92 = .ok (.iload_n 2, 1) := by decide +kernel
theorem dX11_pass_93 : decode cX11_pass 93 = .ok (.aload_n 0, 1) := by decide +kernel
theorem dX11_pass_94 : decode cX11_pass 94 = .ok (.invokevirtual 78, 3) := by decide +kernel
theorem dX11_pass_97 : decode cX11_pass 97 = .ok (.if_icmp .ge 14, 3) := by decide +kernel
theorem dX11_pass_100 : decode cX11_pass 100 = .ok (.aload_n 0, 1) := by decide +kernel
theorem dX11_pass_101 : decode cX11_pass 101 = .ok (.iload_n 2, 1) := by decide +kernel
theorem dX11_pass_102 : decode cX11_pass 102 = .ok (.invokevirtual 261, 3) := by decide +kernel
theorem dX11_pass_105 : decode cX11_pass 105 = .ok (.iinc 2 1, 3) := by decide +kernel
theorem dX11_pass_108 : decode cX11_pass 108 = .ok (.goto (-16), 3) := by decide +kernel
theorem dX11_pass_111 : decode cX11_pass 111 = .ok (.iconst 0, 1) := by decide +kernel
theorem dX11_pass_112 : decode cX11_pass 112 = .ok (.istore_n 2, 1) := by decide +kernel
theorem dX11_pass_113 : decode cX11_pass 113 = .ok (.iload_n 2, 1) := by decide +kernel
theorem dX11_pass_114 : decode cX11_pass 114 = .ok (.aload_n 0, 1) := by decide +kernel
theorem dX11_pass_115 : decode cX11_pass 115 = .ok (.invokevirtual 78, 3) := by decide +kernel
theorem dX11_pass_118 : decode cX11_pass 118 = .ok (.if_icmp .ge 61, 3) := by decide +kernel
theorem dX11_pass_121 : decode cX11_pass 121 = .ok (.aload_n 0, 1) := by decide +kernel
theorem dX11_pass_122 : decode cX11_pass 122 = .ok (.getfield 22, 3) := by decide +kernel
theorem dX11_pass_125 : decode cX11_pass 125 = .ok (.iload_n 2, 1) := by decide +kernel
theorem dX11_pass_126 : decode cX11_pass 126 = .ok (.aload_n 0, 1) := by decide +kernel
theorem dX11_pass_127 : decode cX11_pass 127 = .ok (.getfield 50, 3) := by decide +kernel
theorem dX11_pass_130 : decode cX11_pass 130 = .ok (.iload_n 2, 1) := by decide +kernel
theorem dX11_pass_131 : decode cX11_pass 131 = .ok (.iaload, 1) := by decide +kernel
theorem dX11_pass_132 : decode cX11_pass 132 = .ok (.aload_n 0, 1) := by decide +kernel
theorem dX11_pass_133 : decode cX11_pass 133 = .ok (.getfield 47, 3) := by decide +kernel
theorem dX11_pass_136 : decode cX11_pass 136 = .ok (.iload_n 2, 1) := by decide +kernel
theorem dX11_pass_137 : decode cX11_pass 137 = .ok (.iaload, 1) := by decide +kernel
theorem dX11_pass_138 : decode cX11_pass 138 = .ok (.iadd, 1) := by decide +kernel
theorem dX11_pass_139 : decode cX11_pass 139 = .ok (.invokestatic 258, 3) := by decide +kernel
theorem dX11_pass_142 : decode cX11_pass 142 = .ok (.iastore, 1) := by decide +kernel
theorem dX11_pass_143 : decode cX11_pass 143 = .ok (.aload_n 0, 1) := by decide +kernel
theorem dX11_pass_144 : decode cX11_pass 144 = .ok (.getfield 22, 3) := by decide +kernel
theorem dX11_pass_147 : decode cX11_pass 147 = .ok (.iload_n 2, 1) := by decide +kernel
theorem dX11_pass_148 : decode cX11_pass 148 = .ok (.iload_n 1, 1) := by decide +kernel
theorem dX11_pass_149 : decode cX11_pass 149 = .ok (.ifCond .ne 17, 3) := by decide +kernel
theorem dX11_pass_152 : decode cX11_pass 152 = .ok (.aload_n 0, 1) := by decide +kernel
theorem dX11_pass_153 : decode cX11_pass 153 = .ok (.getfield 22, 3) := by decide +kernel
theorem dX11_pass_156 : decode cX11_pass 156 = .ok (.iload_n 2, 1) := by decide +kernel
theorem dX11_pass_157 : decode cX11_pass 157 = .ok (.iaload, 1) := by decide +kernel
theorem dX11_pass_158 : decode cX11_pass 158 = .ok (.iconst 1, 1) := by decide +kernel
theorem dX11_pass_159 : decode cX11_pass 159 = .ok (.isub, 1) := by decide +kernel
theorem dX11_pass_160 : decode cX11_pass 160 = .ok (.invokestatic 258, 3) := by decide +kernel
theorem dX11_pass_163 : decode cX11_pass 163 = .ok (.goto 9, 3) := by decide +kernel
theorem dX11_pass_166 : decode cX11_pass 166 = .ok (.aload_n 0, 1) := by decide +kernel
theorem dX11_pass_167 : decode cX11_pass 167 = .ok (.getfield 22, 3) := by decide +kernel
theorem dX11_pass_170 : decode cX11_pass 170 = .ok (.iload_n 2, 1) := by decide +kernel
theorem dX11_pass_171 : decode cX11_pass 171 = .ok (.iaload, 1) := by decide +kernel
theorem dX11_pass_172 : decode cX11_pass 172 = .ok (.iastore, 1) := by decide +kernel
theorem dX11_pass_173 : decode cX11_pass 173 = .ok (.iinc 2 1, 3) := by decide +kernel
theorem dX11_pass_176 : decode cX11_pass 176 = .ok (.goto (-63), 3) := by decide +kernel
theorem dX11_pass_179 : decode cX11_pass 179 = .ok (.aload_n 0, 1) := by decide +kernel
theorem dX11_pass_180 : decode cX11_pass 180 = .ok (.getfield 22, 3) := by decide +kernel
theorem dX11_pass_183 : decode cX11_pass 183 = .ok (.bipush 31, 2) := by decide +kernel
theorem dX11_pass_185 : decode cX11_pass 185 = .ok (.dup2, 1) := by decide +kernel
theorem dX11_pass_186 : decode cX11_pass 186 = .ok (.iaload, 1) := by decide +kernel
theorem dX11_pass_187 : decode cX11_pass 187 = .ok (.iconst 1, 1) := by decide +kernel
theorem dX11_pass_188 : decode cX11_pass 188 = .ok (.iadd, 1) := by decide +kernel
theorem dX11_pass_189 : decode cX11_pass 189 = .ok (.iastore, 1) := by decide +kernel
theorem dX11_pass_190 : decode cX11_pass 190 = .ok (.return_, 1) := by decide +kernel
theorem dX11_lookNow_0 : decode cX11_lookNow 0 = .ok (.aload_n 0, 1) := by decide +kernel
theorem dX11_lookNow_1 : decode cX11_lookNow 1 = .ok (.invokevirtual 204, 3) := by decide +kernel
theorem dX11_lookNow_4 : decode cX11_lookNow 4 = .ok (.istore_n 1, 1) := by decide +kernel
theorem dX11_lookNow_5 : decode cX11_lookNow 5 = .ok (.iconst 0, 1) := by decide +kernel
theorem dX11_lookNow_6 : decode cX11_lookNow 6 = .ok (.istore_n 2, 1) := by decide +kernel
theorem dX11_lookNow_7 : decode cX11_lookNow 7 = .ok (.iload_n 2, 1) := by decide +kernel
theorem dX11_lookNow_8 : decode cX11_lookNow 8 = .ok (.aload_n 0, 1) := by decide +kernel
theorem dX11_lookNow_9 : decode cX11_lookNow 9 = .ok (.invokevirtual 78, 3) := by decide +kernel
theorem dX11_lookNow_12 : decode cX11_lookNow 12 = .ok (.if_icmp .ge 67, 3) := by decide +kernel
theorem dX11_lookNow_15 : decode cX11_lookNow 15 = .ok (.iload_n 1, 1) := by decide +kernel
theorem dX11_lookNow_16 : decode cX11_lookNow 16 = .ok (.iload_n 2, 1) := by decide +kernel
theorem dX11_lookNow_17 : decode cX11_lookNow 17 = .ok (.invokestatic 213, 3) := by decide +kernel
theorem dX11_lookNow_20 : decode cX11_lookNow 20 = .ok (.ifCond .eq 21, 3) := by decide +kernel
theorem dX11_lookNow_23 : decode cX11_lookNow 23 = .ok (.aload_n 0, 1) := by decide +kernel
theorem dX11_lookNow_24 : decode cX11_lookNow 24 = .ok (.iload_n 2, 1) := by decide +kernel
theorem dX11_lookNow_25 : decode cX11_lookNow 25 = .ok (.invokevirtual 216, 3) := by decide +kernel
theorem dX11_lookNow_28 : decode cX11_lookNow 28 = .ok (.iload_n 1, 1) := by decide +kernel
theorem dX11_lookNow_29 : decode cX11_lookNow 29 = .ok (.iand, 1) := by decide +kernel
theorem dX11_lookNow_30 : decode cX11_lookNow 30 = .ok (.invokestatic 207, 3) := by decide +kernel
theorem dX11_lookNow_33 : decode cX11_lookNow 33 = .ok (.iconst 2, 1) := by decide +kernel
theorem dX11_lookNow_34 : decode cX11_lookNow 34 = .ok (.if_icmp .ge 7, 3) := by decide +kernel
theorem dX11_lookNow_37 : decode cX11_lookNow 37 = .ok (.iconst 1, 1) := by decide +kernel
theorem dX11_lookNow_38 : decode cX11_lookNow 38 = .ok (.goto 4, 3) := by decide +kernel
theorem dX11_lookNow_41 : decode cX11_lookNow 41 = .ok (.iconst 0, 1) := by decide +kernel
theorem dX11_lookNow_42 : decode cX11_lookNow 42 = .ok (.istore_n 3, 1) := by decide +kernel
theorem dX11_lookNow_43 : decode cX11_lookNow 43 = .ok (.aload_n 0, 1) := by decide +kernel
theorem dX11_lookNow_44 : decode cX11_lookNow 44 = .ok (.getfield 22, 3) := by decide +kernel
theorem dX11_lookNow_47 : decode cX11_lookNow 47 = .ok (.iload_n 2, 1) := by decide +kernel
theorem dX11_lookNow_48 : decode cX11_lookNow 48 = .ok (.iload_n 3, 1) := by decide +kernel
theorem dX11_lookNow_49 : decode cX11_lookNow 49 = .ok (.ifCond .eq 17, 3) := by decide +kernel
theorem dX11_lookNow_52 : decode cX11_lookNow 52 = .ok (.aload_n 0, 1) := by decide +kernel
theorem dX11_lookNow_53 : decode cX11_lookNow 53 = .ok (.getfield 22, 3) := by decide +kernel
theorem dX11_lookNow_56 : decode cX11_lookNow 56 = .ok (.iload_n 2, 1) := by decide +kernel
theorem dX11_lookNow_57 : decode cX11_lookNow 57 = .ok (.iaload, 1) := by decide +kernel
theorem dX11_lookNow_58 : decode cX11_lookNow 58 = .ok (.iconst 2, 1) := by decide +kernel
theorem dX11_lookNow_59 : decode cX11_lookNow 59 = .ok (.isub, 1) := by decide +kernel
theorem dX11_lookNow_60 : decode cX11_lookNow 60 = .ok (.invokestatic 258, 3) := by decide +kernel
theorem dX11_lookNow_63 : decode cX11_lookNow 63 = .ok (.goto 9, 3) := by decide +kernel
theorem dX11_lookNow_66 : decode cX11_lookNow 66 = .ok (.aload_n 0, 1) := by decide +kernel
theorem dX11_lookNow_67 : decode cX11_lookNow 67 = .ok (.getfield 22, 3) := by decide +kernel
theorem dX11_lookNow_70 : decode cX11_lookNow 70 = .ok (.iload_n 2, 1) := by decide +kernel
theorem dX11_lookNow_71 : decode cX11_lookNow 71 = .ok (.iaload, 1) := by decide +kernel
theorem dX11_lookNow_72 : decode cX11_lookNow 72 = .ok (.iastore, 1) := by decide +kernel
theorem dX11_lookNow_73 : decode cX11_lookNow 73 = .ok (.iinc 2 1, 3) := by decide +kernel
theorem dX11_lookNow_76 : decode cX11_lookNow 76 = .ok (.goto (-69), 3) := by decide +kernel
theorem dX11_lookNow_79 : decode cX11_lookNow 79 = .ok (.aload_n 0, 1) := by decide +kernel
theorem dX11_lookNow_80 : decode cX11_lookNow 80 = .ok (.getfield 22, 3) := by decide +kernel
theorem dX11_lookNow_83 : decode cX11_lookNow 83 = .ok (.bipush 32, 2) := by decide +kernel
theorem dX11_lookNow_85 : decode cX11_lookNow 85 = .ok (.dup2, 1) := by decide +kernel
theorem dX11_lookNow_86 : decode cX11_lookNow 86 = .ok (.iaload, 1) := by decide +kernel
theorem dX11_lookNow_87 : decode cX11_lookNow 87 = .ok (.iconst 1, 1) := by decide +kernel
theorem dX11_lookNow_88 : decode cX11_lookNow 88 = .ok (.iadd, 1) := by decide +kernel
theorem dX11_lookNow_89 : decode cX11_lookNow 89 = .ok (.iastore, 1) := by decide +kernel
theorem dX11_lookNow_90 : decode cX11_lookNow 90 = .ok (.return_, 1) := by decide +kernel
theorem dX11_remember_0 : decode cX11_remember 0 = .ok (.aload_n 0, 1) := by decide +kernel
theorem dX11_remember_1 : decode cX11_remember 1 = .ok (.getfield 201, 3) := by decide +kernel
theorem dX11_remember_4 : decode cX11_remember 4 = .ok (.bipush 16, 2) := by decide +kernel
theorem dX11_remember_6 : decode cX11_remember 6 = .ok (.if_icmp .ne 44, 3) := by decide +kernel
theorem dX11_remember_9 : decode cX11_remember 9 = .ok (.bipush 34, 2) := by decide +kernel
theorem dX11_remember_11 : decode cX11_remember 11 = .ok (.istore_n 1, 1) := by decide +kernel
theorem dX11_remember_12 : decode cX11_remember 12 = .ok (.iload_n 1, 1) := by decide +kernel
theorem dX11_remember_13 : decode cX11_remember 13 = .ok (.sipush 544, 3) := by decide +kernel
theorem dX11_remember_16 : decode cX11_remember 16 = .ok (.if_icmp .ge 24, 3) := by decide +kernel
theorem dX11_remember_19 : decode cX11_remember 19 = .ok (.aload_n 0, 1) := by decide +kernel
theorem dX11_remember_20 : decode cX11_remember 20 = .ok (.getfield 53, 3) := by decide +kernel
theorem dX11_remember_23 : decode cX11_remember 23 = .ok (.iload_n 1, 1) := by decide +kernel
theorem dX11_remember_24 : decode cX11_remember 24 = .ok (.bipush 34, 2) := by decide +kernel
theorem dX11_remember_26 : decode cX11_remember 26 = .ok (.isub, 1) := by decide +kernel
theorem dX11_remember_27 : decode cX11_remember 27 = .ok (.aload_n 0, 1) := by decide +kernel
theorem dX11_remember_28 : decode cX11_remember 28 = .ok (.getfield 53, 3) := by decide +kernel
theorem dX11_remember_31 : decode cX11_remember 31 = .ok (.iload_n 1, 1) := by decide +kernel
theorem dX11_remember_32 : decode cX11_remember 32 = .ok (.iaload, 1) := by decide +kernel
theorem dX11_remember_33 : decode cX11_remember 33 = .ok (.iastore, 1) := by decide +kernel
theorem dX11_remember_34 : decode cX11_remember 34 = .ok (.iinc 1 1, 3) := by decide +kernel
theorem dX11_remember_37 : decode cX11_remember 37 = .ok (.goto (-25), 3) := by decide +kernel
theorem dX11_remember_40 : decode cX11_remember 40 = .ok (.aload_n 0, 1) := by decide +kernel
theorem dX11_remember_41 : decode cX11_remember 41 = .ok (.dup, 1) := by decide +kernel
theorem dX11_remember_42 : decode cX11_remember 42 = .ok (.getfield 201, 3) := by decide +kernel
theorem dX11_remember_45 : decode cX11_remember 45 = .ok (.iconst 1, 1) := by decide +kernel
theorem dX11_remember_46 : decode cX11_remember 46 = .ok (.isub, 1) := by decide +kernel
theorem dX11_remember_47 : decode cX11_remember 47 = .ok (.putfield 201, 3) := by decide +kernel
theorem dX11_remember_50 : decode cX11_remember 50 = .ok (.iconst 0, 1) := by decide +kernel
theorem dX11_remember_51 : decode cX11_remember 51 = .ok (.istore_n 1, 1) := by decide +kernel
theorem dX11_remember_52 : decode cX11_remember 52 = .ok (.iload_n 1, 1) := by decide +kernel
theorem dX11_remember_53 : decode cX11_remember 53 = .ok (.bipush 34, 2) := by decide +kernel
theorem dX11_remember_55 : decode cX11_remember 55 = .ok (.if_icmp .ge 29, 3) := by decide +kernel
theorem dX11_remember_58 : decode cX11_remember 58 = .ok (.aload_n 0, 1) := by decide +kernel
theorem dX11_remember_59 : decode cX11_remember 59 = .ok (.getfield 53, 3) := by decide +kernel
theorem dX11_remember_62 : decode cX11_remember 62 = .ok (.bipush 34, 2) := by decide +kernel
theorem dX11_remember_64 : decode cX11_remember 64 = .ok (.aload_n 0, 1) := by decide +kernel
theorem dX11_remember_65 : decode cX11_remember 65 = .ok (.getfield 201, 3) := by decide +kernel
theorem dX11_remember_68 : decode cX11_remember 68 = .ok (.imul, 1) := by decide +kernel
theorem dX11_remember_69 : decode cX11_remember 69 = .ok (.iload_n 1, 1) := by decide +kernel
theorem dX11_remember_70 : decode cX11_remember 70 = .ok (.iadd, 1) := by decide +kernel
theorem dX11_remember_71 : decode cX11_remember 71 = .ok (.aload_n 0, 1) := by decide +kernel
theorem dX11_remember_72 : decode cX11_remember 72 = .ok (.getfield 22, 3) := by decide +kernel
theorem dX11_remember_75 : decode cX11_remember 75 = .ok (.iload_n 1, 1) := by decide +kernel
theorem dX11_remember_76 : decode cX11_remember 76 = .ok (.iaload, 1) := by decide +kernel
theorem dX11_remember_77 : decode cX11_remember 77 = .ok (.iastore, 1) := by decide +kernel
theorem dX11_remember_78 : decode cX11_remember 78 = .ok (.iinc 1 1, 3) := by decide +kernel
theorem dX11_remember_81 : decode cX11_remember 81 = .ok (.goto (-29), 3) := by decide +kernel
theorem dX11_remember_84 : decode cX11_remember 84 = .ok (.aload_n 0, 1) := by decide +kernel
theorem dX11_remember_85 : decode cX11_remember 85 = .ok (.dup, 1) := by decide +kernel
theorem dX11_remember_86 : decode cX11_remember 86 = .ok (.getfield 201, 3) := by decide +kernel
theorem dX11_remember_89 : decode cX11_remember 89 = .ok (.iconst 1, 1) := by decide +kernel
theorem dX11_remember_90 : decode cX11_remember 90 = .ok (.iadd, 1) := by decide +kernel
theorem dX11_remember_91 : decode cX11_remember 91 = .ok (.putfield 201, 3) := by decide +kernel
theorem dX11_remember_94 : decode cX11_remember 94 = .ok (.return_, 1) := by decide +kernel
theorem dX11_day_0 : decode cX11_day 0 = .ok (.iload_n 1, 1) := by decide +kernel
theorem dX11_day_1 : decode cX11_day 1 = .ok (.i2l, 1) := by decide +kernel
theorem dX11_day_2 : decode cX11_day 2 = .ok (.lconst 1, 1) := by decide +kernel
theorem dX11_day_3 : decode cX11_day 3 = .ok (.ldc2_w 265, 3) := by decide +kernel
theorem dX11_day_6 : decode cX11_day 6 = .ok (.invokestatic 82, 3) := by decide +kernel
theorem dX11_day_9 : decode cX11_day 9 = .ok (.ifCond .eq 15, 3) := by decide +kernel
theorem dX11_day_12 : decode cX11_day 12 = .ok (.iload_n 2, 1) := by decide +kernel
theorem dX11_day_13 : decode cX11_day 13 = .ok (.i2l, 1) := by decide +kernel
theorem dX11_day_14 : decode cX11_day 14 = .ok (.lconst 0, 1) := by decide +kernel
theorem dX11_day_15 : decode cX11_day 15 = .ok (.ldc2_w 267, 3) := by decide +kernel
theorem dX11_day_18 : decode cX11_day 18 = .ok (.invokestatic 82, 3) := by decide +kernel
theorem dX11_day_21 : decode cX11_day 21 = .ok (.ifCond .ne 6, 3) := by decide +kernel
theorem dX11_day_24 : decode cX11_day 24 = .ok (.ldc 97, 2) := by decide +kernel
theorem dX11_day_26 : decode cX11_day 26 = .ok (.ireturn, 1) := by decide +kernel
theorem dX11_day_27 : decode cX11_day 27 = .ok (.aload_n 0, 1) := by decide +kernel
theorem dX11_day_28 : decode cX11_day 28 = .ok (.getfield 72, 3) := by decide +kernel
theorem dX11_day_31 : decode cX11_day 31 = .ok (.ifCond .ne 7, 3) := by decide +kernel
theorem dX11_day_34 : decode cX11_day 34 = .ok (.ldc_w 269, 3) := by decide +kernel
theorem dX11_day_37 : decode cX11_day 37 = .ok (.ireturn, 1) := by decide +kernel
theorem dX11_day_38 : decode cX11_day 38 = .ok (.aload_n 0, 1) := by decide +kernel
theorem dX11_day_39 : decode cX11_day 39 = .ok (.getfield 22, 3) := by decide +kernel
theorem dX11_day_42 : decode cX11_day 42 = .ok (.bipush 31, 2) := by decide +kernel
theorem dX11_day_44 : decode cX11_day 44 = .ok (.iaload, 1) := by decide +kernel
theorem dX11_day_45 : decode cX11_day 45 = .ok (.sipush 9000, 3) := by decide +kernel
theorem dX11_day_48 : decode cX11_day 48 = .ok (.if_icmp .le 6, 3) := by decide +kernel
theorem dX11_day_51 : decode cX11_day 51 = .ok (.ldc 101, 2) := by decide +kernel
theorem dX11_day_53 : decode cX11_day 53 = .ok (.ireturn, 1) := by decide +kernel
theorem dX11_day_54 : decode cX11_day 54 = .ok (.aload_n 0, 1) := by decide +kernel
theorem dX11_day_55 : decode cX11_day 55 = .ok (.invokevirtual 270, 3) := by decide +kernel
theorem dX11_day_58 : decode cX11_day 58 = .ok (.iconst 0, 1) := by decide +kernel
theorem dX11_day_59 : decode cX11_day 59 = .ok (.istore_n 3, 1) := by decide +kernel
theorem dX11_day_60 : decode cX11_day 60 = .ok (.iload_n 3, 1) := by decide +kernel
theorem dX11_day_61 : decode cX11_day 61 = .ok (.iload_n 1, 1) := by decide +kernel
theorem dX11_day_62 : decode cX11_day 62 = .ok (.if_icmp .ge 14, 3) := by decide +kernel
theorem dX11_day_65 : decode cX11_day 65 = .ok (.aload_n 0, 1) := by decide +kernel
theorem dX11_day_66 : decode cX11_day 66 = .ok (.iload_n 2, 1) := by decide +kernel
theorem dX11_day_67 : decode cX11_day 67 = .ok (.invokevirtual 273, 3) := by decide +kernel
theorem dX11_day_70 : decode cX11_day 70 = .ok (.iinc 3 1, 3) := by decide +kernel
theorem dX11_day_73 : decode cX11_day 73 = .ok (.goto (-13), 3) := by decide +kernel
theorem dX11_day_76 : decode cX11_day 76 = .ok (.aload_n 0, 1) := by decide +kernel
theorem dX11_day_77 : decode cX11_day 77 = .ok (.invokevirtual 204, 3) := by decide +kernel
theorem dX11_day_80 : decode cX11_day 80 = .ok (.invokestatic 207, 3) := by decide +kernel
theorem dX11_day_83 : decode cX11_day 83 = .ok (.ireturn, 1) := by decide +kernel
theorem dX11_look_0 : decode cX11_look 0 = .ok (.aload_n 0, 1) := by decide +kernel
theorem dX11_look_1 : decode cX11_look 1 = .ok (.getfield 72, 3) := by decide +kernel
theorem dX11_look_4 : decode cX11_look 4 = .ok (.ifCond .ne 7, 3) := by decide +kernel
theorem dX11_look_7 : decode cX11_look 7 = .ok (.ldc_w 269, 3) := by decide +kernel
theorem dX11_look_10 : decode cX11_look 10 = .ok (.ireturn, 1) := by decide +kernel
theorem dX11_look_11 : decode cX11_look 11 = .ok (.aload_n 0, 1) := by decide +kernel
theorem dX11_look_12 : decode cX11_look 12 = .ok (.invokevirtual 270, 3) := by decide +kernel
theorem dX11_look_15 : decode cX11_look 15 = .ok (.aload_n 0, 1) := by decide +kernel
theorem dX11_look_16 : decode cX11_look 16 = .ok (.invokevirtual 276, 3) := by decide +kernel
theorem dX11_look_19 : decode cX11_look 19 = .ok (.aload_n 0, 1) := by decide +kernel
theorem dX11_look_20 : decode cX11_look 20 = .ok (.invokevirtual 204, 3) := by decide +kernel
theorem dX11_look_23 : decode cX11_look 23 = .ok (.invokestatic 207, 3) := by decide +kernel
theorem dX11_look_26 : decode cX11_look 26 = .ok (.ireturn, 1) := by decide +kernel
theorem dX11_brush_0 : decode cX11_brush 0 = .ok (.aload_n 0, 1) := by decide +kernel
theorem dX11_brush_1 : decode cX11_brush 1 = .ok (.iload_n 1, 1) := by decide +kernel
theorem dX11_brush_2 : decode cX11_brush 2 = .ok (.invokevirtual 241, 3) := by decide +kernel
theorem dX11_brush_5 : decode cX11_brush 5 = .ok (.ifCond .ne 6, 3) := by decide +kernel
theorem dX11_brush_8 : decode cX11_brush 8 = .ok (.ldc 244, 2) := by decide +kernel
theorem dX11_brush_10 : decode cX11_brush 10 = .ok (.ireturn, 1) := by decide +kernel
theorem dX11_brush_11 : decode cX11_brush 11 = .ok (.aload_n 0, 1) := by decide +kernel
theorem dX11_brush_12 : decode cX11_brush 12 = .ok (.invokevirtual 270, 3) := by decide +kernel
theorem dX11_brush_15 : decode cX11_brush 15 = .ok (.aload_n 0, 1) := by decide +kernel
theorem dX11_brush_16 : decode cX11_brush 16 = .ok (.getfield 22, 3) := by decide +kernel
theorem dX11_brush_19 : decode cX11_brush 19 = .ok (.iload_n 1, 1) := by decide +kernel
theorem dX11_brush_20 : decode cX11_brush 20 = .ok (.iaload, 1) := by decide +kernel
theorem dX11_brush_21 : decode cX11_brush 21 = .ok (.istore_n 2, 1) := by decide +kernel
theorem dX11_brush_22 : decode cX11_brush 22 = .ok (.aload_n 0, 1) := by decide +kernel
theorem dX11_brush_23 : decode cX11_brush 23 = .ok (.getfield 22, 3) := by decide +kernel
theorem dX11_brush_26 : decode cX11_brush 26 = .ok (.iload_n 1, 1) := by decide +kernel
theorem dX11_brush_27 : decode cX11_brush 27 = .ok (.iconst 0, 1) := by decide +kernel
theorem dX11_brush_28 : decode cX11_brush 28 = .ok (.iastore, 1) := by decide +kernel
theorem dX11_brush_29 : decode cX11_brush 29 = .ok (.aload_n 0, 1) := by decide +kernel
theorem dX11_brush_30 : decode cX11_brush 30 = .ok (.getfield 22, 3) := by decide +kernel
theorem dX11_brush_33 : decode cX11_brush 33 = .ok (.bipush 33, 2) := by decide +kernel
theorem dX11_brush_35 : decode cX11_brush 35 = .ok (.dup2, 1) := by decide +kernel
theorem dX11_brush_36 : decode cX11_brush 36 = .ok (.iaload, 1) := by decide +kernel
theorem dX11_brush_37 : decode cX11_brush 37 = .ok (.iconst 1, 1) := by decide +kernel
theorem dX11_brush_38 : decode cX11_brush 38 = .ok (.iadd, 1) := by decide +kernel
theorem dX11_brush_39 : decode cX11_brush 39 = .ok (.iastore, 1) := by decide +kernel
theorem dX11_brush_40 : decode cX11_brush 40 = .ok (.iload_n 2, 1) := by decide +kernel
theorem dX11_brush_41 : decode cX11_brush 41 = .ok (.ireturn, 1) := by decide +kernel
theorem dX11_lead_0 : decode cX11_lead 0 = .ok (.aload_n 0, 1) := by decide +kernel
theorem dX11_lead_1 : decode cX11_lead 1 = .ok (.iload_n 1, 1) := by decide +kernel
theorem dX11_lead_2 : decode cX11_lead 2 = .ok (.invokevirtual 245, 3) := by decide +kernel
theorem dX11_lead_5 : decode cX11_lead 5 = .ok (.ifCond .eq 11, 3) := by decide +kernel
theorem dX11_lead_8 : decode cX11_lead 8 = .ok (.aload_n 0, 1) := by decide +kernel
theorem dX11_lead_9 : decode cX11_lead 9 = .ok (.iload_n 2, 1) := by decide +kernel
theorem dX11_lead_10 : decode cX11_lead 10 = .ok (.invokevirtual 241, 3) := by decide +kernel
theorem dX11_lead_13 : decode cX11_lead 13 = .ok (.ifCond .ne 6, 3) := by decide +kernel
theorem dX11_lead_16 : decode cX11_lead 16 = .ok (.ldc 244, 2) := by decide +kernel
theorem dX11_lead_18 : decode cX11_lead 18 = .ok (.ireturn, 1) := by decide +kernel
theorem dX11_lead_19 : decode cX11_lead 19 = .ok (.aload_n 0, 1) := by decide +kernel
theorem dX11_lead_20 : decode cX11_lead 20 = .ok (.invokevirtual 270, 3) := by decide +kernel
theorem dX11_lead_23 : decode cX11_lead 23 = .ok (.aload_n 0, 1) := by decide +kernel
theorem dX11_lead_24 : decode cX11_lead 24 = .ok (.getfield 22, 3) := by decide +kernel
theorem dX11_lead_27 : decode cX11_lead 27 = .ok (.bipush 25, 2) := by decide +kernel
theorem dX11_lead_29 : decode cX11_lead 29 = .ok (.iload_n 1, 1) := by decide +kernel
theorem dX11_lead_30 : decode cX11_lead 30 = .ok (.iadd, 1) := by decide +kernel
theorem dX11_lead_31 : decode cX11_lead 31 = .ok (.iaload, 1) := by decide +kernel
theorem dX11_lead_32 : decode cX11_lead 32 = .ok (.istore_n 3, 1) := by decide +kernel
theorem dX11_lead_33 : decode cX11_lead 33 = .ok (.aload_n 0, 1) := by decide +kernel
theorem dX11_lead_34 : decode cX11_lead 34 = .ok (.getfield 22, 3) := by decide +kernel
theorem dX11_lead_37 : decode cX11_lead 37 = .ok (.bipush 25, 2) := by decide +kernel
theorem dX11_lead_39 : decode cX11_lead 39 = .ok (.iload_n 1, 1) := by decide +kernel
theorem dX11_lead_40 : decode cX11_lead 40 = .ok (.iadd, 1) := by decide +kernel
theorem dX11_lead_41 : decode cX11_lead 41 = .ok (.iload_n 2, 1) := by decide +kernel
theorem dX11_lead_42 : decode cX11_lead 42 = .ok (.iastore, 1) := by decide +kernel
theorem dX11_lead_43 : decode cX11_lead 43 = .ok (.iload_n 3, 1) := by decide +kernel
theorem dX11_lead_44 : decode cX11_lead 44 = .ok (.ireturn, 1) := by decide +kernel
theorem dX11_wind_0 : decode cX11_wind 0 = .ok (.iload_n 1, 1) := by decide +kernel
theorem dX11_wind_1 : decode cX11_wind 1 = .ok (.i2l, 1) := by decide +kernel
theorem dX11_wind_2 : decode cX11_wind 2 = .ok (.lconst 0, 1) := by decide +kernel
theorem dX11_wind_3 : decode cX11_wind 3 = .ok (.ldc2_w 279, 3) := by decide +kernel
theorem dX11_wind_6 : decode cX11_wind 6 = .ok (.invokestatic 82, 3) := by decide +kernel
theorem dX11_wind_9 : decode cX11_wind 9 = .ok (.ifCond .ne 6, 3) := by decide +kernel
theorem dX11_wind_12 : decode cX11_wind 12 = .ok (.ldc 97, 2) := by decide +kernel
theorem dX11_wind_14 : decode cX11_wind 14 = .ok (.ireturn, 1) := by decide +kernel
theorem dX11_wind_15 : decode cX11_wind 15 = .ok (.aload_n 0, 1) := by decide +kernel
theorem dX11_wind_16 : decode cX11_wind 16 = .ok (.getfield 72, 3) := by decide +kernel
theorem dX11_wind_19 : decode cX11_wind 19 = .ok (.ifCond .ne 7, 3) := by decide +kernel
theorem dX11_wind_22 : decode cX11_wind 22 = .ok (.ldc_w 269, 3) := by decide +kernel
theorem dX11_wind_25 : decode cX11_wind 25 = .ok (.ireturn, 1) := by decide +kernel
theorem dX11_wind_26 : decode cX11_wind 26 = .ok (.aload_n 0, 1) := by decide +kernel
theorem dX11_wind_27 : decode cX11_wind 27 = .ok (.invokevirtual 270, 3) := by decide +kernel
theorem dX11_wind_30 : decode cX11_wind 30 = .ok (.aload_n 0, 1) := by decide +kernel
theorem dX11_wind_31 : decode cX11_wind 31 = .ok (.getfield 22, 3) := by decide +kernel
theorem dX11_wind_34 : decode cX11_wind 34 = .ok (.bipush 29, 2) := by decide +kernel
theorem dX11_wind_36 : decode cX11_wind 36 = .ok (.iaload, 1) := by decide +kernel
theorem dX11_wind_37 : decode cX11_wind 37 = .ok (.istore_n 2, 1) := by decide +kernel
theorem dX11_wind_38 : decode cX11_wind 38 = .ok (.aload_n 0, 1) := by decide +kernel
theorem dX11_wind_39 : decode cX11_wind 39 = .ok (.getfield 22, 3) := by decide +kernel
theorem dX11_wind_42 : decode cX11_wind 42 = .ok (.bipush 29, 2) := by decide +kernel
theorem dX11_wind_44 : decode cX11_wind 44 = .ok (.iload_n 1, 1) := by decide +kernel
theorem dX11_wind_45 : decode cX11_wind 45 = .ok (.iastore, 1) := by decide +kernel
theorem dX11_wind_46 : decode cX11_wind 46 = .ok (.iload_n 2, 1) := by decide +kernel
theorem dX11_wind_47 : decode cX11_wind 47 = .ok (.ireturn, 1) := by decide +kernel
theorem dX11_fill_0 : decode cX11_fill 0 = .ok (.aload_n 0, 1) := by decide +kernel
theorem dX11_fill_1 : decode cX11_fill 1 = .ok (.iload_n 1, 1) := by decide +kernel
theorem dX11_fill_2 : decode cX11_fill 2 = .ok (.invokevirtual 248, 3) := by decide +kernel
theorem dX11_fill_5 : decode cX11_fill 5 = .ok (.ifCond .ne 6, 3) := by decide +kernel
theorem dX11_fill_8 : decode cX11_fill 8 = .ok (.ldc 244, 2) := by decide +kernel
theorem dX11_fill_10 : decode cX11_fill 10 = .ok (.ireturn, 1) := by decide +kernel
theorem dX11_fill_11 : decode cX11_fill 11 = .ok (.aload_n 0, 1) := by decide +kernel
theorem dX11_fill_12 : decode cX11_fill 12 = .ok (.invokevirtual 270, 3) := by decide +kernel
theorem dX11_fill_15 : decode cX11_fill 15 = .ok (.aload_n 0, 1) := by decide +kernel
theorem dX11_fill_16 : decode cX11_fill 16 = .ok (.getfield 22, 3) := by decide +kernel
theorem dX11_fill_19 : decode cX11_fill 19 = .ok (.bipush 30, 2) := by decide +kernel
theorem dX11_fill_21 : decode cX11_fill 21 = .ok (.iaload, 1) := by decide +kernel
theorem dX11_fill_22 : decode cX11_fill 22 = .ok (.iload_n 1, 1) := by decide +kernel
theorem dX11_fill_23 : decode cX11_fill 23 = .ok (.ishr, 1) := by decide +kernel
theorem dX11_fill_24 : decode cX11_fill 24 = .ok (.iconst 1, 1) := by decide +kernel
theorem dX11_fill_25 : decode cX11_fill 25 = .ok (.iand, 1) := by decide +kernel
theorem dX11_fill_26 : decode cX11_fill 26 = .ok (.istore_n 3, 1) := by decide +kernel
theorem dX11_fill_27 : decode cX11_fill 27 = .ok (.aload_n 0, 1) := by decide +kernel
theorem dX11_fill_28 : decode cX11_fill 28 = .ok (.getfield 22, 3) := by decide +kernel
theorem dX11_fill_31 : decode cX11_fill 31 = .ok (.bipush 30, 2) := by decide +kernel
theorem dX11_fill_33 : decode cX11_fill 33 = .ok (.iload_n 2, 1) := by decide +kernel
theorem dX11_fill_34 : decode cX11_fill 34 = .ok (.ifCond .eq 17, 3) := by decide +kernel
theorem dX11_fill_37 : decode cX11_fill 37 = .ok (.aload_n 0, 1) := by decide +kernel
theorem dX11_fill_38 : decode cX11_fill 38 = .ok (.getfield 22, 3) := by decide +kernel
theorem dX11_fill_41 : decode cX11_fill 41 = .ok (.bipush 30, 2) := by decide +kernel
theorem dX11_fill_43 : decode cX11_fill 43 = .ok (.iaload, 1) := by decide +kernel
theorem dX11_fill_44 : decode cX11_fill 44 = .ok (.iconst 1, 1) := by decide +kernel
theorem dX11_fill_45 : decode cX11_fill 45 = .ok (.iload_n 1, 1) := by decide +kernel
theorem dX11_fill_46 : decode cX11_fill 46 = .ok (.ishl, 1) := by decide +kernel
theorem dX11_fill_47 : decode cX11_fill 47 = .ok (.ior, 1) := by decide +kernel
theorem dX11_fill_48 : decode cX11_fill 48 = .ok (.goto 16, 3) := by decide +kernel
theorem dX11_fill_51 : decode cX11_fill 51 = .ok (.aload_n 0, 1) := by decide +kernel
theorem dX11_fill_52 : decode cX11_fill 52 = .ok (.getfield 22, 3) := by decide +kernel
theorem dX11_fill_55 : decode cX11_fill 55 = .ok (.bipush 30, 2) := by decide +kernel
theorem dX11_fill_57 : decode cX11_fill 57 = .ok (.iaload, 1) := by decide +kernel
theorem dX11_fill_58 : decode cX11_fill 58 = .ok (.iconst 1, 1) := by decide +kernel
theorem dX11_fill_59 : decode cX11_fill 59 = .ok (.iload_n 1, 1) := by decide +kernel
theorem dX11_fill_60 : decode cX11_fill 60 = .ok (.ishl, 1) := by decide +kernel
theorem dX11_fill_61 : decode cX11_fill 61 = .ok (.iconst (-1), 1) := by decide +kernel
theorem dX11_fill_62 : decode cX11_fill 62 = .ok (.ixor, 1) := by decide +kernel
theorem dX11_fill_63 : decode cX11_fill 63 = .ok (.iand, 1) := by decide +kernel
theorem dX11_fill_64 : decode cX11_fill 64 = .ok (.iastore, 1) := by decide +kernel
theorem dX11_fill_65 : decode cX11_fill 65 = .ok (.iload_n 3, 1) := by decide +kernel
theorem dX11_fill_66 : decode cX11_fill 66 = .ok (.ireturn, 1) := by decide +kernel
theorem dX11_draw_0 : decode cX11_draw 0 = .ok (.aload_n 0, 1) := by decide +kernel
theorem dX11_draw_1 : decode cX11_draw 1 = .ok (.aload_n 0, 1) := by decide +kernel
theorem dX11_draw_2 : decode cX11_draw 2 = .ok (.getfield 281, 3) := by decide +kernel
theorem dX11_draw_5 : decode cX11_draw 5 = .ok (.i2l, 1) := by decide +kernel
theorem dX11_draw_6 : decode cX11_draw 6 = .ok (.ldc2_w 284, 3) := by decide +kernel
theorem dX11_draw_9 : decode cX11_draw 9 = .ok (.lmul, 1) := by decide +kernel
theorem dX11_draw_10 : decode cX11_draw 10 = .ok (.ldc2_w 286, 3) := by decide +kernel
theorem dX11_draw_13 : decode cX11_draw 13 = .ok (.ladd, 1) := by decide +kernel
theorem dX11_draw_14 : decode cX11_draw 14 = .ok (.ldc2_w 288, 3) := by decide +kernel
theorem dX11_draw_17 : decode cX11_draw 17 = .ok (.lrem, 1) := by decide +kernel
theorem dX11_draw_18 : decode cX11_draw 18 = .ok (.l2i, 1) := by decide +kernel
theorem dX11_draw_19 : decode cX11_draw 19 = .ok (.putfield 281, 3) := by decide +kernel
theorem dX11_draw_22 : decode cX11_draw 22 = .ok (.aload_n 0, 1) := by decide +kernel
theorem dX11_draw_23 : decode cX11_draw 23 = .ok (.getfield 281, 3) := by decide +kernel
theorem dX11_draw_26 : decode cX11_draw 26 = .ok (.ldc_w 290, 3) := by decide +kernel
theorem dX11_draw_29 : decode cX11_draw 29 = .ok (.idiv, 1) := by decide +kernel
theorem dX11_draw_30 : decode cX11_draw 30 = .ok (.iload_n 1, 1) := by decide +kernel
theorem dX11_draw_31 : decode cX11_draw 31 = .ok (.irem, 1) := by decide +kernel
theorem dX11_draw_32 : decode cX11_draw 32 = .ok (.ireturn, 1) := by decide +kernel
theorem dX11_dayByDraws_0 : decode cX11_dayByDraws 0 = .ok (.aload_n 0, 1) := by decide +kernel
theorem dX11_dayByDraws_1 : decode cX11_dayByDraws 1 = .ok (.aload_n 0, 1) := by decide +kernel
theorem dX11_dayByDraws_2 : decode cX11_dayByDraws 2 = .ok (.bipush 10, 2) := by decide +kernel
theorem dX11_dayByDraws_4 : decode cX11_dayByDraws 4 = .ok (.invokevirtual 291, 3) := by decide +kernel
theorem dX11_dayByDraws_7 : decode cX11_dayByDraws 7 = .ok (.invokevirtual 273, 3) := by decide +kernel
theorem dX11_dayByDraws_10 : decode cX11_dayByDraws 10 = .ok (.aload_n 0, 1) := by decide +kernel
theorem dX11_dayByDraws_11 : decode cX11_dayByDraws 11 = .ok (.bipush 6, 2) := by decide +kernel
theorem dX11_dayByDraws_13 : decode cX11_dayByDraws 13 = .ok (.invokevirtual 291, 3) := by decide +kernel
theorem dX11_dayByDraws_16 : decode cX11_dayByDraws 16 = .ok (.istore_n 1, 1) := by decide +kernel
theorem dX11_dayByDraws_17 : decode cX11_dayByDraws 17 = .ok (.iload_n 1, 1) := by decide +kernel
theorem dX11_dayByDraws_18 : decode cX11_dayByDraws 18 = .ok (.ifCond .ne 10, 3) := by decide +kernel
theorem dX11_dayByDraws_21 : decode cX11_dayByDraws 21 = .ok (.aload_n 0, 1) := by decide +kernel
theorem dX11_dayByDraws_22 : decode cX11_dayByDraws 22 = .ok (.invokevirtual 276, 3) := by decide +kernel
theorem dX11_dayByDraws_25 : decode cX11_dayByDraws 25 = .ok (.goto 61, 3) := by decide +kernel
theorem dX11_dayByDraws_28 : decode cX11_dayByDraws 28 = .ok (.iload_n 1, 1) := by decide +kernel
theorem dX11_dayByDraws_29 : decode cX11_dayByDraws 29 = .ok (.iconst 1, 1) := by decide +kernel
theorem dX11_dayByDraws_30 : decode cX11_dayByDraws 30 = .ok (.if_icmp .ne 18, 3) := by decide +kernel
theorem dX11_dayByDraws_33 : decode cX11_dayByDraws 33 = .ok (.aload_n 0, 1) := by decide +kernel
