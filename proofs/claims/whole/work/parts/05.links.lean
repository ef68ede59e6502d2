set_option maxRecDepth 20000 in
theorem fX8_9 : FL RX8 9 7 0 true := ⟨by decide, by decide, rfl, wt_mem 88 (by decide +kernel) rfl⟩
set_option maxRecDepth 20000 in
theorem fX8_19 : FL RX8 19 7 1 false := ⟨by decide, by decide, rfl, wt_mem 89 (by decide +kernel) rfl⟩
set_option maxRecDepth 20000 in
theorem pX8_19 : FP RX8 19 7 1 .int := ⟨fX8_19, rfl, by decide +kernel⟩
set_option maxRecDepth 20000 in
theorem fX10_126 : FL RX10 126 7 1 false := ⟨by decide, by decide, rfl, wt_mem 90 (by decide +kernel) rfl⟩
set_option maxRecDepth 20000 in
theorem pX10_126 : FP RX10 126 7 1 .int := ⟨fX10_126, rfl, by decide +kernel⟩
set_option maxRecDepth 20000 in
theorem fX8_30 : FL RX8 30 7 2 false := ⟨by decide, by decide, rfl, wt_mem 91 (by decide +kernel) rfl⟩
set_option maxRecDepth 20000 in
theorem pX8_30 : FP RX8 30 7 2 .int := ⟨fX8_30, rfl, by decide +kernel⟩
set_option maxRecDepth 20000 in
theorem fX10_88 : FL RX10 88 7 2 false := ⟨by decide, by decide, rfl, wt_mem 92 (by decide +kernel) rfl⟩
set_option maxRecDepth 20000 in
theorem pX10_88 : FP RX10 88 7 2 .int := ⟨fX10_88, rfl, by decide +kernel⟩
set_option maxRecDepth 20000 in
theorem fX8_15 : FL RX8 15 7 3 false := ⟨by decide, by decide, rfl, wt_mem 93 (by decide +kernel) rfl⟩
set_option maxRecDepth 20000 in
theorem pX8_15 : FP RX8 15 7 3 .int := ⟨fX8_15, rfl, by decide +kernel⟩
set_option maxRecDepth 20000 in
theorem fX10_108 : FL RX10 108 7 3 false := ⟨by decide, by decide, rfl, wt_mem 94 (by decide +kernel) rfl⟩
set_option maxRecDepth 20000 in
theorem pX10_108 : FP RX10 108 7 3 .int := ⟨fX10_108, rfl, by decide +kernel⟩
set_option maxRecDepth 20000 in
theorem fX8_27 : FL RX8 27 7 4 false := ⟨by decide, by decide, rfl, wt_mem 95 (by decide +kernel) rfl⟩
set_option maxRecDepth 20000 in
theorem pX8_27 : FP RX8 27 7 4 .int := ⟨fX8_27, rfl, by decide +kernel⟩
set_option maxRecDepth 20000 in
theorem fX8_107 : FL RX8 107 7 5 false := ⟨by decide, by decide, rfl, wt_mem 96 (by decide +kernel) rfl⟩
set_option maxRecDepth 20000 in
theorem pX8_107 : FP RX8 107 7 5 .int := ⟨fX8_107, rfl, by decide +kernel⟩
set_option maxRecDepth 20000 in
theorem fX8_33 : FL RX8 33 7 6 false := ⟨by decide, by decide, rfl, wt_mem 97 (by decide +kernel) rfl⟩
set_option maxRecDepth 20000 in
theorem pX8_33 : FP RX8 33 7 6 .boolean := ⟨fX8_33, rfl, by decide +kernel⟩
set_option maxRecDepth 20000 in
theorem fX1_9 : FL RX1 9 1 0 true := ⟨by decide, by decide, rfl, wt_mem 120 (by decide +kernel) rfl⟩
set_option maxRecDepth 20000 in
theorem fX3_37 : FL RX3 37 1 0 true := ⟨by decide, by decide, rfl, wt_mem 121 (by decide +kernel) rfl⟩
set_option maxRecDepth 20000 in
theorem fX0_27 : FL RX0 27 1 0 true := ⟨by decide, by decide, rfl, wt_mem 122 (by decide +kernel) rfl⟩
set_option maxRecDepth 20000 in
theorem fX10_177 : FL RX10 177 1 0 true := ⟨by decide, by decide, rfl, wt_mem 123 (by decide +kernel) rfl⟩
set_option maxRecDepth 20000 in
theorem fX1_15 : FL RX1 15 1 1 true := ⟨by decide, by decide, rfl, wt_mem 124 (by decide +kernel) rfl⟩
set_option maxRecDepth 20000 in
theorem fX3_28 : FL RX3 28 1 1 true := ⟨by decide, by decide, rfl, wt_mem 125 (by decide +kernel) rfl⟩
set_option maxRecDepth 20000 in
theorem fX9_63 : FL RX9 63 1 1 true := ⟨by decide, by decide, rfl, wt_mem 126 (by decide +kernel) rfl⟩
set_option maxRecDepth 20000 in
theorem fX10_189 : FL RX10 189 1 1 true := ⟨by decide, by decide, rfl, wt_mem 127 (by decide +kernel) rfl⟩
set_option maxRecDepth 20000 in
theorem fX1_29 : FL RX1 29 1 2 false := ⟨by decide, by decide, rfl, wt_mem 128 (by decide +kernel) rfl⟩
set_option maxRecDepth 20000 in
theorem pX1_29 : FP RX1 29 1 2 .int := ⟨fX1_29, rfl, by decide +kernel⟩
set_option maxRecDepth 20000 in
theorem fX3_78 : FL RX3 78 1 2 false := ⟨by decide, by decide, rfl, wt_mem 129 (by decide +kernel) rfl⟩
set_option maxRecDepth 20000 in
theorem pX3_78 : FP RX3 78 1 2 .int := ⟨fX3_78, rfl, by decide +kernel⟩
set_option maxRecDepth 20000 in
theorem fX10_132 : FL RX10 132 1 2 false := ⟨by decide, by decide, rfl, wt_mem 130 (by decide +kernel) rfl⟩
set_option maxRecDepth 20000 in
theorem pX10_132 : FP RX10 132 1 2 .int := ⟨fX10_132, rfl, by decide +kernel⟩
set_option maxRecDepth 20000 in
theorem fX1_30 : FL RX1 30 1 3 false := ⟨by decide, by decide, rfl, wt_mem 131 (by decide +kernel) rfl⟩
set_option maxRecDepth 20000 in
theorem pX1_30 : FP RX1 30 1 3 .int := ⟨fX1_30, rfl, by decide +kernel⟩
set_option maxRecDepth 20000 in
theorem fX10_138 : FL RX10 138 1 3 false := ⟨by decide, by decide, rfl, wt_mem 132 (by decide +kernel) rfl⟩
set_option maxRecDepth 20000 in
theorem pX10_138 : FP RX10 138 1 3 .int := ⟨fX10_138, rfl, by decide +kernel⟩
set_option maxRecDepth 20000 in
theorem fX1_33 : FL RX1 33 1 4 false := ⟨by decide, by decide, rfl, wt_mem 133 (by decide +kernel) rfl⟩
set_option maxRecDepth 20000 in
theorem pX1_33 : FP RX1 33 1 4 .int := ⟨fX1_33, rfl, by decide +kernel⟩
set_option maxRecDepth 20000 in
theorem fX3_67 : FL RX3 67 1 4 false := ⟨by decide, by decide, rfl, wt_mem 134 (by decide +kernel) rfl⟩
set_option maxRecDepth 20000 in
theorem pX3_67 : FP RX3 67 1 4 .int := ⟨fX3_67, rfl, by decide +kernel⟩
set_option maxRecDepth 20000 in
theorem fX10_129 : FL RX10 129 1 4 false := ⟨by decide, by decide, rfl, wt_mem 135 (by decide +kernel) rfl⟩
set_option maxRecDepth 20000 in
theorem pX10_129 : FP RX10 129 1 4 .int := ⟨fX10_129, rfl, by decide +kernel⟩
set_option maxRecDepth 20000 in
theorem fX1_36 : FL RX1 36 1 5 false := ⟨by decide, by decide, rfl, wt_mem 136 (by decide +kernel) rfl⟩
set_option maxRecDepth 20000 in
theorem pX1_36 : FP RX1 36 1 5 .int := ⟨fX1_36, rfl, by decide +kernel⟩
set_option maxRecDepth 20000 in
theorem fX10_141 : FL RX10 141 1 5 false := ⟨by decide, by decide, rfl, wt_mem 137 (by decide +kernel) rfl⟩
set_option maxRecDepth 20000 in
theorem pX10_141 : FP RX10 141 1 5 .int := ⟨fX10_141, rfl, by decide +kernel⟩
set_option maxRecDepth 20000 in
theorem fX1_39 : FL RX1 39 1 6 false := ⟨by decide, by decide, rfl, wt_mem 138 (by decide +kernel) rfl⟩
set_option maxRecDepth 20000 in
theorem pX1_39 : FP RX1 39 1 6 .int := ⟨fX1_39, rfl, by decide +kernel⟩
set_option maxRecDepth 20000 in
theorem fX10_144 : FL RX10 144 1 6 false := ⟨by decide, by decide, rfl, wt_mem 139 (by decide +kernel) rfl⟩
set_option maxRecDepth 20000 in
theorem pX10_144 : FP RX10 144 1 6 .int := ⟨fX10_144, rfl, by decide +kernel⟩
set_option maxRecDepth 20000 in
theorem fX3_9 : FL RX3 9 3 0 true := ⟨by decide, by decide, rfl, wt_mem 161 (by decide +kernel) rfl⟩
set_option maxRecDepth 20000 in
theorem fX3_15 : FL RX3 15 3 1 true := ⟨by decide, by decide, rfl, wt_mem 162 (by decide +kernel) rfl⟩
set_option maxRecDepth 20000 in
theorem fX9_12 : FL RX9 12 8 0 true := ⟨by decide, by decide, rfl, wt_mem 179 (by decide +kernel) rfl⟩
set_option maxRecDepth 20000 in
theorem fX9_21 : FL RX9 21 8 1 true := ⟨by decide, by decide, rfl, wt_mem 180 (by decide +kernel) rfl⟩
set_option maxRecDepth 20000 in
theorem fX9_25 : FL RX9 25 8 2 true := ⟨by decide, by decide, rfl, wt_mem 181 (by decide +kernel) rfl⟩
set_option maxRecDepth 20000 in
theorem fX9_91 : FL RX9 91 8 3 false := ⟨by decide, by decide, rfl, wt_mem 182 (by decide +kernel) rfl⟩
set_option maxRecDepth 20000 in
theorem pX9_91 : FP RX9 91 8 3 .int := ⟨fX9_91, rfl, by decide +kernel⟩
set_option maxRecDepth 20000 in
theorem fX9_94 : FL RX9 94 8 4 false := ⟨by decide, by decide, rfl, wt_mem 183 (by decide +kernel) rfl⟩
set_option maxRecDepth 20000 in
theorem pX9_94 : FP RX9 94 8 4 .int := ⟨fX9_94, rfl, by decide +kernel⟩
set_option maxRecDepth 20000 in
theorem fX9_97 : FL RX9 97 8 5 false := ⟨by decide, by decide, rfl, wt_mem 184 (by decide +kernel) rfl⟩
set_option maxRecDepth 20000 in
theorem pX9_97 : FP RX9 97 8 5 .int := ⟨fX9_97, rfl, by decide +kernel⟩
set_option maxRecDepth 20000 in
theorem fX9_51 : FL RX9 51 8 6 false := ⟨by decide, by decide, rfl, wt_mem 185 (by decide +kernel) rfl⟩
set_option maxRecDepth 20000 in
theorem pX9_51 : FP RX9 51 8 6 .int := ⟨fX9_51, rfl, by decide +kernel⟩
set_option maxRecDepth 20000 in
theorem fX10_261 : FL RX10 261 8 6 false := ⟨by decide, by decide, rfl, wt_mem 186 (by decide +kernel) rfl⟩
set_option maxRecDepth 20000 in
theorem pX10_261 : FP RX10 261 8 6 .int := ⟨fX10_261, rfl, by decide +kernel⟩
set_option maxRecDepth 20000 in
theorem fX9_55 : FL RX9 55 8 7 false := ⟨by decide, by decide, rfl, wt_mem 187 (by decide +kernel) rfl⟩
set_option maxRecDepth 20000 in
theorem pX9_55 : FP RX9 55 8 7 .int := ⟨fX9_55, rfl, by decide +kernel⟩
set_option maxRecDepth 20000 in
theorem fX10_264 : FL RX10 264 8 7 false := ⟨by decide, by decide, rfl, wt_mem 188 (by decide +kernel) rfl⟩
set_option maxRecDepth 20000 in
theorem pX10_264 : FP RX10 264 8 7 .int := ⟨fX10_264, rfl, by decide +kernel⟩
set_option maxRecDepth 20000 in
theorem fX6_11 : FL RX6 11 5 0 true := ⟨by decide, by decide, rfl, wt_mem 214 (by decide +kernel) rfl⟩
set_option maxRecDepth 20000 in
theorem fX6_22 : FL RX6 22 5 1 false := ⟨by decide, by decide, rfl, wt_mem 215 (by decide +kernel) rfl⟩
set_option maxRecDepth 20000 in
theorem pX6_22 : FP RX6 22 5 1 .int := ⟨fX6_22, rfl, by decide +kernel⟩
set_option maxRecDepth 20000 in
theorem fX6_18 : FL RX6 18 5 2 false := ⟨by decide, by decide, rfl, wt_mem 216 (by decide +kernel) rfl⟩
set_option maxRecDepth 20000 in
theorem pX6_18 : FP RX6 18 5 2 .int := ⟨fX6_18, rfl, by decide +kernel⟩
set_option maxRecDepth 20000 in
theorem fX10_172 : FL RX10 172 5 2 false := ⟨by decide, by decide, rfl, wt_mem 217 (by decide +kernel) rfl⟩
set_option maxRecDepth 20000 in
theorem pX10_172 : FP RX10 172 5 2 .int := ⟨fX10_172, rfl, by decide +kernel⟩
set_option maxRecDepth 20000 in
theorem fX0_9 : FL RX0 9 0 0 true := ⟨by decide, by decide, rfl, wt_mem 231 (by decide +kernel) rfl⟩
set_option maxRecDepth 20000 in
theorem fX0_15 : FL RX0 15 0 1 true := ⟨by decide, by decide, rfl, wt_mem 232 (by decide +kernel) rfl⟩
set_option maxRecDepth 20000 in
theorem fX0_18 : FL RX0 18 0 2 false := ⟨by decide, by decide, rfl, wt_mem 233 (by decide +kernel) rfl⟩
set_option maxRecDepth 20000 in
theorem pX0_18 : FP RX0 18 0 2 .int := ⟨fX0_18, rfl, by decide +kernel⟩
set_option maxRecDepth 20000 in
theorem fX10_171 : FL RX10 171 0 2 false := ⟨by decide, by decide, rfl, wt_mem 234 (by decide +kernel) rfl⟩
set_option maxRecDepth 20000 in
theorem pX10_171 : FP RX10 171 0 2 .int := ⟨fX10_171, rfl, by decide +kernel⟩
set_option maxRecDepth 20000 in
theorem fX2_7 : FL RX2 7 2 0 false := ⟨by decide, by decide, rfl, wt_mem 248 (by decide +kernel) rfl⟩
set_option maxRecDepth 20000 in
theorem pX2_7 : FP RX2 7 2 0 .int := ⟨fX2_7, rfl, by decide +kernel⟩
set_option maxRecDepth 20000 in
theorem fX10_297 : FL RX10 297 2 0 false := ⟨by decide, by decide, rfl, wt_mem 249 (by decide +kernel) rfl⟩
set_option maxRecDepth 20000 in
theorem pX10_297 : FP RX10 297 2 0 .int := ⟨fX10_297, rfl, by decide +kernel⟩
set_option maxRecDepth 20000 in
theorem fX7_9 : FL RX7 9 6 0 true := ⟨by decide, by decide, rfl, wt_mem 261 (by decide +kernel) rfl⟩
set_option maxRecDepth 20000 in
theorem fX1_18 : FL RX1 18 6 0 true := ⟨by decide, by decide, rfl, wt_mem 262 (by decide +kernel) rfl⟩
set_option maxRecDepth 20000 in
theorem fX7_15 : FL RX7 15 6 1 true := ⟨by decide, by decide, rfl, wt_mem 263 (by decide +kernel) rfl⟩
set_option maxRecDepth 20000 in
theorem fX3_91 : FL RX3 91 6 1 true := ⟨by decide, by decide, rfl, wt_mem 264 (by decide +kernel) rfl⟩
set_option maxRecDepth 20000 in
theorem fX10_195 : FL RX10 195 6 1 true := ⟨by decide, by decide, rfl, wt_mem 265 (by decide +kernel) rfl⟩
set_option maxRecDepth 20000 in
theorem fX7_18 : FL RX7 18 6 2 true := ⟨by decide, by decide, rfl, wt_mem 266 (by decide +kernel) rfl⟩
set_option maxRecDepth 20000 in
theorem fX3_94 : FL RX3 94 6 2 true := ⟨by decide, by decide, rfl, wt_mem 267 (by decide +kernel) rfl⟩
set_option maxRecDepth 20000 in
theorem fX10_198 : FL RX10 198 6 2 true := ⟨by decide, by decide, rfl, wt_mem 268 (by decide +kernel) rfl⟩
set_option maxRecDepth 20000 in
theorem fX7_21 : FL RX7 21 6 3 true := ⟨by decide, by decide, rfl, wt_mem 269 (by decide +kernel) rfl⟩
set_option maxRecDepth 20000 in
theorem fX10_207 : FL RX10 207 6 3 true := ⟨by decide, by decide, rfl, wt_mem 270 (by decide +kernel) rfl⟩
set_option maxRecDepth 20000 in
theorem fX5_46 : FL RX5 46 6 3 true := ⟨by decide, by decide, rfl, wt_mem 271 (by decide +kernel) rfl⟩
set_option maxRecDepth 20000 in
theorem fX7_41 : FL RX7 41 6 4 false := ⟨by decide, by decide, rfl, wt_mem 272 (by decide +kernel) rfl⟩
set_option maxRecDepth 20000 in
theorem pX7_41 : FP RX7 41 6 4 .int := ⟨fX7_41, rfl, by decide +kernel⟩
set_option maxRecDepth 20000 in
theorem fX8_50 : FL RX8 50 6 4 false := ⟨by decide, by decide, rfl, wt_mem 273 (by decide +kernel) rfl⟩
set_option maxRecDepth 20000 in
theorem pX8_50 : FP RX8 50 6 4 .int := ⟨fX8_50, rfl, by decide +kernel⟩
set_option maxRecDepth 20000 in
theorem fX10_111 : FL RX10 111 6 4 false := ⟨by decide, by decide, rfl, wt_mem 274 (by decide +kernel) rfl⟩
set_option maxRecDepth 20000 in
theorem pX10_111 : FP RX10 111 6 4 .int := ⟨fX10_111, rfl, by decide +kernel⟩
set_option maxRecDepth 20000 in
theorem fX5_40 : FL RX5 40 6 4 false := ⟨by decide, by decide, rfl, wt_mem 275 (by decide +kernel) rfl⟩
set_option maxRecDepth 20000 in
theorem pX5_40 : FP RX5 40 6 4 .int := ⟨fX5_40, rfl, by decide +kernel⟩
set_option maxRecDepth 20000 in
theorem fX5_9 : FL RX5 9 6 5 false := ⟨by decide, by decide, rfl, wt_mem 276 (by decide +kernel) rfl⟩
set_option maxRecDepth 20000 in
theorem pX5_9 : FP RX5 9 6 5 .int := ⟨fX5_9, rfl, by decide +kernel⟩
set_option maxRecDepth 20000 in
theorem fX7_44 : FL RX7 44 6 5 false := ⟨by decide, by decide, rfl, wt_mem 277 (by decide +kernel) rfl⟩
set_option maxRecDepth 20000 in
theorem pX7_44 : FP RX7 44 6 5 .int := ⟨fX7_44, rfl, by decide +kernel⟩
set_option maxRecDepth 20000 in
theorem fX10_114 : FL RX10 114 6 5 false := ⟨by decide, by decide, rfl, wt_mem 278 (by decide +kernel) rfl⟩
set_option maxRecDepth 20000 in
theorem pX10_114 : FP RX10 114 6 5 .int := ⟨fX10_114, rfl, by decide +kernel⟩
set_option maxRecDepth 20000 in
theorem fX8_116 : FL RX8 116 6 5 false := ⟨by decide, by decide, rfl, wt_mem 279 (by decide +kernel) rfl⟩
set_option maxRecDepth 20000 in
theorem pX8_116 : FP RX8 116 6 5 .int := ⟨fX8_116, rfl, by decide +kernel⟩
set_option maxRecDepth 20000 in
theorem fX5_15 : FL RX5 15 6 11 false := ⟨by decide, by decide, rfl, wt_mem 280 (by decide +kernel) rfl⟩
set_option maxRecDepth 20000 in
theorem pX5_15 : FP RX5 15 6 11 .int := ⟨fX5_15, rfl, by decide +kernel⟩
set_option maxRecDepth 20000 in
theorem fX7_47 : FL RX7 47 6 11 false := ⟨by decide, by decide, rfl, wt_mem 281 (by decide +kernel) rfl⟩
set_option maxRecDepth 20000 in
theorem pX7_47 : FP RX7 47 6 11 .int := ⟨fX7_47, rfl, by decide +kernel⟩
set_option maxRecDepth 20000 in
theorem fX10_271 : FL RX10 271 6 11 false := ⟨by decide, by decide, rfl, wt_mem 282 (by decide +kernel) rfl⟩
set_option maxRecDepth 20000 in
theorem pX10_271 : FP RX10 271 6 11 .int := ⟨fX10_271, rfl, by decide +kernel⟩
set_option maxRecDepth 20000 in
theorem fX5_18 : FL RX5 18 6 6 false := ⟨by decide, by decide, rfl, wt_mem 283 (by decide +kernel) rfl⟩
set_option maxRecDepth 20000 in
theorem pX5_18 : FP RX5 18 6 6 .int := ⟨fX5_18, rfl, by decide +kernel⟩
set_option maxRecDepth 20000 in
theorem fX7_50 : FL RX7 50 6 6 false := ⟨by decide, by decide, rfl, wt_mem 284 (by decide +kernel) rfl⟩
set_option maxRecDepth 20000 in
theorem pX7_50 : FP RX7 50 6 6 .int := ⟨fX7_50, rfl, by decide +kernel⟩
set_option maxRecDepth 20000 in
theorem fX7_28 : FL RX7 28 6 7 false := ⟨by decide, by decide, rfl, wt_mem 285 (by decide +kernel) rfl⟩
set_option maxRecDepth 20000 in
theorem pX7_28 : FP RX7 28 6 7 .int := ⟨fX7_28, rfl, by decide +kernel⟩
set_option maxRecDepth 20000 in
theorem fX1_25 : FL RX1 25 6 7 false := ⟨by decide, by decide, rfl, wt_mem 286 (by decide +kernel) rfl⟩
set_option maxRecDepth 20000 in
theorem pX1_25 : FP RX1 25 6 7 .int := ⟨fX1_25, rfl, by decide +kernel⟩
set_option maxRecDepth 20000 in
theorem fX8_122 : FL RX8 122 6 7 false := ⟨by decide, by decide, rfl, wt_mem 287 (by decide +kernel) rfl⟩
set_option maxRecDepth 20000 in
theorem pX8_122 : FP RX8 122 6 7 .int := ⟨fX8_122, rfl, by decide +kernel⟩
set_option maxRecDepth 20000 in
theorem fX7_32 : FL RX7 32 6 8 false := ⟨by decide, by decide, rfl, wt_mem 288 (by decide +kernel) rfl⟩
set_option maxRecDepth 20000 in
theorem pX7_32 : FP RX7 32 6 8 .int := ⟨fX7_32, rfl, by decide +kernel⟩
set_option maxRecDepth 20000 in
theorem fX3_22 : FL RX3 22 6 8 false := ⟨by decide, by decide, rfl, wt_mem 289 (by decide +kernel) rfl⟩
set_option maxRecDepth 20000 in
theorem pX3_22 : FP RX3 22 6 8 .int := ⟨fX3_22, rfl, by decide +kernel⟩
set_option maxRecDepth 20000 in
theorem fX10_117 : FL RX10 117 6 8 false := ⟨by decide, by decide, rfl, wt_mem 290 (by decide +kernel) rfl⟩
set_option maxRecDepth 20000 in
theorem pX10_117 : FP RX10 117 6 8 .int := ⟨fX10_117, rfl, by decide +kernel⟩
set_option maxRecDepth 20000 in
theorem fX8_87 : FL RX8 87 6 8 false := ⟨by decide, by decide, rfl, wt_mem 291 (by decide +kernel) rfl⟩
set_option maxRecDepth 20000 in
theorem pX8_87 : FP RX8 87 6 8 .int := ⟨fX8_87, rfl, by decide +kernel⟩
set_option maxRecDepth 20000 in
theorem fX7_35 : FL RX7 35 6 9 false := ⟨by decide, by decide, rfl, wt_mem 292 (by decide +kernel) rfl⟩
set_option maxRecDepth 20000 in
theorem pX7_35 : FP RX7 35 6 9 .int := ⟨fX7_35, rfl, by decide +kernel⟩
set_option maxRecDepth 20000 in
theorem fX3_84 : FL RX3 84 6 9 false := ⟨by decide, by decide, rfl, wt_mem 293 (by decide +kernel) rfl⟩
set_option maxRecDepth 20000 in
theorem pX3_84 : FP RX3 84 6 9 .int := ⟨fX3_84, rfl, by decide +kernel⟩
set_option maxRecDepth 20000 in
theorem fX10_120 : FL RX10 120 6 9 false := ⟨by decide, by decide, rfl, wt_mem 294 (by decide +kernel) rfl⟩
set_option maxRecDepth 20000 in
theorem pX10_120 : FP RX10 120 6 9 .int := ⟨fX10_120, rfl, by decide +kernel⟩
set_option maxRecDepth 20000 in
theorem fX8_97 : FL RX8 97 6 9 false := ⟨by decide, by decide, rfl, wt_mem 295 (by decide +kernel) rfl⟩
set_option maxRecDepth 20000 in
theorem pX8_97 : FP RX8 97 6 9 .int := ⟨fX8_97, rfl, by decide +kernel⟩
set_option maxRecDepth 20000 in
theorem fX7_38 : FL RX7 38 6 10 false := ⟨by decide, by decide, rfl, wt_mem 296 (by decide +kernel) rfl⟩
set_option maxRecDepth 20000 in
theorem pX7_38 : FP RX7 38 6 10 .int := ⟨fX7_38, rfl, by decide +kernel⟩
set_option maxRecDepth 20000 in
theorem fX10_123 : FL RX10 123 6 10 false := ⟨by decide, by decide, rfl, wt_mem 297 (by decide +kernel) rfl⟩
set_option maxRecDepth 20000 in
theorem pX10_123 : FP RX10 123 6 10 .int := ⟨fX10_123, rfl, by decide +kernel⟩
set_option maxRecDepth 20000 in
theorem fX8_113 : FL RX8 113 6 10 false := ⟨by decide, by decide, rfl, wt_mem 298 (by decide +kernel) rfl⟩
set_option maxRecDepth 20000 in
theorem pX8_113 : FP RX8 113 6 10 .int := ⟨fX8_113, rfl, by decide +kernel⟩
set_option maxRecDepth 20000 in
theorem fX5_43 : FL RX5 43 6 10 false := ⟨by decide, by decide, rfl, wt_mem 299 (by decide +kernel) rfl⟩
set_option maxRecDepth 20000 in
theorem pX5_43 : FP RX5 43 6 10 .int := ⟨fX5_43, rfl, by decide +kernel⟩
set_option maxRecDepth 20000 in
theorem fX4_10 : FL RX4 10 4 0 true := ⟨by decide, by decide, rfl, wt_mem 332 (by decide +kernel) rfl⟩
set_option maxRecDepth 20000 in
theorem fX10_300 : FL RX10 300 4 0 true := ⟨by decide, by decide, rfl, wt_mem 333 (by decide +kernel) rfl⟩
set_option maxRecDepth 20000 in
theorem fX10_306 : FL RX10 306 4 1 false := ⟨by decide, by decide, rfl, wt_mem 334 (by decide +kernel) rfl⟩
set_option maxRecDepth 20000 in
theorem pX10_306 : FP RX10 306 4 1 .int := ⟨fX10_306, rfl, by decide +kernel⟩
set_option maxRecDepth 20000 in
theorem fX10_100 : FL RX10 100 4 2 false := ⟨by decide, by decide, rfl, wt_mem 335 (by decide +kernel) rfl⟩
set_option maxRecDepth 20000 in
theorem pX10_100 : FP RX10 100 4 2 .boolean := ⟨fX10_100, rfl, by decide +kernel⟩
set_option maxRecDepth 20000 in
theorem fX10_10 : FL RX10 10 9 0 true := ⟨by decide, by decide, rfl, wt_mem 343 (by decide +kernel) rfl⟩
set_option maxRecDepth 20000 in
theorem fX10_19 : FL RX10 19 9 1 true := ⟨by decide, by decide, rfl, wt_mem 344 (by decide +kernel) rfl⟩
set_option maxRecDepth 20000 in
theorem fX10_26 : FL RX10 26 9 2 true := ⟨by decide, by decide, rfl, wt_mem 345 (by decide +kernel) rfl⟩
set_option maxRecDepth 20000 in
theorem fX10_33 : FL RX10 33 9 3 true := ⟨by decide, by decide, rfl, wt_mem 346 (by decide +kernel) rfl⟩
set_option maxRecDepth 20000 in
theorem fX10_40 : FL RX10 40 9 4 true := ⟨by decide, by decide, rfl, wt_mem 347 (by decide +kernel) rfl⟩
set_option maxRecDepth 20000 in
theorem fX10_47 : FL RX10 47 9 5 true := ⟨by decide, by decide, rfl, wt_mem 348 (by decide +kernel) rfl⟩
set_option maxRecDepth 20000 in
theorem fX10_54 : FL RX10 54 9 6 true := ⟨by decide, by decide, rfl, wt_mem 349 (by decide +kernel) rfl⟩
set_option maxRecDepth 20000 in
theorem fX10_60 : FL RX10 60 9 7 true := ⟨by decide, by decide, rfl, wt_mem 350 (by decide +kernel) rfl⟩
set_option maxRecDepth 20000 in
theorem fX10_67 : FL RX10 67 9 8 true := ⟨by decide, by decide, rfl, wt_mem 351 (by decide +kernel) rfl⟩
set_option maxRecDepth 20000 in
theorem fX10_71 : FL RX10 71 9 9 true := ⟨by decide, by decide, rfl, wt_mem 352 (by decide +kernel) rfl⟩
set_option maxRecDepth 20000 in
theorem fX11_72 : FL RX11 72 10 0 false := ⟨by decide, by decide, rfl, wt_mem 845 (by decide +kernel) rfl⟩
set_option maxRecDepth 20000 in
theorem pX11_72 : FP RX11 72 10 0 .int := ⟨fX11_72, rfl, by decide +kernel⟩
set_option maxRecDepth 20000 in
theorem fX11_75 : FL RX11 75 10 1 false := ⟨by decide, by decide, rfl, wt_mem 846 (by decide +kernel) rfl⟩
set_option maxRecDepth 20000 in
theorem pX11_75 : FP RX11 75 10 1 .int := ⟨fX11_75, rfl, by decide +kernel⟩
set_option maxRecDepth 20000 in
theorem fX11_86 : FL RX11 86 10 2 false := ⟨by decide, by decide, rfl, wt_mem 847 (by decide +kernel) rfl⟩
set_option maxRecDepth 20000 in
theorem pX11_86 : FP RX11 86 10 2 .int := ⟨fX11_86, rfl, by decide +kernel⟩
set_option maxRecDepth 20000 in
theorem fX11_7 : FL RX11 7 10 3 true := ⟨by decide, by decide, rfl, wt_mem 848 (by decide +kernel) rfl⟩
set_option maxRecDepth 20000 in
theorem fX11_89 : FL RX11 89 10 4 false := ⟨by decide, by decide, rfl, wt_mem 849 (by decide +kernel) rfl⟩
set_option maxRecDepth 20000 in
theorem pX11_89 : FP RX11 89 10 4 .int := ⟨fX11_89, rfl, by decide +kernel⟩
set_option maxRecDepth 20000 in
theorem fX11_13 : FL RX11 13 10 5 true := ⟨by decide, by decide, rfl, wt_mem 850 (by decide +kernel) rfl⟩
set_option maxRecDepth 20000 in
theorem fX11_16 : FL RX11 16 10 6 true := ⟨by decide, by decide, rfl, wt_mem 851 (by decide +kernel) rfl⟩
set_option maxRecDepth 20000 in
theorem fX11_92 : FL RX11 92 10 7 false := ⟨by decide, by decide, rfl, wt_mem 852 (by decide +kernel) rfl⟩
set_option maxRecDepth 20000 in
theorem pX11_92 : FP RX11 92 10 7 .int := ⟨fX11_92, rfl, by decide +kernel⟩
set_option maxRecDepth 20000 in
theorem fX11_19 : FL RX11 19 10 8 true := ⟨by decide, by decide, rfl, wt_mem 853 (by decide +kernel) rfl⟩
set_option maxRecDepth 20000 in
theorem fX11_185 : FL RX11 185 10 9 false := ⟨by decide, by decide, rfl, wt_mem 854 (by decide +kernel) rfl⟩
set_option maxRecDepth 20000 in
theorem pX11_185 : FP RX11 185 10 9 .int := ⟨fX11_185, rfl, by decide +kernel⟩
set_option maxRecDepth 20000 in
theorem fX11_22 : FL RX11 22 10 10 true := ⟨by decide, by decide, rfl, wt_mem 855 (by decide +kernel) rfl⟩
set_option maxRecDepth 20000 in
theorem fX11_281 : FL RX11 281 10 11 false := ⟨by decide, by decide, rfl, wt_mem 856 (by decide +kernel) rfl⟩
set_option maxRecDepth 20000 in
theorem pX11_281 : FP RX11 281 10 11 .int := ⟨fX11_281, rfl, by decide +kernel⟩
set_option maxRecDepth 20000 in
theorem fX11_25 : FL RX11 25 10 12 true := ⟨by decide, by decide, rfl, wt_mem 857 (by decide +kernel) rfl⟩
set_option maxRecDepth 20000 in
theorem fX11_98 : FL RX11 98 10 13 false := ⟨by decide, by decide, rfl, wt_mem 858 (by decide +kernel) rfl⟩
set_option maxRecDepth 20000 in
theorem pX11_98 : FP RX11 98 10 13 .int := ⟨fX11_98, rfl, by decide +kernel⟩
set_option maxRecDepth 20000 in
theorem fX11_28 : FL RX11 28 10 14 false := ⟨by decide, by decide, rfl, wt_mem 859 (by decide +kernel) rfl⟩
set_option maxRecDepth 20000 in
theorem pX11_28 : FP RX11 28 10 14 .int := ⟨fX11_28, rfl, by decide +kernel⟩
set_option maxRecDepth 20000 in
theorem fX11_102 : FL RX11 102 10 15 false := ⟨by decide, by decide, rfl, wt_mem 860 (by decide +kernel) rfl⟩
set_option maxRecDepth 20000 in
theorem pX11_102 : FP RX11 102 10 15 .int := ⟨fX11_102, rfl, by decide +kernel⟩
set_option maxRecDepth 20000 in
theorem fX11_119 : FL RX11 119 10 16 false := ⟨by decide, by decide, rfl, wt_mem 861 (by decide +kernel) rfl⟩
set_option maxRecDepth 20000 in
theorem pX11_119 : FP RX11 119 10 16 .int := ⟨fX11_119, rfl, by decide +kernel⟩
set_option maxRecDepth 20000 in
theorem fX11_116 : FL RX11 116 10 17 false := ⟨by decide, by decide, rfl, wt_mem 862 (by decide +kernel) rfl⟩
set_option maxRecDepth 20000 in
theorem pX11_116 : FP RX11 116 10 17 .int := ⟨fX11_116, rfl, by decide +kernel⟩
set_option maxRecDepth 20000 in
theorem fX11_125 : FL RX11 125 10 18 false := ⟨by decide, by decide, rfl, wt_mem 863 (by decide +kernel) rfl⟩
set_option maxRecDepth 20000 in
theorem pX11_125 : FP RX11 125 10 18 .int := ⟨fX11_125, rfl, by decide +kernel⟩
set_option maxRecDepth 20000 in
theorem fX11_128 : FL RX11 128 10 19 false := ⟨by decide, by decide, rfl, wt_mem 864 (by decide +kernel) rfl⟩
set_option maxRecDepth 20000 in
theorem pX11_128 : FP RX11 128 10 19 .int := ⟨fX11_128, rfl, by decide +kernel⟩
set_option maxRecDepth 20000 in
theorem fX11_131 : FL RX11 131 10 20 false := ⟨by decide, by decide, rfl, wt_mem 865 (by decide +kernel) rfl⟩
set_option maxRecDepth 20000 in
theorem pX11_131 : FP RX11 131 10 20 .int := ⟨fX11_131, rfl, by decide +kernel⟩
set_option maxRecDepth 20000 in
theorem fX11_32 : FL RX11 32 10 21 true := ⟨by decide, by decide, rfl, wt_mem 866 (by decide +kernel) rfl⟩
set_option maxRecDepth 20000 in
theorem fX11_141 : FL RX11 141 10 22 false := ⟨by decide, by decide, rfl, wt_mem 867 (by decide +kernel) rfl⟩
set_option maxRecDepth 20000 in
theorem pX11_141 : FP RX11 141 10 22 .int := ⟨fX11_141, rfl, by decide +kernel⟩
set_option maxRecDepth 20000 in
theorem fX11_35 : FL RX11 35 10 23 true := ⟨by decide, by decide, rfl, wt_mem 868 (by decide +kernel) rfl⟩
set_option maxRecDepth 20000 in
theorem fX11_38 : FL RX11 38 10 24 true := ⟨by decide, by decide, rfl, wt_mem 869 (by decide +kernel) rfl⟩
set_option maxRecDepth 20000 in
theorem fX11_152 : FL RX11 152 10 25 false := ⟨by decide, by decide, rfl, wt_mem 870 (by decide +kernel) rfl⟩
set_option maxRecDepth 20000 in
theorem pX11_152 : FP RX11 152 10 25 .int := ⟨fX11_152, rfl, by decide +kernel⟩
set_option maxRecDepth 20000 in
theorem fX11_41 : FL RX11 41 10 26 true := ⟨by decide, by decide, rfl, wt_mem 871 (by decide +kernel) rfl⟩
set_option maxRecDepth 20000 in
theorem fX11_155 : FL RX11 155 10 27 false := ⟨by decide, by decide, rfl, wt_mem 872 (by decide +kernel) rfl⟩
set_option maxRecDepth 20000 in
theorem pX11_155 : FP RX11 155 10 27 .boolean := ⟨fX11_155, rfl, by decide +kernel⟩
set_option maxRecDepth 20000 in
theorem fX11_159 : FL RX11 159 10 28 false := ⟨by decide, by decide, rfl, wt_mem 873 (by decide +kernel) rfl⟩
set_option maxRecDepth 20000 in
theorem pX11_159 : FP RX11 159 10 28 .int := ⟨fX11_159, rfl, by decide +kernel⟩
set_option maxRecDepth 20000 in
theorem fX11_44 : FL RX11 44 10 29 true := ⟨by decide, by decide, rfl, wt_mem 874 (by decide +kernel) rfl⟩
set_option maxRecDepth 20000 in
theorem fX11_47 : FL RX11 47 10 30 true := ⟨by decide, by decide, rfl, wt_mem 875 (by decide +kernel) rfl⟩
set_option maxRecDepth 20000 in
theorem fX11_50 : FL RX11 50 10 31 true := ⟨by decide, by decide, rfl, wt_mem 876 (by decide +kernel) rfl⟩
set_option maxRecDepth 20000 in
theorem fX11_201 : FL RX11 201 10 32 false := ⟨by decide, by decide, rfl, wt_mem 877 (by decide +kernel) rfl⟩
set_option maxRecDepth 20000 in
theorem pX11_201 : FP RX11 201 10 32 .int := ⟨fX11_201, rfl, by decide +kernel⟩
set_option maxRecDepth 20000 in
theorem fX11_53 : FL RX11 53 10 33 true := ⟨by decide, by decide, rfl, wt_mem 878 (by decide +kernel) rfl⟩
set_option maxRecDepth 20000 in
theorem fX11_56 : FL RX11 56 10 34 true := ⟨by decide, by decide, rfl, wt_mem 879 (by decide +kernel) rfl⟩
set_option maxRecDepth 20000 in
theorem fX11_198 : FL RX11 198 10 35 false := ⟨by decide, by decide, rfl, wt_mem 880 (by decide +kernel) rfl⟩
set_option maxRecDepth 20000 in
theorem pX11_198 : FP RX11 198 10 35 .int := ⟨fX11_198, rfl, by decide +kernel⟩
set_option maxRecDepth 20000 in
theorem fX11_59 : FL RX11 59 10 36 true := ⟨by decide, by decide, rfl, wt_mem 881 (by decide +kernel) rfl⟩
set_option maxRecDepth 20000 in
theorem fX11_62 : FL RX11 62 10 37 true := ⟨by decide, by decide, rfl, wt_mem 882 (by decide +kernel) rfl⟩
set_option maxRecDepth 20000 in
theorem fX11_65 : FL RX11 65 10 38 true := ⟨by decide, by decide, rfl, wt_mem 883 (by decide +kernel) rfl⟩
set_option maxRecDepth 20000 in
theorem fX11_68 : FL RX11 68 10 39 true := ⟨by decide, by decide, rfl, wt_mem 884 (by decide +kernel) rfl⟩
set_option maxRecDepth 20000 in
theorem cbX10_feed : CB yX10_feed cX10_feed 2 (some .int) 1 := ⟨wt_mem 377 (by decide +kernel) rfl, wt_mem 59 (by decide +kernel) rfl, by decide +kernel, by decide⟩
set_option maxRecDepth 20000 in
theorem cbX10_outside : CB yX10_outside cX10_outside 3 (some .boolean) 3 := ⟨wt_mem 380 (by decide +kernel) rfl, wt_mem 59 (by decide +kernel) rfl, by decide +kernel, by decide⟩
set_option maxRecDepth 20000 in
theorem cbX8_add : CB yX8_add cX8_add 2 (some .int) 1 := ⟨wt_mem 385 (by decide +kernel) rfl, wt_mem 60 (by decide +kernel) rfl, by decide +kernel, by decide⟩
set_option maxRecDepth 20000 in
theorem cbX10_put : CB yX10_put cX10_put 3 none 3 := ⟨wt_mem 389 (by decide +kernel) rfl, wt_mem 59 (by decide +kernel) rfl, by decide +kernel, by decide⟩
set_option maxRecDepth 20000 in
theorem cbX10_wall : CB yX10_wall cX10_wall 3 (some .int) 0 := ⟨wt_mem 393 (by decide +kernel) rfl, wt_mem 59 (by decide +kernel) rfl, by decide +kernel, by decide⟩
set_option maxRecDepth 20000 in
theorem cbX8_read : CB yX8_read cX8_read 3 (some .boolean) 1 := ⟨wt_mem 397 (by decide +kernel) rfl, wt_mem 60 (by decide +kernel) rfl, by decide +kernel, by decide⟩
set_option maxRecDepth 20000 in
theorem cbX7_clear : CB yX7_clear cX7_clear 1 none 0 := ⟨wt_mem 401 (by decide +kernel) rfl, wt_mem 67 (by decide +kernel) rfl, by decide +kernel, by decide⟩
set_option maxRecDepth 20000 in
theorem cbX7_resize : CB yX7_resize cX7_resize 4 none 2 := ⟨wt_mem 405 (by decide +kernel) rfl, wt_mem 67 (by decide +kernel) rfl, by decide +kernel, by decide⟩
set_option maxRecDepth 20000 in
theorem cbX8_peek : CB yX8_peek cX8_peek 1 (some .int) 0 := ⟨wt_mem 409 (by decide +kernel) rfl, wt_mem 60 (by decide +kernel) rfl, by decide +kernel, by decide⟩
set_option maxRecDepth 20000 in
theorem cbX10_pick : CB yX10_pick cX10_pick 2 (some .int) 2 := ⟨wt_mem 412 (by decide +kernel) rfl, wt_mem 59 (by decide +kernel) rfl, by decide +kernel, by decide⟩
set_option maxRecDepth 20000 in
theorem cbX8_readClause : CB yX8_readClause cX8_readClause 3 none 1 := ⟨wt_mem 416 (by decide +kernel) rfl, wt_mem 60 (by decide +kernel) rfl, by decide +kernel, by decide⟩
set_option maxRecDepth 20000 in
theorem cbX8_fail : CB yX8_fail cX8_fail 3 none 2 := ⟨wt_mem 420 (by decide +kernel) rfl, wt_mem 60 (by decide +kernel) rfl, by decide +kernel, by decide⟩
set_option maxRecDepth 20000 in
theorem cbX8_readSize : CB yX8_readSize cX8_readSize 4 none 1 := ⟨wt_mem 424 (by decide +kernel) rfl, wt_mem 60 (by decide +kernel) rfl, by decide +kernel, by decide⟩
set_option maxRecDepth 20000 in
theorem cbX8_takeWord : CB yX8_takeWord cX8_takeWord 2 none 1 := ⟨wt_mem 428 (by decide +kernel) rfl, wt_mem 60 (by decide +kernel) rfl, by decide +kernel, by decide⟩
set_option maxRecDepth 20000 in
theorem cbX8_takeNumber : CB yX8_takeNumber cX8_takeNumber 4 (some .int) 2 := ⟨wt_mem 432 (by decide +kernel) rfl, wt_mem 60 (by decide +kernel) rfl, by decide +kernel, by decide⟩
set_option maxRecDepth 20000 in
theorem cbX8_isFigure : CB yX8_isFigure cX8_isFigure 1 (some .boolean) 1 := ⟨wt_mem 435 (by decide +kernel) rfl, wt_mem 60 (by decide +kernel) rfl, by decide +kernel, by decide⟩
set_option maxRecDepth 20000 in
theorem cbX8_takeSign : CB yX8_takeSign cX8_takeSign 2 (some .boolean) 1 := ⟨wt_mem 440 (by decide +kernel) rfl, wt_mem 60 (by decide +kernel) rfl, by decide +kernel, by decide⟩
set_option maxRecDepth 20000 in
theorem cbX8_readLeak : CB yX8_readLeak cX8_readLeak 3 none 1 := ⟨wt_mem 445 (by decide +kernel) rfl, wt_mem 60 (by decide +kernel) rfl, by decide +kernel, by decide⟩
set_option maxRecDepth 20000 in
theorem cbX7_cells : CB yX7_cells cX7_cells 1 (some .int) 0 := ⟨wt_mem 449 (by decide +kernel) rfl, wt_mem 67 (by decide +kernel) rfl, by decide +kernel, by decide⟩
set_option maxRecDepth 20000 in
theorem cbX7_addLeak : CB yX7_addLeak cX7_addLeak 2 none 1 := ⟨wt_mem 453 (by decide +kernel) rfl, wt_mem 67 (by decide +kernel) rfl, by decide +kernel, by decide⟩
set_option maxRecDepth 20000 in
theorem cbX8_readCrack : CB yX8_readCrack cX8_readCrack 4 none 1 := ⟨wt_mem 458 (by decide +kernel) rfl, wt_mem 60 (by decide +kernel) rfl, by decide +kernel, by decide⟩
set_option maxRecDepth 20000 in
theorem cbX7_touch : CB yX7_touch cX7_touch 5 (some .boolean) 2 := ⟨wt_mem 462 (by decide +kernel) rfl, wt_mem 67 (by decide +kernel) rfl, by decide +kernel, by decide⟩
set_option maxRecDepth 20000 in
theorem cbJ9_min_7cf53 : CB yJ9_min_7cf53 cJ9_min_7cf53 2 (some .int) 2 := ⟨wt_mem 465 (by decide +kernel) rfl, wt_mem 70 (by decide +kernel) rfl, by decide +kernel, by decide⟩
set_option maxRecDepth 20000 in
theorem cbJ9_max_7cf53 : CB yJ9_max_7cf53 cJ9_max_7cf53 2 (some .int) 2 := ⟨wt_mem 468 (by decide +kernel) rfl, wt_mem 70 (by decide +kernel) rfl, by decide +kernel, by decide⟩
set_option maxRecDepth 20000 in
theorem cbX7_columnOf : CB yX7_columnOf cX7_columnOf 2 (some .int) 1 := ⟨wt_mem 472 (by decide +kernel) rfl, wt_mem 67 (by decide +kernel) rfl, by decide +kernel, by decide⟩
set_option maxRecDepth 20000 in
theorem cbX7_isCracked : CB yX7_isCracked cX7_isCracked 4 (some .boolean) 2 := ⟨wt_mem 476 (by decide +kernel) rfl, wt_mem 67 (by decide +kernel) rfl, by decide +kernel, by decide⟩
set_option maxRecDepth 20000 in
theorem cbX7_addCrack : CB yX7_addCrack cX7_addCrack 3 none 2 := ⟨wt_mem 480 (by decide +kernel) rfl, wt_mem 67 (by decide +kernel) rfl, by decide +kernel, by decide⟩
set_option maxRecDepth 20000 in
theorem cbX8_readFace : CB yX8_readFace cX8_readFace 4 none 1 := ⟨wt_mem 484 (by decide +kernel) rfl, wt_mem 60 (by decide +kernel) rfl, by decide +kernel, by decide⟩
set_option maxRecDepth 20000 in
theorem cbX7_addFace : CB yX7_addFace cX7_addFace 2 none 1 := ⟨wt_mem 488 (by decide +kernel) rfl, wt_mem 67 (by decide +kernel) rfl, by decide +kernel, by decide⟩
set_option maxRecDepth 20000 in
theorem cbX8_readWind : CB yX8_readWind cX8_readWind 3 none 1 := ⟨wt_mem 492 (by decide +kernel) rfl, wt_mem 60 (by decide +kernel) rfl, by decide +kernel, by decide⟩
set_option maxRecDepth 20000 in
theorem cbX1_begin : CB yX1_begin cX1_begin 3 none 1 := ⟨wt_mem 496 (by decide +kernel) rfl, wt_mem 61 (by decide +kernel) rfl, by decide +kernel, by decide⟩
set_option maxRecDepth 20000 in
theorem cbX0_clear : CB yX0_clear cX0_clear 1 none 0 := ⟨wt_mem 501 (by decide +kernel) rfl, wt_mem 65 (by decide +kernel) rfl, by decide +kernel, by decide⟩
set_option maxRecDepth 20000 in
theorem cbX6_clear : CB yX6_clear cX6_clear 1 none 0 := ⟨wt_mem 505 (by decide +kernel) rfl, wt_mem 64 (by decide +kernel) rfl, by decide +kernel, by decide⟩
set_option maxRecDepth 20000 in
theorem cbX10_fault : CB yX10_fault cX10_fault 1 (some .int) 0 := ⟨wt_mem 510 (by decide +kernel) rfl, wt_mem 59 (by decide +kernel) rfl, by decide +kernel, by decide⟩
set_option maxRecDepth 20000 in
theorem cbX10_told : CB yX10_told cX10_told 2 (some .int) 1 := ⟨wt_mem 514 (by decide +kernel) rfl, wt_mem 59 (by decide +kernel) rfl, by decide +kernel, by decide⟩
set_option maxRecDepth 20000 in
theorem cbX1_marks : CB yX1_marks cX1_marks 3 (some .int) 0 := ⟨wt_mem 518 (by decide +kernel) rfl, wt_mem 61 (by decide +kernel) rfl, by decide +kernel, by decide⟩
set_option maxRecDepth 20000 in
theorem cbX1_allWet : CB yX1_allWet cX1_allWet 3 (some .int) 0 := ⟨wt_mem 522 (by decide +kernel) rfl, wt_mem 61 (by decide +kernel) rfl, by decide +kernel, by decide⟩
set_option maxRecDepth 20000 in
theorem cbX5_whom : CB yX5_whom cX5_whom 6 (some .int) 2 := ⟨wt_mem 525 (by decide +kernel) rfl, wt_mem 71 (by decide +kernel) rfl, by decide +kernel, by decide⟩
set_option maxRecDepth 20000 in
theorem cbX5_like : CB yX5_like cX5_like 3 (some .int) 3 := ⟨wt_mem 529 (by decide +kernel) rfl, wt_mem 71 (by decide +kernel) rfl, by decide +kernel, by decide⟩
set_option maxRecDepth 20000 in
theorem cbJ6_bitCount_0f7a4 : CB yJ6_bitCount_0f7a4 cJ6_bitCount_0f7a4 1 (some .int) 1 := ⟨wt_mem 533 (by decide +kernel) rfl, wt_mem 72 (by decide +kernel) rfl, by decide +kernel, by decide⟩
set_option maxRecDepth 20000 in
theorem cbX5_mayBe : CB yX5_mayBe cX5_mayBe 4 (some .int) 2 := ⟨wt_mem 539 (by decide +kernel) rfl, wt_mem 71 (by decide +kernel) rfl, by decide +kernel, by decide⟩
set_option maxRecDepth 20000 in
theorem cbX5_groups : CB yX5_groups cX5_groups 5 (some .int) 2 := ⟨wt_mem 542 (by decide +kernel) rfl, wt_mem 71 (by decide +kernel) rfl, by decide +kernel, by decide⟩
set_option maxRecDepth 20000 in
theorem cbX5_groupOf : CB yX5_groupOf cX5_groupOf 7 (some .int) 3 := ⟨wt_mem 545 (by decide +kernel) rfl, wt_mem 71 (by decide +kernel) rfl, by decide +kernel, by decide⟩
set_option maxRecDepth 20000 in
theorem cbX5_besideSet : CB yX5_besideSet cX5_besideSet 3 (some .int) 3 := ⟨wt_mem 548 (by decide +kernel) rfl, wt_mem 71 (by decide +kernel) rfl, by decide +kernel, by decide⟩
set_option maxRecDepth 20000 in
theorem cbX5_greatestGroup : CB yX5_greatestGroup cX5_greatestGroup 6 (some .int) 2 := ⟨wt_mem 551 (by decide +kernel) rfl, wt_mem 71 (by decide +kernel) rfl, by decide +kernel, by decide⟩
set_option maxRecDepth 20000 in
theorem cbX5_border : CB yX5_border cX5_border 4 (some .int) 2 := ⟨wt_mem 554 (by decide +kernel) rfl, wt_mem 71 (by decide +kernel) rfl, by decide +kernel, by decide⟩
set_option maxRecDepth 20000 in
theorem cbX5_fullest : CB yX5_fullest cX5_fullest 6 (some .int) 2 := ⟨wt_mem 557 (by decide +kernel) rfl, wt_mem 71 (by decide +kernel) rfl, by decide +kernel, by decide⟩
set_option maxRecDepth 20000 in
theorem cbX10_cell : CB yX10_cell cX10_cell 2 (some .int) 1 := ⟨wt_mem 561 (by decide +kernel) rfl, wt_mem 59 (by decide +kernel) rfl, by decide +kernel, by decide⟩
set_option maxRecDepth 20000 in
theorem cbX7_hasCell : CB yX7_hasCell cX7_hasCell 2 (some .boolean) 1 := ⟨wt_mem 565 (by decide +kernel) rfl, wt_mem 67 (by decide +kernel) rfl, by decide +kernel, by decide⟩
set_option maxRecDepth 20000 in
theorem cbX10_leak : CB yX10_leak cX10_leak 2 (some .int) 1 := ⟨wt_mem 572 (by decide +kernel) rfl, wt_mem 59 (by decide +kernel) rfl, by decide +kernel, by decide⟩
set_option maxRecDepth 20000 in
theorem cbX7_hasLeak : CB yX7_hasLeak cX7_hasLeak 2 (some .boolean) 1 := ⟨wt_mem 576 (by decide +kernel) rfl, wt_mem 67 (by decide +kernel) rfl, by decide +kernel, by decide⟩
set_option maxRecDepth 20000 in
theorem cbX10_crack : CB yX10_crack cX10_crack 3 (some .int) 2 := ⟨wt_mem 580 (by decide +kernel) rfl, wt_mem 59 (by decide +kernel) rfl, by decide +kernel, by decide⟩
set_option maxRecDepth 20000 in
theorem cbX7_hasCrack : CB yX7_hasCrack cX7_hasCrack 2 (some .boolean) 1 := ⟨wt_mem 584 (by decide +kernel) rfl, wt_mem 67 (by decide +kernel) rfl, by decide +kernel, by decide⟩
set_option maxRecDepth 20000 in
theorem cbX1_isFilled : CB yX1_isFilled cX1_isFilled 2 (some .boolean) 1 := ⟨wt_mem 588 (by decide +kernel) rfl, wt_mem 61 (by decide +kernel) rfl, by decide +kernel, by decide⟩
set_option maxRecDepth 20000 in
theorem cbX10_likeness : CB yX10_likeness cX10_likeness 4 (some .int) 2 := ⟨wt_mem 592 (by decide +kernel) rfl, wt_mem 59 (by decide +kernel) rfl, by decide +kernel, by decide⟩
set_option maxRecDepth 20000 in
theorem cbX7_hasFace : CB yX7_hasFace cX7_hasFace 2 (some .boolean) 1 := ⟨wt_mem 596 (by decide +kernel) rfl, wt_mem 67 (by decide +kernel) rfl, by decide +kernel, by decide⟩
set_option maxRecDepth 20000 in
theorem cbX10_day : CB yX10_day cX10_day 3 (some .int) 2 := ⟨wt_mem 602 (by decide +kernel) rfl, wt_mem 59 (by decide +kernel) rfl, by decide +kernel, by decide⟩
set_option maxRecDepth 20000 in
theorem cbX10_noWall : CB yX10_noWall cX10_noWall 1 (some .boolean) 0 := ⟨wt_mem 606 (by decide +kernel) rfl, wt_mem 59 (by decide +kernel) rfl, by decide +kernel, by decide⟩
set_option maxRecDepth 20000 in
theorem cbX6_push : CB yX6_push cX6_push 2 none 1 := ⟨wt_mem 612 (by decide +kernel) rfl, wt_mem 64 (by decide +kernel) rfl, by decide +kernel, by decide⟩
set_option maxRecDepth 20000 in
theorem cbX1_copyFrom : CB yX1_copyFrom cX1_copyFrom 2 none 1 := ⟨wt_mem 616 (by decide +kernel) rfl, wt_mem 61 (by decide +kernel) rfl, by decide +kernel, by decide⟩
set_option maxRecDepth 20000 in
theorem cbX3_rainDays : CB yX3_rainDays cX3_rainDays 6 none 4 := ⟨wt_mem 624 (by decide +kernel) rfl, wt_mem 62 (by decide +kernel) rfl, by decide +kernel, by decide⟩
set_option maxRecDepth 20000 in
theorem cbX3_rainDay : CB yX3_rainDay cX3_rainDay 6 none 3 := ⟨wt_mem 628 (by decide +kernel) rfl, wt_mem 62 (by decide +kernel) rfl, by decide +kernel, by decide⟩
set_option maxRecDepth 20000 in
theorem cbX3_runDownAndByWind : CB yX3_runDownAndByWind cX3_runDownAndByWind 4 none 2 := ⟨wt_mem 636 (by decide +kernel) rfl, wt_mem 62 (by decide +kernel) rfl, by decide +kernel, by decide⟩
set_option maxRecDepth 20000 in
theorem cbX7_below : CB yX7_below cX7_below 2 (some .int) 1 := ⟨wt_mem 640 (by decide +kernel) rfl, wt_mem 67 (by decide +kernel) rfl, by decide +kernel, by decide⟩
set_option maxRecDepth 20000 in
theorem cbX3_give : CB yX3_give cX3_give 4 none 3 := ⟨wt_mem 644 (by decide +kernel) rfl, wt_mem 62 (by decide +kernel) rfl, by decide +kernel, by decide⟩
set_option maxRecDepth 20000 in
theorem cbX7_beside : CB yX7_beside cX7_beside 3 (some .int) 2 := ⟨wt_mem 648 (by decide +kernel) rfl, wt_mem 67 (by decide +kernel) rfl, by decide +kernel, by decide⟩
set_option maxRecDepth 20000 in
theorem cbX3_runByCracks : CB yX3_runByCracks cX3_runByCracks 7 none 2 := ⟨wt_mem 652 (by decide +kernel) rfl, wt_mem 62 (by decide +kernel) rfl, by decide +kernel, by decide⟩
set_option maxRecDepth 20000 in
theorem cbX3_settle : CB yX3_settle cX3_settle 5 none 2 := ⟨wt_mem 657 (by decide +kernel) rfl, wt_mem 62 (by decide +kernel) rfl, by decide +kernel, by decide⟩
set_option maxRecDepth 20000 in
theorem cbX1_markCount : CB yX1_markCount cX1_markCount 1 (some .int) 0 := ⟨wt_mem 662 (by decide +kernel) rfl, wt_mem 61 (by decide +kernel) rfl, by decide +kernel, by decide⟩
set_option maxRecDepth 20000 in
theorem cbX10_look : CB yX10_look cX10_look 1 (some .int) 0 := ⟨wt_mem 668 (by decide +kernel) rfl, wt_mem 59 (by decide +kernel) rfl, by decide +kernel, by decide⟩
set_option maxRecDepth 20000 in
theorem cbX1_shrink : CB yX1_shrink cX1_shrink 4 none 1 := ⟨wt_mem 672 (by decide +kernel) rfl, wt_mem 61 (by decide +kernel) rfl, by decide +kernel, by decide⟩
set_option maxRecDepth 20000 in
theorem cbX5_lonely : CB yX5_lonely cX5_lonely 6 (some .int) 2 := ⟨wt_mem 675 (by decide +kernel) rfl, wt_mem 71 (by decide +kernel) rfl, by decide +kernel, by decide⟩
set_option maxRecDepth 20000 in
theorem cbX10_brush : CB yX10_brush cX10_brush 3 (some .int) 1 := ⟨wt_mem 679 (by decide +kernel) rfl, wt_mem 59 (by decide +kernel) rfl, by decide +kernel, by decide⟩
set_option maxRecDepth 20000 in
theorem cbX10_lead : CB yX10_lead cX10_lead 4 (some .int) 2 := ⟨wt_mem 684 (by decide +kernel) rfl, wt_mem 59 (by decide +kernel) rfl, by decide +kernel, by decide⟩
set_option maxRecDepth 20000 in
theorem cbX10_wind : CB yX10_wind cX10_wind 3 (some .int) 1 := ⟨wt_mem 688 (by decide +kernel) rfl, wt_mem 59 (by decide +kernel) rfl, by decide +kernel, by decide⟩
set_option maxRecDepth 20000 in
theorem cbX10_fill : CB yX10_fill cX10_fill 4 (some .int) 2 := ⟨wt_mem 692 (by decide +kernel) rfl, wt_mem 59 (by decide +kernel) rfl, by decide +kernel, by decide⟩
set_option maxRecDepth 20000 in
theorem cbX10_drift : CB yX10_drift cX10_drift 3 (some .int) 1 := ⟨wt_mem 696 (by decide +kernel) rfl, wt_mem 59 (by decide +kernel) rfl, by decide +kernel, by decide⟩
set_option maxRecDepth 20000 in
theorem cbX10_driftOneDay : CB yX10_driftOneDay cX10_driftOneDay 3 none 0 := ⟨wt_mem 700 (by decide +kernel) rfl, wt_mem 59 (by decide +kernel) rfl, by decide +kernel, by decide⟩
set_option maxRecDepth 20000 in
theorem cbX2_draw : CB yX2_draw cX2_draw 2 (some .int) 1 := ⟨wt_mem 704 (by decide +kernel) rfl, wt_mem 66 (by decide +kernel) rfl, by decide +kernel, by decide⟩
set_option maxRecDepth 20000 in
theorem cbX10_undo : CB yX10_undo cX10_undo 1 (some .int) 0 := ⟨wt_mem 712 (by decide +kernel) rfl, wt_mem 59 (by decide +kernel) rfl, by decide +kernel, by decide⟩
set_option maxRecDepth 20000 in
theorem cbX6_pop : CB yX6_pop cX6_pop 2 (some .boolean) 1 := ⟨wt_mem 716 (by decide +kernel) rfl, wt_mem 64 (by decide +kernel) rfl, by decide +kernel, by decide⟩
set_option maxRecDepth 20000 in
theorem cbX10_shown : CB yX10_shown cX10_shown 3 (some .int) 2 := ⟨wt_mem 720 (by decide +kernel) rfl, wt_mem 59 (by decide +kernel) rfl, by decide +kernel, by decide⟩
set_option maxRecDepth 20000 in
theorem cbX9_marksBehind : CB yX9_marksBehind cX9_marksBehind 5 (some .int) 4 := ⟨wt_mem 724 (by decide +kernel) rfl, wt_mem 63 (by decide +kernel) rfl, by decide +kernel, by decide⟩
set_option maxRecDepth 20000 in
theorem cbX10_first : CB yX10_first cX10_first 3 (some .int) 2 := ⟨wt_mem 731 (by decide +kernel) rfl, wt_mem 59 (by decide +kernel) rfl, by decide +kernel, by decide⟩
set_option maxRecDepth 20000 in
theorem cbX9_daysTillMarks : CB yX9_daysTillMarks cX9_daysTillMarks 6 (some .int) 4 := ⟨wt_mem 735 (by decide +kernel) rfl, wt_mem 63 (by decide +kernel) rfl, by decide +kernel, by decide⟩
set_option maxRecDepth 20000 in
theorem cbX10_leadTo : CB yX10_leadTo cX10_leadTo 6 (some .int) 5 := ⟨wt_mem 741 (by decide +kernel) rfl, wt_mem 59 (by decide +kernel) rfl, by decide +kernel, by decide⟩
set_option maxRecDepth 20000 in
theorem cbX9_leadBest : CB yX9_leadBest cX9_leadBest 9 none 6 := ⟨wt_mem 745 (by decide +kernel) rfl, wt_mem 63 (by decide +kernel) rfl, by decide +kernel, by decide⟩
set_option maxRecDepth 20000 in
theorem cbX10_often : CB yX10_often cX10_often 5 (some .int) 4 := ⟨wt_mem 752 (by decide +kernel) rfl, wt_mem 59 (by decide +kernel) rfl, by decide +kernel, by decide⟩
set_option maxRecDepth 20000 in
theorem cbX9_lookMost : CB yX9_lookMost cX9_lookMost 6 none 5 := ⟨wt_mem 756 (by decide +kernel) rfl, wt_mem 63 (by decide +kernel) rfl, by decide +kernel, by decide⟩
set_option maxRecDepth 20000 in
theorem cbX9_tryLooks : CB yX9_tryLooks cX9_tryLooks 6 none 5 := ⟨wt_mem 759 (by decide +kernel) rfl, wt_mem 63 (by decide +kernel) rfl, by decide +kernel, by decide⟩
set_option maxRecDepth 20000 in
theorem cbX9_weigh : CB yX9_weigh cX9_weigh 5 none 2 := ⟨wt_mem 763 (by decide +kernel) rfl, wt_mem 63 (by decide +kernel) rfl, by decide +kernel, by decide⟩
set_option maxRecDepth 20000 in
theorem cbX10_wasRain : CB yX10_wasRain cX10_wasRain 2 (some .int) 1 := ⟨wt_mem 769 (by decide +kernel) rfl, wt_mem 59 (by decide +kernel) rfl, by decide +kernel, by decide⟩
set_option maxRecDepth 20000 in
theorem cbX9_rainsThatShow : CB yX9_rainsThatShow cX9_rainsThatShow 6 (some .int) 3 := ⟨wt_mem 773 (by decide +kernel) rfl, wt_mem 63 (by decide +kernel) rfl, by decide +kernel, by decide⟩
set_option maxRecDepth 20000 in
theorem cbX10_rainToTell : CB yX10_rainToTell cX10_rainToTell 2 (some .int) 1 := ⟨wt_mem 778 (by decide +kernel) rfl, wt_mem 59 (by decide +kernel) rfl, by decide +kernel, by decide⟩
set_option maxRecDepth 20000 in
theorem cbX9_rainThatLeavesFewest : CB yX9_rainThatLeavesFewest cX9_rainThatLeavesFewest 5 none 2 := ⟨wt_mem 782 (by decide +kernel) rfl, wt_mem 63 (by decide +kernel) rfl, by decide +kernel, by decide⟩
set_option maxRecDepth 20000 in
theorem cbX10_dryIn : CB yX10_dryIn cX10_dryIn 1 (some .int) 0 := ⟨wt_mem 787 (by decide +kernel) rfl, wt_mem 59 (by decide +kernel) rfl, by decide +kernel, by decide⟩
set_option maxRecDepth 20000 in
theorem cbX9_daysTillDry : CB yX9_daysTillDry cX9_daysTillDry 4 (some .int) 2 := ⟨wt_mem 791 (by decide +kernel) rfl, wt_mem 63 (by decide +kernel) rfl, by decide +kernel, by decide⟩
set_option maxRecDepth 20000 in
theorem cbX10_either : CB yX10_either cX10_either 6 (some .int) 3 := ⟨wt_mem 796 (by decide +kernel) rfl, wt_mem 59 (by decide +kernel) rfl, by decide +kernel, by decide⟩
set_option maxRecDepth 20000 in
theorem cbX10_rainy : CB yX10_rainy cX10_rainy 6 (some .int) 2 := ⟨wt_mem 800 (by decide +kernel) rfl, wt_mem 59 (by decide +kernel) rfl, by decide +kernel, by decide⟩
set_option maxRecDepth 20000 in
theorem cbX10_write : CB yX10_write cX10_write 3 (some .int) 2 := ⟨wt_mem 806 (by decide +kernel) rfl, wt_mem 59 (by decide +kernel) rfl, by decide +kernel, by decide⟩
set_option maxRecDepth 20000 in
theorem cbX0_add : CB yX0_add cX0_add 3 (some .int) 2 := ⟨wt_mem 810 (by decide +kernel) rfl, wt_mem 65 (by decide +kernel) rfl, by decide +kernel, by decide⟩
set_option maxRecDepth 20000 in
theorem cbX10_tear : CB yX10_tear cX10_tear 2 (some .int) 0 := ⟨wt_mem 816 (by decide +kernel) rfl, wt_mem 59 (by decide +kernel) rfl, by decide +kernel, by decide⟩
set_option maxRecDepth 20000 in
theorem cbX10_judge : CB yX10_judge cX10_judge 1 (some .int) 0 := ⟨wt_mem 820 (by decide +kernel) rfl, wt_mem 59 (by decide +kernel) rfl, by decide +kernel, by decide⟩
set_option maxRecDepth 20000 in
theorem cbX0_firstWrong : CB yX0_firstWrong cX0_firstWrong 3 (some .int) 1 := ⟨wt_mem 824 (by decide +kernel) rfl, wt_mem 65 (by decide +kernel) rfl, by decide +kernel, by decide⟩
set_option maxRecDepth 20000 in
theorem cbX10_seed : CB yX10_seed cX10_seed 3 (some .int) 1 := ⟨wt_mem 829 (by decide +kernel) rfl, wt_mem 59 (by decide +kernel) rfl, by decide +kernel, by decide⟩
set_option maxRecDepth 20000 in
theorem cbX10_keep : CB yX10_keep cX10_keep 3 (some .int) 1 := ⟨wt_mem 833 (by decide +kernel) rfl, wt_mem 59 (by decide +kernel) rfl, by decide +kernel, by decide⟩
set_option maxRecDepth 20000 in
theorem cbX10_goBack : CB yX10_goBack cX10_goBack 3 (some .int) 1 := ⟨wt_mem 838 (by decide +kernel) rfl, wt_mem 59 (by decide +kernel) rfl, by decide +kernel, by decide⟩
set_option maxRecDepth 20000 in
theorem cbX11_feed : CB yX11_feed cX11_feed 2 (some .int) 1 := ⟨wt_mem 970 (by decide +kernel) rfl, wt_mem 69 (by decide +kernel) rfl, by decide +kernel, by decide⟩
set_option maxRecDepth 20000 in
theorem cbX11_in : CB yX11_in cX11_in 6 (some .boolean) 3 := ⟨wt_mem 974 (by decide +kernel) rfl, wt_mem 69 (by decide +kernel) rfl, by decide +kernel, by decide⟩
set_option maxRecDepth 20000 in
theorem cbX11_wall : CB yX11_wall cX11_wall 2 (some .int) 0 := ⟨wt_mem 980 (by decide +kernel) rfl, wt_mem 69 (by decide +kernel) rfl, by decide +kernel, by decide⟩
set_option maxRecDepth 20000 in
theorem cbX11_here : CB yX11_here cX11_here 1 (some .int) 0 := ⟨wt_mem 984 (by decide +kernel) rfl, wt_mem 69 (by decide +kernel) rfl, by decide +kernel, by decide⟩
set_option maxRecDepth 20000 in
theorem cbX11_takeClause : CB yX11_takeClause cX11_takeClause 4 (some .int) 0 := ⟨wt_mem 988 (by decide +kernel) rfl, wt_mem 69 (by decide +kernel) rfl, by decide +kernel, by decide⟩
set_option maxRecDepth 20000 in
theorem cbX11_fails : CB yX11_fails cX11_fails 3 (some .int) 2 := ⟨wt_mem 992 (by decide +kernel) rfl, wt_mem 69 (by decide +kernel) rfl, by decide +kernel, by decide⟩
set_option maxRecDepth 20000 in
theorem cbX11_isFull : CB yX11_isFull cX11_isFull 2 (some .boolean) 1 := ⟨wt_mem 996 (by decide +kernel) rfl, wt_mem 69 (by decide +kernel) rfl, by decide +kernel, by decide⟩
set_option maxRecDepth 20000 in
theorem cbX11_takeBody : CB yX11_takeBody cX11_takeBody 2 (some .int) 1 := ⟨wt_mem 1000 (by decide +kernel) rfl, wt_mem 69 (by decide +kernel) rfl, by decide +kernel, by decide⟩
set_option maxRecDepth 20000 in
theorem cbX11_takeWall : CB yX11_takeWall cX11_takeWall 2 (some .int) 0 := ⟨wt_mem 1004 (by decide +kernel) rfl, wt_mem 69 (by decide +kernel) rfl, by decide +kernel, by decide⟩
set_option maxRecDepth 20000 in
theorem cbX11_takeNumber : CB yX11_takeNumber cX11_takeNumber 4 (some .int) 2 := ⟨wt_mem 1008 (by decide +kernel) rfl, wt_mem 69 (by decide +kernel) rfl, by decide +kernel, by decide⟩
set_option maxRecDepth 20000 in
theorem cbX11_takeLeak : CB yX11_takeLeak cX11_takeLeak 1 (some .int) 0 := ⟨wt_mem 1014 (by decide +kernel) rfl, wt_mem 69 (by decide +kernel) rfl, by decide +kernel, by decide⟩
set_option maxRecDepth 20000 in
theorem cbX11_readCells : CB yX11_readCells cX11_readCells 1 (some .int) 0 := ⟨wt_mem 1018 (by decide +kernel) rfl, wt_mem 69 (by decide +kernel) rfl, by decide +kernel, by decide⟩
set_option maxRecDepth 20000 in
theorem cbX11_into : CB yX11_into cX11_into 6 (some .int) 4 := ⟨wt_mem 1022 (by decide +kernel) rfl, wt_mem 69 (by decide +kernel) rfl, by decide +kernel, by decide⟩
set_option maxRecDepth 20000 in
theorem cbX11_takeCrack : CB yX11_takeCrack cX11_takeCrack 3 (some .int) 0 := ⟨wt_mem 1026 (by decide +kernel) rfl, wt_mem 69 (by decide +kernel) rfl, by decide +kernel, by decide⟩
set_option maxRecDepth 20000 in
theorem cbX11_areNext : CB yX11_areNext cX11_areNext 5 (some .boolean) 3 := ⟨wt_mem 1029 (by decide +kernel) rfl, wt_mem 69 (by decide +kernel) rfl, by decide +kernel, by decide⟩
set_option maxRecDepth 20000 in
theorem cbX11_isTold : CB yX11_isTold cX11_isTold 5 (some .boolean) 2 := ⟨wt_mem 1033 (by decide +kernel) rfl, wt_mem 69 (by decide +kernel) rfl, by decide +kernel, by decide⟩
set_option maxRecDepth 20000 in
theorem cbX11_takeLike : CB yX11_takeLike cX11_takeLike 4 (some .int) 0 := ⟨wt_mem 1037 (by decide +kernel) rfl, wt_mem 69 (by decide +kernel) rfl, by decide +kernel, by decide⟩
set_option maxRecDepth 20000 in
theorem cbX11_takeWind : CB yX11_takeWind cX11_takeWind 2 (some .int) 0 := ⟨wt_mem 1041 (by decide +kernel) rfl, wt_mem 69 (by decide +kernel) rfl, by decide +kernel, by decide⟩
set_option maxRecDepth 20000 in
theorem cbX11_takeRead : CB yX11_takeRead cX11_takeRead 2 none 0 := ⟨wt_mem 1045 (by decide +kernel) rfl, wt_mem 69 (by decide +kernel) rfl, by decide +kernel, by decide⟩
set_option maxRecDepth 20000 in
theorem cbX11_copyRow : CB yX11_copyRow cX11_copyRow 4 none 3 := ⟨wt_mem 1048 (by decide +kernel) rfl, wt_mem 69 (by decide +kernel) rfl, by decide +kernel, by decide⟩
set_option maxRecDepth 20000 in
theorem cbX11_cells : CB yX11_cells cX11_cells 1 (some .int) 0 := ⟨wt_mem 1052 (by decide +kernel) rfl, wt_mem 69 (by decide +kernel) rfl, by decide +kernel, by decide⟩
set_option maxRecDepth 20000 in
theorem cbX11_fault : CB yX11_fault cX11_fault 1 (some .int) 0 := ⟨wt_mem 1056 (by decide +kernel) rfl, wt_mem 69 (by decide +kernel) rfl, by decide +kernel, by decide⟩
set_option maxRecDepth 20000 in
theorem cbX11_told : CB yX11_told cX11_told 2 (some .int) 1 := ⟨wt_mem 1060 (by decide +kernel) rfl, wt_mem 69 (by decide +kernel) rfl, by decide +kernel, by decide⟩
set_option maxRecDepth 20000 in
theorem cbX11_shows : CB yX11_shows cX11_shows 3 (some .int) 0 := ⟨wt_mem 1064 (by decide +kernel) rfl, wt_mem 69 (by decide +kernel) rfl, by decide +kernel, by decide⟩
set_option maxRecDepth 20000 in
theorem cbX11_allWet : CB yX11_allWet cX11_allWet 3 (some .int) 0 := ⟨wt_mem 1068 (by decide +kernel) rfl, wt_mem 69 (by decide +kernel) rfl, by decide +kernel, by decide⟩
set_option maxRecDepth 20000 in
theorem cbX11_whom : CB yX11_whom cX11_whom 5 (some .int) 0 := ⟨wt_mem 1072 (by decide +kernel) rfl, wt_mem 69 (by decide +kernel) rfl, by decide +kernel, by decide⟩
set_option maxRecDepth 20000 in
theorem cbX11_likeOf : CB yX11_likeOf cX11_likeOf 2 (some .int) 1 := ⟨wt_mem 1076 (by decide +kernel) rfl, wt_mem 69 (by decide +kernel) rfl, by decide +kernel, by decide⟩
set_option maxRecDepth 20000 in
theorem cbX11_bits : CB yX11_bits cX11_bits 3 (some .int) 1 := ⟨wt_mem 1079 (by decide +kernel) rfl, wt_mem 69 (by decide +kernel) rfl, by decide +kernel, by decide⟩
set_option maxRecDepth 20000 in
theorem cbX11_mayBe : CB yX11_mayBe cX11_mayBe 3 (some .int) 0 := ⟨wt_mem 1083 (by decide +kernel) rfl, wt_mem 69 (by decide +kernel) rfl, by decide +kernel, by decide⟩
set_option maxRecDepth 20000 in
theorem cbX11_groups : CB yX11_groups cX11_groups 7 (some .int) 1 := ⟨wt_mem 1087 (by decide +kernel) rfl, wt_mem 69 (by decide +kernel) rfl, by decide +kernel, by decide⟩
set_option maxRecDepth 20000 in
theorem cbX11_has : CB yX11_has cX11_has 2 (some .boolean) 2 := ⟨wt_mem 1090 (by decide +kernel) rfl, wt_mem 69 (by decide +kernel) rfl, by decide +kernel, by decide⟩
set_option maxRecDepth 20000 in
theorem cbX11_groupOf : CB yX11_groupOf cX11_groupOf 7 (some .int) 1 := ⟨wt_mem 1094 (by decide +kernel) rfl, wt_mem 69 (by decide +kernel) rfl, by decide +kernel, by decide⟩
set_option maxRecDepth 20000 in
theorem cbX11_around : CB yX11_around cX11_around 4 (some .int) 1 := ⟨wt_mem 1098 (by decide +kernel) rfl, wt_mem 69 (by decide +kernel) rfl, by decide +kernel, by decide⟩
set_option maxRecDepth 20000 in
theorem cbX11_border : CB yX11_border cX11_border 4 (some .int) 0 := ⟨wt_mem 1102 (by decide +kernel) rfl, wt_mem 69 (by decide +kernel) rfl, by decide +kernel, by decide⟩
set_option maxRecDepth 20000 in
theorem cbX11_fullest : CB yX11_fullest cX11_fullest 6 (some .int) 0 := ⟨wt_mem 1106 (by decide +kernel) rfl, wt_mem 69 (by decide +kernel) rfl, by decide +kernel, by decide⟩
set_option maxRecDepth 20000 in
theorem cbX11_cell : CB yX11_cell cX11_cell 2 (some .int) 1 := ⟨wt_mem 1110 (by decide +kernel) rfl, wt_mem 69 (by decide +kernel) rfl, by decide +kernel, by decide⟩
set_option maxRecDepth 20000 in
theorem cbX11_isCell : CB yX11_isCell cX11_isCell 2 (some .boolean) 1 := ⟨wt_mem 1114 (by decide +kernel) rfl, wt_mem 69 (by decide +kernel) rfl, by decide +kernel, by decide⟩
set_option maxRecDepth 20000 in
theorem cbX11_leak : CB yX11_leak cX11_leak 2 (some .int) 1 := ⟨wt_mem 1119 (by decide +kernel) rfl, wt_mem 69 (by decide +kernel) rfl, by decide +kernel, by decide⟩
set_option maxRecDepth 20000 in
theorem cbX11_isLeak : CB yX11_isLeak cX11_isLeak 2 (some .boolean) 1 := ⟨wt_mem 1123 (by decide +kernel) rfl, wt_mem 69 (by decide +kernel) rfl, by decide +kernel, by decide⟩
set_option maxRecDepth 20000 in
theorem cbX11_crack : CB yX11_crack cX11_crack 3 (some .int) 2 := ⟨wt_mem 1127 (by decide +kernel) rfl, wt_mem 69 (by decide +kernel) rfl, by decide +kernel, by decide⟩
set_option maxRecDepth 20000 in
theorem cbX11_isCrack : CB yX11_isCrack cX11_isCrack 2 (some .boolean) 1 := ⟨wt_mem 1131 (by decide +kernel) rfl, wt_mem 69 (by decide +kernel) rfl, by decide +kernel, by decide⟩
set_option maxRecDepth 20000 in
theorem cbX11_likeness : CB yX11_likeness cX11_likeness 3 (some .int) 2 := ⟨wt_mem 1135 (by decide +kernel) rfl, wt_mem 69 (by decide +kernel) rfl, by decide +kernel, by decide⟩
set_option maxRecDepth 20000 in
theorem cbX11_isLike : CB yX11_isLike cX11_isLike 2 (some .boolean) 1 := ⟨wt_mem 1139 (by decide +kernel) rfl, wt_mem 69 (by decide +kernel) rfl, by decide +kernel, by decide⟩
set_option maxRecDepth 20000 in
theorem cbX11_day : CB yX11_day cX11_day 4 (some .int) 2 := ⟨wt_mem 1143 (by decide +kernel) rfl, wt_mem 69 (by decide +kernel) rfl, by decide +kernel, by decide⟩
set_option maxRecDepth 20000 in
theorem cbX11_remember : CB yX11_remember cX11_remember 2 none 0 := ⟨wt_mem 1150 (by decide +kernel) rfl, wt_mem 69 (by decide +kernel) rfl, by decide +kernel, by decide⟩
set_option maxRecDepth 20000 in
theorem cbX11_pass : CB yX11_pass cX11_pass 4 none 1 := ⟨wt_mem 1154 (by decide +kernel) rfl, wt_mem 69 (by decide +kernel) rfl, by decide +kernel, by decide⟩
set_option maxRecDepth 20000 in
theorem cbX11_bound : CB yX11_bound cX11_bound 1 (some .int) 1 := ⟨wt_mem 1157 (by decide +kernel) rfl, wt_mem 69 (by decide +kernel) rfl, by decide +kernel, by decide⟩
set_option maxRecDepth 20000 in
theorem cbX11_runFrom : CB yX11_runFrom cX11_runFrom 5 none 1 := ⟨wt_mem 1161 (by decide +kernel) rfl, wt_mem 69 (by decide +kernel) rfl, by decide +kernel, by decide⟩
set_option maxRecDepth 20000 in
theorem cbX11_give : CB yX11_give cX11_give 3 none 2 := ⟨wt_mem 1165 (by decide +kernel) rfl, wt_mem 69 (by decide +kernel) rfl, by decide +kernel, by decide⟩
set_option maxRecDepth 20000 in
theorem cbX11_look : CB yX11_look cX11_look 1 (some .int) 0 := ⟨wt_mem 1169 (by decide +kernel) rfl, wt_mem 69 (by decide +kernel) rfl, by decide +kernel, by decide⟩
set_option maxRecDepth 20000 in
theorem cbX11_lookNow : CB yX11_lookNow cX11_lookNow 4 none 0 := ⟨wt_mem 1173 (by decide +kernel) rfl, wt_mem 69 (by decide +kernel) rfl, by decide +kernel, by decide⟩
set_option maxRecDepth 20000 in
theorem cbX11_brush : CB yX11_brush cX11_brush 3 (some .int) 1 := ⟨wt_mem 1177 (by decide +kernel) rfl, wt_mem 69 (by decide +kernel) rfl, by decide +kernel, by decide⟩
set_option maxRecDepth 20000 in
theorem cbX11_lead : CB yX11_lead cX11_lead 4 (some .int) 2 := ⟨wt_mem 1181 (by decide +kernel) rfl, wt_mem 69 (by decide +kernel) rfl, by decide +kernel, by decide⟩
set_option maxRecDepth 20000 in
theorem cbX11_wind : CB yX11_wind cX11_wind 3 (some .int) 1 := ⟨wt_mem 1185 (by decide +kernel) rfl, wt_mem 69 (by decide +kernel) rfl, by decide +kernel, by decide⟩
set_option maxRecDepth 20000 in
theorem cbX11_fill : CB yX11_fill cX11_fill 4 (some .int) 2 := ⟨wt_mem 1190 (by decide +kernel) rfl, wt_mem 69 (by decide +kernel) rfl, by decide +kernel, by decide⟩
set_option maxRecDepth 20000 in
theorem cbX11_drift : CB yX11_drift cX11_drift 3 (some .int) 1 := ⟨wt_mem 1194 (by decide +kernel) rfl, wt_mem 69 (by decide +kernel) rfl, by decide +kernel, by decide⟩
set_option maxRecDepth 20000 in
theorem cbX11_dayByDraws : CB yX11_dayByDraws cX11_dayByDraws 3 none 0 := ⟨wt_mem 1198 (by decide +kernel) rfl, wt_mem 69 (by decide +kernel) rfl, by decide +kernel, by decide⟩
set_option maxRecDepth 20000 in
theorem cbX11_draw : CB yX11_draw cX11_draw 2 (some .int) 1 := ⟨wt_mem 1202 (by decide +kernel) rfl, wt_mem 69 (by decide +kernel) rfl, by decide +kernel, by decide⟩
set_option maxRecDepth 20000 in
theorem cbX11_undo : CB yX11_undo cX11_undo 2 (some .int) 0 := ⟨wt_mem 1210 (by decide +kernel) rfl, wt_mem 69 (by decide +kernel) rfl, by decide +kernel, by decide⟩
set_option maxRecDepth 20000 in
theorem cbX11_shown : CB yX11_shown cX11_shown 3 (some .int) 2 := ⟨wt_mem 1214 (by decide +kernel) rfl, wt_mem 69 (by decide +kernel) rfl, by decide +kernel, by decide⟩
set_option maxRecDepth 20000 in
theorem cbX11_shownBy : CB yX11_shownBy cX11_shownBy 4 (some .int) 2 := ⟨wt_mem 1218 (by decide +kernel) rfl, wt_mem 69 (by decide +kernel) rfl, by decide +kernel, by decide⟩
set_option maxRecDepth 20000 in
theorem cbX11_first : CB yX11_first cX11_first 4 (some .int) 2 := ⟨wt_mem 1222 (by decide +kernel) rfl, wt_mem 69 (by decide +kernel) rfl, by decide +kernel, by decide⟩
set_option maxRecDepth 20000 in
theorem cbX11_leadTo : CB yX11_leadTo cX11_leadTo 11 (some .int) 5 := ⟨wt_mem 1227 (by decide +kernel) rfl, wt_mem 69 (by decide +kernel) rfl, by decide +kernel, by decide⟩
set_option maxRecDepth 20000 in
theorem cbX11_often : CB yX11_often cX11_often 8 (some .int) 4 := ⟨wt_mem 1232 (by decide +kernel) rfl, wt_mem 69 (by decide +kernel) rfl, by decide +kernel, by decide⟩
set_option maxRecDepth 20000 in
theorem cbX11_shownByLooks : CB yX11_shownByLooks cX11_shownByLooks 5 (some .int) 3 := ⟨wt_mem 1237 (by decide +kernel) rfl, wt_mem 69 (by decide +kernel) rfl, by decide +kernel, by decide⟩
set_option maxRecDepth 20000 in
theorem cbX11_wasRain : CB yX11_wasRain cX11_wasRain 4 (some .int) 1 := ⟨wt_mem 1241 (by decide +kernel) rfl, wt_mem 69 (by decide +kernel) rfl, by decide +kernel, by decide⟩
set_option maxRecDepth 20000 in
theorem cbX11_rainToTell : CB yX11_rainToTell cX11_rainToTell 6 (some .int) 1 := ⟨wt_mem 1245 (by decide +kernel) rfl, wt_mem 69 (by decide +kernel) rfl, by decide +kernel, by decide⟩
set_option maxRecDepth 20000 in
theorem cbX11_leftBy : CB yX11_leftBy cX11_leftBy 5 (some .int) 1 := ⟨wt_mem 1249 (by decide +kernel) rfl, wt_mem 69 (by decide +kernel) rfl, by decide +kernel, by decide⟩
set_option maxRecDepth 20000 in
theorem cbX11_dryIn : CB yX11_dryIn cX11_dryIn 3 (some .int) 0 := ⟨wt_mem 1253 (by decide +kernel) rfl, wt_mem 69 (by decide +kernel) rfl, by decide +kernel, by decide⟩
set_option maxRecDepth 20000 in
theorem cbX11_either : CB yX11_either cX11_either 5 (some .int) 3 := ⟨wt_mem 1257 (by decide +kernel) rfl, wt_mem 69 (by decide +kernel) rfl, by decide +kernel, by decide⟩
set_option maxRecDepth 20000 in
theorem cbX11_rainy : CB yX11_rainy cX11_rainy 6 (some .int) 2 := ⟨wt_mem 1261 (by decide +kernel) rfl, wt_mem 69 (by decide +kernel) rfl, by decide +kernel, by decide⟩
set_option maxRecDepth 20000 in
theorem cbX11_write : CB yX11_write cX11_write 3 (some .int) 2 := ⟨wt_mem 1267 (by decide +kernel) rfl, wt_mem 69 (by decide +kernel) rfl, by decide +kernel, by decide⟩
set_option maxRecDepth 20000 in
theorem cbX11_tear : CB yX11_tear cX11_tear 2 (some .int) 0 := ⟨wt_mem 1271 (by decide +kernel) rfl, wt_mem 69 (by decide +kernel) rfl, by decide +kernel, by decide⟩
set_option maxRecDepth 20000 in
theorem cbX11_judge : CB yX11_judge cX11_judge 2 (some .int) 0 := ⟨wt_mem 1275 (by decide +kernel) rfl, wt_mem 69 (by decide +kernel) rfl, by decide +kernel, by decide⟩
set_option maxRecDepth 20000 in
theorem cbX11_seed : CB yX11_seed cX11_seed 3 (some .int) 1 := ⟨wt_mem 1279 (by decide +kernel) rfl, wt_mem 69 (by decide +kernel) rfl, by decide +kernel, by decide⟩
set_option maxRecDepth 20000 in
theorem cbX11_keep : CB yX11_keep cX11_keep 3 (some .int) 1 := ⟨wt_mem 1283 (by decide +kernel) rfl, wt_mem 69 (by decide +kernel) rfl, by decide +kernel, by decide⟩
set_option maxRecDepth 20000 in
theorem cbX11_goBack : CB yX11_goBack cX11_goBack 3 (some .int) 1 := ⟨wt_mem 1287 (by decide +kernel) rfl, wt_mem 69 (by decide +kernel) rfl, by decide +kernel, by decide⟩
set_option maxRecDepth 20000 in
theorem mL_13 : CV RL 13 yX10_feed cX10_feed 2 (some .int) 1 9 := ⟨cbX10_feed, wt_mem 374 (by decide +kernel) rfl, wt_mem 375 (by decide +kernel) rfl, wt_mem 376 (by decide +kernel) rfl, by decide, rfl⟩
set_option maxRecDepth 20000 in
theorem mX10_75 : CS RX10 75 yX10_outside cX10_outside 3 (some .boolean) 3 := ⟨cbX10_outside, wt_mem 378 (by decide +kernel) rfl, wt_mem 379 (by decide +kernel) rfl⟩
set_option maxRecDepth 20000 in
theorem mX10_80 : CV RX10 80 yX8_add cX8_add 2 (some .int) 1 7 := ⟨cbX8_add, wt_mem 382 (by decide +kernel) rfl, wt_mem 383 (by decide +kernel) rfl, wt_mem 384 (by decide +kernel) rfl, by decide, rfl⟩
set_option maxRecDepth 20000 in
theorem mL_18 : CV RL 18 yX10_wall cX10_wall 3 (some .int) 0 9 := ⟨cbX10_wall, wt_mem 390 (by decide +kernel) rfl, wt_mem 391 (by decide +kernel) rfl, wt_mem 392 (by decide +kernel) rfl, by decide, rfl⟩
set_option maxRecDepth 20000 in
theorem mX10_84 : CV RX10 84 yX8_read cX8_read 3 (some .boolean) 1 7 := ⟨cbX8_read, wt_mem 394 (by decide +kernel) rfl, wt_mem 395 (by decide +kernel) rfl, wt_mem 396 (by decide +kernel) rfl, by decide, rfl⟩
set_option maxRecDepth 20000 in
theorem mX8_37 : CV RX8 37 yX7_clear cX7_clear 1 none 0 6 := ⟨cbX7_clear, wt_mem 398 (by decide +kernel) rfl, wt_mem 399 (by decide +kernel) rfl, wt_mem 400 (by decide +kernel) rfl, by decide, rfl⟩
set_option maxRecDepth 20000 in
theorem mX7_24 : CV RX7 24 yX7_resize cX7_resize 4 none 2 6 := ⟨cbX7_resize, wt_mem 402 (by decide +kernel) rfl, wt_mem 403 (by decide +kernel) rfl, wt_mem 404 (by decide +kernel) rfl, by decide, rfl⟩
set_option maxRecDepth 20000 in
theorem mX8_42 : CV RX8 42 yX8_peek cX8_peek 1 (some .int) 0 7 := ⟨cbX8_peek, wt_mem 406 (by decide +kernel) rfl, wt_mem 408 (by decide +kernel) rfl, wt_mem 0 (by decide +kernel) rfl, by decide, rfl⟩
set_option maxRecDepth 20000 in
theorem mX8_46 : CV RX8 46 yX8_readClause cX8_readClause 3 none 1 7 := ⟨cbX8_readClause, wt_mem 413 (by decide +kernel) rfl, wt_mem 415 (by decide +kernel) rfl, wt_mem 1 (by decide +kernel) rfl, by decide, rfl⟩
set_option maxRecDepth 20000 in
theorem mX8_53 : CV RX8 53 yX8_fail cX8_fail 3 none 2 7 := ⟨cbX8_fail, wt_mem 417 (by decide +kernel) rfl, wt_mem 419 (by decide +kernel) rfl, wt_mem 2 (by decide +kernel) rfl, by decide, rfl⟩
set_option maxRecDepth 20000 in
theorem mX8_57 : CV RX8 57 yX8_readSize cX8_readSize 4 none 1 7 := ⟨cbX8_readSize, wt_mem 421 (by decide +kernel) rfl, wt_mem 423 (by decide +kernel) rfl, wt_mem 3 (by decide +kernel) rfl, by decide, rfl⟩
set_option maxRecDepth 20000 in
theorem mX8_72 : CV RX8 72 yX8_takeWord cX8_takeWord 2 none 1 7 := ⟨cbX8_takeWord, wt_mem 425 (by decide +kernel) rfl, wt_mem 427 (by decide +kernel) rfl, wt_mem 4 (by decide +kernel) rfl, by decide, rfl⟩
set_option maxRecDepth 20000 in
theorem mX8_76 : CV RX8 76 yX8_takeNumber cX8_takeNumber 4 (some .int) 2 7 := ⟨cbX8_takeNumber, wt_mem 429 (by decide +kernel) rfl, wt_mem 431 (by decide +kernel) rfl, wt_mem 5 (by decide +kernel) rfl, by decide, rfl⟩
set_option maxRecDepth 20000 in
theorem mX8_129 : CS RX8 129 yX8_isFigure cX8_isFigure 1 (some .boolean) 1 := ⟨cbX8_isFigure, wt_mem 433 (by decide +kernel) rfl, wt_mem 434 (by decide +kernel) rfl⟩
set_option maxRecDepth 20000 in
theorem mX8_80 : CV RX8 80 yX8_takeSign cX8_takeSign 2 (some .boolean) 1 7 := ⟨cbX8_takeSign, wt_mem 437 (by decide +kernel) rfl, wt_mem 439 (by decide +kernel) rfl, wt_mem 6 (by decide +kernel) rfl, by decide, rfl⟩
set_option maxRecDepth 20000 in
theorem mX8_84 : CV RX8 84 yX7_resize cX7_resize 4 none 2 6 := ⟨cbX7_resize, wt_mem 441 (by decide +kernel) rfl, wt_mem 403 (by decide +kernel) rfl, wt_mem 404 (by decide +kernel) rfl, by decide, rfl⟩
set_option maxRecDepth 20000 in
theorem mX8_60 : CV RX8 60 yX8_readLeak cX8_readLeak 3 none 1 7 := ⟨cbX8_readLeak, wt_mem 442 (by decide +kernel) rfl, wt_mem 444 (by decide +kernel) rfl, wt_mem 7 (by decide +kernel) rfl, by decide, rfl⟩
set_option maxRecDepth 20000 in
theorem mX8_90 : CV RX8 90 yX7_cells cX7_cells 1 (some .int) 0 6 := ⟨cbX7_cells, wt_mem 446 (by decide +kernel) rfl, wt_mem 447 (by decide +kernel) rfl, wt_mem 448 (by decide +kernel) rfl, by decide, rfl⟩
set_option maxRecDepth 20000 in
theorem mX8_93 : CV RX8 93 yX7_addLeak cX7_addLeak 2 none 1 6 := ⟨cbX7_addLeak, wt_mem 450 (by decide +kernel) rfl, wt_mem 451 (by decide +kernel) rfl, wt_mem 452 (by decide +kernel) rfl, by decide, rfl⟩
set_option maxRecDepth 20000 in
theorem mX8_63 : CV RX8 63 yX8_readCrack cX8_readCrack 4 none 1 7 := ⟨cbX8_readCrack, wt_mem 455 (by decide +kernel) rfl, wt_mem 457 (by decide +kernel) rfl, wt_mem 8 (by decide +kernel) rfl, by decide, rfl⟩
set_option maxRecDepth 20000 in
theorem mX8_100 : CV RX8 100 yX7_touch cX7_touch 5 (some .boolean) 2 6 := ⟨cbX7_touch, wt_mem 459 (by decide +kernel) rfl, wt_mem 460 (by decide +kernel) rfl, wt_mem 461 (by decide +kernel) rfl, by decide, rfl⟩
set_option maxRecDepth 20000 in
theorem mX7_61 : CS RX7 61 yJ9_min_7cf53 cJ9_min_7cf53 2 (some .int) 2 := ⟨cbJ9_min_7cf53, wt_mem 463 (by decide +kernel) rfl, wt_mem 464 (by decide +kernel) rfl⟩
set_option maxRecDepth 20000 in
theorem mX7_67 : CS RX7 67 yJ9_max_7cf53 cJ9_max_7cf53 2 (some .int) 2 := ⟨cbJ9_max_7cf53, wt_mem 466 (by decide +kernel) rfl, wt_mem 467 (by decide +kernel) rfl⟩
set_option maxRecDepth 20000 in
theorem mX7_70 : CV RX7 70 yX7_columnOf cX7_columnOf 2 (some .int) 1 6 := ⟨cbX7_columnOf, wt_mem 469 (by decide +kernel) rfl, wt_mem 470 (by decide +kernel) rfl, wt_mem 471 (by decide +kernel) rfl, by decide, rfl⟩
set_option maxRecDepth 20000 in
theorem mX8_104 : CV RX8 104 yX7_isCracked cX7_isCracked 4 (some .boolean) 2 6 := ⟨cbX7_isCracked, wt_mem 473 (by decide +kernel) rfl, wt_mem 474 (by decide +kernel) rfl, wt_mem 475 (by decide +kernel) rfl, by decide, rfl⟩
set_option maxRecDepth 20000 in
theorem mX8_110 : CV RX8 110 yX7_addCrack cX7_addCrack 3 none 2 6 := ⟨cbX7_addCrack, wt_mem 477 (by decide +kernel) rfl, wt_mem 478 (by decide +kernel) rfl, wt_mem 479 (by decide +kernel) rfl, by decide, rfl⟩
set_option maxRecDepth 20000 in
theorem mX8_66 : CV RX8 66 yX8_readFace cX8_readFace 4 none 1 7 := ⟨cbX8_readFace, wt_mem 481 (by decide +kernel) rfl, wt_mem 483 (by decide +kernel) rfl, wt_mem 9 (by decide +kernel) rfl, by decide, rfl⟩
set_option maxRecDepth 20000 in
theorem mX8_119 : CV RX8 119 yX7_addFace cX7_addFace 2 none 1 6 := ⟨cbX7_addFace, wt_mem 485 (by decide +kernel) rfl, wt_mem 486 (by decide +kernel) rfl, wt_mem 487 (by decide +kernel) rfl, by decide, rfl⟩
set_option maxRecDepth 20000 in
theorem mX8_69 : CV RX8 69 yX8_readWind cX8_readWind 3 none 1 7 := ⟨cbX8_readWind, wt_mem 489 (by decide +kernel) rfl, wt_mem 491 (by decide +kernel) rfl, wt_mem 10 (by decide +kernel) rfl, by decide, rfl⟩
set_option maxRecDepth 20000 in
theorem mX10_92 : CV RX10 92 yX1_begin cX1_begin 3 none 1 1 := ⟨cbX1_begin, wt_mem 493 (by decide +kernel) rfl, wt_mem 494 (by decide +kernel) rfl, wt_mem 495 (by decide +kernel) rfl, by decide, rfl⟩
set_option maxRecDepth 20000 in
theorem mX10_96 : CV RX10 96 yX0_clear cX0_clear 1 none 0 0 := ⟨cbX0_clear, wt_mem 498 (by decide +kernel) rfl, wt_mem 499 (by decide +kernel) rfl, wt_mem 500 (by decide +kernel) rfl, by decide, rfl⟩
set_option maxRecDepth 20000 in
theorem mX10_99 : CV RX10 99 yX6_clear cX6_clear 1 none 0 5 := ⟨cbX6_clear, wt_mem 502 (by decide +kernel) rfl, wt_mem 503 (by decide +kernel) rfl, wt_mem 504 (by decide +kernel) rfl, by decide, rfl⟩
set_option maxRecDepth 20000 in
theorem mX10_104 : CV RX10 104 yX7_cells cX7_cells 1 (some .int) 0 6 := ⟨cbX7_cells, wt_mem 506 (by decide +kernel) rfl, wt_mem 447 (by decide +kernel) rfl, wt_mem 448 (by decide +kernel) rfl, by decide, rfl⟩
set_option maxRecDepth 20000 in
theorem mL_23 : CV RL 23 yX10_fault cX10_fault 1 (some .int) 0 9 := ⟨cbX10_fault, wt_mem 507 (by decide +kernel) rfl, wt_mem 508 (by decide +kernel) rfl, wt_mem 509 (by decide +kernel) rfl, by decide, rfl⟩
set_option maxRecDepth 20000 in
theorem mL_27 : CV RL 27 yX10_told cX10_told 2 (some .int) 1 9 := ⟨cbX10_told, wt_mem 511 (by decide +kernel) rfl, wt_mem 512 (by decide +kernel) rfl, wt_mem 513 (by decide +kernel) rfl, by decide, rfl⟩
set_option maxRecDepth 20000 in
theorem mX10_135 : CV RX10 135 yX1_marks cX1_marks 3 (some .int) 0 1 := ⟨cbX1_marks, wt_mem 515 (by decide +kernel) rfl, wt_mem 516 (by decide +kernel) rfl, wt_mem 517 (by decide +kernel) rfl, by decide, rfl⟩
set_option maxRecDepth 20000 in
theorem mX10_147 : CV RX10 147 yX1_allWet cX1_allWet 3 (some .int) 0 1 := ⟨cbX1_allWet, wt_mem 519 (by decide +kernel) rfl, wt_mem 520 (by decide +kernel) rfl, wt_mem 521 (by decide +kernel) rfl, by decide, rfl⟩
set_option maxRecDepth 20000 in
theorem mX10_150 : CS RX10 150 yX5_whom cX5_whom 6 (some .int) 2 := ⟨cbX5_whom, wt_mem 523 (by decide +kernel) rfl, wt_mem 524 (by decide +kernel) rfl⟩
set_option maxRecDepth 20000 in
theorem mX5_54 : CS RX5 54 yX5_like cX5_like 3 (some .int) 3 := ⟨cbX5_like, wt_mem 527 (by decide +kernel) rfl, wt_mem 528 (by decide +kernel) rfl⟩
set_option maxRecDepth 20000 in
theorem mX5_33 : CV RX5 33 yX7_cells cX7_cells 1 (some .int) 0 6 := ⟨cbX7_cells, wt_mem 530 (by decide +kernel) rfl, wt_mem 447 (by decide +kernel) rfl, wt_mem 448 (by decide +kernel) rfl, by decide, rfl⟩
set_option maxRecDepth 20000 in
theorem mX5_27 : CS RX5 27 yJ6_bitCount_0f7a4 cJ6_bitCount_0f7a4 1 (some .int) 1 := ⟨cbJ6_bitCount_0f7a4, wt_mem 531 (by decide +kernel) rfl, wt_mem 532 (by decide +kernel) rfl⟩
set_option maxRecDepth 20000 in
theorem mX10_156 : CS RX10 156 yX5_mayBe cX5_mayBe 4 (some .int) 2 := ⟨cbX5_mayBe, wt_mem 537 (by decide +kernel) rfl, wt_mem 538 (by decide +kernel) rfl⟩
set_option maxRecDepth 20000 in
theorem mX10_159 : CS RX10 159 yX5_groups cX5_groups 5 (some .int) 2 := ⟨cbX5_groups, wt_mem 540 (by decide +kernel) rfl, wt_mem 541 (by decide +kernel) rfl⟩
set_option maxRecDepth 20000 in
theorem mX5_37 : CS RX5 37 yX5_groupOf cX5_groupOf 7 (some .int) 3 := ⟨cbX5_groupOf, wt_mem 543 (by decide +kernel) rfl, wt_mem 544 (by decide +kernel) rfl⟩
set_option maxRecDepth 20000 in
theorem mX5_21 : CS RX5 21 yX5_besideSet cX5_besideSet 3 (some .int) 3 := ⟨cbX5_besideSet, wt_mem 546 (by decide +kernel) rfl, wt_mem 547 (by decide +kernel) rfl⟩
set_option maxRecDepth 20000 in
theorem mX10_162 : CS RX10 162 yX5_greatestGroup cX5_greatestGroup 6 (some .int) 2 := ⟨cbX5_greatestGroup, wt_mem 549 (by decide +kernel) rfl, wt_mem 550 (by decide +kernel) rfl⟩
set_option maxRecDepth 20000 in
theorem mX10_165 : CS RX10 165 yX5_border cX5_border 4 (some .int) 2 := ⟨cbX5_border, wt_mem 552 (by decide +kernel) rfl, wt_mem 553 (by decide +kernel) rfl⟩
set_option maxRecDepth 20000 in
theorem mX10_168 : CS RX10 168 yX5_fullest cX5_fullest 6 (some .int) 2 := ⟨cbX5_fullest, wt_mem 555 (by decide +kernel) rfl, wt_mem 556 (by decide +kernel) rfl⟩
set_option maxRecDepth 20000 in
theorem mL_31 : CV RL 31 yX10_cell cX10_cell 2 (some .int) 1 9 := ⟨cbX10_cell, wt_mem 558 (by decide +kernel) rfl, wt_mem 559 (by decide +kernel) rfl, wt_mem 560 (by decide +kernel) rfl, by decide, rfl⟩
set_option maxRecDepth 20000 in
theorem mX10_173 : CV RX10 173 yX7_hasCell cX7_hasCell 2 (some .boolean) 1 6 := ⟨cbX7_hasCell, wt_mem 562 (by decide +kernel) rfl, wt_mem 563 (by decide +kernel) rfl, wt_mem 564 (by decide +kernel) rfl, by decide, rfl⟩
set_option maxRecDepth 20000 in
theorem mX7_53 : CV RX7 53 yX7_cells cX7_cells 1 (some .int) 0 6 := ⟨cbX7_cells, wt_mem 566 (by decide +kernel) rfl, wt_mem 447 (by decide +kernel) rfl, wt_mem 448 (by decide +kernel) rfl, by decide, rfl⟩
set_option maxRecDepth 20000 in
theorem mX10_181 : CS RX10 181 yX10_pick cX10_pick 2 (some .int) 2 := ⟨cbX10_pick, wt_mem 567 (by decide +kernel) rfl, wt_mem 411 (by decide +kernel) rfl⟩
set_option maxRecDepth 20000 in
theorem mL_35 : CV RL 35 yX10_leak cX10_leak 2 (some .int) 1 9 := ⟨cbX10_leak, wt_mem 569 (by decide +kernel) rfl, wt_mem 570 (by decide +kernel) rfl, wt_mem 571 (by decide +kernel) rfl, by decide, rfl⟩
set_option maxRecDepth 20000 in
theorem mX10_186 : CV RX10 186 yX7_hasLeak cX7_hasLeak 2 (some .boolean) 1 6 := ⟨cbX7_hasLeak, wt_mem 573 (by decide +kernel) rfl, wt_mem 574 (by decide +kernel) rfl, wt_mem 575 (by decide +kernel) rfl, by decide, rfl⟩
set_option maxRecDepth 20000 in
theorem mL_39 : CV RL 39 yX10_crack cX10_crack 3 (some .int) 2 9 := ⟨cbX10_crack, wt_mem 577 (by decide +kernel) rfl, wt_mem 578 (by decide +kernel) rfl, wt_mem 579 (by decide +kernel) rfl, by decide, rfl⟩
set_option maxRecDepth 20000 in
theorem mX10_192 : CV RX10 192 yX7_hasCrack cX7_hasCrack 2 (some .boolean) 1 6 := ⟨cbX7_hasCrack, wt_mem 581 (by decide +kernel) rfl, wt_mem 582 (by decide +kernel) rfl, wt_mem 583 (by decide +kernel) rfl, by decide, rfl⟩
set_option maxRecDepth 20000 in
theorem mX10_201 : CV RX10 201 yX1_isFilled cX1_isFilled 2 (some .boolean) 1 1 := ⟨cbX1_isFilled, wt_mem 585 (by decide +kernel) rfl, wt_mem 586 (by decide +kernel) rfl, wt_mem 587 (by decide +kernel) rfl, by decide, rfl⟩
set_option maxRecDepth 20000 in
theorem mL_44 : CV RL 44 yX10_likeness cX10_likeness 4 (some .int) 2 9 := ⟨cbX10_likeness, wt_mem 589 (by decide +kernel) rfl, wt_mem 590 (by decide +kernel) rfl, wt_mem 591 (by decide +kernel) rfl, by decide, rfl⟩
set_option maxRecDepth 20000 in
theorem mX10_204 : CV RX10 204 yX7_hasFace cX7_hasFace 2 (some .boolean) 1 6 := ⟨cbX7_hasFace, wt_mem 593 (by decide +kernel) rfl, wt_mem 594 (by decide +kernel) rfl, wt_mem 595 (by decide +kernel) rfl, by decide, rfl⟩
set_option maxRecDepth 20000 in
theorem mX10_210 : CS RX10 210 yX5_like cX5_like 3 (some .int) 3 := ⟨cbX5_like, wt_mem 597 (by decide +kernel) rfl, wt_mem 528 (by decide +kernel) rfl⟩
set_option maxRecDepth 20000 in
theorem mX10_214 : CS RX10 214 yJ6_bitCount_0f7a4 cJ6_bitCount_0f7a4 1 (some .int) 1 := ⟨cbJ6_bitCount_0f7a4, wt_mem 598 (by decide +kernel) rfl, wt_mem 532 (by decide +kernel) rfl⟩
set_option maxRecDepth 20000 in
theorem mL_48 : CV RL 48 yX10_day cX10_day 3 (some .int) 2 9 := ⟨cbX10_day, wt_mem 599 (by decide +kernel) rfl, wt_mem 600 (by decide +kernel) rfl, wt_mem 601 (by decide +kernel) rfl, by decide, rfl⟩
set_option maxRecDepth 20000 in
theorem mX10_219 : CV RX10 219 yX10_noWall cX10_noWall 1 (some .boolean) 0 9 := ⟨cbX10_noWall, wt_mem 603 (by decide +kernel) rfl, wt_mem 605 (by decide +kernel) rfl, wt_mem 11 (by decide +kernel) rfl, by decide, rfl⟩
set_option maxRecDepth 20000 in
theorem mX10_225 : CV RX10 225 yX6_push cX6_push 2 none 1 5 := ⟨cbX6_push, wt_mem 609 (by decide +kernel) rfl, wt_mem 610 (by decide +kernel) rfl, wt_mem 611 (by decide +kernel) rfl, by decide, rfl⟩
set_option maxRecDepth 20000 in
theorem mX6_25 : CV RX6 25 yX1_copyFrom cX1_copyFrom 2 none 1 1 := ⟨cbX1_copyFrom, wt_mem 613 (by decide +kernel) rfl, wt_mem 614 (by decide +kernel) rfl, wt_mem 615 (by decide +kernel) rfl, by decide, rfl⟩
set_option maxRecDepth 20000 in
theorem mX1_42 : Cond.methodLink RX1 42 arraycopyName ∈ WT := wt_mem 617 (by decide +kernel) rfl
set_option maxRecDepth 20000 in
theorem mX6_29 : CS RX6 29 yJ9_min_7cf53 cJ9_min_7cf53 2 (some .int) 2 := ⟨cbJ9_min_7cf53, wt_mem 620 (by decide +kernel) rfl, wt_mem 464 (by decide +kernel) rfl⟩
set_option maxRecDepth 20000 in
theorem mX10_229 : CV RX10 229 yX3_rainDays cX3_rainDays 6 none 4 3 := ⟨cbX3_rainDays, wt_mem 621 (by decide +kernel) rfl, wt_mem 622 (by decide +kernel) rfl, wt_mem 623 (by decide +kernel) rfl, by decide, rfl⟩
set_option maxRecDepth 20000 in
theorem mX3_18 : CV RX3 18 yX3_rainDay cX3_rainDay 6 none 3 3 := ⟨cbX3_rainDay, wt_mem 625 (by decide +kernel) rfl, wt_mem 626 (by decide +kernel) rfl, wt_mem 627 (by decide +kernel) rfl, by decide, rfl⟩
set_option maxRecDepth 20000 in
theorem mX3_40 : CS RX3 40 yJ9_min_7cf53 cJ9_min_7cf53 2 (some .int) 2 := ⟨cbJ9_min_7cf53, wt_mem 630 (by decide +kernel) rfl, wt_mem 464 (by decide +kernel) rfl⟩
set_option maxRecDepth 20000 in
theorem mX3_50 : Cond.methodLink RX3 50 arraycopyName ∈ WT := wt_mem 632 (by decide +kernel) rfl
set_option maxRecDepth 20000 in
theorem mX3_56 : CV RX3 56 yX3_runDownAndByWind cX3_runDownAndByWind 4 none 2 3 := ⟨cbX3_runDownAndByWind, wt_mem 633 (by decide +kernel) rfl, wt_mem 635 (by decide +kernel) rfl, wt_mem 12 (by decide +kernel) rfl, by decide, rfl⟩
set_option maxRecDepth 20000 in
theorem mX3_70 : CV RX3 70 yX7_below cX7_below 2 (some .int) 1 6 := ⟨cbX7_below, wt_mem 637 (by decide +kernel) rfl, wt_mem 638 (by decide +kernel) rfl, wt_mem 639 (by decide +kernel) rfl, by decide, rfl⟩
set_option maxRecDepth 20000 in
theorem mX3_74 : CV RX3 74 yX3_give cX3_give 4 none 3 3 := ⟨cbX3_give, wt_mem 641 (by decide +kernel) rfl, wt_mem 643 (by decide +kernel) rfl, wt_mem 13 (by decide +kernel) rfl, by decide, rfl⟩
set_option maxRecDepth 20000 in
theorem mX3_81 : CV RX3 81 yX7_beside cX7_beside 3 (some .int) 2 6 := ⟨cbX7_beside, wt_mem 645 (by decide +kernel) rfl, wt_mem 646 (by decide +kernel) rfl, wt_mem 647 (by decide +kernel) rfl, by decide, rfl⟩
set_option maxRecDepth 20000 in
theorem mX3_60 : CV RX3 60 yX3_runByCracks cX3_runByCracks 7 none 2 3 := ⟨cbX3_runByCracks, wt_mem 649 (by decide +kernel) rfl, wt_mem 651 (by decide +kernel) rfl, wt_mem 14 (by decide +kernel) rfl, by decide, rfl⟩
set_option maxRecDepth 20000 in
theorem mX3_87 : CV RX3 87 yX1_isFilled cX1_isFilled 2 (some .boolean) 1 1 := ⟨cbX1_isFilled, wt_mem 653 (by decide +kernel) rfl, wt_mem 586 (by decide +kernel) rfl, wt_mem 587 (by decide +kernel) rfl, by decide, rfl⟩
set_option maxRecDepth 20000 in
theorem mX3_63 : CV RX3 63 yX3_settle cX3_settle 5 none 2 3 := ⟨cbX3_settle, wt_mem 654 (by decide +kernel) rfl, wt_mem 656 (by decide +kernel) rfl, wt_mem 15 (by decide +kernel) rfl, by decide, rfl⟩
set_option maxRecDepth 20000 in
theorem mX3_97 : CS RX3 97 yJ9_max_7cf53 cJ9_max_7cf53 2 (some .int) 2 := ⟨cbJ9_max_7cf53, wt_mem 658 (by decide +kernel) rfl, wt_mem 467 (by decide +kernel) rfl⟩
set_option maxRecDepth 20000 in
theorem mX10_233 : CV RX10 233 yX1_markCount cX1_markCount 1 (some .int) 0 1 := ⟨cbX1_markCount, wt_mem 659 (by decide +kernel) rfl, wt_mem 660 (by decide +kernel) rfl, wt_mem 661 (by decide +kernel) rfl, by decide, rfl⟩
set_option maxRecDepth 20000 in
theorem mX1_48 : CV RX1 48 yX1_marks cX1_marks 3 (some .int) 0 1 := ⟨cbX1_marks, wt_mem 663 (by decide +kernel) rfl, wt_mem 516 (by decide +kernel) rfl, wt_mem 517 (by decide +kernel) rfl, by decide, rfl⟩
set_option maxRecDepth 20000 in
theorem mX1_52 : CS RX1 52 yJ6_bitCount_0f7a4 cJ6_bitCount_0f7a4 1 (some .int) 1 := ⟨cbJ6_bitCount_0f7a4, wt_mem 664 (by decide +kernel) rfl, wt_mem 532 (by decide +kernel) rfl⟩
set_option maxRecDepth 20000 in
theorem mL_52 : CV RL 52 yX10_look cX10_look 1 (some .int) 0 9 := ⟨cbX10_look, wt_mem 665 (by decide +kernel) rfl, wt_mem 666 (by decide +kernel) rfl, wt_mem 667 (by decide +kernel) rfl, by decide, rfl⟩
set_option maxRecDepth 20000 in
theorem mX10_236 : CV RX10 236 yX1_shrink cX1_shrink 4 none 1 1 := ⟨cbX1_shrink, wt_mem 669 (by decide +kernel) rfl, wt_mem 670 (by decide +kernel) rfl, wt_mem 671 (by decide +kernel) rfl, by decide, rfl⟩
set_option maxRecDepth 20000 in
theorem mX1_58 : CS RX1 58 yX5_lonely cX5_lonely 6 (some .int) 2 := ⟨cbX5_lonely, wt_mem 673 (by decide +kernel) rfl, wt_mem 674 (by decide +kernel) rfl⟩
set_option maxRecDepth 20000 in
theorem mL_56 : CV RL 56 yX10_brush cX10_brush 3 (some .int) 1 9 := ⟨cbX10_brush, wt_mem 676 (by decide +kernel) rfl, wt_mem 677 (by decide +kernel) rfl, wt_mem 678 (by decide +kernel) rfl, by decide, rfl⟩
set_option maxRecDepth 20000 in
theorem mX10_239 : CS RX10 239 yX10_put cX10_put 3 none 3 := ⟨cbX10_put, wt_mem 680 (by decide +kernel) rfl, wt_mem 388 (by decide +kernel) rfl⟩
set_option maxRecDepth 20000 in
theorem mL_60 : CV RL 60 yX10_lead cX10_lead 4 (some .int) 2 9 := ⟨cbX10_lead, wt_mem 681 (by decide +kernel) rfl, wt_mem 682 (by decide +kernel) rfl, wt_mem 683 (by decide +kernel) rfl, by decide, rfl⟩
set_option maxRecDepth 20000 in
theorem mL_64 : CV RL 64 yX10_wind cX10_wind 3 (some .int) 1 9 := ⟨cbX10_wind, wt_mem 685 (by decide +kernel) rfl, wt_mem 686 (by decide +kernel) rfl, wt_mem 687 (by decide +kernel) rfl, by decide, rfl⟩
set_option maxRecDepth 20000 in
theorem mL_68 : CV RL 68 yX10_fill cX10_fill 4 (some .int) 2 9 := ⟨cbX10_fill, wt_mem 689 (by decide +kernel) rfl, wt_mem 690 (by decide +kernel) rfl, wt_mem 691 (by decide +kernel) rfl, by decide, rfl⟩
set_option maxRecDepth 20000 in
theorem mL_73 : CV RL 73 yX10_drift cX10_drift 3 (some .int) 1 9 := ⟨cbX10_drift, wt_mem 693 (by decide +kernel) rfl, wt_mem 694 (by decide +kernel) rfl, wt_mem 695 (by decide +kernel) rfl, by decide, rfl⟩
set_option maxRecDepth 20000 in
theorem mX10_243 : CV RX10 243 yX10_driftOneDay cX10_driftOneDay 3 none 0 9 := ⟨cbX10_driftOneDay, wt_mem 697 (by decide +kernel) rfl, wt_mem 699 (by decide +kernel) rfl, wt_mem 16 (by decide +kernel) rfl, by decide, rfl⟩
set_option maxRecDepth 20000 in
theorem mX10_309 : CV RX10 309 yX2_draw cX2_draw 2 (some .int) 1 2 := ⟨cbX2_draw, wt_mem 701 (by decide +kernel) rfl, wt_mem 702 (by decide +kernel) rfl, wt_mem 703 (by decide +kernel) rfl, by decide, rfl⟩
set_option maxRecDepth 20000 in
theorem mX10_312 : CV RX10 312 yX3_rainDay cX3_rainDay 6 none 3 3 := ⟨cbX3_rainDay, wt_mem 708 (by decide +kernel) rfl, wt_mem 626 (by decide +kernel) rfl, wt_mem 627 (by decide +kernel) rfl, by decide, rfl⟩
set_option maxRecDepth 20000 in
theorem mL_77 : CV RL 77 yX10_undo cX10_undo 1 (some .int) 0 9 := ⟨cbX10_undo, wt_mem 709 (by decide +kernel) rfl, wt_mem 710 (by decide +kernel) rfl, wt_mem 711 (by decide +kernel) rfl, by decide, rfl⟩
set_option maxRecDepth 20000 in
theorem mX10_246 : CV RX10 246 yX6_pop cX6_pop 2 (some .boolean) 1 5 := ⟨cbX6_pop, wt_mem 713 (by decide +kernel) rfl, wt_mem 714 (by decide +kernel) rfl, wt_mem 715 (by decide +kernel) rfl, by decide, rfl⟩
set_option maxRecDepth 20000 in
theorem mL_81 : CV RL 81 yX10_shown cX10_shown 3 (some .int) 2 9 := ⟨cbX10_shown, wt_mem 717 (by decide +kernel) rfl, wt_mem 718 (by decide +kernel) rfl, wt_mem 719 (by decide +kernel) rfl, by decide, rfl⟩
set_option maxRecDepth 20000 in
theorem mX10_250 : CV RX10 250 yX9_marksBehind cX9_marksBehind 5 (some .int) 4 8 := ⟨cbX9_marksBehind, wt_mem 721 (by decide +kernel) rfl, wt_mem 722 (by decide +kernel) rfl, wt_mem 723 (by decide +kernel) rfl, by decide, rfl⟩
set_option maxRecDepth 20000 in
theorem mX9_29 : CV RX9 29 yX1_copyFrom cX1_copyFrom 2 none 1 1 := ⟨cbX1_copyFrom, wt_mem 725 (by decide +kernel) rfl, wt_mem 614 (by decide +kernel) rfl, wt_mem 615 (by decide +kernel) rfl, by decide, rfl⟩
set_option maxRecDepth 20000 in
theorem mX9_33 : CV RX9 33 yX3_rainDays cX3_rainDays 6 none 4 3 := ⟨cbX3_rainDays, wt_mem 726 (by decide +kernel) rfl, wt_mem 622 (by decide +kernel) rfl, wt_mem 623 (by decide +kernel) rfl, by decide, rfl⟩
set_option maxRecDepth 20000 in
theorem mX9_37 : CV RX9 37 yX1_marks cX1_marks 3 (some .int) 0 1 := ⟨cbX1_marks, wt_mem 727 (by decide +kernel) rfl, wt_mem 516 (by decide +kernel) rfl, wt_mem 517 (by decide +kernel) rfl, by decide, rfl⟩
set_option maxRecDepth 20000 in
theorem mL_85 : CV RL 85 yX10_first cX10_first 3 (some .int) 2 9 := ⟨cbX10_first, wt_mem 728 (by decide +kernel) rfl, wt_mem 729 (by decide +kernel) rfl, wt_mem 730 (by decide +kernel) rfl, by decide, rfl⟩
set_option maxRecDepth 20000 in
theorem mX10_254 : CV RX10 254 yX9_daysTillMarks cX9_daysTillMarks 6 (some .int) 4 8 := ⟨cbX9_daysTillMarks, wt_mem 732 (by decide +kernel) rfl, wt_mem 733 (by decide +kernel) rfl, wt_mem 734 (by decide +kernel) rfl, by decide, rfl⟩
set_option maxRecDepth 20000 in
theorem mX9_41 : CV RX9 41 yX1_markCount cX1_markCount 1 (some .int) 0 1 := ⟨cbX1_markCount, wt_mem 736 (by decide +kernel) rfl, wt_mem 660 (by decide +kernel) rfl, wt_mem 661 (by decide +kernel) rfl, by decide, rfl⟩
set_option maxRecDepth 20000 in
theorem mX9_44 : CV RX9 44 yX3_rainDay cX3_rainDay 6 none 3 3 := ⟨cbX3_rainDay, wt_mem 737 (by decide +kernel) rfl, wt_mem 626 (by decide +kernel) rfl, wt_mem 627 (by decide +kernel) rfl, by decide, rfl⟩
set_option maxRecDepth 20000 in
theorem mL_89 : CV RL 89 yX10_leadTo cX10_leadTo 6 (some .int) 5 9 := ⟨cbX10_leadTo, wt_mem 738 (by decide +kernel) rfl, wt_mem 739 (by decide +kernel) rfl, wt_mem 740 (by decide +kernel) rfl, by decide, rfl⟩
set_option maxRecDepth 20000 in
theorem mX10_257 : CV RX10 257 yX9_leadBest cX9_leadBest 9 none 6 8 := ⟨cbX9_leadBest, wt_mem 742 (by decide +kernel) rfl, wt_mem 743 (by decide +kernel) rfl, wt_mem 744 (by decide +kernel) rfl, by decide, rfl⟩
set_option maxRecDepth 20000 in
theorem mX9_58 : CV RX9 58 yX7_cells cX7_cells 1 (some .int) 0 6 := ⟨cbX7_cells, wt_mem 746 (by decide +kernel) rfl, wt_mem 447 (by decide +kernel) rfl, wt_mem 448 (by decide +kernel) rfl, by decide, rfl⟩
set_option maxRecDepth 20000 in
theorem mX9_71 : CS RX9 71 yX5_like cX5_like 3 (some .int) 3 := ⟨cbX5_like, wt_mem 748 (by decide +kernel) rfl, wt_mem 528 (by decide +kernel) rfl⟩
set_option maxRecDepth 20000 in
theorem mL_94 : CV RL 94 yX10_often cX10_often 5 (some .int) 4 9 := ⟨cbX10_often, wt_mem 749 (by decide +kernel) rfl, wt_mem 750 (by decide +kernel) rfl, wt_mem 751 (by decide +kernel) rfl, by decide, rfl⟩
set_option maxRecDepth 20000 in
theorem mX10_267 : CV RX10 267 yX9_lookMost cX9_lookMost 6 none 5 8 := ⟨cbX9_lookMost, wt_mem 753 (by decide +kernel) rfl, wt_mem 754 (by decide +kernel) rfl, wt_mem 755 (by decide +kernel) rfl, by decide, rfl⟩
set_option maxRecDepth 20000 in
theorem mX9_100 : CS RX9 100 yX9_tryLooks cX9_tryLooks 6 none 5 := ⟨cbX9_tryLooks, wt_mem 757 (by decide +kernel) rfl, wt_mem 758 (by decide +kernel) rfl⟩
set_option maxRecDepth 20000 in
theorem mX9_104 : CV RX9 104 yX9_weigh cX9_weigh 5 none 2 8 := ⟨cbX9_weigh, wt_mem 760 (by decide +kernel) rfl, wt_mem 762 (by decide +kernel) rfl, wt_mem 17 (by decide +kernel) rfl, by decide, rfl⟩
set_option maxRecDepth 20000 in
theorem mX9_85 : CS RX9 85 yJ6_bitCount_0f7a4 cJ6_bitCount_0f7a4 1 (some .int) 1 := ⟨cbJ6_bitCount_0f7a4, wt_mem 764 (by decide +kernel) rfl, wt_mem 532 (by decide +kernel) rfl⟩
set_option maxRecDepth 20000 in
theorem mX9_108 : CV RX9 108 yX1_shrink cX1_shrink 4 none 1 1 := ⟨cbX1_shrink, wt_mem 765 (by decide +kernel) rfl, wt_mem 670 (by decide +kernel) rfl, wt_mem 671 (by decide +kernel) rfl, by decide, rfl⟩
set_option maxRecDepth 20000 in
theorem mL_99 : CV RL 99 yX10_wasRain cX10_wasRain 2 (some .int) 1 9 := ⟨cbX10_wasRain, wt_mem 766 (by decide +kernel) rfl, wt_mem 767 (by decide +kernel) rfl, wt_mem 768 (by decide +kernel) rfl, by decide, rfl⟩
set_option maxRecDepth 20000 in
theorem mX10_274 : CV RX10 274 yX9_rainsThatShow cX9_rainsThatShow 6 (some .int) 3 8 := ⟨cbX9_rainsThatShow, wt_mem 770 (by decide +kernel) rfl, wt_mem 771 (by decide +kernel) rfl, wt_mem 772 (by decide +kernel) rfl, by decide, rfl⟩
set_option maxRecDepth 20000 in
theorem mX9_77 : CV RX9 77 yX9_marksBehind cX9_marksBehind 5 (some .int) 4 8 := ⟨cbX9_marksBehind, wt_mem 774 (by decide +kernel) rfl, wt_mem 722 (by decide +kernel) rfl, wt_mem 723 (by decide +kernel) rfl, by decide, rfl⟩
set_option maxRecDepth 20000 in
theorem mL_103 : CV RL 103 yX10_rainToTell cX10_rainToTell 2 (some .int) 1 9 := ⟨cbX10_rainToTell, wt_mem 775 (by decide +kernel) rfl, wt_mem 776 (by decide +kernel) rfl, wt_mem 777 (by decide +kernel) rfl, by decide, rfl⟩
set_option maxRecDepth 20000 in
theorem mX10_278 : CV RX10 278 yX9_rainThatLeavesFewest cX9_rainThatLeavesFewest 5 none 2 8 := ⟨cbX9_rainThatLeavesFewest, wt_mem 779 (by decide +kernel) rfl, wt_mem 780 (by decide +kernel) rfl, wt_mem 781 (by decide +kernel) rfl, by decide, rfl⟩
set_option maxRecDepth 20000 in
theorem mX9_81 : CS RX9 81 yX5_mayBe cX5_mayBe 4 (some .int) 2 := ⟨cbX5_mayBe, wt_mem 783 (by decide +kernel) rfl, wt_mem 538 (by decide +kernel) rfl⟩
set_option maxRecDepth 20000 in
theorem mL_107 : CV RL 107 yX10_dryIn cX10_dryIn 1 (some .int) 0 9 := ⟨cbX10_dryIn, wt_mem 784 (by decide +kernel) rfl, wt_mem 785 (by decide +kernel) rfl, wt_mem 786 (by decide +kernel) rfl, by decide, rfl⟩
set_option maxRecDepth 20000 in
theorem mX10_282 : CV RX10 282 yX9_daysTillDry cX9_daysTillDry 4 (some .int) 2 8 := ⟨cbX9_daysTillDry, wt_mem 788 (by decide +kernel) rfl, wt_mem 789 (by decide +kernel) rfl, wt_mem 790 (by decide +kernel) rfl, by decide, rfl⟩
set_option maxRecDepth 20000 in
theorem mX9_48 : CV RX9 48 yX1_allWet cX1_allWet 3 (some .int) 0 1 := ⟨cbX1_allWet, wt_mem 792 (by decide +kernel) rfl, wt_mem 520 (by decide +kernel) rfl, wt_mem 521 (by decide +kernel) rfl, by decide, rfl⟩
set_option maxRecDepth 20000 in
theorem mL_111 : CV RL 111 yX10_either cX10_either 6 (some .int) 3 9 := ⟨cbX10_either, wt_mem 793 (by decide +kernel) rfl, wt_mem 794 (by decide +kernel) rfl, wt_mem 795 (by decide +kernel) rfl, by decide, rfl⟩
set_option maxRecDepth 20000 in
theorem mL_116 : CV RL 116 yX10_rainy cX10_rainy 6 (some .int) 2 9 := ⟨cbX10_rainy, wt_mem 797 (by decide +kernel) rfl, wt_mem 798 (by decide +kernel) rfl, wt_mem 799 (by decide +kernel) rfl, by decide, rfl⟩
set_option maxRecDepth 20000 in
theorem mL_120 : CV RL 120 yX10_write cX10_write 3 (some .int) 2 9 := ⟨cbX10_write, wt_mem 803 (by decide +kernel) rfl, wt_mem 804 (by decide +kernel) rfl, wt_mem 805 (by decide +kernel) rfl, by decide, rfl⟩
set_option maxRecDepth 20000 in
theorem mX10_290 : CV RX10 290 yX0_add cX0_add 3 (some .int) 2 0 := ⟨cbX0_add, wt_mem 807 (by decide +kernel) rfl, wt_mem 808 (by decide +kernel) rfl, wt_mem 809 (by decide +kernel) rfl, by decide, rfl⟩
set_option maxRecDepth 20000 in
theorem mL_124 : CV RL 124 yX10_tear cX10_tear 2 (some .int) 0 9 := ⟨cbX10_tear, wt_mem 813 (by decide +kernel) rfl, wt_mem 814 (by decide +kernel) rfl, wt_mem 815 (by decide +kernel) rfl, by decide, rfl⟩
set_option maxRecDepth 20000 in
theorem mL_128 : CV RL 128 yX10_judge cX10_judge 1 (some .int) 0 9 := ⟨cbX10_judge, wt_mem 817 (by decide +kernel) rfl, wt_mem 818 (by decide +kernel) rfl, wt_mem 819 (by decide +kernel) rfl, by decide, rfl⟩
set_option maxRecDepth 20000 in
theorem mX10_293 : CV RX10 293 yX0_firstWrong cX0_firstWrong 3 (some .int) 1 0 := ⟨cbX0_firstWrong, wt_mem 821 (by decide +kernel) rfl, wt_mem 822 (by decide +kernel) rfl, wt_mem 823 (by decide +kernel) rfl, by decide, rfl⟩
set_option maxRecDepth 20000 in
theorem mL_132 : CV RL 132 yX10_seed cX10_seed 3 (some .int) 1 9 := ⟨cbX10_seed, wt_mem 826 (by decide +kernel) rfl, wt_mem 827 (by decide +kernel) rfl, wt_mem 828 (by decide +kernel) rfl, by decide, rfl⟩
set_option maxRecDepth 20000 in
theorem mL_136 : CV RL 136 yX10_keep cX10_keep 3 (some .int) 1 9 := ⟨cbX10_keep, wt_mem 830 (by decide +kernel) rfl, wt_mem 831 (by decide +kernel) rfl, wt_mem 832 (by decide +kernel) rfl, by decide, rfl⟩
set_option maxRecDepth 20000 in
theorem mX10_303 : CV RX10 303 yX1_copyFrom cX1_copyFrom 2 none 1 1 := ⟨cbX1_copyFrom, wt_mem 834 (by decide +kernel) rfl, wt_mem 614 (by decide +kernel) rfl, wt_mem 615 (by decide +kernel) rfl, by decide, rfl⟩
set_option maxRecDepth 20000 in
theorem mL_140 : CV RL 140 yX10_goBack cX10_goBack 3 (some .int) 1 9 := ⟨cbX10_goBack, wt_mem 835 (by decide +kernel) rfl, wt_mem 836 (by decide +kernel) rfl, wt_mem 837 (by decide +kernel) rfl, by decide, rfl⟩
set_option maxRecDepth 20000 in
theorem mL_17 : CV RL 17 yX11_feed cX11_feed 2 (some .int) 1 10 := ⟨cbX11_feed, wt_mem 967 (by decide +kernel) rfl, wt_mem 968 (by decide +kernel) rfl, wt_mem 969 (by decide +kernel) rfl, by decide, rfl⟩
set_option maxRecDepth 20000 in
theorem mX11_82 : CS RX11 82 yX11_in cX11_in 6 (some .boolean) 3 := ⟨cbX11_in, wt_mem 972 (by decide +kernel) rfl, wt_mem 973 (by decide +kernel) rfl⟩
set_option maxRecDepth 20000 in
theorem mL_22 : CV RL 22 yX11_wall cX11_wall 2 (some .int) 0 10 := ⟨cbX11_wall, wt_mem 977 (by decide +kernel) rfl, wt_mem 978 (by decide +kernel) rfl, wt_mem 979 (by decide +kernel) rfl, by decide, rfl⟩
set_option maxRecDepth 20000 in
theorem mX11_105 : CV RX11 105 yX11_here cX11_here 1 (some .int) 0 10 := ⟨cbX11_here, wt_mem 981 (by decide +kernel) rfl, wt_mem 983 (by decide +kernel) rfl, wt_mem 18 (by decide +kernel) rfl, by decide, rfl⟩
set_option maxRecDepth 20000 in
theorem mX11_192 : CV RX11 192 yX11_takeClause cX11_takeClause 4 (some .int) 0 10 := ⟨cbX11_takeClause, wt_mem 985 (by decide +kernel) rfl, wt_mem 987 (by decide +kernel) rfl, wt_mem 19 (by decide +kernel) rfl, by decide, rfl⟩
set_option maxRecDepth 20000 in
theorem mX11_112 : CV RX11 112 yX11_fails cX11_fails 3 (some .int) 2 10 := ⟨cbX11_fails, wt_mem 989 (by decide +kernel) rfl, wt_mem 991 (by decide +kernel) rfl, wt_mem 20 (by decide +kernel) rfl, by decide, rfl⟩
set_option maxRecDepth 20000 in
theorem mX11_177 : CV RX11 177 yX11_isFull cX11_isFull 2 (some .boolean) 1 10 := ⟨cbX11_isFull, wt_mem 993 (by decide +kernel) rfl, wt_mem 995 (by decide +kernel) rfl, wt_mem 21 (by decide +kernel) rfl, by decide, rfl⟩
set_option maxRecDepth 20000 in
theorem mX11_181 : CV RX11 181 yX11_takeBody cX11_takeBody 2 (some .int) 1 10 := ⟨cbX11_takeBody, wt_mem 997 (by decide +kernel) rfl, wt_mem 999 (by decide +kernel) rfl, wt_mem 22 (by decide +kernel) rfl, by decide, rfl⟩
set_option maxRecDepth 20000 in
theorem mX11_162 : CV RX11 162 yX11_takeWall cX11_takeWall 2 (some .int) 0 10 := ⟨cbX11_takeWall, wt_mem 1001 (by decide +kernel) rfl, wt_mem 1003 (by decide +kernel) rfl, wt_mem 23 (by decide +kernel) rfl, by decide, rfl⟩
set_option maxRecDepth 20000 in
theorem mX11_122 : CV RX11 122 yX11_takeNumber cX11_takeNumber 4 (some .int) 2 10 := ⟨cbX11_takeNumber, wt_mem 1005 (by decide +kernel) rfl, wt_mem 1007 (by decide +kernel) rfl, wt_mem 24 (by decide +kernel) rfl, by decide, rfl⟩
set_option maxRecDepth 20000 in
theorem mX11_165 : CV RX11 165 yX11_takeLeak cX11_takeLeak 1 (some .int) 0 10 := ⟨cbX11_takeLeak, wt_mem 1011 (by decide +kernel) rfl, wt_mem 1013 (by decide +kernel) rfl, wt_mem 25 (by decide +kernel) rfl, by decide, rfl⟩
set_option maxRecDepth 20000 in
theorem mX11_134 : CV RX11 134 yX11_readCells cX11_readCells 1 (some .int) 0 10 := ⟨cbX11_readCells, wt_mem 1015 (by decide +kernel) rfl, wt_mem 1017 (by decide +kernel) rfl, wt_mem 26 (by decide +kernel) rfl, by decide, rfl⟩
set_option maxRecDepth 20000 in
theorem mX11_137 : CV RX11 137 yX11_into cX11_into 6 (some .int) 4 10 := ⟨cbX11_into, wt_mem 1019 (by decide +kernel) rfl, wt_mem 1021 (by decide +kernel) rfl, wt_mem 27 (by decide +kernel) rfl, by decide, rfl⟩
set_option maxRecDepth 20000 in
theorem mX11_168 : CV RX11 168 yX11_takeCrack cX11_takeCrack 3 (some .int) 0 10 := ⟨cbX11_takeCrack, wt_mem 1023 (by decide +kernel) rfl, wt_mem 1025 (by decide +kernel) rfl, wt_mem 28 (by decide +kernel) rfl, by decide, rfl⟩
set_option maxRecDepth 20000 in
theorem mX11_144 : CS RX11 144 yX11_areNext cX11_areNext 5 (some .boolean) 3 := ⟨cbX11_areNext, wt_mem 1027 (by decide +kernel) rfl, wt_mem 1028 (by decide +kernel) rfl⟩
set_option maxRecDepth 20000 in
theorem mX11_148 : CV RX11 148 yX11_isTold cX11_isTold 5 (some .boolean) 2 10 := ⟨cbX11_isTold, wt_mem 1030 (by decide +kernel) rfl, wt_mem 1032 (by decide +kernel) rfl, wt_mem 29 (by decide +kernel) rfl, by decide, rfl⟩
set_option maxRecDepth 20000 in
theorem mX11_171 : CV RX11 171 yX11_takeLike cX11_takeLike 4 (some .int) 0 10 := ⟨cbX11_takeLike, wt_mem 1034 (by decide +kernel) rfl, wt_mem 1036 (by decide +kernel) rfl, wt_mem 30 (by decide +kernel) rfl, by decide, rfl⟩
set_option maxRecDepth 20000 in
theorem mX11_174 : CV RX11 174 yX11_takeWind cX11_takeWind 2 (some .int) 0 10 := ⟨cbX11_takeWind, wt_mem 1038 (by decide +kernel) rfl, wt_mem 1040 (by decide +kernel) rfl, wt_mem 31 (by decide +kernel) rfl, by decide, rfl⟩
set_option maxRecDepth 20000 in
theorem mX11_195 : CV RX11 195 yX11_takeRead cX11_takeRead 2 none 0 10 := ⟨cbX11_takeRead, wt_mem 1042 (by decide +kernel) rfl, wt_mem 1044 (by decide +kernel) rfl, wt_mem 32 (by decide +kernel) rfl, by decide, rfl⟩
set_option maxRecDepth 20000 in
theorem mX11_188 : CS RX11 188 yX11_copyRow cX11_copyRow 4 none 3 := ⟨cbX11_copyRow, wt_mem 1046 (by decide +kernel) rfl, wt_mem 1047 (by decide +kernel) rfl⟩
set_option maxRecDepth 20000 in
theorem mX11_78 : CV RX11 78 yX11_cells cX11_cells 1 (some .int) 0 10 := ⟨cbX11_cells, wt_mem 1049 (by decide +kernel) rfl, wt_mem 1051 (by decide +kernel) rfl, wt_mem 33 (by decide +kernel) rfl, by decide, rfl⟩
set_option maxRecDepth 20000 in
theorem mL_26 : CV RL 26 yX11_fault cX11_fault 1 (some .int) 0 10 := ⟨cbX11_fault, wt_mem 1053 (by decide +kernel) rfl, wt_mem 1054 (by decide +kernel) rfl, wt_mem 1055 (by decide +kernel) rfl, by decide, rfl⟩
set_option maxRecDepth 20000 in
theorem mL_30 : CV RL 30 yX11_told cX11_told 2 (some .int) 1 10 := ⟨cbX11_told, wt_mem 1057 (by decide +kernel) rfl, wt_mem 1058 (by decide +kernel) rfl, wt_mem 1059 (by decide +kernel) rfl, by decide, rfl⟩
set_option maxRecDepth 20000 in
theorem mX11_204 : CV RX11 204 yX11_shows cX11_shows 3 (some .int) 0 10 := ⟨cbX11_shows, wt_mem 1061 (by decide +kernel) rfl, wt_mem 1063 (by decide +kernel) rfl, wt_mem 34 (by decide +kernel) rfl, by decide, rfl⟩
set_option maxRecDepth 20000 in
theorem mX11_222 : CV RX11 222 yX11_allWet cX11_allWet 3 (some .int) 0 10 := ⟨cbX11_allWet, wt_mem 1065 (by decide +kernel) rfl, wt_mem 1067 (by decide +kernel) rfl, wt_mem 35 (by decide +kernel) rfl, by decide, rfl⟩
set_option maxRecDepth 20000 in
theorem mX11_225 : CV RX11 225 yX11_whom cX11_whom 5 (some .int) 0 10 := ⟨cbX11_whom, wt_mem 1069 (by decide +kernel) rfl, wt_mem 1071 (by decide +kernel) rfl, wt_mem 36 (by decide +kernel) rfl, by decide, rfl⟩
set_option maxRecDepth 20000 in
theorem mX11_210 : CV RX11 210 yX11_likeOf cX11_likeOf 2 (some .int) 1 10 := ⟨cbX11_likeOf, wt_mem 1073 (by decide +kernel) rfl, wt_mem 1075 (by decide +kernel) rfl, wt_mem 37 (by decide +kernel) rfl, by decide, rfl⟩
set_option maxRecDepth 20000 in
theorem mX11_207 : CS RX11 207 yX11_bits cX11_bits 3 (some .int) 1 := ⟨cbX11_bits, wt_mem 1077 (by decide +kernel) rfl, wt_mem 1078 (by decide +kernel) rfl⟩
set_option maxRecDepth 20000 in
theorem mX11_228 : CV RX11 228 yX11_mayBe cX11_mayBe 3 (some .int) 0 10 := ⟨cbX11_mayBe, wt_mem 1080 (by decide +kernel) rfl, wt_mem 1082 (by decide +kernel) rfl, wt_mem 38 (by decide +kernel) rfl, by decide, rfl⟩
set_option maxRecDepth 20000 in
theorem mX11_231 : CV RX11 231 yX11_groups cX11_groups 7 (some .int) 1 10 := ⟨cbX11_groups, wt_mem 1084 (by decide +kernel) rfl, wt_mem 1086 (by decide +kernel) rfl, wt_mem 39 (by decide +kernel) rfl, by decide, rfl⟩
set_option maxRecDepth 20000 in
theorem mX11_213 : CS RX11 213 yX11_has cX11_has 2 (some .boolean) 2 := ⟨cbX11_has, wt_mem 1088 (by decide +kernel) rfl, wt_mem 1089 (by decide +kernel) rfl⟩
set_option maxRecDepth 20000 in
theorem mX11_219 : CV RX11 219 yX11_groupOf cX11_groupOf 7 (some .int) 1 10 := ⟨cbX11_groupOf, wt_mem 1091 (by decide +kernel) rfl, wt_mem 1093 (by decide +kernel) rfl, wt_mem 40 (by decide +kernel) rfl, by decide, rfl⟩
set_option maxRecDepth 20000 in
theorem mX11_216 : CV RX11 216 yX11_around cX11_around 4 (some .int) 1 10 := ⟨cbX11_around, wt_mem 1095 (by decide +kernel) rfl, wt_mem 1097 (by decide +kernel) rfl, wt_mem 41 (by decide +kernel) rfl, by decide, rfl⟩
set_option maxRecDepth 20000 in
theorem mX11_235 : CV RX11 235 yX11_border cX11_border 4 (some .int) 0 10 := ⟨cbX11_border, wt_mem 1099 (by decide +kernel) rfl, wt_mem 1101 (by decide +kernel) rfl, wt_mem 42 (by decide +kernel) rfl, by decide, rfl⟩
set_option maxRecDepth 20000 in
theorem mX11_238 : CV RX11 238 yX11_fullest cX11_fullest 6 (some .int) 0 10 := ⟨cbX11_fullest, wt_mem 1103 (by decide +kernel) rfl, wt_mem 1105 (by decide +kernel) rfl, wt_mem 43 (by decide +kernel) rfl, by decide, rfl⟩
set_option maxRecDepth 20000 in
theorem mL_34 : CV RL 34 yX11_cell cX11_cell 2 (some .int) 1 10 := ⟨cbX11_cell, wt_mem 1107 (by decide +kernel) rfl, wt_mem 1108 (by decide +kernel) rfl, wt_mem 1109 (by decide +kernel) rfl, by decide, rfl⟩
set_option maxRecDepth 20000 in
theorem mX11_241 : CV RX11 241 yX11_isCell cX11_isCell 2 (some .boolean) 1 10 := ⟨cbX11_isCell, wt_mem 1111 (by decide +kernel) rfl, wt_mem 1113 (by decide +kernel) rfl, wt_mem 44 (by decide +kernel) rfl, by decide, rfl⟩
set_option maxRecDepth 20000 in
theorem mL_38 : CV RL 38 yX11_leak cX11_leak 2 (some .int) 1 10 := ⟨cbX11_leak, wt_mem 1116 (by decide +kernel) rfl, wt_mem 1117 (by decide +kernel) rfl, wt_mem 1118 (by decide +kernel) rfl, by decide, rfl⟩
set_option maxRecDepth 20000 in
theorem mX11_245 : CV RX11 245 yX11_isLeak cX11_isLeak 2 (some .boolean) 1 10 := ⟨cbX11_isLeak, wt_mem 1120 (by decide +kernel) rfl, wt_mem 1122 (by decide +kernel) rfl, wt_mem 45 (by decide +kernel) rfl, by decide, rfl⟩
set_option maxRecDepth 20000 in
theorem mL_43 : CV RL 43 yX11_crack cX11_crack 3 (some .int) 2 10 := ⟨cbX11_crack, wt_mem 1124 (by decide +kernel) rfl, wt_mem 1125 (by decide +kernel) rfl, wt_mem 1126 (by decide +kernel) rfl, by decide, rfl⟩
set_option maxRecDepth 20000 in
theorem mX11_248 : CV RX11 248 yX11_isCrack cX11_isCrack 2 (some .boolean) 1 10 := ⟨cbX11_isCrack, wt_mem 1128 (by decide +kernel) rfl, wt_mem 1130 (by decide +kernel) rfl, wt_mem 46 (by decide +kernel) rfl, by decide, rfl⟩
set_option maxRecDepth 20000 in
theorem mL_47 : CV RL 47 yX11_likeness cX11_likeness 3 (some .int) 2 10 := ⟨cbX11_likeness, wt_mem 1132 (by decide +kernel) rfl, wt_mem 1133 (by decide +kernel) rfl, wt_mem 1134 (by decide +kernel) rfl, by decide, rfl⟩
set_option maxRecDepth 20000 in
theorem mX11_251 : CV RX11 251 yX11_isLike cX11_isLike 2 (some .boolean) 1 10 := ⟨cbX11_isLike, wt_mem 1136 (by decide +kernel) rfl, wt_mem 1138 (by decide +kernel) rfl, wt_mem 47 (by decide +kernel) rfl, by decide, rfl⟩
set_option maxRecDepth 20000 in
theorem mL_51 : CV RL 51 yX11_day cX11_day 4 (some .int) 2 10 := ⟨cbX11_day, wt_mem 1140 (by decide +kernel) rfl, wt_mem 1141 (by decide +kernel) rfl, wt_mem 1142 (by decide +kernel) rfl, by decide, rfl⟩
set_option maxRecDepth 20000 in
theorem mX11_270 : CV RX11 270 yX11_remember cX11_remember 2 none 0 10 := ⟨cbX11_remember, wt_mem 1147 (by decide +kernel) rfl, wt_mem 1149 (by decide +kernel) rfl, wt_mem 48 (by decide +kernel) rfl, by decide, rfl⟩
set_option maxRecDepth 20000 in
theorem mX11_273 : CV RX11 273 yX11_pass cX11_pass 4 none 1 10 := ⟨cbX11_pass, wt_mem 1151 (by decide +kernel) rfl, wt_mem 1153 (by decide +kernel) rfl, wt_mem 49 (by decide +kernel) rfl, by decide, rfl⟩
set_option maxRecDepth 20000 in
theorem mX11_258 : CS RX11 258 yX11_bound cX11_bound 1 (some .int) 1 := ⟨cbX11_bound, wt_mem 1155 (by decide +kernel) rfl, wt_mem 1156 (by decide +kernel) rfl⟩
set_option maxRecDepth 20000 in
theorem mX11_261 : CV RX11 261 yX11_runFrom cX11_runFrom 5 none 1 10 := ⟨cbX11_runFrom, wt_mem 1158 (by decide +kernel) rfl, wt_mem 1160 (by decide +kernel) rfl, wt_mem 50 (by decide +kernel) rfl, by decide, rfl⟩
set_option maxRecDepth 20000 in
theorem mX11_254 : CV RX11 254 yX11_give cX11_give 3 none 2 10 := ⟨cbX11_give, wt_mem 1162 (by decide +kernel) rfl, wt_mem 1164 (by decide +kernel) rfl, wt_mem 51 (by decide +kernel) rfl, by decide, rfl⟩
set_option maxRecDepth 20000 in
theorem mL_55 : CV RL 55 yX11_look cX11_look 1 (some .int) 0 10 := ⟨cbX11_look, wt_mem 1166 (by decide +kernel) rfl, wt_mem 1167 (by decide +kernel) rfl, wt_mem 1168 (by decide +kernel) rfl, by decide, rfl⟩
set_option maxRecDepth 20000 in
theorem mX11_276 : CV RX11 276 yX11_lookNow cX11_lookNow 4 none 0 10 := ⟨cbX11_lookNow, wt_mem 1170 (by decide +kernel) rfl, wt_mem 1172 (by decide +kernel) rfl, wt_mem 52 (by decide +kernel) rfl, by decide, rfl⟩
set_option maxRecDepth 20000 in
theorem mL_59 : CV RL 59 yX11_brush cX11_brush 3 (some .int) 1 10 := ⟨cbX11_brush, wt_mem 1174 (by decide +kernel) rfl, wt_mem 1175 (by decide +kernel) rfl, wt_mem 1176 (by decide +kernel) rfl, by decide, rfl⟩
set_option maxRecDepth 20000 in
theorem mL_63 : CV RL 63 yX11_lead cX11_lead 4 (some .int) 2 10 := ⟨cbX11_lead, wt_mem 1178 (by decide +kernel) rfl, wt_mem 1179 (by decide +kernel) rfl, wt_mem 1180 (by decide +kernel) rfl, by decide, rfl⟩
set_option maxRecDepth 20000 in
theorem mL_67 : CV RL 67 yX11_wind cX11_wind 3 (some .int) 1 10 := ⟨cbX11_wind, wt_mem 1182 (by decide +kernel) rfl, wt_mem 1183 (by decide +kernel) rfl, wt_mem 1184 (by decide +kernel) rfl, by decide, rfl⟩
set_option maxRecDepth 20000 in
theorem mL_72 : CV RL 72 yX11_fill cX11_fill 4 (some .int) 2 10 := ⟨cbX11_fill, wt_mem 1187 (by decide +kernel) rfl, wt_mem 1188 (by decide +kernel) rfl, wt_mem 1189 (by decide +kernel) rfl, by decide, rfl⟩
set_option maxRecDepth 20000 in
theorem mL_76 : CV RL 76 yX11_drift cX11_drift 3 (some .int) 1 10 := ⟨cbX11_drift, wt_mem 1191 (by decide +kernel) rfl, wt_mem 1192 (by decide +kernel) rfl, wt_mem 1193 (by decide +kernel) rfl, by decide, rfl⟩
set_option maxRecDepth 20000 in
theorem mX11_294 : CV RX11 294 yX11_dayByDraws cX11_dayByDraws 3 none 0 10 := ⟨cbX11_dayByDraws, wt_mem 1195 (by decide +kernel) rfl, wt_mem 1197 (by decide +kernel) rfl, wt_mem 53 (by decide +kernel) rfl, by decide, rfl⟩
set_option maxRecDepth 20000 in
theorem mX11_291 : CV RX11 291 yX11_draw cX11_draw 2 (some .int) 1 10 := ⟨cbX11_draw, wt_mem 1199 (by decide +kernel) rfl, wt_mem 1201 (by decide +kernel) rfl, wt_mem 54 (by decide +kernel) rfl, by decide, rfl⟩
set_option maxRecDepth 20000 in
theorem mL_80 : CV RL 80 yX11_undo cX11_undo 2 (some .int) 0 10 := ⟨cbX11_undo, wt_mem 1207 (by decide +kernel) rfl, wt_mem 1208 (by decide +kernel) rfl, wt_mem 1209 (by decide +kernel) rfl, by decide, rfl⟩
set_option maxRecDepth 20000 in
theorem mL_84 : CV RL 84 yX11_shown cX11_shown 3 (some .int) 2 10 := ⟨cbX11_shown, wt_mem 1211 (by decide +kernel) rfl, wt_mem 1212 (by decide +kernel) rfl, wt_mem 1213 (by decide +kernel) rfl, by decide, rfl⟩
set_option maxRecDepth 20000 in
theorem mX11_297 : CV RX11 297 yX11_shownBy cX11_shownBy 4 (some .int) 2 10 := ⟨cbX11_shownBy, wt_mem 1215 (by decide +kernel) rfl, wt_mem 1217 (by decide +kernel) rfl, wt_mem 55 (by decide +kernel) rfl, by decide, rfl⟩
set_option maxRecDepth 20000 in
theorem mL_88 : CV RL 88 yX11_first cX11_first 4 (some .int) 2 10 := ⟨cbX11_first, wt_mem 1219 (by decide +kernel) rfl, wt_mem 1220 (by decide +kernel) rfl, wt_mem 1221 (by decide +kernel) rfl, by decide, rfl⟩
set_option maxRecDepth 20000 in
theorem mL_93 : CV RL 93 yX11_leadTo cX11_leadTo 11 (some .int) 5 10 := ⟨cbX11_leadTo, wt_mem 1224 (by decide +kernel) rfl, wt_mem 1225 (by decide +kernel) rfl, wt_mem 1226 (by decide +kernel) rfl, by decide, rfl⟩
set_option maxRecDepth 20000 in
theorem mL_98 : CV RL 98 yX11_often cX11_often 8 (some .int) 4 10 := ⟨cbX11_often, wt_mem 1229 (by decide +kernel) rfl, wt_mem 1230 (by decide +kernel) rfl, wt_mem 1231 (by decide +kernel) rfl, by decide, rfl⟩
set_option maxRecDepth 20000 in
theorem mX11_306 : CV RX11 306 yX11_shownByLooks cX11_shownByLooks 5 (some .int) 3 10 := ⟨cbX11_shownByLooks, wt_mem 1234 (by decide +kernel) rfl, wt_mem 1236 (by decide +kernel) rfl, wt_mem 56 (by decide +kernel) rfl, by decide, rfl⟩
set_option maxRecDepth 20000 in
theorem mL_102 : CV RL 102 yX11_wasRain cX11_wasRain 4 (some .int) 1 10 := ⟨cbX11_wasRain, wt_mem 1238 (by decide +kernel) rfl, wt_mem 1239 (by decide +kernel) rfl, wt_mem 1240 (by decide +kernel) rfl, by decide, rfl⟩
set_option maxRecDepth 20000 in
theorem mL_106 : CV RL 106 yX11_rainToTell cX11_rainToTell 6 (some .int) 1 10 := ⟨cbX11_rainToTell, wt_mem 1242 (by decide +kernel) rfl, wt_mem 1243 (by decide +kernel) rfl, wt_mem 1244 (by decide +kernel) rfl, by decide, rfl⟩
set_option maxRecDepth 20000 in
theorem mX11_310 : CV RX11 310 yX11_leftBy cX11_leftBy 5 (some .int) 1 10 := ⟨cbX11_leftBy, wt_mem 1246 (by decide +kernel) rfl, wt_mem 1248 (by decide +kernel) rfl, wt_mem 57 (by decide +kernel) rfl, by decide, rfl⟩
set_option maxRecDepth 20000 in
theorem mL_110 : CV RL 110 yX11_dryIn cX11_dryIn 3 (some .int) 0 10 := ⟨cbX11_dryIn, wt_mem 1250 (by decide +kernel) rfl, wt_mem 1251 (by decide +kernel) rfl, wt_mem 1252 (by decide +kernel) rfl, by decide, rfl⟩
set_option maxRecDepth 20000 in
theorem mL_115 : CV RL 115 yX11_either cX11_either 5 (some .int) 3 10 := ⟨cbX11_either, wt_mem 1254 (by decide +kernel) rfl, wt_mem 1255 (by decide +kernel) rfl, wt_mem 1256 (by decide +kernel) rfl, by decide, rfl⟩
set_option maxRecDepth 20000 in
theorem mL_119 : CV RL 119 yX11_rainy cX11_rainy 6 (some .int) 2 10 := ⟨cbX11_rainy, wt_mem 1258 (by decide +kernel) rfl, wt_mem 1259 (by decide +kernel) rfl, wt_mem 1260 (by decide +kernel) rfl, by decide, rfl⟩
set_option maxRecDepth 20000 in
theorem mL_123 : CV RL 123 yX11_write cX11_write 3 (some .int) 2 10 := ⟨cbX11_write, wt_mem 1264 (by decide +kernel) rfl, wt_mem 1265 (by decide +kernel) rfl, wt_mem 1266 (by decide +kernel) rfl, by decide, rfl⟩
set_option maxRecDepth 20000 in
theorem mL_127 : CV RL 127 yX11_tear cX11_tear 2 (some .int) 0 10 := ⟨cbX11_tear, wt_mem 1268 (by decide +kernel) rfl, wt_mem 1269 (by decide +kernel) rfl, wt_mem 1270 (by decide +kernel) rfl, by decide, rfl⟩
set_option maxRecDepth 20000 in
theorem mL_131 : CV RL 131 yX11_judge cX11_judge 2 (some .int) 0 10 := ⟨cbX11_judge, wt_mem 1272 (by decide +kernel) rfl, wt_mem 1273 (by decide +kernel) rfl, wt_mem 1274 (by decide +kernel) rfl, by decide, rfl⟩
set_option maxRecDepth 20000 in
theorem mL_135 : CV RL 135 yX11_seed cX11_seed 3 (some .int) 1 10 := ⟨cbX11_seed, wt_mem 1276 (by decide +kernel) rfl, wt_mem 1277 (by decide +kernel) rfl, wt_mem 1278 (by decide +kernel) rfl, by decide, rfl⟩
set_option maxRecDepth 20000 in
theorem mL_139 : CV RL 139 yX11_keep cX11_keep 3 (some .int) 1 10 := ⟨cbX11_keep, wt_mem 1280 (by decide +kernel) rfl, wt_mem 1281 (by decide +kernel) rfl, wt_mem 1282 (by decide +kernel) rfl, by decide, rfl⟩
set_option maxRecDepth 20000 in
theorem mL_143 : CV RL 143 yX11_goBack cX11_goBack 3 (some .int) 1 10 := ⟨cbX11_goBack, wt_mem 1284 (by decide +kernel) rfl, wt_mem 1285 (by decide +kernel) rfl, wt_mem 1286 (by decide +kernel) rfl, by decide, rfl⟩
set_option maxRecDepth 20000 in
theorem mX8_23 : CSN RX8 23 yX10_put cX10_put 3 none 3 := ⟨cbX10_put, by decide +kernel, wt_mem 388 (by decide +kernel) rfl⟩
set_option maxRecDepth 20000 in
theorem mX8_125 : CSN RX8 125 yX10_pick cX10_pick 2 (some .int) 2 := ⟨cbX10_pick, by decide +kernel, wt_mem 411 (by decide +kernel) rfl⟩
set_option maxRecDepth 20000 in
theorem mX8_132 : CSN RX8 132 yX10_outside cX10_outside 3 (some .boolean) 3 := ⟨cbX10_outside, by decide +kernel, wt_mem 379 (by decide +kernel) rfl⟩
set_option maxRecDepth 20000 in
theorem mX7_57 : CSN RX7 57 yX10_put cX10_put 3 none 3 := ⟨cbX10_put, by decide +kernel, wt_mem 388 (by decide +kernel) rfl⟩
set_option maxRecDepth 20000 in
theorem mX1_21 : CSN RX1 21 yX10_pick cX10_pick 2 (some .int) 2 := ⟨cbX10_pick, by decide +kernel, wt_mem 411 (by decide +kernel) rfl⟩
set_option maxRecDepth 20000 in
theorem mX5_50 : CSN RX5 50 yX10_pick cX10_pick 2 (some .int) 2 := ⟨cbX10_pick, by decide +kernel, wt_mem 411 (by decide +kernel) rfl⟩
set_option maxRecDepth 20000 in
theorem mX3_33 : CSN RX3 33 yX10_pick cX10_pick 2 (some .int) 2 := ⟨cbX10_pick, by decide +kernel, wt_mem 411 (by decide +kernel) rfl⟩
set_option maxRecDepth 20000 in
theorem mX3_46 : CSN RX3 46 yX10_put cX10_put 3 none 3 := ⟨cbX10_put, by decide +kernel, wt_mem 388 (by decide +kernel) rfl⟩
set_option maxRecDepth 20000 in
theorem mX9_67 : CSN RX9 67 yX10_put cX10_put 3 none 3 := ⟨cbX10_put, by decide +kernel, wt_mem 388 (by decide +kernel) rfl⟩
set_option maxRecDepth 20000 in
theorem mX0_23 : CSN RX0 23 yX10_put cX10_put 3 none 3 := ⟨cbX10_put, by decide +kernel, wt_mem 388 (by decide +kernel) rfl⟩
set_option maxRecDepth 20000 in
theorem mX0_32 : CSN RX0 32 yX10_pick cX10_pick 2 (some .int) 2 := ⟨cbX10_pick, by decide +kernel, wt_mem 411 (by decide +kernel) rfl⟩
set_option maxRecDepth 20000 in
theorem kX10_79 : Cond.constant RX10 79 (-1000000002) ∈ WT := wt_mem 381 (by decide +kernel) rfl
set_option maxRecDepth 20000 in
theorem kX8_22 : Cond.constant RX8 22 (-1000000004) ∈ WT := wt_mem 386 (by decide +kernel) rfl
set_option maxRecDepth 20000 in
theorem kJ6_265 : Cond.constant RJ6 265 (1431655765) ∈ WT := wt_mem 534 (by decide +kernel) rfl
set_option maxRecDepth 20000 in
theorem kJ6_266 : Cond.constant RJ6 266 (858993459) ∈ WT := wt_mem 535 (by decide +kernel) rfl
set_option maxRecDepth 20000 in
theorem kJ6_267 : Cond.constant RJ6 267 (252645135) ∈ WT := wt_mem 536 (by decide +kernel) rfl
set_option maxRecDepth 20000 in
theorem kX10_185 : Cond.constant RX10 185 (-1000000001) ∈ WT := wt_mem 568 (by decide +kernel) rfl
set_option maxRecDepth 20000 in
theorem kX10_223 : Cond.constant RX10 223 (-1000000003) ∈ WT := wt_mem 607 (by decide +kernel) rfl
set_option maxRecDepth 20000 in
theorem kX10_224 : Cond.constant RX10 224 (-1000000004) ∈ WT := wt_mem 608 (by decide +kernel) rfl
set_option maxRecDepth 20000 in
theorem kX2_13 : Cond.constant RX2 13 (1103515245) ∈ WT := wt_mem 705 (by decide +kernel) rfl
set_option maxRecDepth 20000 in
theorem kX2_14 : Cond.constant RX2 14 (2147483647) ∈ WT := wt_mem 706 (by decide +kernel) rfl
set_option maxRecDepth 20000 in
theorem kX2_15 : Cond.constant RX2 15 (65536) ∈ WT := wt_mem 707 (by decide +kernel) rfl
set_option maxRecDepth 20000 in
theorem kX10_286 : Cond.constantLong RX10 286 (1000000000) ∈ WT := wt_mem 801 (by decide +kernel) rfl
set_option maxRecDepth 20000 in
theorem kX10_288 : Cond.constantLong RX10 288 (100) ∈ WT := wt_mem 802 (by decide +kernel) rfl
set_option maxRecDepth 20000 in
theorem kX0_22 : Cond.constant RX0 22 (-1000000004) ∈ WT := wt_mem 811 (by decide +kernel) rfl
set_option maxRecDepth 20000 in
theorem kX11_95 : Cond.constantLong RX11 95 (255) ∈ WT := wt_mem 971 (by decide +kernel) rfl
set_option maxRecDepth 20000 in
theorem kX11_97 : Cond.constant RX11 97 (-1000000002) ∈ WT := wt_mem 975 (by decide +kernel) rfl
set_option maxRecDepth 20000 in
theorem kX11_101 : Cond.constant RX11 101 (-1000000004) ∈ WT := wt_mem 976 (by decide +kernel) rfl
set_option maxRecDepth 20000 in
theorem kX11_108 : Cond.constantLong RX11 108 (48) ∈ WT := wt_mem 1009 (by decide +kernel) rfl
set_option maxRecDepth 20000 in
theorem kX11_110 : Cond.constantLong RX11 110 (57) ∈ WT := wt_mem 1010 (by decide +kernel) rfl
set_option maxRecDepth 20000 in
theorem kX11_244 : Cond.constant RX11 244 (-1000000001) ∈ WT := wt_mem 1115 (by decide +kernel) rfl
set_option maxRecDepth 20000 in
theorem kX11_265 : Cond.constantLong RX11 265 (60) ∈ WT := wt_mem 1144 (by decide +kernel) rfl
set_option maxRecDepth 20000 in
theorem kX11_267 : Cond.constantLong RX11 267 (9) ∈ WT := wt_mem 1145 (by decide +kernel) rfl
set_option maxRecDepth 20000 in
theorem kX11_269 : Cond.constant RX11 269 (-1000000003) ∈ WT := wt_mem 1146 (by decide +kernel) rfl
set_option maxRecDepth 20000 in
theorem kX11_279 : Cond.constantLong RX11 279 (2) ∈ WT := wt_mem 1186 (by decide +kernel) rfl
set_option maxRecDepth 20000 in
theorem kX11_284 : Cond.constantLong RX11 284 (1103515245) ∈ WT := wt_mem 1203 (by decide +kernel) rfl
set_option maxRecDepth 20000 in
theorem kX11_286 : Cond.constantLong RX11 286 (12345) ∈ WT := wt_mem 1204 (by decide +kernel) rfl
set_option maxRecDepth 20000 in
theorem kX11_288 : Cond.constantLong RX11 288 (2147483648) ∈ WT := wt_mem 1205 (by decide +kernel) rfl
set_option maxRecDepth 20000 in
theorem kX11_290 : Cond.constant RX11 290 (65536) ∈ WT := wt_mem 1206 (by decide +kernel) rfl
set_option maxRecDepth 20000 in
theorem kX11_300 : Cond.constantLong RX11 300 (25) ∈ WT := wt_mem 1223 (by decide +kernel) rfl
set_option maxRecDepth 20000 in
theorem kX11_302 : Cond.constantLong RX11 302 (20) ∈ WT := wt_mem 1228 (by decide +kernel) rfl
set_option maxRecDepth 20000 in
theorem kX11_304 : Cond.constantLong RX11 304 (8) ∈ WT := wt_mem 1233 (by decide +kernel) rfl
set_option maxRecDepth 20000 in
theorem kX11_313 : Cond.constantLong RX11 313 (100) ∈ WT := wt_mem 1262 (by decide +kernel) rfl
set_option maxRecDepth 20000 in
theorem kX11_315 : Cond.constantLong RX11 315 (1000000000) ∈ WT := wt_mem 1263 (by decide +kernel) rfl
set_option maxRecDepth 20000 in
theorem ac_n : Cond.native arraycopyName ∈ WT := wt_mem 619 (by decide +kernel) rfl
set_option maxRecDepth 20000 in
theorem ac_s : Cond.static arraycopyName ∈ WT := wt_mem 618 (by decide +kernel) rfl
set_option maxRecDepth 20000 in
theorem ac_i : Cond.initialized "java/lang/System" ∈ WT := wt_mem 73 (by decide +kernel) rfl
