theorem dL_cell_0 : decode cL_cell 0 = .ok (.iload_n 1, 1) := by decide +kernel
theorem dL_cell_1 : decode cL_cell 1 = .ok (.aload_n 0, 1) := by decide +kernel
theorem dL_cell_2 : decode cL_cell 2 = .ok (.arraylength, 1) := by decide +kernel
theorem dL_cell_3 : decode cL_cell 3 = .ok (.if_icmp .ge 9, 3) := by decide +kernel
theorem dL_cell_6 : decode cL_cell 6 = .ok (.aload_n 0, 1) := by decide +kernel
theorem dL_cell_7 : decode cL_cell 7 = .ok (.iload_n 1, 1) := by decide +kernel
theorem dL_cell_8 : decode cL_cell 8 = .ok (.iaload, 1) := by decide +kernel
theorem dL_cell_9 : decode cL_cell 9 = .ok (.goto 10, 3) := by decide +kernel
theorem dL_cell_12 : decode cL_cell 12 = .ok (.ldc 7, 2) := by decide +kernel
theorem dL_cell_14 : decode cL_cell 14 = .ok (.iload_n 1, 1) := by decide +kernel
theorem dL_cell_15 : decode cL_cell 15 = .ok (.imul, 1) := by decide +kernel
theorem dL_cell_16 : decode cL_cell 16 = .ok (.bipush 109, 2) := by decide +kernel
theorem dL_cell_18 : decode cL_cell 18 = .ok (.iadd, 1) := by decide +kernel
theorem dL_cell_19 : decode cL_cell 19 = .ok (.ldc 8, 2) := by decide +kernel
theorem dL_cell_21 : decode cL_cell 21 = .ok (.iand, 1) := by decide +kernel
theorem dL_cell_22 : decode cL_cell 22 = .ok (.ireturn, 1) := by decide +kernel
theorem dL_lays_0 : decode cL_lays 0 = .ok (.iconst 1, 1) := by decide +kernel
theorem dL_lays_1 : decode cL_lays 1 = .ok (.istore_n 2, 1) := by decide +kernel
theorem dL_lays_2 : decode cL_lays 2 = .ok (.iconst 0, 1) := by decide +kernel
theorem dL_lays_3 : decode cL_lays 3 = .ok (.istore_n 3, 1) := by decide +kernel
theorem dL_lays_4 : decode cL_lays 4 = .ok (.iload_n 3, 1) := by decide +kernel
theorem dL_lays_5 : decode cL_lays 5 = .ok (.bipush 8, 2) := by decide +kernel
theorem dL_lays_7 : decode cL_lays 7 = .ok (.if_icmp .ge 65, 3) := by decide +kernel
theorem dL_lays_10 : decode cL_lays 10 = .ok (.iload_n 2, 1) := by decide +kernel
theorem dL_lays_11 : decode cL_lays 11 = .ok (.ifCond .eq 61, 3) := by decide +kernel
theorem dL_lays_14 : decode cL_lays 14 = .ok (.aload_n 1, 1) := by decide +kernel
theorem dL_lays_15 : decode cL_lays 15 = .ok (.iconst 1, 1) := by decide +kernel
theorem dL_lays_16 : decode cL_lays 16 = .ok (.iload_n 3, 1) := by decide +kernel
theorem dL_lays_17 : decode cL_lays 17 = .ok (.iadd, 1) := by decide +kernel
theorem dL_lays_18 : decode cL_lays 18 = .ok (.invokestatic 9, 3) := by decide +kernel
theorem dL_lays_21 : decode cL_lays 21 = .ok (.istore 4, 2) := by decide +kernel
theorem dL_lays_23 : decode cL_lays 23 = .ok (.aload_n 0, 1) := by decide +kernel
theorem dL_lays_24 : decode cL_lays 24 = .ok (.bipush 7, 2) := by decide +kernel
theorem dL_lays_26 : decode cL_lays 26 = .ok (.invokevirtual 15, 3) := by decide +kernel
theorem dL_lays_29 : decode cL_lays 29 = .ok (.istore 5, 2) := by decide +kernel
theorem dL_lays_31 : decode cL_lays 31 = .ok (.aload_n 0, 1) := by decide +kernel
theorem dL_lays_32 : decode cL_lays 32 = .ok (.iload 4, 2) := by decide +kernel
theorem dL_lays_34 : decode cL_lays 34 = .ok (.bipush 81, 2) := by decide +kernel
theorem dL_lays_36 : decode cL_lays 36 = .ok (.irem, 1) := by decide +kernel
theorem dL_lays_37 : decode cL_lays 37 = .ok (.iconst 1, 1) := by decide +kernel
theorem dL_lays_38 : decode cL_lays 38 = .ok (.invokevirtual 21, 3) := by decide +kernel
theorem dL_lays_41 : decode cL_lays 41 = .ok (.iload 5, 2) := by decide +kernel
theorem dL_lays_43 : decode cL_lays 43 = .ok (.if_icmp .lt 21, 3) := by decide +kernel
theorem dL_lays_46 : decode cL_lays 46 = .ok (.aload_n 0, 1) := by decide +kernel
theorem dL_lays_47 : decode cL_lays 47 = .ok (.iload 4, 2) := by decide +kernel
theorem dL_lays_49 : decode cL_lays 49 = .ok (.bipush 81, 2) := by decide +kernel
theorem dL_lays_51 : decode cL_lays 51 = .ok (.irem, 1) := by decide +kernel
theorem dL_lays_52 : decode cL_lays 52 = .ok (.invokevirtual 25, 3) := by decide +kernel
theorem dL_lays_55 : decode cL_lays 55 = .ok (.bipush 8, 2) := by decide +kernel
theorem dL_lays_57 : decode cL_lays 57 = .ok (.if_icmp .ne 7, 3) := by decide +kernel
theorem dL_lays_60 : decode cL_lays 60 = .ok (.iconst 1, 1) := by decide +kernel
theorem dL_lays_61 : decode cL_lays 61 = .ok (.goto 4, 3) := by decide +kernel
theorem dL_lays_64 : decode cL_lays 64 = .ok (.iconst 0, 1) := by decide +kernel
theorem dL_lays_65 : decode cL_lays 65 = .ok (.istore_n 2, 1) := by decide +kernel
theorem dL_lays_66 : decode cL_lays 66 = .ok (.iinc 3 1, 3) := by decide +kernel
theorem dL_lays_69 : decode cL_lays 69 = .ok (.goto (-65), 3) := by decide +kernel
theorem dL_lays_72 : decode cL_lays 72 = .ok (.iconst 0, 1) := by decide +kernel
theorem dL_lays_73 : decode cL_lays 73 = .ok (.istore_n 3, 1) := by decide +kernel
theorem dL_lays_74 : decode cL_lays 74 = .ok (.iload_n 3, 1) := by decide +kernel
theorem dL_lays_75 : decode cL_lays 75 = .ok (.bipush 9, 2) := by decide +kernel
theorem dL_lays_77 : decode cL_lays 77 = .ok (.if_icmp .ge 180, 3) := by decide +kernel
theorem dL_lays_80 : decode cL_lays 80 = .ok (.iload_n 2, 1) := by decide +kernel
theorem dL_lays_81 : decode cL_lays 81 = .ok (.ifCond .eq 176, 3) := by decide +kernel
theorem dL_lays_84 : decode cL_lays 84 = .ok (.aload_n 1, 1) := by decide +kernel
theorem dL_lays_85 : decode cL_lays 85 = .ok (.bipush 9, 2) := by decide +kernel
theorem dL_lays_87 : decode cL_lays 87 = .ok (.iload_n 3, 1) := by decide +kernel
theorem dL_lays_88 : decode cL_lays 88 = .ok (.iadd, 1) := by decide +kernel
theorem dL_lays_89 : decode cL_lays 89 = .ok (.invokestatic 9, 3) := by decide +kernel
theorem dL_lays_92 : decode cL_lays 92 = .ok (.istore 4, 2) := by decide +kernel
theorem dL_lays_94 : decode cL_lays 94 = .ok (.bipush 18, 2) := by decide +kernel
theorem dL_lays_96 : decode cL_lays 96 = .ok (.iload 4, 2) := by decide +kernel
theorem dL_lays_98 : decode cL_lays 98 = .ok (.bipush 45, 2) := by decide +kernel
theorem dL_lays_100 : decode cL_lays 100 = .ok (.irem, 1) := by decide +kernel
theorem dL_lays_101 : decode cL_lays 101 = .ok (.iadd, 1) := by decide +kernel
theorem dL_lays_102 : decode cL_lays 102 = .ok (.istore 5, 2) := by decide +kernel
theorem dL_lays_104 : decode cL_lays 104 = .ok (.aload_n 0, 1) := by decide +kernel
theorem dL_lays_105 : decode cL_lays 105 = .ok (.iconst 5, 1) := by decide +kernel
theorem dL_lays_106 : decode cL_lays 106 = .ok (.invokevirtual 15, 3) := by decide +kernel
theorem dL_lays_109 : decode cL_lays 109 = .ok (.istore 6, 2) := by decide +kernel
theorem dL_lays_111 : decode cL_lays 111 = .ok (.aload_n 0, 1) := by decide +kernel
theorem dL_lays_112 : decode cL_lays 112 = .ok (.iload 5, 2) := by decide +kernel
theorem dL_lays_114 : decode cL_lays 114 = .ok (.invokevirtual 25, 3) := by decide +kernel
theorem dL_lays_117 : decode cL_lays 117 = .ok (.bipush (-9), 2) := by decide +kernel
theorem dL_lays_119 : decode cL_lays 119 = .ok (.if_icmp .ne 7, 3) := by decide +kernel
theorem dL_lays_122 : decode cL_lays 122 = .ok (.iconst 1, 1) := by decide +kernel
theorem dL_lays_123 : decode cL_lays 123 = .ok (.goto 4, 3) := by decide +kernel
theorem dL_lays_126 : decode cL_lays 126 = .ok (.iconst 0, 1) := by decide +kernel
theorem dL_lays_127 : decode cL_lays 127 = .ok (.istore 7, 2) := by decide +kernel
theorem dL_lays_129 : decode cL_lays 129 = .ok (.aload_n 0, 1) := by decide +kernel
theorem dL_lays_130 : decode cL_lays 130 = .ok (.iload_n 3, 1) := by decide +kernel
theorem dL_lays_131 : decode cL_lays 131 = .ok (.iconst 2, 1) := by decide +kernel
theorem dL_lays_132 : decode cL_lays 132 = .ok (.irem, 1) := by decide +kernel
theorem dL_lays_133 : decode cL_lays 133 = .ok (.iload 5, 2) := by decide +kernel
theorem dL_lays_135 : decode cL_lays 135 = .ok (.iload 4, 2) := by decide +kernel
theorem dL_lays_137 : decode cL_lays 137 = .ok (.bipush 6, 2) := by decide +kernel
theorem dL_lays_139 : decode cL_lays 139 = .ok (.ishr, 1) := by decide +kernel
theorem dL_lays_140 : decode cL_lays 140 = .ok (.bipush 6, 2) := by decide +kernel
theorem dL_lays_142 : decode cL_lays 142 = .ok (.irem, 1) := by decide +kernel
theorem dL_lays_143 : decode cL_lays 143 = .ok (.iconst 1, 1) := by decide +kernel
theorem dL_lays_144 : decode cL_lays 144 = .ok (.iload 4, 2) := by decide +kernel
theorem dL_lays_146 : decode cL_lays 146 = .ok (.bipush 9, 2) := by decide +kernel
theorem dL_lays_148 : decode cL_lays 148 = .ok (.ishr, 1) := by decide +kernel
theorem dL_lays_149 : decode cL_lays 149 = .ok (.bipush 8, 2) := by decide +kernel
theorem dL_lays_151 : decode cL_lays 151 = .ok (.irem, 1) := by decide +kernel
theorem dL_lays_152 : decode cL_lays 152 = .ok (.iadd, 1) := by decide +kernel
theorem dL_lays_153 : decode cL_lays 153 = .ok (.iconst 1, 1) := by decide +kernel
theorem dL_lays_154 : decode cL_lays 154 = .ok (.iload 4, 2) := by decide +kernel
theorem dL_lays_156 : decode cL_lays 156 = .ok (.bipush 12, 2) := by decide +kernel
theorem dL_lays_158 : decode cL_lays 158 = .ok (.ishr, 1) := by decide +kernel
theorem dL_lays_159 : decode cL_lays 159 = .ok (.bipush 40, 2) := by decide +kernel
theorem dL_lays_161 : decode cL_lays 161 = .ok (.irem, 1) := by decide +kernel
theorem dL_lays_162 : decode cL_lays 162 = .ok (.iadd, 1) := by decide +kernel
theorem dL_lays_163 : decode cL_lays 163 = .ok (.iload 4, 2) := by decide +kernel
theorem dL_lays_165 : decode cL_lays 165 = .ok (.bipush 18, 2) := by decide +kernel
theorem dL_lays_167 : decode cL_lays 167 = .ok (.ishr, 1) := by decide +kernel
theorem dL_lays_168 : decode cL_lays 168 = .ok (.bipush 10, 2) := by decide +kernel
theorem dL_lays_170 : decode cL_lays 170 = .ok (.irem, 1) := by decide +kernel
theorem dL_lays_171 : decode cL_lays 171 = .ok (.invokevirtual 28, 3) := by decide +kernel
theorem dL_lays_174 : decode cL_lays 174 = .ok (.istore 8, 2) := by decide +kernel
theorem dL_lays_176 : decode cL_lays 176 = .ok (.iload 8, 2) := by decide +kernel
theorem dL_lays_178 : decode cL_lays 178 = .ok (.iload 7, 2) := by decide +kernel
theorem dL_lays_180 : decode cL_lays 180 = .ok (.ifCond .ne 8, 3) := by decide +kernel
theorem dL_lays_183 : decode cL_lays 183 = .ok (.bipush (-2), 2) := by decide +kernel
theorem dL_lays_185 : decode cL_lays 185 = .ok (.goto 17, 3) := by decide +kernel
theorem dL_lays_188 : decode cL_lays 188 = .ok (.iload 6, 2) := by decide +kernel
theorem dL_lays_190 : decode cL_lays 190 = .ok (.bipush 8, 2) := by decide +kernel
theorem dL_lays_192 : decode cL_lays 192 = .ok (.if_icmp .ne 8, 3) := by decide +kernel
theorem dL_lays_195 : decode cL_lays 195 = .ok (.bipush (-3), 2) := by decide +kernel
theorem dL_lays_197 : decode cL_lays 197 = .ok (.goto 5, 3) := by decide +kernel
theorem dL_lays_200 : decode cL_lays 200 = .ok (.iload 6, 2) := by decide +kernel
theorem dL_lays_202 : decode cL_lays 202 = .ok (.if_icmp .ne 47, 3) := by decide +kernel
theorem dL_lays_205 : decode cL_lays 205 = .ok (.iload 8, 2) := by decide +kernel
theorem dL_lays_207 : decode cL_lays 207 = .ok (.ifCond .lt 38, 3) := by decide +kernel
theorem dL_lays_210 : decode cL_lays 210 = .ok (.aload_n 0, 1) := by decide +kernel
theorem dL_lays_211 : decode cL_lays 211 = .ok (.iload 5, 2) := by decide +kernel
theorem dL_lays_213 : decode cL_lays 213 = .ok (.invokevirtual 25, 3) := by decide +kernel
theorem dL_lays_216 : decode cL_lays 216 = .ok (.iload 8, 2) := by decide +kernel
theorem dL_lays_218 : decode cL_lays 218 = .ok (.if_icmp .ne 31, 3) := by decide +kernel
theorem dL_lays_221 : decode cL_lays 221 = .ok (.aload_n 0, 1) := by decide +kernel
theorem dL_lays_222 : decode cL_lays 222 = .ok (.iload 8, 2) := by decide +kernel
theorem dL_lays_224 : decode cL_lays 224 = .ok (.iconst 1, 1) := by decide +kernel
theorem dL_lays_225 : decode cL_lays 225 = .ok (.invokevirtual 32, 3) := by decide +kernel
theorem dL_lays_228 : decode cL_lays 228 = .ok (.iload 5, 2) := by decide +kernel
theorem dL_lays_230 : decode cL_lays 230 = .ok (.if_icmp .ne 19, 3) := by decide +kernel
theorem dL_lays_233 : decode cL_lays 233 = .ok (.aload_n 0, 1) := by decide +kernel
theorem dL_lays_234 : decode cL_lays 234 = .ok (.iload 8, 2) := by decide +kernel
theorem dL_lays_236 : decode cL_lays 236 = .ok (.iconst 3, 1) := by decide +kernel
theorem dL_lays_237 : decode cL_lays 237 = .ok (.invokevirtual 32, 3) := by decide +kernel
theorem dL_lays_240 : decode cL_lays 240 = .ok (.bipush 20, 2) := by decide +kernel
theorem dL_lays_242 : decode cL_lays 242 = .ok (.if_icmp .ne 7, 3) := by decide +kernel
theorem dL_lays_245 : decode cL_lays 245 = .ok (.iconst 1, 1) := by decide +kernel
theorem dL_lays_246 : decode cL_lays 246 = .ok (.goto 4, 3) := by decide +kernel
theorem dL_lays_249 : decode cL_lays 249 = .ok (.iconst 0, 1) := by decide +kernel
theorem dL_lays_250 : decode cL_lays 250 = .ok (.istore_n 2, 1) := by decide +kernel
theorem dL_lays_251 : decode cL_lays 251 = .ok (.iinc 3 1, 3) := by decide +kernel
theorem dL_lays_254 : decode cL_lays 254 = .ok (.goto (-180), 3) := by decide +kernel
theorem dL_lays_257 : decode cL_lays 257 = .ok (.iload_n 2, 1) := by decide +kernel
theorem dL_lays_258 : decode cL_lays 258 = .ok (.ifCond .eq 32, 3) := by decide +kernel
theorem dL_lays_261 : decode cL_lays 261 = .ok (.aload_n 0, 1) := by decide +kernel
theorem dL_lays_262 : decode cL_lays 262 = .ok (.bipush 81, 2) := by decide +kernel
theorem dL_lays_264 : decode cL_lays 264 = .ok (.iconst 1, 1) := by decide +kernel
theorem dL_lays_265 : decode cL_lays 265 = .ok (.invokevirtual 21, 3) := by decide +kernel
theorem dL_lays_268 : decode cL_lays 268 = .ok (.iconst (-1), 1) := by decide +kernel
theorem dL_lays_269 : decode cL_lays 269 = .ok (.if_icmp .ne 21, 3) := by decide +kernel
theorem dL_lays_272 : decode cL_lays 272 = .ok (.aload_n 0, 1) := by decide +kernel
theorem dL_lays_273 : decode cL_lays 273 = .ok (.iconst 2, 1) := by decide +kernel
theorem dL_lays_274 : decode cL_lays 274 = .ok (.iconst 0, 1) := by decide +kernel
theorem dL_lays_275 : decode cL_lays 275 = .ok (.iconst 0, 1) := by decide +kernel
theorem dL_lays_276 : decode cL_lays 276 = .ok (.iconst 1, 1) := by decide +kernel
theorem dL_lays_277 : decode cL_lays 277 = .ok (.iconst 1, 1) := by decide +kernel
theorem dL_lays_278 : decode cL_lays 278 = .ok (.iconst 0, 1) := by decide +kernel
theorem dL_lays_279 : decode cL_lays 279 = .ok (.invokevirtual 28, 3) := by decide +kernel
theorem dL_lays_282 : decode cL_lays 282 = .ok (.iconst (-1), 1) := by decide +kernel
theorem dL_lays_283 : decode cL_lays 283 = .ok (.if_icmp .ne 7, 3) := by decide +kernel
theorem dL_lays_286 : decode cL_lays 286 = .ok (.iconst 1, 1) := by decide +kernel
theorem dL_lays_287 : decode cL_lays 287 = .ok (.goto 4, 3) := by decide +kernel
theorem dL_lays_290 : decode cL_lays 290 = .ok (.iconst 0, 1) := by decide +kernel
theorem dL_lays_291 : decode cL_lays 291 = .ok (.ireturn, 1) := by decide +kernel
theorem dL_ones_0 : decode cL_ones 0 = .ok (.iconst 0, 1) := by decide +kernel
theorem dL_ones_1 : decode cL_ones 1 = .ok (.istore_n 1, 1) := by decide +kernel
theorem dL_ones_2 : decode cL_ones 2 = .ok (.iconst 0, 1) := by decide +kernel
theorem dL_ones_3 : decode cL_ones 3 = .ok (.istore_n 2, 1) := by decide +kernel
theorem dL_ones_4 : decode cL_ones 4 = .ok (.iload_n 2, 1) := by decide +kernel
theorem dL_ones_5 : decode cL_ones 5 = .ok (.bipush 8, 2) := by decide +kernel
theorem dL_ones_7 : decode cL_ones 7 = .ok (.if_icmp .ge 17, 3) := by decide +kernel
theorem dL_ones_10 : decode cL_ones 10 = .ok (.iload_n 1, 1) := by decide +kernel
theorem dL_ones_11 : decode cL_ones 11 = .ok (.iload_n 0, 1) := by decide +kernel
theorem dL_ones_12 : decode cL_ones 12 = .ok (.iload_n 2, 1) := by decide +kernel
theorem dL_ones_13 : decode cL_ones 13 = .ok (.ishr, 1) := by decide +kernel
theorem dL_ones_14 : decode cL_ones 14 = .ok (.iconst 1, 1) := by decide +kernel
theorem dL_ones_15 : decode cL_ones 15 = .ok (.iand, 1) := by decide +kernel
theorem dL_ones_16 : decode cL_ones 16 = .ok (.iadd, 1) := by decide +kernel
theorem dL_ones_17 : decode cL_ones 17 = .ok (.istore_n 1, 1) := by decide +kernel
theorem dL_ones_18 : decode cL_ones 18 = .ok (.iinc 2 1, 3) := by decide +kernel
theorem dL_ones_21 : decode cL_ones 21 = .ok (.goto (-17), 3) := by decide +kernel
theorem dL_ones_24 : decode cL_ones 24 = .ok (.iload_n 1, 1) := by decide +kernel
theorem dL_ones_25 : decode cL_ones 25 = .ok (.ireturn, 1) := by decide +kernel
theorem dL_isAll_0 : decode cL_isAll 0 = .ok (.aload_n 0, 1) := by decide +kernel
theorem dL_isAll_1 : decode cL_isAll 1 = .ok (.bipush 6, 2) := by decide +kernel
theorem dL_isAll_3 : decode cL_isAll 3 = .ok (.invokevirtual 15, 3) := by decide +kernel
theorem dL_isAll_6 : decode cL_isAll 6 = .ok (.istore_n 1, 1) := by decide +kernel
theorem dL_isAll_7 : decode cL_isAll 7 = .ok (.aload_n 0, 1) := by decide +kernel
theorem dL_isAll_8 : decode cL_isAll 8 = .ok (.iconst 0, 1) := by decide +kernel
theorem dL_isAll_9 : decode cL_isAll 9 = .ok (.iconst 3, 1) := by decide +kernel
theorem dL_isAll_10 : decode cL_isAll 10 = .ok (.invokevirtual 35, 3) := by decide +kernel
theorem dL_isAll_13 : decode cL_isAll 13 = .ok (.aload_n 0, 1) := by decide +kernel
theorem dL_isAll_14 : decode cL_isAll 14 = .ok (.iconst 1, 1) := by decide +kernel
theorem dL_isAll_15 : decode cL_isAll 15 = .ok (.iconst 3, 1) := by decide +kernel
theorem dL_isAll_16 : decode cL_isAll 16 = .ok (.invokevirtual 35, 3) := by decide +kernel
theorem dL_isAll_19 : decode cL_isAll 19 = .ok (.iand, 1) := by decide +kernel
theorem dL_isAll_20 : decode cL_isAll 20 = .ok (.ifCond .ne 24, 3) := by decide +kernel
theorem dL_isAll_23 : decode cL_isAll 23 = .ok (.aload_n 0, 1) := by decide +kernel
theorem dL_isAll_24 : decode cL_isAll 24 = .ok (.iconst 0, 1) := by decide +kernel
theorem dL_isAll_25 : decode cL_isAll 25 = .ok (.iconst 3, 1) := by decide +kernel
theorem dL_isAll_26 : decode cL_isAll 26 = .ok (.invokevirtual 35, 3) := by decide +kernel
theorem dL_isAll_29 : decode cL_isAll 29 = .ok (.aload_n 0, 1) := by decide +kernel
theorem dL_isAll_30 : decode cL_isAll 30 = .ok (.iconst 1, 1) := by decide +kernel
theorem dL_isAll_31 : decode cL_isAll 31 = .ok (.iconst 3, 1) := by decide +kernel
theorem dL_isAll_32 : decode cL_isAll 32 = .ok (.invokevirtual 35, 3) := by decide +kernel
theorem dL_isAll_35 : decode cL_isAll 35 = .ok (.ior, 1) := by decide +kernel
theorem dL_isAll_36 : decode cL_isAll 36 = .ok (.iload_n 1, 1) := by decide +kernel
theorem dL_isAll_37 : decode cL_isAll 37 = .ok (.if_icmp .ne 7, 3) := by decide +kernel
theorem dL_isAll_40 : decode cL_isAll 40 = .ok (.iconst 1, 1) := by decide +kernel
theorem dL_isAll_41 : decode cL_isAll 41 = .ok (.goto 4, 3) := by decide +kernel
theorem dL_isAll_44 : decode cL_isAll 44 = .ok (.iconst 0, 1) := by decide +kernel
theorem dL_isAll_45 : decode cL_isAll 45 = .ok (.istore_n 2, 1) := by decide +kernel
theorem dL_isAll_46 : decode cL_isAll 46 = .ok (.iconst 0, 1) := by decide +kernel
theorem dL_isAll_47 : decode cL_isAll 47 = .ok (.istore_n 3, 1) := by decide +kernel
theorem dL_isAll_48 : decode cL_isAll 48 = .ok (.iconst 0, 1) := by decide +kernel
theorem dL_isAll_49 : decode cL_isAll 49 = .ok (.istore 4, 2) := by decide +kernel
theorem dL_isAll_51 : decode cL_isAll 51 = .ok (.iload 4, 2) := by decide +kernel
theorem dL_isAll_53 : decode cL_isAll 53 = .ok (.aload_n 0, 1) := by decide +kernel
theorem dL_isAll_54 : decode cL_isAll 54 = .ok (.iconst 5, 1) := by decide +kernel
theorem dL_isAll_55 : decode cL_isAll 55 = .ok (.invokevirtual 15, 3) := by decide +kernel
theorem dL_isAll_58 : decode cL_isAll 58 = .ok (.if_icmp .ge 369, 3) := by decide +kernel
theorem dL_isAll_61 : decode cL_isAll 61 = .ok (.iload_n 2, 1) := by decide +kernel
theorem dL_isAll_62 : decode cL_isAll 62 = .ok (.ifCond .eq 365, 3) := by decide +kernel
theorem dL_isAll_65 : decode cL_isAll 65 = .ok (.iload_n 1, 1) := by decide +kernel
theorem dL_isAll_66 : decode cL_isAll 66 = .ok (.iload 4, 2) := by decide +kernel
theorem dL_isAll_68 : decode cL_isAll 68 = .ok (.ishr, 1) := by decide +kernel
theorem dL_isAll_69 : decode cL_isAll 69 = .ok (.iconst 1, 1) := by decide +kernel
theorem dL_isAll_70 : decode cL_isAll 70 = .ok (.iand, 1) := by decide +kernel
theorem dL_isAll_71 : decode cL_isAll 71 = .ok (.iconst 1, 1) := by decide +kernel
theorem dL_isAll_72 : decode cL_isAll 72 = .ok (.if_icmp .ne 7, 3) := by decide +kernel
theorem dL_isAll_75 : decode cL_isAll 75 = .ok (.iconst 1, 1) := by decide +kernel
theorem dL_isAll_76 : decode cL_isAll 76 = .ok (.goto 4, 3) := by decide +kernel
theorem dL_isAll_79 : decode cL_isAll 79 = .ok (.iconst 0, 1) := by decide +kernel
theorem dL_isAll_80 : decode cL_isAll 80 = .ok (.istore 5, 2) := by decide +kernel
theorem dL_isAll_82 : decode cL_isAll 82 = .ok (.aload_n 0, 1) := by decide +kernel
theorem dL_isAll_83 : decode cL_isAll 83 = .ok (.iload 4, 2) := by decide +kernel
theorem dL_isAll_85 : decode cL_isAll 85 = .ok (.bipush 7, 2) := by decide +kernel
theorem dL_isAll_87 : decode cL_isAll 87 = .ok (.invokevirtual 32, 3) := by decide +kernel
theorem dL_isAll_90 : decode cL_isAll 90 = .ok (.istore 6, 2) := by decide +kernel
theorem dL_isAll_92 : decode cL_isAll 92 = .ok (.iload_n 3, 1) := by decide +kernel
theorem dL_isAll_93 : decode cL_isAll 93 = .ok (.iload 5, 2) := by decide +kernel
theorem dL_isAll_95 : decode cL_isAll 95 = .ok (.ifCond .eq 13, 3) := by decide +kernel
theorem dL_isAll_98 : decode cL_isAll 98 = .ok (.aload_n 0, 1) := by decide +kernel
theorem dL_isAll_99 : decode cL_isAll 99 = .ok (.iload 4, 2) := by decide +kernel
theorem dL_isAll_101 : decode cL_isAll 101 = .ok (.iconst 3, 1) := by decide +kernel
theorem dL_isAll_102 : decode cL_isAll 102 = .ok (.invokevirtual 32, 3) := by decide +kernel
theorem dL_isAll_105 : decode cL_isAll 105 = .ok (.goto 4, 3) := by decide +kernel
theorem dL_isAll_108 : decode cL_isAll 108 = .ok (.iconst 0, 1) := by decide +kernel
theorem dL_isAll_109 : decode cL_isAll 109 = .ok (.iadd, 1) := by decide +kernel
theorem dL_isAll_110 : decode cL_isAll 110 = .ok (.istore_n 3, 1) := by decide +kernel
theorem dL_isAll_111 : decode cL_isAll 111 = .ok (.iload 5, 2) := by decide +kernel
theorem dL_isAll_113 : decode cL_isAll 113 = .ok (.aload_n 0, 1) := by decide +kernel
theorem dL_isAll_114 : decode cL_isAll 114 = .ok (.iload 4, 2) := by decide +kernel
theorem dL_isAll_116 : decode cL_isAll 116 = .ok (.iconst 1, 1) := by decide +kernel
theorem dL_isAll_117 : decode cL_isAll 117 = .ok (.invokevirtual 32, 3) := by decide +kernel
theorem dL_isAll_120 : decode cL_isAll 120 = .ok (.ifCond .lt 7, 3) := by decide +kernel
theorem dL_isAll_123 : decode cL_isAll 123 = .ok (.iconst 1, 1) := by decide +kernel
theorem dL_isAll_124 : decode cL_isAll 124 = .ok (.goto 4, 3) := by decide +kernel
theorem dL_isAll_127 : decode cL_isAll 127 = .ok (.iconst 0, 1) := by decide +kernel
theorem dL_isAll_128 : decode cL_isAll 128 = .ok (.if_icmp .ne 85, 3) := by decide +kernel
theorem dL_isAll_131 : decode cL_isAll 131 = .ok (.iload 5, 2) := by decide +kernel
theorem dL_isAll_133 : decode cL_isAll 133 = .ok (.aload_n 0, 1) := by decide +kernel
theorem dL_isAll_134 : decode cL_isAll 134 = .ok (.iload 4, 2) := by decide +kernel
theorem dL_isAll_136 : decode cL_isAll 136 = .ok (.iconst 3, 1) := by decide +kernel
theorem dL_isAll_137 : decode cL_isAll 137 = .ok (.invokevirtual 32, 3) := by decide +kernel
theorem dL_isAll_140 : decode cL_isAll 140 = .ok (.ifCond .le 7, 3) := by decide +kernel
theorem dL_isAll_143 : decode cL_isAll 143 = .ok (.iconst 1, 1) := by decide +kernel
theorem dL_isAll_144 : decode cL_isAll 144 = .ok (.goto 4, 3) := by decide +kernel
theorem dL_isAll_147 : decode cL_isAll 147 = .ok (.iconst 0, 1) := by decide +kernel
theorem dL_isAll_148 : decode cL_isAll 148 = .ok (.if_icmp .ne 65, 3) := by decide +kernel
theorem dL_isAll_151 : decode cL_isAll 151 = .ok (.iload 5, 2) := by decide +kernel
theorem dL_isAll_153 : decode cL_isAll 153 = .ok (.ifCond .eq 19, 3) := by decide +kernel
theorem dL_isAll_156 : decode cL_isAll 156 = .ok (.aload_n 0, 1) := by decide +kernel
theorem dL_isAll_157 : decode cL_isAll 157 = .ok (.aload_n 0, 1) := by decide +kernel
theorem dL_isAll_158 : decode cL_isAll 158 = .ok (.iload 4, 2) := by decide +kernel
theorem dL_isAll_160 : decode cL_isAll 160 = .ok (.iconst 1, 1) := by decide +kernel
theorem dL_isAll_161 : decode cL_isAll 161 = .ok (.invokevirtual 32, 3) := by decide +kernel
theorem dL_isAll_164 : decode cL_isAll 164 = .ok (.invokevirtual 25, 3) := by decide +kernel
theorem dL_isAll_167 : decode cL_isAll 167 = .ok (.iload 4, 2) := by decide +kernel
theorem dL_isAll_169 : decode cL_isAll 169 = .ok (.if_icmp .ne 44, 3) := by decide +kernel
theorem dL_isAll_172 : decode cL_isAll 172 = .ok (.iload 6, 2) := by decide +kernel
theorem dL_isAll_174 : decode cL_isAll 174 = .ok (.bipush (-9), 2) := by decide +kernel
theorem dL_isAll_176 : decode cL_isAll 176 = .ok (.if_icmp .eq 33, 3) := by decide +kernel
theorem dL_isAll_179 : decode cL_isAll 179 = .ok (.aload_n 0, 1) := by decide +kernel
theorem dL_isAll_180 : decode cL_isAll 180 = .ok (.iload 6, 2) := by decide +kernel
theorem dL_isAll_182 : decode cL_isAll 182 = .ok (.bipush 7, 2) := by decide +kernel
theorem dL_isAll_184 : decode cL_isAll 184 = .ok (.invokevirtual 32, 3) := by decide +kernel
theorem dL_isAll_187 : decode cL_isAll 187 = .ok (.iload 4, 2) := by decide +kernel
theorem dL_isAll_189 : decode cL_isAll 189 = .ok (.if_icmp .ne 24, 3) := by decide +kernel
theorem dL_isAll_192 : decode cL_isAll 192 = .ok (.aload_n 0, 1) := by decide +kernel
theorem dL_isAll_193 : decode cL_isAll 193 = .ok (.iload 6, 2) := by decide +kernel
theorem dL_isAll_195 : decode cL_isAll 195 = .ok (.iconst 0, 1) := by decide +kernel
theorem dL_isAll_196 : decode cL_isAll 196 = .ok (.invokevirtual 32, 3) := by decide +kernel
theorem dL_isAll_199 : decode cL_isAll 199 = .ok (.aload_n 0, 1) := by decide +kernel
theorem dL_isAll_200 : decode cL_isAll 200 = .ok (.iload 4, 2) := by decide +kernel
theorem dL_isAll_202 : decode cL_isAll 202 = .ok (.iconst 0, 1) := by decide +kernel
theorem dL_isAll_203 : decode cL_isAll 203 = .ok (.invokevirtual 32, 3) := by decide +kernel
theorem dL_isAll_206 : decode cL_isAll 206 = .ok (.if_icmp .eq 7, 3) := by decide +kernel
theorem dL_isAll_209 : decode cL_isAll 209 = .ok (.iconst 1, 1) := by decide +kernel
theorem dL_isAll_210 : decode cL_isAll 210 = .ok (.goto 4, 3) := by decide +kernel
theorem dL_isAll_213 : decode cL_isAll 213 = .ok (.iconst 0, 1) := by decide +kernel
theorem dL_isAll_214 : decode cL_isAll 214 = .ok (.istore_n 2, 1) := by decide +kernel
theorem dL_isAll_215 : decode cL_isAll 215 = .ok (.iload_n 2, 1) := by decide +kernel
theorem dL_isAll_216 : decode cL_isAll 216 = .ok (.ifCond .eq 40, 3) := by decide +kernel
theorem dL_isAll_219 : decode cL_isAll 219 = .ok (.iload 5, 2) := by decide +kernel
theorem dL_isAll_221 : decode cL_isAll 221 = .ok (.ifCond .ne 31, 3) := by decide +kernel
theorem dL_isAll_224 : decode cL_isAll 224 = .ok (.aload_n 0, 1) := by decide +kernel
theorem dL_isAll_225 : decode cL_isAll 225 = .ok (.iload 4, 2) := by decide +kernel
theorem dL_isAll_227 : decode cL_isAll 227 = .ok (.iconst 0, 1) := by decide +kernel
theorem dL_isAll_228 : decode cL_isAll 228 = .ok (.invokevirtual 38, 3) := by decide +kernel
theorem dL_isAll_231 : decode cL_isAll 231 = .ok (.ifCond .ne 25, 3) := by decide +kernel
theorem dL_isAll_234 : decode cL_isAll 234 = .ok (.aload_n 0, 1) := by decide +kernel
theorem dL_isAll_235 : decode cL_isAll 235 = .ok (.iload 4, 2) := by decide +kernel
theorem dL_isAll_237 : decode cL_isAll 237 = .ok (.invokevirtual 41, 3) := by decide +kernel
theorem dL_isAll_240 : decode cL_isAll 240 = .ok (.ifCond .ne 16, 3) := by decide +kernel
theorem dL_isAll_243 : decode cL_isAll 243 = .ok (.aload_n 0, 1) := by decide +kernel
theorem dL_isAll_244 : decode cL_isAll 244 = .ok (.iload 4, 2) := by decide +kernel
theorem dL_isAll_246 : decode cL_isAll 246 = .ok (.invokevirtual 44, 3) := by decide +kernel
theorem dL_isAll_249 : decode cL_isAll 249 = .ok (.ifCond .ne 7, 3) := by decide +kernel
theorem dL_isAll_252 : decode cL_isAll 252 = .ok (.iconst 1, 1) := by decide +kernel
theorem dL_isAll_253 : decode cL_isAll 253 = .ok (.goto 4, 3) := by decide +kernel
theorem dL_isAll_256 : decode cL_isAll 256 = .ok (.iconst 0, 1) := by decide +kernel
theorem dL_isAll_257 : decode cL_isAll 257 = .ok (.istore_n 2, 1) := by decide +kernel
theorem dL_isAll_258 : decode cL_isAll 258 = .ok (.iconst 0, 1) := by decide +kernel
theorem dL_isAll_259 : decode cL_isAll 259 = .ok (.istore 7, 2) := by decide +kernel
theorem dL_isAll_261 : decode cL_isAll 261 = .ok (.iload 7, 2) := by decide +kernel
theorem dL_isAll_263 : decode cL_isAll 263 = .ok (.iconst 2, 1) := by decide +kernel
theorem dL_isAll_264 : decode cL_isAll 264 = .ok (.if_icmp .ge 157, 3) := by decide +kernel
theorem dL_isAll_267 : decode cL_isAll 267 = .ok (.iload_n 2, 1) := by decide +kernel
theorem dL_isAll_268 : decode cL_isAll 268 = .ok (.ifCond .eq 153, 3) := by decide +kernel
theorem dL_isAll_271 : decode cL_isAll 271 = .ok (.aload_n 0, 1) := by decide +kernel
theorem dL_isAll_272 : decode cL_isAll 272 = .ok (.iload 4, 2) := by decide +kernel
theorem dL_isAll_274 : decode cL_isAll 274 = .ok (.iload 7, 2) := by decide +kernel
theorem dL_isAll_276 : decode cL_isAll 276 = .ok (.invokevirtual 38, 3) := by decide +kernel
theorem dL_isAll_279 : decode cL_isAll 279 = .ok (.istore 8, 2) := by decide +kernel
theorem dL_isAll_281 : decode cL_isAll 281 = .ok (.iload 8, 2) := by decide +kernel
theorem dL_isAll_283 : decode cL_isAll 283 = .ok (.invokestatic 47, 3) := by decide +kernel
theorem dL_isAll_286 : decode cL_isAll 286 = .ok (.iconst 2, 1) := by decide +kernel
theorem dL_isAll_287 : decode cL_isAll 287 = .ok (.if_icmp .gt 16, 3) := by decide +kernel
theorem dL_isAll_290 : decode cL_isAll 290 = .ok (.iload 8, 2) := by decide +kernel
theorem dL_isAll_292 : decode cL_isAll 292 = .ok (.iload_n 1, 1) := by decide +kernel
theorem dL_isAll_293 : decode cL_isAll 293 = .ok (.iconst (-1), 1) := by decide +kernel
theorem dL_isAll_294 : decode cL_isAll 294 = .ok (.ixor, 1) := by decide +kernel
theorem dL_isAll_295 : decode cL_isAll 295 = .ok (.iand, 1) := by decide +kernel
theorem dL_isAll_296 : decode cL_isAll 296 = .ok (.ifCond .ne 7, 3) := by decide +kernel
theorem dL_isAll_299 : decode cL_isAll 299 = .ok (.iconst 1, 1) := by decide +kernel
theorem dL_isAll_300 : decode cL_isAll 300 = .ok (.goto 4, 3) := by decide +kernel
theorem dL_isAll_303 : decode cL_isAll 303 = .ok (.iconst 0, 1) := by decide +kernel
theorem dL_isAll_304 : decode cL_isAll 304 = .ok (.istore_n 2, 1) := by decide +kernel
theorem dL_isAll_305 : decode cL_isAll 305 = .ok (.iconst 0, 1) := by decide +kernel
theorem dL_isAll_306 : decode cL_isAll 306 = .ok (.istore 9, 2) := by decide +kernel
theorem dL_isAll_308 : decode cL_isAll 308 = .ok (.iload 9, 2) := by decide +kernel
theorem dL_isAll_310 : decode cL_isAll 310 = .ok (.aload_n 0, 1) := by decide +kernel
theorem dL_isAll_311 : decode cL_isAll 311 = .ok (.iconst 5, 1) := by decide +kernel
theorem dL_isAll_312 : decode cL_isAll 312 = .ok (.invokevirtual 15, 3) := by decide +kernel
theorem dL_isAll_315 : decode cL_isAll 315 = .ok (.if_icmp .ge 100, 3) := by decide +kernel
theorem dL_isAll_318 : decode cL_isAll 318 = .ok (.iload_n 2, 1) := by decide +kernel
theorem dL_isAll_319 : decode cL_isAll 319 = .ok (.ifCond .eq 96, 3) := by decide +kernel
theorem dL_isAll_322 : decode cL_isAll 322 = .ok (.iload 8, 2) := by decide +kernel
theorem dL_isAll_324 : decode cL_isAll 324 = .ok (.iload 9, 2) := by decide +kernel
theorem dL_isAll_326 : decode cL_isAll 326 = .ok (.ishr, 1) := by decide +kernel
theorem dL_isAll_327 : decode cL_isAll 327 = .ok (.iconst 1, 1) := by decide +kernel
theorem dL_isAll_328 : decode cL_isAll 328 = .ok (.iand, 1) := by decide +kernel
theorem dL_isAll_329 : decode cL_isAll 329 = .ok (.iconst 1, 1) := by decide +kernel
theorem dL_isAll_330 : decode cL_isAll 330 = .ok (.if_icmp .ne 7, 3) := by decide +kernel
theorem dL_isAll_333 : decode cL_isAll 333 = .ok (.iconst 1, 1) := by decide +kernel
theorem dL_isAll_334 : decode cL_isAll 334 = .ok (.goto 4, 3) := by decide +kernel
theorem dL_isAll_337 : decode cL_isAll 337 = .ok (.iconst 0, 1) := by decide +kernel
theorem dL_isAll_338 : decode cL_isAll 338 = .ok (.istore 10, 2) := by decide +kernel
theorem dL_isAll_340 : decode cL_isAll 340 = .ok (.iload 4, 2) := by decide +kernel
theorem dL_isAll_342 : decode cL_isAll 342 = .ok (.iload 9, 2) := by decide +kernel
theorem dL_isAll_344 : decode cL_isAll 344 = .ok (.if_icmp .ne 16, 3) := by decide +kernel
theorem dL_isAll_347 : decode cL_isAll 347 = .ok (.iload 10, 2) := by decide +kernel
theorem dL_isAll_349 : decode cL_isAll 349 = .ok (.ifCond .ne 7, 3) := by decide +kernel
theorem dL_isAll_352 : decode cL_isAll 352 = .ok (.iconst 1, 1) := by decide +kernel
theorem dL_isAll_353 : decode cL_isAll 353 = .ok (.goto 55, 3) := by decide +kernel
theorem dL_isAll_356 : decode cL_isAll 356 = .ok (.iconst 0, 1) := by decide +kernel
theorem dL_isAll_357 : decode cL_isAll 357 = .ok (.goto 51, 3) := by decide +kernel
theorem dL_isAll_360 : decode cL_isAll 360 = .ok (.iload 10, 2) := by decide +kernel
theorem dL_isAll_362 : decode cL_isAll 362 = .ok (.aload_n 0, 1) := by decide +kernel
theorem dL_isAll_363 : decode cL_isAll 363 = .ok (.iload 4, 2) := by decide +kernel
theorem dL_isAll_365 : decode cL_isAll 365 = .ok (.iload 7, 2) := by decide +kernel
theorem dL_isAll_367 : decode cL_isAll 367 = .ok (.iload 9, 2) := by decide +kernel
theorem dL_isAll_369 : decode cL_isAll 369 = .ok (.invokevirtual 50, 3) := by decide +kernel
theorem dL_isAll_372 : decode cL_isAll 372 = .ok (.ifCond .lt 7, 3) := by decide +kernel
theorem dL_isAll_375 : decode cL_isAll 375 = .ok (.iconst 1, 1) := by decide +kernel
theorem dL_isAll_376 : decode cL_isAll 376 = .ok (.goto 4, 3) := by decide +kernel
theorem dL_isAll_379 : decode cL_isAll 379 = .ok (.iconst 0, 1) := by decide +kernel
theorem dL_isAll_380 : decode cL_isAll 380 = .ok (.if_icmp .ne 27, 3) := by decide +kernel
theorem dL_isAll_383 : decode cL_isAll 383 = .ok (.iload 10, 2) := by decide +kernel
theorem dL_isAll_385 : decode cL_isAll 385 = .ok (.ifCond .eq 18, 3) := by decide +kernel
theorem dL_isAll_388 : decode cL_isAll 388 = .ok (.aload_n 0, 1) := by decide +kernel
theorem dL_isAll_389 : decode cL_isAll 389 = .ok (.iload 9, 2) := by decide +kernel
theorem dL_isAll_391 : decode cL_isAll 391 = .ok (.invokevirtual 44, 3) := by decide +kernel
theorem dL_isAll_394 : decode cL_isAll 394 = .ok (.iload 4, 2) := by decide +kernel
theorem dL_isAll_396 : decode cL_isAll 396 = .ok (.ishr, 1) := by decide +kernel
theorem dL_isAll_397 : decode cL_isAll 397 = .ok (.iconst 1, 1) := by decide +kernel
theorem dL_isAll_398 : decode cL_isAll 398 = .ok (.iand, 1) := by decide +kernel
theorem dL_isAll_399 : decode cL_isAll 399 = .ok (.iconst 1, 1) := by decide +kernel
theorem dL_isAll_400 : decode cL_isAll 400 = .ok (.if_icmp .ne 7, 3) := by decide +kernel
theorem dL_isAll_403 : decode cL_isAll 403 = .ok (.iconst 1, 1) := by decide +kernel
theorem dL_isAll_404 : decode cL_isAll 404 = .ok (.goto 4, 3) := by decide +kernel
theorem dL_isAll_407 : decode cL_isAll 407 = .ok (.iconst 0, 1) := by decide +kernel
theorem dL_isAll_408 : decode cL_isAll 408 = .ok (.istore_n 2, 1) := by decide +kernel
theorem dL_isAll_409 : decode cL_isAll 409 = .ok (.iinc 9 1, 3) := by decide +kernel
theorem dL_isAll_412 : decode cL_isAll 412 = .ok (.goto (-104), 3) := by decide +kernel
theorem dL_isAll_415 : decode cL_isAll 415 = .ok (.iinc 7 1, 3) := by decide +kernel
theorem dL_isAll_418 : decode cL_isAll 418 = .ok (.goto (-157), 3) := by decide +kernel
theorem dL_isAll_421 : decode cL_isAll 421 = .ok (.iinc 4 1, 3) := by decide +kernel
theorem dL_isAll_424 : decode cL_isAll 424 = .ok (.goto (-373), 3) := by decide +kernel
theorem dL_isAll_427 : decode cL_isAll 427 = .ok (.iload_n 2, 1) := by decide +kernel
theorem dL_isAll_428 : decode cL_isAll 428 = .ok (.ifCond .eq 58, 3) := by decide +kernel
theorem dL_isAll_431 : decode cL_isAll 431 = .ok (.iload_n 3, 1) := by decide +kernel
theorem dL_isAll_432 : decode cL_isAll 432 = .ok (.aload_n 0, 1) := by decide +kernel
theorem dL_isAll_433 : decode cL_isAll 433 = .ok (.iconst 0, 1) := by decide +kernel
theorem dL_isAll_434 : decode cL_isAll 434 = .ok (.iconst 4, 1) := by decide +kernel
theorem dL_isAll_435 : decode cL_isAll 435 = .ok (.invokevirtual 35, 3) := by decide +kernel
theorem dL_isAll_438 : decode cL_isAll 438 = .ok (.aload_n 0, 1) := by decide +kernel
theorem dL_isAll_439 : decode cL_isAll 439 = .ok (.iconst 1, 1) := by decide +kernel
theorem dL_isAll_440 : decode cL_isAll 440 = .ok (.iconst 4, 1) := by decide +kernel
theorem dL_isAll_441 : decode cL_isAll 441 = .ok (.invokevirtual 35, 3) := by decide +kernel
theorem dL_isAll_444 : decode cL_isAll 444 = .ok (.iadd, 1) := by decide +kernel
theorem dL_isAll_445 : decode cL_isAll 445 = .ok (.if_icmp .ne 41, 3) := by decide +kernel
theorem dL_isAll_448 : decode cL_isAll 448 = .ok (.aload_n 0, 1) := by decide +kernel
theorem dL_isAll_449 : decode cL_isAll 449 = .ok (.iconst 0, 1) := by decide +kernel
theorem dL_isAll_450 : decode cL_isAll 450 = .ok (.invokevirtual 54, 3) := by decide +kernel
theorem dL_isAll_453 : decode cL_isAll 453 = .ok (.aload_n 0, 1) := by decide +kernel
theorem dL_isAll_454 : decode cL_isAll 454 = .ok (.iconst 0, 1) := by decide +kernel
theorem dL_isAll_455 : decode cL_isAll 455 = .ok (.iconst 4, 1) := by decide +kernel
theorem dL_isAll_456 : decode cL_isAll 456 = .ok (.invokevirtual 35, 3) := by decide +kernel
theorem dL_isAll_459 : decode cL_isAll 459 = .ok (.iconst 2, 1) := by decide +kernel
theorem dL_isAll_460 : decode cL_isAll 460 = .ok (.idiv, 1) := by decide +kernel
theorem dL_isAll_461 : decode cL_isAll 461 = .ok (.if_icmp .lt 25, 3) := by decide +kernel
theorem dL_isAll_464 : decode cL_isAll 464 = .ok (.aload_n 0, 1) := by decide +kernel
theorem dL_isAll_465 : decode cL_isAll 465 = .ok (.iconst 0, 1) := by decide +kernel
theorem dL_isAll_466 : decode cL_isAll 466 = .ok (.iconst 0, 1) := by decide +kernel
theorem dL_isAll_467 : decode cL_isAll 467 = .ok (.invokevirtual 35, 3) := by decide +kernel
theorem dL_isAll_470 : decode cL_isAll 470 = .ok (.ifCond .le 16, 3) := by decide +kernel
theorem dL_isAll_473 : decode cL_isAll 473 = .ok (.aload_n 0, 1) := by decide +kernel
theorem dL_isAll_474 : decode cL_isAll 474 = .ok (.iconst 1, 1) := by decide +kernel
theorem dL_isAll_475 : decode cL_isAll 475 = .ok (.iconst 0, 1) := by decide +kernel
theorem dL_isAll_476 : decode cL_isAll 476 = .ok (.invokevirtual 35, 3) := by decide +kernel
theorem dL_isAll_479 : decode cL_isAll 479 = .ok (.ifCond .le 7, 3) := by decide +kernel
theorem dL_isAll_482 : decode cL_isAll 482 = .ok (.iconst 1, 1) := by decide +kernel
theorem dL_isAll_483 : decode cL_isAll 483 = .ok (.goto 4, 3) := by decide +kernel
theorem dL_isAll_486 : decode cL_isAll 486 = .ok (.iconst 0, 1) := by decide +kernel
theorem dL_isAll_487 : decode cL_isAll 487 = .ok (.ireturn, 1) := by decide +kernel
theorem dL_isWay_0 : decode cL_isWay 0 = .ok (.iconst 0, 1) := by decide +kernel
theorem dL_isWay_1 : decode cL_isWay 1 = .ok (.istore_n 3, 1) := by decide +kernel
theorem dL_isWay_2 : decode cL_isWay 2 = .ok (.iconst 0, 1) := by decide +kernel
theorem dL_isWay_3 : decode cL_isWay 3 = .ok (.istore 4, 2) := by decide +kernel
theorem dL_isWay_5 : decode cL_isWay 5 = .ok (.iload 4, 2) := by decide +kernel
theorem dL_isWay_7 : decode cL_isWay 7 = .ok (.bipush 81, 2) := by decide +kernel
theorem dL_isWay_9 : decode cL_isWay 9 = .ok (.if_icmp .ge 68, 3) := by decide +kernel
theorem dL_isWay_12 : decode cL_isWay 12 = .ok (.aload_n 0, 1) := by decide +kernel
theorem dL_isWay_13 : decode cL_isWay 13 = .ok (.iload_n 1, 1) := by decide +kernel
theorem dL_isWay_14 : decode cL_isWay 14 = .ok (.iload 4, 2) := by decide +kernel
theorem dL_isWay_16 : decode cL_isWay 16 = .ok (.iconst 0, 1) := by decide +kernel
theorem dL_isWay_17 : decode cL_isWay 17 = .ok (.invokevirtual 57, 3) := by decide +kernel
theorem dL_isWay_20 : decode cL_isWay 20 = .ok (.istore 5, 2) := by decide +kernel
theorem dL_isWay_22 : decode cL_isWay 22 = .ok (.iload_n 3, 1) := by decide +kernel
theorem dL_isWay_23 : decode cL_isWay 23 = .ok (.iload 5, 2) := by decide +kernel
theorem dL_isWay_25 : decode cL_isWay 25 = .ok (.ifCond .le 7, 3) := by decide +kernel
theorem dL_isWay_28 : decode cL_isWay 28 = .ok (.iconst 1, 1) := by decide +kernel
theorem dL_isWay_29 : decode cL_isWay 29 = .ok (.goto 4, 3) := by decide +kernel
theorem dL_isWay_32 : decode cL_isWay 32 = .ok (.iconst 0, 1) := by decide +kernel
theorem dL_isWay_33 : decode cL_isWay 33 = .ok (.iadd, 1) := by decide +kernel
theorem dL_isWay_34 : decode cL_isWay 34 = .ok (.istore_n 3, 1) := by decide +kernel
theorem dL_isWay_35 : decode cL_isWay 35 = .ok (.iload 5, 2) := by decide +kernel
theorem dL_isWay_37 : decode cL_isWay 37 = .ok (.ifCond .le 34, 3) := by decide +kernel
theorem dL_isWay_40 : decode cL_isWay 40 = .ok (.aload_n 0, 1) := by decide +kernel
theorem dL_isWay_41 : decode cL_isWay 41 = .ok (.iload_n 1, 1) := by decide +kernel
theorem dL_isWay_42 : decode cL_isWay 42 = .ok (.iload 4, 2) := by decide +kernel
theorem dL_isWay_44 : decode cL_isWay 44 = .ok (.iconst 1, 1) := by decide +kernel
theorem dL_isWay_45 : decode cL_isWay 45 = .ok (.invokevirtual 57, 3) := by decide +kernel
theorem dL_isWay_48 : decode cL_isWay 48 = .ok (.aload_n 0, 1) := by decide +kernel
theorem dL_isWay_49 : decode cL_isWay 49 = .ok (.iload_n 1, 1) := by decide +kernel
theorem dL_isWay_50 : decode cL_isWay 50 = .ok (.bipush 8, 2) := by decide +kernel
theorem dL_isWay_52 : decode cL_isWay 52 = .ok (.invokevirtual 32, 3) := by decide +kernel
theorem dL_isWay_55 : decode cL_isWay 55 = .ok (.if_icmp .gt 14, 3) := by decide +kernel
theorem dL_isWay_58 : decode cL_isWay 58 = .ok (.aload_n 0, 1) := by decide +kernel
theorem dL_isWay_59 : decode cL_isWay 59 = .ok (.iload 4, 2) := by decide +kernel
theorem dL_isWay_61 : decode cL_isWay 61 = .ok (.invokevirtual 25, 3) := by decide +kernel
theorem dL_isWay_64 : decode cL_isWay 64 = .ok (.bipush (-9), 2) := by decide +kernel
theorem dL_isWay_66 : decode cL_isWay 66 = .ok (.if_icmp .eq 5, 3) := by decide +kernel
theorem dL_isWay_69 : decode cL_isWay 69 = .ok (.iconst 0, 1) := by decide +kernel
theorem dL_isWay_70 : decode cL_isWay 70 = .ok (.ireturn, 1) := by decide +kernel
theorem dL_isWay_71 : decode cL_isWay 71 = .ok (.iinc 4 1, 3) := by decide +kernel
theorem dL_isWay_74 : decode cL_isWay 74 = .ok (.goto (-69), 3) := by decide +kernel
theorem dL_isWay_77 : decode cL_isWay 77 = .ok (.iload_n 2, 1) := by decide +kernel
theorem dL_isWay_78 : decode cL_isWay 78 = .ok (.bipush 81, 2) := by decide +kernel
theorem dL_isWay_80 : decode cL_isWay 80 = .ok (.irem, 1) := by decide +kernel
theorem dL_isWay_81 : decode cL_isWay 81 = .ok (.istore 4, 2) := by decide +kernel
theorem dL_isWay_83 : decode cL_isWay 83 = .ok (.aload_n 0, 1) := by decide +kernel
theorem dL_isWay_84 : decode cL_isWay 84 = .ok (.iload_n 1, 1) := by decide +kernel
theorem dL_isWay_85 : decode cL_isWay 85 = .ok (.iload 4, 2) := by decide +kernel
theorem dL_isWay_87 : decode cL_isWay 87 = .ok (.iconst 0, 1) := by decide +kernel
theorem dL_isWay_88 : decode cL_isWay 88 = .ok (.invokevirtual 57, 3) := by decide +kernel
theorem dL_isWay_91 : decode cL_isWay 91 = .ok (.istore 5, 2) := by decide +kernel
theorem dL_isWay_93 : decode cL_isWay 93 = .ok (.iload_n 3, 1) := by decide +kernel
theorem dL_isWay_94 : decode cL_isWay 94 = .ok (.aload_n 0, 1) := by decide +kernel
theorem dL_isWay_95 : decode cL_isWay 95 = .ok (.iload_n 1, 1) := by decide +kernel
theorem dL_isWay_96 : decode cL_isWay 96 = .ok (.invokevirtual 41, 3) := by decide +kernel
theorem dL_isWay_99 : decode cL_isWay 99 = .ok (.if_icmp .ne 7, 3) := by decide +kernel
theorem dL_isWay_102 : decode cL_isWay 102 = .ok (.iconst 1, 1) := by decide +kernel
theorem dL_isWay_103 : decode cL_isWay 103 = .ok (.goto 4, 3) := by decide +kernel
theorem dL_isWay_106 : decode cL_isWay 106 = .ok (.iconst 0, 1) := by decide +kernel
theorem dL_isWay_107 : decode cL_isWay 107 = .ok (.istore 6, 2) := by decide +kernel
theorem dL_isWay_109 : decode cL_isWay 109 = .ok (.iload 6, 2) := by decide +kernel
theorem dL_isWay_111 : decode cL_isWay 111 = .ok (.ifCond .eq 29, 3) := by decide +kernel
theorem dL_isWay_114 : decode cL_isWay 114 = .ok (.iload 5, 2) := by decide +kernel
theorem dL_isWay_116 : decode cL_isWay 116 = .ok (.ifCond .lt 24, 3) := by decide +kernel
theorem dL_isWay_119 : decode cL_isWay 119 = .ok (.aload_n 0, 1) := by decide +kernel
theorem dL_isWay_120 : decode cL_isWay 120 = .ok (.iconst 1, 1) := by decide +kernel
theorem dL_isWay_121 : decode cL_isWay 121 = .ok (.invokevirtual 15, 3) := by decide +kernel
theorem dL_isWay_124 : decode cL_isWay 124 = .ok (.ifCond .eq 16, 3) := by decide +kernel
theorem dL_isWay_127 : decode cL_isWay 127 = .ok (.aload_n 0, 1) := by decide +kernel
theorem dL_isWay_128 : decode cL_isWay 128 = .ok (.iload_n 1, 1) := by decide +kernel
theorem dL_isWay_129 : decode cL_isWay 129 = .ok (.bipush 10, 2) := by decide +kernel
theorem dL_isWay_131 : decode cL_isWay 131 = .ok (.invokevirtual 32, 3) := by decide +kernel
theorem dL_isWay_134 : decode cL_isWay 134 = .ok (.iconst 2, 1) := by decide +kernel
theorem dL_isWay_135 : decode cL_isWay 135 = .ok (.irem, 1) := by decide +kernel
theorem dL_isWay_136 : decode cL_isWay 136 = .ok (.iconst 1, 1) := by decide +kernel
theorem dL_isWay_137 : decode cL_isWay 137 = .ok (.if_icmp .ne 26, 3) := by decide +kernel
theorem dL_isWay_140 : decode cL_isWay 140 = .ok (.iload 6, 2) := by decide +kernel
theorem dL_isWay_142 : decode cL_isWay 142 = .ok (.ifCond .eq 19, 3) := by decide +kernel
theorem dL_isWay_145 : decode cL_isWay 145 = .ok (.iload 5, 2) := by decide +kernel
theorem dL_isWay_147 : decode cL_isWay 147 = .ok (.ifCond .gt 10, 3) := by decide +kernel
theorem dL_isWay_150 : decode cL_isWay 150 = .ok (.iload 5, 2) := by decide +kernel
theorem dL_isWay_152 : decode cL_isWay 152 = .ok (.bipush (-9), 2) := by decide +kernel
theorem dL_isWay_154 : decode cL_isWay 154 = .ok (.if_icmp .ne 7, 3) := by decide +kernel
theorem dL_isWay_157 : decode cL_isWay 157 = .ok (.iconst 1, 1) := by decide +kernel
theorem dL_isWay_158 : decode cL_isWay 158 = .ok (.goto 4, 3) := by decide +kernel
theorem dL_isWay_161 : decode cL_isWay 161 = .ok (.iconst 0, 1) := by decide +kernel
theorem dL_isWay_162 : decode cL_isWay 162 = .ok (.ireturn, 1) := by decide +kernel
theorem dL_isWay_163 : decode cL_isWay 163 = .ok (.aload_n 0, 1) := by decide +kernel
theorem dL_isWay_164 : decode cL_isWay 164 = .ok (.iload_n 1, 1) := by decide +kernel
theorem dL_isWay_165 : decode cL_isWay 165 = .ok (.iload 4, 2) := by decide +kernel
theorem dL_isWay_167 : decode cL_isWay 167 = .ok (.iconst 2, 1) := by decide +kernel
theorem dL_isWay_168 : decode cL_isWay 168 = .ok (.invokevirtual 57, 3) := by decide +kernel
theorem dL_isWay_171 : decode cL_isWay 171 = .ok (.istore 7, 2) := by decide +kernel
theorem dL_isWay_173 : decode cL_isWay 173 = .ok (.aload_n 0, 1) := by decide +kernel
theorem dL_isWay_174 : decode cL_isWay 174 = .ok (.iload_n 1, 1) := by decide +kernel
theorem dL_isWay_175 : decode cL_isWay 175 = .ok (.iload 5, 2) := by decide +kernel
theorem dL_isWay_177 : decode cL_isWay 177 = .ok (.invokevirtual 60, 3) := by decide +kernel
theorem dL_isWay_180 : decode cL_isWay 180 = .ok (.iload 4, 2) := by decide +kernel
theorem dL_isWay_182 : decode cL_isWay 182 = .ok (.if_icmp .ne 54, 3) := by decide +kernel
theorem dL_isWay_185 : decode cL_isWay 185 = .ok (.aload_n 0, 1) := by decide +kernel
theorem dL_isWay_186 : decode cL_isWay 186 = .ok (.iload_n 1, 1) := by decide +kernel
theorem dL_isWay_187 : decode cL_isWay 187 = .ok (.iconst 1, 1) := by decide +kernel
theorem dL_isWay_188 : decode cL_isWay 188 = .ok (.invokevirtual 32, 3) := by decide +kernel
theorem dL_isWay_191 : decode cL_isWay 191 = .ok (.iload 4, 2) := by decide +kernel
theorem dL_isWay_193 : decode cL_isWay 193 = .ok (.if_icmp .ne 43, 3) := by decide +kernel
theorem dL_isWay_196 : decode cL_isWay 196 = .ok (.aload_n 0, 1) := by decide +kernel
theorem dL_isWay_197 : decode cL_isWay 197 = .ok (.iload_n 1, 1) := by decide +kernel
theorem dL_isWay_198 : decode cL_isWay 198 = .ok (.iconst 2, 1) := by decide +kernel
theorem dL_isWay_199 : decode cL_isWay 199 = .ok (.invokevirtual 32, 3) := by decide +kernel
theorem dL_isWay_202 : decode cL_isWay 202 = .ok (.iload 7, 2) := by decide +kernel
theorem dL_isWay_204 : decode cL_isWay 204 = .ok (.if_icmp .ne 32, 3) := by decide +kernel
theorem dL_isWay_207 : decode cL_isWay 207 = .ok (.aload_n 0, 1) := by decide +kernel
theorem dL_isWay_208 : decode cL_isWay 208 = .ok (.iload_n 1, 1) := by decide +kernel
theorem dL_isWay_209 : decode cL_isWay 209 = .ok (.iload 5, 2) := by decide +kernel
theorem dL_isWay_211 : decode cL_isWay 211 = .ok (.invokevirtual 60, 3) := by decide +kernel
theorem dL_isWay_214 : decode cL_isWay 214 = .ok (.bipush (-2), 2) := by decide +kernel
theorem dL_isWay_216 : decode cL_isWay 216 = .ok (.if_icmp .ne 20, 3) := by decide +kernel
theorem dL_isWay_219 : decode cL_isWay 219 = .ok (.aload_n 0, 1) := by decide +kernel
theorem dL_isWay_220 : decode cL_isWay 220 = .ok (.iload_n 1, 1) := by decide +kernel
theorem dL_isWay_221 : decode cL_isWay 221 = .ok (.bipush 10, 2) := by decide +kernel
theorem dL_isWay_223 : decode cL_isWay 223 = .ok (.invokevirtual 32, 3) := by decide +kernel
theorem dL_isWay_226 : decode cL_isWay 226 = .ok (.iconst 2, 1) := by decide +kernel
theorem dL_isWay_227 : decode cL_isWay 227 = .ok (.irem, 1) := by decide +kernel
theorem dL_isWay_228 : decode cL_isWay 228 = .ok (.iconst 1, 1) := by decide +kernel
theorem dL_isWay_229 : decode cL_isWay 229 = .ok (.if_icmp .ne 7, 3) := by decide +kernel
theorem dL_isWay_232 : decode cL_isWay 232 = .ok (.iconst 1, 1) := by decide +kernel
theorem dL_isWay_233 : decode cL_isWay 233 = .ok (.goto 4, 3) := by decide +kernel
theorem dL_isWay_236 : decode cL_isWay 236 = .ok (.iconst 0, 1) := by decide +kernel
theorem dL_isWay_237 : decode cL_isWay 237 = .ok (.istore 6, 2) := by decide +kernel
theorem dL_isWay_239 : decode cL_isWay 239 = .ok (.iload 6, 2) := by decide +kernel
theorem dL_isWay_241 : decode cL_isWay 241 = .ok (.ifCond .eq 34, 3) := by decide +kernel
theorem dL_isWay_244 : decode cL_isWay 244 = .ok (.iload_n 2, 1) := by decide +kernel
theorem dL_isWay_245 : decode cL_isWay 245 = .ok (.bipush 8, 2) := by decide +kernel
theorem dL_isWay_247 : decode cL_isWay 247 = .ok (.ishr, 1) := by decide +kernel
theorem dL_isWay_248 : decode cL_isWay 248 = .ok (.iconst 2, 1) := by decide +kernel
theorem dL_isWay_249 : decode cL_isWay 249 = .ok (.irem, 1) := by decide +kernel
theorem dL_isWay_250 : decode cL_isWay 250 = .ok (.ifCond .eq 21, 3) := by decide +kernel
theorem dL_isWay_253 : decode cL_isWay 253 = .ok (.aload_n 0, 1) := by decide +kernel
theorem dL_isWay_254 : decode cL_isWay 254 = .ok (.invokevirtual 63, 3) := by decide +kernel
theorem dL_isWay_257 : decode cL_isWay 257 = .ok (.ifCond .lt 18, 3) := by decide +kernel
theorem dL_isWay_260 : decode cL_isWay 260 = .ok (.aload_n 0, 1) := by decide +kernel
theorem dL_isWay_261 : decode cL_isWay 261 = .ok (.iload_n 1, 1) := by decide +kernel
theorem dL_isWay_262 : decode cL_isWay 262 = .ok (.iconst 1, 1) := by decide +kernel
theorem dL_isWay_263 : decode cL_isWay 263 = .ok (.invokevirtual 32, 3) := by decide +kernel
theorem dL_isWay_266 : decode cL_isWay 266 = .ok (.iload 4, 2) := by decide +kernel
theorem dL_isWay_268 : decode cL_isWay 268 = .ok (.if_icmp .eq 7, 3) := by decide +kernel
theorem dL_isWay_271 : decode cL_isWay 271 = .ok (.iconst 1, 1) := by decide +kernel
theorem dL_isWay_272 : decode cL_isWay 272 = .ok (.goto 4, 3) := by decide +kernel
theorem dL_isWay_275 : decode cL_isWay 275 = .ok (.iconst 0, 1) := by decide +kernel
theorem dL_isWay_276 : decode cL_isWay 276 = .ok (.ireturn, 1) := by decide +kernel
theorem dL_acts_0 : decode cL_acts 0 = .ok (.aload_n 0, 1) := by decide +kernel
theorem dL_acts_1 : decode cL_acts 1 = .ok (.iconst 5, 1) := by decide +kernel
theorem dL_acts_2 : decode cL_acts 2 = .ok (.invokevirtual 15, 3) := by decide +kernel
theorem dL_acts_5 : decode cL_acts 5 = .ok (.istore_n 2, 1) := by decide +kernel
theorem dL_acts_6 : decode cL_acts 6 = .ok (.iload_n 1, 1) := by decide +kernel
theorem dL_acts_7 : decode cL_acts 7 = .ok (.iload_n 2, 1) := by decide +kernel
theorem dL_acts_8 : decode cL_acts 8 = .ok (.irem, 1) := by decide +kernel
theorem dL_acts_9 : decode cL_acts 9 = .ok (.istore_n 3, 1) := by decide +kernel
theorem dL_acts_10 : decode cL_acts 10 = .ok (.iload_n 1, 1) := by decide +kernel
theorem dL_acts_11 : decode cL_acts 11 = .ok (.iconst 3, 1) := by decide +kernel
theorem dL_acts_12 : decode cL_acts 12 = .ok (.ishr, 1) := by decide +kernel
theorem dL_acts_13 : decode cL_acts 13 = .ok (.iload_n 2, 1) := by decide +kernel
theorem dL_acts_14 : decode cL_acts 14 = .ok (.irem, 1) := by decide +kernel
theorem dL_acts_15 : decode cL_acts 15 = .ok (.istore 4, 2) := by decide +kernel
theorem dL_acts_17 : decode cL_acts 17 = .ok (.iload_n 1, 1) := by decide +kernel
theorem dL_acts_18 : decode cL_acts 18 = .ok (.bipush 6, 2) := by decide +kernel
theorem dL_acts_20 : decode cL_acts 20 = .ok (.ishr, 1) := by decide +kernel
theorem dL_acts_21 : decode cL_acts 21 = .ok (.iconst 2, 1) := by decide +kernel
theorem dL_acts_22 : decode cL_acts 22 = .ok (.irem, 1) := by decide +kernel
theorem dL_acts_23 : decode cL_acts 23 = .ok (.istore 5, 2) := by decide +kernel
theorem dL_acts_25 : decode cL_acts 25 = .ok (.iload_n 1, 1) := by decide +kernel
theorem dL_acts_26 : decode cL_acts 26 = .ok (.bipush 7, 2) := by decide +kernel
theorem dL_acts_28 : decode cL_acts 28 = .ok (.ishr, 1) := by decide +kernel
theorem dL_acts_29 : decode cL_acts 29 = .ok (.iconst 4, 1) := by decide +kernel
theorem dL_acts_30 : decode cL_acts 30 = .ok (.irem, 1) := by decide +kernel
theorem dL_acts_31 : decode cL_acts 31 = .ok (.ifCond .ne 13, 3) := by decide +kernel
theorem dL_acts_34 : decode cL_acts 34 = .ok (.aload_n 0, 1) := by decide +kernel
theorem dL_acts_35 : decode cL_acts 35 = .ok (.iload_n 3, 1) := by decide +kernel
theorem dL_acts_36 : decode cL_acts 36 = .ok (.iload_n 1, 1) := by decide +kernel
theorem dL_acts_37 : decode cL_acts 37 = .ok (.bipush 9, 2) := by decide +kernel
theorem dL_acts_39 : decode cL_acts 39 = .ok (.ishr, 1) := by decide +kernel
theorem dL_acts_40 : decode cL_acts 40 = .ok (.invokestatic 67, 3) := by decide +kernel
theorem dL_acts_43 : decode cL_acts 43 = .ok (.ireturn, 1) := by decide +kernel
theorem dL_acts_44 : decode cL_acts 44 = .ok (.iload_n 1, 1) := by decide +kernel
theorem dL_acts_45 : decode cL_acts 45 = .ok (.bipush 7, 2) := by decide +kernel
theorem dL_acts_47 : decode cL_acts 47 = .ok (.ishr, 1) := by decide +kernel
theorem dL_acts_48 : decode cL_acts 48 = .ok (.iconst 4, 1) := by decide +kernel
theorem dL_acts_49 : decode cL_acts 49 = .ok (.irem, 1) := by decide +kernel
theorem dL_acts_50 : decode cL_acts 50 = .ok (.iconst 1, 1) := by decide +kernel
theorem dL_acts_51 : decode cL_acts 51 = .ok (.if_icmp .ne 174, 3) := by decide +kernel
theorem dL_acts_54 : decode cL_acts 54 = .ok (.iload_n 3, 1) := by decide +kernel
theorem dL_acts_55 : decode cL_acts 55 = .ok (.iload 4, 2) := by decide +kernel
theorem dL_acts_57 : decode cL_acts 57 = .ok (.if_icmp .ne 7, 3) := by decide +kernel
theorem dL_acts_60 : decode cL_acts 60 = .ok (.iconst (-1), 1) := by decide +kernel
theorem dL_acts_61 : decode cL_acts 61 = .ok (.goto 12, 3) := by decide +kernel
theorem dL_acts_64 : decode cL_acts 64 = .ok (.aload_n 0, 1) := by decide +kernel
theorem dL_acts_65 : decode cL_acts 65 = .ok (.iload_n 3, 1) := by decide +kernel
theorem dL_acts_66 : decode cL_acts 66 = .ok (.iload 5, 2) := by decide +kernel
theorem dL_acts_68 : decode cL_acts 68 = .ok (.iload 4, 2) := by decide +kernel
theorem dL_acts_70 : decode cL_acts 70 = .ok (.invokevirtual 50, 3) := by decide +kernel
theorem dL_acts_73 : decode cL_acts 73 = .ok (.istore 6, 2) := by decide +kernel
theorem dL_acts_75 : decode cL_acts 75 = .ok (.iload 6, 2) := by decide +kernel
theorem dL_acts_77 : decode cL_acts 77 = .ok (.ifCond .lt 31, 3) := by decide +kernel
theorem dL_acts_80 : decode cL_acts 80 = .ok (.aload_n 0, 1) := by decide +kernel
theorem dL_acts_81 : decode cL_acts 81 = .ok (.iconst 1, 1) := by decide +kernel
theorem dL_acts_82 : decode cL_acts 82 = .ok (.invokevirtual 15, 3) := by decide +kernel
theorem dL_acts_85 : decode cL_acts 85 = .ok (.iconst 1, 1) := by decide +kernel
theorem dL_acts_86 : decode cL_acts 86 = .ok (.if_icmp .ne 22, 3) := by decide +kernel
theorem dL_acts_89 : decode cL_acts 89 = .ok (.aload_n 0, 1) := by decide +kernel
theorem dL_acts_90 : decode cL_acts 90 = .ok (.iload_n 3, 1) := by decide +kernel
theorem dL_acts_91 : decode cL_acts 91 = .ok (.bipush 9, 2) := by decide +kernel
theorem dL_acts_93 : decode cL_acts 93 = .ok (.invokevirtual 32, 3) := by decide +kernel
theorem dL_acts_96 : decode cL_acts 96 = .ok (.iload 5, 2) := by decide +kernel
theorem dL_acts_98 : decode cL_acts 98 = .ok (.ishr, 1) := by decide +kernel
theorem dL_acts_99 : decode cL_acts 99 = .ok (.iconst 1, 1) := by decide +kernel
theorem dL_acts_100 : decode cL_acts 100 = .ok (.iand, 1) := by decide +kernel
theorem dL_acts_101 : decode cL_acts 101 = .ok (.ifCond .ne 7, 3) := by decide +kernel
theorem dL_acts_104 : decode cL_acts 104 = .ok (.iconst 1, 1) := by decide +kernel
theorem dL_acts_105 : decode cL_acts 105 = .ok (.goto 4, 3) := by decide +kernel
theorem dL_acts_108 : decode cL_acts 108 = .ok (.iconst 0, 1) := by decide +kernel
theorem dL_acts_109 : decode cL_acts 109 = .ok (.istore 7, 2) := by decide +kernel
theorem dL_acts_111 : decode cL_acts 111 = .ok (.aload_n 0, 1) := by decide +kernel
theorem dL_acts_112 : decode cL_acts 112 = .ok (.iload 4, 2) := by decide +kernel
theorem dL_acts_114 : decode cL_acts 114 = .ok (.iconst 3, 1) := by decide +kernel
theorem dL_acts_115 : decode cL_acts 115 = .ok (.invokevirtual 32, 3) := by decide +kernel
theorem dL_acts_118 : decode cL_acts 118 = .ok (.istore 8, 2) := by decide +kernel
theorem dL_acts_120 : decode cL_acts 120 = .ok (.aload_n 0, 1) := by decide +kernel
theorem dL_acts_121 : decode cL_acts 121 = .ok (.iload_n 3, 1) := by decide +kernel
theorem dL_acts_122 : decode cL_acts 122 = .ok (.iload 5, 2) := by decide +kernel
theorem dL_acts_124 : decode cL_acts 124 = .ok (.iload 4, 2) := by decide +kernel
theorem dL_acts_126 : decode cL_acts 126 = .ok (.invokevirtual 71, 3) := by decide +kernel
theorem dL_acts_129 : decode cL_acts 129 = .ok (.istore 9, 2) := by decide +kernel
theorem dL_acts_131 : decode cL_acts 131 = .ok (.iload 9, 2) := by decide +kernel
theorem dL_acts_133 : decode cL_acts 133 = .ok (.iload_n 3, 1) := by decide +kernel
theorem dL_acts_134 : decode cL_acts 134 = .ok (.iload 4, 2) := by decide +kernel
theorem dL_acts_136 : decode cL_acts 136 = .ok (.if_icmp .ne 7, 3) := by decide +kernel
theorem dL_acts_139 : decode cL_acts 139 = .ok (.iconst (-1), 1) := by decide +kernel
theorem dL_acts_140 : decode cL_acts 140 = .ok (.goto 15, 3) := by decide +kernel
theorem dL_acts_143 : decode cL_acts 143 = .ok (.iload 7, 2) := by decide +kernel
theorem dL_acts_145 : decode cL_acts 145 = .ok (.ifCond .eq 8, 3) := by decide +kernel
theorem dL_acts_148 : decode cL_acts 148 = .ok (.iload 6, 2) := by decide +kernel
theorem dL_acts_150 : decode cL_acts 150 = .ok (.goto 5, 3) := by decide +kernel
theorem dL_acts_153 : decode cL_acts 153 = .ok (.bipush (-2), 2) := by decide +kernel
theorem dL_acts_155 : decode cL_acts 155 = .ok (.if_icmp .ne 68, 3) := by decide +kernel
theorem dL_acts_158 : decode cL_acts 158 = .ok (.iload 7, 2) := by decide +kernel
theorem dL_acts_160 : decode cL_acts 160 = .ok (.ifCond .eq 59, 3) := by decide +kernel
theorem dL_acts_163 : decode cL_acts 163 = .ok (.aload_n 0, 1) := by decide +kernel
theorem dL_acts_164 : decode cL_acts 164 = .ok (.iload 4, 2) := by decide +kernel
theorem dL_acts_166 : decode cL_acts 166 = .ok (.iconst 3, 1) := by decide +kernel
theorem dL_acts_167 : decode cL_acts 167 = .ok (.invokevirtual 32, 3) := by decide +kernel
theorem dL_acts_170 : decode cL_acts 170 = .ok (.iload 6, 2) := by decide +kernel
theorem dL_acts_172 : decode cL_acts 172 = .ok (.iload 8, 2) := by decide +kernel
theorem dL_acts_174 : decode cL_acts 174 = .ok (.if_icmp .le 7, 3) := by decide +kernel
theorem dL_acts_177 : decode cL_acts 177 = .ok (.iconst 0, 1) := by decide +kernel
theorem dL_acts_178 : decode cL_acts 178 = .ok (.goto 8, 3) := by decide +kernel
theorem dL_acts_181 : decode cL_acts 181 = .ok (.iload 8, 2) := by decide +kernel
theorem dL_acts_183 : decode cL_acts 183 = .ok (.iload 6, 2) := by decide +kernel
theorem dL_acts_185 : decode cL_acts 185 = .ok (.isub, 1) := by decide +kernel
theorem dL_acts_186 : decode cL_acts 186 = .ok (.if_icmp .ne 37, 3) := by decide +kernel
theorem dL_acts_189 : decode cL_acts 189 = .ok (.aload_n 0, 1) := by decide +kernel
theorem dL_acts_190 : decode cL_acts 190 = .ok (.iload_n 3, 1) := by decide +kernel
theorem dL_acts_191 : decode cL_acts 191 = .ok (.iload 5, 2) := by decide +kernel
theorem dL_acts_193 : decode cL_acts 193 = .ok (.iload 4, 2) := by decide +kernel
theorem dL_acts_195 : decode cL_acts 195 = .ok (.invokevirtual 71, 3) := by decide +kernel
theorem dL_acts_198 : decode cL_acts 198 = .ok (.bipush (-2), 2) := by decide +kernel
theorem dL_acts_200 : decode cL_acts 200 = .ok (.if_icmp .ne 23, 3) := by decide +kernel
theorem dL_acts_203 : decode cL_acts 203 = .ok (.aload_n 0, 1) := by decide +kernel
theorem dL_acts_204 : decode cL_acts 204 = .ok (.iload_n 3, 1) := by decide +kernel
theorem dL_acts_205 : decode cL_acts 205 = .ok (.bipush 9, 2) := by decide +kernel
theorem dL_acts_207 : decode cL_acts 207 = .ok (.invokevirtual 32, 3) := by decide +kernel
theorem dL_acts_210 : decode cL_acts 210 = .ok (.iload 5, 2) := by decide +kernel
theorem dL_acts_212 : decode cL_acts 212 = .ok (.ishr, 1) := by decide +kernel
theorem dL_acts_213 : decode cL_acts 213 = .ok (.iconst 1, 1) := by decide +kernel
theorem dL_acts_214 : decode cL_acts 214 = .ok (.iand, 1) := by decide +kernel
theorem dL_acts_215 : decode cL_acts 215 = .ok (.iconst 1, 1) := by decide +kernel
theorem dL_acts_216 : decode cL_acts 216 = .ok (.if_icmp .ne 7, 3) := by decide +kernel
theorem dL_acts_219 : decode cL_acts 219 = .ok (.iconst 1, 1) := by decide +kernel
theorem dL_acts_220 : decode cL_acts 220 = .ok (.goto 4, 3) := by decide +kernel
theorem dL_acts_223 : decode cL_acts 223 = .ok (.iconst 0, 1) := by decide +kernel
theorem dL_acts_224 : decode cL_acts 224 = .ok (.ireturn, 1) := by decide +kernel
theorem dL_acts_225 : decode cL_acts 225 = .ok (.iload_n 1, 1) := by decide +kernel
theorem dL_acts_226 : decode cL_acts 226 = .ok (.bipush 7, 2) := by decide +kernel
theorem dL_acts_228 : decode cL_acts 228 = .ok (.ishr, 1) := by decide +kernel
theorem dL_acts_229 : decode cL_acts 229 = .ok (.iconst 4, 1) := by decide +kernel
theorem dL_acts_230 : decode cL_acts 230 = .ok (.irem, 1) := by decide +kernel
theorem dL_acts_231 : decode cL_acts 231 = .ok (.iconst 2, 1) := by decide +kernel
theorem dL_acts_232 : decode cL_acts 232 = .ok (.if_icmp .ne 127, 3) := by decide +kernel
theorem dL_acts_235 : decode cL_acts 235 = .ok (.aload_n 0, 1) := by decide +kernel
theorem dL_acts_236 : decode cL_acts 236 = .ok (.iload_n 3, 1) := by decide +kernel
theorem dL_acts_237 : decode cL_acts 237 = .ok (.iload 4, 2) := by decide +kernel
theorem dL_acts_239 : decode cL_acts 239 = .ok (.invokevirtual 74, 3) := by decide +kernel
theorem dL_acts_242 : decode cL_acts 242 = .ok (.istore 6, 2) := by decide +kernel
theorem dL_acts_244 : decode cL_acts 244 = .ok (.iload 6, 2) := by decide +kernel
theorem dL_acts_246 : decode cL_acts 246 = .ok (.ifCond .ge 26, 3) := by decide +kernel
theorem dL_acts_249 : decode cL_acts 249 = .ok (.iload 6, 2) := by decide +kernel
theorem dL_acts_251 : decode cL_acts 251 = .ok (.iload_n 3, 1) := by decide +kernel
theorem dL_acts_252 : decode cL_acts 252 = .ok (.iload 4, 2) := by decide +kernel
theorem dL_acts_254 : decode cL_acts 254 = .ok (.if_icmp .ne 7, 3) := by decide +kernel
theorem dL_acts_257 : decode cL_acts 257 = .ok (.iconst (-1), 1) := by decide +kernel
theorem dL_acts_258 : decode cL_acts 258 = .ok (.goto 5, 3) := by decide +kernel
theorem dL_acts_261 : decode cL_acts 261 = .ok (.bipush (-2), 2) := by decide +kernel
theorem dL_acts_263 : decode cL_acts 263 = .ok (.if_icmp .ne 7, 3) := by decide +kernel
theorem dL_acts_266 : decode cL_acts 266 = .ok (.iconst 1, 1) := by decide +kernel
theorem dL_acts_267 : decode cL_acts 267 = .ok (.goto 4, 3) := by decide +kernel
theorem dL_acts_270 : decode cL_acts 270 = .ok (.iconst 0, 1) := by decide +kernel
theorem dL_acts_271 : decode cL_acts 271 = .ok (.ireturn, 1) := by decide +kernel
theorem dL_acts_272 : decode cL_acts 272 = .ok (.aload_n 0, 1) := by decide +kernel
theorem dL_acts_273 : decode cL_acts 273 = .ok (.iload_n 3, 1) := by decide +kernel
theorem dL_acts_274 : decode cL_acts 274 = .ok (.bipush 7, 2) := by decide +kernel
theorem dL_acts_276 : decode cL_acts 276 = .ok (.invokevirtual 32, 3) := by decide +kernel
theorem dL_acts_279 : decode cL_acts 279 = .ok (.iload 4, 2) := by decide +kernel
theorem dL_acts_281 : decode cL_acts 281 = .ok (.if_icmp .ne 76, 3) := by decide +kernel
theorem dL_acts_284 : decode cL_acts 284 = .ok (.aload_n 0, 1) := by decide +kernel
theorem dL_acts_285 : decode cL_acts 285 = .ok (.iload_n 3, 1) := by decide +kernel
theorem dL_acts_286 : decode cL_acts 286 = .ok (.bipush 8, 2) := by decide +kernel
theorem dL_acts_288 : decode cL_acts 288 = .ok (.invokevirtual 32, 3) := by decide +kernel
theorem dL_acts_291 : decode cL_acts 291 = .ok (.ifCond .ne 66, 3) := by decide +kernel
theorem dL_acts_294 : decode cL_acts 294 = .ok (.iload 6, 2) := by decide +kernel
theorem dL_acts_296 : decode cL_acts 296 = .ok (.aload_n 0, 1) := by decide +kernel
theorem dL_acts_297 : decode cL_acts 297 = .ok (.iload_n 3, 1) := by decide +kernel
theorem dL_acts_298 : decode cL_acts 298 = .ok (.iconst 5, 1) := by decide +kernel
theorem dL_acts_299 : decode cL_acts 299 = .ok (.invokevirtual 32, 3) := by decide +kernel
theorem dL_acts_302 : decode cL_acts 302 = .ok (.aload_n 0, 1) := by decide +kernel
theorem dL_acts_303 : decode cL_acts 303 = .ok (.iload 4, 2) := by decide +kernel
theorem dL_acts_305 : decode cL_acts 305 = .ok (.iconst 5, 1) := by decide +kernel
theorem dL_acts_306 : decode cL_acts 306 = .ok (.invokevirtual 32, 3) := by decide +kernel
theorem dL_acts_309 : decode cL_acts 309 = .ok (.iadd, 1) := by decide +kernel
theorem dL_acts_310 : decode cL_acts 310 = .ok (.if_icmp .ne 47, 3) := by decide +kernel
theorem dL_acts_313 : decode cL_acts 313 = .ok (.iload_n 1, 1) := by decide +kernel
theorem dL_acts_314 : decode cL_acts 314 = .ok (.bipush 10, 2) := by decide +kernel
theorem dL_acts_316 : decode cL_acts 316 = .ok (.ishr, 1) := by decide +kernel
theorem dL_acts_317 : decode cL_acts 317 = .ok (.iconst 2, 1) := by decide +kernel
theorem dL_acts_318 : decode cL_acts 318 = .ok (.irem, 1) := by decide +kernel
theorem dL_acts_319 : decode cL_acts 319 = .ok (.ifCond .eq 34, 3) := by decide +kernel
theorem dL_acts_322 : decode cL_acts 322 = .ok (.aload_n 0, 1) := by decide +kernel
theorem dL_acts_323 : decode cL_acts 323 = .ok (.iload_n 3, 1) := by decide +kernel
theorem dL_acts_324 : decode cL_acts 324 = .ok (.invokevirtual 77, 3) := by decide +kernel
theorem dL_acts_327 : decode cL_acts 327 = .ok (.aload_n 0, 1) := by decide +kernel
theorem dL_acts_328 : decode cL_acts 328 = .ok (.iload_n 3, 1) := by decide +kernel
theorem dL_acts_329 : decode cL_acts 329 = .ok (.iconst 5, 1) := by decide +kernel
theorem dL_acts_330 : decode cL_acts 330 = .ok (.invokevirtual 32, 3) := by decide +kernel
theorem dL_acts_333 : decode cL_acts 333 = .ok (.aload_n 0, 1) := by decide +kernel
theorem dL_acts_334 : decode cL_acts 334 = .ok (.iload 4, 2) := by decide +kernel
theorem dL_acts_336 : decode cL_acts 336 = .ok (.iconst 5, 1) := by decide +kernel
theorem dL_acts_337 : decode cL_acts 337 = .ok (.invokevirtual 32, 3) := by decide +kernel
theorem dL_acts_340 : decode cL_acts 340 = .ok (.if_icmp .ge 8, 3) := by decide +kernel
theorem dL_acts_343 : decode cL_acts 343 = .ok (.bipush (-2), 2) := by decide +kernel
theorem dL_acts_345 : decode cL_acts 345 = .ok (.goto 5, 3) := by decide +kernel
theorem dL_acts_348 : decode cL_acts 348 = .ok (.iload 4, 2) := by decide +kernel
theorem dL_acts_350 : decode cL_acts 350 = .ok (.if_icmp .ne 7, 3) := by decide +kernel
theorem dL_acts_353 : decode cL_acts 353 = .ok (.iconst 1, 1) := by decide +kernel
theorem dL_acts_354 : decode cL_acts 354 = .ok (.goto 4, 3) := by decide +kernel
theorem dL_acts_357 : decode cL_acts 357 = .ok (.iconst 0, 1) := by decide +kernel
theorem dL_acts_358 : decode cL_acts 358 = .ok (.ireturn, 1) := by decide +kernel
theorem dL_acts_359 : decode cL_acts 359 = .ok (.aload_n 0, 1) := by decide +kernel
theorem dL_acts_360 : decode cL_acts 360 = .ok (.aload_n 0, 1) := by decide +kernel
theorem dL_acts_361 : decode cL_acts 361 = .ok (.iload_n 3, 1) := by decide +kernel
theorem dL_acts_362 : decode cL_acts 362 = .ok (.iconst 0, 1) := by decide +kernel
theorem dL_acts_363 : decode cL_acts 363 = .ok (.invokevirtual 32, 3) := by decide +kernel
theorem dL_acts_366 : decode cL_acts 366 = .ok (.iconst 2, 1) := by decide +kernel
theorem dL_acts_367 : decode cL_acts 367 = .ok (.invokevirtual 35, 3) := by decide +kernel
theorem dL_acts_370 : decode cL_acts 370 = .ok (.istore 6, 2) := by decide +kernel
theorem dL_acts_372 : decode cL_acts 372 = .ok (.iload_n 1, 1) := by decide +kernel
theorem dL_acts_373 : decode cL_acts 373 = .ok (.bipush 10, 2) := by decide +kernel
theorem dL_acts_375 : decode cL_acts 375 = .ok (.ishr, 1) := by decide +kernel
theorem dL_acts_376 : decode cL_acts 376 = .ok (.iconst 3, 1) := by decide +kernel
theorem dL_acts_377 : decode cL_acts 377 = .ok (.irem, 1) := by decide +kernel
theorem dL_acts_378 : decode cL_acts 378 = .ok (.istore 7, 2) := by decide +kernel
theorem dL_acts_380 : decode cL_acts 380 = .ok (.aload_n 0, 1) := by decide +kernel
theorem dL_acts_381 : decode cL_acts 381 = .ok (.iload_n 3, 1) := by decide +kernel
theorem dL_acts_382 : decode cL_acts 382 = .ok (.iload 7, 2) := by decide +kernel
theorem dL_acts_384 : decode cL_acts 384 = .ok (.invokevirtual 80, 3) := by decide +kernel
theorem dL_acts_387 : decode cL_acts 387 = .ok (.istore 8, 2) := by decide +kernel
theorem dL_acts_389 : decode cL_acts 389 = .ok (.iload 7, 2) := by decide +kernel
theorem dL_acts_391 : decode cL_acts 391 = .ok (.ifCond .ne 8, 3) := by decide +kernel
theorem dL_acts_394 : decode cL_acts 394 = .ok (.iload 8, 2) := by decide +kernel
theorem dL_acts_396 : decode cL_acts 396 = .ok (.goto 7, 3) := by decide +kernel
theorem dL_acts_399 : decode cL_acts 399 = .ok (.iload 7, 2) := by decide +kernel
theorem dL_acts_401 : decode cL_acts 401 = .ok (.iconst 1, 1) := by decide +kernel
theorem dL_acts_402 : decode cL_acts 402 = .ok (.iadd, 1) := by decide +kernel
theorem dL_acts_403 : decode cL_acts 403 = .ok (.istore 9, 2) := by decide +kernel
theorem dL_acts_405 : decode cL_acts 405 = .ok (.iload 8, 2) := by decide +kernel
theorem dL_acts_407 : decode cL_acts 407 = .ok (.bipush (-2), 2) := by decide +kernel
theorem dL_acts_409 : decode cL_acts 409 = .ok (.if_icmp .eq 50, 3) := by decide +kernel
theorem dL_acts_412 : decode cL_acts 412 = .ok (.iload 8, 2) := by decide +kernel
theorem dL_acts_414 : decode cL_acts 414 = .ok (.ifCond .le 49, 3) := by decide +kernel
theorem dL_acts_417 : decode cL_acts 417 = .ok (.aload_n 0, 1) := by decide +kernel
theorem dL_acts_418 : decode cL_acts 418 = .ok (.aload_n 0, 1) := by decide +kernel
theorem dL_acts_419 : decode cL_acts 419 = .ok (.iload_n 3, 1) := by decide +kernel
theorem dL_acts_420 : decode cL_acts 420 = .ok (.iconst 0, 1) := by decide +kernel
theorem dL_acts_421 : decode cL_acts 421 = .ok (.invokevirtual 32, 3) := by decide +kernel
theorem dL_acts_424 : decode cL_acts 424 = .ok (.iconst 2, 1) := by decide +kernel
theorem dL_acts_425 : decode cL_acts 425 = .ok (.invokevirtual 35, 3) := by decide +kernel
theorem dL_acts_428 : decode cL_acts 428 = .ok (.iload 6, 2) := by decide +kernel
theorem dL_acts_430 : decode cL_acts 430 = .ok (.iload 9, 2) := by decide +kernel
theorem dL_acts_432 : decode cL_acts 432 = .ok (.isub, 1) := by decide +kernel
theorem dL_acts_433 : decode cL_acts 433 = .ok (.if_icmp .ne 30, 3) := by decide +kernel
theorem dL_acts_436 : decode cL_acts 436 = .ok (.aload_n 0, 1) := by decide +kernel
theorem dL_acts_437 : decode cL_acts 437 = .ok (.iload_n 3, 1) := by decide +kernel
theorem dL_acts_438 : decode cL_acts 438 = .ok (.iload 7, 2) := by decide +kernel
theorem dL_acts_440 : decode cL_acts 440 = .ok (.invokevirtual 80, 3) := by decide +kernel
theorem dL_acts_443 : decode cL_acts 443 = .ok (.bipush (-2), 2) := by decide +kernel
theorem dL_acts_445 : decode cL_acts 445 = .ok (.if_icmp .ne 18, 3) := by decide +kernel
theorem dL_acts_448 : decode cL_acts 448 = .ok (.aload_n 0, 1) := by decide +kernel
theorem dL_acts_449 : decode cL_acts 449 = .ok (.iload_n 3, 1) := by decide +kernel
theorem dL_acts_450 : decode cL_acts 450 = .ok (.bipush 10, 2) := by decide +kernel
theorem dL_acts_452 : decode cL_acts 452 = .ok (.invokevirtual 32, 3) := by decide +kernel
theorem dL_acts_455 : decode cL_acts 455 = .ok (.iconst 4, 1) := by decide +kernel
theorem dL_acts_456 : decode cL_acts 456 = .ok (.if_icmp .ne 7, 3) := by decide +kernel
theorem dL_acts_459 : decode cL_acts 459 = .ok (.iconst 1, 1) := by decide +kernel
theorem dL_acts_460 : decode cL_acts 460 = .ok (.goto 4, 3) := by decide +kernel
theorem dL_acts_463 : decode cL_acts 463 = .ok (.iconst 0, 1) := by decide +kernel
theorem dL_acts_464 : decode cL_acts 464 = .ok (.ireturn, 1) := by decide +kernel
theorem dL_tells_0 : decode cL_tells 0 = .ok (.iload_n 1, 1) := by decide +kernel
theorem dL_tells_1 : decode cL_tells 1 = .ok (.bipush 6, 2) := by decide +kernel
theorem dL_tells_3 : decode cL_tells 3 = .ok (.irem, 1) := by decide +kernel
theorem dL_tells_4 : decode cL_tells 4 = .ok (.istore_n 2, 1) := by decide +kernel
theorem dL_tells_5 : decode cL_tells 5 = .ok (.iload_n 1, 1) := by decide +kernel
theorem dL_tells_6 : decode cL_tells 6 = .ok (.iconst 3, 1) := by decide +kernel
theorem dL_tells_7 : decode cL_tells 7 = .ok (.ishr, 1) := by decide +kernel
theorem dL_tells_8 : decode cL_tells 8 = .ok (.bipush 6, 2) := by decide +kernel
theorem dL_tells_10 : decode cL_tells 10 = .ok (.irem, 1) := by decide +kernel
theorem dL_tells_11 : decode cL_tells 11 = .ok (.istore_n 3, 1) := by decide +kernel
theorem dL_tells_12 : decode cL_tells 12 = .ok (.aload_n 0, 1) := by decide +kernel
theorem dL_tells_13 : decode cL_tells 13 = .ok (.iconst 0, 1) := by decide +kernel
theorem dL_tells_14 : decode cL_tells 14 = .ok (.iconst 0, 1) := by decide +kernel
theorem dL_tells_15 : decode cL_tells 15 = .ok (.invokevirtual 35, 3) := by decide +kernel
theorem dL_tells_18 : decode cL_tells 18 = .ok (.iload_n 2, 1) := by decide +kernel
theorem dL_tells_19 : decode cL_tells 19 = .ok (.ishr, 1) := by decide +kernel
theorem dL_tells_20 : decode cL_tells 20 = .ok (.iconst 1, 1) := by decide +kernel
theorem dL_tells_21 : decode cL_tells 21 = .ok (.iand, 1) := by decide +kernel
theorem dL_tells_22 : decode cL_tells 22 = .ok (.ifCond .ne 13, 3) := by decide +kernel
theorem dL_tells_25 : decode cL_tells 25 = .ok (.iload_n 2, 1) := by decide +kernel
theorem dL_tells_26 : decode cL_tells 26 = .ok (.iconst 1, 1) := by decide +kernel
theorem dL_tells_27 : decode cL_tells 27 = .ok (.iadd, 1) := by decide +kernel
theorem dL_tells_28 : decode cL_tells 28 = .ok (.bipush 6, 2) := by decide +kernel
theorem dL_tells_30 : decode cL_tells 30 = .ok (.irem, 1) := by decide +kernel
theorem dL_tells_31 : decode cL_tells 31 = .ok (.istore_n 2, 1) := by decide +kernel
theorem dL_tells_32 : decode cL_tells 32 = .ok (.goto (-20), 3) := by decide +kernel
theorem dL_tells_35 : decode cL_tells 35 = .ok (.aload_n 0, 1) := by decide +kernel
theorem dL_tells_36 : decode cL_tells 36 = .ok (.iconst 1, 1) := by decide +kernel
theorem dL_tells_37 : decode cL_tells 37 = .ok (.iconst 0, 1) := by decide +kernel
theorem dL_tells_38 : decode cL_tells 38 = .ok (.invokevirtual 35, 3) := by decide +kernel
theorem dL_tells_41 : decode cL_tells 41 = .ok (.iload_n 3, 1) := by decide +kernel
theorem dL_tells_42 : decode cL_tells 42 = .ok (.ishr, 1) := by decide +kernel
theorem dL_tells_43 : decode cL_tells 43 = .ok (.iconst 1, 1) := by decide +kernel
theorem dL_tells_44 : decode cL_tells 44 = .ok (.iand, 1) := by decide +kernel
theorem dL_tells_45 : decode cL_tells 45 = .ok (.ifCond .ne 13, 3) := by decide +kernel
theorem dL_tells_48 : decode cL_tells 48 = .ok (.iload_n 3, 1) := by decide +kernel
theorem dL_tells_49 : decode cL_tells 49 = .ok (.iconst 1, 1) := by decide +kernel
theorem dL_tells_50 : decode cL_tells 50 = .ok (.iadd, 1) := by decide +kernel
theorem dL_tells_51 : decode cL_tells 51 = .ok (.bipush 6, 2) := by decide +kernel
theorem dL_tells_53 : decode cL_tells 53 = .ok (.irem, 1) := by decide +kernel
theorem dL_tells_54 : decode cL_tells 54 = .ok (.istore_n 3, 1) := by decide +kernel
theorem dL_tells_55 : decode cL_tells 55 = .ok (.goto (-20), 3) := by decide +kernel
theorem dL_tells_58 : decode cL_tells 58 = .ok (.aload_n 0, 1) := by decide +kernel
theorem dL_tells_59 : decode cL_tells 59 = .ok (.iload_n 2, 1) := by decide +kernel
theorem dL_tells_60 : decode cL_tells 60 = .ok (.iload_n 3, 1) := by decide +kernel
theorem dL_tells_61 : decode cL_tells 61 = .ok (.invokevirtual 83, 3) := by decide +kernel
theorem dL_tells_64 : decode cL_tells 64 = .ok (.istore 4, 2) := by decide +kernel
theorem dL_tells_66 : decode cL_tells 66 = .ok (.aload_n 0, 1) := by decide +kernel
theorem dL_tells_67 : decode cL_tells 67 = .ok (.iconst 0, 1) := by decide +kernel
theorem dL_tells_68 : decode cL_tells 68 = .ok (.iconst 1, 1) := by decide +kernel
theorem dL_tells_69 : decode cL_tells 69 = .ok (.invokevirtual 60, 3) := by decide +kernel
theorem dL_tells_72 : decode cL_tells 72 = .ok (.bipush (-2), 2) := by decide +kernel
theorem dL_tells_74 : decode cL_tells 74 = .ok (.if_icmp .ne 57, 3) := by decide +kernel
theorem dL_tells_77 : decode cL_tells 77 = .ok (.aload_n 0, 1) := by decide +kernel
theorem dL_tells_78 : decode cL_tells 78 = .ok (.invokevirtual 86, 3) := by decide +kernel
theorem dL_tells_81 : decode cL_tells 81 = .ok (.bipush (-2), 2) := by decide +kernel
theorem dL_tells_83 : decode cL_tells 83 = .ok (.if_icmp .ne 48, 3) := by decide +kernel
theorem dL_tells_86 : decode cL_tells 86 = .ok (.aload_n 0, 1) := by decide +kernel
theorem dL_tells_87 : decode cL_tells 87 = .ok (.iconst 0, 1) := by decide +kernel
theorem dL_tells_88 : decode cL_tells 88 = .ok (.iload_n 2, 1) := by decide +kernel
theorem dL_tells_89 : decode cL_tells 89 = .ok (.invokevirtual 89, 3) := by decide +kernel
theorem dL_tells_92 : decode cL_tells 92 = .ok (.iconst 1, 1) := by decide +kernel
theorem dL_tells_93 : decode cL_tells 93 = .ok (.if_icmp .ne 38, 3) := by decide +kernel
theorem dL_tells_96 : decode cL_tells 96 = .ok (.aload_n 0, 1) := by decide +kernel
theorem dL_tells_97 : decode cL_tells 97 = .ok (.iconst 0, 1) := by decide +kernel
theorem dL_tells_98 : decode cL_tells 98 = .ok (.iload_n 2, 1) := by decide +kernel
theorem dL_tells_99 : decode cL_tells 99 = .ok (.invokevirtual 89, 3) := by decide +kernel
theorem dL_tells_102 : decode cL_tells 102 = .ok (.bipush (-2), 2) := by decide +kernel
theorem dL_tells_104 : decode cL_tells 104 = .ok (.if_icmp .ne 27, 3) := by decide +kernel
theorem dL_tells_107 : decode cL_tells 107 = .ok (.aload_n 0, 1) := by decide +kernel
theorem dL_tells_108 : decode cL_tells 108 = .ok (.iconst 0, 1) := by decide +kernel
theorem dL_tells_109 : decode cL_tells 109 = .ok (.iconst 1, 1) := by decide +kernel
theorem dL_tells_110 : decode cL_tells 110 = .ok (.invokevirtual 35, 3) := by decide +kernel
theorem dL_tells_113 : decode cL_tells 113 = .ok (.iload_n 2, 1) := by decide +kernel
theorem dL_tells_114 : decode cL_tells 114 = .ok (.if_icmp .ne 17, 3) := by decide +kernel
theorem dL_tells_117 : decode cL_tells 117 = .ok (.aload_n 0, 1) := by decide +kernel
theorem dL_tells_118 : decode cL_tells 118 = .ok (.iconst 1, 1) := by decide +kernel
theorem dL_tells_119 : decode cL_tells 119 = .ok (.iload_n 3, 1) := by decide +kernel
theorem dL_tells_120 : decode cL_tells 120 = .ok (.invokevirtual 89, 3) := by decide +kernel
theorem dL_tells_123 : decode cL_tells 123 = .ok (.iconst 3, 1) := by decide +kernel
theorem dL_tells_124 : decode cL_tells 124 = .ok (.if_icmp .ne 7, 3) := by decide +kernel
theorem dL_tells_127 : decode cL_tells 127 = .ok (.iconst 1, 1) := by decide +kernel
theorem dL_tells_128 : decode cL_tells 128 = .ok (.goto 4, 3) := by decide +kernel
theorem dL_tells_131 : decode cL_tells 131 = .ok (.iconst 0, 1) := by decide +kernel
theorem dL_tells_132 : decode cL_tells 132 = .ok (.istore 5, 2) := by decide +kernel
theorem dL_tells_134 : decode cL_tells 134 = .ok (.iload 5, 2) := by decide +kernel
theorem dL_tells_136 : decode cL_tells 136 = .ok (.ifCond .eq 57, 3) := by decide +kernel
theorem dL_tells_139 : decode cL_tells 139 = .ok (.bipush 10, 2) := by decide +kernel
theorem dL_tells_141 : decode cL_tells 141 = .ok (.aload_n 0, 1) := by decide +kernel
theorem dL_tells_142 : decode cL_tells 142 = .ok (.iconst 2, 1) := by decide +kernel
theorem dL_tells_143 : decode cL_tells 143 = .ok (.invokevirtual 15, 3) := by decide +kernel
theorem dL_tells_146 : decode cL_tells 146 = .ok (.imul, 1) := by decide +kernel
theorem dL_tells_147 : decode cL_tells 147 = .ok (.aload_n 0, 1) := by decide +kernel
theorem dL_tells_148 : decode cL_tells 148 = .ok (.iconst 3, 1) := by decide +kernel
theorem dL_tells_149 : decode cL_tells 149 = .ok (.invokevirtual 15, 3) := by decide +kernel
theorem dL_tells_152 : decode cL_tells 152 = .ok (.iadd, 1) := by decide +kernel
theorem dL_tells_153 : decode cL_tells 153 = .ok (.iload 4, 2) := by decide +kernel
theorem dL_tells_155 : decode cL_tells 155 = .ok (.if_icmp .ne 38, 3) := by decide +kernel
theorem dL_tells_158 : decode cL_tells 158 = .ok (.aload_n 0, 1) := by decide +kernel
theorem dL_tells_159 : decode cL_tells 159 = .ok (.iconst 1, 1) := by decide +kernel
theorem dL_tells_160 : decode cL_tells 160 = .ok (.invokevirtual 15, 3) := by decide +kernel
theorem dL_tells_163 : decode cL_tells 163 = .ok (.iconst 1, 1) := by decide +kernel
theorem dL_tells_164 : decode cL_tells 164 = .ok (.if_icmp .ne 29, 3) := by decide +kernel
theorem dL_tells_167 : decode cL_tells 167 = .ok (.aload_n 0, 1) := by decide +kernel
theorem dL_tells_168 : decode cL_tells 168 = .ok (.iconst 0, 1) := by decide +kernel
theorem dL_tells_169 : decode cL_tells 169 = .ok (.iconst 1, 1) := by decide +kernel
theorem dL_tells_170 : decode cL_tells 170 = .ok (.invokevirtual 35, 3) := by decide +kernel
theorem dL_tells_173 : decode cL_tells 173 = .ok (.bipush (-9), 2) := by decide +kernel
theorem dL_tells_175 : decode cL_tells 175 = .ok (.if_icmp .ne 18, 3) := by decide +kernel
theorem dL_tells_178 : decode cL_tells 178 = .ok (.aload_n 0, 1) := by decide +kernel
theorem dL_tells_179 : decode cL_tells 179 = .ok (.iconst 1, 1) := by decide +kernel
theorem dL_tells_180 : decode cL_tells 180 = .ok (.iload_n 3, 1) := by decide +kernel
theorem dL_tells_181 : decode cL_tells 181 = .ok (.invokevirtual 89, 3) := by decide +kernel
theorem dL_tells_184 : decode cL_tells 184 = .ok (.bipush (-2), 2) := by decide +kernel
theorem dL_tells_186 : decode cL_tells 186 = .ok (.if_icmp .ne 7, 3) := by decide +kernel
theorem dL_tells_189 : decode cL_tells 189 = .ok (.iconst 1, 1) := by decide +kernel
theorem dL_tells_190 : decode cL_tells 190 = .ok (.goto 4, 3) := by decide +kernel
theorem dL_tells_193 : decode cL_tells 193 = .ok (.iconst 0, 1) := by decide +kernel
theorem dL_tells_194 : decode cL_tells 194 = .ok (.ireturn, 1) := by decide +kernel
theorem dL_law_0 : decode cL_law 0 = .ok (.new 16, 3) := by decide +kernel
theorem dL_law_3 : decode cL_law 3 = .ok (.dup, 1) := by decide +kernel
theorem dL_law_4 : decode cL_law 4 = .ok (.invokespecial 92, 3) := by decide +kernel
theorem dL_law_7 : decode cL_law 7 = .ok (.astore_n 1, 1) := by decide +kernel
theorem dL_law_8 : decode cL_law 8 = .ok (.aload_n 1, 1) := by decide +kernel
theorem dL_law_9 : decode cL_law 9 = .ok (.invokevirtual 63, 3) := by decide +kernel
theorem dL_law_12 : decode cL_law 12 = .ok (.bipush (-2), 2) := by decide +kernel
theorem dL_law_14 : decode cL_law 14 = .ok (.if_icmp .ne 22, 3) := by decide +kernel
theorem dL_law_17 : decode cL_law 17 = .ok (.aload_n 1, 1) := by decide +kernel
theorem dL_law_18 : decode cL_law 18 = .ok (.aload_n 0, 1) := by decide +kernel
theorem dL_law_19 : decode cL_law 19 = .ok (.invokestatic 93, 3) := by decide +kernel
theorem dL_law_22 : decode cL_law 22 = .ok (.ifCond .eq 14, 3) := by decide +kernel
theorem dL_law_25 : decode cL_law 25 = .ok (.aload_n 1, 1) := by decide +kernel
theorem dL_law_26 : decode cL_law 26 = .ok (.invokestatic 97, 3) := by decide +kernel
theorem dL_law_29 : decode cL_law 29 = .ok (.ifCond .eq 7, 3) := by decide +kernel
theorem dL_law_32 : decode cL_law 32 = .ok (.iconst 1, 1) := by decide +kernel
theorem dL_law_33 : decode cL_law 33 = .ok (.goto 4, 3) := by decide +kernel
theorem dL_law_36 : decode cL_law 36 = .ok (.iconst 0, 1) := by decide +kernel
theorem dL_law_37 : decode cL_law 37 = .ok (.istore_n 2, 1) := by decide +kernel
theorem dL_law_38 : decode cL_law 38 = .ok (.iload_n 2, 1) := by decide +kernel
theorem dL_law_39 : decode cL_law 39 = .ok (.ifCond .eq 11, 3) := by decide +kernel
theorem dL_law_42 : decode cL_law 42 = .ok (.aload_n 1, 1) := by decide +kernel
theorem dL_law_43 : decode cL_law 43 = .ok (.iconst 5, 1) := by decide +kernel
theorem dL_law_44 : decode cL_law 44 = .ok (.invokevirtual 15, 3) := by decide +kernel
theorem dL_law_47 : decode cL_law 47 = .ok (.ifCond .ne 5, 3) := by decide +kernel
theorem dL_law_50 : decode cL_law 50 = .ok (.iload_n 2, 1) := by decide +kernel
theorem dL_law_51 : decode cL_law 51 = .ok (.ireturn, 1) := by decide +kernel
theorem dL_law_52 : decode cL_law 52 = .ok (.iconst 0, 1) := by decide +kernel
theorem dL_law_53 : decode cL_law 53 = .ok (.istore_n 3, 1) := by decide +kernel
theorem dL_law_54 : decode cL_law 54 = .ok (.iload_n 3, 1) := by decide +kernel
theorem dL_law_55 : decode cL_law 55 = .ok (.iconst 4, 1) := by decide +kernel
theorem dL_law_56 : decode cL_law 56 = .ok (.if_icmp .ge 157, 3) := by decide +kernel
theorem dL_law_59 : decode cL_law 59 = .ok (.iload_n 2, 1) := by decide +kernel
theorem dL_law_60 : decode cL_law 60 = .ok (.ifCond .eq 153, 3) := by decide +kernel
theorem dL_law_63 : decode cL_law 63 = .ok (.aload_n 1, 1) := by decide +kernel
theorem dL_law_64 : decode cL_law 64 = .ok (.aload_n 0, 1) := by decide +kernel
theorem dL_law_65 : decode cL_law 65 = .ok (.bipush 20, 2) := by decide +kernel
theorem dL_law_67 : decode cL_law 67 = .ok (.iload_n 3, 1) := by decide +kernel
theorem dL_law_68 : decode cL_law 68 = .ok (.iadd, 1) := by decide +kernel
theorem dL_law_69 : decode cL_law 69 = .ok (.invokestatic 9, 3) := by decide +kernel
theorem dL_law_72 : decode cL_law 72 = .ok (.invokestatic 101, 3) := by decide +kernel
theorem dL_law_75 : decode cL_law 75 = .ok (.istore_n 2, 1) := by decide +kernel
theorem dL_law_76 : decode cL_law 76 = .ok (.iconst 0, 1) := by decide +kernel
theorem dL_law_77 : decode cL_law 77 = .ok (.istore 4, 2) := by decide +kernel
theorem dL_law_79 : decode cL_law 79 = .ok (.iload 4, 2) := by decide +kernel
theorem dL_law_81 : decode cL_law 81 = .ok (.bipush 8, 2) := by decide +kernel
theorem dL_law_83 : decode cL_law 83 = .ok (.if_icmp .ge 47, 3) := by decide +kernel
theorem dL_law_86 : decode cL_law 86 = .ok (.iload_n 2, 1) := by decide +kernel
theorem dL_law_87 : decode cL_law 87 = .ok (.ifCond .eq 43, 3) := by decide +kernel
theorem dL_law_90 : decode cL_law 90 = .ok (.aload_n 1, 1) := by decide +kernel
theorem dL_law_91 : decode cL_law 91 = .ok (.aload_n 0, 1) := by decide +kernel
theorem dL_law_92 : decode cL_law 92 = .ok (.bipush 24, 2) := by decide +kernel
theorem dL_law_94 : decode cL_law 94 = .ok (.bipush 8, 2) := by decide +kernel
theorem dL_law_96 : decode cL_law 96 = .ok (.iload_n 3, 1) := by decide +kernel
theorem dL_law_97 : decode cL_law 97 = .ok (.imul, 1) := by decide +kernel
theorem dL_law_98 : decode cL_law 98 = .ok (.iadd, 1) := by decide +kernel
theorem dL_law_99 : decode cL_law 99 = .ok (.iload 4, 2) := by decide +kernel
theorem dL_law_101 : decode cL_law 101 = .ok (.iadd, 1) := by decide +kernel
theorem dL_law_102 : decode cL_law 102 = .ok (.invokestatic 9, 3) := by decide +kernel
theorem dL_law_105 : decode cL_law 105 = .ok (.invokestatic 105, 3) := by decide +kernel
theorem dL_law_108 : decode cL_law 108 = .ok (.ifCond .eq 14, 3) := by decide +kernel
theorem dL_law_111 : decode cL_law 111 = .ok (.aload_n 1, 1) := by decide +kernel
theorem dL_law_112 : decode cL_law 112 = .ok (.invokestatic 97, 3) := by decide +kernel
theorem dL_law_115 : decode cL_law 115 = .ok (.ifCond .eq 7, 3) := by decide +kernel
theorem dL_law_118 : decode cL_law 118 = .ok (.iconst 1, 1) := by decide +kernel
theorem dL_law_119 : decode cL_law 119 = .ok (.goto 4, 3) := by decide +kernel
theorem dL_law_122 : decode cL_law 122 = .ok (.iconst 0, 1) := by decide +kernel
theorem dL_law_123 : decode cL_law 123 = .ok (.istore_n 2, 1) := by decide +kernel
theorem dL_law_124 : decode cL_law 124 = .ok (.iinc 4 1, 3) := by decide +kernel
theorem dL_law_127 : decode cL_law 127 = .ok (.goto (-48), 3) := by decide +kernel
theorem dL_law_130 : decode cL_law 130 = .ok (.aload_n 1, 1) := by decide +kernel
theorem dL_law_131 : decode cL_law 131 = .ok (.iconst 0, 1) := by decide +kernel
theorem dL_law_132 : decode cL_law 132 = .ok (.invokevirtual 54, 3) := by decide +kernel
theorem dL_law_135 : decode cL_law 135 = .ok (.aload_n 1, 1) := by decide +kernel
theorem dL_law_136 : decode cL_law 136 = .ok (.iconst 1, 1) := by decide +kernel
theorem dL_law_137 : decode cL_law 137 = .ok (.invokevirtual 54, 3) := by decide +kernel
theorem dL_law_140 : decode cL_law 140 = .ok (.iadd, 1) := by decide +kernel
theorem dL_law_141 : decode cL_law 141 = .ok (.istore 4, 2) := by decide +kernel
theorem dL_law_143 : decode cL_law 143 = .ok (.iload_n 2, 1) := by decide +kernel
theorem dL_law_144 : decode cL_law 144 = .ok (.ifCond .eq 61, 3) := by decide +kernel
theorem dL_law_147 : decode cL_law 147 = .ok (.aload_n 1, 1) := by decide +kernel
theorem dL_law_148 : decode cL_law 148 = .ok (.iload_n 3, 1) := by decide +kernel
theorem dL_law_149 : decode cL_law 149 = .ok (.iconst 2, 1) := by decide +kernel
theorem dL_law_150 : decode cL_law 150 = .ok (.irem, 1) := by decide +kernel
theorem dL_law_151 : decode cL_law 151 = .ok (.invokevirtual 108, 3) := by decide +kernel
theorem dL_law_154 : decode cL_law 154 = .ok (.iload_n 3, 1) := by decide +kernel
theorem dL_law_155 : decode cL_law 155 = .ok (.if_icmp .ne 50, 3) := by decide +kernel
theorem dL_law_158 : decode cL_law 158 = .ok (.aload_n 1, 1) := by decide +kernel
theorem dL_law_159 : decode cL_law 159 = .ok (.invokevirtual 86, 3) := by decide +kernel
theorem dL_law_162 : decode cL_law 162 = .ok (.iload_n 3, 1) := by decide +kernel
theorem dL_law_163 : decode cL_law 163 = .ok (.iconst 1, 1) := by decide +kernel
theorem dL_law_164 : decode cL_law 164 = .ok (.iadd, 1) := by decide +kernel
theorem dL_law_165 : decode cL_law 165 = .ok (.if_icmp .ne 40, 3) := by decide +kernel
theorem dL_law_168 : decode cL_law 168 = .ok (.aload_n 1, 1) := by decide +kernel
theorem dL_law_169 : decode cL_law 169 = .ok (.invokestatic 97, 3) := by decide +kernel
theorem dL_law_172 : decode cL_law 172 = .ok (.ifCond .eq 33, 3) := by decide +kernel
theorem dL_law_175 : decode cL_law 175 = .ok (.aload_n 1, 1) := by decide +kernel
theorem dL_law_176 : decode cL_law 176 = .ok (.iconst 1, 1) := by decide +kernel
theorem dL_law_177 : decode cL_law 177 = .ok (.invokevirtual 15, 3) := by decide +kernel
theorem dL_law_180 : decode cL_law 180 = .ok (.ifCond .ne 25, 3) := by decide +kernel
theorem dL_law_183 : decode cL_law 183 = .ok (.aload_n 1, 1) := by decide +kernel
theorem dL_law_184 : decode cL_law 184 = .ok (.iconst 0, 1) := by decide +kernel
theorem dL_law_185 : decode cL_law 185 = .ok (.invokevirtual 54, 3) := by decide +kernel
theorem dL_law_188 : decode cL_law 188 = .ok (.aload_n 1, 1) := by decide +kernel
theorem dL_law_189 : decode cL_law 189 = .ok (.iconst 1, 1) := by decide +kernel
theorem dL_law_190 : decode cL_law 190 = .ok (.invokevirtual 54, 3) := by decide +kernel
theorem dL_law_193 : decode cL_law 193 = .ok (.iadd, 1) := by decide +kernel
theorem dL_law_194 : decode cL_law 194 = .ok (.iload 4, 2) := by decide +kernel
theorem dL_law_196 : decode cL_law 196 = .ok (.iconst 1, 1) := by decide +kernel
theorem dL_law_197 : decode cL_law 197 = .ok (.iadd, 1) := by decide +kernel
theorem dL_law_198 : decode cL_law 198 = .ok (.if_icmp .gt 7, 3) := by decide +kernel
theorem dL_law_201 : decode cL_law 201 = .ok (.iconst 1, 1) := by decide +kernel
theorem dL_law_202 : decode cL_law 202 = .ok (.goto 4, 3) := by decide +kernel
theorem dL_law_205 : decode cL_law 205 = .ok (.iconst 0, 1) := by decide +kernel
theorem dL_law_206 : decode cL_law 206 = .ok (.istore_n 2, 1) := by decide +kernel
theorem dL_law_207 : decode cL_law 207 = .ok (.iinc 3 1, 3) := by decide +kernel
theorem dL_law_210 : decode cL_law 210 = .ok (.goto (-156), 3) := by decide +kernel
theorem dL_law_213 : decode cL_law 213 = .ok (.iload_n 2, 1) := by decide +kernel
theorem dL_law_214 : decode cL_law 214 = .ok (.ifCond .eq 42, 3) := by decide +kernel
theorem dL_law_217 : decode cL_law 217 = .ok (.aload_n 1, 1) := by decide +kernel
theorem dL_law_218 : decode cL_law 218 = .ok (.iconst 1, 1) := by decide +kernel
theorem dL_law_219 : decode cL_law 219 = .ok (.invokevirtual 111, 3) := by decide +kernel
theorem dL_law_222 : decode cL_law 222 = .ok (.iconst 3, 1) := by decide +kernel
theorem dL_law_223 : decode cL_law 223 = .ok (.if_icmp .ne 33, 3) := by decide +kernel
theorem dL_law_226 : decode cL_law 226 = .ok (.aload_n 1, 1) := by decide +kernel
theorem dL_law_227 : decode cL_law 227 = .ok (.iconst 1, 1) := by decide +kernel
theorem dL_law_228 : decode cL_law 228 = .ok (.invokevirtual 15, 3) := by decide +kernel
theorem dL_law_231 : decode cL_law 231 = .ok (.iconst 1, 1) := by decide +kernel
theorem dL_law_232 : decode cL_law 232 = .ok (.if_icmp .ne 24, 3) := by decide +kernel
theorem dL_law_235 : decode cL_law 235 = .ok (.aload_n 1, 1) := by decide +kernel
theorem dL_law_236 : decode cL_law 236 = .ok (.bipush 9, 2) := by decide +kernel
theorem dL_law_238 : decode cL_law 238 = .ok (.invokevirtual 15, 3) := by decide +kernel
theorem dL_law_241 : decode cL_law 241 = .ok (.iconst 2, 1) := by decide +kernel
theorem dL_law_242 : decode cL_law 242 = .ok (.if_icmp .ne 14, 3) := by decide +kernel
theorem dL_law_245 : decode cL_law 245 = .ok (.aload_n 1, 1) := by decide +kernel
theorem dL_law_246 : decode cL_law 246 = .ok (.invokestatic 97, 3) := by decide +kernel
theorem dL_law_249 : decode cL_law 249 = .ok (.ifCond .eq 7, 3) := by decide +kernel
theorem dL_law_252 : decode cL_law 252 = .ok (.iconst 1, 1) := by decide +kernel
theorem dL_law_253 : decode cL_law 253 = .ok (.goto 4, 3) := by decide +kernel
theorem dL_law_256 : decode cL_law 256 = .ok (.iconst 0, 1) := by decide +kernel
theorem dL_law_257 : decode cL_law 257 = .ok (.ireturn, 1) := by decide +kernel
