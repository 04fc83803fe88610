theorem dL_cell_0 : decode cL_cell 0 = .ok (.iload_n 1, 1) := by decide +kernel
theorem dL_cell_1 : decode cL_cell 1 = .ok (.aload_n 0, 1) := by decide +kernel
theorem dL_cell_2 : decode cL_cell 2 = .ok (.arraylength, 1) := by decide +kernel
theorem dL_cell_3 : decode cL_cell 3 = .ok (.if_icmp .ge 9, 3) := by decide +kernel
theorem dL_cell_6 : decode cL_cell 6 = .ok (.aload_n 0, 1) := by decide +kernel
theorem dL_cell_7 : decode cL_cell 7 = .ok (.iload_n 1, 1) := by decide +kernel
theorem dL_cell_8 : decode cL_cell 8 = .ok (.iaload, 1) := by decide +kernel
theorem dL_cell_9 : decode cL_cell 9 = .ok (.goto 11, 3) := by decide +kernel
theorem dL_cell_12 : decode cL_cell 12 = .ok (.ldc 7, 2) := by decide +kernel
theorem dL_cell_14 : decode cL_cell 14 = .ok (.iload_n 1, 1) := by decide +kernel
theorem dL_cell_15 : decode cL_cell 15 = .ok (.imul, 1) := by decide +kernel
theorem dL_cell_16 : decode cL_cell 16 = .ok (.sipush 1801, 3) := by decide +kernel
theorem dL_cell_19 : decode cL_cell 19 = .ok (.iadd, 1) := by decide +kernel
theorem dL_cell_20 : decode cL_cell 20 = .ok (.ldc 8, 2) := by decide +kernel
theorem dL_cell_22 : decode cL_cell 22 = .ok (.iand, 1) := by decide +kernel
theorem dL_cell_23 : decode cL_cell 23 = .ok (.ireturn, 1) := by decide +kernel
theorem dL_sets_0 : decode cL_sets 0 = .ok (.iconst 1, 1) := by decide +kernel
theorem dL_sets_1 : decode cL_sets 1 = .ok (.aload_n 1, 1) := by decide +kernel
theorem dL_sets_2 : decode cL_sets 2 = .ok (.iconst 0, 1) := by decide +kernel
theorem dL_sets_3 : decode cL_sets 3 = .ok (.invokestatic 9, 3) := by decide +kernel
theorem dL_sets_6 : decode cL_sets 6 = .ok (.bipush 7, 2) := by decide +kernel
theorem dL_sets_8 : decode cL_sets 8 = .ok (.irem, 1) := by decide +kernel
theorem dL_sets_9 : decode cL_sets 9 = .ok (.iadd, 1) := by decide +kernel
theorem dL_sets_10 : decode cL_sets 10 = .ok (.istore_n 2, 1) := by decide +kernel
theorem dL_sets_11 : decode cL_sets 11 = .ok (.iconst 1, 1) := by decide +kernel
theorem dL_sets_12 : decode cL_sets 12 = .ok (.istore_n 3, 1) := by decide +kernel
theorem dL_sets_13 : decode cL_sets 13 = .ok (.iconst 0, 1) := by decide +kernel
theorem dL_sets_14 : decode cL_sets 14 = .ok (.istore 4, 2) := by decide +kernel
theorem dL_sets_16 : decode cL_sets 16 = .ok (.iload 4, 2) := by decide +kernel
theorem dL_sets_18 : decode cL_sets 18 = .ok (.iload_n 2, 1) := by decide +kernel
theorem dL_sets_19 : decode cL_sets 19 = .ok (.if_icmp .ge 87, 3) := by decide +kernel
theorem dL_sets_22 : decode cL_sets 22 = .ok (.iload_n 3, 1) := by decide +kernel
theorem dL_sets_23 : decode cL_sets 23 = .ok (.ifCond .eq 83, 3) := by decide +kernel
theorem dL_sets_26 : decode cL_sets 26 = .ok (.aload_n 1, 1) := by decide +kernel
theorem dL_sets_27 : decode cL_sets 27 = .ok (.iconst 1, 1) := by decide +kernel
theorem dL_sets_28 : decode cL_sets 28 = .ok (.iload 4, 2) := by decide +kernel
theorem dL_sets_30 : decode cL_sets 30 = .ok (.iadd, 1) := by decide +kernel
theorem dL_sets_31 : decode cL_sets 31 = .ok (.invokestatic 9, 3) := by decide +kernel
theorem dL_sets_34 : decode cL_sets 34 = .ok (.istore 5, 2) := by decide +kernel
theorem dL_sets_36 : decode cL_sets 36 = .ok (.aload_n 0, 1) := by decide +kernel
theorem dL_sets_37 : decode cL_sets 37 = .ok (.iload 5, 2) := by decide +kernel
theorem dL_sets_39 : decode cL_sets 39 = .ok (.bipush 25, 2) := by decide +kernel
theorem dL_sets_41 : decode cL_sets 41 = .ok (.irem, 1) := by decide +kernel
theorem dL_sets_42 : decode cL_sets 42 = .ok (.iload 5, 2) := by decide +kernel
theorem dL_sets_44 : decode cL_sets 44 = .ok (.iconst 5, 1) := by decide +kernel
theorem dL_sets_45 : decode cL_sets 45 = .ok (.ishr, 1) := by decide +kernel
theorem dL_sets_46 : decode cL_sets 46 = .ok (.iconst 4, 1) := by decide +kernel
theorem dL_sets_47 : decode cL_sets 47 = .ok (.irem, 1) := by decide +kernel
theorem dL_sets_48 : decode cL_sets 48 = .ok (.iload 5, 2) := by decide +kernel
theorem dL_sets_50 : decode cL_sets 50 = .ok (.bipush 7, 2) := by decide +kernel
theorem dL_sets_52 : decode cL_sets 52 = .ok (.ishr, 1) := by decide +kernel
theorem dL_sets_53 : decode cL_sets 53 = .ok (.iconst 4, 1) := by decide +kernel
theorem dL_sets_54 : decode cL_sets 54 = .ok (.irem, 1) := by decide +kernel
theorem dL_sets_55 : decode cL_sets 55 = .ok (.iload 5, 2) := by decide +kernel
theorem dL_sets_57 : decode cL_sets 57 = .ok (.bipush 9, 2) := by decide +kernel
theorem dL_sets_59 : decode cL_sets 59 = .ok (.ishr, 1) := by decide +kernel
theorem dL_sets_60 : decode cL_sets 60 = .ok (.iconst 3, 1) := by decide +kernel
theorem dL_sets_61 : decode cL_sets 61 = .ok (.irem, 1) := by decide +kernel
theorem dL_sets_62 : decode cL_sets 62 = .ok (.invokevirtual 15, 3) := by decide +kernel
theorem dL_sets_65 : decode cL_sets 65 = .ok (.iload 4, 2) := by decide +kernel
theorem dL_sets_67 : decode cL_sets 67 = .ok (.if_icmp .ne 31, 3) := by decide +kernel
theorem dL_sets_70 : decode cL_sets 70 = .ok (.aload_n 0, 1) := by decide +kernel
theorem dL_sets_71 : decode cL_sets 71 = .ok (.iload 4, 2) := by decide +kernel
theorem dL_sets_73 : decode cL_sets 73 = .ok (.iload 5, 2) := by decide +kernel
theorem dL_sets_75 : decode cL_sets 75 = .ok (.bipush 11, 2) := by decide +kernel
theorem dL_sets_77 : decode cL_sets 77 = .ok (.ishr, 1) := by decide +kernel
theorem dL_sets_78 : decode cL_sets 78 = .ok (.iconst 4, 1) := by decide +kernel
theorem dL_sets_79 : decode cL_sets 79 = .ok (.irem, 1) := by decide +kernel
theorem dL_sets_80 : decode cL_sets 80 = .ok (.ifCond .ne 7, 3) := by decide +kernel
theorem dL_sets_83 : decode cL_sets 83 = .ok (.iconst 1, 1) := by decide +kernel
theorem dL_sets_84 : decode cL_sets 84 = .ok (.goto 4, 3) := by decide +kernel
theorem dL_sets_87 : decode cL_sets 87 = .ok (.iconst 0, 1) := by decide +kernel
theorem dL_sets_88 : decode cL_sets 88 = .ok (.invokevirtual 21, 3) := by decide +kernel
theorem dL_sets_91 : decode cL_sets 91 = .ok (.ifCond .ne 7, 3) := by decide +kernel
theorem dL_sets_94 : decode cL_sets 94 = .ok (.iconst 1, 1) := by decide +kernel
theorem dL_sets_95 : decode cL_sets 95 = .ok (.goto 4, 3) := by decide +kernel
theorem dL_sets_98 : decode cL_sets 98 = .ok (.iconst 0, 1) := by decide +kernel
theorem dL_sets_99 : decode cL_sets 99 = .ok (.istore_n 3, 1) := by decide +kernel
theorem dL_sets_100 : decode cL_sets 100 = .ok (.iinc 4 1, 3) := by decide +kernel
theorem dL_sets_103 : decode cL_sets 103 = .ok (.goto (-87), 3) := by decide +kernel
theorem dL_sets_106 : decode cL_sets 106 = .ok (.iconst 0, 1) := by decide +kernel
theorem dL_sets_107 : decode cL_sets 107 = .ok (.istore 4, 2) := by decide +kernel
theorem dL_sets_109 : decode cL_sets 109 = .ok (.iload 4, 2) := by decide +kernel
theorem dL_sets_111 : decode cL_sets 111 = .ok (.aload_n 1, 1) := by decide +kernel
theorem dL_sets_112 : decode cL_sets 112 = .ok (.bipush 8, 2) := by decide +kernel
theorem dL_sets_114 : decode cL_sets 114 = .ok (.invokestatic 9, 3) := by decide +kernel
theorem dL_sets_117 : decode cL_sets 117 = .ok (.iconst 5, 1) := by decide +kernel
theorem dL_sets_118 : decode cL_sets 118 = .ok (.irem, 1) := by decide +kernel
theorem dL_sets_119 : decode cL_sets 119 = .ok (.if_icmp .ge 57, 3) := by decide +kernel
theorem dL_sets_122 : decode cL_sets 122 = .ok (.iload_n 3, 1) := by decide +kernel
theorem dL_sets_123 : decode cL_sets 123 = .ok (.ifCond .eq 53, 3) := by decide +kernel
theorem dL_sets_126 : decode cL_sets 126 = .ok (.aload_n 1, 1) := by decide +kernel
theorem dL_sets_127 : decode cL_sets 127 = .ok (.bipush 9, 2) := by decide +kernel
theorem dL_sets_129 : decode cL_sets 129 = .ok (.iload 4, 2) := by decide +kernel
theorem dL_sets_131 : decode cL_sets 131 = .ok (.iadd, 1) := by decide +kernel
theorem dL_sets_132 : decode cL_sets 132 = .ok (.invokestatic 9, 3) := by decide +kernel
theorem dL_sets_135 : decode cL_sets 135 = .ok (.istore 5, 2) := by decide +kernel
theorem dL_sets_137 : decode cL_sets 137 = .ok (.aload_n 0, 1) := by decide +kernel
theorem dL_sets_138 : decode cL_sets 138 = .ok (.iload 5, 2) := by decide +kernel
theorem dL_sets_140 : decode cL_sets 140 = .ok (.bipush 20, 2) := by decide +kernel
theorem dL_sets_142 : decode cL_sets 142 = .ok (.irem, 1) := by decide +kernel
theorem dL_sets_143 : decode cL_sets 143 = .ok (.iload 5, 2) := by decide +kernel
theorem dL_sets_145 : decode cL_sets 145 = .ok (.bipush 20, 2) := by decide +kernel
theorem dL_sets_147 : decode cL_sets 147 = .ok (.irem, 1) := by decide +kernel
theorem dL_sets_148 : decode cL_sets 148 = .ok (.iload 5, 2) := by decide +kernel
theorem dL_sets_150 : decode cL_sets 150 = .ok (.iconst 5, 1) := by decide +kernel
theorem dL_sets_151 : decode cL_sets 151 = .ok (.ishr, 1) := by decide +kernel
theorem dL_sets_152 : decode cL_sets 152 = .ok (.bipush 12, 2) := by decide +kernel
theorem dL_sets_154 : decode cL_sets 154 = .ok (.irem, 1) := by decide +kernel
theorem dL_sets_155 : decode cL_sets 155 = .ok (.iadd, 1) := by decide +kernel
theorem dL_sets_156 : decode cL_sets 156 = .ok (.invokevirtual 25, 3) := by decide +kernel
theorem dL_sets_159 : decode cL_sets 159 = .ok (.iload 4, 2) := by decide +kernel
theorem dL_sets_161 : decode cL_sets 161 = .ok (.if_icmp .ne 7, 3) := by decide +kernel
theorem dL_sets_164 : decode cL_sets 164 = .ok (.iconst 1, 1) := by decide +kernel
theorem dL_sets_165 : decode cL_sets 165 = .ok (.goto 4, 3) := by decide +kernel
theorem dL_sets_168 : decode cL_sets 168 = .ok (.iconst 0, 1) := by decide +kernel
theorem dL_sets_169 : decode cL_sets 169 = .ok (.istore_n 3, 1) := by decide +kernel
theorem dL_sets_170 : decode cL_sets 170 = .ok (.iinc 4 1, 3) := by decide +kernel
theorem dL_sets_173 : decode cL_sets 173 = .ok (.goto (-64), 3) := by decide +kernel
theorem dL_sets_176 : decode cL_sets 176 = .ok (.iload_n 3, 1) := by decide +kernel
theorem dL_sets_177 : decode cL_sets 177 = .ok (.ifCond .eq 45, 3) := by decide +kernel
theorem dL_sets_180 : decode cL_sets 180 = .ok (.aload_n 0, 1) := by decide +kernel
theorem dL_sets_181 : decode cL_sets 181 = .ok (.iconst 1, 1) := by decide +kernel
theorem dL_sets_182 : decode cL_sets 182 = .ok (.aload_n 1, 1) := by decide +kernel
theorem dL_sets_183 : decode cL_sets 183 = .ok (.bipush 14, 2) := by decide +kernel
theorem dL_sets_185 : decode cL_sets 185 = .ok (.invokestatic 9, 3) := by decide +kernel
theorem dL_sets_188 : decode cL_sets 188 = .ok (.bipush 100, 2) := by decide +kernel
theorem dL_sets_190 : decode cL_sets 190 = .ok (.irem, 1) := by decide +kernel
theorem dL_sets_191 : decode cL_sets 191 = .ok (.iadd, 1) := by decide +kernel
theorem dL_sets_192 : decode cL_sets 192 = .ok (.invokevirtual 29, 3) := by decide +kernel
theorem dL_sets_195 : decode cL_sets 195 = .ok (.bipush 60, 2) := by decide +kernel
theorem dL_sets_197 : decode cL_sets 197 = .ok (.if_icmp .ne 25, 3) := by decide +kernel
theorem dL_sets_200 : decode cL_sets 200 = .ok (.aload_n 0, 1) := by decide +kernel
theorem dL_sets_201 : decode cL_sets 201 = .ok (.iconst 1, 1) := by decide +kernel
theorem dL_sets_202 : decode cL_sets 202 = .ok (.aload_n 1, 1) := by decide +kernel
theorem dL_sets_203 : decode cL_sets 203 = .ok (.bipush 15, 2) := by decide +kernel
theorem dL_sets_205 : decode cL_sets 205 = .ok (.invokestatic 9, 3) := by decide +kernel
theorem dL_sets_208 : decode cL_sets 208 = .ok (.bipush 60, 2) := by decide +kernel
theorem dL_sets_210 : decode cL_sets 210 = .ok (.irem, 1) := by decide +kernel
theorem dL_sets_211 : decode cL_sets 211 = .ok (.iadd, 1) := by decide +kernel
theorem dL_sets_212 : decode cL_sets 212 = .ok (.invokevirtual 33, 3) := by decide +kernel
theorem dL_sets_215 : decode cL_sets 215 = .ok (.ifCond .lt 7, 3) := by decide +kernel
theorem dL_sets_218 : decode cL_sets 218 = .ok (.iconst 1, 1) := by decide +kernel
theorem dL_sets_219 : decode cL_sets 219 = .ok (.goto 4, 3) := by decide +kernel
theorem dL_sets_222 : decode cL_sets 222 = .ok (.iconst 0, 1) := by decide +kernel
theorem dL_sets_223 : decode cL_sets 223 = .ok (.istore_n 3, 1) := by decide +kernel
theorem dL_sets_224 : decode cL_sets 224 = .ok (.iconst 0, 1) := by decide +kernel
theorem dL_sets_225 : decode cL_sets 225 = .ok (.istore 4, 2) := by decide +kernel
theorem dL_sets_227 : decode cL_sets 227 = .ok (.iload 4, 2) := by decide +kernel
theorem dL_sets_229 : decode cL_sets 229 = .ok (.aload_n 1, 1) := by decide +kernel
theorem dL_sets_230 : decode cL_sets 230 = .ok (.bipush 16, 2) := by decide +kernel
theorem dL_sets_232 : decode cL_sets 232 = .ok (.invokestatic 9, 3) := by decide +kernel
theorem dL_sets_235 : decode cL_sets 235 = .ok (.iconst 3, 1) := by decide +kernel
theorem dL_sets_236 : decode cL_sets 236 = .ok (.irem, 1) := by decide +kernel
theorem dL_sets_237 : decode cL_sets 237 = .ok (.if_icmp .ge 69, 3) := by decide +kernel
theorem dL_sets_240 : decode cL_sets 240 = .ok (.iload_n 3, 1) := by decide +kernel
theorem dL_sets_241 : decode cL_sets 241 = .ok (.ifCond .eq 65, 3) := by decide +kernel
theorem dL_sets_244 : decode cL_sets 244 = .ok (.iconst 1, 1) := by decide +kernel
theorem dL_sets_245 : decode cL_sets 245 = .ok (.aload_n 1, 1) := by decide +kernel
theorem dL_sets_246 : decode cL_sets 246 = .ok (.bipush 17, 2) := by decide +kernel
theorem dL_sets_248 : decode cL_sets 248 = .ok (.iload 4, 2) := by decide +kernel
theorem dL_sets_250 : decode cL_sets 250 = .ok (.iadd, 1) := by decide +kernel
theorem dL_sets_251 : decode cL_sets 251 = .ok (.invokestatic 9, 3) := by decide +kernel
theorem dL_sets_254 : decode cL_sets 254 = .ok (.iconst 1, 1) := by decide +kernel
theorem dL_sets_255 : decode cL_sets 255 = .ok (.iload_n 2, 1) := by decide +kernel
theorem dL_sets_256 : decode cL_sets 256 = .ok (.ishl, 1) := by decide +kernel
theorem dL_sets_257 : decode cL_sets 257 = .ok (.iconst 1, 1) := by decide +kernel
theorem dL_sets_258 : decode cL_sets 258 = .ok (.isub, 1) := by decide +kernel
theorem dL_sets_259 : decode cL_sets 259 = .ok (.irem, 1) := by decide +kernel
theorem dL_sets_260 : decode cL_sets 260 = .ok (.iadd, 1) := by decide +kernel
theorem dL_sets_261 : decode cL_sets 261 = .ok (.istore 5, 2) := by decide +kernel
theorem dL_sets_263 : decode cL_sets 263 = .ok (.aload_n 0, 1) := by decide +kernel
theorem dL_sets_264 : decode cL_sets 264 = .ok (.iload 5, 2) := by decide +kernel
theorem dL_sets_266 : decode cL_sets 266 = .ok (.iconst 1, 1) := by decide +kernel
theorem dL_sets_267 : decode cL_sets 267 = .ok (.invokevirtual 36, 3) := by decide +kernel
theorem dL_sets_270 : decode cL_sets 270 = .ok (.ifCond .lt 28, 3) := by decide +kernel
theorem dL_sets_273 : decode cL_sets 273 = .ok (.aload_n 0, 1) := by decide +kernel
theorem dL_sets_274 : decode cL_sets 274 = .ok (.iconst 1, 1) := by decide +kernel
theorem dL_sets_275 : decode cL_sets 275 = .ok (.aload_n 1, 1) := by decide +kernel
theorem dL_sets_276 : decode cL_sets 276 = .ok (.bipush 20, 2) := by decide +kernel
theorem dL_sets_278 : decode cL_sets 278 = .ok (.iload 4, 2) := by decide +kernel
theorem dL_sets_280 : decode cL_sets 280 = .ok (.iadd, 1) := by decide +kernel
theorem dL_sets_281 : decode cL_sets 281 = .ok (.invokestatic 9, 3) := by decide +kernel
theorem dL_sets_284 : decode cL_sets 284 = .ok (.bipush 20, 2) := by decide +kernel
theorem dL_sets_286 : decode cL_sets 286 = .ok (.irem, 1) := by decide +kernel
theorem dL_sets_287 : decode cL_sets 287 = .ok (.iadd, 1) := by decide +kernel
theorem dL_sets_288 : decode cL_sets 288 = .ok (.invokevirtual 33, 3) := by decide +kernel
theorem dL_sets_291 : decode cL_sets 291 = .ok (.ifCond .lt 7, 3) := by decide +kernel
theorem dL_sets_294 : decode cL_sets 294 = .ok (.iconst 1, 1) := by decide +kernel
theorem dL_sets_295 : decode cL_sets 295 = .ok (.goto 4, 3) := by decide +kernel
theorem dL_sets_298 : decode cL_sets 298 = .ok (.iconst 0, 1) := by decide +kernel
theorem dL_sets_299 : decode cL_sets 299 = .ok (.istore_n 3, 1) := by decide +kernel
theorem dL_sets_300 : decode cL_sets 300 = .ok (.iinc 4 1, 3) := by decide +kernel
theorem dL_sets_303 : decode cL_sets 303 = .ok (.goto (-76), 3) := by decide +kernel
theorem dL_sets_306 : decode cL_sets 306 = .ok (.iload_n 3, 1) := by decide +kernel
theorem dL_sets_307 : decode cL_sets 307 = .ok (.ireturn, 1) := by decide +kernel
theorem dL_rated_0 : decode cL_rated 0 = .ok (.iload_n 0, 1) := by decide +kernel
theorem dL_rated_1 : decode cL_rated 1 = .ok (.iconst 3, 1) := by decide +kernel
theorem dL_rated_2 : decode cL_rated 2 = .ok (.if_icmp .ne 9, 3) := by decide +kernel
theorem dL_rated_5 : decode cL_rated 5 = .ok (.sipush 180, 3) := by decide +kernel
theorem dL_rated_8 : decode cL_rated 8 = .ok (.goto 10, 3) := by decide +kernel
theorem dL_rated_11 : decode cL_rated 11 = .ok (.bipush 60, 2) := by decide +kernel
theorem dL_rated_13 : decode cL_rated 13 = .ok (.bipush 30, 2) := by decide +kernel
theorem dL_rated_15 : decode cL_rated 15 = .ok (.iload_n 0, 1) := by decide +kernel
theorem dL_rated_16 : decode cL_rated 16 = .ok (.imul, 1) := by decide +kernel
theorem dL_rated_17 : decode cL_rated 17 = .ok (.iadd, 1) := by decide +kernel
theorem dL_rated_18 : decode cL_rated 18 = .ok (.ireturn, 1) := by decide +kernel
theorem dL_lights_0 : decode cL_lights 0 = .ok (.iconst 0, 1) := by decide +kernel
theorem dL_lights_1 : decode cL_lights 1 = .ok (.istore_n 1, 1) := by decide +kernel
theorem dL_lights_2 : decode cL_lights 2 = .ok (.iconst 0, 1) := by decide +kernel
theorem dL_lights_3 : decode cL_lights 3 = .ok (.istore_n 2, 1) := by decide +kernel
theorem dL_lights_4 : decode cL_lights 4 = .ok (.iconst 0, 1) := by decide +kernel
theorem dL_lights_5 : decode cL_lights 5 = .ok (.istore_n 3, 1) := by decide +kernel
theorem dL_lights_6 : decode cL_lights 6 = .ok (.iload_n 3, 1) := by decide +kernel
theorem dL_lights_7 : decode cL_lights 7 = .ok (.aload_n 0, 1) := by decide +kernel
theorem dL_lights_8 : decode cL_lights 8 = .ok (.iconst 0, 1) := by decide +kernel
theorem dL_lights_9 : decode cL_lights 9 = .ok (.invokevirtual 39, 3) := by decide +kernel
theorem dL_lights_12 : decode cL_lights 12 = .ok (.if_icmp .ge 209, 3) := by decide +kernel
theorem dL_lights_15 : decode cL_lights 15 = .ok (.iconst 5, 1) := by decide +kernel
theorem dL_lights_16 : decode cL_lights 16 = .ok (.aload_n 0, 1) := by decide +kernel
theorem dL_lights_17 : decode cL_lights 17 = .ok (.iload_n 3, 1) := by decide +kernel
theorem dL_lights_18 : decode cL_lights 18 = .ok (.iconst 2, 1) := by decide +kernel
theorem dL_lights_19 : decode cL_lights 19 = .ok (.invokevirtual 42, 3) := by decide +kernel
theorem dL_lights_22 : decode cL_lights 22 = .ok (.invokestatic 45, 3) := by decide +kernel
theorem dL_lights_25 : decode cL_lights 25 = .ok (.imul, 1) := by decide +kernel
theorem dL_lights_26 : decode cL_lights 26 = .ok (.aload_n 0, 1) := by decide +kernel
theorem dL_lights_27 : decode cL_lights 27 = .ok (.iload_n 3, 1) := by decide +kernel
theorem dL_lights_28 : decode cL_lights 28 = .ok (.iconst 5, 1) := by decide +kernel
theorem dL_lights_29 : decode cL_lights 29 = .ok (.invokevirtual 42, 3) := by decide +kernel
theorem dL_lights_32 : decode cL_lights 32 = .ok (.imul, 1) := by decide +kernel
theorem dL_lights_33 : decode cL_lights 33 = .ok (.sipush 4000, 3) := by decide +kernel
theorem dL_lights_36 : decode cL_lights 36 = .ok (.idiv, 1) := by decide +kernel
theorem dL_lights_37 : decode cL_lights 37 = .ok (.istore 4, 2) := by decide +kernel
theorem dL_lights_39 : decode cL_lights 39 = .ok (.aload_n 0, 1) := by decide +kernel
theorem dL_lights_40 : decode cL_lights 40 = .ok (.iload_n 3, 1) := by decide +kernel
theorem dL_lights_41 : decode cL_lights 41 = .ok (.bipush 7, 2) := by decide +kernel
theorem dL_lights_43 : decode cL_lights 43 = .ok (.invokevirtual 42, 3) := by decide +kernel
theorem dL_lights_46 : decode cL_lights 46 = .ok (.bipush 24, 2) := by decide +kernel
theorem dL_lights_48 : decode cL_lights 48 = .ok (.idiv, 1) := by decide +kernel
theorem dL_lights_49 : decode cL_lights 49 = .ok (.istore 5, 2) := by decide +kernel
theorem dL_lights_51 : decode cL_lights 51 = .ok (.iload 5, 2) := by decide +kernel
theorem dL_lights_53 : decode cL_lights 53 = .ok (.aload_n 0, 1) := by decide +kernel
theorem dL_lights_54 : decode cL_lights 54 = .ok (.iload_n 3, 1) := by decide +kernel
theorem dL_lights_55 : decode cL_lights 55 = .ok (.bipush 8, 2) := by decide +kernel
theorem dL_lights_57 : decode cL_lights 57 = .ok (.invokevirtual 42, 3) := by decide +kernel
theorem dL_lights_60 : decode cL_lights 60 = .ok (.if_icmp .ge 8, 3) := by decide +kernel
theorem dL_lights_63 : decode cL_lights 63 = .ok (.iload 5, 2) := by decide +kernel
theorem dL_lights_65 : decode cL_lights 65 = .ok (.goto 10, 3) := by decide +kernel
theorem dL_lights_68 : decode cL_lights 68 = .ok (.aload_n 0, 1) := by decide +kernel
theorem dL_lights_69 : decode cL_lights 69 = .ok (.iload_n 3, 1) := by decide +kernel
theorem dL_lights_70 : decode cL_lights 70 = .ok (.bipush 8, 2) := by decide +kernel
theorem dL_lights_72 : decode cL_lights 72 = .ok (.invokevirtual 42, 3) := by decide +kernel
theorem dL_lights_75 : decode cL_lights 75 = .ok (.istore 6, 2) := by decide +kernel
theorem dL_lights_77 : decode cL_lights 77 = .ok (.iload 6, 2) := by decide +kernel
theorem dL_lights_79 : decode cL_lights 79 = .ok (.aload_n 0, 1) := by decide +kernel
theorem dL_lights_80 : decode cL_lights 80 = .ok (.iconst 4, 1) := by decide +kernel
theorem dL_lights_81 : decode cL_lights 81 = .ok (.invokevirtual 39, 3) := by decide +kernel
theorem dL_lights_84 : decode cL_lights 84 = .ok (.if_icmp .lt 7, 3) := by decide +kernel
theorem dL_lights_87 : decode cL_lights 87 = .ok (.iconst 1, 1) := by decide +kernel
theorem dL_lights_88 : decode cL_lights 88 = .ok (.goto 4, 3) := by decide +kernel
theorem dL_lights_91 : decode cL_lights 91 = .ok (.iconst 0, 1) := by decide +kernel
theorem dL_lights_92 : decode cL_lights 92 = .ok (.istore 7, 2) := by decide +kernel
theorem dL_lights_94 : decode cL_lights 94 = .ok (.aload_n 0, 1) := by decide +kernel
theorem dL_lights_95 : decode cL_lights 95 = .ok (.iload_n 3, 1) := by decide +kernel
theorem dL_lights_96 : decode cL_lights 96 = .ok (.bipush 6, 2) := by decide +kernel
theorem dL_lights_98 : decode cL_lights 98 = .ok (.invokevirtual 42, 3) := by decide +kernel
theorem dL_lights_101 : decode cL_lights 101 = .ok (.iload 4, 2) := by decide +kernel
theorem dL_lights_103 : decode cL_lights 103 = .ok (.if_icmp .ne 79, 3) := by decide +kernel
theorem dL_lights_106 : decode cL_lights 106 = .ok (.aload_n 0, 1) := by decide +kernel
theorem dL_lights_107 : decode cL_lights 107 = .ok (.iload_n 3, 1) := by decide +kernel
theorem dL_lights_108 : decode cL_lights 108 = .ok (.bipush 7, 2) := by decide +kernel
theorem dL_lights_110 : decode cL_lights 110 = .ok (.invokevirtual 42, 3) := by decide +kernel
theorem dL_lights_113 : decode cL_lights 113 = .ok (.bipush 24, 2) := by decide +kernel
theorem dL_lights_115 : decode cL_lights 115 = .ok (.iload 4, 2) := by decide +kernel
theorem dL_lights_117 : decode cL_lights 117 = .ok (.imul, 1) := by decide +kernel
theorem dL_lights_118 : decode cL_lights 118 = .ok (.if_icmp .gt 64, 3) := by decide +kernel
theorem dL_lights_121 : decode cL_lights 121 = .ok (.aload_n 0, 1) := by decide +kernel
theorem dL_lights_122 : decode cL_lights 122 = .ok (.iload_n 3, 1) := by decide +kernel
theorem dL_lights_123 : decode cL_lights 123 = .ok (.bipush 7, 2) := by decide +kernel
theorem dL_lights_125 : decode cL_lights 125 = .ok (.invokevirtual 42, 3) := by decide +kernel
theorem dL_lights_128 : decode cL_lights 128 = .ok (.ifCond .lt 54, 3) := by decide +kernel
theorem dL_lights_131 : decode cL_lights 131 = .ok (.aload_n 0, 1) := by decide +kernel
theorem dL_lights_132 : decode cL_lights 132 = .ok (.iload_n 3, 1) := by decide +kernel
theorem dL_lights_133 : decode cL_lights 133 = .ok (.bipush 9, 2) := by decide +kernel
theorem dL_lights_135 : decode cL_lights 135 = .ok (.invokevirtual 42, 3) := by decide +kernel
theorem dL_lights_138 : decode cL_lights 138 = .ok (.iload 6, 2) := by decide +kernel
theorem dL_lights_140 : decode cL_lights 140 = .ok (.if_icmp .ne 42, 3) := by decide +kernel
theorem dL_lights_143 : decode cL_lights 143 = .ok (.aload_n 0, 1) := by decide +kernel
theorem dL_lights_144 : decode cL_lights 144 = .ok (.iload_n 3, 1) := by decide +kernel
theorem dL_lights_145 : decode cL_lights 145 = .ok (.bipush 10, 2) := by decide +kernel
theorem dL_lights_147 : decode cL_lights 147 = .ok (.invokevirtual 42, 3) := by decide +kernel
theorem dL_lights_150 : decode cL_lights 150 = .ok (.iload 7, 2) := by decide +kernel
theorem dL_lights_152 : decode cL_lights 152 = .ok (.ifCond .eq 7, 3) := by decide +kernel
theorem dL_lights_155 : decode cL_lights 155 = .ok (.iconst 1, 1) := by decide +kernel
theorem dL_lights_156 : decode cL_lights 156 = .ok (.goto 4, 3) := by decide +kernel
theorem dL_lights_159 : decode cL_lights 159 = .ok (.iconst 0, 1) := by decide +kernel
theorem dL_lights_160 : decode cL_lights 160 = .ok (.if_icmp .ne 22, 3) := by decide +kernel
theorem dL_lights_163 : decode cL_lights 163 = .ok (.aload_n 0, 1) := by decide +kernel
theorem dL_lights_164 : decode cL_lights 164 = .ok (.iload_n 3, 1) := by decide +kernel
theorem dL_lights_165 : decode cL_lights 165 = .ok (.bipush 11, 2) := by decide +kernel
theorem dL_lights_167 : decode cL_lights 167 = .ok (.invokevirtual 42, 3) := by decide +kernel
theorem dL_lights_170 : decode cL_lights 170 = .ok (.aload_n 0, 1) := by decide +kernel
theorem dL_lights_171 : decode cL_lights 171 = .ok (.iload_n 3, 1) := by decide +kernel
theorem dL_lights_172 : decode cL_lights 172 = .ok (.iconst 2, 1) := by decide +kernel
theorem dL_lights_173 : decode cL_lights 173 = .ok (.invokevirtual 42, 3) := by decide +kernel
theorem dL_lights_176 : decode cL_lights 176 = .ok (.invokestatic 45, 3) := by decide +kernel
theorem dL_lights_179 : decode cL_lights 179 = .ok (.if_icmp .le 5, 3) := by decide +kernel
theorem dL_lights_182 : decode cL_lights 182 = .ok (.iconst 0, 1) := by decide +kernel
theorem dL_lights_183 : decode cL_lights 183 = .ok (.ireturn, 1) := by decide +kernel
theorem dL_lights_184 : decode cL_lights 184 = .ok (.iload_n 1, 1) := by decide +kernel
theorem dL_lights_185 : decode cL_lights 185 = .ok (.iload 7, 2) := by decide +kernel
theorem dL_lights_187 : decode cL_lights 187 = .ok (.ifCond .eq 7, 3) := by decide +kernel
theorem dL_lights_190 : decode cL_lights 190 = .ok (.iconst 1, 1) := by decide +kernel
theorem dL_lights_191 : decode cL_lights 191 = .ok (.goto 4, 3) := by decide +kernel
theorem dL_lights_194 : decode cL_lights 194 = .ok (.iconst 0, 1) := by decide +kernel
theorem dL_lights_195 : decode cL_lights 195 = .ok (.iadd, 1) := by decide +kernel
theorem dL_lights_196 : decode cL_lights 196 = .ok (.istore_n 1, 1) := by decide +kernel
theorem dL_lights_197 : decode cL_lights 197 = .ok (.iload_n 2, 1) := by decide +kernel
theorem dL_lights_198 : decode cL_lights 198 = .ok (.aload_n 0, 1) := by decide +kernel
theorem dL_lights_199 : decode cL_lights 199 = .ok (.iload_n 3, 1) := by decide +kernel
theorem dL_lights_200 : decode cL_lights 200 = .ok (.bipush 8, 2) := by decide +kernel
theorem dL_lights_202 : decode cL_lights 202 = .ok (.invokevirtual 42, 3) := by decide +kernel
theorem dL_lights_205 : decode cL_lights 205 = .ok (.ifCond .ne 7, 3) := by decide +kernel
theorem dL_lights_208 : decode cL_lights 208 = .ok (.iconst 1, 1) := by decide +kernel
theorem dL_lights_209 : decode cL_lights 209 = .ok (.goto 4, 3) := by decide +kernel
theorem dL_lights_212 : decode cL_lights 212 = .ok (.iconst 0, 1) := by decide +kernel
theorem dL_lights_213 : decode cL_lights 213 = .ok (.iadd, 1) := by decide +kernel
theorem dL_lights_214 : decode cL_lights 214 = .ok (.istore_n 2, 1) := by decide +kernel
theorem dL_lights_215 : decode cL_lights 215 = .ok (.iinc 3 1, 3) := by decide +kernel
theorem dL_lights_218 : decode cL_lights 218 = .ok (.goto (-212), 3) := by decide +kernel
theorem dL_lights_221 : decode cL_lights 221 = .ok (.aload_n 0, 1) := by decide +kernel
theorem dL_lights_222 : decode cL_lights 222 = .ok (.iconst 1, 1) := by decide +kernel
theorem dL_lights_223 : decode cL_lights 223 = .ok (.invokevirtual 39, 3) := by decide +kernel
theorem dL_lights_226 : decode cL_lights 226 = .ok (.iload_n 1, 1) := by decide +kernel
theorem dL_lights_227 : decode cL_lights 227 = .ok (.if_icmp .ne 17, 3) := by decide +kernel
theorem dL_lights_230 : decode cL_lights 230 = .ok (.aload_n 0, 1) := by decide +kernel
theorem dL_lights_231 : decode cL_lights 231 = .ok (.bipush 9, 2) := by decide +kernel
theorem dL_lights_233 : decode cL_lights 233 = .ok (.invokevirtual 39, 3) := by decide +kernel
theorem dL_lights_236 : decode cL_lights 236 = .ok (.iload_n 2, 1) := by decide +kernel
theorem dL_lights_237 : decode cL_lights 237 = .ok (.if_icmp .ne 7, 3) := by decide +kernel
theorem dL_lights_240 : decode cL_lights 240 = .ok (.iconst 1, 1) := by decide +kernel
theorem dL_lights_241 : decode cL_lights 241 = .ok (.goto 4, 3) := by decide +kernel
theorem dL_lights_244 : decode cL_lights 244 = .ok (.iconst 0, 1) := by decide +kernel
theorem dL_lights_245 : decode cL_lights 245 = .ok (.ireturn, 1) := by decide +kernel
theorem dL_withoutCircuit_0 : decode cL_withoutCircuit 0 = .ok (.iconst 0, 1) := by decide +kernel
theorem dL_withoutCircuit_1 : decode cL_withoutCircuit 1 = .ok (.istore_n 2, 1) := by decide +kernel
theorem dL_withoutCircuit_2 : decode cL_withoutCircuit 2 = .ok (.iconst 0, 1) := by decide +kernel
theorem dL_withoutCircuit_3 : decode cL_withoutCircuit 3 = .ok (.istore_n 3, 1) := by decide +kernel
theorem dL_withoutCircuit_4 : decode cL_withoutCircuit 4 = .ok (.iload_n 3, 1) := by decide +kernel
theorem dL_withoutCircuit_5 : decode cL_withoutCircuit 5 = .ok (.aload_n 0, 1) := by decide +kernel
theorem dL_withoutCircuit_6 : decode cL_withoutCircuit 6 = .ok (.iconst 0, 1) := by decide +kernel
theorem dL_withoutCircuit_7 : decode cL_withoutCircuit 7 = .ok (.invokevirtual 39, 3) := by decide +kernel
theorem dL_withoutCircuit_10 : decode cL_withoutCircuit 10 = .ok (.if_icmp .ge 29, 3) := by decide +kernel
theorem dL_withoutCircuit_13 : decode cL_withoutCircuit 13 = .ok (.iload_n 2, 1) := by decide +kernel
theorem dL_withoutCircuit_14 : decode cL_withoutCircuit 14 = .ok (.aload_n 0, 1) := by decide +kernel
theorem dL_withoutCircuit_15 : decode cL_withoutCircuit 15 = .ok (.iload_n 3, 1) := by decide +kernel
theorem dL_withoutCircuit_16 : decode cL_withoutCircuit 16 = .ok (.iconst 1, 1) := by decide +kernel
theorem dL_withoutCircuit_17 : decode cL_withoutCircuit 17 = .ok (.invokevirtual 42, 3) := by decide +kernel
theorem dL_withoutCircuit_20 : decode cL_withoutCircuit 20 = .ok (.iload_n 1, 1) := by decide +kernel
theorem dL_withoutCircuit_21 : decode cL_withoutCircuit 21 = .ok (.if_icmp .ne 7, 3) := by decide +kernel
theorem dL_withoutCircuit_24 : decode cL_withoutCircuit 24 = .ok (.iconst 0, 1) := by decide +kernel
theorem dL_withoutCircuit_25 : decode cL_withoutCircuit 25 = .ok (.goto 6, 3) := by decide +kernel
theorem dL_withoutCircuit_28 : decode cL_withoutCircuit 28 = .ok (.iconst 1, 1) := by decide +kernel
theorem dL_withoutCircuit_29 : decode cL_withoutCircuit 29 = .ok (.iload_n 3, 1) := by decide +kernel
theorem dL_withoutCircuit_30 : decode cL_withoutCircuit 30 = .ok (.ishl, 1) := by decide +kernel
theorem dL_withoutCircuit_31 : decode cL_withoutCircuit 31 = .ok (.ior, 1) := by decide +kernel
theorem dL_withoutCircuit_32 : decode cL_withoutCircuit 32 = .ok (.istore_n 2, 1) := by decide +kernel
theorem dL_withoutCircuit_33 : decode cL_withoutCircuit 33 = .ok (.iinc 3 1, 3) := by decide +kernel
theorem dL_withoutCircuit_36 : decode cL_withoutCircuit 36 = .ok (.goto (-32), 3) := by decide +kernel
theorem dL_withoutCircuit_39 : decode cL_withoutCircuit 39 = .ok (.iload_n 2, 1) := by decide +kernel
theorem dL_withoutCircuit_40 : decode cL_withoutCircuit 40 = .ok (.ireturn, 1) := by decide +kernel
theorem dL_routes_0 : decode cL_routes 0 = .ok (.iconst 1, 1) := by decide +kernel
theorem dL_routes_1 : decode cL_routes 1 = .ok (.aload_n 0, 1) := by decide +kernel
theorem dL_routes_2 : decode cL_routes 2 = .ok (.iconst 0, 1) := by decide +kernel
theorem dL_routes_3 : decode cL_routes 3 = .ok (.invokevirtual 39, 3) := by decide +kernel
theorem dL_routes_6 : decode cL_routes 6 = .ok (.ishl, 1) := by decide +kernel
theorem dL_routes_7 : decode cL_routes 7 = .ok (.iconst 1, 1) := by decide +kernel
theorem dL_routes_8 : decode cL_routes 8 = .ok (.isub, 1) := by decide +kernel
theorem dL_routes_9 : decode cL_routes 9 = .ok (.istore_n 1, 1) := by decide +kernel
theorem dL_routes_10 : decode cL_routes 10 = .ok (.iconst 0, 1) := by decide +kernel
theorem dL_routes_11 : decode cL_routes 11 = .ok (.istore_n 2, 1) := by decide +kernel
theorem dL_routes_12 : decode cL_routes 12 = .ok (.iconst 0, 1) := by decide +kernel
theorem dL_routes_13 : decode cL_routes 13 = .ok (.istore_n 3, 1) := by decide +kernel
theorem dL_routes_14 : decode cL_routes 14 = .ok (.iload_n 3, 1) := by decide +kernel
theorem dL_routes_15 : decode cL_routes 15 = .ok (.aload_n 0, 1) := by decide +kernel
theorem dL_routes_16 : decode cL_routes 16 = .ok (.iconst 2, 1) := by decide +kernel
theorem dL_routes_17 : decode cL_routes 17 = .ok (.invokevirtual 39, 3) := by decide +kernel
theorem dL_routes_20 : decode cL_routes 20 = .ok (.if_icmp .ge 453, 3) := by decide +kernel
theorem dL_routes_23 : decode cL_routes 23 = .ok (.iconst 0, 1) := by decide +kernel
theorem dL_routes_24 : decode cL_routes 24 = .ok (.istore 4, 2) := by decide +kernel
theorem dL_routes_26 : decode cL_routes 26 = .ok (.aload_n 0, 1) := by decide +kernel
theorem dL_routes_27 : decode cL_routes 27 = .ok (.iload_n 3, 1) := by decide +kernel
theorem dL_routes_28 : decode cL_routes 28 = .ok (.iconst 0, 1) := by decide +kernel
theorem dL_routes_29 : decode cL_routes 29 = .ok (.invokevirtual 48, 3) := by decide +kernel
theorem dL_routes_32 : decode cL_routes 32 = .ok (.istore 5, 2) := by decide +kernel
theorem dL_routes_34 : decode cL_routes 34 = .ok (.iload 5, 2) := by decide +kernel
theorem dL_routes_36 : decode cL_routes 36 = .ok (.aload_n 0, 1) := by decide +kernel
theorem dL_routes_37 : decode cL_routes 37 = .ok (.iload_n 3, 1) := by decide +kernel
theorem dL_routes_38 : decode cL_routes 38 = .ok (.iconst 1, 1) := by decide +kernel
theorem dL_routes_39 : decode cL_routes 39 = .ok (.invokevirtual 48, 3) := by decide +kernel
theorem dL_routes_42 : decode cL_routes 42 = .ok (.if_icmp .gt 193, 3) := by decide +kernel
theorem dL_routes_45 : decode cL_routes 45 = .ok (.iconst 0, 1) := by decide +kernel
theorem dL_routes_46 : decode cL_routes 46 = .ok (.istore 6, 2) := by decide +kernel
theorem dL_routes_48 : decode cL_routes 48 = .ok (.iconst 0, 1) := by decide +kernel
theorem dL_routes_49 : decode cL_routes 49 = .ok (.istore 7, 2) := by decide +kernel
theorem dL_routes_51 : decode cL_routes 51 = .ok (.iconst 0, 1) := by decide +kernel
theorem dL_routes_52 : decode cL_routes 52 = .ok (.istore 8, 2) := by decide +kernel
theorem dL_routes_54 : decode cL_routes 54 = .ok (.iload 8, 2) := by decide +kernel
theorem dL_routes_56 : decode cL_routes 56 = .ok (.aload_n 0, 1) := by decide +kernel
theorem dL_routes_57 : decode cL_routes 57 = .ok (.iconst 0, 1) := by decide +kernel
theorem dL_routes_58 : decode cL_routes 58 = .ok (.invokevirtual 39, 3) := by decide +kernel
theorem dL_routes_61 : decode cL_routes 61 = .ok (.if_icmp .ge 127, 3) := by decide +kernel
theorem dL_routes_64 : decode cL_routes 64 = .ok (.aload_n 0, 1) := by decide +kernel
theorem dL_routes_65 : decode cL_routes 65 = .ok (.iload 8, 2) := by decide +kernel
theorem dL_routes_67 : decode cL_routes 67 = .ok (.iconst 0, 1) := by decide +kernel
theorem dL_routes_68 : decode cL_routes 68 = .ok (.invokevirtual 42, 3) := by decide +kernel
theorem dL_routes_71 : decode cL_routes 71 = .ok (.iload 5, 2) := by decide +kernel
theorem dL_routes_73 : decode cL_routes 73 = .ok (.if_icmp .le 16, 3) := by decide +kernel
theorem dL_routes_76 : decode cL_routes 76 = .ok (.aload_n 0, 1) := by decide +kernel
theorem dL_routes_77 : decode cL_routes 77 = .ok (.iload 8, 2) := by decide +kernel
theorem dL_routes_79 : decode cL_routes 79 = .ok (.iconst 0, 1) := by decide +kernel
theorem dL_routes_80 : decode cL_routes 80 = .ok (.invokevirtual 42, 3) := by decide +kernel
theorem dL_routes_83 : decode cL_routes 83 = .ok (.iload 5, 2) := by decide +kernel
theorem dL_routes_85 : decode cL_routes 85 = .ok (.isub, 1) := by decide +kernel
theorem dL_routes_86 : decode cL_routes 86 = .ok (.goto 13, 3) := by decide +kernel
theorem dL_routes_89 : decode cL_routes 89 = .ok (.iload 5, 2) := by decide +kernel
theorem dL_routes_91 : decode cL_routes 91 = .ok (.aload_n 0, 1) := by decide +kernel
theorem dL_routes_92 : decode cL_routes 92 = .ok (.iload 8, 2) := by decide +kernel
theorem dL_routes_94 : decode cL_routes 94 = .ok (.iconst 0, 1) := by decide +kernel
theorem dL_routes_95 : decode cL_routes 95 = .ok (.invokevirtual 42, 3) := by decide +kernel
theorem dL_routes_98 : decode cL_routes 98 = .ok (.isub, 1) := by decide +kernel
theorem dL_routes_99 : decode cL_routes 99 = .ok (.istore 9, 2) := by decide +kernel
theorem dL_routes_101 : decode cL_routes 101 = .ok (.iload 9, 2) := by decide +kernel
theorem dL_routes_103 : decode cL_routes 103 = .ok (.aload_n 0, 1) := by decide +kernel
theorem dL_routes_104 : decode cL_routes 104 = .ok (.iload 8, 2) := by decide +kernel
theorem dL_routes_106 : decode cL_routes 106 = .ok (.iconst 3, 1) := by decide +kernel
theorem dL_routes_107 : decode cL_routes 107 = .ok (.invokevirtual 42, 3) := by decide +kernel
theorem dL_routes_110 : decode cL_routes 110 = .ok (.ifCond .ne 7, 3) := by decide +kernel
theorem dL_routes_113 : decode cL_routes 113 = .ok (.iconst 4, 1) := by decide +kernel
theorem dL_routes_114 : decode cL_routes 114 = .ok (.goto 21, 3) := by decide +kernel
theorem dL_routes_117 : decode cL_routes 117 = .ok (.aload_n 0, 1) := by decide +kernel
theorem dL_routes_118 : decode cL_routes 118 = .ok (.iload 8, 2) := by decide +kernel
theorem dL_routes_120 : decode cL_routes 120 = .ok (.iconst 3, 1) := by decide +kernel
theorem dL_routes_121 : decode cL_routes 121 = .ok (.invokevirtual 42, 3) := by decide +kernel
theorem dL_routes_124 : decode cL_routes 124 = .ok (.iconst 1, 1) := by decide +kernel
theorem dL_routes_125 : decode cL_routes 125 = .ok (.if_icmp .ne 8, 3) := by decide +kernel
theorem dL_routes_128 : decode cL_routes 128 = .ok (.bipush 6, 2) := by decide +kernel
theorem dL_routes_130 : decode cL_routes 130 = .ok (.goto 5, 3) := by decide +kernel
theorem dL_routes_133 : decode cL_routes 133 = .ok (.bipush 9, 2) := by decide +kernel
theorem dL_routes_135 : decode cL_routes 135 = .ok (.if_icmp .gt 7, 3) := by decide +kernel
theorem dL_routes_138 : decode cL_routes 138 = .ok (.iconst 1, 1) := by decide +kernel
theorem dL_routes_139 : decode cL_routes 139 = .ok (.goto 4, 3) := by decide +kernel
theorem dL_routes_142 : decode cL_routes 142 = .ok (.iconst 0, 1) := by decide +kernel
theorem dL_routes_143 : decode cL_routes 143 = .ok (.istore 10, 2) := by decide +kernel
theorem dL_routes_145 : decode cL_routes 145 = .ok (.iload 6, 2) := by decide +kernel
theorem dL_routes_147 : decode cL_routes 147 = .ok (.iload 10, 2) := by decide +kernel
theorem dL_routes_149 : decode cL_routes 149 = .ok (.ifCond .eq 7, 3) := by decide +kernel
theorem dL_routes_152 : decode cL_routes 152 = .ok (.iconst 1, 1) := by decide +kernel
theorem dL_routes_153 : decode cL_routes 153 = .ok (.goto 4, 3) := by decide +kernel
theorem dL_routes_156 : decode cL_routes 156 = .ok (.iconst 0, 1) := by decide +kernel
theorem dL_routes_157 : decode cL_routes 157 = .ok (.iadd, 1) := by decide +kernel
theorem dL_routes_158 : decode cL_routes 158 = .ok (.istore 6, 2) := by decide +kernel
theorem dL_routes_160 : decode cL_routes 160 = .ok (.iload 7, 2) := by decide +kernel
theorem dL_routes_162 : decode cL_routes 162 = .ok (.iload 10, 2) := by decide +kernel
theorem dL_routes_164 : decode cL_routes 164 = .ok (.ifCond .eq 14, 3) := by decide +kernel
theorem dL_routes_167 : decode cL_routes 167 = .ok (.aload_n 0, 1) := by decide +kernel
theorem dL_routes_168 : decode cL_routes 168 = .ok (.iload 8, 2) := by decide +kernel
theorem dL_routes_170 : decode cL_routes 170 = .ok (.bipush 10, 2) := by decide +kernel
theorem dL_routes_172 : decode cL_routes 172 = .ok (.invokevirtual 42, 3) := by decide +kernel
theorem dL_routes_175 : decode cL_routes 175 = .ok (.goto 4, 3) := by decide +kernel
theorem dL_routes_178 : decode cL_routes 178 = .ok (.iconst 0, 1) := by decide +kernel
theorem dL_routes_179 : decode cL_routes 179 = .ok (.iadd, 1) := by decide +kernel
theorem dL_routes_180 : decode cL_routes 180 = .ok (.istore 7, 2) := by decide +kernel
theorem dL_routes_182 : decode cL_routes 182 = .ok (.iinc 8 1, 3) := by decide +kernel
theorem dL_routes_185 : decode cL_routes 185 = .ok (.goto (-131), 3) := by decide +kernel
theorem dL_routes_188 : decode cL_routes 188 = .ok (.aload_n 0, 1) := by decide +kernel
theorem dL_routes_189 : decode cL_routes 189 = .ok (.iload 5, 2) := by decide +kernel
theorem dL_routes_191 : decode cL_routes 191 = .ok (.iconst 0, 1) := by decide +kernel
theorem dL_routes_192 : decode cL_routes 192 = .ok (.invokevirtual 51, 3) := by decide +kernel
theorem dL_routes_195 : decode cL_routes 195 = .ok (.iload 6, 2) := by decide +kernel
theorem dL_routes_197 : decode cL_routes 197 = .ok (.if_icmp .ne 15, 3) := by decide +kernel
theorem dL_routes_200 : decode cL_routes 200 = .ok (.aload_n 0, 1) := by decide +kernel
theorem dL_routes_201 : decode cL_routes 201 = .ok (.iload 5, 2) := by decide +kernel
theorem dL_routes_203 : decode cL_routes 203 = .ok (.iconst 1, 1) := by decide +kernel
theorem dL_routes_204 : decode cL_routes 204 = .ok (.invokevirtual 51, 3) := by decide +kernel
theorem dL_routes_207 : decode cL_routes 207 = .ok (.iload 7, 2) := by decide +kernel
theorem dL_routes_209 : decode cL_routes 209 = .ok (.if_icmp .eq 5, 3) := by decide +kernel
theorem dL_routes_212 : decode cL_routes 212 = .ok (.iconst 0, 1) := by decide +kernel
theorem dL_routes_213 : decode cL_routes 213 = .ok (.ireturn, 1) := by decide +kernel
theorem dL_routes_214 : decode cL_routes 214 = .ok (.iload 4, 2) := by decide +kernel
theorem dL_routes_216 : decode cL_routes 216 = .ok (.iload 7, 2) := by decide +kernel
theorem dL_routes_218 : decode cL_routes 218 = .ok (.ifCond .ne 7, 3) := by decide +kernel
theorem dL_routes_221 : decode cL_routes 221 = .ok (.iconst 1, 1) := by decide +kernel
theorem dL_routes_222 : decode cL_routes 222 = .ok (.goto 4, 3) := by decide +kernel
theorem dL_routes_225 : decode cL_routes 225 = .ok (.iconst 0, 1) := by decide +kernel
theorem dL_routes_226 : decode cL_routes 226 = .ok (.iadd, 1) := by decide +kernel
theorem dL_routes_227 : decode cL_routes 227 = .ok (.istore 4, 2) := by decide +kernel
theorem dL_routes_229 : decode cL_routes 229 = .ok (.iinc 5 1, 3) := by decide +kernel
theorem dL_routes_232 : decode cL_routes 232 = .ok (.goto (-198), 3) := by decide +kernel
theorem dL_routes_235 : decode cL_routes 235 = .ok (.aload_n 0, 1) := by decide +kernel
theorem dL_routes_236 : decode cL_routes 236 = .ok (.iload_n 3, 1) := by decide +kernel
theorem dL_routes_237 : decode cL_routes 237 = .ok (.iconst 2, 1) := by decide +kernel
theorem dL_routes_238 : decode cL_routes 238 = .ok (.invokevirtual 48, 3) := by decide +kernel
theorem dL_routes_241 : decode cL_routes 241 = .ok (.iload 4, 2) := by decide +kernel
theorem dL_routes_243 : decode cL_routes 243 = .ok (.if_icmp .ne 50, 3) := by decide +kernel
theorem dL_routes_246 : decode cL_routes 246 = .ok (.aload_n 0, 1) := by decide +kernel
theorem dL_routes_247 : decode cL_routes 247 = .ok (.iload_n 3, 1) := by decide +kernel
theorem dL_routes_248 : decode cL_routes 248 = .ok (.iconst 3, 1) := by decide +kernel
theorem dL_routes_249 : decode cL_routes 249 = .ok (.invokevirtual 48, 3) := by decide +kernel
theorem dL_routes_252 : decode cL_routes 252 = .ok (.iload 4, 2) := by decide +kernel
theorem dL_routes_254 : decode cL_routes 254 = .ok (.ifCond .ne 7, 3) := by decide +kernel
theorem dL_routes_257 : decode cL_routes 257 = .ok (.iconst 1, 1) := by decide +kernel
theorem dL_routes_258 : decode cL_routes 258 = .ok (.goto 4, 3) := by decide +kernel
theorem dL_routes_261 : decode cL_routes 261 = .ok (.iconst 0, 1) := by decide +kernel
theorem dL_routes_262 : decode cL_routes 262 = .ok (.if_icmp .ne 31, 3) := by decide +kernel
theorem dL_routes_265 : decode cL_routes 265 = .ok (.aload_n 0, 1) := by decide +kernel
theorem dL_routes_266 : decode cL_routes 266 = .ok (.iload_n 3, 1) := by decide +kernel
theorem dL_routes_267 : decode cL_routes 267 = .ok (.iconst 4, 1) := by decide +kernel
theorem dL_routes_268 : decode cL_routes 268 = .ok (.invokevirtual 48, 3) := by decide +kernel
theorem dL_routes_271 : decode cL_routes 271 = .ok (.aload_n 0, 1) := by decide +kernel
theorem dL_routes_272 : decode cL_routes 272 = .ok (.iload_n 3, 1) := by decide +kernel
theorem dL_routes_273 : decode cL_routes 273 = .ok (.iload_n 1, 1) := by decide +kernel
theorem dL_routes_274 : decode cL_routes 274 = .ok (.invokevirtual 54, 3) := by decide +kernel
theorem dL_routes_277 : decode cL_routes 277 = .ok (.if_icmp .ne 16, 3) := by decide +kernel
theorem dL_routes_280 : decode cL_routes 280 = .ok (.aload_n 0, 1) := by decide +kernel
theorem dL_routes_281 : decode cL_routes 281 = .ok (.iload_n 3, 1) := by decide +kernel
theorem dL_routes_282 : decode cL_routes 282 = .ok (.iconst 0, 1) := by decide +kernel
theorem dL_routes_283 : decode cL_routes 283 = .ok (.invokevirtual 54, 3) := by decide +kernel
theorem dL_routes_286 : decode cL_routes 286 = .ok (.ifCond .ne 7, 3) := by decide +kernel
theorem dL_routes_289 : decode cL_routes 289 = .ok (.iconst 1, 1) := by decide +kernel
theorem dL_routes_290 : decode cL_routes 290 = .ok (.goto 4, 3) := by decide +kernel
theorem dL_routes_293 : decode cL_routes 293 = .ok (.iconst 0, 1) := by decide +kernel
theorem dL_routes_294 : decode cL_routes 294 = .ok (.istore 5, 2) := by decide +kernel
theorem dL_routes_296 : decode cL_routes 296 = .ok (.iload 5, 2) := by decide +kernel
theorem dL_routes_298 : decode cL_routes 298 = .ok (.ifCond .eq 45, 3) := by decide +kernel
theorem dL_routes_301 : decode cL_routes 301 = .ok (.iload 4, 2) := by decide +kernel
theorem dL_routes_303 : decode cL_routes 303 = .ok (.ifCond .gt 17, 3) := by decide +kernel
theorem dL_routes_306 : decode cL_routes 306 = .ok (.aload_n 0, 1) := by decide +kernel
theorem dL_routes_307 : decode cL_routes 307 = .ok (.iload_n 3, 1) := by decide +kernel
theorem dL_routes_308 : decode cL_routes 308 = .ok (.iconst 4, 1) := by decide +kernel
theorem dL_routes_309 : decode cL_routes 309 = .ok (.invokevirtual 48, 3) := by decide +kernel
theorem dL_routes_312 : decode cL_routes 312 = .ok (.aload_n 0, 1) := by decide +kernel
theorem dL_routes_313 : decode cL_routes 313 = .ok (.iconst 4, 1) := by decide +kernel
theorem dL_routes_314 : decode cL_routes 314 = .ok (.invokevirtual 39, 3) := by decide +kernel
theorem dL_routes_317 : decode cL_routes 317 = .ok (.if_icmp .lt 26, 3) := by decide +kernel
theorem dL_routes_320 : decode cL_routes 320 = .ok (.iload 4, 2) := by decide +kernel
theorem dL_routes_322 : decode cL_routes 322 = .ok (.ifCond .eq 17, 3) := by decide +kernel
theorem dL_routes_325 : decode cL_routes 325 = .ok (.aload_n 0, 1) := by decide +kernel
theorem dL_routes_326 : decode cL_routes 326 = .ok (.iload_n 3, 1) := by decide +kernel
theorem dL_routes_327 : decode cL_routes 327 = .ok (.iconst 4, 1) := by decide +kernel
theorem dL_routes_328 : decode cL_routes 328 = .ok (.invokevirtual 48, 3) := by decide +kernel
theorem dL_routes_331 : decode cL_routes 331 = .ok (.aload_n 0, 1) := by decide +kernel
theorem dL_routes_332 : decode cL_routes 332 = .ok (.iconst 4, 1) := by decide +kernel
theorem dL_routes_333 : decode cL_routes 333 = .ok (.invokevirtual 39, 3) := by decide +kernel
theorem dL_routes_336 : decode cL_routes 336 = .ok (.if_icmp .ge 7, 3) := by decide +kernel
theorem dL_routes_339 : decode cL_routes 339 = .ok (.iconst 1, 1) := by decide +kernel
theorem dL_routes_340 : decode cL_routes 340 = .ok (.goto 4, 3) := by decide +kernel
theorem dL_routes_343 : decode cL_routes 343 = .ok (.iconst 0, 1) := by decide +kernel
theorem dL_routes_344 : decode cL_routes 344 = .ok (.istore 5, 2) := by decide +kernel
theorem dL_routes_346 : decode cL_routes 346 = .ok (.ldc 57, 2) := by decide +kernel
theorem dL_routes_348 : decode cL_routes 348 = .ok (.istore 6, 2) := by decide +kernel
theorem dL_routes_350 : decode cL_routes 350 = .ok (.iconst (-1), 1) := by decide +kernel
theorem dL_routes_351 : decode cL_routes 351 = .ok (.istore 7, 2) := by decide +kernel
theorem dL_routes_353 : decode cL_routes 353 = .ok (.iconst 0, 1) := by decide +kernel
theorem dL_routes_354 : decode cL_routes 354 = .ok (.istore 8, 2) := by decide +kernel
theorem dL_routes_356 : decode cL_routes 356 = .ok (.iload 8, 2) := by decide +kernel
theorem dL_routes_358 : decode cL_routes 358 = .ok (.iconst 4, 1) := by decide +kernel
theorem dL_routes_359 : decode cL_routes 359 = .ok (.if_icmp .ge 54, 3) := by decide +kernel
theorem dL_routes_362 : decode cL_routes 362 = .ok (.aload_n 0, 1) := by decide +kernel
theorem dL_routes_363 : decode cL_routes 363 = .ok (.iload_n 3, 1) := by decide +kernel
theorem dL_routes_364 : decode cL_routes 364 = .ok (.aload_n 0, 1) := by decide +kernel
theorem dL_routes_365 : decode cL_routes 365 = .ok (.iload 8, 2) := by decide +kernel
theorem dL_routes_367 : decode cL_routes 367 = .ok (.invokestatic 58, 3) := by decide +kernel
theorem dL_routes_370 : decode cL_routes 370 = .ok (.invokevirtual 54, 3) := by decide +kernel
theorem dL_routes_373 : decode cL_routes 373 = .ok (.istore 9, 2) := by decide +kernel
theorem dL_routes_375 : decode cL_routes 375 = .ok (.iload 9, 2) := by decide +kernel
theorem dL_routes_377 : decode cL_routes 377 = .ok (.iload 6, 2) := by decide +kernel
theorem dL_routes_379 : decode cL_routes 379 = .ok (.if_icmp .ge 8, 3) := by decide +kernel
theorem dL_routes_382 : decode cL_routes 382 = .ok (.iload 8, 2) := by decide +kernel
theorem dL_routes_384 : decode cL_routes 384 = .ok (.goto 5, 3) := by decide +kernel
theorem dL_routes_387 : decode cL_routes 387 = .ok (.iload 7, 2) := by decide +kernel
theorem dL_routes_389 : decode cL_routes 389 = .ok (.istore 7, 2) := by decide +kernel
theorem dL_routes_391 : decode cL_routes 391 = .ok (.iload 9, 2) := by decide +kernel
theorem dL_routes_393 : decode cL_routes 393 = .ok (.iload 6, 2) := by decide +kernel
theorem dL_routes_395 : decode cL_routes 395 = .ok (.if_icmp .ge 8, 3) := by decide +kernel
theorem dL_routes_398 : decode cL_routes 398 = .ok (.iload 9, 2) := by decide +kernel
theorem dL_routes_400 : decode cL_routes 400 = .ok (.goto 5, 3) := by decide +kernel
theorem dL_routes_403 : decode cL_routes 403 = .ok (.iload 6, 2) := by decide +kernel
theorem dL_routes_405 : decode cL_routes 405 = .ok (.istore 6, 2) := by decide +kernel
theorem dL_routes_407 : decode cL_routes 407 = .ok (.iinc 8 1, 3) := by decide +kernel
theorem dL_routes_410 : decode cL_routes 410 = .ok (.goto (-54), 3) := by decide +kernel
theorem dL_routes_413 : decode cL_routes 413 = .ok (.iload 5, 2) := by decide +kernel
theorem dL_routes_415 : decode cL_routes 415 = .ok (.ifCond .eq 37, 3) := by decide +kernel
theorem dL_routes_418 : decode cL_routes 418 = .ok (.aload_n 0, 1) := by decide +kernel
theorem dL_routes_419 : decode cL_routes 419 = .ok (.iload_n 3, 1) := by decide +kernel
theorem dL_routes_420 : decode cL_routes 420 = .ok (.iconst 5, 1) := by decide +kernel
theorem dL_routes_421 : decode cL_routes 421 = .ok (.invokevirtual 48, 3) := by decide +kernel
theorem dL_routes_424 : decode cL_routes 424 = .ok (.iload 6, 2) := by decide +kernel
theorem dL_routes_426 : decode cL_routes 426 = .ok (.if_icmp .ne 26, 3) := by decide +kernel
theorem dL_routes_429 : decode cL_routes 429 = .ok (.aload_n 0, 1) := by decide +kernel
theorem dL_routes_430 : decode cL_routes 430 = .ok (.iload_n 3, 1) := by decide +kernel
theorem dL_routes_431 : decode cL_routes 431 = .ok (.bipush 6, 2) := by decide +kernel
theorem dL_routes_433 : decode cL_routes 433 = .ok (.invokevirtual 48, 3) := by decide +kernel
theorem dL_routes_436 : decode cL_routes 436 = .ok (.iload 7, 2) := by decide +kernel
theorem dL_routes_438 : decode cL_routes 438 = .ok (.if_icmp .ne 14, 3) := by decide +kernel
theorem dL_routes_441 : decode cL_routes 441 = .ok (.iload 6, 2) := by decide +kernel
theorem dL_routes_443 : decode cL_routes 443 = .ok (.aload_n 0, 1) := by decide +kernel
theorem dL_routes_444 : decode cL_routes 444 = .ok (.iload_n 3, 1) := by decide +kernel
theorem dL_routes_445 : decode cL_routes 445 = .ok (.iconst 4, 1) := by decide +kernel
theorem dL_routes_446 : decode cL_routes 446 = .ok (.invokevirtual 48, 3) := by decide +kernel
theorem dL_routes_449 : decode cL_routes 449 = .ok (.if_icmp .le 5, 3) := by decide +kernel
theorem dL_routes_452 : decode cL_routes 452 = .ok (.iconst 0, 1) := by decide +kernel
theorem dL_routes_453 : decode cL_routes 453 = .ok (.ireturn, 1) := by decide +kernel
theorem dL_routes_454 : decode cL_routes 454 = .ok (.iload_n 2, 1) := by decide +kernel
theorem dL_routes_455 : decode cL_routes 455 = .ok (.iload 4, 2) := by decide +kernel
theorem dL_routes_457 : decode cL_routes 457 = .ok (.ifCond .ne 7, 3) := by decide +kernel
theorem dL_routes_460 : decode cL_routes 460 = .ok (.iconst 1, 1) := by decide +kernel
theorem dL_routes_461 : decode cL_routes 461 = .ok (.goto 4, 3) := by decide +kernel
theorem dL_routes_464 : decode cL_routes 464 = .ok (.iconst 0, 1) := by decide +kernel
theorem dL_routes_465 : decode cL_routes 465 = .ok (.iadd, 1) := by decide +kernel
theorem dL_routes_466 : decode cL_routes 466 = .ok (.istore_n 2, 1) := by decide +kernel
theorem dL_routes_467 : decode cL_routes 467 = .ok (.iinc 3 1, 3) := by decide +kernel
theorem dL_routes_470 : decode cL_routes 470 = .ok (.goto (-456), 3) := by decide +kernel
theorem dL_routes_473 : decode cL_routes 473 = .ok (.aload_n 0, 1) := by decide +kernel
theorem dL_routes_474 : decode cL_routes 474 = .ok (.iconst 3, 1) := by decide +kernel
theorem dL_routes_475 : decode cL_routes 475 = .ok (.invokevirtual 39, 3) := by decide +kernel
theorem dL_routes_478 : decode cL_routes 478 = .ok (.iload_n 2, 1) := by decide +kernel
theorem dL_routes_479 : decode cL_routes 479 = .ok (.if_icmp .ne 7, 3) := by decide +kernel
theorem dL_routes_482 : decode cL_routes 482 = .ok (.iconst 1, 1) := by decide +kernel
theorem dL_routes_483 : decode cL_routes 483 = .ok (.goto 4, 3) := by decide +kernel
theorem dL_routes_486 : decode cL_routes 486 = .ok (.iconst 0, 1) := by decide +kernel
theorem dL_routes_487 : decode cL_routes 487 = .ok (.ireturn, 1) := by decide +kernel
theorem dL_plans_0 : decode cL_plans 0 = .ok (.iconst 1, 1) := by decide +kernel
theorem dL_plans_1 : decode cL_plans 1 = .ok (.aload_n 0, 1) := by decide +kernel
theorem dL_plans_2 : decode cL_plans 2 = .ok (.iconst 0, 1) := by decide +kernel
theorem dL_plans_3 : decode cL_plans 3 = .ok (.invokevirtual 39, 3) := by decide +kernel
theorem dL_plans_6 : decode cL_plans 6 = .ok (.ishl, 1) := by decide +kernel
theorem dL_plans_7 : decode cL_plans 7 = .ok (.iconst 1, 1) := by decide +kernel
theorem dL_plans_8 : decode cL_plans 8 = .ok (.isub, 1) := by decide +kernel
theorem dL_plans_9 : decode cL_plans 9 = .ok (.istore_n 2, 1) := by decide +kernel
theorem dL_plans_10 : decode cL_plans 10 = .ok (.iconst 1, 1) := by decide +kernel
theorem dL_plans_11 : decode cL_plans 11 = .ok (.istore_n 3, 1) := by decide +kernel
theorem dL_plans_12 : decode cL_plans 12 = .ok (.iconst 0, 1) := by decide +kernel
theorem dL_plans_13 : decode cL_plans 13 = .ok (.istore 4, 2) := by decide +kernel
theorem dL_plans_15 : decode cL_plans 15 = .ok (.iload 4, 2) := by decide +kernel
theorem dL_plans_17 : decode cL_plans 17 = .ok (.aload_n 0, 1) := by decide +kernel
theorem dL_plans_18 : decode cL_plans 18 = .ok (.iconst 0, 1) := by decide +kernel
theorem dL_plans_19 : decode cL_plans 19 = .ok (.invokevirtual 39, 3) := by decide +kernel
theorem dL_plans_22 : decode cL_plans 22 = .ok (.if_icmp .ge 31, 3) := by decide +kernel
theorem dL_plans_25 : decode cL_plans 25 = .ok (.iload_n 3, 1) := by decide +kernel
theorem dL_plans_26 : decode cL_plans 26 = .ok (.ifCond .eq 19, 3) := by decide +kernel
theorem dL_plans_29 : decode cL_plans 29 = .ok (.aload_n 0, 1) := by decide +kernel
theorem dL_plans_30 : decode cL_plans 30 = .ok (.iconst 1, 1) := by decide +kernel
theorem dL_plans_31 : decode cL_plans 31 = .ok (.iload 4, 2) := by decide +kernel
theorem dL_plans_33 : decode cL_plans 33 = .ok (.ishl, 1) := by decide +kernel
theorem dL_plans_34 : decode cL_plans 34 = .ok (.invokevirtual 62, 3) := by decide +kernel
theorem dL_plans_37 : decode cL_plans 37 = .ok (.iconst 1, 1) := by decide +kernel
theorem dL_plans_38 : decode cL_plans 38 = .ok (.if_icmp .ne 7, 3) := by decide +kernel
theorem dL_plans_41 : decode cL_plans 41 = .ok (.iconst 1, 1) := by decide +kernel
theorem dL_plans_42 : decode cL_plans 42 = .ok (.goto 4, 3) := by decide +kernel
theorem dL_plans_45 : decode cL_plans 45 = .ok (.iconst 0, 1) := by decide +kernel
theorem dL_plans_46 : decode cL_plans 46 = .ok (.istore_n 3, 1) := by decide +kernel
theorem dL_plans_47 : decode cL_plans 47 = .ok (.iinc 4 1, 3) := by decide +kernel
theorem dL_plans_50 : decode cL_plans 50 = .ok (.goto (-35), 3) := by decide +kernel
theorem dL_plans_53 : decode cL_plans 53 = .ok (.iconst 0, 1) := by decide +kernel
theorem dL_plans_54 : decode cL_plans 54 = .ok (.istore 4, 2) := by decide +kernel
theorem dL_plans_56 : decode cL_plans 56 = .ok (.iload 4, 2) := by decide +kernel
theorem dL_plans_58 : decode cL_plans 58 = .ok (.bipush 6, 2) := by decide +kernel
theorem dL_plans_60 : decode cL_plans 60 = .ok (.if_icmp .ge 57, 3) := by decide +kernel
theorem dL_plans_63 : decode cL_plans 63 = .ok (.aload_n 1, 1) := by decide +kernel
theorem dL_plans_64 : decode cL_plans 64 = .ok (.bipush 30, 2) := by decide +kernel
theorem dL_plans_66 : decode cL_plans 66 = .ok (.iload 4, 2) := by decide +kernel
theorem dL_plans_68 : decode cL_plans 68 = .ok (.iadd, 1) := by decide +kernel
theorem dL_plans_69 : decode cL_plans 69 = .ok (.invokestatic 9, 3) := by decide +kernel
theorem dL_plans_72 : decode cL_plans 72 = .ok (.iload_n 2, 1) := by decide +kernel
theorem dL_plans_73 : decode cL_plans 73 = .ok (.iand, 1) := by decide +kernel
theorem dL_plans_74 : decode cL_plans 74 = .ok (.istore 5, 2) := by decide +kernel
theorem dL_plans_76 : decode cL_plans 76 = .ok (.iload 5, 2) := by decide +kernel
theorem dL_plans_78 : decode cL_plans 78 = .ok (.aload_n 1, 1) := by decide +kernel
theorem dL_plans_79 : decode cL_plans 79 = .ok (.bipush 36, 2) := by decide +kernel
theorem dL_plans_81 : decode cL_plans 81 = .ok (.iload 4, 2) := by decide +kernel
theorem dL_plans_83 : decode cL_plans 83 = .ok (.iadd, 1) := by decide +kernel
theorem dL_plans_84 : decode cL_plans 84 = .ok (.invokestatic 9, 3) := by decide +kernel
theorem dL_plans_87 : decode cL_plans 87 = .ok (.iand, 1) := by decide +kernel
theorem dL_plans_88 : decode cL_plans 88 = .ok (.istore 6, 2) := by decide +kernel
theorem dL_plans_90 : decode cL_plans 90 = .ok (.aload_n 0, 1) := by decide +kernel
theorem dL_plans_91 : decode cL_plans 91 = .ok (.iload 5, 2) := by decide +kernel
theorem dL_plans_93 : decode cL_plans 93 = .ok (.invokevirtual 62, 3) := by decide +kernel
theorem dL_plans_96 : decode cL_plans 96 = .ok (.iconst 1, 1) := by decide +kernel
theorem dL_plans_97 : decode cL_plans 97 = .ok (.if_icmp .ne 14, 3) := by decide +kernel
theorem dL_plans_100 : decode cL_plans 100 = .ok (.aload_n 0, 1) := by decide +kernel
theorem dL_plans_101 : decode cL_plans 101 = .ok (.iload 6, 2) := by decide +kernel
theorem dL_plans_103 : decode cL_plans 103 = .ok (.invokevirtual 62, 3) := by decide +kernel
theorem dL_plans_106 : decode cL_plans 106 = .ok (.ifCond .ne 5, 3) := by decide +kernel
theorem dL_plans_109 : decode cL_plans 109 = .ok (.iconst 0, 1) := by decide +kernel
theorem dL_plans_110 : decode cL_plans 110 = .ok (.ireturn, 1) := by decide +kernel
theorem dL_plans_111 : decode cL_plans 111 = .ok (.iinc 4 1, 3) := by decide +kernel
theorem dL_plans_114 : decode cL_plans 114 = .ok (.goto (-58), 3) := by decide +kernel
theorem dL_plans_117 : decode cL_plans 117 = .ok (.aload_n 0, 1) := by decide +kernel
theorem dL_plans_118 : decode cL_plans 118 = .ok (.invokevirtual 65, 3) := by decide +kernel
theorem dL_plans_121 : decode cL_plans 121 = .ok (.istore 4, 2) := by decide +kernel
theorem dL_plans_123 : decode cL_plans 123 = .ok (.iload_n 3, 1) := by decide +kernel
theorem dL_plans_124 : decode cL_plans 124 = .ok (.ifCond .ne 56, 3) := by decide +kernel
theorem dL_plans_127 : decode cL_plans 127 = .ok (.iload 4, 2) := by decide +kernel
theorem dL_plans_129 : decode cL_plans 129 = .ok (.bipush (-9), 2) := by decide +kernel
theorem dL_plans_131 : decode cL_plans 131 = .ok (.if_icmp .ne 47, 3) := by decide +kernel
theorem dL_plans_134 : decode cL_plans 134 = .ok (.aload_n 0, 1) := by decide +kernel
theorem dL_plans_135 : decode cL_plans 135 = .ok (.iconst 0, 1) := by decide +kernel
theorem dL_plans_136 : decode cL_plans 136 = .ok (.invokevirtual 69, 3) := by decide +kernel
theorem dL_plans_139 : decode cL_plans 139 = .ok (.bipush (-9), 2) := by decide +kernel
theorem dL_plans_141 : decode cL_plans 141 = .ok (.if_icmp .ne 37, 3) := by decide +kernel
theorem dL_plans_144 : decode cL_plans 144 = .ok (.aload_n 0, 1) := by decide +kernel
theorem dL_plans_145 : decode cL_plans 145 = .ok (.iconst 0, 1) := by decide +kernel
theorem dL_plans_146 : decode cL_plans 146 = .ok (.bipush 12, 2) := by decide +kernel
theorem dL_plans_148 : decode cL_plans 148 = .ok (.invokevirtual 42, 3) := by decide +kernel
theorem dL_plans_151 : decode cL_plans 151 = .ok (.bipush (-9), 2) := by decide +kernel
theorem dL_plans_153 : decode cL_plans 153 = .ok (.if_icmp .ne 25, 3) := by decide +kernel
theorem dL_plans_156 : decode cL_plans 156 = .ok (.aload_n 0, 1) := by decide +kernel
theorem dL_plans_157 : decode cL_plans 157 = .ok (.invokevirtual 72, 3) := by decide +kernel
theorem dL_plans_160 : decode cL_plans 160 = .ok (.bipush (-2), 2) := by decide +kernel
theorem dL_plans_162 : decode cL_plans 162 = .ok (.if_icmp .ne 16, 3) := by decide +kernel
theorem dL_plans_165 : decode cL_plans 165 = .ok (.aload_n 0, 1) := by decide +kernel
theorem dL_plans_166 : decode cL_plans 166 = .ok (.iconst 0, 1) := by decide +kernel
theorem dL_plans_167 : decode cL_plans 167 = .ok (.invokevirtual 62, 3) := by decide +kernel
theorem dL_plans_170 : decode cL_plans 170 = .ok (.iconst 1, 1) := by decide +kernel
theorem dL_plans_171 : decode cL_plans 171 = .ok (.if_icmp .ne 7, 3) := by decide +kernel
theorem dL_plans_174 : decode cL_plans 174 = .ok (.iconst 1, 1) := by decide +kernel
theorem dL_plans_175 : decode cL_plans 175 = .ok (.goto 4, 3) := by decide +kernel
theorem dL_plans_178 : decode cL_plans 178 = .ok (.iconst 0, 1) := by decide +kernel
theorem dL_plans_179 : decode cL_plans 179 = .ok (.ireturn, 1) := by decide +kernel
theorem dL_plans_180 : decode cL_plans 180 = .ok (.iload_n 2, 1) := by decide +kernel
theorem dL_plans_181 : decode cL_plans 181 = .ok (.istore 5, 2) := by decide +kernel
theorem dL_plans_183 : decode cL_plans 183 = .ok (.iconst 0, 1) := by decide +kernel
theorem dL_plans_184 : decode cL_plans 184 = .ok (.istore 6, 2) := by decide +kernel
theorem dL_plans_186 : decode cL_plans 186 = .ok (.iload 6, 2) := by decide +kernel
theorem dL_plans_188 : decode cL_plans 188 = .ok (.iload 4, 2) := by decide +kernel
theorem dL_plans_190 : decode cL_plans 190 = .ok (.if_icmp .ge 107, 3) := by decide +kernel
theorem dL_plans_193 : decode cL_plans 193 = .ok (.aload_n 0, 1) := by decide +kernel
theorem dL_plans_194 : decode cL_plans 194 = .ok (.iload 6, 2) := by decide +kernel
theorem dL_plans_196 : decode cL_plans 196 = .ok (.invokevirtual 69, 3) := by decide +kernel
theorem dL_plans_199 : decode cL_plans 199 = .ok (.istore 7, 2) := by decide +kernel
theorem dL_plans_201 : decode cL_plans 201 = .ok (.iload 5, 2) := by decide +kernel
theorem dL_plans_203 : decode cL_plans 203 = .ok (.iload 5, 2) := by decide +kernel
theorem dL_plans_205 : decode cL_plans 205 = .ok (.ineg, 1) := by decide +kernel
theorem dL_plans_206 : decode cL_plans 206 = .ok (.iand, 1) := by decide +kernel
theorem dL_plans_207 : decode cL_plans 207 = .ok (.istore 8, 2) := by decide +kernel
theorem dL_plans_209 : decode cL_plans 209 = .ok (.aload_n 0, 1) := by decide +kernel
theorem dL_plans_210 : decode cL_plans 210 = .ok (.iload 7, 2) := by decide +kernel
theorem dL_plans_212 : decode cL_plans 212 = .ok (.invokevirtual 62, 3) := by decide +kernel
theorem dL_plans_215 : decode cL_plans 215 = .ok (.iconst 1, 1) := by decide +kernel
theorem dL_plans_216 : decode cL_plans 216 = .ok (.if_icmp .ne 21, 3) := by decide +kernel
theorem dL_plans_219 : decode cL_plans 219 = .ok (.iload 7, 2) := by decide +kernel
theorem dL_plans_221 : decode cL_plans 221 = .ok (.iload 5, 2) := by decide +kernel
theorem dL_plans_223 : decode cL_plans 223 = .ok (.iconst (-1), 1) := by decide +kernel
theorem dL_plans_224 : decode cL_plans 224 = .ok (.ixor, 1) := by decide +kernel
theorem dL_plans_225 : decode cL_plans 225 = .ok (.iand, 1) := by decide +kernel
theorem dL_plans_226 : decode cL_plans 226 = .ok (.ifCond .ne 11, 3) := by decide +kernel
theorem dL_plans_229 : decode cL_plans 229 = .ok (.iload 7, 2) := by decide +kernel
theorem dL_plans_231 : decode cL_plans 231 = .ok (.iload 8, 2) := by decide +kernel
theorem dL_plans_233 : decode cL_plans 233 = .ok (.iand, 1) := by decide +kernel
theorem dL_plans_234 : decode cL_plans 234 = .ok (.ifCond .ne 5, 3) := by decide +kernel
theorem dL_plans_237 : decode cL_plans 237 = .ok (.iconst 0, 1) := by decide +kernel
theorem dL_plans_238 : decode cL_plans 238 = .ok (.ireturn, 1) := by decide +kernel
theorem dL_plans_239 : decode cL_plans 239 = .ok (.iload 5, 2) := by decide +kernel
theorem dL_plans_241 : decode cL_plans 241 = .ok (.iload 7, 2) := by decide +kernel
theorem dL_plans_243 : decode cL_plans 243 = .ok (.ixor, 1) := by decide +kernel
theorem dL_plans_244 : decode cL_plans 244 = .ok (.istore 5, 2) := by decide +kernel
theorem dL_plans_246 : decode cL_plans 246 = .ok (.iconst 0, 1) := by decide +kernel
theorem dL_plans_247 : decode cL_plans 247 = .ok (.istore 9, 2) := by decide +kernel
theorem dL_plans_249 : decode cL_plans 249 = .ok (.iload 9, 2) := by decide +kernel
theorem dL_plans_251 : decode cL_plans 251 = .ok (.aload_n 0, 1) := by decide +kernel
theorem dL_plans_252 : decode cL_plans 252 = .ok (.iconst 0, 1) := by decide +kernel
theorem dL_plans_253 : decode cL_plans 253 = .ok (.invokevirtual 39, 3) := by decide +kernel
theorem dL_plans_256 : decode cL_plans 256 = .ok (.if_icmp .ge 35, 3) := by decide +kernel
theorem dL_plans_259 : decode cL_plans 259 = .ok (.iload 7, 2) := by decide +kernel
theorem dL_plans_261 : decode cL_plans 261 = .ok (.iload 9, 2) := by decide +kernel
theorem dL_plans_263 : decode cL_plans 263 = .ok (.ishr, 1) := by decide +kernel
theorem dL_plans_264 : decode cL_plans 264 = .ok (.iconst 1, 1) := by decide +kernel
theorem dL_plans_265 : decode cL_plans 265 = .ok (.iand, 1) := by decide +kernel
theorem dL_plans_266 : decode cL_plans 266 = .ok (.iconst 1, 1) := by decide +kernel
theorem dL_plans_267 : decode cL_plans 267 = .ok (.if_icmp .ne 18, 3) := by decide +kernel
theorem dL_plans_270 : decode cL_plans 270 = .ok (.aload_n 0, 1) := by decide +kernel
theorem dL_plans_271 : decode cL_plans 271 = .ok (.iload 9, 2) := by decide +kernel
theorem dL_plans_273 : decode cL_plans 273 = .ok (.bipush 12, 2) := by decide +kernel
theorem dL_plans_275 : decode cL_plans 275 = .ok (.invokevirtual 42, 3) := by decide +kernel
theorem dL_plans_278 : decode cL_plans 278 = .ok (.iload 6, 2) := by decide +kernel
theorem dL_plans_280 : decode cL_plans 280 = .ok (.if_icmp .eq 5, 3) := by decide +kernel
theorem dL_plans_283 : decode cL_plans 283 = .ok (.iconst 0, 1) := by decide +kernel
theorem dL_plans_284 : decode cL_plans 284 = .ok (.ireturn, 1) := by decide +kernel
theorem dL_plans_285 : decode cL_plans 285 = .ok (.iinc 9 1, 3) := by decide +kernel
theorem dL_plans_288 : decode cL_plans 288 = .ok (.goto (-39), 3) := by decide +kernel
theorem dL_plans_291 : decode cL_plans 291 = .ok (.iinc 6 1, 3) := by decide +kernel
theorem dL_plans_294 : decode cL_plans 294 = .ok (.goto (-108), 3) := by decide +kernel
theorem dL_plans_297 : decode cL_plans 297 = .ok (.iload 5, 2) := by decide +kernel
theorem dL_plans_299 : decode cL_plans 299 = .ok (.ifCond .ne 59, 3) := by decide +kernel
theorem dL_plans_302 : decode cL_plans 302 = .ok (.iload 4, 2) := by decide +kernel
theorem dL_plans_304 : decode cL_plans 304 = .ok (.iconst 1, 1) := by decide +kernel
theorem dL_plans_305 : decode cL_plans 305 = .ok (.if_icmp .lt 53, 3) := by decide +kernel
theorem dL_plans_308 : decode cL_plans 308 = .ok (.iload 4, 2) := by decide +kernel
theorem dL_plans_310 : decode cL_plans 310 = .ok (.aload_n 0, 1) := by decide +kernel
theorem dL_plans_311 : decode cL_plans 311 = .ok (.iconst 0, 1) := by decide +kernel
theorem dL_plans_312 : decode cL_plans 312 = .ok (.invokevirtual 39, 3) := by decide +kernel
theorem dL_plans_315 : decode cL_plans 315 = .ok (.if_icmp .gt 43, 3) := by decide +kernel
theorem dL_plans_318 : decode cL_plans 318 = .ok (.aload_n 0, 1) := by decide +kernel
theorem dL_plans_319 : decode cL_plans 319 = .ok (.iload 4, 2) := by decide +kernel
theorem dL_plans_321 : decode cL_plans 321 = .ok (.invokevirtual 69, 3) := by decide +kernel
theorem dL_plans_324 : decode cL_plans 324 = .ok (.bipush (-9), 2) := by decide +kernel
theorem dL_plans_326 : decode cL_plans 326 = .ok (.if_icmp .ne 32, 3) := by decide +kernel
theorem dL_plans_329 : decode cL_plans 329 = .ok (.aload_n 0, 1) := by decide +kernel
theorem dL_plans_330 : decode cL_plans 330 = .ok (.iload_n 2, 1) := by decide +kernel
theorem dL_plans_331 : decode cL_plans 331 = .ok (.iconst 1, 1) := by decide +kernel
theorem dL_plans_332 : decode cL_plans 332 = .ok (.iadd, 1) := by decide +kernel
theorem dL_plans_333 : decode cL_plans 333 = .ok (.invokevirtual 62, 3) := by decide +kernel
theorem dL_plans_336 : decode cL_plans 336 = .ok (.iconst (-1), 1) := by decide +kernel
theorem dL_plans_337 : decode cL_plans 337 = .ok (.if_icmp .ne 21, 3) := by decide +kernel
theorem dL_plans_340 : decode cL_plans 340 = .ok (.aload_n 0, 1) := by decide +kernel
theorem dL_plans_341 : decode cL_plans 341 = .ok (.iload_n 2, 1) := by decide +kernel
theorem dL_plans_342 : decode cL_plans 342 = .ok (.invokevirtual 62, 3) := by decide +kernel
theorem dL_plans_345 : decode cL_plans 345 = .ok (.ifCond .eq 9, 3) := by decide +kernel
theorem dL_plans_348 : decode cL_plans 348 = .ok (.iload 4, 2) := by decide +kernel
theorem dL_plans_350 : decode cL_plans 350 = .ok (.iconst 1, 1) := by decide +kernel
theorem dL_plans_351 : decode cL_plans 351 = .ok (.if_icmp .ne 7, 3) := by decide +kernel
theorem dL_plans_354 : decode cL_plans 354 = .ok (.iconst 1, 1) := by decide +kernel
theorem dL_plans_355 : decode cL_plans 355 = .ok (.goto 4, 3) := by decide +kernel
theorem dL_plans_358 : decode cL_plans 358 = .ok (.iconst 0, 1) := by decide +kernel
theorem dL_plans_359 : decode cL_plans 359 = .ok (.ireturn, 1) := by decide +kernel
theorem dL_tests_0 : decode cL_tests 0 = .ok (.iconst 1, 1) := by decide +kernel
theorem dL_tests_1 : decode cL_tests 1 = .ok (.aload_n 0, 1) := by decide +kernel
theorem dL_tests_2 : decode cL_tests 2 = .ok (.iconst 0, 1) := by decide +kernel
theorem dL_tests_3 : decode cL_tests 3 = .ok (.invokevirtual 39, 3) := by decide +kernel
theorem dL_tests_6 : decode cL_tests 6 = .ok (.ishl, 1) := by decide +kernel
theorem dL_tests_7 : decode cL_tests 7 = .ok (.iconst 1, 1) := by decide +kernel
theorem dL_tests_8 : decode cL_tests 8 = .ok (.isub, 1) := by decide +kernel
theorem dL_tests_9 : decode cL_tests 9 = .ok (.istore_n 2, 1) := by decide +kernel
theorem dL_tests_10 : decode cL_tests 10 = .ok (.iconst 1, 1) := by decide +kernel
theorem dL_tests_11 : decode cL_tests 11 = .ok (.aload_n 1, 1) := by decide +kernel
theorem dL_tests_12 : decode cL_tests 12 = .ok (.bipush 42, 2) := by decide +kernel
theorem dL_tests_14 : decode cL_tests 14 = .ok (.invokestatic 9, 3) := by decide +kernel
theorem dL_tests_17 : decode cL_tests 17 = .ok (.iload_n 2, 1) := by decide +kernel
theorem dL_tests_18 : decode cL_tests 18 = .ok (.irem, 1) := by decide +kernel
theorem dL_tests_19 : decode cL_tests 19 = .ok (.iadd, 1) := by decide +kernel
theorem dL_tests_20 : decode cL_tests 20 = .ok (.istore_n 3, 1) := by decide +kernel
theorem dL_tests_21 : decode cL_tests 21 = .ok (.aload_n 0, 1) := by decide +kernel
theorem dL_tests_22 : decode cL_tests 22 = .ok (.iload_n 3, 1) := by decide +kernel
theorem dL_tests_23 : decode cL_tests 23 = .ok (.invokevirtual 62, 3) := by decide +kernel
theorem dL_tests_26 : decode cL_tests 26 = .ok (.istore 4, 2) := by decide +kernel
theorem dL_tests_28 : decode cL_tests 28 = .ok (.bipush 24, 2) := by decide +kernel
theorem dL_tests_30 : decode cL_tests 30 = .ok (.newarray .int, 2) := by decide +kernel
theorem dL_tests_32 : decode cL_tests 32 = .ok (.astore 5, 2) := by decide +kernel
theorem dL_tests_34 : decode cL_tests 34 = .ok (.iconst 0, 1) := by decide +kernel
theorem dL_tests_35 : decode cL_tests 35 = .ok (.istore 6, 2) := by decide +kernel
theorem dL_tests_37 : decode cL_tests 37 = .ok (.iconst 0, 1) := by decide +kernel
theorem dL_tests_38 : decode cL_tests 38 = .ok (.istore 7, 2) := by decide +kernel
theorem dL_tests_40 : decode cL_tests 40 = .ok (.iload 7, 2) := by decide +kernel
theorem dL_tests_42 : decode cL_tests 42 = .ok (.aload_n 0, 1) := by decide +kernel
theorem dL_tests_43 : decode cL_tests 43 = .ok (.iconst 0, 1) := by decide +kernel
theorem dL_tests_44 : decode cL_tests 44 = .ok (.invokevirtual 39, 3) := by decide +kernel
theorem dL_tests_47 : decode cL_tests 47 = .ok (.if_icmp .ge 98, 3) := by decide +kernel
theorem dL_tests_50 : decode cL_tests 50 = .ok (.aload 5, 2) := by decide +kernel
theorem dL_tests_52 : decode cL_tests 52 = .ok (.iconst 3, 1) := by decide +kernel
theorem dL_tests_53 : decode cL_tests 53 = .ok (.iload 7, 2) := by decide +kernel
theorem dL_tests_55 : decode cL_tests 55 = .ok (.imul, 1) := by decide +kernel
theorem dL_tests_56 : decode cL_tests 56 = .ok (.aload_n 0, 1) := by decide +kernel
theorem dL_tests_57 : decode cL_tests 57 = .ok (.iload 7, 2) := by decide +kernel
theorem dL_tests_59 : decode cL_tests 59 = .ok (.bipush 9, 2) := by decide +kernel
theorem dL_tests_61 : decode cL_tests 61 = .ok (.invokevirtual 42, 3) := by decide +kernel
theorem dL_tests_64 : decode cL_tests 64 = .ok (.iastore, 1) := by decide +kernel
theorem dL_tests_65 : decode cL_tests 65 = .ok (.aload 5, 2) := by decide +kernel
theorem dL_tests_67 : decode cL_tests 67 = .ok (.iconst 3, 1) := by decide +kernel
theorem dL_tests_68 : decode cL_tests 68 = .ok (.iload 7, 2) := by decide +kernel
theorem dL_tests_70 : decode cL_tests 70 = .ok (.imul, 1) := by decide +kernel
theorem dL_tests_71 : decode cL_tests 71 = .ok (.iconst 1, 1) := by decide +kernel
theorem dL_tests_72 : decode cL_tests 72 = .ok (.iadd, 1) := by decide +kernel
theorem dL_tests_73 : decode cL_tests 73 = .ok (.aload_n 0, 1) := by decide +kernel
theorem dL_tests_74 : decode cL_tests 74 = .ok (.iload 7, 2) := by decide +kernel
theorem dL_tests_76 : decode cL_tests 76 = .ok (.bipush 7, 2) := by decide +kernel
theorem dL_tests_78 : decode cL_tests 78 = .ok (.invokevirtual 42, 3) := by decide +kernel
theorem dL_tests_81 : decode cL_tests 81 = .ok (.iastore, 1) := by decide +kernel
theorem dL_tests_82 : decode cL_tests 82 = .ok (.aload 5, 2) := by decide +kernel
theorem dL_tests_84 : decode cL_tests 84 = .ok (.iconst 3, 1) := by decide +kernel
theorem dL_tests_85 : decode cL_tests 85 = .ok (.iload 7, 2) := by decide +kernel
theorem dL_tests_87 : decode cL_tests 87 = .ok (.imul, 1) := by decide +kernel
theorem dL_tests_88 : decode cL_tests 88 = .ok (.iconst 2, 1) := by decide +kernel
theorem dL_tests_89 : decode cL_tests 89 = .ok (.iadd, 1) := by decide +kernel
theorem dL_tests_90 : decode cL_tests 90 = .ok (.aload_n 0, 1) := by decide +kernel
theorem dL_tests_91 : decode cL_tests 91 = .ok (.iload 7, 2) := by decide +kernel
theorem dL_tests_93 : decode cL_tests 93 = .ok (.bipush 8, 2) := by decide +kernel
theorem dL_tests_95 : decode cL_tests 95 = .ok (.invokevirtual 42, 3) := by decide +kernel
theorem dL_tests_98 : decode cL_tests 98 = .ok (.iastore, 1) := by decide +kernel
theorem dL_tests_99 : decode cL_tests 99 = .ok (.iload 6, 2) := by decide +kernel
theorem dL_tests_101 : decode cL_tests 101 = .ok (.iload_n 3, 1) := by decide +kernel
theorem dL_tests_102 : decode cL_tests 102 = .ok (.iload 7, 2) := by decide +kernel
theorem dL_tests_104 : decode cL_tests 104 = .ok (.ishr, 1) := by decide +kernel
theorem dL_tests_105 : decode cL_tests 105 = .ok (.iconst 1, 1) := by decide +kernel
theorem dL_tests_106 : decode cL_tests 106 = .ok (.iand, 1) := by decide +kernel
theorem dL_tests_107 : decode cL_tests 107 = .ok (.iconst 1, 1) := by decide +kernel
theorem dL_tests_108 : decode cL_tests 108 = .ok (.if_icmp .ne 27, 3) := by decide +kernel
theorem dL_tests_111 : decode cL_tests 111 = .ok (.aload 5, 2) := by decide +kernel
theorem dL_tests_113 : decode cL_tests 113 = .ok (.iconst 3, 1) := by decide +kernel
theorem dL_tests_114 : decode cL_tests 114 = .ok (.iload 7, 2) := by decide +kernel
theorem dL_tests_116 : decode cL_tests 116 = .ok (.imul, 1) := by decide +kernel
theorem dL_tests_117 : decode cL_tests 117 = .ok (.iaload, 1) := by decide +kernel
theorem dL_tests_118 : decode cL_tests 118 = .ok (.aload_n 0, 1) := by decide +kernel
theorem dL_tests_119 : decode cL_tests 119 = .ok (.iload 7, 2) := by decide +kernel
theorem dL_tests_121 : decode cL_tests 121 = .ok (.iconst 2, 1) := by decide +kernel
theorem dL_tests_122 : decode cL_tests 122 = .ok (.invokevirtual 42, 3) := by decide +kernel
theorem dL_tests_125 : decode cL_tests 125 = .ok (.invokestatic 45, 3) := by decide +kernel
theorem dL_tests_128 : decode cL_tests 128 = .ok (.if_icmp .lt 7, 3) := by decide +kernel
theorem dL_tests_131 : decode cL_tests 131 = .ok (.iconst 1, 1) := by decide +kernel
theorem dL_tests_132 : decode cL_tests 132 = .ok (.goto 4, 3) := by decide +kernel
theorem dL_tests_135 : decode cL_tests 135 = .ok (.iconst 0, 1) := by decide +kernel
theorem dL_tests_136 : decode cL_tests 136 = .ok (.iadd, 1) := by decide +kernel
theorem dL_tests_137 : decode cL_tests 137 = .ok (.istore 6, 2) := by decide +kernel
theorem dL_tests_139 : decode cL_tests 139 = .ok (.iinc 7 1, 3) := by decide +kernel
theorem dL_tests_142 : decode cL_tests 142 = .ok (.goto (-102), 3) := by decide +kernel
theorem dL_tests_145 : decode cL_tests 145 = .ok (.aload_n 0, 1) := by decide +kernel
theorem dL_tests_146 : decode cL_tests 146 = .ok (.bipush 10, 2) := by decide +kernel
theorem dL_tests_148 : decode cL_tests 148 = .ok (.invokevirtual 39, 3) := by decide +kernel
theorem dL_tests_151 : decode cL_tests 151 = .ok (.istore 7, 2) := by decide +kernel
theorem dL_tests_153 : decode cL_tests 153 = .ok (.aload_n 0, 1) := by decide +kernel
theorem dL_tests_154 : decode cL_tests 154 = .ok (.iload_n 3, 1) := by decide +kernel
theorem dL_tests_155 : decode cL_tests 155 = .ok (.iconst 0, 1) := by decide +kernel
theorem dL_tests_156 : decode cL_tests 156 = .ok (.invokevirtual 36, 3) := by decide +kernel
theorem dL_tests_159 : decode cL_tests 159 = .ok (.istore 8, 2) := by decide +kernel
theorem dL_tests_161 : decode cL_tests 161 = .ok (.iload 4, 2) := by decide +kernel
theorem dL_tests_163 : decode cL_tests 163 = .ok (.ifCond .ne 27, 3) := by decide +kernel
theorem dL_tests_166 : decode cL_tests 166 = .ok (.iload 8, 2) := by decide +kernel
theorem dL_tests_168 : decode cL_tests 168 = .ok (.bipush (-2), 2) := by decide +kernel
theorem dL_tests_170 : decode cL_tests 170 = .ok (.if_icmp .ne 18, 3) := by decide +kernel
theorem dL_tests_173 : decode cL_tests 173 = .ok (.aload_n 0, 1) := by decide +kernel
theorem dL_tests_174 : decode cL_tests 174 = .ok (.bipush 10, 2) := by decide +kernel
theorem dL_tests_176 : decode cL_tests 176 = .ok (.invokevirtual 39, 3) := by decide +kernel
theorem dL_tests_179 : decode cL_tests 179 = .ok (.iload 7, 2) := by decide +kernel
theorem dL_tests_181 : decode cL_tests 181 = .ok (.if_icmp .ne 7, 3) := by decide +kernel
theorem dL_tests_184 : decode cL_tests 184 = .ok (.iconst 1, 1) := by decide +kernel
theorem dL_tests_185 : decode cL_tests 185 = .ok (.goto 4, 3) := by decide +kernel
theorem dL_tests_188 : decode cL_tests 188 = .ok (.iconst 0, 1) := by decide +kernel
theorem dL_tests_189 : decode cL_tests 189 = .ok (.ireturn, 1) := by decide +kernel
theorem dL_tests_190 : decode cL_tests 190 = .ok (.iload 8, 2) := by decide +kernel
theorem dL_tests_192 : decode cL_tests 192 = .ok (.iload 6, 2) := by decide +kernel
theorem dL_tests_194 : decode cL_tests 194 = .ok (.if_icmp .ne 21, 3) := by decide +kernel
theorem dL_tests_197 : decode cL_tests 197 = .ok (.aload_n 0, 1) := by decide +kernel
theorem dL_tests_198 : decode cL_tests 198 = .ok (.bipush 10, 2) := by decide +kernel
theorem dL_tests_200 : decode cL_tests 200 = .ok (.invokevirtual 39, 3) := by decide +kernel
theorem dL_tests_203 : decode cL_tests 203 = .ok (.iload 7, 2) := by decide +kernel
theorem dL_tests_205 : decode cL_tests 205 = .ok (.iload 6, 2) := by decide +kernel
theorem dL_tests_207 : decode cL_tests 207 = .ok (.iadd, 1) := by decide +kernel
theorem dL_tests_208 : decode cL_tests 208 = .ok (.if_icmp .ne 7, 3) := by decide +kernel
theorem dL_tests_211 : decode cL_tests 211 = .ok (.iconst 1, 1) := by decide +kernel
theorem dL_tests_212 : decode cL_tests 212 = .ok (.goto 4, 3) := by decide +kernel
theorem dL_tests_215 : decode cL_tests 215 = .ok (.iconst 0, 1) := by decide +kernel
theorem dL_tests_216 : decode cL_tests 216 = .ok (.istore 9, 2) := by decide +kernel
theorem dL_tests_218 : decode cL_tests 218 = .ok (.iconst 0, 1) := by decide +kernel
theorem dL_tests_219 : decode cL_tests 219 = .ok (.istore 10, 2) := by decide +kernel
theorem dL_tests_221 : decode cL_tests 221 = .ok (.iload 10, 2) := by decide +kernel
theorem dL_tests_223 : decode cL_tests 223 = .ok (.aload_n 0, 1) := by decide +kernel
theorem dL_tests_224 : decode cL_tests 224 = .ok (.iconst 0, 1) := by decide +kernel
theorem dL_tests_225 : decode cL_tests 225 = .ok (.invokevirtual 39, 3) := by decide +kernel
theorem dL_tests_228 : decode cL_tests 228 = .ok (.if_icmp .ge 190, 3) := by decide +kernel
theorem dL_tests_231 : decode cL_tests 231 = .ok (.iload_n 3, 1) := by decide +kernel
theorem dL_tests_232 : decode cL_tests 232 = .ok (.iload 10, 2) := by decide +kernel
theorem dL_tests_234 : decode cL_tests 234 = .ok (.ishr, 1) := by decide +kernel
theorem dL_tests_235 : decode cL_tests 235 = .ok (.iconst 1, 1) := by decide +kernel
theorem dL_tests_236 : decode cL_tests 236 = .ok (.iand, 1) := by decide +kernel
theorem dL_tests_237 : decode cL_tests 237 = .ok (.iconst 1, 1) := by decide +kernel
theorem dL_tests_238 : decode cL_tests 238 = .ok (.if_icmp .ne 7, 3) := by decide +kernel
theorem dL_tests_241 : decode cL_tests 241 = .ok (.iconst 1, 1) := by decide +kernel
theorem dL_tests_242 : decode cL_tests 242 = .ok (.goto 4, 3) := by decide +kernel
theorem dL_tests_245 : decode cL_tests 245 = .ok (.iconst 0, 1) := by decide +kernel
theorem dL_tests_246 : decode cL_tests 246 = .ok (.istore 11, 2) := by decide +kernel
theorem dL_tests_248 : decode cL_tests 248 = .ok (.iload 11, 2) := by decide +kernel
theorem dL_tests_250 : decode cL_tests 250 = .ok (.ifCond .eq 46, 3) := by decide +kernel
theorem dL_tests_253 : decode cL_tests 253 = .ok (.aload 5, 2) := by decide +kernel
theorem dL_tests_255 : decode cL_tests 255 = .ok (.iconst 3, 1) := by decide +kernel
theorem dL_tests_256 : decode cL_tests 256 = .ok (.iload 10, 2) := by decide +kernel
theorem dL_tests_258 : decode cL_tests 258 = .ok (.imul, 1) := by decide +kernel
theorem dL_tests_259 : decode cL_tests 259 = .ok (.iaload, 1) := by decide +kernel
theorem dL_tests_260 : decode cL_tests 260 = .ok (.aload_n 0, 1) := by decide +kernel
theorem dL_tests_261 : decode cL_tests 261 = .ok (.iload 10, 2) := by decide +kernel
theorem dL_tests_263 : decode cL_tests 263 = .ok (.iconst 2, 1) := by decide +kernel
theorem dL_tests_264 : decode cL_tests 264 = .ok (.invokevirtual 42, 3) := by decide +kernel
theorem dL_tests_267 : decode cL_tests 267 = .ok (.invokestatic 45, 3) := by decide +kernel
theorem dL_tests_270 : decode cL_tests 270 = .ok (.if_icmp .ge 13, 3) := by decide +kernel
theorem dL_tests_273 : decode cL_tests 273 = .ok (.aload 5, 2) := by decide +kernel
theorem dL_tests_275 : decode cL_tests 275 = .ok (.iconst 3, 1) := by decide +kernel
theorem dL_tests_276 : decode cL_tests 276 = .ok (.iload 10, 2) := by decide +kernel
theorem dL_tests_278 : decode cL_tests 278 = .ok (.imul, 1) := by decide +kernel
theorem dL_tests_279 : decode cL_tests 279 = .ok (.iaload, 1) := by decide +kernel
theorem dL_tests_280 : decode cL_tests 280 = .ok (.goto 17, 3) := by decide +kernel
theorem dL_tests_283 : decode cL_tests 283 = .ok (.aload_n 0, 1) := by decide +kernel
theorem dL_tests_284 : decode cL_tests 284 = .ok (.iload 10, 2) := by decide +kernel
theorem dL_tests_286 : decode cL_tests 286 = .ok (.iconst 2, 1) := by decide +kernel
theorem dL_tests_287 : decode cL_tests 287 = .ok (.invokevirtual 42, 3) := by decide +kernel
theorem dL_tests_290 : decode cL_tests 290 = .ok (.invokestatic 45, 3) := by decide +kernel
theorem dL_tests_293 : decode cL_tests 293 = .ok (.goto 4, 3) := by decide +kernel
theorem dL_tests_296 : decode cL_tests 296 = .ok (.iconst 0, 1) := by decide +kernel
theorem dL_tests_297 : decode cL_tests 297 = .ok (.istore 12, 2) := by decide +kernel
theorem dL_tests_299 : decode cL_tests 299 = .ok (.aload 5, 2) := by decide +kernel
theorem dL_tests_301 : decode cL_tests 301 = .ok (.iconst 3, 1) := by decide +kernel
theorem dL_tests_302 : decode cL_tests 302 = .ok (.iload 10, 2) := by decide +kernel
theorem dL_tests_304 : decode cL_tests 304 = .ok (.imul, 1) := by decide +kernel
theorem dL_tests_305 : decode cL_tests 305 = .ok (.iconst 1, 1) := by decide +kernel
theorem dL_tests_306 : decode cL_tests 306 = .ok (.iadd, 1) := by decide +kernel
theorem dL_tests_307 : decode cL_tests 307 = .ok (.iaload, 1) := by decide +kernel
theorem dL_tests_308 : decode cL_tests 308 = .ok (.bipush 24, 2) := by decide +kernel
theorem dL_tests_310 : decode cL_tests 310 = .ok (.iload 12, 2) := by decide +kernel
theorem dL_tests_312 : decode cL_tests 312 = .ok (.imul, 1) := by decide +kernel
theorem dL_tests_313 : decode cL_tests 313 = .ok (.isub, 1) := by decide +kernel
theorem dL_tests_314 : decode cL_tests 314 = .ok (.istore 13, 2) := by decide +kernel
theorem dL_tests_316 : decode cL_tests 316 = .ok (.iload 9, 2) := by decide +kernel
theorem dL_tests_318 : decode cL_tests 318 = .ok (.ifCond .eq 91, 3) := by decide +kernel
theorem dL_tests_321 : decode cL_tests 321 = .ok (.iload 11, 2) := by decide +kernel
theorem dL_tests_323 : decode cL_tests 323 = .ok (.ifCond .eq 16, 3) := by decide +kernel
theorem dL_tests_326 : decode cL_tests 326 = .ok (.aload_n 0, 1) := by decide +kernel
theorem dL_tests_327 : decode cL_tests 327 = .ok (.iload 10, 2) := by decide +kernel
theorem dL_tests_329 : decode cL_tests 329 = .ok (.bipush 11, 2) := by decide +kernel
theorem dL_tests_331 : decode cL_tests 331 = .ok (.invokevirtual 42, 3) := by decide +kernel
theorem dL_tests_334 : decode cL_tests 334 = .ok (.iload 12, 2) := by decide +kernel
theorem dL_tests_336 : decode cL_tests 336 = .ok (.if_icmp .ne 73, 3) := by decide +kernel
theorem dL_tests_339 : decode cL_tests 339 = .ok (.aload_n 0, 1) := by decide +kernel
theorem dL_tests_340 : decode cL_tests 340 = .ok (.iload 10, 2) := by decide +kernel
theorem dL_tests_342 : decode cL_tests 342 = .ok (.bipush 8, 2) := by decide +kernel
theorem dL_tests_344 : decode cL_tests 344 = .ok (.invokevirtual 42, 3) := by decide +kernel
theorem dL_tests_347 : decode cL_tests 347 = .ok (.aload 5, 2) := by decide +kernel
theorem dL_tests_349 : decode cL_tests 349 = .ok (.iconst 3, 1) := by decide +kernel
theorem dL_tests_350 : decode cL_tests 350 = .ok (.iload 10, 2) := by decide +kernel
theorem dL_tests_352 : decode cL_tests 352 = .ok (.imul, 1) := by decide +kernel
theorem dL_tests_353 : decode cL_tests 353 = .ok (.iconst 2, 1) := by decide +kernel
theorem dL_tests_354 : decode cL_tests 354 = .ok (.iadd, 1) := by decide +kernel
theorem dL_tests_355 : decode cL_tests 355 = .ok (.iaload, 1) := by decide +kernel
theorem dL_tests_356 : decode cL_tests 356 = .ok (.iload 12, 2) := by decide +kernel
theorem dL_tests_358 : decode cL_tests 358 = .ok (.isub, 1) := by decide +kernel
theorem dL_tests_359 : decode cL_tests 359 = .ok (.if_icmp .ne 50, 3) := by decide +kernel
theorem dL_tests_362 : decode cL_tests 362 = .ok (.aload_n 0, 1) := by decide +kernel
theorem dL_tests_363 : decode cL_tests 363 = .ok (.iload 10, 2) := by decide +kernel
theorem dL_tests_365 : decode cL_tests 365 = .ok (.bipush 7, 2) := by decide +kernel
theorem dL_tests_367 : decode cL_tests 367 = .ok (.invokevirtual 42, 3) := by decide +kernel
theorem dL_tests_370 : decode cL_tests 370 = .ok (.iload 13, 2) := by decide +kernel
theorem dL_tests_372 : decode cL_tests 372 = .ok (.bipush 24, 2) := by decide +kernel
theorem dL_tests_374 : decode cL_tests 374 = .ok (.aload_n 0, 1) := by decide +kernel
theorem dL_tests_375 : decode cL_tests 375 = .ok (.iload 10, 2) := by decide +kernel
theorem dL_tests_377 : decode cL_tests 377 = .ok (.bipush 6, 2) := by decide +kernel
theorem dL_tests_379 : decode cL_tests 379 = .ok (.invokevirtual 42, 3) := by decide +kernel
theorem dL_tests_382 : decode cL_tests 382 = .ok (.imul, 1) := by decide +kernel
theorem dL_tests_383 : decode cL_tests 383 = .ok (.if_icmp .ge 8, 3) := by decide +kernel
theorem dL_tests_386 : decode cL_tests 386 = .ok (.iload 13, 2) := by decide +kernel
theorem dL_tests_388 : decode cL_tests 388 = .ok (.goto 14, 3) := by decide +kernel
theorem dL_tests_391 : decode cL_tests 391 = .ok (.bipush 24, 2) := by decide +kernel
theorem dL_tests_393 : decode cL_tests 393 = .ok (.aload_n 0, 1) := by decide +kernel
theorem dL_tests_394 : decode cL_tests 394 = .ok (.iload 10, 2) := by decide +kernel
theorem dL_tests_396 : decode cL_tests 396 = .ok (.bipush 6, 2) := by decide +kernel
theorem dL_tests_398 : decode cL_tests 398 = .ok (.invokevirtual 42, 3) := by decide +kernel
theorem dL_tests_401 : decode cL_tests 401 = .ok (.imul, 1) := by decide +kernel
theorem dL_tests_402 : decode cL_tests 402 = .ok (.if_icmp .ne 7, 3) := by decide +kernel
theorem dL_tests_405 : decode cL_tests 405 = .ok (.iconst 1, 1) := by decide +kernel
theorem dL_tests_406 : decode cL_tests 406 = .ok (.goto 4, 3) := by decide +kernel
theorem dL_tests_409 : decode cL_tests 409 = .ok (.iconst 0, 1) := by decide +kernel
theorem dL_tests_410 : decode cL_tests 410 = .ok (.istore 9, 2) := by decide +kernel
theorem dL_tests_412 : decode cL_tests 412 = .ok (.iinc 10 1, 3) := by decide +kernel
theorem dL_tests_415 : decode cL_tests 415 = .ok (.goto (-194), 3) := by decide +kernel
theorem dL_tests_418 : decode cL_tests 418 = .ok (.iload 9, 2) := by decide +kernel
theorem dL_tests_420 : decode cL_tests 420 = .ok (.ifCond .eq 39, 3) := by decide +kernel
theorem dL_tests_423 : decode cL_tests 423 = .ok (.aload_n 0, 1) := by decide +kernel
theorem dL_tests_424 : decode cL_tests 424 = .ok (.invokevirtual 75, 3) := by decide +kernel
theorem dL_tests_427 : decode cL_tests 427 = .ok (.ifCond .lt 32, 3) := by decide +kernel
theorem dL_tests_430 : decode cL_tests 430 = .ok (.aload_n 0, 1) := by decide +kernel
theorem dL_tests_431 : decode cL_tests 431 = .ok (.bipush 10, 2) := by decide +kernel
theorem dL_tests_433 : decode cL_tests 433 = .ok (.invokevirtual 39, 3) := by decide +kernel
theorem dL_tests_436 : decode cL_tests 436 = .ok (.iload 7, 2) := by decide +kernel
theorem dL_tests_438 : decode cL_tests 438 = .ok (.if_icmp .ne 21, 3) := by decide +kernel
theorem dL_tests_441 : decode cL_tests 441 = .ok (.aload_n 0, 1) := by decide +kernel
theorem dL_tests_442 : decode cL_tests 442 = .ok (.iconst 0, 1) := by decide +kernel
theorem dL_tests_443 : decode cL_tests 443 = .ok (.bipush 7, 2) := by decide +kernel
theorem dL_tests_445 : decode cL_tests 445 = .ok (.invokevirtual 42, 3) := by decide +kernel
theorem dL_tests_448 : decode cL_tests 448 = .ok (.aload 5, 2) := by decide +kernel
theorem dL_tests_450 : decode cL_tests 450 = .ok (.iconst 1, 1) := by decide +kernel
theorem dL_tests_451 : decode cL_tests 451 = .ok (.iaload, 1) := by decide +kernel
theorem dL_tests_452 : decode cL_tests 452 = .ok (.if_icmp .ne 7, 3) := by decide +kernel
theorem dL_tests_455 : decode cL_tests 455 = .ok (.iconst 1, 1) := by decide +kernel
theorem dL_tests_456 : decode cL_tests 456 = .ok (.goto 4, 3) := by decide +kernel
theorem dL_tests_459 : decode cL_tests 459 = .ok (.iconst 0, 1) := by decide +kernel
theorem dL_tests_460 : decode cL_tests 460 = .ok (.ireturn, 1) := by decide +kernel
theorem dL_would_0 : decode cL_would 0 = .ok (.aload_n 1, 1) := by decide +kernel
theorem dL_would_1 : decode cL_would 1 = .ok (.bipush 43, 2) := by decide +kernel
theorem dL_would_3 : decode cL_would 3 = .ok (.invokestatic 9, 3) := by decide +kernel
theorem dL_would_6 : decode cL_would 6 = .ok (.aload_n 0, 1) := by decide +kernel
theorem dL_would_7 : decode cL_would 7 = .ok (.iconst 0, 1) := by decide +kernel
theorem dL_would_8 : decode cL_would 8 = .ok (.invokevirtual 39, 3) := by decide +kernel
theorem dL_would_11 : decode cL_would 11 = .ok (.irem, 1) := by decide +kernel
theorem dL_would_12 : decode cL_would 12 = .ok (.istore_n 2, 1) := by decide +kernel
theorem dL_would_13 : decode cL_would 13 = .ok (.aload_n 1, 1) := by decide +kernel
theorem dL_would_14 : decode cL_would 14 = .ok (.bipush 44, 2) := by decide +kernel
theorem dL_would_16 : decode cL_would 16 = .ok (.invokestatic 9, 3) := by decide +kernel
theorem dL_would_19 : decode cL_would 19 = .ok (.iconst 3, 1) := by decide +kernel
theorem dL_would_20 : decode cL_would 20 = .ok (.irem, 1) := by decide +kernel
theorem dL_would_21 : decode cL_would 21 = .ok (.istore_n 3, 1) := by decide +kernel
theorem dL_would_22 : decode cL_would 22 = .ok (.aload_n 0, 1) := by decide +kernel
theorem dL_would_23 : decode cL_would 23 = .ok (.iload_n 2, 1) := by decide +kernel
theorem dL_would_24 : decode cL_would 24 = .ok (.iload_n 3, 1) := by decide +kernel
theorem dL_would_25 : decode cL_would 25 = .ok (.invokevirtual 78, 3) := by decide +kernel
theorem dL_would_28 : decode cL_would 28 = .ok (.istore 4, 2) := by decide +kernel
theorem dL_would_30 : decode cL_would 30 = .ok (.aload_n 0, 1) := by decide +kernel
theorem dL_would_31 : decode cL_would 31 = .ok (.iload_n 3, 1) := by decide +kernel
theorem dL_would_32 : decode cL_would 32 = .ok (.invokevirtual 81, 3) := by decide +kernel
theorem dL_would_35 : decode cL_would 35 = .ok (.istore 5, 2) := by decide +kernel
theorem dL_would_37 : decode cL_would 37 = .ok (.aload_n 0, 1) := by decide +kernel
theorem dL_would_38 : decode cL_would 38 = .ok (.iload 5, 2) := by decide +kernel
theorem dL_would_40 : decode cL_would 40 = .ok (.iload_n 3, 1) := by decide +kernel
theorem dL_would_41 : decode cL_would 41 = .ok (.invokevirtual 78, 3) := by decide +kernel
theorem dL_would_44 : decode cL_would 44 = .ok (.istore 6, 2) := by decide +kernel
theorem dL_would_46 : decode cL_would 46 = .ok (.iload 4, 2) := by decide +kernel
theorem dL_would_48 : decode cL_would 48 = .ok (.ifCond .lt 7, 3) := by decide +kernel
theorem dL_would_51 : decode cL_would 51 = .ok (.iconst 1, 1) := by decide +kernel
theorem dL_would_52 : decode cL_would 52 = .ok (.goto 4, 3) := by decide +kernel
theorem dL_would_55 : decode cL_would 55 = .ok (.iconst 0, 1) := by decide +kernel
theorem dL_would_56 : decode cL_would 56 = .ok (.iload 4, 2) := by decide +kernel
theorem dL_would_58 : decode cL_would 58 = .ok (.bipush (-9), 2) := by decide +kernel
theorem dL_would_60 : decode cL_would 60 = .ok (.if_icmp .eq 7, 3) := by decide +kernel
theorem dL_would_63 : decode cL_would 63 = .ok (.iconst 1, 1) := by decide +kernel
theorem dL_would_64 : decode cL_would 64 = .ok (.goto 4, 3) := by decide +kernel
theorem dL_would_67 : decode cL_would 67 = .ok (.iconst 0, 1) := by decide +kernel
theorem dL_would_68 : decode cL_would 68 = .ok (.if_icmp .ne 38, 3) := by decide +kernel
theorem dL_would_71 : decode cL_would 71 = .ok (.iload 6, 2) := by decide +kernel
theorem dL_would_73 : decode cL_would 73 = .ok (.bipush (-9), 2) := by decide +kernel
theorem dL_would_75 : decode cL_would 75 = .ok (.if_icmp .ne 13, 3) := by decide +kernel
theorem dL_would_78 : decode cL_would 78 = .ok (.iload 4, 2) := by decide +kernel
theorem dL_would_80 : decode cL_would 80 = .ok (.bipush (-9), 2) := by decide +kernel
theorem dL_would_82 : decode cL_would 82 = .ok (.if_icmp .ne 24, 3) := by decide +kernel
theorem dL_would_85 : decode cL_would 85 = .ok (.goto 17, 3) := by decide +kernel
theorem dL_would_88 : decode cL_would 88 = .ok (.iload 4, 2) := by decide +kernel
theorem dL_would_90 : decode cL_would 90 = .ok (.bipush (-9), 2) := by decide +kernel
theorem dL_would_92 : decode cL_would 92 = .ok (.if_icmp .eq 10, 3) := by decide +kernel
theorem dL_would_95 : decode cL_would 95 = .ok (.iload 6, 2) := by decide +kernel
theorem dL_would_97 : decode cL_would 97 = .ok (.iload 4, 2) := by decide +kernel
theorem dL_would_99 : decode cL_would 99 = .ok (.if_icmp .gt 7, 3) := by decide +kernel
theorem dL_would_102 : decode cL_would 102 = .ok (.iconst 1, 1) := by decide +kernel
theorem dL_would_103 : decode cL_would 103 = .ok (.goto 4, 3) := by decide +kernel
theorem dL_would_106 : decode cL_would 106 = .ok (.iconst 0, 1) := by decide +kernel
theorem dL_would_107 : decode cL_would 107 = .ok (.istore 7, 2) := by decide +kernel
theorem dL_would_109 : decode cL_would 109 = .ok (.iload 7, 2) := by decide +kernel
theorem dL_would_111 : decode cL_would 111 = .ok (.ifCond .eq 72, 3) := by decide +kernel
theorem dL_would_114 : decode cL_would 114 = .ok (.aload_n 0, 1) := by decide +kernel
theorem dL_would_115 : decode cL_would 115 = .ok (.iload_n 3, 1) := by decide +kernel
theorem dL_would_116 : decode cL_would 116 = .ok (.iconst 1, 1) := by decide +kernel
theorem dL_would_117 : decode cL_would 117 = .ok (.invokevirtual 84, 3) := by decide +kernel
theorem dL_would_120 : decode cL_would 120 = .ok (.ifCond .ne 63, 3) := by decide +kernel
theorem dL_would_123 : decode cL_would 123 = .ok (.aload_n 0, 1) := by decide +kernel
theorem dL_would_124 : decode cL_would 124 = .ok (.iload_n 2, 1) := by decide +kernel
theorem dL_would_125 : decode cL_would 125 = .ok (.iload_n 3, 1) := by decide +kernel
theorem dL_would_126 : decode cL_would 126 = .ok (.invokevirtual 87, 3) := by decide +kernel
theorem dL_would_129 : decode cL_would 129 = .ok (.ifCond .ne 54, 3) := by decide +kernel
theorem dL_would_132 : decode cL_would 132 = .ok (.aload_n 0, 1) := by decide +kernel
theorem dL_would_133 : decode cL_would 133 = .ok (.invokevirtual 65, 3) := by decide +kernel
theorem dL_would_136 : decode cL_would 136 = .ok (.iload 4, 2) := by decide +kernel
theorem dL_would_138 : decode cL_would 138 = .ok (.if_icmp .ne 45, 3) := by decide +kernel
theorem dL_would_141 : decode cL_would 141 = .ok (.aload_n 0, 1) := by decide +kernel
theorem dL_would_142 : decode cL_would 142 = .ok (.iload_n 2, 1) := by decide +kernel
theorem dL_would_143 : decode cL_would 143 = .ok (.iconst 3, 1) := by decide +kernel
theorem dL_would_144 : decode cL_would 144 = .ok (.invokevirtual 42, 3) := by decide +kernel
theorem dL_would_147 : decode cL_would 147 = .ok (.iload_n 3, 1) := by decide +kernel
theorem dL_would_148 : decode cL_would 148 = .ok (.if_icmp .ne 35, 3) := by decide +kernel
theorem dL_would_151 : decode cL_would 151 = .ok (.aload_n 0, 1) := by decide +kernel
theorem dL_would_152 : decode cL_would 152 = .ok (.iload_n 2, 1) := by decide +kernel
theorem dL_would_153 : decode cL_would 153 = .ok (.bipush 8, 2) := by decide +kernel
theorem dL_would_155 : decode cL_would 155 = .ok (.invokevirtual 42, 3) := by decide +kernel
theorem dL_would_158 : decode cL_would 158 = .ok (.sipush 3000, 3) := by decide +kernel
theorem dL_would_161 : decode cL_would 161 = .ok (.iload_n 3, 1) := by decide +kernel
theorem dL_would_162 : decode cL_would 162 = .ok (.iconst 1, 1) := by decide +kernel
theorem dL_would_163 : decode cL_would 163 = .ok (.iadd, 1) := by decide +kernel
theorem dL_would_164 : decode cL_would 164 = .ok (.imul, 1) := by decide +kernel
theorem dL_would_165 : decode cL_would 165 = .ok (.if_icmp .ne 18, 3) := by decide +kernel
theorem dL_would_168 : decode cL_would 168 = .ok (.aload_n 0, 1) := by decide +kernel
theorem dL_would_169 : decode cL_would 169 = .ok (.iload_n 2, 1) := by decide +kernel
theorem dL_would_170 : decode cL_would 170 = .ok (.iload_n 3, 1) := by decide +kernel
theorem dL_would_171 : decode cL_would 171 = .ok (.invokevirtual 87, 3) := by decide +kernel
theorem dL_would_174 : decode cL_would 174 = .ok (.bipush (-2), 2) := by decide +kernel
theorem dL_would_176 : decode cL_would 176 = .ok (.if_icmp .ne 7, 3) := by decide +kernel
theorem dL_would_179 : decode cL_would 179 = .ok (.iconst 1, 1) := by decide +kernel
theorem dL_would_180 : decode cL_would 180 = .ok (.goto 4, 3) := by decide +kernel
theorem dL_would_183 : decode cL_would 183 = .ok (.iconst 0, 1) := by decide +kernel
theorem dL_would_184 : decode cL_would 184 = .ok (.istore 7, 2) := by decide +kernel
theorem dL_would_186 : decode cL_would 186 = .ok (.iload 7, 2) := by decide +kernel
theorem dL_would_188 : decode cL_would 188 = .ok (.ifCond .eq 32, 3) := by decide +kernel
theorem dL_would_191 : decode cL_would 191 = .ok (.aload_n 0, 1) := by decide +kernel
theorem dL_would_192 : decode cL_would 192 = .ok (.invokevirtual 75, 3) := by decide +kernel
theorem dL_would_195 : decode cL_would 195 = .ok (.ifCond .lt 25, 3) := by decide +kernel
theorem dL_would_198 : decode cL_would 198 = .ok (.aload_n 0, 1) := by decide +kernel
theorem dL_would_199 : decode cL_would 199 = .ok (.invokevirtual 75, 3) := by decide +kernel
theorem dL_would_202 : decode cL_would 202 = .ok (.ifCond .lt 18, 3) := by decide +kernel
theorem dL_would_205 : decode cL_would 205 = .ok (.aload_n 0, 1) := by decide +kernel
theorem dL_would_206 : decode cL_would 206 = .ok (.bipush 6, 2) := by decide +kernel
theorem dL_would_208 : decode cL_would 208 = .ok (.iload_n 3, 1) := by decide +kernel
theorem dL_would_209 : decode cL_would 209 = .ok (.iadd, 1) := by decide +kernel
theorem dL_would_210 : decode cL_would 210 = .ok (.invokevirtual 39, 3) := by decide +kernel
theorem dL_would_213 : decode cL_would 213 = .ok (.ifCond .ne 7, 3) := by decide +kernel
theorem dL_would_216 : decode cL_would 216 = .ok (.iconst 1, 1) := by decide +kernel
theorem dL_would_217 : decode cL_would 217 = .ok (.goto 4, 3) := by decide +kernel
theorem dL_would_220 : decode cL_would 220 = .ok (.iconst 0, 1) := by decide +kernel
theorem dL_would_221 : decode cL_would 221 = .ok (.istore 7, 2) := by decide +kernel
theorem dL_would_223 : decode cL_would 223 = .ok (.aload_n 0, 1) := by decide +kernel
theorem dL_would_224 : decode cL_would 224 = .ok (.invokevirtual 65, 3) := by decide +kernel
theorem dL_would_227 : decode cL_would 227 = .ok (.istore 8, 2) := by decide +kernel
theorem dL_would_229 : decode cL_would 229 = .ok (.aload_n 0, 1) := by decide +kernel
theorem dL_would_230 : decode cL_would 230 = .ok (.iconst 5, 1) := by decide +kernel
theorem dL_would_231 : decode cL_would 231 = .ok (.invokevirtual 39, 3) := by decide +kernel
theorem dL_would_234 : decode cL_would 234 = .ok (.istore 9, 2) := by decide +kernel
theorem dL_would_236 : decode cL_would 236 = .ok (.aload_n 0, 1) := by decide +kernel
theorem dL_would_237 : decode cL_would 237 = .ok (.bipush 10, 2) := by decide +kernel
theorem dL_would_239 : decode cL_would 239 = .ok (.invokevirtual 39, 3) := by decide +kernel
theorem dL_would_242 : decode cL_would 242 = .ok (.aload_n 0, 1) := by decide +kernel
theorem dL_would_243 : decode cL_would 243 = .ok (.bipush 11, 2) := by decide +kernel
theorem dL_would_245 : decode cL_would 245 = .ok (.invokevirtual 39, 3) := by decide +kernel
theorem dL_would_248 : decode cL_would 248 = .ok (.iadd, 1) := by decide +kernel
theorem dL_would_249 : decode cL_would 249 = .ok (.istore 10, 2) := by decide +kernel
theorem dL_would_251 : decode cL_would 251 = .ok (.aload_n 0, 1) := by decide +kernel
theorem dL_would_252 : decode cL_would 252 = .ok (.invokevirtual 72, 3) := by decide +kernel
theorem dL_would_255 : decode cL_would 255 = .ok (.istore 11, 2) := by decide +kernel
theorem dL_would_257 : decode cL_would 257 = .ok (.iload 8, 2) := by decide +kernel
theorem dL_would_259 : decode cL_would 259 = .ok (.bipush (-9), 2) := by decide +kernel
theorem dL_would_261 : decode cL_would 261 = .ok (.if_icmp .ne 31, 3) := by decide +kernel
theorem dL_would_264 : decode cL_would 264 = .ok (.iload 7, 2) := by decide +kernel
theorem dL_would_266 : decode cL_would 266 = .ok (.ifCond .eq 24, 3) := by decide +kernel
theorem dL_would_269 : decode cL_would 269 = .ok (.iload 11, 2) := by decide +kernel
theorem dL_would_271 : decode cL_would 271 = .ok (.bipush (-2), 2) := by decide +kernel
theorem dL_would_273 : decode cL_would 273 = .ok (.if_icmp .ne 17, 3) := by decide +kernel
theorem dL_would_276 : decode cL_would 276 = .ok (.aload_n 0, 1) := by decide +kernel
theorem dL_would_277 : decode cL_would 277 = .ok (.iconst 5, 1) := by decide +kernel
theorem dL_would_278 : decode cL_would 278 = .ok (.invokevirtual 39, 3) := by decide +kernel
theorem dL_would_281 : decode cL_would 281 = .ok (.iload 9, 2) := by decide +kernel
theorem dL_would_283 : decode cL_would 283 = .ok (.if_icmp .ne 7, 3) := by decide +kernel
theorem dL_would_286 : decode cL_would 286 = .ok (.iconst 1, 1) := by decide +kernel
theorem dL_would_287 : decode cL_would 287 = .ok (.goto 4, 3) := by decide +kernel
theorem dL_would_290 : decode cL_would 290 = .ok (.iconst 0, 1) := by decide +kernel
theorem dL_would_291 : decode cL_would 291 = .ok (.ireturn, 1) := by decide +kernel
theorem dL_would_292 : decode cL_would 292 = .ok (.iload 7, 2) := by decide +kernel
theorem dL_would_294 : decode cL_would 294 = .ok (.ifCond .eq 69, 3) := by decide +kernel
theorem dL_would_297 : decode cL_would 297 = .ok (.iload 11, 2) := by decide +kernel
theorem dL_would_299 : decode cL_would 299 = .ok (.ifCond .lt 64, 3) := by decide +kernel
theorem dL_would_302 : decode cL_would 302 = .ok (.iload 11, 2) := by decide +kernel
theorem dL_would_304 : decode cL_would 304 = .ok (.aload_n 0, 1) := by decide +kernel
theorem dL_would_305 : decode cL_would 305 = .ok (.iconst 0, 1) := by decide +kernel
theorem dL_would_306 : decode cL_would 306 = .ok (.invokevirtual 39, 3) := by decide +kernel
theorem dL_would_309 : decode cL_would 309 = .ok (.if_icmp .gt 54, 3) := by decide +kernel
theorem dL_would_312 : decode cL_would 312 = .ok (.aload_n 0, 1) := by decide +kernel
theorem dL_would_313 : decode cL_would 313 = .ok (.iconst 5, 1) := by decide +kernel
theorem dL_would_314 : decode cL_would 314 = .ok (.invokevirtual 39, 3) := by decide +kernel
theorem dL_would_317 : decode cL_would 317 = .ok (.iload 9, 2) := by decide +kernel
theorem dL_would_319 : decode cL_would 319 = .ok (.bipush 24, 2) := by decide +kernel
theorem dL_would_321 : decode cL_would 321 = .ok (.iload 8, 2) := by decide +kernel
theorem dL_would_323 : decode cL_would 323 = .ok (.imul, 1) := by decide +kernel
theorem dL_would_324 : decode cL_would 324 = .ok (.iadd, 1) := by decide +kernel
theorem dL_would_325 : decode cL_would 325 = .ok (.if_icmp .ne 38, 3) := by decide +kernel
theorem dL_would_328 : decode cL_would 328 = .ok (.aload_n 0, 1) := by decide +kernel
theorem dL_would_329 : decode cL_would 329 = .ok (.bipush 10, 2) := by decide +kernel
theorem dL_would_331 : decode cL_would 331 = .ok (.invokevirtual 39, 3) := by decide +kernel
theorem dL_would_334 : decode cL_would 334 = .ok (.aload_n 0, 1) := by decide +kernel
theorem dL_would_335 : decode cL_would 335 = .ok (.bipush 11, 2) := by decide +kernel
theorem dL_would_337 : decode cL_would 337 = .ok (.invokevirtual 39, 3) := by decide +kernel
theorem dL_would_340 : decode cL_would 340 = .ok (.iadd, 1) := by decide +kernel
theorem dL_would_341 : decode cL_would 341 = .ok (.iload 10, 2) := by decide +kernel
theorem dL_would_343 : decode cL_would 343 = .ok (.aload_n 0, 1) := by decide +kernel
theorem dL_would_344 : decode cL_would 344 = .ok (.iconst 0, 1) := by decide +kernel
theorem dL_would_345 : decode cL_would 345 = .ok (.invokevirtual 39, 3) := by decide +kernel
theorem dL_would_348 : decode cL_would 348 = .ok (.iadd, 1) := by decide +kernel
theorem dL_would_349 : decode cL_would 349 = .ok (.if_icmp .ne 14, 3) := by decide +kernel
theorem dL_would_352 : decode cL_would 352 = .ok (.aload_n 0, 1) := by decide +kernel
theorem dL_would_353 : decode cL_would 353 = .ok (.invokestatic 90, 3) := by decide +kernel
theorem dL_would_356 : decode cL_would 356 = .ok (.ifCond .eq 7, 3) := by decide +kernel
theorem dL_would_359 : decode cL_would 359 = .ok (.iconst 1, 1) := by decide +kernel
theorem dL_would_360 : decode cL_would 360 = .ok (.goto 4, 3) := by decide +kernel
theorem dL_would_363 : decode cL_would 363 = .ok (.iconst 0, 1) := by decide +kernel
theorem dL_would_364 : decode cL_would 364 = .ok (.ireturn, 1) := by decide +kernel
theorem dL_law_0 : decode cL_law 0 = .ok (.new 16, 3) := by decide +kernel
theorem dL_law_3 : decode cL_law 3 = .ok (.dup, 1) := by decide +kernel
theorem dL_law_4 : decode cL_law 4 = .ok (.invokespecial 94, 3) := by decide +kernel
theorem dL_law_7 : decode cL_law 7 = .ok (.astore_n 1, 1) := by decide +kernel
theorem dL_law_8 : decode cL_law 8 = .ok (.aload_n 1, 1) := by decide +kernel
theorem dL_law_9 : decode cL_law 9 = .ok (.aload_n 0, 1) := by decide +kernel
theorem dL_law_10 : decode cL_law 10 = .ok (.invokestatic 95, 3) := by decide +kernel
theorem dL_law_13 : decode cL_law 13 = .ok (.ifCond .eq 55, 3) := by decide +kernel
theorem dL_law_16 : decode cL_law 16 = .ok (.aload_n 1, 1) := by decide +kernel
theorem dL_law_17 : decode cL_law 17 = .ok (.invokestatic 90, 3) := by decide +kernel
theorem dL_law_20 : decode cL_law 20 = .ok (.ifCond .eq 48, 3) := by decide +kernel
theorem dL_law_23 : decode cL_law 23 = .ok (.aload_n 1, 1) := by decide +kernel
theorem dL_law_24 : decode cL_law 24 = .ok (.invokestatic 99, 3) := by decide +kernel
theorem dL_law_27 : decode cL_law 27 = .ok (.ifCond .eq 41, 3) := by decide +kernel
theorem dL_law_30 : decode cL_law 30 = .ok (.aload_n 1, 1) := by decide +kernel
theorem dL_law_31 : decode cL_law 31 = .ok (.aload_n 0, 1) := by decide +kernel
theorem dL_law_32 : decode cL_law 32 = .ok (.invokestatic 102, 3) := by decide +kernel
theorem dL_law_35 : decode cL_law 35 = .ok (.ifCond .eq 33, 3) := by decide +kernel
theorem dL_law_38 : decode cL_law 38 = .ok (.aload_n 1, 1) := by decide +kernel
theorem dL_law_39 : decode cL_law 39 = .ok (.aload_n 0, 1) := by decide +kernel
theorem dL_law_40 : decode cL_law 40 = .ok (.invokestatic 105, 3) := by decide +kernel
theorem dL_law_43 : decode cL_law 43 = .ok (.ifCond .eq 25, 3) := by decide +kernel
theorem dL_law_46 : decode cL_law 46 = .ok (.aload_n 1, 1) := by decide +kernel
theorem dL_law_47 : decode cL_law 47 = .ok (.aload_n 0, 1) := by decide +kernel
theorem dL_law_48 : decode cL_law 48 = .ok (.invokestatic 108, 3) := by decide +kernel
theorem dL_law_51 : decode cL_law 51 = .ok (.ifCond .eq 17, 3) := by decide +kernel
theorem dL_law_54 : decode cL_law 54 = .ok (.aload_n 1, 1) := by decide +kernel
theorem dL_law_55 : decode cL_law 55 = .ok (.iconst 0, 1) := by decide +kernel
theorem dL_law_56 : decode cL_law 56 = .ok (.iconst 1, 1) := by decide +kernel
theorem dL_law_57 : decode cL_law 57 = .ok (.invokevirtual 36, 3) := by decide +kernel
theorem dL_law_60 : decode cL_law 60 = .ok (.iconst (-1), 1) := by decide +kernel
theorem dL_law_61 : decode cL_law 61 = .ok (.if_icmp .ne 7, 3) := by decide +kernel
theorem dL_law_64 : decode cL_law 64 = .ok (.iconst 1, 1) := by decide +kernel
theorem dL_law_65 : decode cL_law 65 = .ok (.goto 4, 3) := by decide +kernel
theorem dL_law_68 : decode cL_law 68 = .ok (.iconst 0, 1) := by decide +kernel
theorem dL_law_69 : decode cL_law 69 = .ok (.ireturn, 1) := by decide +kernel
