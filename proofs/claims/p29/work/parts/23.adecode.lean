theorem dL_cell_0 : decode cL_cell 0 = .ok (.iload_n 1, 1) := by decide +kernel
theorem dL_cell_1 : decode cL_cell 1 = .ok (.aload_n 0, 1) := by decide +kernel
theorem dL_cell_2 : decode cL_cell 2 = .ok (.arraylength, 1) := by decide +kernel
theorem dL_cell_3 : decode cL_cell 3 = .ok (.if_icmp .ge 9, 3) := by decide +kernel
theorem dL_cell_6 : decode cL_cell 6 = .ok (.aload_n 0, 1) := by decide +kernel
theorem dL_cell_7 : decode cL_cell 7 = .ok (.iload_n 1, 1) := by decide +kernel
theorem dL_cell_8 : decode cL_cell 8 = .ok (.iaload, 1) := by decide +kernel
theorem dL_cell_9 : decode cL_cell 9 = .ok (.goto 11, 3) := by decide +kernel
theorem dL_cell_12 : decode cL_cell 12 = .ok (.sipush 7919, 3) := by decide +kernel
theorem dL_cell_15 : decode cL_cell 15 = .ok (.iload_n 1, 1) := by decide +kernel
theorem dL_cell_16 : decode cL_cell 16 = .ok (.imul, 1) := by decide +kernel
theorem dL_cell_17 : decode cL_cell 17 = .ok (.bipush 13, 2) := by decide +kernel
theorem dL_cell_19 : decode cL_cell 19 = .ok (.iadd, 1) := by decide +kernel
theorem dL_cell_20 : decode cL_cell 20 = .ok (.ldc 7, 2) := by decide +kernel
theorem dL_cell_22 : decode cL_cell 22 = .ok (.iand, 1) := by decide +kernel
theorem dL_cell_23 : decode cL_cell 23 = .ok (.ireturn, 1) := by decide +kernel
theorem dL_put_0 : decode cL_put 0 = .ok (.aload_n 0, 1) := by decide +kernel
theorem dL_put_1 : decode cL_put 1 = .ok (.iload_n 1, 1) := by decide +kernel
theorem dL_put_2 : decode cL_put 2 = .ok (.invokevirtual 8, 3) := by decide +kernel
theorem dL_put_5 : decode cL_put 5 = .ok (.ifCond .le 7, 3) := by decide +kernel
theorem dL_put_8 : decode cL_put 8 = .ok (.iconst 1, 1) := by decide +kernel
theorem dL_put_9 : decode cL_put 9 = .ok (.goto 4, 3) := by decide +kernel
theorem dL_put_12 : decode cL_put 12 = .ok (.iconst 0, 1) := by decide +kernel
theorem dL_put_13 : decode cL_put 13 = .ok (.ireturn, 1) := by decide +kernel
theorem dL_court_0 : decode cL_court 0 = .ok (.iconst 1, 1) := by decide +kernel
theorem dL_court_1 : decode cL_court 1 = .ok (.istore 5, 2) := by decide +kernel
theorem dL_court_3 : decode cL_court 3 = .ok (.aload 4, 2) := by decide +kernel
theorem dL_court_5 : decode cL_court 5 = .ok (.iconst 0, 1) := by decide +kernel
theorem dL_court_6 : decode cL_court 6 = .ok (.iconst 2, 1) := by decide +kernel
theorem dL_court_7 : decode cL_court 7 = .ok (.iload_n 1, 1) := by decide +kernel
theorem dL_court_8 : decode cL_court 8 = .ok (.iconst 4, 1) := by decide +kernel
theorem dL_court_9 : decode cL_court 9 = .ok (.irem, 1) := by decide +kernel
theorem dL_court_10 : decode cL_court 10 = .ok (.iadd, 1) := by decide +kernel
theorem dL_court_11 : decode cL_court 11 = .ok (.iastore, 1) := by decide +kernel
theorem dL_court_12 : decode cL_court 12 = .ok (.aload 4, 2) := by decide +kernel
theorem dL_court_14 : decode cL_court 14 = .ok (.iconst 1, 1) := by decide +kernel
theorem dL_court_15 : decode cL_court 15 = .ok (.iconst 0, 1) := by decide +kernel
theorem dL_court_16 : decode cL_court 16 = .ok (.iastore, 1) := by decide +kernel
theorem dL_court_17 : decode cL_court 17 = .ok (.aload 4, 2) := by decide +kernel
theorem dL_court_19 : decode cL_court 19 = .ok (.iconst 2, 1) := by decide +kernel
theorem dL_court_20 : decode cL_court 20 = .ok (.iconst 0, 1) := by decide +kernel
theorem dL_court_21 : decode cL_court 21 = .ok (.iastore, 1) := by decide +kernel
theorem dL_court_22 : decode cL_court 22 = .ok (.aload 4, 2) := by decide +kernel
theorem dL_court_24 : decode cL_court 24 = .ok (.iconst 3, 1) := by decide +kernel
theorem dL_court_25 : decode cL_court 25 = .ok (.iconst 0, 1) := by decide +kernel
theorem dL_court_26 : decode cL_court 26 = .ok (.iastore, 1) := by decide +kernel
theorem dL_court_27 : decode cL_court 27 = .ok (.iconst 0, 1) := by decide +kernel
theorem dL_court_28 : decode cL_court 28 = .ok (.istore 6, 2) := by decide +kernel
theorem dL_court_30 : decode cL_court 30 = .ok (.iload 6, 2) := by decide +kernel
theorem dL_court_32 : decode cL_court 32 = .ok (.bipush 10, 2) := by decide +kernel
theorem dL_court_34 : decode cL_court 34 = .ok (.if_icmp .ge 57, 3) := by decide +kernel
theorem dL_court_37 : decode cL_court 37 = .ok (.aload 4, 2) := by decide +kernel
theorem dL_court_39 : decode cL_court 39 = .ok (.iconst 4, 1) := by decide +kernel
theorem dL_court_40 : decode cL_court 40 = .ok (.iload 6, 2) := by decide +kernel
theorem dL_court_42 : decode cL_court 42 = .ok (.iadd, 1) := by decide +kernel
theorem dL_court_43 : decode cL_court 43 = .ok (.iload_n 3, 1) := by decide +kernel
theorem dL_court_44 : decode cL_court 44 = .ok (.iconst 2, 1) := by decide +kernel
theorem dL_court_45 : decode cL_court 45 = .ok (.iload 6, 2) := by decide +kernel
theorem dL_court_47 : decode cL_court 47 = .ok (.imul, 1) := by decide +kernel
theorem dL_court_48 : decode cL_court 48 = .ok (.ishr, 1) := by decide +kernel
theorem dL_court_49 : decode cL_court 49 = .ok (.bipush 15, 2) := by decide +kernel
theorem dL_court_51 : decode cL_court 51 = .ok (.iand, 1) := by decide +kernel
theorem dL_court_52 : decode cL_court 52 = .ok (.bipush 10, 2) := by decide +kernel
theorem dL_court_54 : decode cL_court 54 = .ok (.irem, 1) := by decide +kernel
theorem dL_court_55 : decode cL_court 55 = .ok (.iastore, 1) := by decide +kernel
theorem dL_court_56 : decode cL_court 56 = .ok (.iload 5, 2) := by decide +kernel
theorem dL_court_58 : decode cL_court 58 = .ok (.ifCond .eq 24, 3) := by decide +kernel
theorem dL_court_61 : decode cL_court 61 = .ok (.aload_n 0, 1) := by decide +kernel
theorem dL_court_62 : decode cL_court 62 = .ok (.bipush 48, 2) := by decide +kernel
theorem dL_court_64 : decode cL_court 64 = .ok (.aload 4, 2) := by decide +kernel
theorem dL_court_66 : decode cL_court 66 = .ok (.iconst 4, 1) := by decide +kernel
theorem dL_court_67 : decode cL_court 67 = .ok (.iload 6, 2) := by decide +kernel
theorem dL_court_69 : decode cL_court 69 = .ok (.iadd, 1) := by decide +kernel
theorem dL_court_70 : decode cL_court 70 = .ok (.iaload, 1) := by decide +kernel
theorem dL_court_71 : decode cL_court 71 = .ok (.iadd, 1) := by decide +kernel
theorem dL_court_72 : decode cL_court 72 = .ok (.invokestatic 14, 3) := by decide +kernel
theorem dL_court_75 : decode cL_court 75 = .ok (.ifCond .eq 7, 3) := by decide +kernel
theorem dL_court_78 : decode cL_court 78 = .ok (.iconst 1, 1) := by decide +kernel
theorem dL_court_79 : decode cL_court 79 = .ok (.goto 4, 3) := by decide +kernel
theorem dL_court_82 : decode cL_court 82 = .ok (.iconst 0, 1) := by decide +kernel
theorem dL_court_83 : decode cL_court 83 = .ok (.istore 5, 2) := by decide +kernel
theorem dL_court_85 : decode cL_court 85 = .ok (.iinc 6 1, 3) := by decide +kernel
theorem dL_court_88 : decode cL_court 88 = .ok (.goto (-58), 3) := by decide +kernel
theorem dL_court_91 : decode cL_court 91 = .ok (.iload 5, 2) := by decide +kernel
theorem dL_court_93 : decode cL_court 93 = .ok (.ifCond .eq 16, 3) := by decide +kernel
theorem dL_court_96 : decode cL_court 96 = .ok (.aload_n 0, 1) := by decide +kernel
theorem dL_court_97 : decode cL_court 97 = .ok (.bipush 59, 2) := by decide +kernel
theorem dL_court_99 : decode cL_court 99 = .ok (.invokestatic 14, 3) := by decide +kernel
theorem dL_court_102 : decode cL_court 102 = .ok (.ifCond .eq 7, 3) := by decide +kernel
theorem dL_court_105 : decode cL_court 105 = .ok (.iconst 1, 1) := by decide +kernel
theorem dL_court_106 : decode cL_court 106 = .ok (.goto 4, 3) := by decide +kernel
theorem dL_court_109 : decode cL_court 109 = .ok (.iconst 0, 1) := by decide +kernel
theorem dL_court_110 : decode cL_court 110 = .ok (.istore 5, 2) := by decide +kernel
theorem dL_court_112 : decode cL_court 112 = .ok (.iconst 0, 1) := by decide +kernel
theorem dL_court_113 : decode cL_court 113 = .ok (.istore 6, 2) := by decide +kernel
theorem dL_court_115 : decode cL_court 115 = .ok (.iload 6, 2) := by decide +kernel
theorem dL_court_117 : decode cL_court 117 = .ok (.aload 4, 2) := by decide +kernel
theorem dL_court_119 : decode cL_court 119 = .ok (.iconst 0, 1) := by decide +kernel
theorem dL_court_120 : decode cL_court 120 = .ok (.iaload, 1) := by decide +kernel
theorem dL_court_121 : decode cL_court 121 = .ok (.if_icmp .ge 195, 3) := by decide +kernel
theorem dL_court_124 : decode cL_court 124 = .ok (.bipush 14, 2) := by decide +kernel
theorem dL_court_126 : decode cL_court 126 = .ok (.iconst 3, 1) := by decide +kernel
theorem dL_court_127 : decode cL_court 127 = .ok (.iload 6, 2) := by decide +kernel
theorem dL_court_129 : decode cL_court 129 = .ok (.imul, 1) := by decide +kernel
theorem dL_court_130 : decode cL_court 130 = .ok (.iadd, 1) := by decide +kernel
theorem dL_court_131 : decode cL_court 131 = .ok (.istore 7, 2) := by decide +kernel
theorem dL_court_133 : decode cL_court 133 = .ok (.iload_n 1, 1) := by decide +kernel
theorem dL_court_134 : decode cL_court 134 = .ok (.iconst 2, 1) := by decide +kernel
theorem dL_court_135 : decode cL_court 135 = .ok (.iconst 3, 1) := by decide +kernel
theorem dL_court_136 : decode cL_court 136 = .ok (.iload 6, 2) := by decide +kernel
theorem dL_court_138 : decode cL_court 138 = .ok (.imul, 1) := by decide +kernel
theorem dL_court_139 : decode cL_court 139 = .ok (.iadd, 1) := by decide +kernel
theorem dL_court_140 : decode cL_court 140 = .ok (.ishr, 1) := by decide +kernel
theorem dL_court_141 : decode cL_court 141 = .ok (.bipush 7, 2) := by decide +kernel
theorem dL_court_143 : decode cL_court 143 = .ok (.iand, 1) := by decide +kernel
theorem dL_court_144 : decode cL_court 144 = .ok (.iconst 5, 1) := by decide +kernel
theorem dL_court_145 : decode cL_court 145 = .ok (.irem, 1) := by decide +kernel
theorem dL_court_146 : decode cL_court 146 = .ok (.istore 8, 2) := by decide +kernel
theorem dL_court_148 : decode cL_court 148 = .ok (.aload 4, 2) := by decide +kernel
theorem dL_court_150 : decode cL_court 150 = .ok (.iload 7, 2) := by decide +kernel
theorem dL_court_152 : decode cL_court 152 = .ok (.iload 8, 2) := by decide +kernel
theorem dL_court_154 : decode cL_court 154 = .ok (.iastore, 1) := by decide +kernel
theorem dL_court_155 : decode cL_court 155 = .ok (.aload 4, 2) := by decide +kernel
theorem dL_court_157 : decode cL_court 157 = .ok (.iload 7, 2) := by decide +kernel
theorem dL_court_159 : decode cL_court 159 = .ok (.iconst 1, 1) := by decide +kernel
theorem dL_court_160 : decode cL_court 160 = .ok (.iadd, 1) := by decide +kernel
theorem dL_court_161 : decode cL_court 161 = .ok (.iconst 1, 1) := by decide +kernel
theorem dL_court_162 : decode cL_court 162 = .ok (.iload_n 2, 1) := by decide +kernel
theorem dL_court_163 : decode cL_court 163 = .ok (.iconst 3, 1) := by decide +kernel
theorem dL_court_164 : decode cL_court 164 = .ok (.iload 6, 2) := by decide +kernel
theorem dL_court_166 : decode cL_court 166 = .ok (.imul, 1) := by decide +kernel
theorem dL_court_167 : decode cL_court 167 = .ok (.ishr, 1) := by decide +kernel
theorem dL_court_168 : decode cL_court 168 = .ok (.bipush 15, 2) := by decide +kernel
theorem dL_court_170 : decode cL_court 170 = .ok (.iand, 1) := by decide +kernel
theorem dL_court_171 : decode cL_court 171 = .ok (.bipush 9, 2) := by decide +kernel
theorem dL_court_173 : decode cL_court 173 = .ok (.irem, 1) := by decide +kernel
theorem dL_court_174 : decode cL_court 174 = .ok (.iadd, 1) := by decide +kernel
theorem dL_court_175 : decode cL_court 175 = .ok (.iastore, 1) := by decide +kernel
theorem dL_court_176 : decode cL_court 176 = .ok (.aload 4, 2) := by decide +kernel
theorem dL_court_178 : decode cL_court 178 = .ok (.iload 7, 2) := by decide +kernel
theorem dL_court_180 : decode cL_court 180 = .ok (.iconst 2, 1) := by decide +kernel
theorem dL_court_181 : decode cL_court 181 = .ok (.iadd, 1) := by decide +kernel
theorem dL_court_182 : decode cL_court 182 = .ok (.iload_n 2, 1) := by decide +kernel
theorem dL_court_183 : decode cL_court 183 = .ok (.bipush 14, 2) := by decide +kernel
theorem dL_court_185 : decode cL_court 185 = .ok (.iconst 3, 1) := by decide +kernel
theorem dL_court_186 : decode cL_court 186 = .ok (.iload 6, 2) := by decide +kernel
theorem dL_court_188 : decode cL_court 188 = .ok (.imul, 1) := by decide +kernel
theorem dL_court_189 : decode cL_court 189 = .ok (.iadd, 1) := by decide +kernel
theorem dL_court_190 : decode cL_court 190 = .ok (.ishr, 1) := by decide +kernel
theorem dL_court_191 : decode cL_court 191 = .ok (.bipush 15, 2) := by decide +kernel
theorem dL_court_193 : decode cL_court 193 = .ok (.iand, 1) := by decide +kernel
theorem dL_court_194 : decode cL_court 194 = .ok (.bipush 10, 2) := by decide +kernel
theorem dL_court_196 : decode cL_court 196 = .ok (.irem, 1) := by decide +kernel
theorem dL_court_197 : decode cL_court 197 = .ok (.iastore, 1) := by decide +kernel
theorem dL_court_198 : decode cL_court 198 = .ok (.iload 5, 2) := by decide +kernel
theorem dL_court_200 : decode cL_court 200 = .ok (.ifCond .eq 107, 3) := by decide +kernel
theorem dL_court_203 : decode cL_court 203 = .ok (.iload 6, 2) := by decide +kernel
theorem dL_court_205 : decode cL_court 205 = .ok (.ifCond .eq 12, 3) := by decide +kernel
theorem dL_court_208 : decode cL_court 208 = .ok (.aload_n 0, 1) := by decide +kernel
theorem dL_court_209 : decode cL_court 209 = .ok (.bipush 44, 2) := by decide +kernel
theorem dL_court_211 : decode cL_court 211 = .ok (.invokestatic 14, 3) := by decide +kernel
theorem dL_court_214 : decode cL_court 214 = .ok (.ifCond .eq 93, 3) := by decide +kernel
theorem dL_court_217 : decode cL_court 217 = .ok (.aload_n 0, 1) := by decide +kernel
theorem dL_court_218 : decode cL_court 218 = .ok (.iload 8, 2) := by decide +kernel
theorem dL_court_220 : decode cL_court 220 = .ok (.ifCond .ne 8, 3) := by decide +kernel
theorem dL_court_223 : decode cL_court 223 = .ok (.bipush 112, 2) := by decide +kernel
theorem dL_court_225 : decode cL_court 225 = .ok (.goto 38, 3) := by decide +kernel
theorem dL_court_228 : decode cL_court 228 = .ok (.iload 8, 2) := by decide +kernel
theorem dL_court_230 : decode cL_court 230 = .ok (.iconst 1, 1) := by decide +kernel
theorem dL_court_231 : decode cL_court 231 = .ok (.if_icmp .ne 8, 3) := by decide +kernel
theorem dL_court_234 : decode cL_court 234 = .ok (.bipush 104, 2) := by decide +kernel
theorem dL_court_236 : decode cL_court 236 = .ok (.goto 27, 3) := by decide +kernel
theorem dL_court_239 : decode cL_court 239 = .ok (.iload 8, 2) := by decide +kernel
theorem dL_court_241 : decode cL_court 241 = .ok (.iconst 2, 1) := by decide +kernel
theorem dL_court_242 : decode cL_court 242 = .ok (.if_icmp .ne 8, 3) := by decide +kernel
theorem dL_court_245 : decode cL_court 245 = .ok (.bipush 116, 2) := by decide +kernel
theorem dL_court_247 : decode cL_court 247 = .ok (.goto 16, 3) := by decide +kernel
theorem dL_court_250 : decode cL_court 250 = .ok (.iload 8, 2) := by decide +kernel
theorem dL_court_252 : decode cL_court 252 = .ok (.iconst 3, 1) := by decide +kernel
theorem dL_court_253 : decode cL_court 253 = .ok (.if_icmp .ne 8, 3) := by decide +kernel
theorem dL_court_256 : decode cL_court 256 = .ok (.bipush 99, 2) := by decide +kernel
theorem dL_court_258 : decode cL_court 258 = .ok (.goto 5, 3) := by decide +kernel
theorem dL_court_261 : decode cL_court 261 = .ok (.bipush 117, 2) := by decide +kernel
theorem dL_court_263 : decode cL_court 263 = .ok (.invokestatic 14, 3) := by decide +kernel
theorem dL_court_266 : decode cL_court 266 = .ok (.ifCond .eq 41, 3) := by decide +kernel
theorem dL_court_269 : decode cL_court 269 = .ok (.aload_n 0, 1) := by decide +kernel
theorem dL_court_270 : decode cL_court 270 = .ok (.bipush 48, 2) := by decide +kernel
theorem dL_court_272 : decode cL_court 272 = .ok (.aload 4, 2) := by decide +kernel
theorem dL_court_274 : decode cL_court 274 = .ok (.iload 7, 2) := by decide +kernel
theorem dL_court_276 : decode cL_court 276 = .ok (.iconst 1, 1) := by decide +kernel
theorem dL_court_277 : decode cL_court 277 = .ok (.iadd, 1) := by decide +kernel
theorem dL_court_278 : decode cL_court 278 = .ok (.iaload, 1) := by decide +kernel
theorem dL_court_279 : decode cL_court 279 = .ok (.iadd, 1) := by decide +kernel
theorem dL_court_280 : decode cL_court 280 = .ok (.invokestatic 14, 3) := by decide +kernel
theorem dL_court_283 : decode cL_court 283 = .ok (.ifCond .eq 24, 3) := by decide +kernel
theorem dL_court_286 : decode cL_court 286 = .ok (.aload_n 0, 1) := by decide +kernel
theorem dL_court_287 : decode cL_court 287 = .ok (.bipush 48, 2) := by decide +kernel
theorem dL_court_289 : decode cL_court 289 = .ok (.aload 4, 2) := by decide +kernel
theorem dL_court_291 : decode cL_court 291 = .ok (.iload 7, 2) := by decide +kernel
theorem dL_court_293 : decode cL_court 293 = .ok (.iconst 2, 1) := by decide +kernel
theorem dL_court_294 : decode cL_court 294 = .ok (.iadd, 1) := by decide +kernel
theorem dL_court_295 : decode cL_court 295 = .ok (.iaload, 1) := by decide +kernel
theorem dL_court_296 : decode cL_court 296 = .ok (.iadd, 1) := by decide +kernel
theorem dL_court_297 : decode cL_court 297 = .ok (.invokestatic 14, 3) := by decide +kernel
theorem dL_court_300 : decode cL_court 300 = .ok (.ifCond .eq 7, 3) := by decide +kernel
theorem dL_court_303 : decode cL_court 303 = .ok (.iconst 1, 1) := by decide +kernel
theorem dL_court_304 : decode cL_court 304 = .ok (.goto 4, 3) := by decide +kernel
theorem dL_court_307 : decode cL_court 307 = .ok (.iconst 0, 1) := by decide +kernel
theorem dL_court_308 : decode cL_court 308 = .ok (.istore 5, 2) := by decide +kernel
theorem dL_court_310 : decode cL_court 310 = .ok (.iinc 6 1, 3) := by decide +kernel
theorem dL_court_313 : decode cL_court 313 = .ok (.goto (-198), 3) := by decide +kernel
theorem dL_court_316 : decode cL_court 316 = .ok (.iload 5, 2) := by decide +kernel
theorem dL_court_318 : decode cL_court 318 = .ok (.ifCond .eq 34, 3) := by decide +kernel
theorem dL_court_321 : decode cL_court 321 = .ok (.aload_n 0, 1) := by decide +kernel
theorem dL_court_322 : decode cL_court 322 = .ok (.invokevirtual 20, 3) := by decide +kernel
theorem dL_court_325 : decode cL_court 325 = .ok (.bipush 10, 2) := by decide +kernel
theorem dL_court_327 : decode cL_court 327 = .ok (.iconst 4, 1) := by decide +kernel
theorem dL_court_328 : decode cL_court 328 = .ok (.aload 4, 2) := by decide +kernel
theorem dL_court_330 : decode cL_court 330 = .ok (.iconst 0, 1) := by decide +kernel
theorem dL_court_331 : decode cL_court 331 = .ok (.iaload, 1) := by decide +kernel
theorem dL_court_332 : decode cL_court 332 = .ok (.imul, 1) := by decide +kernel
theorem dL_court_333 : decode cL_court 333 = .ok (.iadd, 1) := by decide +kernel
theorem dL_court_334 : decode cL_court 334 = .ok (.if_icmp .ne 18, 3) := by decide +kernel
theorem dL_court_337 : decode cL_court 337 = .ok (.aload_n 0, 1) := by decide +kernel
theorem dL_court_338 : decode cL_court 338 = .ok (.invokevirtual 24, 3) := by decide +kernel
theorem dL_court_341 : decode cL_court 341 = .ok (.aload 4, 2) := by decide +kernel
theorem dL_court_343 : decode cL_court 343 = .ok (.iconst 0, 1) := by decide +kernel
theorem dL_court_344 : decode cL_court 344 = .ok (.iaload, 1) := by decide +kernel
theorem dL_court_345 : decode cL_court 345 = .ok (.if_icmp .ne 7, 3) := by decide +kernel
theorem dL_court_348 : decode cL_court 348 = .ok (.iconst 1, 1) := by decide +kernel
theorem dL_court_349 : decode cL_court 349 = .ok (.goto 4, 3) := by decide +kernel
theorem dL_court_352 : decode cL_court 352 = .ok (.iconst 0, 1) := by decide +kernel
theorem dL_court_353 : decode cL_court 353 = .ok (.ireturn, 1) := by decide +kernel
theorem dL_covers_0 : decode cL_covers 0 = .ok (.iload_n 3, 1) := by decide +kernel
theorem dL_covers_1 : decode cL_covers 1 = .ok (.bipush 6, 2) := by decide +kernel
theorem dL_covers_3 : decode cL_covers 3 = .ok (.if_icmp .ge 10, 3) := by decide +kernel
theorem dL_covers_6 : decode cL_covers 6 = .ok (.bipush 6, 2) := by decide +kernel
theorem dL_covers_8 : decode cL_covers 8 = .ok (.iload_n 3, 1) := by decide +kernel
theorem dL_covers_9 : decode cL_covers 9 = .ok (.isub, 1) := by decide +kernel
theorem dL_covers_10 : decode cL_covers 10 = .ok (.goto 7, 3) := by decide +kernel
theorem dL_covers_13 : decode cL_covers 13 = .ok (.iload_n 3, 1) := by decide +kernel
theorem dL_covers_14 : decode cL_covers 14 = .ok (.bipush 6, 2) := by decide +kernel
theorem dL_covers_16 : decode cL_covers 16 = .ok (.isub, 1) := by decide +kernel
theorem dL_covers_17 : decode cL_covers 17 = .ok (.istore 5, 2) := by decide +kernel
theorem dL_covers_19 : decode cL_covers 19 = .ok (.iload 5, 2) := by decide +kernel
theorem dL_covers_21 : decode cL_covers 21 = .ok (.iload_n 0, 1) := by decide +kernel
theorem dL_covers_22 : decode cL_covers 22 = .ok (.iconst 1, 1) := by decide +kernel
theorem dL_covers_23 : decode cL_covers 23 = .ok (.if_icmp .ne 9, 3) := by decide +kernel
theorem dL_covers_26 : decode cL_covers 26 = .ok (.iload_n 1, 1) := by decide +kernel
theorem dL_covers_27 : decode cL_covers 27 = .ok (.iconst 2, 1) := by decide +kernel
theorem dL_covers_28 : decode cL_covers 28 = .ok (.iadd, 1) := by decide +kernel
theorem dL_covers_29 : decode cL_covers 29 = .ok (.goto 15, 3) := by decide +kernel
theorem dL_covers_32 : decode cL_covers 32 = .ok (.iload_n 0, 1) := by decide +kernel
theorem dL_covers_33 : decode cL_covers 33 = .ok (.iconst 4, 1) := by decide +kernel
theorem dL_covers_34 : decode cL_covers 34 = .ok (.if_icmp .ne 9, 3) := by decide +kernel
theorem dL_covers_37 : decode cL_covers 37 = .ok (.iload_n 1, 1) := by decide +kernel
theorem dL_covers_38 : decode cL_covers 38 = .ok (.iconst 4, 1) := by decide +kernel
theorem dL_covers_39 : decode cL_covers 39 = .ok (.iadd, 1) := by decide +kernel
theorem dL_covers_40 : decode cL_covers 40 = .ok (.goto 4, 3) := by decide +kernel
theorem dL_covers_43 : decode cL_covers 43 = .ok (.iload_n 1, 1) := by decide +kernel
theorem dL_covers_44 : decode cL_covers 44 = .ok (.imul, 1) := by decide +kernel
theorem dL_covers_45 : decode cL_covers 45 = .ok (.iconst 3, 1) := by decide +kernel
theorem dL_covers_46 : decode cL_covers 46 = .ok (.idiv, 1) := by decide +kernel
theorem dL_covers_47 : decode cL_covers 47 = .ok (.istore 6, 2) := by decide +kernel
theorem dL_covers_49 : decode cL_covers 49 = .ok (.iload_n 3, 1) := by decide +kernel
theorem dL_covers_50 : decode cL_covers 50 = .ok (.bipush 6, 2) := by decide +kernel
theorem dL_covers_52 : decode cL_covers 52 = .ok (.if_icmp .ge 10, 3) := by decide +kernel
theorem dL_covers_55 : decode cL_covers 55 = .ok (.iload_n 2, 1) := by decide +kernel
theorem dL_covers_56 : decode cL_covers 56 = .ok (.iload 4, 2) := by decide +kernel
theorem dL_covers_58 : decode cL_covers 58 = .ok (.isub, 1) := by decide +kernel
theorem dL_covers_59 : decode cL_covers 59 = .ok (.goto 7, 3) := by decide +kernel
theorem dL_covers_62 : decode cL_covers 62 = .ok (.iload 4, 2) := by decide +kernel
theorem dL_covers_64 : decode cL_covers 64 = .ok (.iload_n 2, 1) := by decide +kernel
theorem dL_covers_65 : decode cL_covers 65 = .ok (.isub, 1) := by decide +kernel
theorem dL_covers_66 : decode cL_covers 66 = .ok (.istore 7, 2) := by decide +kernel
theorem dL_covers_68 : decode cL_covers 68 = .ok (.iload 7, 2) := by decide +kernel
theorem dL_covers_70 : decode cL_covers 70 = .ok (.ifCond .le 14, 3) := by decide +kernel
theorem dL_covers_73 : decode cL_covers 73 = .ok (.iload 7, 2) := by decide +kernel
theorem dL_covers_75 : decode cL_covers 75 = .ok (.iload 6, 2) := by decide +kernel
theorem dL_covers_77 : decode cL_covers 77 = .ok (.if_icmp .gt 7, 3) := by decide +kernel
theorem dL_covers_80 : decode cL_covers 80 = .ok (.iconst 1, 1) := by decide +kernel
theorem dL_covers_81 : decode cL_covers 81 = .ok (.goto 4, 3) := by decide +kernel
theorem dL_covers_84 : decode cL_covers 84 = .ok (.iconst 0, 1) := by decide +kernel
theorem dL_covers_85 : decode cL_covers 85 = .ok (.istore 8, 2) := by decide +kernel
theorem dL_covers_87 : decode cL_covers 87 = .ok (.iload_n 0, 1) := by decide +kernel
theorem dL_covers_88 : decode cL_covers 88 = .ok (.iconst 2, 1) := by decide +kernel
theorem dL_covers_89 : decode cL_covers 89 = .ok (.if_icmp .ne 23, 3) := by decide +kernel
theorem dL_covers_92 : decode cL_covers 92 = .ok (.iload 7, 2) := by decide +kernel
theorem dL_covers_94 : decode cL_covers 94 = .ok (.ifCond .le 14, 3) := by decide +kernel
theorem dL_covers_97 : decode cL_covers 97 = .ok (.iload 7, 2) := by decide +kernel
theorem dL_covers_99 : decode cL_covers 99 = .ok (.iload 6, 2) := by decide +kernel
theorem dL_covers_101 : decode cL_covers 101 = .ok (.if_icmp .ne 7, 3) := by decide +kernel
theorem dL_covers_104 : decode cL_covers 104 = .ok (.iconst 1, 1) := by decide +kernel
theorem dL_covers_105 : decode cL_covers 105 = .ok (.goto 36, 3) := by decide +kernel
theorem dL_covers_108 : decode cL_covers 108 = .ok (.iconst 0, 1) := by decide +kernel
theorem dL_covers_109 : decode cL_covers 109 = .ok (.goto 32, 3) := by decide +kernel
theorem dL_covers_112 : decode cL_covers 112 = .ok (.iload 8, 2) := by decide +kernel
theorem dL_covers_114 : decode cL_covers 114 = .ok (.ifCond .ne 22, 3) := by decide +kernel
theorem dL_covers_117 : decode cL_covers 117 = .ok (.iload_n 0, 1) := by decide +kernel
theorem dL_covers_118 : decode cL_covers 118 = .ok (.iconst 3, 1) := by decide +kernel
theorem dL_covers_119 : decode cL_covers 119 = .ok (.if_icmp .ne 21, 3) := by decide +kernel
theorem dL_covers_122 : decode cL_covers 122 = .ok (.iload 7, 2) := by decide +kernel
theorem dL_covers_124 : decode cL_covers 124 = .ok (.ifCond .ge 16, 3) := by decide +kernel
theorem dL_covers_127 : decode cL_covers 127 = .ok (.iconst 0, 1) := by decide +kernel
theorem dL_covers_128 : decode cL_covers 128 = .ok (.iload 7, 2) := by decide +kernel
theorem dL_covers_130 : decode cL_covers 130 = .ok (.isub, 1) := by decide +kernel
theorem dL_covers_131 : decode cL_covers 131 = .ok (.iload 6, 2) := by decide +kernel
theorem dL_covers_133 : decode cL_covers 133 = .ok (.if_icmp .gt 7, 3) := by decide +kernel
theorem dL_covers_136 : decode cL_covers 136 = .ok (.iconst 1, 1) := by decide +kernel
theorem dL_covers_137 : decode cL_covers 137 = .ok (.goto 4, 3) := by decide +kernel
theorem dL_covers_140 : decode cL_covers 140 = .ok (.iconst 0, 1) := by decide +kernel
theorem dL_covers_141 : decode cL_covers 141 = .ok (.ireturn, 1) := by decide +kernel
theorem dL_bits_0 : decode cL_bits 0 = .ok (.iconst 0, 1) := by decide +kernel
theorem dL_bits_1 : decode cL_bits 1 = .ok (.istore_n 3, 1) := by decide +kernel
theorem dL_bits_2 : decode cL_bits 2 = .ok (.iconst 0, 1) := by decide +kernel
theorem dL_bits_3 : decode cL_bits 3 = .ok (.istore 4, 2) := by decide +kernel
theorem dL_bits_5 : decode cL_bits 5 = .ok (.iload 4, 2) := by decide +kernel
theorem dL_bits_7 : decode cL_bits 7 = .ok (.bipush 10, 2) := by decide +kernel
theorem dL_bits_9 : decode cL_bits 9 = .ok (.if_icmp .ge 53, 3) := by decide +kernel
theorem dL_bits_12 : decode cL_bits 12 = .ok (.iload_n 3, 1) := by decide +kernel
theorem dL_bits_13 : decode cL_bits 13 = .ok (.aload_n 0, 1) := by decide +kernel
theorem dL_bits_14 : decode cL_bits 14 = .ok (.bipush 14, 2) := by decide +kernel
theorem dL_bits_16 : decode cL_bits 16 = .ok (.iconst 3, 1) := by decide +kernel
theorem dL_bits_17 : decode cL_bits 17 = .ok (.iload_n 1, 1) := by decide +kernel
theorem dL_bits_18 : decode cL_bits 18 = .ok (.imul, 1) := by decide +kernel
theorem dL_bits_19 : decode cL_bits 19 = .ok (.iadd, 1) := by decide +kernel
theorem dL_bits_20 : decode cL_bits 20 = .ok (.iaload, 1) := by decide +kernel
theorem dL_bits_21 : decode cL_bits 21 = .ok (.aload_n 0, 1) := by decide +kernel
theorem dL_bits_22 : decode cL_bits 22 = .ok (.bipush 15, 2) := by decide +kernel
theorem dL_bits_24 : decode cL_bits 24 = .ok (.iconst 3, 1) := by decide +kernel
theorem dL_bits_25 : decode cL_bits 25 = .ok (.iload_n 1, 1) := by decide +kernel
theorem dL_bits_26 : decode cL_bits 26 = .ok (.imul, 1) := by decide +kernel
theorem dL_bits_27 : decode cL_bits 27 = .ok (.iadd, 1) := by decide +kernel
theorem dL_bits_28 : decode cL_bits 28 = .ok (.iaload, 1) := by decide +kernel
theorem dL_bits_29 : decode cL_bits 29 = .ok (.aload_n 0, 1) := by decide +kernel
theorem dL_bits_30 : decode cL_bits 30 = .ok (.bipush 16, 2) := by decide +kernel
theorem dL_bits_32 : decode cL_bits 32 = .ok (.iconst 3, 1) := by decide +kernel
theorem dL_bits_33 : decode cL_bits 33 = .ok (.iload_n 1, 1) := by decide +kernel
theorem dL_bits_34 : decode cL_bits 34 = .ok (.imul, 1) := by decide +kernel
theorem dL_bits_35 : decode cL_bits 35 = .ok (.iadd, 1) := by decide +kernel
theorem dL_bits_36 : decode cL_bits 36 = .ok (.iaload, 1) := by decide +kernel
theorem dL_bits_37 : decode cL_bits 37 = .ok (.iload_n 2, 1) := by decide +kernel
theorem dL_bits_38 : decode cL_bits 38 = .ok (.iload 4, 2) := by decide +kernel
theorem dL_bits_40 : decode cL_bits 40 = .ok (.invokestatic 27, 3) := by decide +kernel
theorem dL_bits_43 : decode cL_bits 43 = .ok (.ifCond .eq 10, 3) := by decide +kernel
theorem dL_bits_46 : decode cL_bits 46 = .ok (.iconst 1, 1) := by decide +kernel
theorem dL_bits_47 : decode cL_bits 47 = .ok (.iload 4, 2) := by decide +kernel
theorem dL_bits_49 : decode cL_bits 49 = .ok (.ishl, 1) := by decide +kernel
theorem dL_bits_50 : decode cL_bits 50 = .ok (.goto 4, 3) := by decide +kernel
theorem dL_bits_53 : decode cL_bits 53 = .ok (.iconst 0, 1) := by decide +kernel
theorem dL_bits_54 : decode cL_bits 54 = .ok (.ior, 1) := by decide +kernel
theorem dL_bits_55 : decode cL_bits 55 = .ok (.istore_n 3, 1) := by decide +kernel
theorem dL_bits_56 : decode cL_bits 56 = .ok (.iinc 4 1, 3) := by decide +kernel
theorem dL_bits_59 : decode cL_bits 59 = .ok (.goto (-54), 3) := by decide +kernel
theorem dL_bits_62 : decode cL_bits 62 = .ok (.iload_n 3, 1) := by decide +kernel
theorem dL_bits_63 : decode cL_bits 63 = .ok (.ireturn, 1) := by decide +kernel
theorem dL_worth_0 : decode cL_worth 0 = .ok (.iconst 0, 1) := by decide +kernel
theorem dL_worth_1 : decode cL_worth 1 = .ok (.istore_n 2, 1) := by decide +kernel
theorem dL_worth_2 : decode cL_worth 2 = .ok (.iconst 0, 1) := by decide +kernel
theorem dL_worth_3 : decode cL_worth 3 = .ok (.istore_n 3, 1) := by decide +kernel
theorem dL_worth_4 : decode cL_worth 4 = .ok (.iload_n 3, 1) := by decide +kernel
theorem dL_worth_5 : decode cL_worth 5 = .ok (.bipush 10, 2) := by decide +kernel
theorem dL_worth_7 : decode cL_worth 7 = .ok (.if_icmp .ge 23, 3) := by decide +kernel
theorem dL_worth_10 : decode cL_worth 10 = .ok (.iload_n 2, 1) := by decide +kernel
theorem dL_worth_11 : decode cL_worth 11 = .ok (.iload_n 1, 1) := by decide +kernel
theorem dL_worth_12 : decode cL_worth 12 = .ok (.iload_n 3, 1) := by decide +kernel
theorem dL_worth_13 : decode cL_worth 13 = .ok (.ishr, 1) := by decide +kernel
theorem dL_worth_14 : decode cL_worth 14 = .ok (.iconst 1, 1) := by decide +kernel
theorem dL_worth_15 : decode cL_worth 15 = .ok (.iand, 1) := by decide +kernel
theorem dL_worth_16 : decode cL_worth 16 = .ok (.aload_n 0, 1) := by decide +kernel
theorem dL_worth_17 : decode cL_worth 17 = .ok (.iconst 4, 1) := by decide +kernel
theorem dL_worth_18 : decode cL_worth 18 = .ok (.iload_n 3, 1) := by decide +kernel
theorem dL_worth_19 : decode cL_worth 19 = .ok (.iadd, 1) := by decide +kernel
theorem dL_worth_20 : decode cL_worth 20 = .ok (.iaload, 1) := by decide +kernel
theorem dL_worth_21 : decode cL_worth 21 = .ok (.imul, 1) := by decide +kernel
theorem dL_worth_22 : decode cL_worth 22 = .ok (.iadd, 1) := by decide +kernel
theorem dL_worth_23 : decode cL_worth 23 = .ok (.istore_n 2, 1) := by decide +kernel
theorem dL_worth_24 : decode cL_worth 24 = .ok (.iinc 3 1, 3) := by decide +kernel
theorem dL_worth_27 : decode cL_worth 27 = .ok (.goto (-23), 3) := by decide +kernel
theorem dL_worth_30 : decode cL_worth 30 = .ok (.iload_n 2, 1) := by decide +kernel
theorem dL_worth_31 : decode cL_worth 31 = .ok (.ireturn, 1) := by decide +kernel
theorem dL_find_0 : decode cL_find 0 = .ok (.aload_n 0, 1) := by decide +kernel
theorem dL_find_1 : decode cL_find 1 = .ok (.aload_n 0, 1) := by decide +kernel
theorem dL_find_2 : decode cL_find 2 = .ok (.iload_n 1, 1) := by decide +kernel
theorem dL_find_3 : decode cL_find 3 = .ok (.iload_n 3, 1) := by decide +kernel
theorem dL_find_4 : decode cL_find 4 = .ok (.invokestatic 31, 3) := by decide +kernel
theorem dL_find_7 : decode cL_find 7 = .ok (.invokestatic 35, 3) := by decide +kernel
theorem dL_find_10 : decode cL_find 10 = .ok (.aload_n 0, 1) := by decide +kernel
theorem dL_find_11 : decode cL_find 11 = .ok (.aload_n 0, 1) := by decide +kernel
theorem dL_find_12 : decode cL_find 12 = .ok (.iload_n 2, 1) := by decide +kernel
theorem dL_find_13 : decode cL_find 13 = .ok (.iload_n 3, 1) := by decide +kernel
theorem dL_find_14 : decode cL_find 14 = .ok (.invokestatic 31, 3) := by decide +kernel
theorem dL_find_17 : decode cL_find 17 = .ok (.invokestatic 35, 3) := by decide +kernel
theorem dL_find_20 : decode cL_find 20 = .ok (.isub, 1) := by decide +kernel
theorem dL_find_21 : decode cL_find 21 = .ok (.ireturn, 1) := by decide +kernel
theorem dL_ones_0 : decode cL_ones 0 = .ok (.iconst 0, 1) := by decide +kernel
theorem dL_ones_1 : decode cL_ones 1 = .ok (.istore_n 1, 1) := by decide +kernel
theorem dL_ones_2 : decode cL_ones 2 = .ok (.iconst 0, 1) := by decide +kernel
theorem dL_ones_3 : decode cL_ones 3 = .ok (.istore_n 2, 1) := by decide +kernel
theorem dL_ones_4 : decode cL_ones 4 = .ok (.iload_n 2, 1) := by decide +kernel
theorem dL_ones_5 : decode cL_ones 5 = .ok (.bipush 10, 2) := by decide +kernel
theorem dL_ones_7 : decode cL_ones 7 = .ok (.if_icmp .ge 17, 3) := by decide +kernel
theorem dL_ones_10 : decode cL_ones 10 = .ok (.iload_n 1, 1) := by decide +kernel
theorem dL_ones_11 : decode cL_ones 11 = .ok (.iload_n 0, 1) := by decide +kernel
theorem dL_ones_12 : decode cL_ones 12 = .ok (.iload_n 2, 1) := by decide +kernel
theorem dL_ones_13 : decode cL_ones 13 = .ok (.ishr, 1) := by decide +kernel
theorem dL_ones_14 : decode cL_ones 14 = .ok (.iconst 1, 1) := by decide +kernel
theorem dL_ones_15 : decode cL_ones 15 = .ok (.iand, 1) := by decide +kernel
theorem dL_ones_16 : decode cL_ones 16 = .ok (.iadd, 1) := by decide +kernel
theorem dL_ones_17 : decode cL_ones 17 = .ok (.istore_n 1, 1) := by decide +kernel
theorem dL_ones_18 : decode cL_ones 18 = .ok (.iinc 2 1, 3) := by decide +kernel
theorem dL_ones_21 : decode cL_ones 21 = .ok (.goto (-17), 3) := by decide +kernel
theorem dL_ones_24 : decode cL_ones 24 = .ok (.iload_n 1, 1) := by decide +kernel
theorem dL_ones_25 : decode cL_ones 25 = .ok (.ireturn, 1) := by decide +kernel
theorem dL_act_0 : decode cL_act 0 = .ok (.iload_n 1, 1) := by decide +kernel
theorem dL_act_1 : decode cL_act 1 = .ok (.bipush 16, 2) := by decide +kernel
theorem dL_act_3 : decode cL_act 3 = .ok (.irem, 1) := by decide +kernel
theorem dL_act_4 : decode cL_act 4 = .ok (.istore_n 3, 1) := by decide +kernel
theorem dL_act_5 : decode cL_act 5 = .ok (.iload_n 1, 1) := by decide +kernel
theorem dL_act_6 : decode cL_act 6 = .ok (.bipush 16, 2) := by decide +kernel
theorem dL_act_8 : decode cL_act 8 = .ok (.idiv, 1) := by decide +kernel
theorem dL_act_9 : decode cL_act 9 = .ok (.aload_n 2, 1) := by decide +kernel
theorem dL_act_10 : decode cL_act 10 = .ok (.iconst 0, 1) := by decide +kernel
theorem dL_act_11 : decode cL_act 11 = .ok (.iaload, 1) := by decide +kernel
theorem dL_act_12 : decode cL_act 12 = .ok (.irem, 1) := by decide +kernel
theorem dL_act_13 : decode cL_act 13 = .ok (.istore 4, 2) := by decide +kernel
theorem dL_act_15 : decode cL_act 15 = .ok (.bipush 14, 2) := by decide +kernel
theorem dL_act_17 : decode cL_act 17 = .ok (.iconst 3, 1) := by decide +kernel
theorem dL_act_18 : decode cL_act 18 = .ok (.iload 4, 2) := by decide +kernel
theorem dL_act_20 : decode cL_act 20 = .ok (.imul, 1) := by decide +kernel
theorem dL_act_21 : decode cL_act 21 = .ok (.iadd, 1) := by decide +kernel
theorem dL_act_22 : decode cL_act 22 = .ok (.istore 5, 2) := by decide +kernel
theorem dL_act_24 : decode cL_act 24 = .ok (.iload_n 3, 1) := by decide +kernel
theorem dL_act_25 : decode cL_act 25 = .ok (.iconst 5, 1) := by decide +kernel
theorem dL_act_26 : decode cL_act 26 = .ok (.if_icmp .ge 56, 3) := by decide +kernel
theorem dL_act_29 : decode cL_act 29 = .ok (.aload_n 2, 1) := by decide +kernel
theorem dL_act_30 : decode cL_act 30 = .ok (.iconst 1, 1) := by decide +kernel
theorem dL_act_31 : decode cL_act 31 = .ok (.aload_n 2, 1) := by decide +kernel
theorem dL_act_32 : decode cL_act 32 = .ok (.iconst 1, 1) := by decide +kernel
theorem dL_act_33 : decode cL_act 33 = .ok (.iaload, 1) := by decide +kernel
theorem dL_act_34 : decode cL_act 34 = .ok (.bipush 12, 2) := by decide +kernel
theorem dL_act_36 : decode cL_act 36 = .ok (.if_icmp .ne 7, 3) := by decide +kernel
theorem dL_act_39 : decode cL_act 39 = .ok (.iconst 0, 1) := by decide +kernel
theorem dL_act_40 : decode cL_act 40 = .ok (.goto 8, 3) := by decide +kernel
theorem dL_act_43 : decode cL_act 43 = .ok (.aload_n 2, 1) := by decide +kernel
theorem dL_act_44 : decode cL_act 44 = .ok (.iconst 1, 1) := by decide +kernel
theorem dL_act_45 : decode cL_act 45 = .ok (.iaload, 1) := by decide +kernel
theorem dL_act_46 : decode cL_act 46 = .ok (.iconst 1, 1) := by decide +kernel
theorem dL_act_47 : decode cL_act 47 = .ok (.iadd, 1) := by decide +kernel
theorem dL_act_48 : decode cL_act 48 = .ok (.iastore, 1) := by decide +kernel
theorem dL_act_49 : decode cL_act 49 = .ok (.aload_n 2, 1) := by decide +kernel
theorem dL_act_50 : decode cL_act 50 = .ok (.iconst 2, 1) := by decide +kernel
theorem dL_act_51 : decode cL_act 51 = .ok (.dup2, 1) := by decide +kernel
theorem dL_act_52 : decode cL_act 52 = .ok (.iaload, 1) := by decide +kernel
theorem dL_act_53 : decode cL_act 53 = .ok (.aload_n 2, 1) := by decide +kernel
theorem dL_act_54 : decode cL_act 54 = .ok (.iconst 1, 1) := by decide +kernel
theorem dL_act_55 : decode cL_act 55 = .ok (.iaload, 1) := by decide +kernel
theorem dL_act_56 : decode cL_act 56 = .ok (.ifCond .ne 7, 3) := by decide +kernel
theorem dL_act_59 : decode cL_act 59 = .ok (.iconst 1, 1) := by decide +kernel
theorem dL_act_60 : decode cL_act 60 = .ok (.goto 4, 3) := by decide +kernel
theorem dL_act_63 : decode cL_act 63 = .ok (.iconst 0, 1) := by decide +kernel
theorem dL_act_64 : decode cL_act 64 = .ok (.iadd, 1) := by decide +kernel
theorem dL_act_65 : decode cL_act 65 = .ok (.iastore, 1) := by decide +kernel
theorem dL_act_66 : decode cL_act 66 = .ok (.aload_n 0, 1) := by decide +kernel
theorem dL_act_67 : decode cL_act 67 = .ok (.invokevirtual 39, 3) := by decide +kernel
theorem dL_act_70 : decode cL_act 70 = .ok (.aload_n 2, 1) := by decide +kernel
theorem dL_act_71 : decode cL_act 71 = .ok (.iconst 1, 1) := by decide +kernel
theorem dL_act_72 : decode cL_act 72 = .ok (.iaload, 1) := by decide +kernel
theorem dL_act_73 : decode cL_act 73 = .ok (.if_icmp .ne 7, 3) := by decide +kernel
theorem dL_act_76 : decode cL_act 76 = .ok (.iconst 1, 1) := by decide +kernel
theorem dL_act_77 : decode cL_act 77 = .ok (.goto 4, 3) := by decide +kernel
theorem dL_act_80 : decode cL_act 80 = .ok (.iconst 0, 1) := by decide +kernel
theorem dL_act_81 : decode cL_act 81 = .ok (.ireturn, 1) := by decide +kernel
theorem dL_act_82 : decode cL_act 82 = .ok (.iload_n 3, 1) := by decide +kernel
theorem dL_act_83 : decode cL_act 83 = .ok (.bipush 8, 2) := by decide +kernel
theorem dL_act_85 : decode cL_act 85 = .ok (.if_icmp .ge 88, 3) := by decide +kernel
theorem dL_act_88 : decode cL_act 88 = .ok (.iload_n 1, 1) := by decide +kernel
theorem dL_act_89 : decode cL_act 89 = .ok (.bipush 64, 2) := by decide +kernel
theorem dL_act_91 : decode cL_act 91 = .ok (.idiv, 1) := by decide +kernel
theorem dL_act_92 : decode cL_act 92 = .ok (.iconst 2, 1) := by decide +kernel
theorem dL_act_93 : decode cL_act 93 = .ok (.irem, 1) := by decide +kernel
theorem dL_act_94 : decode cL_act 94 = .ok (.ifCond .ne 7, 3) := by decide +kernel
theorem dL_act_97 : decode cL_act 97 = .ok (.iconst (-1), 1) := by decide +kernel
theorem dL_act_98 : decode cL_act 98 = .ok (.goto 4, 3) := by decide +kernel
theorem dL_act_101 : decode cL_act 101 = .ok (.iconst 1, 1) := by decide +kernel
theorem dL_act_102 : decode cL_act 102 = .ok (.istore 6, 2) := by decide +kernel
theorem dL_act_104 : decode cL_act 104 = .ok (.aload_n 2, 1) := by decide +kernel
theorem dL_act_105 : decode cL_act 105 = .ok (.iload 5, 2) := by decide +kernel
theorem dL_act_107 : decode cL_act 107 = .ok (.iconst 2, 1) := by decide +kernel
theorem dL_act_108 : decode cL_act 108 = .ok (.iadd, 1) := by decide +kernel
theorem dL_act_109 : decode cL_act 109 = .ok (.iaload, 1) := by decide +kernel
theorem dL_act_110 : decode cL_act 110 = .ok (.iload 6, 2) := by decide +kernel
theorem dL_act_112 : decode cL_act 112 = .ok (.iadd, 1) := by decide +kernel
theorem dL_act_113 : decode cL_act 113 = .ok (.istore 7, 2) := by decide +kernel
theorem dL_act_115 : decode cL_act 115 = .ok (.iload 7, 2) := by decide +kernel
theorem dL_act_117 : decode cL_act 117 = .ok (.ifCond .lt 10, 3) := by decide +kernel
theorem dL_act_120 : decode cL_act 120 = .ok (.iload 7, 2) := by decide +kernel
theorem dL_act_122 : decode cL_act 122 = .ok (.bipush 9, 2) := by decide +kernel
theorem dL_act_124 : decode cL_act 124 = .ok (.if_icmp .le 22, 3) := by decide +kernel
theorem dL_act_127 : decode cL_act 127 = .ok (.aload_n 0, 1) := by decide +kernel
theorem dL_act_128 : decode cL_act 128 = .ok (.iload 4, 2) := by decide +kernel
theorem dL_act_130 : decode cL_act 130 = .ok (.iload 6, 2) := by decide +kernel
theorem dL_act_132 : decode cL_act 132 = .ok (.invokevirtual 42, 3) := by decide +kernel
theorem dL_act_135 : decode cL_act 135 = .ok (.bipush (-103), 2) := by decide +kernel
theorem dL_act_137 : decode cL_act 137 = .ok (.if_icmp .ne 7, 3) := by decide +kernel
theorem dL_act_140 : decode cL_act 140 = .ok (.iconst 1, 1) := by decide +kernel
theorem dL_act_141 : decode cL_act 141 = .ok (.goto 4, 3) := by decide +kernel
theorem dL_act_144 : decode cL_act 144 = .ok (.iconst 0, 1) := by decide +kernel
theorem dL_act_145 : decode cL_act 145 = .ok (.ireturn, 1) := by decide +kernel
theorem dL_act_146 : decode cL_act 146 = .ok (.aload_n 2, 1) := by decide +kernel
theorem dL_act_147 : decode cL_act 147 = .ok (.iload 5, 2) := by decide +kernel
theorem dL_act_149 : decode cL_act 149 = .ok (.iconst 2, 1) := by decide +kernel
theorem dL_act_150 : decode cL_act 150 = .ok (.iadd, 1) := by decide +kernel
theorem dL_act_151 : decode cL_act 151 = .ok (.iload 7, 2) := by decide +kernel
theorem dL_act_153 : decode cL_act 153 = .ok (.iastore, 1) := by decide +kernel
theorem dL_act_154 : decode cL_act 154 = .ok (.aload_n 0, 1) := by decide +kernel
theorem dL_act_155 : decode cL_act 155 = .ok (.iload 4, 2) := by decide +kernel
theorem dL_act_157 : decode cL_act 157 = .ok (.iload 6, 2) := by decide +kernel
theorem dL_act_159 : decode cL_act 159 = .ok (.invokevirtual 42, 3) := by decide +kernel
theorem dL_act_162 : decode cL_act 162 = .ok (.iload 7, 2) := by decide +kernel
theorem dL_act_164 : decode cL_act 164 = .ok (.if_icmp .ne 7, 3) := by decide +kernel
theorem dL_act_167 : decode cL_act 167 = .ok (.iconst 1, 1) := by decide +kernel
theorem dL_act_168 : decode cL_act 168 = .ok (.goto 4, 3) := by decide +kernel
theorem dL_act_171 : decode cL_act 171 = .ok (.iconst 0, 1) := by decide +kernel
theorem dL_act_172 : decode cL_act 172 = .ok (.ireturn, 1) := by decide +kernel
theorem dL_act_173 : decode cL_act 173 = .ok (.iload_n 3, 1) := by decide +kernel
theorem dL_act_174 : decode cL_act 174 = .ok (.bipush 10, 2) := by decide +kernel
theorem dL_act_176 : decode cL_act 176 = .ok (.if_icmp .ge 47, 3) := by decide +kernel
theorem dL_act_179 : decode cL_act 179 = .ok (.aload_n 2, 1) := by decide +kernel
theorem dL_act_180 : decode cL_act 180 = .ok (.iload 5, 2) := by decide +kernel
theorem dL_act_182 : decode cL_act 182 = .ok (.iconst 2, 1) := by decide +kernel
theorem dL_act_183 : decode cL_act 183 = .ok (.iadd, 1) := by decide +kernel
theorem dL_act_184 : decode cL_act 184 = .ok (.iaload, 1) := by decide +kernel
theorem dL_act_185 : decode cL_act 185 = .ok (.istore 6, 2) := by decide +kernel
theorem dL_act_187 : decode cL_act 187 = .ok (.aload_n 2, 1) := by decide +kernel
theorem dL_act_188 : decode cL_act 188 = .ok (.iload 5, 2) := by decide +kernel
theorem dL_act_190 : decode cL_act 190 = .ok (.iconst 2, 1) := by decide +kernel
theorem dL_act_191 : decode cL_act 191 = .ok (.iadd, 1) := by decide +kernel
theorem dL_act_192 : decode cL_act 192 = .ok (.iload_n 1, 1) := by decide +kernel
theorem dL_act_193 : decode cL_act 193 = .ok (.bipush 64, 2) := by decide +kernel
theorem dL_act_195 : decode cL_act 195 = .ok (.idiv, 1) := by decide +kernel
theorem dL_act_196 : decode cL_act 196 = .ok (.bipush 10, 2) := by decide +kernel
theorem dL_act_198 : decode cL_act 198 = .ok (.irem, 1) := by decide +kernel
theorem dL_act_199 : decode cL_act 199 = .ok (.iastore, 1) := by decide +kernel
theorem dL_act_200 : decode cL_act 200 = .ok (.aload_n 0, 1) := by decide +kernel
theorem dL_act_201 : decode cL_act 201 = .ok (.iload 4, 2) := by decide +kernel
theorem dL_act_203 : decode cL_act 203 = .ok (.aload_n 2, 1) := by decide +kernel
theorem dL_act_204 : decode cL_act 204 = .ok (.iload 5, 2) := by decide +kernel
theorem dL_act_206 : decode cL_act 206 = .ok (.iconst 2, 1) := by decide +kernel
theorem dL_act_207 : decode cL_act 207 = .ok (.iadd, 1) := by decide +kernel
theorem dL_act_208 : decode cL_act 208 = .ok (.iaload, 1) := by decide +kernel
theorem dL_act_209 : decode cL_act 209 = .ok (.invokevirtual 46, 3) := by decide +kernel
theorem dL_act_212 : decode cL_act 212 = .ok (.iload 6, 2) := by decide +kernel
theorem dL_act_214 : decode cL_act 214 = .ok (.if_icmp .ne 7, 3) := by decide +kernel
theorem dL_act_217 : decode cL_act 217 = .ok (.iconst 1, 1) := by decide +kernel
theorem dL_act_218 : decode cL_act 218 = .ok (.goto 4, 3) := by decide +kernel
theorem dL_act_221 : decode cL_act 221 = .ok (.iconst 0, 1) := by decide +kernel
theorem dL_act_222 : decode cL_act 222 = .ok (.ireturn, 1) := by decide +kernel
theorem dL_act_223 : decode cL_act 223 = .ok (.iload_n 3, 1) := by decide +kernel
theorem dL_act_224 : decode cL_act 224 = .ok (.bipush 12, 2) := by decide +kernel
theorem dL_act_226 : decode cL_act 226 = .ok (.if_icmp .ge 49, 3) := by decide +kernel
theorem dL_act_229 : decode cL_act 229 = .ok (.aload_n 2, 1) := by decide +kernel
theorem dL_act_230 : decode cL_act 230 = .ok (.iload 5, 2) := by decide +kernel
theorem dL_act_232 : decode cL_act 232 = .ok (.iconst 1, 1) := by decide +kernel
theorem dL_act_233 : decode cL_act 233 = .ok (.iadd, 1) := by decide +kernel
theorem dL_act_234 : decode cL_act 234 = .ok (.iaload, 1) := by decide +kernel
theorem dL_act_235 : decode cL_act 235 = .ok (.istore 6, 2) := by decide +kernel
theorem dL_act_237 : decode cL_act 237 = .ok (.aload_n 2, 1) := by decide +kernel
theorem dL_act_238 : decode cL_act 238 = .ok (.iload 5, 2) := by decide +kernel
theorem dL_act_240 : decode cL_act 240 = .ok (.iconst 1, 1) := by decide +kernel
theorem dL_act_241 : decode cL_act 241 = .ok (.iadd, 1) := by decide +kernel
theorem dL_act_242 : decode cL_act 242 = .ok (.iconst 1, 1) := by decide +kernel
theorem dL_act_243 : decode cL_act 243 = .ok (.iload_n 1, 1) := by decide +kernel
theorem dL_act_244 : decode cL_act 244 = .ok (.bipush 64, 2) := by decide +kernel
theorem dL_act_246 : decode cL_act 246 = .ok (.idiv, 1) := by decide +kernel
theorem dL_act_247 : decode cL_act 247 = .ok (.bipush 9, 2) := by decide +kernel
theorem dL_act_249 : decode cL_act 249 = .ok (.irem, 1) := by decide +kernel
theorem dL_act_250 : decode cL_act 250 = .ok (.iadd, 1) := by decide +kernel
theorem dL_act_251 : decode cL_act 251 = .ok (.iastore, 1) := by decide +kernel
theorem dL_act_252 : decode cL_act 252 = .ok (.aload_n 0, 1) := by decide +kernel
theorem dL_act_253 : decode cL_act 253 = .ok (.iload 4, 2) := by decide +kernel
theorem dL_act_255 : decode cL_act 255 = .ok (.aload_n 2, 1) := by decide +kernel
theorem dL_act_256 : decode cL_act 256 = .ok (.iload 5, 2) := by decide +kernel
theorem dL_act_258 : decode cL_act 258 = .ok (.iconst 1, 1) := by decide +kernel
theorem dL_act_259 : decode cL_act 259 = .ok (.iadd, 1) := by decide +kernel
theorem dL_act_260 : decode cL_act 260 = .ok (.iaload, 1) := by decide +kernel
theorem dL_act_261 : decode cL_act 261 = .ok (.invokevirtual 49, 3) := by decide +kernel
theorem dL_act_264 : decode cL_act 264 = .ok (.iload 6, 2) := by decide +kernel
theorem dL_act_266 : decode cL_act 266 = .ok (.if_icmp .ne 7, 3) := by decide +kernel
theorem dL_act_269 : decode cL_act 269 = .ok (.iconst 1, 1) := by decide +kernel
theorem dL_act_270 : decode cL_act 270 = .ok (.goto 4, 3) := by decide +kernel
theorem dL_act_273 : decode cL_act 273 = .ok (.iconst 0, 1) := by decide +kernel
theorem dL_act_274 : decode cL_act 274 = .ok (.ireturn, 1) := by decide +kernel
theorem dL_act_275 : decode cL_act 275 = .ok (.iload_n 3, 1) := by decide +kernel
theorem dL_act_276 : decode cL_act 276 = .ok (.bipush 13, 2) := by decide +kernel
theorem dL_act_278 : decode cL_act 278 = .ok (.if_icmp .ge 57, 3) := by decide +kernel
theorem dL_act_281 : decode cL_act 281 = .ok (.iload_n 1, 1) := by decide +kernel
theorem dL_act_282 : decode cL_act 282 = .ok (.bipush 64, 2) := by decide +kernel
theorem dL_act_284 : decode cL_act 284 = .ok (.idiv, 1) := by decide +kernel
theorem dL_act_285 : decode cL_act 285 = .ok (.bipush 10, 2) := by decide +kernel
theorem dL_act_287 : decode cL_act 287 = .ok (.irem, 1) := by decide +kernel
theorem dL_act_288 : decode cL_act 288 = .ok (.istore 6, 2) := by decide +kernel
theorem dL_act_290 : decode cL_act 290 = .ok (.aload_n 2, 1) := by decide +kernel
theorem dL_act_291 : decode cL_act 291 = .ok (.iconst 4, 1) := by decide +kernel
theorem dL_act_292 : decode cL_act 292 = .ok (.iload 6, 2) := by decide +kernel
theorem dL_act_294 : decode cL_act 294 = .ok (.iadd, 1) := by decide +kernel
theorem dL_act_295 : decode cL_act 295 = .ok (.iaload, 1) := by decide +kernel
theorem dL_act_296 : decode cL_act 296 = .ok (.istore 7, 2) := by decide +kernel
theorem dL_act_298 : decode cL_act 298 = .ok (.aload_n 2, 1) := by decide +kernel
theorem dL_act_299 : decode cL_act 299 = .ok (.iconst 4, 1) := by decide +kernel
theorem dL_act_300 : decode cL_act 300 = .ok (.iload 6, 2) := by decide +kernel
theorem dL_act_302 : decode cL_act 302 = .ok (.iadd, 1) := by decide +kernel
theorem dL_act_303 : decode cL_act 303 = .ok (.iload_n 1, 1) := by decide +kernel
theorem dL_act_304 : decode cL_act 304 = .ok (.sipush 1024, 3) := by decide +kernel
theorem dL_act_307 : decode cL_act 307 = .ok (.idiv, 1) := by decide +kernel
theorem dL_act_308 : decode cL_act 308 = .ok (.bipush 10, 2) := by decide +kernel
theorem dL_act_310 : decode cL_act 310 = .ok (.irem, 1) := by decide +kernel
theorem dL_act_311 : decode cL_act 311 = .ok (.iastore, 1) := by decide +kernel
theorem dL_act_312 : decode cL_act 312 = .ok (.aload_n 0, 1) := by decide +kernel
theorem dL_act_313 : decode cL_act 313 = .ok (.iload 6, 2) := by decide +kernel
theorem dL_act_315 : decode cL_act 315 = .ok (.aload_n 2, 1) := by decide +kernel
theorem dL_act_316 : decode cL_act 316 = .ok (.iconst 4, 1) := by decide +kernel
theorem dL_act_317 : decode cL_act 317 = .ok (.iload 6, 2) := by decide +kernel
theorem dL_act_319 : decode cL_act 319 = .ok (.iadd, 1) := by decide +kernel
theorem dL_act_320 : decode cL_act 320 = .ok (.iaload, 1) := by decide +kernel
theorem dL_act_321 : decode cL_act 321 = .ok (.invokevirtual 52, 3) := by decide +kernel
theorem dL_act_324 : decode cL_act 324 = .ok (.iload 7, 2) := by decide +kernel
theorem dL_act_326 : decode cL_act 326 = .ok (.if_icmp .ne 7, 3) := by decide +kernel
theorem dL_act_329 : decode cL_act 329 = .ok (.iconst 1, 1) := by decide +kernel
theorem dL_act_330 : decode cL_act 330 = .ok (.goto 4, 3) := by decide +kernel
theorem dL_act_333 : decode cL_act 333 = .ok (.iconst 0, 1) := by decide +kernel
theorem dL_act_334 : decode cL_act 334 = .ok (.ireturn, 1) := by decide +kernel
theorem dL_act_335 : decode cL_act 335 = .ok (.iload_n 3, 1) := by decide +kernel
theorem dL_act_336 : decode cL_act 336 = .ok (.bipush 15, 2) := by decide +kernel
theorem dL_act_338 : decode cL_act 338 = .ok (.if_icmp .lt 12, 3) := by decide +kernel
theorem dL_act_341 : decode cL_act 341 = .ok (.iload_n 1, 1) := by decide +kernel
theorem dL_act_342 : decode cL_act 342 = .ok (.bipush 64, 2) := by decide +kernel
theorem dL_act_344 : decode cL_act 344 = .ok (.idiv, 1) := by decide +kernel
theorem dL_act_345 : decode cL_act 345 = .ok (.iconst 3, 1) := by decide +kernel
theorem dL_act_346 : decode cL_act 346 = .ok (.irem, 1) := by decide +kernel
theorem dL_act_347 : decode cL_act 347 = .ok (.ifCond .le 97, 3) := by decide +kernel
theorem dL_act_350 : decode cL_act 350 = .ok (.iload 4, 2) := by decide +kernel
theorem dL_act_352 : decode cL_act 352 = .ok (.iconst 1, 1) := by decide +kernel
theorem dL_act_353 : decode cL_act 353 = .ok (.iadd, 1) := by decide +kernel
theorem dL_act_354 : decode cL_act 354 = .ok (.iload_n 1, 1) := by decide +kernel
theorem dL_act_355 : decode cL_act 355 = .ok (.bipush 64, 2) := by decide +kernel
theorem dL_act_357 : decode cL_act 357 = .ok (.idiv, 1) := by decide +kernel
theorem dL_act_358 : decode cL_act 358 = .ok (.aload_n 2, 1) := by decide +kernel
theorem dL_act_359 : decode cL_act 359 = .ok (.iconst 0, 1) := by decide +kernel
theorem dL_act_360 : decode cL_act 360 = .ok (.iaload, 1) := by decide +kernel
theorem dL_act_361 : decode cL_act 361 = .ok (.iconst 1, 1) := by decide +kernel
theorem dL_act_362 : decode cL_act 362 = .ok (.isub, 1) := by decide +kernel
theorem dL_act_363 : decode cL_act 363 = .ok (.irem, 1) := by decide +kernel
theorem dL_act_364 : decode cL_act 364 = .ok (.iadd, 1) := by decide +kernel
theorem dL_act_365 : decode cL_act 365 = .ok (.aload_n 2, 1) := by decide +kernel
theorem dL_act_366 : decode cL_act 366 = .ok (.iconst 0, 1) := by decide +kernel
theorem dL_act_367 : decode cL_act 367 = .ok (.iaload, 1) := by decide +kernel
theorem dL_act_368 : decode cL_act 368 = .ok (.irem, 1) := by decide +kernel
theorem dL_act_369 : decode cL_act 369 = .ok (.istore 6, 2) := by decide +kernel
theorem dL_act_371 : decode cL_act 371 = .ok (.aload_n 2, 1) := by decide +kernel
theorem dL_act_372 : decode cL_act 372 = .ok (.iconst 3, 1) := by decide +kernel
theorem dL_act_373 : decode cL_act 373 = .ok (.iaload, 1) := by decide +kernel
theorem dL_act_374 : decode cL_act 374 = .ok (.iconst 5, 1) := by decide +kernel
theorem dL_act_375 : decode cL_act 375 = .ok (.if_icmp .ne 22, 3) := by decide +kernel
theorem dL_act_378 : decode cL_act 378 = .ok (.aload_n 0, 1) := by decide +kernel
theorem dL_act_379 : decode cL_act 379 = .ok (.iload 4, 2) := by decide +kernel
theorem dL_act_381 : decode cL_act 381 = .ok (.iload 6, 2) := by decide +kernel
theorem dL_act_383 : decode cL_act 383 = .ok (.invokevirtual 55, 3) := by decide +kernel
theorem dL_act_386 : decode cL_act 386 = .ok (.bipush (-104), 2) := by decide +kernel
theorem dL_act_388 : decode cL_act 388 = .ok (.if_icmp .ne 7, 3) := by decide +kernel
theorem dL_act_391 : decode cL_act 391 = .ok (.iconst 1, 1) := by decide +kernel
theorem dL_act_392 : decode cL_act 392 = .ok (.goto 4, 3) := by decide +kernel
theorem dL_act_395 : decode cL_act 395 = .ok (.iconst 0, 1) := by decide +kernel
theorem dL_act_396 : decode cL_act 396 = .ok (.ireturn, 1) := by decide +kernel
theorem dL_act_397 : decode cL_act 397 = .ok (.aload_n 2, 1) := by decide +kernel
theorem dL_act_398 : decode cL_act 398 = .ok (.bipush 29, 2) := by decide +kernel
theorem dL_act_400 : decode cL_act 400 = .ok (.aload_n 2, 1) := by decide +kernel
theorem dL_act_401 : decode cL_act 401 = .ok (.iconst 3, 1) := by decide +kernel
theorem dL_act_402 : decode cL_act 402 = .ok (.iaload, 1) := by decide +kernel
theorem dL_act_403 : decode cL_act 403 = .ok (.iadd, 1) := by decide +kernel
theorem dL_act_404 : decode cL_act 404 = .ok (.iload 4, 2) := by decide +kernel
theorem dL_act_406 : decode cL_act 406 = .ok (.iastore, 1) := by decide +kernel
theorem dL_act_407 : decode cL_act 407 = .ok (.aload_n 2, 1) := by decide +kernel
theorem dL_act_408 : decode cL_act 408 = .ok (.bipush 34, 2) := by decide +kernel
theorem dL_act_410 : decode cL_act 410 = .ok (.aload_n 2, 1) := by decide +kernel
theorem dL_act_411 : decode cL_act 411 = .ok (.iconst 3, 1) := by decide +kernel
theorem dL_act_412 : decode cL_act 412 = .ok (.iaload, 1) := by decide +kernel
theorem dL_act_413 : decode cL_act 413 = .ok (.iadd, 1) := by decide +kernel
theorem dL_act_414 : decode cL_act 414 = .ok (.iload 6, 2) := by decide +kernel
theorem dL_act_416 : decode cL_act 416 = .ok (.iastore, 1) := by decide +kernel
theorem dL_act_417 : decode cL_act 417 = .ok (.aload_n 2, 1) := by decide +kernel
theorem dL_act_418 : decode cL_act 418 = .ok (.iconst 3, 1) := by decide +kernel
theorem dL_act_419 : decode cL_act 419 = .ok (.dup2, 1) := by decide +kernel
theorem dL_act_420 : decode cL_act 420 = .ok (.iaload, 1) := by decide +kernel
theorem dL_act_421 : decode cL_act 421 = .ok (.iconst 1, 1) := by decide +kernel
theorem dL_act_422 : decode cL_act 422 = .ok (.iadd, 1) := by decide +kernel
theorem dL_act_423 : decode cL_act 423 = .ok (.iastore, 1) := by decide +kernel
theorem dL_act_424 : decode cL_act 424 = .ok (.aload_n 0, 1) := by decide +kernel
theorem dL_act_425 : decode cL_act 425 = .ok (.iload 4, 2) := by decide +kernel
theorem dL_act_427 : decode cL_act 427 = .ok (.iload 6, 2) := by decide +kernel
theorem dL_act_429 : decode cL_act 429 = .ok (.invokevirtual 55, 3) := by decide +kernel
theorem dL_act_432 : decode cL_act 432 = .ok (.aload_n 2, 1) := by decide +kernel
theorem dL_act_433 : decode cL_act 433 = .ok (.iconst 3, 1) := by decide +kernel
theorem dL_act_434 : decode cL_act 434 = .ok (.iaload, 1) := by decide +kernel
theorem dL_act_435 : decode cL_act 435 = .ok (.if_icmp .ne 7, 3) := by decide +kernel
theorem dL_act_438 : decode cL_act 438 = .ok (.iconst 1, 1) := by decide +kernel
theorem dL_act_439 : decode cL_act 439 = .ok (.goto 4, 3) := by decide +kernel
theorem dL_act_442 : decode cL_act 442 = .ok (.iconst 0, 1) := by decide +kernel
theorem dL_act_443 : decode cL_act 443 = .ok (.ireturn, 1) := by decide +kernel
theorem dL_act_444 : decode cL_act 444 = .ok (.aload_n 2, 1) := by decide +kernel
theorem dL_act_445 : decode cL_act 445 = .ok (.iconst 3, 1) := by decide +kernel
theorem dL_act_446 : decode cL_act 446 = .ok (.iaload, 1) := by decide +kernel
theorem dL_act_447 : decode cL_act 447 = .ok (.istore 6, 2) := by decide +kernel
theorem dL_act_449 : decode cL_act 449 = .ok (.aload_n 2, 1) := by decide +kernel
theorem dL_act_450 : decode cL_act 450 = .ok (.iconst 3, 1) := by decide +kernel
theorem dL_act_451 : decode cL_act 451 = .ok (.iconst 0, 1) := by decide +kernel
theorem dL_act_452 : decode cL_act 452 = .ok (.iastore, 1) := by decide +kernel
theorem dL_act_453 : decode cL_act 453 = .ok (.aload_n 0, 1) := by decide +kernel
theorem dL_act_454 : decode cL_act 454 = .ok (.invokevirtual 58, 3) := by decide +kernel
theorem dL_act_457 : decode cL_act 457 = .ok (.iload 6, 2) := by decide +kernel
theorem dL_act_459 : decode cL_act 459 = .ok (.if_icmp .ne 7, 3) := by decide +kernel
theorem dL_act_462 : decode cL_act 462 = .ok (.iconst 1, 1) := by decide +kernel
theorem dL_act_463 : decode cL_act 463 = .ok (.goto 4, 3) := by decide +kernel
theorem dL_act_466 : decode cL_act 466 = .ok (.iconst 0, 1) := by decide +kernel
theorem dL_act_467 : decode cL_act 467 = .ok (.ireturn, 1) := by decide +kernel
theorem dL_law_0 : decode cL_law 0 = .ok (.new 9, 3) := by decide +kernel
theorem dL_law_3 : decode cL_law 3 = .ok (.dup, 1) := by decide +kernel
theorem dL_law_4 : decode cL_law 4 = .ok (.invokespecial 61, 3) := by decide +kernel
theorem dL_law_7 : decode cL_law 7 = .ok (.astore_n 1, 1) := by decide +kernel
theorem dL_law_8 : decode cL_law 8 = .ok (.bipush 39, 2) := by decide +kernel
theorem dL_law_10 : decode cL_law 10 = .ok (.newarray .int, 2) := by decide +kernel
theorem dL_law_12 : decode cL_law 12 = .ok (.astore_n 2, 1) := by decide +kernel
theorem dL_law_13 : decode cL_law 13 = .ok (.iconst 0, 1) := by decide +kernel
theorem dL_law_14 : decode cL_law 14 = .ok (.istore_n 3, 1) := by decide +kernel
theorem dL_law_15 : decode cL_law 15 = .ok (.iload_n 3, 1) := by decide +kernel
theorem dL_law_16 : decode cL_law 16 = .ok (.iconst 2, 1) := by decide +kernel
theorem dL_law_17 : decode cL_law 17 = .ok (.if_icmp .ge 726, 3) := by decide +kernel
theorem dL_law_20 : decode cL_law 20 = .ok (.bipush 29, 2) := by decide +kernel
theorem dL_law_22 : decode cL_law 22 = .ok (.iload_n 3, 1) := by decide +kernel
theorem dL_law_23 : decode cL_law 23 = .ok (.imul, 1) := by decide +kernel
theorem dL_law_24 : decode cL_law 24 = .ok (.istore 4, 2) := by decide +kernel
theorem dL_law_26 : decode cL_law 26 = .ok (.aload_n 1, 1) := by decide +kernel
theorem dL_law_27 : decode cL_law 27 = .ok (.aload_n 0, 1) := by decide +kernel
theorem dL_law_28 : decode cL_law 28 = .ok (.iload 4, 2) := by decide +kernel
theorem dL_law_30 : decode cL_law 30 = .ok (.invokestatic 62, 3) := by decide +kernel
theorem dL_law_33 : decode cL_law 33 = .ok (.aload_n 0, 1) := by decide +kernel
theorem dL_law_34 : decode cL_law 34 = .ok (.iload 4, 2) := by decide +kernel
theorem dL_law_36 : decode cL_law 36 = .ok (.iconst 1, 1) := by decide +kernel
theorem dL_law_37 : decode cL_law 37 = .ok (.iadd, 1) := by decide +kernel
theorem dL_law_38 : decode cL_law 38 = .ok (.invokestatic 62, 3) := by decide +kernel
theorem dL_law_41 : decode cL_law 41 = .ok (.aload_n 0, 1) := by decide +kernel
theorem dL_law_42 : decode cL_law 42 = .ok (.iload 4, 2) := by decide +kernel
theorem dL_law_44 : decode cL_law 44 = .ok (.iconst 2, 1) := by decide +kernel
theorem dL_law_45 : decode cL_law 45 = .ok (.iadd, 1) := by decide +kernel
theorem dL_law_46 : decode cL_law 46 = .ok (.invokestatic 62, 3) := by decide +kernel
theorem dL_law_49 : decode cL_law 49 = .ok (.aload_n 2, 1) := by decide +kernel
theorem dL_law_50 : decode cL_law 50 = .ok (.invokestatic 65, 3) := by decide +kernel
theorem dL_law_53 : decode cL_law 53 = .ok (.ifCond .eq 12, 3) := by decide +kernel
theorem dL_law_56 : decode cL_law 56 = .ok (.aload_n 1, 1) := by decide +kernel
theorem dL_law_57 : decode cL_law 57 = .ok (.aload_n 2, 1) := by decide +kernel
theorem dL_law_58 : decode cL_law 58 = .ok (.iconst 3, 1) := by decide +kernel
theorem dL_law_59 : decode cL_law 59 = .ok (.invokestatic 68, 3) := by decide +kernel
theorem dL_law_62 : decode cL_law 62 = .ok (.ifCond .ne 5, 3) := by decide +kernel
theorem dL_law_65 : decode cL_law 65 = .ok (.iconst 0, 1) := by decide +kernel
theorem dL_law_66 : decode cL_law 66 = .ok (.ireturn, 1) := by decide +kernel
theorem dL_law_67 : decode cL_law 67 = .ok (.iconst 0, 1) := by decide +kernel
theorem dL_law_68 : decode cL_law 68 = .ok (.istore 5, 2) := by decide +kernel
theorem dL_law_70 : decode cL_law 70 = .ok (.iload 5, 2) := by decide +kernel
theorem dL_law_72 : decode cL_law 72 = .ok (.bipush 22, 2) := by decide +kernel
theorem dL_law_74 : decode cL_law 74 = .ok (.if_icmp .ge 302, 3) := by decide +kernel
theorem dL_law_77 : decode cL_law 77 = .ok (.aload_n 0, 1) := by decide +kernel
theorem dL_law_78 : decode cL_law 78 = .ok (.iload 4, 2) := by decide +kernel
theorem dL_law_80 : decode cL_law 80 = .ok (.iconst 3, 1) := by decide +kernel
theorem dL_law_81 : decode cL_law 81 = .ok (.iadd, 1) := by decide +kernel
theorem dL_law_82 : decode cL_law 82 = .ok (.iload 5, 2) := by decide +kernel
theorem dL_law_84 : decode cL_law 84 = .ok (.iadd, 1) := by decide +kernel
theorem dL_law_85 : decode cL_law 85 = .ok (.invokestatic 62, 3) := by decide +kernel
theorem dL_law_88 : decode cL_law 88 = .ok (.istore 6, 2) := by decide +kernel
theorem dL_law_90 : decode cL_law 90 = .ok (.aload_n 1, 1) := by decide +kernel
theorem dL_law_91 : decode cL_law 91 = .ok (.iload 6, 2) := by decide +kernel
theorem dL_law_93 : decode cL_law 93 = .ok (.aload_n 2, 1) := by decide +kernel
theorem dL_law_94 : decode cL_law 94 = .ok (.invokestatic 72, 3) := by decide +kernel
theorem dL_law_97 : decode cL_law 97 = .ok (.ifCond .eq 18, 3) := by decide +kernel
theorem dL_law_100 : decode cL_law 100 = .ok (.aload_n 1, 1) := by decide +kernel
theorem dL_law_101 : decode cL_law 101 = .ok (.aload_n 2, 1) := by decide +kernel
theorem dL_law_102 : decode cL_law 102 = .ok (.iload 6, 2) := by decide +kernel
theorem dL_law_104 : decode cL_law 104 = .ok (.iconst 4, 1) := by decide +kernel
theorem dL_law_105 : decode cL_law 105 = .ok (.idiv, 1) := by decide +kernel
theorem dL_law_106 : decode cL_law 106 = .ok (.bipush 13, 2) := by decide +kernel
theorem dL_law_108 : decode cL_law 108 = .ok (.irem, 1) := by decide +kernel
theorem dL_law_109 : decode cL_law 109 = .ok (.invokestatic 68, 3) := by decide +kernel
theorem dL_law_112 : decode cL_law 112 = .ok (.ifCond .ne 5, 3) := by decide +kernel
theorem dL_law_115 : decode cL_law 115 = .ok (.iconst 0, 1) := by decide +kernel
theorem dL_law_116 : decode cL_law 116 = .ok (.ireturn, 1) := by decide +kernel
theorem dL_law_117 : decode cL_law 117 = .ok (.iload 5, 2) := by decide +kernel
theorem dL_law_119 : decode cL_law 119 = .ok (.bipush 6, 2) := by decide +kernel
theorem dL_law_121 : decode cL_law 121 = .ok (.irem, 1) := by decide +kernel
theorem dL_law_122 : decode cL_law 122 = .ok (.iconst 5, 1) := by decide +kernel
theorem dL_law_123 : decode cL_law 123 = .ok (.if_icmp .ne 247, 3) := by decide +kernel
theorem dL_law_126 : decode cL_law 126 = .ok (.iconst 1, 1) := by decide +kernel
theorem dL_law_127 : decode cL_law 127 = .ok (.iload 6, 2) := by decide +kernel
theorem dL_law_129 : decode cL_law 129 = .ok (.sipush 512, 3) := by decide +kernel
theorem dL_law_132 : decode cL_law 132 = .ok (.idiv, 1) := by decide +kernel
theorem dL_law_133 : decode cL_law 133 = .ok (.bipush 60, 2) := by decide +kernel
theorem dL_law_135 : decode cL_law 135 = .ok (.irem, 1) := by decide +kernel
theorem dL_law_136 : decode cL_law 136 = .ok (.iadd, 1) := by decide +kernel
theorem dL_law_137 : decode cL_law 137 = .ok (.istore 7, 2) := by decide +kernel
theorem dL_law_139 : decode cL_law 139 = .ok (.aload_n 0, 1) := by decide +kernel
theorem dL_law_140 : decode cL_law 140 = .ok (.iload 4, 2) := by decide +kernel
theorem dL_law_142 : decode cL_law 142 = .ok (.bipush 24, 2) := by decide +kernel
theorem dL_law_144 : decode cL_law 144 = .ok (.iadd, 1) := by decide +kernel
theorem dL_law_145 : decode cL_law 145 = .ok (.iload 5, 2) := by decide +kernel
theorem dL_law_147 : decode cL_law 147 = .ok (.bipush 6, 2) := by decide +kernel
theorem dL_law_149 : decode cL_law 149 = .ok (.idiv, 1) := by decide +kernel
theorem dL_law_150 : decode cL_law 150 = .ok (.iadd, 1) := by decide +kernel
theorem dL_law_151 : decode cL_law 151 = .ok (.invokestatic 62, 3) := by decide +kernel
theorem dL_law_154 : decode cL_law 154 = .ok (.istore 8, 2) := by decide +kernel
theorem dL_law_156 : decode cL_law 156 = .ok (.iload 8, 2) := by decide +kernel
theorem dL_law_158 : decode cL_law 158 = .ok (.i2l, 1) := by decide +kernel
theorem dL_law_159 : decode cL_law 159 = .ok (.lstore 9, 2) := by decide +kernel
theorem dL_law_161 : decode cL_law 161 = .ok (.iconst 0, 1) := by decide +kernel
theorem dL_law_162 : decode cL_law 162 = .ok (.istore 11, 2) := by decide +kernel
theorem dL_law_164 : decode cL_law 164 = .ok (.iconst 0, 1) := by decide +kernel
theorem dL_law_165 : decode cL_law 165 = .ok (.istore 12, 2) := by decide +kernel
theorem dL_law_167 : decode cL_law 167 = .ok (.iconst 0, 1) := by decide +kernel
theorem dL_law_168 : decode cL_law 168 = .ok (.istore 13, 2) := by decide +kernel
theorem dL_law_170 : decode cL_law 170 = .ok (.iload 13, 2) := by decide +kernel
theorem dL_law_172 : decode cL_law 172 = .ok (.iload 7, 2) := by decide +kernel
theorem dL_law_174 : decode cL_law 174 = .ok (.if_icmp .ge 150, 3) := by decide +kernel
theorem dL_law_177 : decode cL_law 177 = .ok (.ldc2_w 76, 3) := by decide +kernel
theorem dL_law_180 : decode cL_law 180 = .ok (.lload 9, 2) := by decide +kernel
theorem dL_law_182 : decode cL_law 182 = .ok (.lmul, 1) := by decide +kernel
theorem dL_law_183 : decode cL_law 183 = .ok (.ldc2_w 78, 3) := by decide +kernel
theorem dL_law_186 : decode cL_law 186 = .ok (.ladd, 1) := by decide +kernel
theorem dL_law_187 : decode cL_law 187 = .ok (.ldc2_w 80, 3) := by decide +kernel
theorem dL_law_190 : decode cL_law 190 = .ok (.lrem, 1) := by decide +kernel
theorem dL_law_191 : decode cL_law 191 = .ok (.lstore 9, 2) := by decide +kernel
theorem dL_law_193 : decode cL_law 193 = .ok (.lload 9, 2) := by decide +kernel
theorem dL_law_195 : decode cL_law 195 = .ok (.ldc2_w 82, 3) := by decide +kernel
theorem dL_law_198 : decode cL_law 198 = .ok (.ldiv, 1) := by decide +kernel
theorem dL_law_199 : decode cL_law 199 = .ok (.aload_n 2, 1) := by decide +kernel
theorem dL_law_200 : decode cL_law 200 = .ok (.iconst 0, 1) := by decide +kernel
theorem dL_law_201 : decode cL_law 201 = .ok (.iaload, 1) := by decide +kernel
theorem dL_law_202 : decode cL_law 202 = .ok (.i2l, 1) := by decide +kernel
theorem dL_law_203 : decode cL_law 203 = .ok (.lrem, 1) := by decide +kernel
theorem dL_law_204 : decode cL_law 204 = .ok (.l2i, 1) := by decide +kernel
theorem dL_law_205 : decode cL_law 205 = .ok (.istore 14, 2) := by decide +kernel
theorem dL_law_207 : decode cL_law 207 = .ok (.ldc2_w 76, 3) := by decide +kernel
theorem dL_law_210 : decode cL_law 210 = .ok (.lload 9, 2) := by decide +kernel
theorem dL_law_212 : decode cL_law 212 = .ok (.lmul, 1) := by decide +kernel
theorem dL_law_213 : decode cL_law 213 = .ok (.ldc2_w 78, 3) := by decide +kernel
theorem dL_law_216 : decode cL_law 216 = .ok (.ladd, 1) := by decide +kernel
theorem dL_law_217 : decode cL_law 217 = .ok (.ldc2_w 80, 3) := by decide +kernel
theorem dL_law_220 : decode cL_law 220 = .ok (.lrem, 1) := by decide +kernel
theorem dL_law_221 : decode cL_law 221 = .ok (.lstore 9, 2) := by decide +kernel
theorem dL_law_223 : decode cL_law 223 = .ok (.lload 9, 2) := by decide +kernel
theorem dL_law_225 : decode cL_law 225 = .ok (.ldc2_w 82, 3) := by decide +kernel
theorem dL_law_228 : decode cL_law 228 = .ok (.ldiv, 1) := by decide +kernel
theorem dL_law_229 : decode cL_law 229 = .ok (.aload_n 2, 1) := by decide +kernel
theorem dL_law_230 : decode cL_law 230 = .ok (.iconst 0, 1) := by decide +kernel
theorem dL_law_231 : decode cL_law 231 = .ok (.iaload, 1) := by decide +kernel
theorem dL_law_232 : decode cL_law 232 = .ok (.i2l, 1) := by decide +kernel
theorem dL_law_233 : decode cL_law 233 = .ok (.lrem, 1) := by decide +kernel
theorem dL_law_234 : decode cL_law 234 = .ok (.l2i, 1) := by decide +kernel
theorem dL_law_235 : decode cL_law 235 = .ok (.istore 15, 2) := by decide +kernel
theorem dL_law_237 : decode cL_law 237 = .ok (.ldc2_w 76, 3) := by decide +kernel
theorem dL_law_240 : decode cL_law 240 = .ok (.lload 9, 2) := by decide +kernel
theorem dL_law_242 : decode cL_law 242 = .ok (.lmul, 1) := by decide +kernel
theorem dL_law_243 : decode cL_law 243 = .ok (.ldc2_w 78, 3) := by decide +kernel
theorem dL_law_246 : decode cL_law 246 = .ok (.ladd, 1) := by decide +kernel
theorem dL_law_247 : decode cL_law 247 = .ok (.ldc2_w 80, 3) := by decide +kernel
theorem dL_law_250 : decode cL_law 250 = .ok (.lrem, 1) := by decide +kernel
theorem dL_law_251 : decode cL_law 251 = .ok (.lstore 9, 2) := by decide +kernel
theorem dL_law_253 : decode cL_law 253 = .ok (.aload_n 2, 1) := by decide +kernel
theorem dL_law_254 : decode cL_law 254 = .ok (.iload 14, 2) := by decide +kernel
theorem dL_law_256 : decode cL_law 256 = .ok (.iload 15, 2) := by decide +kernel
theorem dL_law_258 : decode cL_law 258 = .ok (.lload 9, 2) := by decide +kernel
theorem dL_law_260 : decode cL_law 260 = .ok (.ldc2_w 82, 3) := by decide +kernel
theorem dL_law_263 : decode cL_law 263 = .ok (.ldiv, 1) := by decide +kernel
theorem dL_law_264 : decode cL_law 264 = .ok (.ldc2_w 84, 3) := by decide +kernel
theorem dL_law_267 : decode cL_law 267 = .ok (.lrem, 1) := by decide +kernel
theorem dL_law_268 : decode cL_law 268 = .ok (.l2i, 1) := by decide +kernel
theorem dL_law_269 : decode cL_law 269 = .ok (.invokestatic 86, 3) := by decide +kernel
theorem dL_law_272 : decode cL_law 272 = .ok (.istore 16, 2) := by decide +kernel
theorem dL_law_274 : decode cL_law 274 = .ok (.iload 11, 2) := by decide +kernel
theorem dL_law_276 : decode cL_law 276 = .ok (.iload 14, 2) := by decide +kernel
theorem dL_law_278 : decode cL_law 278 = .ok (.iload 15, 2) := by decide +kernel
theorem dL_law_280 : decode cL_law 280 = .ok (.if_icmp .eq 12, 3) := by decide +kernel
theorem dL_law_283 : decode cL_law 283 = .ok (.iload 16, 2) := by decide +kernel
theorem dL_law_285 : decode cL_law 285 = .ok (.ifCond .le 7, 3) := by decide +kernel
theorem dL_law_288 : decode cL_law 288 = .ok (.iconst 1, 1) := by decide +kernel
theorem dL_law_289 : decode cL_law 289 = .ok (.goto 4, 3) := by decide +kernel
theorem dL_law_292 : decode cL_law 292 = .ok (.iconst 0, 1) := by decide +kernel
theorem dL_law_293 : decode cL_law 293 = .ok (.iadd, 1) := by decide +kernel
theorem dL_law_294 : decode cL_law 294 = .ok (.istore 11, 2) := by decide +kernel
theorem dL_law_296 : decode cL_law 296 = .ok (.iload 12, 2) := by decide +kernel
theorem dL_law_298 : decode cL_law 298 = .ok (.iload 14, 2) := by decide +kernel
theorem dL_law_300 : decode cL_law 300 = .ok (.iload 15, 2) := by decide +kernel
theorem dL_law_302 : decode cL_law 302 = .ok (.if_icmp .eq 12, 3) := by decide +kernel
theorem dL_law_305 : decode cL_law 305 = .ok (.iload 16, 2) := by decide +kernel
theorem dL_law_307 : decode cL_law 307 = .ok (.ifCond .ne 7, 3) := by decide +kernel
theorem dL_law_310 : decode cL_law 310 = .ok (.iconst 1, 1) := by decide +kernel
theorem dL_law_311 : decode cL_law 311 = .ok (.goto 4, 3) := by decide +kernel
theorem dL_law_314 : decode cL_law 314 = .ok (.iconst 0, 1) := by decide +kernel
theorem dL_law_315 : decode cL_law 315 = .ok (.iadd, 1) := by decide +kernel
theorem dL_law_316 : decode cL_law 316 = .ok (.istore 12, 2) := by decide +kernel
theorem dL_law_318 : decode cL_law 318 = .ok (.iinc 13 1, 3) := by decide +kernel
theorem dL_law_321 : decode cL_law 321 = .ok (.goto (-151), 3) := by decide +kernel
theorem dL_law_324 : decode cL_law 324 = .ok (.aload_n 1, 1) := by decide +kernel
theorem dL_law_325 : decode cL_law 325 = .ok (.iload 7, 2) := by decide +kernel
theorem dL_law_327 : decode cL_law 327 = .ok (.iload 8, 2) := by decide +kernel
theorem dL_law_329 : decode cL_law 329 = .ok (.iconst 0, 1) := by decide +kernel
theorem dL_law_330 : decode cL_law 330 = .ok (.invokevirtual 90, 3) := by decide +kernel
theorem dL_law_333 : decode cL_law 333 = .ok (.iload 11, 2) := by decide +kernel
theorem dL_law_335 : decode cL_law 335 = .ok (.if_icmp .ne 33, 3) := by decide +kernel
theorem dL_law_338 : decode cL_law 338 = .ok (.aload_n 1, 1) := by decide +kernel
theorem dL_law_339 : decode cL_law 339 = .ok (.iload 7, 2) := by decide +kernel
theorem dL_law_341 : decode cL_law 341 = .ok (.iload 8, 2) := by decide +kernel
theorem dL_law_343 : decode cL_law 343 = .ok (.iconst 1, 1) := by decide +kernel
theorem dL_law_344 : decode cL_law 344 = .ok (.invokevirtual 90, 3) := by decide +kernel
theorem dL_law_347 : decode cL_law 347 = .ok (.iload 12, 2) := by decide +kernel
theorem dL_law_349 : decode cL_law 349 = .ok (.if_icmp .ne 19, 3) := by decide +kernel
theorem dL_law_352 : decode cL_law 352 = .ok (.aload_n 1, 1) := by decide +kernel
theorem dL_law_353 : decode cL_law 353 = .ok (.iload 7, 2) := by decide +kernel
theorem dL_law_355 : decode cL_law 355 = .ok (.iload 8, 2) := by decide +kernel
theorem dL_law_357 : decode cL_law 357 = .ok (.iconst 2, 1) := by decide +kernel
theorem dL_law_358 : decode cL_law 358 = .ok (.invokevirtual 90, 3) := by decide +kernel
theorem dL_law_361 : decode cL_law 361 = .ok (.i2l, 1) := by decide +kernel
theorem dL_law_362 : decode cL_law 362 = .ok (.lload 9, 2) := by decide +kernel
theorem dL_law_364 : decode cL_law 364 = .ok (.lcmp, 1) := by decide +kernel
theorem dL_law_365 : decode cL_law 365 = .ok (.ifCond .eq 5, 3) := by decide +kernel
theorem dL_law_368 : decode cL_law 368 = .ok (.iconst 0, 1) := by decide +kernel
theorem dL_law_369 : decode cL_law 369 = .ok (.ireturn, 1) := by decide +kernel
theorem dL_law_370 : decode cL_law 370 = .ok (.iinc 5 1, 3) := by decide +kernel
theorem dL_law_373 : decode cL_law 373 = .ok (.goto (-303), 3) := by decide +kernel
theorem dL_law_376 : decode cL_law 376 = .ok (.aload_n 2, 1) := by decide +kernel
theorem dL_law_377 : decode cL_law 377 = .ok (.iconst 0, 1) := by decide +kernel
theorem dL_law_378 : decode cL_law 378 = .ok (.iaload, 1) := by decide +kernel
theorem dL_law_379 : decode cL_law 379 = .ok (.istore 5, 2) := by decide +kernel
theorem dL_law_381 : decode cL_law 381 = .ok (.aload_n 1, 1) := by decide +kernel
theorem dL_law_382 : decode cL_law 382 = .ok (.iload 5, 2) := by decide +kernel
theorem dL_law_384 : decode cL_law 384 = .ok (.iconst 0, 1) := by decide +kernel
theorem dL_law_385 : decode cL_law 385 = .ok (.invokevirtual 94, 3) := by decide +kernel
theorem dL_law_388 : decode cL_law 388 = .ok (.bipush (-101), 2) := by decide +kernel
theorem dL_law_390 : decode cL_law 390 = .ok (.if_icmp .ne 345, 3) := by decide +kernel
theorem dL_law_393 : decode cL_law 393 = .ok (.aload_n 1, 1) := by decide +kernel
theorem dL_law_394 : decode cL_law 394 = .ok (.iconst 0, 1) := by decide +kernel
theorem dL_law_395 : decode cL_law 395 = .ok (.bipush 7, 2) := by decide +kernel
theorem dL_law_397 : decode cL_law 397 = .ok (.invokevirtual 94, 3) := by decide +kernel
theorem dL_law_400 : decode cL_law 400 = .ok (.bipush (-102), 2) := by decide +kernel
theorem dL_law_402 : decode cL_law 402 = .ok (.if_icmp .ne 333, 3) := by decide +kernel
theorem dL_law_405 : decode cL_law 405 = .ok (.aload_n 1, 1) := by decide +kernel
theorem dL_law_406 : decode cL_law 406 = .ok (.iconst (-1), 1) := by decide +kernel
theorem dL_law_407 : decode cL_law 407 = .ok (.iconst 0, 1) := by decide +kernel
theorem dL_law_408 : decode cL_law 408 = .ok (.invokevirtual 94, 3) := by decide +kernel
theorem dL_law_411 : decode cL_law 411 = .ok (.bipush (-101), 2) := by decide +kernel
theorem dL_law_413 : decode cL_law 413 = .ok (.if_icmp .ne 322, 3) := by decide +kernel
theorem dL_law_416 : decode cL_law 416 = .ok (.aload_n 1, 1) := by decide +kernel
theorem dL_law_417 : decode cL_law 417 = .ok (.iload 5, 2) := by decide +kernel
theorem dL_law_419 : decode cL_law 419 = .ok (.iconst 0, 1) := by decide +kernel
theorem dL_law_420 : decode cL_law 420 = .ok (.invokevirtual 97, 3) := by decide +kernel
theorem dL_law_423 : decode cL_law 423 = .ok (.bipush (-101), 2) := by decide +kernel
theorem dL_law_425 : decode cL_law 425 = .ok (.if_icmp .ne 310, 3) := by decide +kernel
theorem dL_law_428 : decode cL_law 428 = .ok (.aload_n 1, 1) := by decide +kernel
theorem dL_law_429 : decode cL_law 429 = .ok (.iconst 0, 1) := by decide +kernel
theorem dL_law_430 : decode cL_law 430 = .ok (.iconst 5, 1) := by decide +kernel
theorem dL_law_431 : decode cL_law 431 = .ok (.invokevirtual 97, 3) := by decide +kernel
theorem dL_law_434 : decode cL_law 434 = .ok (.bipush (-102), 2) := by decide +kernel
theorem dL_law_436 : decode cL_law 436 = .ok (.if_icmp .ne 299, 3) := by decide +kernel
theorem dL_law_439 : decode cL_law 439 = .ok (.aload_n 1, 1) := by decide +kernel
theorem dL_law_440 : decode cL_law 440 = .ok (.iload 5, 2) := by decide +kernel
theorem dL_law_442 : decode cL_law 442 = .ok (.iconst 0, 1) := by decide +kernel
theorem dL_law_443 : decode cL_law 443 = .ok (.invokevirtual 100, 3) := by decide +kernel
theorem dL_law_446 : decode cL_law 446 = .ok (.bipush (-101), 2) := by decide +kernel
theorem dL_law_448 : decode cL_law 448 = .ok (.if_icmp .ne 287, 3) := by decide +kernel
theorem dL_law_451 : decode cL_law 451 = .ok (.aload_n 1, 1) := by decide +kernel
theorem dL_law_452 : decode cL_law 452 = .ok (.iconst 0, 1) := by decide +kernel
theorem dL_law_453 : decode cL_law 453 = .ok (.bipush 13, 2) := by decide +kernel
theorem dL_law_455 : decode cL_law 455 = .ok (.invokevirtual 100, 3) := by decide +kernel
theorem dL_law_458 : decode cL_law 458 = .ok (.bipush (-102), 2) := by decide +kernel
theorem dL_law_460 : decode cL_law 460 = .ok (.if_icmp .ne 275, 3) := by decide +kernel
theorem dL_law_463 : decode cL_law 463 = .ok (.aload_n 1, 1) := by decide +kernel
theorem dL_law_464 : decode cL_law 464 = .ok (.iconst 0, 1) := by decide +kernel
theorem dL_law_465 : decode cL_law 465 = .ok (.iconst (-1), 1) := by decide +kernel
theorem dL_law_466 : decode cL_law 466 = .ok (.invokevirtual 100, 3) := by decide +kernel
theorem dL_law_469 : decode cL_law 469 = .ok (.bipush (-102), 2) := by decide +kernel
theorem dL_law_471 : decode cL_law 471 = .ok (.if_icmp .ne 264, 3) := by decide +kernel
theorem dL_law_474 : decode cL_law 474 = .ok (.aload_n 1, 1) := by decide +kernel
theorem dL_law_475 : decode cL_law 475 = .ok (.bipush 10, 2) := by decide +kernel
theorem dL_law_477 : decode cL_law 477 = .ok (.iconst 0, 1) := by decide +kernel
theorem dL_law_478 : decode cL_law 478 = .ok (.invokevirtual 102, 3) := by decide +kernel
theorem dL_law_481 : decode cL_law 481 = .ok (.bipush (-101), 2) := by decide +kernel
theorem dL_law_483 : decode cL_law 483 = .ok (.if_icmp .ne 252, 3) := by decide +kernel
theorem dL_law_486 : decode cL_law 486 = .ok (.aload_n 1, 1) := by decide +kernel
theorem dL_law_487 : decode cL_law 487 = .ok (.iconst (-1), 1) := by decide +kernel
theorem dL_law_488 : decode cL_law 488 = .ok (.iconst 0, 1) := by decide +kernel
theorem dL_law_489 : decode cL_law 489 = .ok (.invokevirtual 102, 3) := by decide +kernel
theorem dL_law_492 : decode cL_law 492 = .ok (.bipush (-101), 2) := by decide +kernel
theorem dL_law_494 : decode cL_law 494 = .ok (.if_icmp .ne 241, 3) := by decide +kernel
theorem dL_law_497 : decode cL_law 497 = .ok (.aload_n 1, 1) := by decide +kernel
theorem dL_law_498 : decode cL_law 498 = .ok (.iconst 0, 1) := by decide +kernel
theorem dL_law_499 : decode cL_law 499 = .ok (.iconst 3, 1) := by decide +kernel
theorem dL_law_500 : decode cL_law 500 = .ok (.invokevirtual 102, 3) := by decide +kernel
theorem dL_law_503 : decode cL_law 503 = .ok (.bipush (-102), 2) := by decide +kernel
theorem dL_law_505 : decode cL_law 505 = .ok (.if_icmp .ne 230, 3) := by decide +kernel
theorem dL_law_508 : decode cL_law 508 = .ok (.aload_n 1, 1) := by decide +kernel
theorem dL_law_509 : decode cL_law 509 = .ok (.iconst 0, 1) := by decide +kernel
theorem dL_law_510 : decode cL_law 510 = .ok (.iload 5, 2) := by decide +kernel
theorem dL_law_512 : decode cL_law 512 = .ok (.iconst 0, 1) := by decide +kernel
theorem dL_law_513 : decode cL_law 513 = .ok (.invokevirtual 105, 3) := by decide +kernel
theorem dL_law_516 : decode cL_law 516 = .ok (.bipush (-101), 2) := by decide +kernel
theorem dL_law_518 : decode cL_law 518 = .ok (.if_icmp .ne 217, 3) := by decide +kernel
theorem dL_law_521 : decode cL_law 521 = .ok (.aload_n 1, 1) := by decide +kernel
theorem dL_law_522 : decode cL_law 522 = .ok (.iconst 1, 1) := by decide +kernel
theorem dL_law_523 : decode cL_law 523 = .ok (.iconst 1, 1) := by decide +kernel
theorem dL_law_524 : decode cL_law 524 = .ok (.iconst 0, 1) := by decide +kernel
theorem dL_law_525 : decode cL_law 525 = .ok (.invokevirtual 105, 3) := by decide +kernel
theorem dL_law_528 : decode cL_law 528 = .ok (.bipush (-101), 2) := by decide +kernel
theorem dL_law_530 : decode cL_law 530 = .ok (.if_icmp .ne 205, 3) := by decide +kernel
theorem dL_law_533 : decode cL_law 533 = .ok (.aload_n 1, 1) := by decide +kernel
theorem dL_law_534 : decode cL_law 534 = .ok (.iconst 0, 1) := by decide +kernel
theorem dL_law_535 : decode cL_law 535 = .ok (.iconst 1, 1) := by decide +kernel
theorem dL_law_536 : decode cL_law 536 = .ok (.bipush 13, 2) := by decide +kernel
theorem dL_law_538 : decode cL_law 538 = .ok (.invokevirtual 105, 3) := by decide +kernel
theorem dL_law_541 : decode cL_law 541 = .ok (.bipush (-102), 2) := by decide +kernel
theorem dL_law_543 : decode cL_law 543 = .ok (.if_icmp .ne 192, 3) := by decide +kernel
theorem dL_law_546 : decode cL_law 546 = .ok (.aload_n 1, 1) := by decide +kernel
theorem dL_law_547 : decode cL_law 547 = .ok (.iload 5, 2) := by decide +kernel
theorem dL_law_549 : decode cL_law 549 = .ok (.iconst 1, 1) := by decide +kernel
theorem dL_law_550 : decode cL_law 550 = .ok (.invokevirtual 42, 3) := by decide +kernel
theorem dL_law_553 : decode cL_law 553 = .ok (.bipush (-101), 2) := by decide +kernel
theorem dL_law_555 : decode cL_law 555 = .ok (.if_icmp .ne 180, 3) := by decide +kernel
theorem dL_law_558 : decode cL_law 558 = .ok (.aload_n 1, 1) := by decide +kernel
theorem dL_law_559 : decode cL_law 559 = .ok (.iconst 0, 1) := by decide +kernel
theorem dL_law_560 : decode cL_law 560 = .ok (.iconst 0, 1) := by decide +kernel
theorem dL_law_561 : decode cL_law 561 = .ok (.invokevirtual 42, 3) := by decide +kernel
theorem dL_law_564 : decode cL_law 564 = .ok (.bipush (-102), 2) := by decide +kernel
theorem dL_law_566 : decode cL_law 566 = .ok (.if_icmp .ne 169, 3) := by decide +kernel
theorem dL_law_569 : decode cL_law 569 = .ok (.aload_n 1, 1) := by decide +kernel
theorem dL_law_570 : decode cL_law 570 = .ok (.iconst 0, 1) := by decide +kernel
theorem dL_law_571 : decode cL_law 571 = .ok (.iconst 2, 1) := by decide +kernel
theorem dL_law_572 : decode cL_law 572 = .ok (.invokevirtual 42, 3) := by decide +kernel
theorem dL_law_575 : decode cL_law 575 = .ok (.bipush (-102), 2) := by decide +kernel
theorem dL_law_577 : decode cL_law 577 = .ok (.if_icmp .ne 158, 3) := by decide +kernel
theorem dL_law_580 : decode cL_law 580 = .ok (.aload_n 1, 1) := by decide +kernel
theorem dL_law_581 : decode cL_law 581 = .ok (.iload 5, 2) := by decide +kernel
theorem dL_law_583 : decode cL_law 583 = .ok (.iconst 0, 1) := by decide +kernel
theorem dL_law_584 : decode cL_law 584 = .ok (.invokevirtual 46, 3) := by decide +kernel
theorem dL_law_587 : decode cL_law 587 = .ok (.bipush (-101), 2) := by decide +kernel
theorem dL_law_589 : decode cL_law 589 = .ok (.if_icmp .ne 146, 3) := by decide +kernel
theorem dL_law_592 : decode cL_law 592 = .ok (.aload_n 1, 1) := by decide +kernel
theorem dL_law_593 : decode cL_law 593 = .ok (.iconst 0, 1) := by decide +kernel
theorem dL_law_594 : decode cL_law 594 = .ok (.bipush 10, 2) := by decide +kernel
theorem dL_law_596 : decode cL_law 596 = .ok (.invokevirtual 46, 3) := by decide +kernel
theorem dL_law_599 : decode cL_law 599 = .ok (.bipush (-101), 2) := by decide +kernel
theorem dL_law_601 : decode cL_law 601 = .ok (.if_icmp .ne 134, 3) := by decide +kernel
theorem dL_law_604 : decode cL_law 604 = .ok (.aload_n 1, 1) := by decide +kernel
theorem dL_law_605 : decode cL_law 605 = .ok (.iload 5, 2) := by decide +kernel
theorem dL_law_607 : decode cL_law 607 = .ok (.iconst 1, 1) := by decide +kernel
theorem dL_law_608 : decode cL_law 608 = .ok (.invokevirtual 49, 3) := by decide +kernel
theorem dL_law_611 : decode cL_law 611 = .ok (.bipush (-101), 2) := by decide +kernel
theorem dL_law_613 : decode cL_law 613 = .ok (.if_icmp .ne 122, 3) := by decide +kernel
theorem dL_law_616 : decode cL_law 616 = .ok (.aload_n 1, 1) := by decide +kernel
theorem dL_law_617 : decode cL_law 617 = .ok (.iconst 0, 1) := by decide +kernel
theorem dL_law_618 : decode cL_law 618 = .ok (.iconst 0, 1) := by decide +kernel
theorem dL_law_619 : decode cL_law 619 = .ok (.invokevirtual 49, 3) := by decide +kernel
theorem dL_law_622 : decode cL_law 622 = .ok (.bipush (-102), 2) := by decide +kernel
theorem dL_law_624 : decode cL_law 624 = .ok (.if_icmp .ne 111, 3) := by decide +kernel
theorem dL_law_627 : decode cL_law 627 = .ok (.aload_n 1, 1) := by decide +kernel
theorem dL_law_628 : decode cL_law 628 = .ok (.iconst 0, 1) := by decide +kernel
theorem dL_law_629 : decode cL_law 629 = .ok (.bipush 10, 2) := by decide +kernel
theorem dL_law_631 : decode cL_law 631 = .ok (.invokevirtual 49, 3) := by decide +kernel
theorem dL_law_634 : decode cL_law 634 = .ok (.bipush (-102), 2) := by decide +kernel
theorem dL_law_636 : decode cL_law 636 = .ok (.if_icmp .ne 99, 3) := by decide +kernel
theorem dL_law_639 : decode cL_law 639 = .ok (.aload_n 1, 1) := by decide +kernel
theorem dL_law_640 : decode cL_law 640 = .ok (.bipush 10, 2) := by decide +kernel
theorem dL_law_642 : decode cL_law 642 = .ok (.iconst 0, 1) := by decide +kernel
theorem dL_law_643 : decode cL_law 643 = .ok (.invokevirtual 52, 3) := by decide +kernel
theorem dL_law_646 : decode cL_law 646 = .ok (.bipush (-101), 2) := by decide +kernel
theorem dL_law_648 : decode cL_law 648 = .ok (.if_icmp .ne 87, 3) := by decide +kernel
theorem dL_law_651 : decode cL_law 651 = .ok (.aload_n 1, 1) := by decide +kernel
theorem dL_law_652 : decode cL_law 652 = .ok (.iconst 0, 1) := by decide +kernel
theorem dL_law_653 : decode cL_law 653 = .ok (.bipush 10, 2) := by decide +kernel
theorem dL_law_655 : decode cL_law 655 = .ok (.invokevirtual 52, 3) := by decide +kernel
theorem dL_law_658 : decode cL_law 658 = .ok (.bipush (-102), 2) := by decide +kernel
theorem dL_law_660 : decode cL_law 660 = .ok (.if_icmp .ne 75, 3) := by decide +kernel
theorem dL_law_663 : decode cL_law 663 = .ok (.aload_n 1, 1) := by decide +kernel
theorem dL_law_664 : decode cL_law 664 = .ok (.iconst 0, 1) := by decide +kernel
theorem dL_law_665 : decode cL_law 665 = .ok (.iload 5, 2) := by decide +kernel
theorem dL_law_667 : decode cL_law 667 = .ok (.invokevirtual 55, 3) := by decide +kernel
theorem dL_law_670 : decode cL_law 670 = .ok (.bipush (-101), 2) := by decide +kernel
theorem dL_law_672 : decode cL_law 672 = .ok (.if_icmp .ne 63, 3) := by decide +kernel
theorem dL_law_675 : decode cL_law 675 = .ok (.aload_n 1, 1) := by decide +kernel
theorem dL_law_676 : decode cL_law 676 = .ok (.iconst 1, 1) := by decide +kernel
theorem dL_law_677 : decode cL_law 677 = .ok (.iconst 1, 1) := by decide +kernel
theorem dL_law_678 : decode cL_law 678 = .ok (.invokevirtual 55, 3) := by decide +kernel
theorem dL_law_681 : decode cL_law 681 = .ok (.bipush (-101), 2) := by decide +kernel
theorem dL_law_683 : decode cL_law 683 = .ok (.if_icmp .ne 52, 3) := by decide +kernel
theorem dL_law_686 : decode cL_law 686 = .ok (.aload_n 1, 1) := by decide +kernel
theorem dL_law_687 : decode cL_law 687 = .ok (.iconst 0, 1) := by decide +kernel
theorem dL_law_688 : decode cL_law 688 = .ok (.iconst 1, 1) := by decide +kernel
theorem dL_law_689 : decode cL_law 689 = .ok (.iconst 0, 1) := by decide +kernel
theorem dL_law_690 : decode cL_law 690 = .ok (.invokevirtual 90, 3) := by decide +kernel
theorem dL_law_693 : decode cL_law 693 = .ok (.bipush (-102), 2) := by decide +kernel
theorem dL_law_695 : decode cL_law 695 = .ok (.if_icmp .ne 40, 3) := by decide +kernel
theorem dL_law_698 : decode cL_law 698 = .ok (.aload_n 1, 1) := by decide +kernel
theorem dL_law_699 : decode cL_law 699 = .ok (.bipush 61, 2) := by decide +kernel
theorem dL_law_701 : decode cL_law 701 = .ok (.iconst 1, 1) := by decide +kernel
theorem dL_law_702 : decode cL_law 702 = .ok (.iconst 0, 1) := by decide +kernel
theorem dL_law_703 : decode cL_law 703 = .ok (.invokevirtual 90, 3) := by decide +kernel
theorem dL_law_706 : decode cL_law 706 = .ok (.bipush (-102), 2) := by decide +kernel
theorem dL_law_708 : decode cL_law 708 = .ok (.if_icmp .ne 27, 3) := by decide +kernel
theorem dL_law_711 : decode cL_law 711 = .ok (.aload_n 1, 1) := by decide +kernel
theorem dL_law_712 : decode cL_law 712 = .ok (.iconst 1, 1) := by decide +kernel
theorem dL_law_713 : decode cL_law 713 = .ok (.iconst (-1), 1) := by decide +kernel
theorem dL_law_714 : decode cL_law 714 = .ok (.iconst 0, 1) := by decide +kernel
theorem dL_law_715 : decode cL_law 715 = .ok (.invokevirtual 90, 3) := by decide +kernel
theorem dL_law_718 : decode cL_law 718 = .ok (.bipush (-102), 2) := by decide +kernel
theorem dL_law_720 : decode cL_law 720 = .ok (.if_icmp .ne 15, 3) := by decide +kernel
theorem dL_law_723 : decode cL_law 723 = .ok (.aload_n 1, 1) := by decide +kernel
theorem dL_law_724 : decode cL_law 724 = .ok (.iconst 1, 1) := by decide +kernel
theorem dL_law_725 : decode cL_law 725 = .ok (.iconst 1, 1) := by decide +kernel
theorem dL_law_726 : decode cL_law 726 = .ok (.iconst 3, 1) := by decide +kernel
theorem dL_law_727 : decode cL_law 727 = .ok (.invokevirtual 90, 3) := by decide +kernel
theorem dL_law_730 : decode cL_law 730 = .ok (.bipush (-102), 2) := by decide +kernel
theorem dL_law_732 : decode cL_law 732 = .ok (.if_icmp .eq 5, 3) := by decide +kernel
theorem dL_law_735 : decode cL_law 735 = .ok (.iconst 0, 1) := by decide +kernel
theorem dL_law_736 : decode cL_law 736 = .ok (.ireturn, 1) := by decide +kernel
theorem dL_law_737 : decode cL_law 737 = .ok (.iinc 3 1, 3) := by decide +kernel
theorem dL_law_740 : decode cL_law 740 = .ok (.goto (-725), 3) := by decide +kernel
theorem dL_law_743 : decode cL_law 743 = .ok (.iconst 1, 1) := by decide +kernel
theorem dL_law_744 : decode cL_law 744 = .ok (.ireturn, 1) := by decide +kernel
theorem dL_told_0 : decode cL_told 0 = .ok (.iconst 0, 1) := by decide +kernel
theorem dL_told_1 : decode cL_told 1 = .ok (.istore_n 3, 1) := by decide +kernel
theorem dL_told_2 : decode cL_told 2 = .ok (.iload_n 3, 1) := by decide +kernel
theorem dL_told_3 : decode cL_told 3 = .ok (.aload_n 1, 1) := by decide +kernel
theorem dL_told_4 : decode cL_told 4 = .ok (.iconst 0, 1) := by decide +kernel
theorem dL_told_5 : decode cL_told 5 = .ok (.iaload, 1) := by decide +kernel
theorem dL_told_6 : decode cL_told 6 = .ok (.if_icmp .ge 237, 3) := by decide +kernel
theorem dL_told_9 : decode cL_told 9 = .ok (.bipush 14, 2) := by decide +kernel
theorem dL_told_11 : decode cL_told 11 = .ok (.iconst 3, 1) := by decide +kernel
theorem dL_told_12 : decode cL_told 12 = .ok (.iload_n 3, 1) := by decide +kernel
theorem dL_told_13 : decode cL_told 13 = .ok (.imul, 1) := by decide +kernel
theorem dL_told_14 : decode cL_told 14 = .ok (.iadd, 1) := by decide +kernel
theorem dL_told_15 : decode cL_told 15 = .ok (.istore 4, 2) := by decide +kernel
theorem dL_told_17 : decode cL_told 17 = .ok (.aload_n 1, 1) := by decide +kernel
theorem dL_told_18 : decode cL_told 18 = .ok (.iload_n 3, 1) := by decide +kernel
theorem dL_told_19 : decode cL_told 19 = .ok (.aload_n 1, 1) := by decide +kernel
theorem dL_told_20 : decode cL_told 20 = .ok (.iconst 1, 1) := by decide +kernel
theorem dL_told_21 : decode cL_told 21 = .ok (.iaload, 1) := by decide +kernel
theorem dL_told_22 : decode cL_told 22 = .ok (.invokestatic 31, 3) := by decide +kernel
theorem dL_told_25 : decode cL_told 25 = .ok (.istore 5, 2) := by decide +kernel
theorem dL_told_27 : decode cL_told 27 = .ok (.aload_n 0, 1) := by decide +kernel
theorem dL_told_28 : decode cL_told 28 = .ok (.iload_n 3, 1) := by decide +kernel
theorem dL_told_29 : decode cL_told 29 = .ok (.iconst 0, 1) := by decide +kernel
theorem dL_told_30 : decode cL_told 30 = .ok (.invokevirtual 94, 3) := by decide +kernel
theorem dL_told_33 : decode cL_told 33 = .ok (.aload_n 1, 1) := by decide +kernel
theorem dL_told_34 : decode cL_told 34 = .ok (.iload 4, 2) := by decide +kernel
theorem dL_told_36 : decode cL_told 36 = .ok (.iaload, 1) := by decide +kernel
theorem dL_told_37 : decode cL_told 37 = .ok (.if_icmp .ne 86, 3) := by decide +kernel
theorem dL_told_40 : decode cL_told 40 = .ok (.aload_n 0, 1) := by decide +kernel
theorem dL_told_41 : decode cL_told 41 = .ok (.iload_n 3, 1) := by decide +kernel
theorem dL_told_42 : decode cL_told 42 = .ok (.iconst 1, 1) := by decide +kernel
theorem dL_told_43 : decode cL_told 43 = .ok (.invokevirtual 94, 3) := by decide +kernel
theorem dL_told_46 : decode cL_told 46 = .ok (.aload_n 1, 1) := by decide +kernel
theorem dL_told_47 : decode cL_told 47 = .ok (.iload 4, 2) := by decide +kernel
theorem dL_told_49 : decode cL_told 49 = .ok (.iconst 1, 1) := by decide +kernel
theorem dL_told_50 : decode cL_told 50 = .ok (.iadd, 1) := by decide +kernel
theorem dL_told_51 : decode cL_told 51 = .ok (.iaload, 1) := by decide +kernel
theorem dL_told_52 : decode cL_told 52 = .ok (.if_icmp .ne 71, 3) := by decide +kernel
theorem dL_told_55 : decode cL_told 55 = .ok (.aload_n 0, 1) := by decide +kernel
theorem dL_told_56 : decode cL_told 56 = .ok (.iload_n 3, 1) := by decide +kernel
theorem dL_told_57 : decode cL_told 57 = .ok (.iconst 2, 1) := by decide +kernel
theorem dL_told_58 : decode cL_told 58 = .ok (.invokevirtual 94, 3) := by decide +kernel
theorem dL_told_61 : decode cL_told 61 = .ok (.aload_n 1, 1) := by decide +kernel
theorem dL_told_62 : decode cL_told 62 = .ok (.iload 4, 2) := by decide +kernel
theorem dL_told_64 : decode cL_told 64 = .ok (.iconst 2, 1) := by decide +kernel
theorem dL_told_65 : decode cL_told 65 = .ok (.iadd, 1) := by decide +kernel
theorem dL_told_66 : decode cL_told 66 = .ok (.iaload, 1) := by decide +kernel
theorem dL_told_67 : decode cL_told 67 = .ok (.if_icmp .ne 56, 3) := by decide +kernel
theorem dL_told_70 : decode cL_told 70 = .ok (.aload_n 0, 1) := by decide +kernel
theorem dL_told_71 : decode cL_told 71 = .ok (.iload_n 3, 1) := by decide +kernel
theorem dL_told_72 : decode cL_told 72 = .ok (.iconst 3, 1) := by decide +kernel
theorem dL_told_73 : decode cL_told 73 = .ok (.invokevirtual 94, 3) := by decide +kernel
theorem dL_told_76 : decode cL_told 76 = .ok (.iload 5, 2) := by decide +kernel
theorem dL_told_78 : decode cL_told 78 = .ok (.if_icmp .ne 45, 3) := by decide +kernel
theorem dL_told_81 : decode cL_told 81 = .ok (.aload_n 0, 1) := by decide +kernel
theorem dL_told_82 : decode cL_told 82 = .ok (.iload_n 3, 1) := by decide +kernel
theorem dL_told_83 : decode cL_told 83 = .ok (.iconst 4, 1) := by decide +kernel
theorem dL_told_84 : decode cL_told 84 = .ok (.invokevirtual 94, 3) := by decide +kernel
theorem dL_told_87 : decode cL_told 87 = .ok (.aload_n 1, 1) := by decide +kernel
theorem dL_told_88 : decode cL_told 88 = .ok (.iload 5, 2) := by decide +kernel
theorem dL_told_90 : decode cL_told 90 = .ok (.invokestatic 35, 3) := by decide +kernel
theorem dL_told_93 : decode cL_told 93 = .ok (.if_icmp .ne 30, 3) := by decide +kernel
theorem dL_told_96 : decode cL_told 96 = .ok (.aload_n 0, 1) := by decide +kernel
theorem dL_told_97 : decode cL_told 97 = .ok (.iload_n 3, 1) := by decide +kernel
theorem dL_told_98 : decode cL_told 98 = .ok (.iconst 5, 1) := by decide +kernel
theorem dL_told_99 : decode cL_told 99 = .ok (.invokevirtual 94, 3) := by decide +kernel
theorem dL_told_102 : decode cL_told 102 = .ok (.sipush 511, 3) := by decide +kernel
theorem dL_told_105 : decode cL_told 105 = .ok (.if_icmp .ne 18, 3) := by decide +kernel
theorem dL_told_108 : decode cL_told 108 = .ok (.aload_n 0, 1) := by decide +kernel
theorem dL_told_109 : decode cL_told 109 = .ok (.iload_n 3, 1) := by decide +kernel
theorem dL_told_110 : decode cL_told 110 = .ok (.iload_n 2, 1) := by decide +kernel
theorem dL_told_111 : decode cL_told 111 = .ok (.invokevirtual 100, 3) := by decide +kernel
theorem dL_told_114 : decode cL_told 114 = .ok (.aload_n 1, 1) := by decide +kernel
theorem dL_told_115 : decode cL_told 115 = .ok (.iload_n 3, 1) := by decide +kernel
theorem dL_told_116 : decode cL_told 116 = .ok (.iload_n 2, 1) := by decide +kernel
theorem dL_told_117 : decode cL_told 117 = .ok (.invokestatic 31, 3) := by decide +kernel
theorem dL_told_120 : decode cL_told 120 = .ok (.if_icmp .eq 5, 3) := by decide +kernel
theorem dL_told_123 : decode cL_told 123 = .ok (.iconst 0, 1) := by decide +kernel
theorem dL_told_124 : decode cL_told 124 = .ok (.ireturn, 1) := by decide +kernel
theorem dL_told_125 : decode cL_told 125 = .ok (.iconst 0, 1) := by decide +kernel
theorem dL_told_126 : decode cL_told 126 = .ok (.istore 6, 2) := by decide +kernel
theorem dL_told_128 : decode cL_told 128 = .ok (.iload 6, 2) := by decide +kernel
theorem dL_told_130 : decode cL_told 130 = .ok (.iconst 5, 1) := by decide +kernel
theorem dL_told_131 : decode cL_told 131 = .ok (.if_icmp .ge 54, 3) := by decide +kernel
theorem dL_told_134 : decode cL_told 134 = .ok (.aload_n 0, 1) := by decide +kernel
theorem dL_told_135 : decode cL_told 135 = .ok (.iload_n 3, 1) := by decide +kernel
theorem dL_told_136 : decode cL_told 136 = .ok (.iload 6, 2) := by decide +kernel
theorem dL_told_138 : decode cL_told 138 = .ok (.invokevirtual 97, 3) := by decide +kernel
theorem dL_told_141 : decode cL_told 141 = .ok (.iload 6, 2) := by decide +kernel
theorem dL_told_143 : decode cL_told 143 = .ok (.ifCond .eq 26, 3) := by decide +kernel
theorem dL_told_146 : decode cL_told 146 = .ok (.iload 6, 2) := by decide +kernel
theorem dL_told_148 : decode cL_told 148 = .ok (.aload_n 1, 1) := by decide +kernel
theorem dL_told_149 : decode cL_told 149 = .ok (.iload 4, 2) := by decide +kernel
theorem dL_told_151 : decode cL_told 151 = .ok (.iaload, 1) := by decide +kernel
theorem dL_told_152 : decode cL_told 152 = .ok (.if_icmp .eq 17, 3) := by decide +kernel
theorem dL_told_155 : decode cL_told 155 = .ok (.iload 6, 2) := by decide +kernel
theorem dL_told_157 : decode cL_told 157 = .ok (.iconst 1, 1) := by decide +kernel
theorem dL_told_158 : decode cL_told 158 = .ok (.if_icmp .ne 15, 3) := by decide +kernel
theorem dL_told_161 : decode cL_told 161 = .ok (.aload_n 1, 1) := by decide +kernel
theorem dL_told_162 : decode cL_told 162 = .ok (.iload 4, 2) := by decide +kernel
theorem dL_told_164 : decode cL_told 164 = .ok (.iaload, 1) := by decide +kernel
theorem dL_told_165 : decode cL_told 165 = .ok (.iconst 4, 1) := by decide +kernel
theorem dL_told_166 : decode cL_told 166 = .ok (.if_icmp .ne 7, 3) := by decide +kernel
theorem dL_told_169 : decode cL_told 169 = .ok (.iload_n 3, 1) := by decide +kernel
theorem dL_told_170 : decode cL_told 170 = .ok (.goto 4, 3) := by decide +kernel
theorem dL_told_173 : decode cL_told 173 = .ok (.iconst (-1), 1) := by decide +kernel
theorem dL_told_174 : decode cL_told 174 = .ok (.if_icmp .eq 5, 3) := by decide +kernel
theorem dL_told_177 : decode cL_told 177 = .ok (.iconst 0, 1) := by decide +kernel
theorem dL_told_178 : decode cL_told 178 = .ok (.ireturn, 1) := by decide +kernel
theorem dL_told_179 : decode cL_told 179 = .ok (.iinc 6 1, 3) := by decide +kernel
theorem dL_told_182 : decode cL_told 182 = .ok (.goto (-54), 3) := by decide +kernel
theorem dL_told_185 : decode cL_told 185 = .ok (.iconst 0, 1) := by decide +kernel
theorem dL_told_186 : decode cL_told 186 = .ok (.istore 6, 2) := by decide +kernel
theorem dL_told_188 : decode cL_told 188 = .ok (.iload 6, 2) := by decide +kernel
theorem dL_told_190 : decode cL_told 190 = .ok (.aload_n 1, 1) := by decide +kernel
theorem dL_told_191 : decode cL_told 191 = .ok (.iconst 0, 1) := by decide +kernel
theorem dL_told_192 : decode cL_told 192 = .ok (.iaload, 1) := by decide +kernel
theorem dL_told_193 : decode cL_told 193 = .ok (.if_icmp .ge 44, 3) := by decide +kernel
theorem dL_told_196 : decode cL_told 196 = .ok (.aload_n 0, 1) := by decide +kernel
theorem dL_told_197 : decode cL_told 197 = .ok (.iload_n 3, 1) := by decide +kernel
theorem dL_told_198 : decode cL_told 198 = .ok (.iload 6, 2) := by decide +kernel
theorem dL_told_200 : decode cL_told 200 = .ok (.iload_n 2, 1) := by decide +kernel
theorem dL_told_201 : decode cL_told 201 = .ok (.invokevirtual 105, 3) := by decide +kernel
theorem dL_told_204 : decode cL_told 204 = .ok (.iload_n 3, 1) := by decide +kernel
theorem dL_told_205 : decode cL_told 205 = .ok (.iload 6, 2) := by decide +kernel
theorem dL_told_207 : decode cL_told 207 = .ok (.if_icmp .ne 8, 3) := by decide +kernel
theorem dL_told_210 : decode cL_told 210 = .ok (.bipush (-101), 2) := by decide +kernel
theorem dL_told_212 : decode cL_told 212 = .ok (.goto 14, 3) := by decide +kernel
theorem dL_told_215 : decode cL_told 215 = .ok (.bipush 100, 2) := by decide +kernel
theorem dL_told_217 : decode cL_told 217 = .ok (.aload_n 1, 1) := by decide +kernel
theorem dL_told_218 : decode cL_told 218 = .ok (.iload_n 3, 1) := by decide +kernel
theorem dL_told_219 : decode cL_told 219 = .ok (.iload 6, 2) := by decide +kernel
theorem dL_told_221 : decode cL_told 221 = .ok (.iload_n 2, 1) := by decide +kernel
theorem dL_told_222 : decode cL_told 222 = .ok (.invokestatic 86, 3) := by decide +kernel
theorem dL_told_225 : decode cL_told 225 = .ok (.iadd, 1) := by decide +kernel
theorem dL_told_226 : decode cL_told 226 = .ok (.if_icmp .eq 5, 3) := by decide +kernel
theorem dL_told_229 : decode cL_told 229 = .ok (.iconst 0, 1) := by decide +kernel
theorem dL_told_230 : decode cL_told 230 = .ok (.ireturn, 1) := by decide +kernel
theorem dL_told_231 : decode cL_told 231 = .ok (.iinc 6 1, 3) := by decide +kernel
theorem dL_told_234 : decode cL_told 234 = .ok (.goto (-46), 3) := by decide +kernel
theorem dL_told_237 : decode cL_told 237 = .ok (.iinc 3 1, 3) := by decide +kernel
theorem dL_told_240 : decode cL_told 240 = .ok (.goto (-238), 3) := by decide +kernel
theorem dL_told_243 : decode cL_told 243 = .ok (.iconst 0, 1) := by decide +kernel
theorem dL_told_244 : decode cL_told 244 = .ok (.istore_n 3, 1) := by decide +kernel
theorem dL_told_245 : decode cL_told 245 = .ok (.iconst 0, 1) := by decide +kernel
theorem dL_told_246 : decode cL_told 246 = .ok (.istore 4, 2) := by decide +kernel
theorem dL_told_248 : decode cL_told 248 = .ok (.iconst 0, 1) := by decide +kernel
theorem dL_told_249 : decode cL_told 249 = .ok (.istore 5, 2) := by decide +kernel
theorem dL_told_251 : decode cL_told 251 = .ok (.iload 5, 2) := by decide +kernel
theorem dL_told_253 : decode cL_told 253 = .ok (.bipush 10, 2) := by decide +kernel
theorem dL_told_255 : decode cL_told 255 = .ok (.if_icmp .ge 167, 3) := by decide +kernel
theorem dL_told_258 : decode cL_told 258 = .ok (.iconst 0, 1) := by decide +kernel
theorem dL_told_259 : decode cL_told 259 = .ok (.istore 6, 2) := by decide +kernel
theorem dL_told_261 : decode cL_told 261 = .ok (.iconst 0, 1) := by decide +kernel
theorem dL_told_262 : decode cL_told 262 = .ok (.istore 7, 2) := by decide +kernel
theorem dL_told_264 : decode cL_told 264 = .ok (.iconst 0, 1) := by decide +kernel
theorem dL_told_265 : decode cL_told 265 = .ok (.istore 8, 2) := by decide +kernel
theorem dL_told_267 : decode cL_told 267 = .ok (.iload 8, 2) := by decide +kernel
theorem dL_told_269 : decode cL_told 269 = .ok (.aload_n 1, 1) := by decide +kernel
theorem dL_told_270 : decode cL_told 270 = .ok (.iconst 0, 1) := by decide +kernel
theorem dL_told_271 : decode cL_told 271 = .ok (.iaload, 1) := by decide +kernel
theorem dL_told_272 : decode cL_told 272 = .ok (.if_icmp .ge 67, 3) := by decide +kernel
theorem dL_told_275 : decode cL_told 275 = .ok (.iload 6, 2) := by decide +kernel
theorem dL_told_277 : decode cL_told 277 = .ok (.aload_n 1, 1) := by decide +kernel
theorem dL_told_278 : decode cL_told 278 = .ok (.bipush 16, 2) := by decide +kernel
theorem dL_told_280 : decode cL_told 280 = .ok (.iconst 3, 1) := by decide +kernel
theorem dL_told_281 : decode cL_told 281 = .ok (.iload 8, 2) := by decide +kernel
theorem dL_told_283 : decode cL_told 283 = .ok (.imul, 1) := by decide +kernel
theorem dL_told_284 : decode cL_told 284 = .ok (.iadd, 1) := by decide +kernel
theorem dL_told_285 : decode cL_told 285 = .ok (.iaload, 1) := by decide +kernel
theorem dL_told_286 : decode cL_told 286 = .ok (.iload 5, 2) := by decide +kernel
theorem dL_told_288 : decode cL_told 288 = .ok (.if_icmp .ne 10, 3) := by decide +kernel
theorem dL_told_291 : decode cL_told 291 = .ok (.iconst 1, 1) := by decide +kernel
theorem dL_told_292 : decode cL_told 292 = .ok (.iload 8, 2) := by decide +kernel
theorem dL_told_294 : decode cL_told 294 = .ok (.ishl, 1) := by decide +kernel
theorem dL_told_295 : decode cL_told 295 = .ok (.goto 4, 3) := by decide +kernel
theorem dL_told_298 : decode cL_told 298 = .ok (.iconst 0, 1) := by decide +kernel
theorem dL_told_299 : decode cL_told 299 = .ok (.ior, 1) := by decide +kernel
theorem dL_told_300 : decode cL_told 300 = .ok (.istore 6, 2) := by decide +kernel
theorem dL_told_302 : decode cL_told 302 = .ok (.iload 7, 2) := by decide +kernel
theorem dL_told_304 : decode cL_told 304 = .ok (.aload_n 1, 1) := by decide +kernel
theorem dL_told_305 : decode cL_told 305 = .ok (.iload 8, 2) := by decide +kernel
theorem dL_told_307 : decode cL_told 307 = .ok (.aload_n 1, 1) := by decide +kernel
theorem dL_told_308 : decode cL_told 308 = .ok (.iconst 1, 1) := by decide +kernel
theorem dL_told_309 : decode cL_told 309 = .ok (.iaload, 1) := by decide +kernel
theorem dL_told_310 : decode cL_told 310 = .ok (.invokestatic 31, 3) := by decide +kernel
theorem dL_told_313 : decode cL_told 313 = .ok (.iload 5, 2) := by decide +kernel
theorem dL_told_315 : decode cL_told 315 = .ok (.ishr, 1) := by decide +kernel
theorem dL_told_316 : decode cL_told 316 = .ok (.iconst 1, 1) := by decide +kernel
theorem dL_told_317 : decode cL_told 317 = .ok (.iand, 1) := by decide +kernel
theorem dL_told_318 : decode cL_told 318 = .ok (.iconst 1, 1) := by decide +kernel
theorem dL_told_319 : decode cL_told 319 = .ok (.if_icmp .ne 10, 3) := by decide +kernel
theorem dL_told_322 : decode cL_told 322 = .ok (.iconst 1, 1) := by decide +kernel
theorem dL_told_323 : decode cL_told 323 = .ok (.iload 8, 2) := by decide +kernel
theorem dL_told_325 : decode cL_told 325 = .ok (.ishl, 1) := by decide +kernel
theorem dL_told_326 : decode cL_told 326 = .ok (.goto 4, 3) := by decide +kernel
theorem dL_told_329 : decode cL_told 329 = .ok (.iconst 0, 1) := by decide +kernel
theorem dL_told_330 : decode cL_told 330 = .ok (.ior, 1) := by decide +kernel
theorem dL_told_331 : decode cL_told 331 = .ok (.istore 7, 2) := by decide +kernel
theorem dL_told_333 : decode cL_told 333 = .ok (.iinc 8 1, 3) := by decide +kernel
theorem dL_told_336 : decode cL_told 336 = .ok (.goto (-69), 3) := by decide +kernel
theorem dL_told_339 : decode cL_told 339 = .ok (.iload_n 3, 1) := by decide +kernel
theorem dL_told_340 : decode cL_told 340 = .ok (.iload 7, 2) := by decide +kernel
theorem dL_told_342 : decode cL_told 342 = .ok (.invokestatic 108, 3) := by decide +kernel
theorem dL_told_345 : decode cL_told 345 = .ok (.ifCond .le 7, 3) := by decide +kernel
theorem dL_told_348 : decode cL_told 348 = .ok (.iconst 1, 1) := by decide +kernel
theorem dL_told_349 : decode cL_told 349 = .ok (.goto 4, 3) := by decide +kernel
theorem dL_told_352 : decode cL_told 352 = .ok (.iconst 0, 1) := by decide +kernel
theorem dL_told_353 : decode cL_told 353 = .ok (.iadd, 1) := by decide +kernel
theorem dL_told_354 : decode cL_told 354 = .ok (.istore_n 3, 1) := by decide +kernel
theorem dL_told_355 : decode cL_told 355 = .ok (.iload 4, 2) := by decide +kernel
theorem dL_told_357 : decode cL_told 357 = .ok (.iload 7, 2) := by decide +kernel
theorem dL_told_359 : decode cL_told 359 = .ok (.invokestatic 108, 3) := by decide +kernel
theorem dL_told_362 : decode cL_told 362 = .ok (.iconst 1, 1) := by decide +kernel
theorem dL_told_363 : decode cL_told 363 = .ok (.if_icmp .le 7, 3) := by decide +kernel
theorem dL_told_366 : decode cL_told 366 = .ok (.iconst 1, 1) := by decide +kernel
theorem dL_told_367 : decode cL_told 367 = .ok (.goto 4, 3) := by decide +kernel
theorem dL_told_370 : decode cL_told 370 = .ok (.iconst 0, 1) := by decide +kernel
theorem dL_told_371 : decode cL_told 371 = .ok (.iadd, 1) := by decide +kernel
theorem dL_told_372 : decode cL_told 372 = .ok (.istore 4, 2) := by decide +kernel
theorem dL_told_374 : decode cL_told 374 = .ok (.aload_n 0, 1) := by decide +kernel
theorem dL_told_375 : decode cL_told 375 = .ok (.iload 5, 2) := by decide +kernel
theorem dL_told_377 : decode cL_told 377 = .ok (.iconst 0, 1) := by decide +kernel
theorem dL_told_378 : decode cL_told 378 = .ok (.invokevirtual 102, 3) := by decide +kernel
theorem dL_told_381 : decode cL_told 381 = .ok (.aload_n 1, 1) := by decide +kernel
theorem dL_told_382 : decode cL_told 382 = .ok (.iconst 4, 1) := by decide +kernel
theorem dL_told_383 : decode cL_told 383 = .ok (.iload 5, 2) := by decide +kernel
theorem dL_told_385 : decode cL_told 385 = .ok (.iadd, 1) := by decide +kernel
theorem dL_told_386 : decode cL_told 386 = .ok (.iaload, 1) := by decide +kernel
theorem dL_told_387 : decode cL_told 387 = .ok (.if_icmp .ne 27, 3) := by decide +kernel
theorem dL_told_390 : decode cL_told 390 = .ok (.aload_n 0, 1) := by decide +kernel
theorem dL_told_391 : decode cL_told 391 = .ok (.iload 5, 2) := by decide +kernel
theorem dL_told_393 : decode cL_told 393 = .ok (.iconst 1, 1) := by decide +kernel
theorem dL_told_394 : decode cL_told 394 = .ok (.invokevirtual 102, 3) := by decide +kernel
theorem dL_told_397 : decode cL_told 397 = .ok (.iload 6, 2) := by decide +kernel
theorem dL_told_399 : decode cL_told 399 = .ok (.if_icmp .ne 15, 3) := by decide +kernel
theorem dL_told_402 : decode cL_told 402 = .ok (.aload_n 0, 1) := by decide +kernel
theorem dL_told_403 : decode cL_told 403 = .ok (.iload 5, 2) := by decide +kernel
theorem dL_told_405 : decode cL_told 405 = .ok (.iconst 2, 1) := by decide +kernel
theorem dL_told_406 : decode cL_told 406 = .ok (.invokevirtual 102, 3) := by decide +kernel
theorem dL_told_409 : decode cL_told 409 = .ok (.iload 7, 2) := by decide +kernel
theorem dL_told_411 : decode cL_told 411 = .ok (.if_icmp .eq 5, 3) := by decide +kernel
theorem dL_told_414 : decode cL_told 414 = .ok (.iconst 0, 1) := by decide +kernel
theorem dL_told_415 : decode cL_told 415 = .ok (.ireturn, 1) := by decide +kernel
theorem dL_told_416 : decode cL_told 416 = .ok (.iinc 5 1, 3) := by decide +kernel
theorem dL_told_419 : decode cL_told 419 = .ok (.goto (-168), 3) := by decide +kernel
theorem dL_told_422 : decode cL_told 422 = .ok (.iconst 0, 1) := by decide +kernel
theorem dL_told_423 : decode cL_told 423 = .ok (.istore 5, 2) := by decide +kernel
theorem dL_told_425 : decode cL_told 425 = .ok (.iconst 0, 1) := by decide +kernel
theorem dL_told_426 : decode cL_told 426 = .ok (.istore 6, 2) := by decide +kernel
theorem dL_told_428 : decode cL_told 428 = .ok (.iload 6, 2) := by decide +kernel
theorem dL_told_430 : decode cL_told 430 = .ok (.aload_n 1, 1) := by decide +kernel
theorem dL_told_431 : decode cL_told 431 = .ok (.iconst 3, 1) := by decide +kernel
theorem dL_told_432 : decode cL_told 432 = .ok (.iaload, 1) := by decide +kernel
theorem dL_told_433 : decode cL_told 433 = .ok (.if_icmp .ge 43, 3) := by decide +kernel
theorem dL_told_436 : decode cL_told 436 = .ok (.iload 5, 2) := by decide +kernel
theorem dL_told_438 : decode cL_told 438 = .ok (.aload_n 1, 1) := by decide +kernel
theorem dL_told_439 : decode cL_told 439 = .ok (.aload_n 1, 1) := by decide +kernel
theorem dL_told_440 : decode cL_told 440 = .ok (.bipush 29, 2) := by decide +kernel
theorem dL_told_442 : decode cL_told 442 = .ok (.iload 6, 2) := by decide +kernel
theorem dL_told_444 : decode cL_told 444 = .ok (.iadd, 1) := by decide +kernel
theorem dL_told_445 : decode cL_told 445 = .ok (.iaload, 1) := by decide +kernel
theorem dL_told_446 : decode cL_told 446 = .ok (.aload_n 1, 1) := by decide +kernel
theorem dL_told_447 : decode cL_told 447 = .ok (.bipush 34, 2) := by decide +kernel
theorem dL_told_449 : decode cL_told 449 = .ok (.iload 6, 2) := by decide +kernel
theorem dL_told_451 : decode cL_told 451 = .ok (.iadd, 1) := by decide +kernel
theorem dL_told_452 : decode cL_told 452 = .ok (.iaload, 1) := by decide +kernel
theorem dL_told_453 : decode cL_told 453 = .ok (.aload_n 1, 1) := by decide +kernel
theorem dL_told_454 : decode cL_told 454 = .ok (.iconst 1, 1) := by decide +kernel
theorem dL_told_455 : decode cL_told 455 = .ok (.iaload, 1) := by decide +kernel
theorem dL_told_456 : decode cL_told 456 = .ok (.invokestatic 86, 3) := by decide +kernel
theorem dL_told_459 : decode cL_told 459 = .ok (.ifCond .le 7, 3) := by decide +kernel
theorem dL_told_462 : decode cL_told 462 = .ok (.iconst 1, 1) := by decide +kernel
theorem dL_told_463 : decode cL_told 463 = .ok (.goto 4, 3) := by decide +kernel
theorem dL_told_466 : decode cL_told 466 = .ok (.iconst 0, 1) := by decide +kernel
theorem dL_told_467 : decode cL_told 467 = .ok (.iadd, 1) := by decide +kernel
theorem dL_told_468 : decode cL_told 468 = .ok (.istore 5, 2) := by decide +kernel
theorem dL_told_470 : decode cL_told 470 = .ok (.iinc 6 1, 3) := by decide +kernel
theorem dL_told_473 : decode cL_told 473 = .ok (.goto (-45), 3) := by decide +kernel
theorem dL_told_476 : decode cL_told 476 = .ok (.aload_n 0, 1) := by decide +kernel
theorem dL_told_477 : decode cL_told 477 = .ok (.iconst 0, 1) := by decide +kernel
theorem dL_told_478 : decode cL_told 478 = .ok (.invokevirtual 111, 3) := by decide +kernel
theorem dL_told_481 : decode cL_told 481 = .ok (.aload_n 1, 1) := by decide +kernel
theorem dL_told_482 : decode cL_told 482 = .ok (.iconst 0, 1) := by decide +kernel
theorem dL_told_483 : decode cL_told 483 = .ok (.iaload, 1) := by decide +kernel
theorem dL_told_484 : decode cL_told 484 = .ok (.if_icmp .ne 86, 3) := by decide +kernel
theorem dL_told_487 : decode cL_told 487 = .ok (.aload_n 0, 1) := by decide +kernel
theorem dL_told_488 : decode cL_told 488 = .ok (.iconst 1, 1) := by decide +kernel
theorem dL_told_489 : decode cL_told 489 = .ok (.invokevirtual 111, 3) := by decide +kernel
theorem dL_told_492 : decode cL_told 492 = .ok (.aload_n 1, 1) := by decide +kernel
theorem dL_told_493 : decode cL_told 493 = .ok (.iconst 1, 1) := by decide +kernel
theorem dL_told_494 : decode cL_told 494 = .ok (.iaload, 1) := by decide +kernel
theorem dL_told_495 : decode cL_told 495 = .ok (.if_icmp .ne 75, 3) := by decide +kernel
theorem dL_told_498 : decode cL_told 498 = .ok (.aload_n 0, 1) := by decide +kernel
theorem dL_told_499 : decode cL_told 499 = .ok (.iconst 2, 1) := by decide +kernel
theorem dL_told_500 : decode cL_told 500 = .ok (.invokevirtual 111, 3) := by decide +kernel
theorem dL_told_503 : decode cL_told 503 = .ok (.aload_n 1, 1) := by decide +kernel
theorem dL_told_504 : decode cL_told 504 = .ok (.iconst 2, 1) := by decide +kernel
theorem dL_told_505 : decode cL_told 505 = .ok (.iaload, 1) := by decide +kernel
theorem dL_told_506 : decode cL_told 506 = .ok (.if_icmp .ne 64, 3) := by decide +kernel
theorem dL_told_509 : decode cL_told 509 = .ok (.aload_n 0, 1) := by decide +kernel
theorem dL_told_510 : decode cL_told 510 = .ok (.iconst 3, 1) := by decide +kernel
theorem dL_told_511 : decode cL_told 511 = .ok (.invokevirtual 111, 3) := by decide +kernel
theorem dL_told_514 : decode cL_told 514 = .ok (.aload_n 1, 1) := by decide +kernel
theorem dL_told_515 : decode cL_told 515 = .ok (.sipush 1023, 3) := by decide +kernel
theorem dL_told_518 : decode cL_told 518 = .ok (.invokestatic 35, 3) := by decide +kernel
theorem dL_told_521 : decode cL_told 521 = .ok (.if_icmp .ne 49, 3) := by decide +kernel
theorem dL_told_524 : decode cL_told 524 = .ok (.aload_n 0, 1) := by decide +kernel
theorem dL_told_525 : decode cL_told 525 = .ok (.iconst 4, 1) := by decide +kernel
theorem dL_told_526 : decode cL_told 526 = .ok (.invokevirtual 111, 3) := by decide +kernel
theorem dL_told_529 : decode cL_told 529 = .ok (.iload_n 3, 1) := by decide +kernel
theorem dL_told_530 : decode cL_told 530 = .ok (.if_icmp .ne 40, 3) := by decide +kernel
theorem dL_told_533 : decode cL_told 533 = .ok (.aload_n 0, 1) := by decide +kernel
theorem dL_told_534 : decode cL_told 534 = .ok (.iconst 5, 1) := by decide +kernel
theorem dL_told_535 : decode cL_told 535 = .ok (.invokevirtual 111, 3) := by decide +kernel
theorem dL_told_538 : decode cL_told 538 = .ok (.iload 4, 2) := by decide +kernel
theorem dL_told_540 : decode cL_told 540 = .ok (.if_icmp .ne 30, 3) := by decide +kernel
theorem dL_told_543 : decode cL_told 543 = .ok (.aload_n 0, 1) := by decide +kernel
theorem dL_told_544 : decode cL_told 544 = .ok (.bipush 6, 2) := by decide +kernel
theorem dL_told_546 : decode cL_told 546 = .ok (.invokevirtual 111, 3) := by decide +kernel
theorem dL_told_549 : decode cL_told 549 = .ok (.aload_n 1, 1) := by decide +kernel
theorem dL_told_550 : decode cL_told 550 = .ok (.iconst 3, 1) := by decide +kernel
theorem dL_told_551 : decode cL_told 551 = .ok (.iaload, 1) := by decide +kernel
theorem dL_told_552 : decode cL_told 552 = .ok (.if_icmp .ne 18, 3) := by decide +kernel
theorem dL_told_555 : decode cL_told 555 = .ok (.aload_n 0, 1) := by decide +kernel
theorem dL_told_556 : decode cL_told 556 = .ok (.bipush 7, 2) := by decide +kernel
theorem dL_told_558 : decode cL_told 558 = .ok (.invokevirtual 111, 3) := by decide +kernel
theorem dL_told_561 : decode cL_told 561 = .ok (.iload 5, 2) := by decide +kernel
theorem dL_told_563 : decode cL_told 563 = .ok (.if_icmp .ne 7, 3) := by decide +kernel
theorem dL_told_566 : decode cL_told 566 = .ok (.iconst 1, 1) := by decide +kernel
theorem dL_told_567 : decode cL_told 567 = .ok (.goto 4, 3) := by decide +kernel
theorem dL_told_570 : decode cL_told 570 = .ok (.iconst 0, 1) := by decide +kernel
theorem dL_told_571 : decode cL_told 571 = .ok (.ireturn, 1) := by decide +kernel
