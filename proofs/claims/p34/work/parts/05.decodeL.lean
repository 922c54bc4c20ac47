theorem dL_below_0 : decode cL_below 0 = .ok (.iload_n 0, 1) := by decide +kernel
theorem dL_below_1 : decode cL_below 1 = .ok (.ldc 7, 2) := by decide +kernel
theorem dL_below_3 : decode cL_below 3 = .ok (.iand, 1) := by decide +kernel
theorem dL_below_4 : decode cL_below 4 = .ok (.iload_n 1, 1) := by decide +kernel
theorem dL_below_5 : decode cL_below 5 = .ok (.irem, 1) := by decide +kernel
theorem dL_below_6 : decode cL_below 6 = .ok (.ireturn, 1) := by decide +kernel
theorem dL_cell_0 : decode cL_cell 0 = .ok (.iload_n 1, 1) := by decide +kernel
theorem dL_cell_1 : decode cL_cell 1 = .ok (.aload_n 0, 1) := by decide +kernel
theorem dL_cell_2 : decode cL_cell 2 = .ok (.arraylength, 1) := by decide +kernel
theorem dL_cell_3 : decode cL_cell 3 = .ok (.if_icmp .ge 9, 3) := by decide +kernel
theorem dL_cell_6 : decode cL_cell 6 = .ok (.aload_n 0, 1) := by decide +kernel
theorem dL_cell_7 : decode cL_cell 7 = .ok (.iload_n 1, 1) := by decide +kernel
theorem dL_cell_8 : decode cL_cell 8 = .ok (.iaload, 1) := by decide +kernel
theorem dL_cell_9 : decode cL_cell 9 = .ok (.goto 9, 3) := by decide +kernel
theorem dL_cell_12 : decode cL_cell 12 = .ok (.ldc 8, 2) := by decide +kernel
theorem dL_cell_14 : decode cL_cell 14 = .ok (.iload_n 1, 1) := by decide +kernel
theorem dL_cell_15 : decode cL_cell 15 = .ok (.iconst 3, 1) := by decide +kernel
theorem dL_cell_16 : decode cL_cell 16 = .ok (.iadd, 1) := by decide +kernel
theorem dL_cell_17 : decode cL_cell 17 = .ok (.imul, 1) := by decide +kernel
theorem dL_cell_18 : decode cL_cell 18 = .ok (.ireturn, 1) := by decide +kernel
theorem dL_act_0 : decode cL_act 0 = .ok (.aload_n 1, 1) := by decide +kernel
theorem dL_act_1 : decode cL_act 1 = .ok (.getfield 9, 3) := by decide +kernel
theorem dL_act_4 : decode cL_act 4 = .ok (.arraylength, 1) := by decide +kernel
theorem dL_act_5 : decode cL_act 5 = .ok (.istore_n 3, 1) := by decide +kernel
theorem dL_act_6 : decode cL_act 6 = .ok (.iload_n 2, 1) := by decide +kernel
theorem dL_act_7 : decode cL_act 7 = .ok (.bipush 9, 2) := by decide +kernel
theorem dL_act_9 : decode cL_act 9 = .ok (.ishr, 1) := by decide +kernel
theorem dL_act_10 : decode cL_act 10 = .ok (.bipush 16, 2) := by decide +kernel
theorem dL_act_12 : decode cL_act 12 = .ok (.invokestatic 15, 3) := by decide +kernel
theorem dL_act_15 : decode cL_act 15 = .ok (.istore 4, 2) := by decide +kernel
theorem dL_act_17 : decode cL_act 17 = .ok (.iload_n 3, 1) := by decide +kernel
theorem dL_act_18 : decode cL_act 18 = .ok (.ifCond .eq 8, 3) := by decide +kernel
theorem dL_act_21 : decode cL_act 21 = .ok (.iload 4, 2) := by decide +kernel
theorem dL_act_23 : decode cL_act 23 = .ok (.ifCond .ne 28, 3) := by decide +kernel
theorem dL_act_26 : decode cL_act 26 = .ok (.iload_n 3, 1) := by decide +kernel
theorem dL_act_27 : decode cL_act 27 = .ok (.iconst 4, 1) := by decide +kernel
theorem dL_act_28 : decode cL_act 28 = .ok (.if_icmp .ne 5, 3) := by decide +kernel
theorem dL_act_31 : decode cL_act 31 = .ok (.iconst 1, 1) := by decide +kernel
theorem dL_act_32 : decode cL_act 32 = .ok (.ireturn, 1) := by decide +kernel
theorem dL_act_33 : decode cL_act 33 = .ok (.aload_n 1, 1) := by decide +kernel
theorem dL_act_34 : decode cL_act 34 = .ok (.invokevirtual 21, 3) := by decide +kernel
theorem dL_act_37 : decode cL_act 37 = .ok (.aload_n 0, 1) := by decide +kernel
theorem dL_act_38 : decode cL_act 38 = .ok (.invokevirtual 24, 3) := by decide +kernel
theorem dL_act_41 : decode cL_act 41 = .ok (.iload_n 3, 1) := by decide +kernel
theorem dL_act_42 : decode cL_act 42 = .ok (.if_icmp .ne 7, 3) := by decide +kernel
theorem dL_act_45 : decode cL_act 45 = .ok (.iconst 1, 1) := by decide +kernel
theorem dL_act_46 : decode cL_act 46 = .ok (.goto 4, 3) := by decide +kernel
theorem dL_act_49 : decode cL_act 49 = .ok (.iconst 0, 1) := by decide +kernel
theorem dL_act_50 : decode cL_act 50 = .ok (.ireturn, 1) := by decide +kernel
theorem dL_act_51 : decode cL_act 51 = .ok (.iload_n 2, 1) := by decide +kernel
theorem dL_act_52 : decode cL_act 52 = .ok (.iconst 1, 1) := by decide +kernel
theorem dL_act_53 : decode cL_act 53 = .ok (.ishr, 1) := by decide +kernel
theorem dL_act_54 : decode cL_act 54 = .ok (.iload_n 3, 1) := by decide +kernel
theorem dL_act_55 : decode cL_act 55 = .ok (.invokestatic 15, 3) := by decide +kernel
theorem dL_act_58 : decode cL_act 58 = .ok (.istore 5, 2) := by decide +kernel
theorem dL_act_60 : decode cL_act 60 = .ok (.aload_n 1, 1) := by decide +kernel
theorem dL_act_61 : decode cL_act 61 = .ok (.getfield 9, 3) := by decide +kernel
theorem dL_act_64 : decode cL_act 64 = .ok (.iload 5, 2) := by decide +kernel
theorem dL_act_66 : decode cL_act 66 = .ok (.aaload, 1) := by decide +kernel
theorem dL_act_67 : decode cL_act 67 = .ok (.arraylength, 1) := by decide +kernel
theorem dL_act_68 : decode cL_act 68 = .ok (.istore 6, 2) := by decide +kernel
theorem dL_act_70 : decode cL_act 70 = .ok (.iload 6, 2) := by decide +kernel
theorem dL_act_72 : decode cL_act 72 = .ok (.ifCond .eq 10, 3) := by decide +kernel
theorem dL_act_75 : decode cL_act 75 = .ok (.iload 4, 2) := by decide +kernel
theorem dL_act_77 : decode cL_act 77 = .ok (.bipush 7, 2) := by decide +kernel
theorem dL_act_79 : decode cL_act 79 = .ok (.if_icmp .ge 165, 3) := by decide +kernel
theorem dL_act_82 : decode cL_act 82 = .ok (.iconst 5, 1) := by decide +kernel
theorem dL_act_83 : decode cL_act 83 = .ok (.newarray .int, 2) := by decide +kernel
theorem dL_act_85 : decode cL_act 85 = .ok (.dup, 1) := by decide +kernel
theorem dL_act_86 : decode cL_act 86 = .ok (.iconst 0, 1) := by decide +kernel
theorem dL_act_87 : decode cL_act 87 = .ok (.iload_n 2, 1) := by decide +kernel
theorem dL_act_88 : decode cL_act 88 = .ok (.iconst 2, 1) := by decide +kernel
theorem dL_act_89 : decode cL_act 89 = .ok (.ishr, 1) := by decide +kernel
theorem dL_act_90 : decode cL_act 90 = .ok (.iload_n 2, 1) := by decide +kernel
theorem dL_act_91 : decode cL_act 91 = .ok (.iconst 2, 1) := by decide +kernel
theorem dL_act_92 : decode cL_act 92 = .ok (.invokestatic 15, 3) := by decide +kernel
theorem dL_act_95 : decode cL_act 95 = .ok (.ifCond .ne 8, 3) := by decide +kernel
theorem dL_act_98 : decode cL_act 98 = .ok (.bipush 16, 2) := by decide +kernel
theorem dL_act_100 : decode cL_act 100 = .ok (.goto 4, 3) := by decide +kernel
theorem dL_act_103 : decode cL_act 103 = .ok (.iconst 3, 1) := by decide +kernel
theorem dL_act_104 : decode cL_act 104 = .ok (.invokestatic 15, 3) := by decide +kernel
theorem dL_act_107 : decode cL_act 107 = .ok (.iastore, 1) := by decide +kernel
theorem dL_act_108 : decode cL_act 108 = .ok (.dup, 1) := by decide +kernel
theorem dL_act_109 : decode cL_act 109 = .ok (.iconst 1, 1) := by decide +kernel
theorem dL_act_110 : decode cL_act 110 = .ok (.iload_n 2, 1) := by decide +kernel
theorem dL_act_111 : decode cL_act 111 = .ok (.iconst 4, 1) := by decide +kernel
theorem dL_act_112 : decode cL_act 112 = .ok (.ishr, 1) := by decide +kernel
theorem dL_act_113 : decode cL_act 113 = .ok (.iconst 4, 1) := by decide +kernel
theorem dL_act_114 : decode cL_act 114 = .ok (.invokestatic 15, 3) := by decide +kernel
theorem dL_act_117 : decode cL_act 117 = .ok (.iastore, 1) := by decide +kernel
theorem dL_act_118 : decode cL_act 118 = .ok (.dup, 1) := by decide +kernel
theorem dL_act_119 : decode cL_act 119 = .ok (.iconst 2, 1) := by decide +kernel
theorem dL_act_120 : decode cL_act 120 = .ok (.iload_n 2, 1) := by decide +kernel
theorem dL_act_121 : decode cL_act 121 = .ok (.iconst 5, 1) := by decide +kernel
theorem dL_act_122 : decode cL_act 122 = .ok (.ishr, 1) := by decide +kernel
theorem dL_act_123 : decode cL_act 123 = .ok (.iload_n 2, 1) := by decide +kernel
theorem dL_act_124 : decode cL_act 124 = .ok (.iconst 3, 1) := by decide +kernel
theorem dL_act_125 : decode cL_act 125 = .ok (.invokestatic 15, 3) := by decide +kernel
theorem dL_act_128 : decode cL_act 128 = .ok (.ifCond .ne 8, 3) := by decide +kernel
theorem dL_act_131 : decode cL_act 131 = .ok (.bipush 9, 2) := by decide +kernel
theorem dL_act_133 : decode cL_act 133 = .ok (.goto 4, 3) := by decide +kernel
theorem dL_act_136 : decode cL_act 136 = .ok (.iconst 3, 1) := by decide +kernel
theorem dL_act_137 : decode cL_act 137 = .ok (.invokestatic 15, 3) := by decide +kernel
theorem dL_act_140 : decode cL_act 140 = .ok (.iastore, 1) := by decide +kernel
theorem dL_act_141 : decode cL_act 141 = .ok (.dup, 1) := by decide +kernel
theorem dL_act_142 : decode cL_act 142 = .ok (.iconst 3, 1) := by decide +kernel
theorem dL_act_143 : decode cL_act 143 = .ok (.iload_n 2, 1) := by decide +kernel
theorem dL_act_144 : decode cL_act 144 = .ok (.bipush 7, 2) := by decide +kernel
theorem dL_act_146 : decode cL_act 146 = .ok (.ishr, 1) := by decide +kernel
theorem dL_act_147 : decode cL_act 147 = .ok (.iload_n 2, 1) := by decide +kernel
theorem dL_act_148 : decode cL_act 148 = .ok (.iconst 4, 1) := by decide +kernel
theorem dL_act_149 : decode cL_act 149 = .ok (.invokestatic 15, 3) := by decide +kernel
theorem dL_act_152 : decode cL_act 152 = .ok (.ifCond .ne 7, 3) := by decide +kernel
theorem dL_act_155 : decode cL_act 155 = .ok (.iconst 4, 1) := by decide +kernel
theorem dL_act_156 : decode cL_act 156 = .ok (.goto 4, 3) := by decide +kernel
theorem dL_act_159 : decode cL_act 159 = .ok (.iconst 1, 1) := by decide +kernel
theorem dL_act_160 : decode cL_act 160 = .ok (.invokestatic 15, 3) := by decide +kernel
theorem dL_act_163 : decode cL_act 163 = .ok (.iastore, 1) := by decide +kernel
theorem dL_act_164 : decode cL_act 164 = .ok (.dup, 1) := by decide +kernel
theorem dL_act_165 : decode cL_act 165 = .ok (.iconst 4, 1) := by decide +kernel
theorem dL_act_166 : decode cL_act 166 = .ok (.iload_n 2, 1) := by decide +kernel
theorem dL_act_167 : decode cL_act 167 = .ok (.iconst 3, 1) := by decide +kernel
theorem dL_act_168 : decode cL_act 168 = .ok (.ishr, 1) := by decide +kernel
theorem dL_act_169 : decode cL_act 169 = .ok (.bipush 30, 2) := by decide +kernel
theorem dL_act_171 : decode cL_act 171 = .ok (.invokestatic 15, 3) := by decide +kernel
theorem dL_act_174 : decode cL_act 174 = .ok (.iastore, 1) := by decide +kernel
theorem dL_act_175 : decode cL_act 175 = .ok (.astore 7, 2) := by decide +kernel
theorem dL_act_177 : decode cL_act 177 = .ok (.iload 6, 2) := by decide +kernel
theorem dL_act_179 : decode cL_act 179 = .ok (.bipush 16, 2) := by decide +kernel
theorem dL_act_181 : decode cL_act 181 = .ok (.if_icmp .eq 16, 3) := by decide +kernel
theorem dL_act_184 : decode cL_act 184 = .ok (.aload_n 1, 1) := by decide +kernel
theorem dL_act_185 : decode cL_act 185 = .ok (.iload 5, 2) := by decide +kernel
theorem dL_act_187 : decode cL_act 187 = .ok (.aload 7, 2) := by decide +kernel
theorem dL_act_189 : decode cL_act 189 = .ok (.iconst 4, 1) := by decide +kernel
theorem dL_act_190 : decode cL_act 190 = .ok (.iaload, 1) := by decide +kernel
theorem dL_act_191 : decode cL_act 191 = .ok (.invokevirtual 29, 3) := by decide +kernel
theorem dL_act_194 : decode cL_act 194 = .ok (.ifCond .lt 5, 3) := by decide +kernel
theorem dL_act_197 : decode cL_act 197 = .ok (.iconst 1, 1) := by decide +kernel
theorem dL_act_198 : decode cL_act 198 = .ok (.ireturn, 1) := by decide +kernel
theorem dL_act_199 : decode cL_act 199 = .ok (.aload_n 1, 1) := by decide +kernel
theorem dL_act_200 : decode cL_act 200 = .ok (.iload 5, 2) := by decide +kernel
theorem dL_act_202 : decode cL_act 202 = .ok (.aload 7, 2) := by decide +kernel
theorem dL_act_204 : decode cL_act 204 = .ok (.invokevirtual 32, 3) := by decide +kernel
theorem dL_act_207 : decode cL_act 207 = .ok (.aload_n 0, 1) := by decide +kernel
theorem dL_act_208 : decode cL_act 208 = .ok (.iload 5, 2) := by decide +kernel
theorem dL_act_210 : decode cL_act 210 = .ok (.aload 7, 2) := by decide +kernel
theorem dL_act_212 : decode cL_act 212 = .ok (.iconst 0, 1) := by decide +kernel
theorem dL_act_213 : decode cL_act 213 = .ok (.iaload, 1) := by decide +kernel
theorem dL_act_214 : decode cL_act 214 = .ok (.aload 7, 2) := by decide +kernel
theorem dL_act_216 : decode cL_act 216 = .ok (.iconst 1, 1) := by decide +kernel
theorem dL_act_217 : decode cL_act 217 = .ok (.iaload, 1) := by decide +kernel
theorem dL_act_218 : decode cL_act 218 = .ok (.aload 7, 2) := by decide +kernel
theorem dL_act_220 : decode cL_act 220 = .ok (.iconst 2, 1) := by decide +kernel
theorem dL_act_221 : decode cL_act 221 = .ok (.iaload, 1) := by decide +kernel
theorem dL_act_222 : decode cL_act 222 = .ok (.aload 7, 2) := by decide +kernel
theorem dL_act_224 : decode cL_act 224 = .ok (.iconst 3, 1) := by decide +kernel
theorem dL_act_225 : decode cL_act 225 = .ok (.iaload, 1) := by decide +kernel
theorem dL_act_226 : decode cL_act 226 = .ok (.aload 7, 2) := by decide +kernel
theorem dL_act_228 : decode cL_act 228 = .ok (.iconst 4, 1) := by decide +kernel
theorem dL_act_229 : decode cL_act 229 = .ok (.iaload, 1) := by decide +kernel
theorem dL_act_230 : decode cL_act 230 = .ok (.invokevirtual 36, 3) := by decide +kernel
theorem dL_act_233 : decode cL_act 233 = .ok (.iload 6, 2) := by decide +kernel
theorem dL_act_235 : decode cL_act 235 = .ok (.if_icmp .ne 7, 3) := by decide +kernel
theorem dL_act_238 : decode cL_act 238 = .ok (.iconst 1, 1) := by decide +kernel
theorem dL_act_239 : decode cL_act 239 = .ok (.goto 4, 3) := by decide +kernel
theorem dL_act_242 : decode cL_act 242 = .ok (.iconst 0, 1) := by decide +kernel
theorem dL_act_243 : decode cL_act 243 = .ok (.ireturn, 1) := by decide +kernel
theorem dL_act_244 : decode cL_act 244 = .ok (.iload_n 2, 1) := by decide +kernel
theorem dL_act_245 : decode cL_act 245 = .ok (.iconst 3, 1) := by decide +kernel
theorem dL_act_246 : decode cL_act 246 = .ok (.ishr, 1) := by decide +kernel
theorem dL_act_247 : decode cL_act 247 = .ok (.iload 6, 2) := by decide +kernel
theorem dL_act_249 : decode cL_act 249 = .ok (.invokestatic 15, 3) := by decide +kernel
theorem dL_act_252 : decode cL_act 252 = .ok (.istore 7, 2) := by decide +kernel
theorem dL_act_254 : decode cL_act 254 = .ok (.iload 4, 2) := by decide +kernel
theorem dL_act_256 : decode cL_act 256 = .ok (.tableswitch 256 7 10 #[32, 73, 73, 196], 32) := by decide +kernel
theorem dL_act_288 : decode cL_act 288 = .ok (.aload_n 1, 1) := by decide +kernel
theorem dL_act_289 : decode cL_act 289 = .ok (.getfield 9, 3) := by decide +kernel
theorem dL_act_292 : decode cL_act 292 = .ok (.iload 5, 2) := by decide +kernel
theorem dL_act_294 : decode cL_act 294 = .ok (.aaload, 1) := by decide +kernel
theorem dL_act_295 : decode cL_act 295 = .ok (.iload 7, 2) := by decide +kernel
theorem dL_act_297 : decode cL_act 297 = .ok (.aaload, 1) := by decide +kernel
theorem dL_act_298 : decode cL_act 298 = .ok (.iconst 4, 1) := by decide +kernel
theorem dL_act_299 : decode cL_act 299 = .ok (.iaload, 1) := by decide +kernel
theorem dL_act_300 : decode cL_act 300 = .ok (.istore 8, 2) := by decide +kernel
theorem dL_act_302 : decode cL_act 302 = .ok (.aload_n 1, 1) := by decide +kernel
theorem dL_act_303 : decode cL_act 303 = .ok (.iload 5, 2) := by decide +kernel
theorem dL_act_305 : decode cL_act 305 = .ok (.iload 7, 2) := by decide +kernel
theorem dL_act_307 : decode cL_act 307 = .ok (.invokevirtual 40, 3) := by decide +kernel
theorem dL_act_310 : decode cL_act 310 = .ok (.aload_n 0, 1) := by decide +kernel
theorem dL_act_311 : decode cL_act 311 = .ok (.iload 5, 2) := by decide +kernel
theorem dL_act_313 : decode cL_act 313 = .ok (.iload 7, 2) := by decide +kernel
theorem dL_act_315 : decode cL_act 315 = .ok (.invokevirtual 44, 3) := by decide +kernel
theorem dL_act_318 : decode cL_act 318 = .ok (.iload 8, 2) := by decide +kernel
theorem dL_act_320 : decode cL_act 320 = .ok (.if_icmp .ne 7, 3) := by decide +kernel
theorem dL_act_323 : decode cL_act 323 = .ok (.iconst 1, 1) := by decide +kernel
theorem dL_act_324 : decode cL_act 324 = .ok (.goto 4, 3) := by decide +kernel
theorem dL_act_327 : decode cL_act 327 = .ok (.iconst 0, 1) := by decide +kernel
theorem dL_act_328 : decode cL_act 328 = .ok (.ireturn, 1) := by decide +kernel
theorem dL_act_329 : decode cL_act 329 = .ok (.aload_n 1, 1) := by decide +kernel
theorem dL_act_330 : decode cL_act 330 = .ok (.getfield 9, 3) := by decide +kernel
theorem dL_act_333 : decode cL_act 333 = .ok (.iload 5, 2) := by decide +kernel
theorem dL_act_335 : decode cL_act 335 = .ok (.aaload, 1) := by decide +kernel
theorem dL_act_336 : decode cL_act 336 = .ok (.iload 7, 2) := by decide +kernel
theorem dL_act_338 : decode cL_act 338 = .ok (.aaload, 1) := by decide +kernel
theorem dL_act_339 : decode cL_act 339 = .ok (.iconst 1, 1) := by decide +kernel
theorem dL_act_340 : decode cL_act 340 = .ok (.iaload, 1) := by decide +kernel
theorem dL_act_341 : decode cL_act 341 = .ok (.istore 9, 2) := by decide +kernel
theorem dL_act_343 : decode cL_act 343 = .ok (.aload_n 1, 1) := by decide +kernel
theorem dL_act_344 : decode cL_act 344 = .ok (.getfield 9, 3) := by decide +kernel
theorem dL_act_347 : decode cL_act 347 = .ok (.iload 5, 2) := by decide +kernel
theorem dL_act_349 : decode cL_act 349 = .ok (.aaload, 1) := by decide +kernel
theorem dL_act_350 : decode cL_act 350 = .ok (.iload 7, 2) := by decide +kernel
theorem dL_act_352 : decode cL_act 352 = .ok (.iconst 5, 1) := by decide +kernel
theorem dL_act_353 : decode cL_act 353 = .ok (.newarray .int, 2) := by decide +kernel
theorem dL_act_355 : decode cL_act 355 = .ok (.dup, 1) := by decide +kernel
theorem dL_act_356 : decode cL_act 356 = .ok (.iconst 0, 1) := by decide +kernel
theorem dL_act_357 : decode cL_act 357 = .ok (.aload_n 1, 1) := by decide +kernel
theorem dL_act_358 : decode cL_act 358 = .ok (.getfield 9, 3) := by decide +kernel
theorem dL_act_361 : decode cL_act 361 = .ok (.iload 5, 2) := by decide +kernel
theorem dL_act_363 : decode cL_act 363 = .ok (.aaload, 1) := by decide +kernel
theorem dL_act_364 : decode cL_act 364 = .ok (.iload 7, 2) := by decide +kernel
theorem dL_act_366 : decode cL_act 366 = .ok (.aaload, 1) := by decide +kernel
theorem dL_act_367 : decode cL_act 367 = .ok (.iconst 0, 1) := by decide +kernel
theorem dL_act_368 : decode cL_act 368 = .ok (.iaload, 1) := by decide +kernel
theorem dL_act_369 : decode cL_act 369 = .ok (.iastore, 1) := by decide +kernel
theorem dL_act_370 : decode cL_act 370 = .ok (.dup, 1) := by decide +kernel
theorem dL_act_371 : decode cL_act 371 = .ok (.iconst 1, 1) := by decide +kernel
theorem dL_act_372 : decode cL_act 372 = .ok (.iload_n 2, 1) := by decide +kernel
theorem dL_act_373 : decode cL_act 373 = .ok (.iconst 5, 1) := by decide +kernel
theorem dL_act_374 : decode cL_act 374 = .ok (.ishr, 1) := by decide +kernel
theorem dL_act_375 : decode cL_act 375 = .ok (.iconst 4, 1) := by decide +kernel
theorem dL_act_376 : decode cL_act 376 = .ok (.invokestatic 15, 3) := by decide +kernel
theorem dL_act_379 : decode cL_act 379 = .ok (.iastore, 1) := by decide +kernel
theorem dL_act_380 : decode cL_act 380 = .ok (.dup, 1) := by decide +kernel
theorem dL_act_381 : decode cL_act 381 = .ok (.iconst 2, 1) := by decide +kernel
theorem dL_act_382 : decode cL_act 382 = .ok (.aload_n 1, 1) := by decide +kernel
theorem dL_act_383 : decode cL_act 383 = .ok (.getfield 9, 3) := by decide +kernel
theorem dL_act_386 : decode cL_act 386 = .ok (.iload 5, 2) := by decide +kernel
theorem dL_act_388 : decode cL_act 388 = .ok (.aaload, 1) := by decide +kernel
theorem dL_act_389 : decode cL_act 389 = .ok (.iload 7, 2) := by decide +kernel
theorem dL_act_391 : decode cL_act 391 = .ok (.aaload, 1) := by decide +kernel
theorem dL_act_392 : decode cL_act 392 = .ok (.iconst 2, 1) := by decide +kernel
theorem dL_act_393 : decode cL_act 393 = .ok (.iaload, 1) := by decide +kernel
theorem dL_act_394 : decode cL_act 394 = .ok (.iastore, 1) := by decide +kernel
theorem dL_act_395 : decode cL_act 395 = .ok (.dup, 1) := by decide +kernel
theorem dL_act_396 : decode cL_act 396 = .ok (.iconst 3, 1) := by decide +kernel
theorem dL_act_397 : decode cL_act 397 = .ok (.aload_n 1, 1) := by decide +kernel
theorem dL_act_398 : decode cL_act 398 = .ok (.getfield 9, 3) := by decide +kernel
theorem dL_act_401 : decode cL_act 401 = .ok (.iload 5, 2) := by decide +kernel
theorem dL_act_403 : decode cL_act 403 = .ok (.aaload, 1) := by decide +kernel
theorem dL_act_404 : decode cL_act 404 = .ok (.iload 7, 2) := by decide +kernel
theorem dL_act_406 : decode cL_act 406 = .ok (.aaload, 1) := by decide +kernel
theorem dL_act_407 : decode cL_act 407 = .ok (.iconst 3, 1) := by decide +kernel
theorem dL_act_408 : decode cL_act 408 = .ok (.iaload, 1) := by decide +kernel
theorem dL_act_409 : decode cL_act 409 = .ok (.iastore, 1) := by decide +kernel
theorem dL_act_410 : decode cL_act 410 = .ok (.dup, 1) := by decide +kernel
theorem dL_act_411 : decode cL_act 411 = .ok (.iconst 4, 1) := by decide +kernel
theorem dL_act_412 : decode cL_act 412 = .ok (.aload_n 1, 1) := by decide +kernel
theorem dL_act_413 : decode cL_act 413 = .ok (.getfield 9, 3) := by decide +kernel
theorem dL_act_416 : decode cL_act 416 = .ok (.iload 5, 2) := by decide +kernel
theorem dL_act_418 : decode cL_act 418 = .ok (.aaload, 1) := by decide +kernel
theorem dL_act_419 : decode cL_act 419 = .ok (.iload 7, 2) := by decide +kernel
theorem dL_act_421 : decode cL_act 421 = .ok (.aaload, 1) := by decide +kernel
theorem dL_act_422 : decode cL_act 422 = .ok (.iconst 4, 1) := by decide +kernel
theorem dL_act_423 : decode cL_act 423 = .ok (.iaload, 1) := by decide +kernel
theorem dL_act_424 : decode cL_act 424 = .ok (.iastore, 1) := by decide +kernel
theorem dL_act_425 : decode cL_act 425 = .ok (.aastore, 1) := by decide +kernel
theorem dL_act_426 : decode cL_act 426 = .ok (.aload_n 0, 1) := by decide +kernel
theorem dL_act_427 : decode cL_act 427 = .ok (.iload 5, 2) := by decide +kernel
theorem dL_act_429 : decode cL_act 429 = .ok (.iload 7, 2) := by decide +kernel
theorem dL_act_431 : decode cL_act 431 = .ok (.iload_n 2, 1) := by decide +kernel
theorem dL_act_432 : decode cL_act 432 = .ok (.iconst 5, 1) := by decide +kernel
theorem dL_act_433 : decode cL_act 433 = .ok (.ishr, 1) := by decide +kernel
theorem dL_act_434 : decode cL_act 434 = .ok (.iconst 4, 1) := by decide +kernel
theorem dL_act_435 : decode cL_act 435 = .ok (.invokestatic 15, 3) := by decide +kernel
theorem dL_act_438 : decode cL_act 438 = .ok (.invokevirtual 47, 3) := by decide +kernel
theorem dL_act_441 : decode cL_act 441 = .ok (.iload 9, 2) := by decide +kernel
theorem dL_act_443 : decode cL_act 443 = .ok (.if_icmp .ne 7, 3) := by decide +kernel
theorem dL_act_446 : decode cL_act 446 = .ok (.iconst 1, 1) := by decide +kernel
theorem dL_act_447 : decode cL_act 447 = .ok (.goto 4, 3) := by decide +kernel
theorem dL_act_450 : decode cL_act 450 = .ok (.iconst 0, 1) := by decide +kernel
theorem dL_act_451 : decode cL_act 451 = .ok (.ireturn, 1) := by decide +kernel
theorem dL_act_452 : decode cL_act 452 = .ok (.iload_n 2, 1) := by decide +kernel
theorem dL_act_453 : decode cL_act 453 = .ok (.iconst 4, 1) := by decide +kernel
theorem dL_act_454 : decode cL_act 454 = .ok (.ishr, 1) := by decide +kernel
theorem dL_act_455 : decode cL_act 455 = .ok (.bipush 9, 2) := by decide +kernel
theorem dL_act_457 : decode cL_act 457 = .ok (.invokestatic 15, 3) := by decide +kernel
theorem dL_act_460 : decode cL_act 460 = .ok (.istore 10, 2) := by decide +kernel
theorem dL_act_462 : decode cL_act 462 = .ok (.iload_n 2, 1) := by decide +kernel
theorem dL_act_463 : decode cL_act 463 = .ok (.bipush 6, 2) := by decide +kernel
theorem dL_act_465 : decode cL_act 465 = .ok (.ishr, 1) := by decide +kernel
theorem dL_act_466 : decode cL_act 466 = .ok (.bipush 9, 2) := by decide +kernel
theorem dL_act_468 : decode cL_act 468 = .ok (.invokestatic 15, 3) := by decide +kernel
theorem dL_act_471 : decode cL_act 471 = .ok (.istore 11, 2) := by decide +kernel
theorem dL_act_473 : decode cL_act 473 = .ok (.iload_n 2, 1) := by decide +kernel
theorem dL_act_474 : decode cL_act 474 = .ok (.iconst 3, 1) := by decide +kernel
theorem dL_act_475 : decode cL_act 475 = .ok (.invokestatic 15, 3) := by decide +kernel
theorem dL_act_478 : decode cL_act 478 = .ok (.ifCond .le 5, 3) := by decide +kernel
theorem dL_act_481 : decode cL_act 481 = .ok (.iconst 1, 1) := by decide +kernel
theorem dL_act_482 : decode cL_act 482 = .ok (.ireturn, 1) := by decide +kernel
theorem dL_act_483 : decode cL_act 483 = .ok (.aload_n 1, 1) := by decide +kernel
theorem dL_act_484 : decode cL_act 484 = .ok (.iload 10, 2) := by decide +kernel
theorem dL_act_486 : decode cL_act 486 = .ok (.iload 11, 2) := by decide +kernel
theorem dL_act_488 : decode cL_act 488 = .ok (.invokevirtual 51, 3) := by decide +kernel
theorem dL_act_491 : decode cL_act 491 = .ok (.aload_n 0, 1) := by decide +kernel
theorem dL_act_492 : decode cL_act 492 = .ok (.iload 10, 2) := by decide +kernel
theorem dL_act_494 : decode cL_act 494 = .ok (.iload 11, 2) := by decide +kernel
theorem dL_act_496 : decode cL_act 496 = .ok (.invokevirtual 54, 3) := by decide +kernel
theorem dL_act_499 : decode cL_act 499 = .ok (.aload_n 1, 1) := by decide +kernel
theorem dL_act_500 : decode cL_act 500 = .ok (.invokevirtual 56, 3) := by decide +kernel
theorem dL_act_503 : decode cL_act 503 = .ok (.if_icmp .ne 7, 3) := by decide +kernel
theorem dL_act_506 : decode cL_act 506 = .ok (.iconst 1, 1) := by decide +kernel
theorem dL_act_507 : decode cL_act 507 = .ok (.goto 4, 3) := by decide +kernel
theorem dL_act_510 : decode cL_act 510 = .ok (.iconst 0, 1) := by decide +kernel
theorem dL_act_511 : decode cL_act 511 = .ok (.ireturn, 1) := by decide +kernel
theorem dL_act_512 : decode cL_act 512 = .ok (.iload_n 2, 1) := by decide +kernel
theorem dL_act_513 : decode cL_act 513 = .ok (.iconst 5, 1) := by decide +kernel
theorem dL_act_514 : decode cL_act 514 = .ok (.ishr, 1) := by decide +kernel
theorem dL_act_515 : decode cL_act 515 = .ok (.iload_n 3, 1) := by decide +kernel
theorem dL_act_516 : decode cL_act 516 = .ok (.invokestatic 15, 3) := by decide +kernel
theorem dL_act_519 : decode cL_act 519 = .ok (.istore 12, 2) := by decide +kernel
theorem dL_act_521 : decode cL_act 521 = .ok (.aload_n 1, 1) := by decide +kernel
theorem dL_act_522 : decode cL_act 522 = .ok (.aload_n 1, 1) := by decide +kernel
theorem dL_act_523 : decode cL_act 523 = .ok (.getfield 9, 3) := by decide +kernel
theorem dL_act_526 : decode cL_act 526 = .ok (.iload 5, 2) := by decide +kernel
theorem dL_act_528 : decode cL_act 528 = .ok (.aaload, 1) := by decide +kernel
theorem dL_act_529 : decode cL_act 529 = .ok (.iload 7, 2) := by decide +kernel
theorem dL_act_531 : decode cL_act 531 = .ok (.aaload, 1) := by decide +kernel
theorem dL_act_532 : decode cL_act 532 = .ok (.iload 12, 2) := by decide +kernel
theorem dL_act_534 : decode cL_act 534 = .ok (.invokevirtual 59, 3) := by decide +kernel
theorem dL_act_537 : decode cL_act 537 = .ok (.astore 13, 2) := by decide +kernel
theorem dL_act_539 : decode cL_act 539 = .ok (.iload 12, 2) := by decide +kernel
theorem dL_act_541 : decode cL_act 541 = .ok (.iload 5, 2) := by decide +kernel
theorem dL_act_543 : decode cL_act 543 = .ok (.if_icmp .eq 8, 3) := by decide +kernel
theorem dL_act_546 : decode cL_act 546 = .ok (.aload 13, 2) := by decide +kernel
theorem dL_act_548 : decode cL_act 548 = .ok (.ifnonnull 5, 3) := by decide +kernel
theorem dL_act_551 : decode cL_act 551 = .ok (.iconst 1, 1) := by decide +kernel
theorem dL_act_552 : decode cL_act 552 = .ok (.ireturn, 1) := by decide +kernel
theorem dL_act_553 : decode cL_act 553 = .ok (.aload_n 1, 1) := by decide +kernel
theorem dL_act_554 : decode cL_act 554 = .ok (.iload 12, 2) := by decide +kernel
theorem dL_act_556 : decode cL_act 556 = .ok (.aload 13, 2) := by decide +kernel
theorem dL_act_558 : decode cL_act 558 = .ok (.invokevirtual 32, 3) := by decide +kernel
theorem dL_act_561 : decode cL_act 561 = .ok (.aload_n 0, 1) := by decide +kernel
theorem dL_act_562 : decode cL_act 562 = .ok (.iload 5, 2) := by decide +kernel
theorem dL_act_564 : decode cL_act 564 = .ok (.iload 7, 2) := by decide +kernel
theorem dL_act_566 : decode cL_act 566 = .ok (.iload 12, 2) := by decide +kernel
theorem dL_act_568 : decode cL_act 568 = .ok (.invokevirtual 63, 3) := by decide +kernel
theorem dL_act_571 : decode cL_act 571 = .ok (.aload_n 1, 1) := by decide +kernel
theorem dL_act_572 : decode cL_act 572 = .ok (.getfield 9, 3) := by decide +kernel
theorem dL_act_575 : decode cL_act 575 = .ok (.iload 12, 2) := by decide +kernel
theorem dL_act_577 : decode cL_act 577 = .ok (.aaload, 1) := by decide +kernel
theorem dL_act_578 : decode cL_act 578 = .ok (.arraylength, 1) := by decide +kernel
theorem dL_act_579 : decode cL_act 579 = .ok (.iconst 1, 1) := by decide +kernel
theorem dL_act_580 : decode cL_act 580 = .ok (.isub, 1) := by decide +kernel
theorem dL_act_581 : decode cL_act 581 = .ok (.if_icmp .ne 7, 3) := by decide +kernel
theorem dL_act_584 : decode cL_act 584 = .ok (.iconst 1, 1) := by decide +kernel
theorem dL_act_585 : decode cL_act 585 = .ok (.goto 4, 3) := by decide +kernel
theorem dL_act_588 : decode cL_act 588 = .ok (.iconst 0, 1) := by decide +kernel
theorem dL_act_589 : decode cL_act 589 = .ok (.ireturn, 1) := by decide +kernel
theorem dL_build_0 : decode cL_build 0 = .ok (.new 10, 3) := by decide +kernel
theorem dL_build_3 : decode cL_build 3 = .ok (.dup, 1) := by decide +kernel
theorem dL_build_4 : decode cL_build 4 = .ok (.invokespecial 66, 3) := by decide +kernel
theorem dL_build_7 : decode cL_build 7 = .ok (.astore_n 2, 1) := by decide +kernel
theorem dL_build_8 : decode cL_build 8 = .ok (.iconst 1, 1) := by decide +kernel
theorem dL_build_9 : decode cL_build 9 = .ok (.aload_n 1, 1) := by decide +kernel
theorem dL_build_10 : decode cL_build 10 = .ok (.iconst 1, 1) := by decide +kernel
theorem dL_build_11 : decode cL_build 11 = .ok (.invokestatic 67, 3) := by decide +kernel
theorem dL_build_14 : decode cL_build 14 = .ok (.iconst 4, 1) := by decide +kernel
theorem dL_build_15 : decode cL_build 15 = .ok (.invokestatic 15, 3) := by decide +kernel
theorem dL_build_18 : decode cL_build 18 = .ok (.iadd, 1) := by decide +kernel
theorem dL_build_19 : decode cL_build 19 = .ok (.istore_n 3, 1) := by decide +kernel
theorem dL_build_20 : decode cL_build 20 = .ok (.iconst 0, 1) := by decide +kernel
theorem dL_build_21 : decode cL_build 21 = .ok (.istore 4, 2) := by decide +kernel
theorem dL_build_23 : decode cL_build 23 = .ok (.iload 4, 2) := by decide +kernel
theorem dL_build_25 : decode cL_build 25 = .ok (.iload_n 3, 1) := by decide +kernel
theorem dL_build_26 : decode cL_build 26 = .ok (.if_icmp .ge 24, 3) := by decide +kernel
theorem dL_build_29 : decode cL_build 29 = .ok (.aload_n 2, 1) := by decide +kernel
theorem dL_build_30 : decode cL_build 30 = .ok (.invokevirtual 21, 3) := by decide +kernel
theorem dL_build_33 : decode cL_build 33 = .ok (.aload_n 0, 1) := by decide +kernel
theorem dL_build_34 : decode cL_build 34 = .ok (.invokevirtual 24, 3) := by decide +kernel
theorem dL_build_37 : decode cL_build 37 = .ok (.iload 4, 2) := by decide +kernel
theorem dL_build_39 : decode cL_build 39 = .ok (.if_icmp .eq 5, 3) := by decide +kernel
theorem dL_build_42 : decode cL_build 42 = .ok (.aconst_null, 1) := by decide +kernel
theorem dL_build_43 : decode cL_build 43 = .ok (.areturn, 1) := by decide +kernel
theorem dL_build_44 : decode cL_build 44 = .ok (.iinc 4 1, 3) := by decide +kernel
theorem dL_build_47 : decode cL_build 47 = .ok (.goto (-24), 3) := by decide +kernel
theorem dL_build_50 : decode cL_build 50 = .ok (.bipush 10, 2) := by decide +kernel
theorem dL_build_52 : decode cL_build 52 = .ok (.aload_n 1, 1) := by decide +kernel
theorem dL_build_53 : decode cL_build 53 = .ok (.iconst 0, 1) := by decide +kernel
theorem dL_build_54 : decode cL_build 54 = .ok (.invokestatic 67, 3) := by decide +kernel
theorem dL_build_57 : decode cL_build 57 = .ok (.bipush 50, 2) := by decide +kernel
theorem dL_build_59 : decode cL_build 59 = .ok (.invokestatic 15, 3) := by decide +kernel
theorem dL_build_62 : decode cL_build 62 = .ok (.iadd, 1) := by decide +kernel
theorem dL_build_63 : decode cL_build 63 = .ok (.istore 4, 2) := by decide +kernel
theorem dL_build_65 : decode cL_build 65 = .ok (.iconst 0, 1) := by decide +kernel
theorem dL_build_66 : decode cL_build 66 = .ok (.istore 5, 2) := by decide +kernel
theorem dL_build_68 : decode cL_build 68 = .ok (.iload 5, 2) := by decide +kernel
theorem dL_build_70 : decode cL_build 70 = .ok (.iload 4, 2) := by decide +kernel
theorem dL_build_72 : decode cL_build 72 = .ok (.if_icmp .ge 43, 3) := by decide +kernel
theorem dL_build_75 : decode cL_build 75 = .ok (.aload_n 0, 1) := by decide +kernel
theorem dL_build_76 : decode cL_build 76 = .ok (.aload_n 2, 1) := by decide +kernel
theorem dL_build_77 : decode cL_build 77 = .ok (.aload_n 1, 1) := by decide +kernel
theorem dL_build_78 : decode cL_build 78 = .ok (.iload 5, 2) := by decide +kernel
theorem dL_build_80 : decode cL_build 80 = .ok (.bipush 16, 2) := by decide +kernel
theorem dL_build_82 : decode cL_build 82 = .ok (.irem, 1) := by decide +kernel
theorem dL_build_83 : decode cL_build 83 = .ok (.invokestatic 67, 3) := by decide +kernel
theorem dL_build_86 : decode cL_build 86 = .ok (.iload 5, 2) := by decide +kernel
theorem dL_build_88 : decode cL_build 88 = .ok (.bipush 16, 2) := by decide +kernel
theorem dL_build_90 : decode cL_build 90 = .ok (.idiv, 1) := by decide +kernel
theorem dL_build_91 : decode cL_build 91 = .ok (.iconst 3, 1) := by decide +kernel
theorem dL_build_92 : decode cL_build 92 = .ok (.imul, 1) := by decide +kernel
theorem dL_build_93 : decode cL_build 93 = .ok (.ishr, 1) := by decide +kernel
theorem dL_build_94 : decode cL_build 94 = .ok (.sipush 647, 3) := by decide +kernel
theorem dL_build_97 : decode cL_build 97 = .ok (.iload 5, 2) := by decide +kernel
theorem dL_build_99 : decode cL_build 99 = .ok (.imul, 1) := by decide +kernel
theorem dL_build_100 : decode cL_build 100 = .ok (.iadd, 1) := by decide +kernel
theorem dL_build_101 : decode cL_build 101 = .ok (.invokestatic 71, 3) := by decide +kernel
theorem dL_build_104 : decode cL_build 104 = .ok (.ifCond .ne 5, 3) := by decide +kernel
theorem dL_build_107 : decode cL_build 107 = .ok (.aconst_null, 1) := by decide +kernel
theorem dL_build_108 : decode cL_build 108 = .ok (.areturn, 1) := by decide +kernel
theorem dL_build_109 : decode cL_build 109 = .ok (.iinc 5 1, 3) := by decide +kernel
theorem dL_build_112 : decode cL_build 112 = .ok (.goto (-44), 3) := by decide +kernel
theorem dL_build_115 : decode cL_build 115 = .ok (.aload_n 2, 1) := by decide +kernel
theorem dL_build_116 : decode cL_build 116 = .ok (.areturn, 1) := by decide +kernel
theorem dL_law_0 : decode cL_law 0 = .ok (.new 25, 3) := by decide +kernel
theorem dL_law_3 : decode cL_law 3 = .ok (.dup, 1) := by decide +kernel
theorem dL_law_4 : decode cL_law 4 = .ok (.invokespecial 75, 3) := by decide +kernel
theorem dL_law_7 : decode cL_law 7 = .ok (.astore_n 1, 1) := by decide +kernel
theorem dL_law_8 : decode cL_law 8 = .ok (.aload_n 1, 1) := by decide +kernel
theorem dL_law_9 : decode cL_law 9 = .ok (.aload_n 0, 1) := by decide +kernel
theorem dL_law_10 : decode cL_law 10 = .ok (.invokestatic 76, 3) := by decide +kernel
theorem dL_law_13 : decode cL_law 13 = .ok (.astore_n 2, 1) := by decide +kernel
theorem dL_law_14 : decode cL_law 14 = .ok (.aload_n 2, 1) := by decide +kernel
theorem dL_law_15 : decode cL_law 15 = .ok (.ifnonnull 5, 3) := by decide +kernel
theorem dL_law_18 : decode cL_law 18 = .ok (.iconst 0, 1) := by decide +kernel
theorem dL_law_19 : decode cL_law 19 = .ok (.ireturn, 1) := by decide +kernel
theorem dL_law_20 : decode cL_law 20 = .ok (.iconst 0, 1) := by decide +kernel
theorem dL_law_21 : decode cL_law 21 = .ok (.istore_n 3, 1) := by decide +kernel
theorem dL_law_22 : decode cL_law 22 = .ok (.iload_n 3, 1) := by decide +kernel
theorem dL_law_23 : decode cL_law 23 = .ok (.bipush 14, 2) := by decide +kernel
theorem dL_law_25 : decode cL_law 25 = .ok (.if_icmp .ge 866, 3) := by decide +kernel
theorem dL_law_28 : decode cL_law 28 = .ok (.aload_n 0, 1) := by decide +kernel
theorem dL_law_29 : decode cL_law 29 = .ok (.iload_n 3, 1) := by decide +kernel
theorem dL_law_30 : decode cL_law 30 = .ok (.bipush 16, 2) := by decide +kernel
theorem dL_law_32 : decode cL_law 32 = .ok (.irem, 1) := by decide +kernel
theorem dL_law_33 : decode cL_law 33 = .ok (.invokestatic 67, 3) := by decide +kernel
theorem dL_law_36 : decode cL_law 36 = .ok (.iload_n 3, 1) := by decide +kernel
theorem dL_law_37 : decode cL_law 37 = .ok (.bipush 16, 2) := by decide +kernel
theorem dL_law_39 : decode cL_law 39 = .ok (.idiv, 1) := by decide +kernel
theorem dL_law_40 : decode cL_law 40 = .ok (.iconst 3, 1) := by decide +kernel
theorem dL_law_41 : decode cL_law 41 = .ok (.imul, 1) := by decide +kernel
theorem dL_law_42 : decode cL_law 42 = .ok (.ishr, 1) := by decide +kernel
theorem dL_law_43 : decode cL_law 43 = .ok (.sipush 647, 3) := by decide +kernel
theorem dL_law_46 : decode cL_law 46 = .ok (.iload_n 3, 1) := by decide +kernel
theorem dL_law_47 : decode cL_law 47 = .ok (.imul, 1) := by decide +kernel
theorem dL_law_48 : decode cL_law 48 = .ok (.iadd, 1) := by decide +kernel
theorem dL_law_49 : decode cL_law 49 = .ok (.istore 4, 2) := by decide +kernel
theorem dL_law_51 : decode cL_law 51 = .ok (.aload_n 1, 1) := by decide +kernel
theorem dL_law_52 : decode cL_law 52 = .ok (.aload_n 2, 1) := by decide +kernel
theorem dL_law_53 : decode cL_law 53 = .ok (.iload 4, 2) := by decide +kernel
theorem dL_law_55 : decode cL_law 55 = .ok (.invokestatic 71, 3) := by decide +kernel
theorem dL_law_58 : decode cL_law 58 = .ok (.ifCond .ne 5, 3) := by decide +kernel
theorem dL_law_61 : decode cL_law 61 = .ok (.iconst 0, 1) := by decide +kernel
theorem dL_law_62 : decode cL_law 62 = .ok (.ireturn, 1) := by decide +kernel
theorem dL_law_63 : decode cL_law 63 = .ok (.aload_n 1, 1) := by decide +kernel
theorem dL_law_64 : decode cL_law 64 = .ok (.invokevirtual 80, 3) := by decide +kernel
theorem dL_law_67 : decode cL_law 67 = .ok (.istore 5, 2) := by decide +kernel
theorem dL_law_69 : decode cL_law 69 = .ok (.iload 5, 2) := by decide +kernel
theorem dL_law_71 : decode cL_law 71 = .ok (.anewarray 83, 3) := by decide +kernel
theorem dL_law_74 : decode cL_law 74 = .ok (.astore 6, 2) := by decide +kernel
theorem dL_law_76 : decode cL_law 76 = .ok (.iconst 0, 1) := by decide +kernel
theorem dL_law_77 : decode cL_law 77 = .ok (.istore 7, 2) := by decide +kernel
theorem dL_law_79 : decode cL_law 79 = .ok (.iload 7, 2) := by decide +kernel
theorem dL_law_81 : decode cL_law 81 = .ok (.iload 5, 2) := by decide +kernel
theorem dL_law_83 : decode cL_law 83 = .ok (.if_icmp .ge 645, 3) := by decide +kernel
theorem dL_law_86 : decode cL_law 86 = .ok (.aload_n 1, 1) := by decide +kernel
theorem dL_law_87 : decode cL_law 87 = .ok (.iload 7, 2) := by decide +kernel
theorem dL_law_89 : decode cL_law 89 = .ok (.invokevirtual 85, 3) := by decide +kernel
theorem dL_law_92 : decode cL_law 92 = .ok (.istore 8, 2) := by decide +kernel
theorem dL_law_94 : decode cL_law 94 = .ok (.iload 8, 2) := by decide +kernel
theorem dL_law_96 : decode cL_law 96 = .ok (.bipush 16, 2) := by decide +kernel
theorem dL_law_98 : decode cL_law 98 = .ok (.if_icmp .le 5, 3) := by decide +kernel
theorem dL_law_101 : decode cL_law 101 = .ok (.iconst 0, 1) := by decide +kernel
theorem dL_law_102 : decode cL_law 102 = .ok (.ireturn, 1) := by decide +kernel
theorem dL_law_103 : decode cL_law 103 = .ok (.aload 6, 2) := by decide +kernel
theorem dL_law_105 : decode cL_law 105 = .ok (.iload 7, 2) := by decide +kernel
theorem dL_law_107 : decode cL_law 107 = .ok (.iload 8, 2) := by decide +kernel
theorem dL_law_109 : decode cL_law 109 = .ok (.iload 8, 2) := by decide +kernel
theorem dL_law_111 : decode cL_law 111 = .ok (.multianewarray 83 2, 4) := by decide +kernel
theorem dL_law_115 : decode cL_law 115 = .ok (.aastore, 1) := by decide +kernel
theorem dL_law_116 : decode cL_law 116 = .ok (.iconst 0, 1) := by decide +kernel
theorem dL_law_117 : decode cL_law 117 = .ok (.istore 9, 2) := by decide +kernel
theorem dL_law_119 : decode cL_law 119 = .ok (.iconst 0, 1) := by decide +kernel
theorem dL_law_120 : decode cL_law 120 = .ok (.istore 10, 2) := by decide +kernel
theorem dL_law_122 : decode cL_law 122 = .ok (.bipush 99, 2) := by decide +kernel
theorem dL_law_124 : decode cL_law 124 = .ok (.istore 11, 2) := by decide +kernel
theorem dL_law_126 : decode cL_law 126 = .ok (.iconst 0, 1) := by decide +kernel
theorem dL_law_127 : decode cL_law 127 = .ok (.istore 12, 2) := by decide +kernel
theorem dL_law_129 : decode cL_law 129 = .ok (.iload 12, 2) := by decide +kernel
theorem dL_law_131 : decode cL_law 131 = .ok (.iload 8, 2) := by decide +kernel
theorem dL_law_133 : decode cL_law 133 = .ok (.if_icmp .ge 291, 3) := by decide +kernel
theorem dL_law_136 : decode cL_law 136 = .ok (.aload_n 1, 1) := by decide +kernel
theorem dL_law_137 : decode cL_law 137 = .ok (.iload 7, 2) := by decide +kernel
theorem dL_law_139 : decode cL_law 139 = .ok (.aload_n 1, 1) := by decide +kernel
theorem dL_law_140 : decode cL_law 140 = .ok (.iload 7, 2) := by decide +kernel
theorem dL_law_142 : decode cL_law 142 = .ok (.iload 12, 2) := by decide +kernel
theorem dL_law_144 : decode cL_law 144 = .ok (.invokevirtual 89, 3) := by decide +kernel
theorem dL_law_147 : decode cL_law 147 = .ok (.invokevirtual 92, 3) := by decide +kernel
theorem dL_law_150 : decode cL_law 150 = .ok (.iload 12, 2) := by decide +kernel
theorem dL_law_152 : decode cL_law 152 = .ok (.if_icmp .eq 5, 3) := by decide +kernel
theorem dL_law_155 : decode cL_law 155 = .ok (.iconst 0, 1) := by decide +kernel
theorem dL_law_156 : decode cL_law 156 = .ok (.ireturn, 1) := by decide +kernel
theorem dL_law_157 : decode cL_law 157 = .ok (.iconst 1, 1) := by decide +kernel
theorem dL_law_158 : decode cL_law 158 = .ok (.istore 13, 2) := by decide +kernel
theorem dL_law_160 : decode cL_law 160 = .ok (.iconst 0, 1) := by decide +kernel
theorem dL_law_161 : decode cL_law 161 = .ok (.istore 14, 2) := by decide +kernel
theorem dL_law_163 : decode cL_law 163 = .ok (.iload 14, 2) := by decide +kernel
theorem dL_law_165 : decode cL_law 165 = .ok (.iload 8, 2) := by decide +kernel
theorem dL_law_167 : decode cL_law 167 = .ok (.if_icmp .ge 219, 3) := by decide +kernel
theorem dL_law_170 : decode cL_law 170 = .ok (.aload 6, 2) := by decide +kernel
theorem dL_law_172 : decode cL_law 172 = .ok (.iload 7, 2) := by decide +kernel
theorem dL_law_174 : decode cL_law 174 = .ok (.aaload, 1) := by decide +kernel
theorem dL_law_175 : decode cL_law 175 = .ok (.iload 12, 2) := by decide +kernel
theorem dL_law_177 : decode cL_law 177 = .ok (.aaload, 1) := by decide +kernel
theorem dL_law_178 : decode cL_law 178 = .ok (.iload 14, 2) := by decide +kernel
theorem dL_law_180 : decode cL_law 180 = .ok (.aload_n 1, 1) := by decide +kernel
theorem dL_law_181 : decode cL_law 181 = .ok (.iload 7, 2) := by decide +kernel
theorem dL_law_183 : decode cL_law 183 = .ok (.iload 12, 2) := by decide +kernel
theorem dL_law_185 : decode cL_law 185 = .ok (.iload 14, 2) := by decide +kernel
theorem dL_law_187 : decode cL_law 187 = .ok (.invokevirtual 93, 3) := by decide +kernel
theorem dL_law_190 : decode cL_law 190 = .ok (.iastore, 1) := by decide +kernel
theorem dL_law_191 : decode cL_law 191 = .ok (.aload 6, 2) := by decide +kernel
theorem dL_law_193 : decode cL_law 193 = .ok (.iload 7, 2) := by decide +kernel
theorem dL_law_195 : decode cL_law 195 = .ok (.aaload, 1) := by decide +kernel
theorem dL_law_196 : decode cL_law 196 = .ok (.iload 12, 2) := by decide +kernel
theorem dL_law_198 : decode cL_law 198 = .ok (.aaload, 1) := by decide +kernel
theorem dL_law_199 : decode cL_law 199 = .ok (.iload 14, 2) := by decide +kernel
theorem dL_law_201 : decode cL_law 201 = .ok (.iaload, 1) := by decide +kernel
theorem dL_law_202 : decode cL_law 202 = .ok (.ifCond .lt 40, 3) := by decide +kernel
theorem dL_law_205 : decode cL_law 205 = .ok (.aload 6, 2) := by decide +kernel
theorem dL_law_207 : decode cL_law 207 = .ok (.iload 7, 2) := by decide +kernel
theorem dL_law_209 : decode cL_law 209 = .ok (.aaload, 1) := by decide +kernel
theorem dL_law_210 : decode cL_law 210 = .ok (.iload 12, 2) := by decide +kernel
theorem dL_law_212 : decode cL_law 212 = .ok (.aaload, 1) := by decide +kernel
theorem dL_law_213 : decode cL_law 213 = .ok (.iload 14, 2) := by decide +kernel
theorem dL_law_215 : decode cL_law 215 = .ok (.iaload, 1) := by decide +kernel
theorem dL_law_216 : decode cL_law 216 = .ok (.bipush 11, 2) := by decide +kernel
theorem dL_law_218 : decode cL_law 218 = .ok (.if_icmp .gt 24, 3) := by decide +kernel
theorem dL_law_221 : decode cL_law 221 = .ok (.iload 12, 2) := by decide +kernel
theorem dL_law_223 : decode cL_law 223 = .ok (.iload 14, 2) := by decide +kernel
theorem dL_law_225 : decode cL_law 225 = .ok (.if_icmp .ne 19, 3) := by decide +kernel
theorem dL_law_228 : decode cL_law 228 = .ok (.aload 6, 2) := by decide +kernel
theorem dL_law_230 : decode cL_law 230 = .ok (.iload 7, 2) := by decide +kernel
theorem dL_law_232 : decode cL_law 232 = .ok (.aaload, 1) := by decide +kernel
theorem dL_law_233 : decode cL_law 233 = .ok (.iload 12, 2) := by decide +kernel
theorem dL_law_235 : decode cL_law 235 = .ok (.aaload, 1) := by decide +kernel
theorem dL_law_236 : decode cL_law 236 = .ok (.iload 14, 2) := by decide +kernel
theorem dL_law_238 : decode cL_law 238 = .ok (.iaload, 1) := by decide +kernel
theorem dL_law_239 : decode cL_law 239 = .ok (.ifCond .eq 5, 3) := by decide +kernel
theorem dL_law_242 : decode cL_law 242 = .ok (.iconst 0, 1) := by decide +kernel
theorem dL_law_243 : decode cL_law 243 = .ok (.ireturn, 1) := by decide +kernel
theorem dL_law_244 : decode cL_law 244 = .ok (.iload 12, 2) := by decide +kernel
theorem dL_law_246 : decode cL_law 246 = .ok (.iload 14, 2) := by decide +kernel
theorem dL_law_248 : decode cL_law 248 = .ok (.if_icmp .ne 6, 3) := by decide +kernel
theorem dL_law_251 : decode cL_law 251 = .ok (.goto 129, 3) := by decide +kernel
theorem dL_law_254 : decode cL_law 254 = .ok (.iload 13, 2) := by decide +kernel
theorem dL_law_256 : decode cL_law 256 = .ok (.ifCond .eq 21, 3) := by decide +kernel
theorem dL_law_259 : decode cL_law 259 = .ok (.aload 6, 2) := by decide +kernel
theorem dL_law_261 : decode cL_law 261 = .ok (.iload 7, 2) := by decide +kernel
theorem dL_law_263 : decode cL_law 263 = .ok (.aaload, 1) := by decide +kernel
theorem dL_law_264 : decode cL_law 264 = .ok (.iload 12, 2) := by decide +kernel
theorem dL_law_266 : decode cL_law 266 = .ok (.aaload, 1) := by decide +kernel
theorem dL_law_267 : decode cL_law 267 = .ok (.iload 14, 2) := by decide +kernel
theorem dL_law_269 : decode cL_law 269 = .ok (.iaload, 1) := by decide +kernel
theorem dL_law_270 : decode cL_law 270 = .ok (.ifCond .le 7, 3) := by decide +kernel
theorem dL_law_273 : decode cL_law 273 = .ok (.iconst 1, 1) := by decide +kernel
theorem dL_law_274 : decode cL_law 274 = .ok (.goto 4, 3) := by decide +kernel
theorem dL_law_277 : decode cL_law 277 = .ok (.iconst 0, 1) := by decide +kernel
theorem dL_law_278 : decode cL_law 278 = .ok (.istore 13, 2) := by decide +kernel
theorem dL_law_280 : decode cL_law 280 = .ok (.iload 11, 2) := by decide +kernel
theorem dL_law_282 : decode cL_law 282 = .ok (.aload 6, 2) := by decide +kernel
theorem dL_law_284 : decode cL_law 284 = .ok (.iload 7, 2) := by decide +kernel
theorem dL_law_286 : decode cL_law 286 = .ok (.aaload, 1) := by decide +kernel
theorem dL_law_287 : decode cL_law 287 = .ok (.iload 12, 2) := by decide +kernel
theorem dL_law_289 : decode cL_law 289 = .ok (.aaload, 1) := by decide +kernel
theorem dL_law_290 : decode cL_law 290 = .ok (.iload 14, 2) := by decide +kernel
theorem dL_law_292 : decode cL_law 292 = .ok (.iaload, 1) := by decide +kernel
theorem dL_law_293 : decode cL_law 293 = .ok (.invokestatic 96, 3) := by decide +kernel
theorem dL_law_296 : decode cL_law 296 = .ok (.istore 11, 2) := by decide +kernel
theorem dL_law_298 : decode cL_law 298 = .ok (.iload 9, 2) := by decide +kernel
theorem dL_law_300 : decode cL_law 300 = .ok (.iload 14, 2) := by decide +kernel
theorem dL_law_302 : decode cL_law 302 = .ok (.iload 12, 2) := by decide +kernel
theorem dL_law_304 : decode cL_law 304 = .ok (.if_icmp .ge 21, 3) := by decide +kernel
theorem dL_law_307 : decode cL_law 307 = .ok (.aload 6, 2) := by decide +kernel
theorem dL_law_309 : decode cL_law 309 = .ok (.iload 7, 2) := by decide +kernel
theorem dL_law_311 : decode cL_law 311 = .ok (.aaload, 1) := by decide +kernel
theorem dL_law_312 : decode cL_law 312 = .ok (.iload 12, 2) := by decide +kernel
theorem dL_law_314 : decode cL_law 314 = .ok (.aaload, 1) := by decide +kernel
theorem dL_law_315 : decode cL_law 315 = .ok (.iload 14, 2) := by decide +kernel
theorem dL_law_317 : decode cL_law 317 = .ok (.iaload, 1) := by decide +kernel
theorem dL_law_318 : decode cL_law 318 = .ok (.ifCond .ne 7, 3) := by decide +kernel
theorem dL_law_321 : decode cL_law 321 = .ok (.iconst 1, 1) := by decide +kernel
theorem dL_law_322 : decode cL_law 322 = .ok (.goto 4, 3) := by decide +kernel
theorem dL_law_325 : decode cL_law 325 = .ok (.iconst 0, 1) := by decide +kernel
theorem dL_law_326 : decode cL_law 326 = .ok (.iadd, 1) := by decide +kernel
theorem dL_law_327 : decode cL_law 327 = .ok (.istore 9, 2) := by decide +kernel
theorem dL_law_329 : decode cL_law 329 = .ok (.iload 10, 2) := by decide +kernel
theorem dL_law_331 : decode cL_law 331 = .ok (.iload 14, 2) := by decide +kernel
theorem dL_law_333 : decode cL_law 333 = .ok (.iload 12, 2) := by decide +kernel
theorem dL_law_335 : decode cL_law 335 = .ok (.if_icmp .ge 41, 3) := by decide +kernel
theorem dL_law_338 : decode cL_law 338 = .ok (.aload 6, 2) := by decide +kernel
theorem dL_law_340 : decode cL_law 340 = .ok (.iload 7, 2) := by decide +kernel
theorem dL_law_342 : decode cL_law 342 = .ok (.aaload, 1) := by decide +kernel
theorem dL_law_343 : decode cL_law 343 = .ok (.iload 12, 2) := by decide +kernel
theorem dL_law_345 : decode cL_law 345 = .ok (.aaload, 1) := by decide +kernel
theorem dL_law_346 : decode cL_law 346 = .ok (.iload 14, 2) := by decide +kernel
theorem dL_law_348 : decode cL_law 348 = .ok (.iaload, 1) := by decide +kernel
theorem dL_law_349 : decode cL_law 349 = .ok (.iconst 1, 1) := by decide +kernel
theorem dL_law_350 : decode cL_law 350 = .ok (.if_icmp .ne 26, 3) := by decide +kernel
theorem dL_law_353 : decode cL_law 353 = .ok (.aload_n 1, 1) := by decide +kernel
theorem dL_law_354 : decode cL_law 354 = .ok (.iload 7, 2) := by decide +kernel
theorem dL_law_356 : decode cL_law 356 = .ok (.iload 12, 2) := by decide +kernel
theorem dL_law_358 : decode cL_law 358 = .ok (.invokevirtual 101, 3) := by decide +kernel
theorem dL_law_361 : decode cL_law 361 = .ok (.aload_n 1, 1) := by decide +kernel
theorem dL_law_362 : decode cL_law 362 = .ok (.iload 7, 2) := by decide +kernel
theorem dL_law_364 : decode cL_law 364 = .ok (.iload 14, 2) := by decide +kernel
theorem dL_law_366 : decode cL_law 366 = .ok (.invokevirtual 101, 3) := by decide +kernel
theorem dL_law_369 : decode cL_law 369 = .ok (.if_icmp .eq 7, 3) := by decide +kernel
theorem dL_law_372 : decode cL_law 372 = .ok (.iconst 1, 1) := by decide +kernel
theorem dL_law_373 : decode cL_law 373 = .ok (.goto 4, 3) := by decide +kernel
theorem dL_law_376 : decode cL_law 376 = .ok (.iconst 0, 1) := by decide +kernel
theorem dL_law_377 : decode cL_law 377 = .ok (.iadd, 1) := by decide +kernel
theorem dL_law_378 : decode cL_law 378 = .ok (.istore 10, 2) := by decide +kernel
theorem dL_law_380 : decode cL_law 380 = .ok (.iinc 14 1, 3) := by decide +kernel
theorem dL_law_383 : decode cL_law 383 = .ok (.goto (-220), 3) := by decide +kernel
theorem dL_law_386 : decode cL_law 386 = .ok (.aload_n 1, 1) := by decide +kernel
theorem dL_law_387 : decode cL_law 387 = .ok (.iload 7, 2) := by decide +kernel
theorem dL_law_389 : decode cL_law 389 = .ok (.iload 12, 2) := by decide +kernel
theorem dL_law_391 : decode cL_law 391 = .ok (.iload 7, 2) := by decide +kernel
theorem dL_law_393 : decode cL_law 393 = .ok (.invokevirtual 104, 3) := by decide +kernel
theorem dL_law_396 : decode cL_law 396 = .ok (.iload 13, 2) := by decide +kernel
theorem dL_law_398 : decode cL_law 398 = .ok (.ifCond .eq 14, 3) := by decide +kernel
theorem dL_law_401 : decode cL_law 401 = .ok (.aload_n 1, 1) := by decide +kernel
theorem dL_law_402 : decode cL_law 402 = .ok (.iload 7, 2) := by decide +kernel
theorem dL_law_404 : decode cL_law 404 = .ok (.iload 12, 2) := by decide +kernel
theorem dL_law_406 : decode cL_law 406 = .ok (.invokevirtual 89, 3) := by decide +kernel
theorem dL_law_409 : decode cL_law 409 = .ok (.goto 4, 3) := by decide +kernel
theorem dL_law_412 : decode cL_law 412 = .ok (.iconst (-1), 1) := by decide +kernel
theorem dL_law_413 : decode cL_law 413 = .ok (.if_icmp .eq 5, 3) := by decide +kernel
theorem dL_law_416 : decode cL_law 416 = .ok (.iconst 0, 1) := by decide +kernel
theorem dL_law_417 : decode cL_law 417 = .ok (.ireturn, 1) := by decide +kernel
theorem dL_law_418 : decode cL_law 418 = .ok (.iinc 12 1, 3) := by decide +kernel
theorem dL_law_421 : decode cL_law 421 = .ok (.goto (-292), 3) := by decide +kernel
theorem dL_law_424 : decode cL_law 424 = .ok (.iconst 0, 1) := by decide +kernel
theorem dL_law_425 : decode cL_law 425 = .ok (.istore 12, 2) := by decide +kernel
theorem dL_law_427 : decode cL_law 427 = .ok (.iload 12, 2) := by decide +kernel
theorem dL_law_429 : decode cL_law 429 = .ok (.iload 8, 2) := by decide +kernel
theorem dL_law_431 : decode cL_law 431 = .ok (.if_icmp .ge 116, 3) := by decide +kernel
theorem dL_law_434 : decode cL_law 434 = .ok (.iconst 0, 1) := by decide +kernel
theorem dL_law_435 : decode cL_law 435 = .ok (.istore 13, 2) := by decide +kernel
theorem dL_law_437 : decode cL_law 437 = .ok (.iload 13, 2) := by decide +kernel
theorem dL_law_439 : decode cL_law 439 = .ok (.iload 8, 2) := by decide +kernel
theorem dL_law_441 : decode cL_law 441 = .ok (.if_icmp .ge 100, 3) := by decide +kernel
theorem dL_law_444 : decode cL_law 444 = .ok (.aload 6, 2) := by decide +kernel
theorem dL_law_446 : decode cL_law 446 = .ok (.iload 7, 2) := by decide +kernel
theorem dL_law_448 : decode cL_law 448 = .ok (.aaload, 1) := by decide +kernel
theorem dL_law_449 : decode cL_law 449 = .ok (.iload 12, 2) := by decide +kernel
theorem dL_law_451 : decode cL_law 451 = .ok (.aaload, 1) := by decide +kernel
theorem dL_law_452 : decode cL_law 452 = .ok (.iload 13, 2) := by decide +kernel
theorem dL_law_454 : decode cL_law 454 = .ok (.iaload, 1) := by decide +kernel
theorem dL_law_455 : decode cL_law 455 = .ok (.aload 6, 2) := by decide +kernel
theorem dL_law_457 : decode cL_law 457 = .ok (.iload 7, 2) := by decide +kernel
theorem dL_law_459 : decode cL_law 459 = .ok (.aaload, 1) := by decide +kernel
theorem dL_law_460 : decode cL_law 460 = .ok (.iload 13, 2) := by decide +kernel
theorem dL_law_462 : decode cL_law 462 = .ok (.aaload, 1) := by decide +kernel
theorem dL_law_463 : decode cL_law 463 = .ok (.iload 12, 2) := by decide +kernel
theorem dL_law_465 : decode cL_law 465 = .ok (.iaload, 1) := by decide +kernel
theorem dL_law_466 : decode cL_law 466 = .ok (.if_icmp .eq 5, 3) := by decide +kernel
theorem dL_law_469 : decode cL_law 469 = .ok (.iconst 0, 1) := by decide +kernel
theorem dL_law_470 : decode cL_law 470 = .ok (.ireturn, 1) := by decide +kernel
theorem dL_law_471 : decode cL_law 471 = .ok (.iconst 0, 1) := by decide +kernel
theorem dL_law_472 : decode cL_law 472 = .ok (.istore 14, 2) := by decide +kernel
theorem dL_law_474 : decode cL_law 474 = .ok (.iload 14, 2) := by decide +kernel
theorem dL_law_476 : decode cL_law 476 = .ok (.iload 8, 2) := by decide +kernel
theorem dL_law_478 : decode cL_law 478 = .ok (.if_icmp .ge 57, 3) := by decide +kernel
theorem dL_law_481 : decode cL_law 481 = .ok (.aload_n 1, 1) := by decide +kernel
theorem dL_law_482 : decode cL_law 482 = .ok (.invokevirtual 107, 3) := by decide +kernel
theorem dL_law_485 : decode cL_law 485 = .ok (.bipush 9, 2) := by decide +kernel
theorem dL_law_487 : decode cL_law 487 = .ok (.if_icmp .ne 48, 3) := by decide +kernel
theorem dL_law_490 : decode cL_law 490 = .ok (.aload 6, 2) := by decide +kernel
theorem dL_law_492 : decode cL_law 492 = .ok (.iload 7, 2) := by decide +kernel
theorem dL_law_494 : decode cL_law 494 = .ok (.aaload, 1) := by decide +kernel
theorem dL_law_495 : decode cL_law 495 = .ok (.iload 12, 2) := by decide +kernel
theorem dL_law_497 : decode cL_law 497 = .ok (.aaload, 1) := by decide +kernel
theorem dL_law_498 : decode cL_law 498 = .ok (.iload 13, 2) := by decide +kernel
theorem dL_law_500 : decode cL_law 500 = .ok (.iaload, 1) := by decide +kernel
theorem dL_law_501 : decode cL_law 501 = .ok (.aload 6, 2) := by decide +kernel
theorem dL_law_503 : decode cL_law 503 = .ok (.iload 7, 2) := by decide +kernel
theorem dL_law_505 : decode cL_law 505 = .ok (.aaload, 1) := by decide +kernel
theorem dL_law_506 : decode cL_law 506 = .ok (.iload 12, 2) := by decide +kernel
theorem dL_law_508 : decode cL_law 508 = .ok (.aaload, 1) := by decide +kernel
theorem dL_law_509 : decode cL_law 509 = .ok (.iload 14, 2) := by decide +kernel
theorem dL_law_511 : decode cL_law 511 = .ok (.iaload, 1) := by decide +kernel
theorem dL_law_512 : decode cL_law 512 = .ok (.aload 6, 2) := by decide +kernel
theorem dL_law_514 : decode cL_law 514 = .ok (.iload 7, 2) := by decide +kernel
theorem dL_law_516 : decode cL_law 516 = .ok (.aaload, 1) := by decide +kernel
theorem dL_law_517 : decode cL_law 517 = .ok (.iload 14, 2) := by decide +kernel
theorem dL_law_519 : decode cL_law 519 = .ok (.aaload, 1) := by decide +kernel
theorem dL_law_520 : decode cL_law 520 = .ok (.iload 13, 2) := by decide +kernel
theorem dL_law_522 : decode cL_law 522 = .ok (.iaload, 1) := by decide +kernel
theorem dL_law_523 : decode cL_law 523 = .ok (.iadd, 1) := by decide +kernel
theorem dL_law_524 : decode cL_law 524 = .ok (.if_icmp .le 5, 3) := by decide +kernel
theorem dL_law_527 : decode cL_law 527 = .ok (.iconst 0, 1) := by decide +kernel
theorem dL_law_528 : decode cL_law 528 = .ok (.ireturn, 1) := by decide +kernel
theorem dL_law_529 : decode cL_law 529 = .ok (.iinc 14 1, 3) := by decide +kernel
theorem dL_law_532 : decode cL_law 532 = .ok (.goto (-58), 3) := by decide +kernel
theorem dL_law_535 : decode cL_law 535 = .ok (.iinc 13 1, 3) := by decide +kernel
theorem dL_law_538 : decode cL_law 538 = .ok (.goto (-101), 3) := by decide +kernel
theorem dL_law_541 : decode cL_law 541 = .ok (.iinc 12 1, 3) := by decide +kernel
theorem dL_law_544 : decode cL_law 544 = .ok (.goto (-117), 3) := by decide +kernel
theorem dL_law_547 : decode cL_law 547 = .ok (.aload_n 1, 1) := by decide +kernel
theorem dL_law_548 : decode cL_law 548 = .ok (.iload 7, 2) := by decide +kernel
theorem dL_law_550 : decode cL_law 550 = .ok (.invokevirtual 108, 3) := by decide +kernel
theorem dL_law_553 : decode cL_law 553 = .ok (.iload 9, 2) := by decide +kernel
theorem dL_law_555 : decode cL_law 555 = .ok (.if_icmp .ne 62, 3) := by decide +kernel
theorem dL_law_558 : decode cL_law 558 = .ok (.aload_n 1, 1) := by decide +kernel
theorem dL_law_559 : decode cL_law 559 = .ok (.iload 7, 2) := by decide +kernel
theorem dL_law_561 : decode cL_law 561 = .ok (.invokevirtual 111, 3) := by decide +kernel
theorem dL_law_564 : decode cL_law 564 = .ok (.iload 10, 2) := by decide +kernel
theorem dL_law_566 : decode cL_law 566 = .ok (.if_icmp .ne 51, 3) := by decide +kernel
theorem dL_law_569 : decode cL_law 569 = .ok (.aload_n 1, 1) := by decide +kernel
theorem dL_law_570 : decode cL_law 570 = .ok (.iload 7, 2) := by decide +kernel
theorem dL_law_572 : decode cL_law 572 = .ok (.invokevirtual 114, 3) := by decide +kernel
theorem dL_law_575 : decode cL_law 575 = .ok (.iload 8, 2) := by decide +kernel
theorem dL_law_577 : decode cL_law 577 = .ok (.iconst 2, 1) := by decide +kernel
theorem dL_law_578 : decode cL_law 578 = .ok (.if_icmp .ge 7, 3) := by decide +kernel
theorem dL_law_581 : decode cL_law 581 = .ok (.iconst 0, 1) := by decide +kernel
theorem dL_law_582 : decode cL_law 582 = .ok (.goto 5, 3) := by decide +kernel
theorem dL_law_585 : decode cL_law 585 = .ok (.iload 11, 2) := by decide +kernel
theorem dL_law_587 : decode cL_law 587 = .ok (.if_icmp .ne 30, 3) := by decide +kernel
theorem dL_law_590 : decode cL_law 590 = .ok (.aload_n 1, 1) := by decide +kernel
theorem dL_law_591 : decode cL_law 591 = .ok (.iload 7, 2) := by decide +kernel
theorem dL_law_593 : decode cL_law 593 = .ok (.invokevirtual 117, 3) := by decide +kernel
theorem dL_law_596 : decode cL_law 596 = .ok (.ifCond .ge 7, 3) := by decide +kernel
theorem dL_law_599 : decode cL_law 599 = .ok (.iconst 1, 1) := by decide +kernel
theorem dL_law_600 : decode cL_law 600 = .ok (.goto 4, 3) := by decide +kernel
theorem dL_law_603 : decode cL_law 603 = .ok (.iconst 0, 1) := by decide +kernel
theorem dL_law_604 : decode cL_law 604 = .ok (.iload 8, 2) := by decide +kernel
theorem dL_law_606 : decode cL_law 606 = .ok (.ifCond .ne 7, 3) := by decide +kernel
theorem dL_law_609 : decode cL_law 609 = .ok (.iconst 1, 1) := by decide +kernel
theorem dL_law_610 : decode cL_law 610 = .ok (.goto 4, 3) := by decide +kernel
theorem dL_law_613 : decode cL_law 613 = .ok (.iconst 0, 1) := by decide +kernel
theorem dL_law_614 : decode cL_law 614 = .ok (.if_icmp .eq 5, 3) := by decide +kernel
theorem dL_law_617 : decode cL_law 617 = .ok (.iconst 0, 1) := by decide +kernel
theorem dL_law_618 : decode cL_law 618 = .ok (.ireturn, 1) := by decide +kernel
theorem dL_law_619 : decode cL_law 619 = .ok (.iconst 0, 1) := by decide +kernel
theorem dL_law_620 : decode cL_law 620 = .ok (.istore 12, 2) := by decide +kernel
theorem dL_law_622 : decode cL_law 622 = .ok (.iload 12, 2) := by decide +kernel
theorem dL_law_624 : decode cL_law 624 = .ok (.iload 5, 2) := by decide +kernel
theorem dL_law_626 : decode cL_law 626 = .ok (.if_icmp .ge 96, 3) := by decide +kernel
theorem dL_law_629 : decode cL_law 629 = .ok (.aload_n 1, 1) := by decide +kernel
theorem dL_law_630 : decode cL_law 630 = .ok (.iload 7, 2) := by decide +kernel
theorem dL_law_632 : decode cL_law 632 = .ok (.iload 12, 2) := by decide +kernel
theorem dL_law_634 : decode cL_law 634 = .ok (.invokevirtual 120, 3) := by decide +kernel
theorem dL_law_637 : decode cL_law 637 = .ok (.istore 13, 2) := by decide +kernel
theorem dL_law_639 : decode cL_law 639 = .ok (.aload_n 1, 1) := by decide +kernel
theorem dL_law_640 : decode cL_law 640 = .ok (.iload 7, 2) := by decide +kernel
theorem dL_law_642 : decode cL_law 642 = .ok (.iload 12, 2) := by decide +kernel
theorem dL_law_644 : decode cL_law 644 = .ok (.invokevirtual 123, 3) := by decide +kernel
theorem dL_law_647 : decode cL_law 647 = .ok (.istore 14, 2) := by decide +kernel
theorem dL_law_649 : decode cL_law 649 = .ok (.iload 13, 2) := by decide +kernel
theorem dL_law_651 : decode cL_law 651 = .ok (.ifCond .lt 63, 3) := by decide +kernel
theorem dL_law_654 : decode cL_law 654 = .ok (.aload_n 1, 1) := by decide +kernel
theorem dL_law_655 : decode cL_law 655 = .ok (.iload 7, 2) := by decide +kernel
theorem dL_law_657 : decode cL_law 657 = .ok (.iload 12, 2) := by decide +kernel
theorem dL_law_659 : decode cL_law 659 = .ok (.invokevirtual 126, 3) := by decide +kernel
theorem dL_law_662 : decode cL_law 662 = .ok (.ifCond .lt 52, 3) := by decide +kernel
theorem dL_law_665 : decode cL_law 665 = .ok (.iload 13, 2) := by decide +kernel
theorem dL_law_667 : decode cL_law 667 = .ok (.aload_n 1, 1) := by decide +kernel
theorem dL_law_668 : decode cL_law 668 = .ok (.iload 7, 2) := by decide +kernel
theorem dL_law_670 : decode cL_law 670 = .ok (.iload 12, 2) := by decide +kernel
theorem dL_law_672 : decode cL_law 672 = .ok (.invokevirtual 126, 3) := by decide +kernel
theorem dL_law_675 : decode cL_law 675 = .ok (.iadd, 1) := by decide +kernel
theorem dL_law_676 : decode cL_law 676 = .ok (.iload 8, 2) := by decide +kernel
theorem dL_law_678 : decode cL_law 678 = .ok (.if_icmp .gt 36, 3) := by decide +kernel
theorem dL_law_681 : decode cL_law 681 = .ok (.iload 14, 2) := by decide +kernel
theorem dL_law_683 : decode cL_law 683 = .ok (.iload 13, 2) := by decide +kernel
theorem dL_law_685 : decode cL_law 685 = .ok (.if_icmp .gt 29, 3) := by decide +kernel
theorem dL_law_688 : decode cL_law 688 = .ok (.iload 14, 2) := by decide +kernel
theorem dL_law_690 : decode cL_law 690 = .ok (.aload_n 1, 1) := by decide +kernel
theorem dL_law_691 : decode cL_law 691 = .ok (.iload 12, 2) := by decide +kernel
theorem dL_law_693 : decode cL_law 693 = .ok (.iload 7, 2) := by decide +kernel
theorem dL_law_695 : decode cL_law 695 = .ok (.invokevirtual 120, 3) := by decide +kernel
theorem dL_law_698 : decode cL_law 698 = .ok (.if_icmp .gt 16, 3) := by decide +kernel
theorem dL_law_701 : decode cL_law 701 = .ok (.iload 14, 2) := by decide +kernel
theorem dL_law_703 : decode cL_law 703 = .ok (.aload_n 1, 1) := by decide +kernel
theorem dL_law_704 : decode cL_law 704 = .ok (.iload 12, 2) := by decide +kernel
theorem dL_law_706 : decode cL_law 706 = .ok (.iload 7, 2) := by decide +kernel
theorem dL_law_708 : decode cL_law 708 = .ok (.invokevirtual 123, 3) := by decide +kernel
theorem dL_law_711 : decode cL_law 711 = .ok (.if_icmp .eq 5, 3) := by decide +kernel
theorem dL_law_714 : decode cL_law 714 = .ok (.iconst 0, 1) := by decide +kernel
theorem dL_law_715 : decode cL_law 715 = .ok (.ireturn, 1) := by decide +kernel
theorem dL_law_716 : decode cL_law 716 = .ok (.iinc 12 1, 3) := by decide +kernel
theorem dL_law_719 : decode cL_law 719 = .ok (.goto (-97), 3) := by decide +kernel
theorem dL_law_722 : decode cL_law 722 = .ok (.iinc 7 1, 3) := by decide +kernel
theorem dL_law_725 : decode cL_law 725 = .ok (.goto (-646), 3) := by decide +kernel
theorem dL_law_728 : decode cL_law 728 = .ok (.iload 4, 2) := by decide +kernel
theorem dL_law_730 : decode cL_law 730 = .ok (.iconst 2, 1) := by decide +kernel
theorem dL_law_731 : decode cL_law 731 = .ok (.ishr, 1) := by decide +kernel
theorem dL_law_732 : decode cL_law 732 = .ok (.bipush 9, 2) := by decide +kernel
theorem dL_law_734 : decode cL_law 734 = .ok (.invokestatic 15, 3) := by decide +kernel
theorem dL_law_737 : decode cL_law 737 = .ok (.istore 7, 2) := by decide +kernel
theorem dL_law_739 : decode cL_law 739 = .ok (.iload 4, 2) := by decide +kernel
theorem dL_law_741 : decode cL_law 741 = .ok (.iconst 4, 1) := by decide +kernel
theorem dL_law_742 : decode cL_law 742 = .ok (.ishr, 1) := by decide +kernel
theorem dL_law_743 : decode cL_law 743 = .ok (.bipush 9, 2) := by decide +kernel
theorem dL_law_745 : decode cL_law 745 = .ok (.invokestatic 15, 3) := by decide +kernel
theorem dL_law_748 : decode cL_law 748 = .ok (.istore 8, 2) := by decide +kernel
theorem dL_law_750 : decode cL_law 750 = .ok (.iload 4, 2) := by decide +kernel
theorem dL_law_752 : decode cL_law 752 = .ok (.iconst 5, 1) := by decide +kernel
theorem dL_law_753 : decode cL_law 753 = .ok (.invokestatic 15, 3) := by decide +kernel
theorem dL_law_756 : decode cL_law 756 = .ok (.ifCond .le 6, 3) := by decide +kernel
theorem dL_law_759 : decode cL_law 759 = .ok (.goto 126, 3) := by decide +kernel
theorem dL_law_762 : decode cL_law 762 = .ok (.aload_n 2, 1) := by decide +kernel
theorem dL_law_763 : decode cL_law 763 = .ok (.iload 7, 2) := by decide +kernel
theorem dL_law_765 : decode cL_law 765 = .ok (.iload 8, 2) := by decide +kernel
theorem dL_law_767 : decode cL_law 767 = .ok (.invokevirtual 51, 3) := by decide +kernel
theorem dL_law_770 : decode cL_law 770 = .ok (.aload_n 1, 1) := by decide +kernel
theorem dL_law_771 : decode cL_law 771 = .ok (.iload 7, 2) := by decide +kernel
theorem dL_law_773 : decode cL_law 773 = .ok (.iload 8, 2) := by decide +kernel
theorem dL_law_775 : decode cL_law 775 = .ok (.invokevirtual 54, 3) := by decide +kernel
theorem dL_law_778 : decode cL_law 778 = .ok (.pop, 1) := by decide +kernel
theorem dL_law_779 : decode cL_law 779 = .ok (.aload_n 1, 1) := by decide +kernel
theorem dL_law_780 : decode cL_law 780 = .ok (.iload 7, 2) := by decide +kernel
theorem dL_law_782 : decode cL_law 782 = .ok (.iload 8, 2) := by decide +kernel
theorem dL_law_784 : decode cL_law 784 = .ok (.invokevirtual 129, 3) := by decide +kernel
theorem dL_law_787 : decode cL_law 787 = .ok (.ifCond .ne 14, 3) := by decide +kernel
theorem dL_law_790 : decode cL_law 790 = .ok (.aload_n 1, 1) := by decide +kernel
theorem dL_law_791 : decode cL_law 791 = .ok (.iload 8, 2) := by decide +kernel
theorem dL_law_793 : decode cL_law 793 = .ok (.iload 7, 2) := by decide +kernel
theorem dL_law_795 : decode cL_law 795 = .ok (.invokevirtual 132, 3) := by decide +kernel
theorem dL_law_798 : decode cL_law 798 = .ok (.ifCond .ne 5, 3) := by decide +kernel
theorem dL_law_801 : decode cL_law 801 = .ok (.iconst 0, 1) := by decide +kernel
theorem dL_law_802 : decode cL_law 802 = .ok (.ireturn, 1) := by decide +kernel
theorem dL_law_803 : decode cL_law 803 = .ok (.iconst 0, 1) := by decide +kernel
theorem dL_law_804 : decode cL_law 804 = .ok (.istore 9, 2) := by decide +kernel
theorem dL_law_806 : decode cL_law 806 = .ok (.iload 9, 2) := by decide +kernel
theorem dL_law_808 : decode cL_law 808 = .ok (.iload 5, 2) := by decide +kernel
theorem dL_law_810 : decode cL_law 810 = .ok (.if_icmp .ge 75, 3) := by decide +kernel
theorem dL_law_813 : decode cL_law 813 = .ok (.iconst 0, 1) := by decide +kernel
theorem dL_law_814 : decode cL_law 814 = .ok (.istore 10, 2) := by decide +kernel
theorem dL_law_816 : decode cL_law 816 = .ok (.iload 10, 2) := by decide +kernel
theorem dL_law_818 : decode cL_law 818 = .ok (.aload 6, 2) := by decide +kernel
theorem dL_law_820 : decode cL_law 820 = .ok (.iload 9, 2) := by decide +kernel
theorem dL_law_822 : decode cL_law 822 = .ok (.aaload, 1) := by decide +kernel
theorem dL_law_823 : decode cL_law 823 = .ok (.arraylength, 1) := by decide +kernel
theorem dL_law_824 : decode cL_law 824 = .ok (.if_icmp .ge 55, 3) := by decide +kernel
theorem dL_law_827 : decode cL_law 827 = .ok (.iconst 0, 1) := by decide +kernel
theorem dL_law_828 : decode cL_law 828 = .ok (.istore 11, 2) := by decide +kernel
theorem dL_law_830 : decode cL_law 830 = .ok (.iload 11, 2) := by decide +kernel
theorem dL_law_832 : decode cL_law 832 = .ok (.aload 6, 2) := by decide +kernel
theorem dL_law_834 : decode cL_law 834 = .ok (.iload 9, 2) := by decide +kernel
theorem dL_law_836 : decode cL_law 836 = .ok (.aaload, 1) := by decide +kernel
theorem dL_law_837 : decode cL_law 837 = .ok (.arraylength, 1) := by decide +kernel
theorem dL_law_838 : decode cL_law 838 = .ok (.if_icmp .ge 35, 3) := by decide +kernel
theorem dL_law_841 : decode cL_law 841 = .ok (.aload_n 1, 1) := by decide +kernel
theorem dL_law_842 : decode cL_law 842 = .ok (.iload 9, 2) := by decide +kernel
theorem dL_law_844 : decode cL_law 844 = .ok (.iload 10, 2) := by decide +kernel
theorem dL_law_846 : decode cL_law 846 = .ok (.iload 11, 2) := by decide +kernel
theorem dL_law_848 : decode cL_law 848 = .ok (.invokevirtual 93, 3) := by decide +kernel
theorem dL_law_851 : decode cL_law 851 = .ok (.aload 6, 2) := by decide +kernel
theorem dL_law_853 : decode cL_law 853 = .ok (.iload 9, 2) := by decide +kernel
theorem dL_law_855 : decode cL_law 855 = .ok (.aaload, 1) := by decide +kernel
theorem dL_law_856 : decode cL_law 856 = .ok (.iload 10, 2) := by decide +kernel
theorem dL_law_858 : decode cL_law 858 = .ok (.aaload, 1) := by decide +kernel
theorem dL_law_859 : decode cL_law 859 = .ok (.iload 11, 2) := by decide +kernel
theorem dL_law_861 : decode cL_law 861 = .ok (.iaload, 1) := by decide +kernel
theorem dL_law_862 : decode cL_law 862 = .ok (.if_icmp .le 5, 3) := by decide +kernel
theorem dL_law_865 : decode cL_law 865 = .ok (.iconst 0, 1) := by decide +kernel
theorem dL_law_866 : decode cL_law 866 = .ok (.ireturn, 1) := by decide +kernel
theorem dL_law_867 : decode cL_law 867 = .ok (.iinc 11 1, 3) := by decide +kernel
theorem dL_law_870 : decode cL_law 870 = .ok (.goto (-40), 3) := by decide +kernel
theorem dL_law_873 : decode cL_law 873 = .ok (.iinc 10 1, 3) := by decide +kernel
theorem dL_law_876 : decode cL_law 876 = .ok (.goto (-60), 3) := by decide +kernel
theorem dL_law_879 : decode cL_law 879 = .ok (.iinc 9 1, 3) := by decide +kernel
theorem dL_law_882 : decode cL_law 882 = .ok (.goto (-76), 3) := by decide +kernel
theorem dL_law_885 : decode cL_law 885 = .ok (.iinc 3 1, 3) := by decide +kernel
theorem dL_law_888 : decode cL_law 888 = .ok (.goto (-866), 3) := by decide +kernel
theorem dL_law_891 : decode cL_law 891 = .ok (.aload_n 2, 1) := by decide +kernel
theorem dL_law_892 : decode cL_law 892 = .ok (.aload_n 1, 1) := by decide +kernel
theorem dL_law_893 : decode cL_law 893 = .ok (.invokevirtual 136, 3) := by decide +kernel
theorem dL_law_896 : decode cL_law 896 = .ok (.ireturn, 1) := by decide +kernel
