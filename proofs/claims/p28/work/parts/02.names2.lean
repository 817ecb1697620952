theorem dL_cell_0 : decode cL_cell 0 = .ok (.iload_n 1, 1) := by decide +kernel
theorem dL_cell_1 : decode cL_cell 1 = .ok (.aload_n 0, 1) := by decide +kernel
theorem dL_cell_2 : decode cL_cell 2 = .ok (.arraylength, 1) := by decide +kernel
theorem dL_cell_3 : decode cL_cell 3 = .ok (.if_icmp .ge 9, 3) := by decide +kernel
theorem dL_cell_6 : decode cL_cell 6 = .ok (.aload_n 0, 1) := by decide +kernel
theorem dL_cell_7 : decode cL_cell 7 = .ok (.iload_n 1, 1) := by decide +kernel
theorem dL_cell_8 : decode cL_cell 8 = .ok (.iaload, 1) := by decide +kernel
theorem dL_cell_9 : decode cL_cell 9 = .ok (.goto 9, 3) := by decide +kernel
theorem dL_cell_12 : decode cL_cell 12 = .ok (.ldc 7, 2) := by decide +kernel
theorem dL_cell_14 : decode cL_cell 14 = .ok (.iload_n 1, 1) := by decide +kernel
theorem dL_cell_15 : decode cL_cell 15 = .ok (.iconst 1, 1) := by decide +kernel
theorem dL_cell_16 : decode cL_cell 16 = .ok (.iadd, 1) := by decide +kernel
theorem dL_cell_17 : decode cL_cell 17 = .ok (.imul, 1) := by decide +kernel
theorem dL_cell_18 : decode cL_cell 18 = .ok (.ireturn, 1) := by decide +kernel
theorem dL_low_0 : decode cL_low 0 = .ok (.iload_n 0, 1) := by decide +kernel
theorem dL_low_1 : decode cL_low 1 = .ok (.ldc 8, 2) := by decide +kernel
theorem dL_low_3 : decode cL_low 3 = .ok (.iand, 1) := by decide +kernel
theorem dL_low_4 : decode cL_low 4 = .ok (.iload_n 1, 1) := by decide +kernel
theorem dL_low_5 : decode cL_low 5 = .ok (.irem, 1) := by decide +kernel
theorem dL_low_6 : decode cL_low 6 = .ok (.ireturn, 1) := by decide +kernel
theorem dL_change_0 : decode cL_change 0 = .ok (.iload_n 1, 1) := by decide +kernel
theorem dL_change_1 : decode cL_change 1 = .ok (.bipush 18, 2) := by decide +kernel
theorem dL_change_3 : decode cL_change 3 = .ok (.invokestatic 9, 3) := by decide +kernel
theorem dL_change_6 : decode cL_change 6 = .ok (.tableswitch 372 0 16 #[82, 82, 82, 82, 82, 82, 92, 97, 158, 158, 199, 237, 251, 272, 297, 317, 322], 82) := by decide +kernel
theorem dL_change_88 : decode cL_change 88 = .ok (.aload_n 0, 1) := by decide +kernel
theorem dL_change_89 : decode cL_change 89 = .ok (.iload_n 2, 1) := by decide +kernel
theorem dL_change_90 : decode cL_change 90 = .ok (.iconst 4, 1) := by decide +kernel
theorem dL_change_91 : decode cL_change 91 = .ok (.invokestatic 9, 3) := by decide +kernel
theorem dL_change_94 : decode cL_change 94 = .ok (.invokevirtual 15, 3) := by decide +kernel
theorem dL_change_97 : decode cL_change 97 = .ok (.ireturn, 1) := by decide +kernel
theorem dL_change_98 : decode cL_change 98 = .ok (.aload_n 0, 1) := by decide +kernel
theorem dL_change_99 : decode cL_change 99 = .ok (.invokevirtual 21, 3) := by decide +kernel
theorem dL_change_102 : decode cL_change 102 = .ok (.ireturn, 1) := by decide +kernel
theorem dL_change_103 : decode cL_change 103 = .ok (.iload_n 2, 1) := by decide +kernel
theorem dL_change_104 : decode cL_change 104 = .ok (.iconst 2, 1) := by decide +kernel
theorem dL_change_105 : decode cL_change 105 = .ok (.invokestatic 9, 3) := by decide +kernel
theorem dL_change_108 : decode cL_change 108 = .ok (.ifCond .ne 10, 3) := by decide +kernel
theorem dL_change_111 : decode cL_change 111 = .ok (.aload_n 0, 1) := by decide +kernel
theorem dL_change_112 : decode cL_change 112 = .ok (.invokevirtual 25, 3) := by decide +kernel
theorem dL_change_115 : decode cL_change 115 = .ok (.goto 48, 3) := by decide +kernel
theorem dL_change_118 : decode cL_change 118 = .ok (.aload_n 0, 1) := by decide +kernel
theorem dL_change_119 : decode cL_change 119 = .ok (.iload_n 2, 1) := by decide +kernel
theorem dL_change_120 : decode cL_change 120 = .ok (.iconst 1, 1) := by decide +kernel
theorem dL_change_121 : decode cL_change 121 = .ok (.ishr, 1) := by decide +kernel
theorem dL_change_122 : decode cL_change 122 = .ok (.sipush 2000, 3) := by decide +kernel
theorem dL_change_125 : decode cL_change 125 = .ok (.invokestatic 9, 3) := by decide +kernel
theorem dL_change_128 : decode cL_change 128 = .ok (.iload_n 2, 1) := by decide +kernel
theorem dL_change_129 : decode cL_change 129 = .ok (.bipush 12, 2) := by decide +kernel
theorem dL_change_131 : decode cL_change 131 = .ok (.ishr, 1) := by decide +kernel
theorem dL_change_132 : decode cL_change 132 = .ok (.iconst 3, 1) := by decide +kernel
theorem dL_change_133 : decode cL_change 133 = .ok (.invokestatic 9, 3) := by decide +kernel
theorem dL_change_136 : decode cL_change 136 = .ok (.ifCond .ne 15, 3) := by decide +kernel
theorem dL_change_139 : decode cL_change 139 = .ok (.iload_n 2, 1) := by decide +kernel
theorem dL_change_140 : decode cL_change 140 = .ok (.bipush 14, 2) := by decide +kernel
theorem dL_change_142 : decode cL_change 142 = .ok (.ishr, 1) := by decide +kernel
theorem dL_change_143 : decode cL_change 143 = .ok (.bipush 100, 2) := by decide +kernel
theorem dL_change_145 : decode cL_change 145 = .ok (.invokestatic 9, 3) := by decide +kernel
theorem dL_change_148 : decode cL_change 148 = .ok (.goto 12, 3) := by decide +kernel
theorem dL_change_151 : decode cL_change 151 = .ok (.iload_n 2, 1) := by decide +kernel
theorem dL_change_152 : decode cL_change 152 = .ok (.iconst 1, 1) := by decide +kernel
theorem dL_change_153 : decode cL_change 153 = .ok (.ishr, 1) := by decide +kernel
theorem dL_change_154 : decode cL_change 154 = .ok (.sipush 2000, 3) := by decide +kernel
theorem dL_change_157 : decode cL_change 157 = .ok (.invokestatic 9, 3) := by decide +kernel
theorem dL_change_160 : decode cL_change 160 = .ok (.invokevirtual 28, 3) := by decide +kernel
theorem dL_change_163 : decode cL_change 163 = .ok (.ireturn, 1) := by decide +kernel
theorem dL_change_164 : decode cL_change 164 = .ok (.aload_n 0, 1) := by decide +kernel
theorem dL_change_165 : decode cL_change 165 = .ok (.bipush 100, 2) := by decide +kernel
theorem dL_change_167 : decode cL_change 167 = .ok (.iload_n 2, 1) := by decide +kernel
theorem dL_change_168 : decode cL_change 168 = .ok (.sipush 4000, 3) := by decide +kernel
theorem dL_change_171 : decode cL_change 171 = .ok (.invokestatic 9, 3) := by decide +kernel
theorem dL_change_174 : decode cL_change 174 = .ok (.iadd, 1) := by decide +kernel
theorem dL_change_175 : decode cL_change 175 = .ok (.bipush 100, 2) := by decide +kernel
theorem dL_change_177 : decode cL_change 177 = .ok (.iload_n 2, 1) := by decide +kernel
theorem dL_change_178 : decode cL_change 178 = .ok (.iload_n 2, 1) := by decide +kernel
theorem dL_change_179 : decode cL_change 179 = .ok (.bipush 12, 2) := by decide +kernel
theorem dL_change_181 : decode cL_change 181 = .ok (.ishr, 1) := by decide +kernel
theorem dL_change_182 : decode cL_change 182 = .ok (.iconst 3, 1) := by decide +kernel
theorem dL_change_183 : decode cL_change 183 = .ok (.invokestatic 9, 3) := by decide +kernel
theorem dL_change_186 : decode cL_change 186 = .ok (.ifCond .ne 8, 3) := by decide +kernel
theorem dL_change_189 : decode cL_change 189 = .ok (.bipush 100, 2) := by decide +kernel
theorem dL_change_191 : decode cL_change 191 = .ok (.goto 6, 3) := by decide +kernel
theorem dL_change_194 : decode cL_change 194 = .ok (.sipush 4000, 3) := by decide +kernel
theorem dL_change_197 : decode cL_change 197 = .ok (.invokestatic 9, 3) := by decide +kernel
theorem dL_change_200 : decode cL_change 200 = .ok (.iadd, 1) := by decide +kernel
theorem dL_change_201 : decode cL_change 201 = .ok (.invokevirtual 28, 3) := by decide +kernel
theorem dL_change_204 : decode cL_change 204 = .ok (.ireturn, 1) := by decide +kernel
theorem dL_change_205 : decode cL_change 205 = .ok (.aload_n 0, 1) := by decide +kernel
theorem dL_change_206 : decode cL_change 206 = .ok (.iload_n 2, 1) := by decide +kernel
theorem dL_change_207 : decode cL_change 207 = .ok (.iconst 2, 1) := by decide +kernel
theorem dL_change_208 : decode cL_change 208 = .ok (.invokestatic 9, 3) := by decide +kernel
theorem dL_change_211 : decode cL_change 211 = .ok (.ifCond .ne 20, 3) := by decide +kernel
theorem dL_change_214 : decode cL_change 214 = .ok (.aload_n 0, 1) := by decide +kernel
theorem dL_change_215 : decode cL_change 215 = .ok (.iconst 1, 1) := by decide +kernel
theorem dL_change_216 : decode cL_change 216 = .ok (.invokevirtual 31, 3) := by decide +kernel
theorem dL_change_219 : decode cL_change 219 = .ok (.iload_n 2, 1) := by decide +kernel
theorem dL_change_220 : decode cL_change 220 = .ok (.iconst 1, 1) := by decide +kernel
theorem dL_change_221 : decode cL_change 221 = .ok (.ishr, 1) := by decide +kernel
theorem dL_change_222 : decode cL_change 222 = .ok (.bipush 12, 2) := by decide +kernel
theorem dL_change_224 : decode cL_change 224 = .ok (.invokestatic 9, 3) := by decide +kernel
theorem dL_change_227 : decode cL_change 227 = .ok (.iadd, 1) := by decide +kernel
theorem dL_change_228 : decode cL_change 228 = .ok (.goto 11, 3) := by decide +kernel
theorem dL_change_231 : decode cL_change 231 = .ok (.iload_n 2, 1) := by decide +kernel
theorem dL_change_232 : decode cL_change 232 = .ok (.iconst 1, 1) := by decide +kernel
theorem dL_change_233 : decode cL_change 233 = .ok (.ishr, 1) := by decide +kernel
theorem dL_change_234 : decode cL_change 234 = .ok (.ldc 34, 2) := by decide +kernel
theorem dL_change_236 : decode cL_change 236 = .ok (.invokestatic 9, 3) := by decide +kernel
theorem dL_change_239 : decode cL_change 239 = .ok (.invokevirtual 35, 3) := by decide +kernel
theorem dL_change_242 : decode cL_change 242 = .ok (.ireturn, 1) := by decide +kernel
theorem dL_change_243 : decode cL_change 243 = .ok (.aload_n 0, 1) := by decide +kernel
theorem dL_change_244 : decode cL_change 244 = .ok (.iconst 1, 1) := by decide +kernel
theorem dL_change_245 : decode cL_change 245 = .ok (.iload_n 2, 1) := by decide +kernel
theorem dL_change_246 : decode cL_change 246 = .ok (.sipush 600, 3) := by decide +kernel
theorem dL_change_249 : decode cL_change 249 = .ok (.invokestatic 9, 3) := by decide +kernel
theorem dL_change_252 : decode cL_change 252 = .ok (.iadd, 1) := by decide +kernel
theorem dL_change_253 : decode cL_change 253 = .ok (.invokevirtual 38, 3) := by decide +kernel
theorem dL_change_256 : decode cL_change 256 = .ok (.ireturn, 1) := by decide +kernel
theorem dL_change_257 : decode cL_change 257 = .ok (.aload_n 0, 1) := by decide +kernel
theorem dL_change_258 : decode cL_change 258 = .ok (.iload_n 2, 1) := by decide +kernel
theorem dL_change_259 : decode cL_change 259 = .ok (.iconst 4, 1) := by decide +kernel
theorem dL_change_260 : decode cL_change 260 = .ok (.invokestatic 9, 3) := by decide +kernel
theorem dL_change_263 : decode cL_change 263 = .ok (.iconst 1, 1) := by decide +kernel
theorem dL_change_264 : decode cL_change 264 = .ok (.iload_n 2, 1) := by decide +kernel
theorem dL_change_265 : decode cL_change 265 = .ok (.iconst 2, 1) := by decide +kernel
theorem dL_change_266 : decode cL_change 266 = .ok (.ishr, 1) := by decide +kernel
theorem dL_change_267 : decode cL_change 267 = .ok (.sipush 999, 3) := by decide +kernel
theorem dL_change_270 : decode cL_change 270 = .ok (.invokestatic 9, 3) := by decide +kernel
theorem dL_change_273 : decode cL_change 273 = .ok (.iadd, 1) := by decide +kernel
theorem dL_change_274 : decode cL_change 274 = .ok (.invokevirtual 41, 3) := by decide +kernel
theorem dL_change_277 : decode cL_change 277 = .ok (.ireturn, 1) := by decide +kernel
theorem dL_change_278 : decode cL_change 278 = .ok (.aload_n 0, 1) := by decide +kernel
theorem dL_change_279 : decode cL_change 279 = .ok (.iload_n 2, 1) := by decide +kernel
theorem dL_change_280 : decode cL_change 280 = .ok (.iconst 3, 1) := by decide +kernel
theorem dL_change_281 : decode cL_change 281 = .ok (.invokestatic 9, 3) := by decide +kernel
theorem dL_change_284 : decode cL_change 284 = .ok (.ifCond .ne 7, 3) := by decide +kernel
theorem dL_change_287 : decode cL_change 287 = .ok (.iconst (-1), 1) := by decide +kernel
theorem dL_change_288 : decode cL_change 288 = .ok (.goto 11, 3) := by decide +kernel
theorem dL_change_291 : decode cL_change 291 = .ok (.iload_n 2, 1) := by decide +kernel
theorem dL_change_292 : decode cL_change 292 = .ok (.iconst 2, 1) := by decide +kernel
theorem dL_change_293 : decode cL_change 293 = .ok (.ishr, 1) := by decide +kernel
theorem dL_change_294 : decode cL_change 294 = .ok (.bipush 25, 2) := by decide +kernel
theorem dL_change_296 : decode cL_change 296 = .ok (.invokestatic 9, 3) := by decide +kernel
theorem dL_change_299 : decode cL_change 299 = .ok (.invokevirtual 44, 3) := by decide +kernel
theorem dL_change_302 : decode cL_change 302 = .ok (.ireturn, 1) := by decide +kernel
theorem dL_change_303 : decode cL_change 303 = .ok (.iload_n 2, 1) := by decide +kernel
theorem dL_change_304 : decode cL_change 304 = .ok (.iconst 2, 1) := by decide +kernel
theorem dL_change_305 : decode cL_change 305 = .ok (.invokestatic 9, 3) := by decide +kernel
theorem dL_change_308 : decode cL_change 308 = .ok (.ifCond .ne 10, 3) := by decide +kernel
theorem dL_change_311 : decode cL_change 311 = .ok (.aload_n 0, 1) := by decide +kernel
theorem dL_change_312 : decode cL_change 312 = .ok (.invokevirtual 47, 3) := by decide +kernel
theorem dL_change_315 : decode cL_change 315 = .ok (.goto 7, 3) := by decide +kernel
theorem dL_change_318 : decode cL_change 318 = .ok (.aload_n 0, 1) := by decide +kernel
theorem dL_change_319 : decode cL_change 319 = .ok (.invokevirtual 50, 3) := by decide +kernel
theorem dL_change_322 : decode cL_change 322 = .ok (.ireturn, 1) := by decide +kernel
theorem dL_change_323 : decode cL_change 323 = .ok (.aload_n 0, 1) := by decide +kernel
theorem dL_change_324 : decode cL_change 324 = .ok (.invokevirtual 53, 3) := by decide +kernel
theorem dL_change_327 : decode cL_change 327 = .ok (.ireturn, 1) := by decide +kernel
theorem dL_change_328 : decode cL_change 328 = .ok (.iload_n 2, 1) := by decide +kernel
theorem dL_change_329 : decode cL_change 329 = .ok (.iconst 3, 1) := by decide +kernel
theorem dL_change_330 : decode cL_change 330 = .ok (.invokestatic 9, 3) := by decide +kernel
theorem dL_change_333 : decode cL_change 333 = .ok (.ifCond .ne 17, 3) := by decide +kernel
theorem dL_change_336 : decode cL_change 336 = .ok (.aload_n 0, 1) := by decide +kernel
theorem dL_change_337 : decode cL_change 337 = .ok (.iload_n 2, 1) := by decide +kernel
theorem dL_change_338 : decode cL_change 338 = .ok (.iconst 2, 1) := by decide +kernel
theorem dL_change_339 : decode cL_change 339 = .ok (.ishr, 1) := by decide +kernel
theorem dL_change_340 : decode cL_change 340 = .ok (.iconst 2, 1) := by decide +kernel
theorem dL_change_341 : decode cL_change 341 = .ok (.invokestatic 9, 3) := by decide +kernel
theorem dL_change_344 : decode cL_change 344 = .ok (.invokevirtual 56, 3) := by decide +kernel
theorem dL_change_347 : decode cL_change 347 = .ok (.goto 30, 3) := by decide +kernel
theorem dL_change_350 : decode cL_change 350 = .ok (.iload_n 2, 1) := by decide +kernel
theorem dL_change_351 : decode cL_change 351 = .ok (.iconst 3, 1) := by decide +kernel
theorem dL_change_352 : decode cL_change 352 = .ok (.invokestatic 9, 3) := by decide +kernel
theorem dL_change_355 : decode cL_change 355 = .ok (.iconst 1, 1) := by decide +kernel
theorem dL_change_356 : decode cL_change 356 = .ok (.if_icmp .ne 17, 3) := by decide +kernel
theorem dL_change_359 : decode cL_change 359 = .ok (.aload_n 0, 1) := by decide +kernel
theorem dL_change_360 : decode cL_change 360 = .ok (.iload_n 2, 1) := by decide +kernel
theorem dL_change_361 : decode cL_change 361 = .ok (.iconst 2, 1) := by decide +kernel
theorem dL_change_362 : decode cL_change 362 = .ok (.ishr, 1) := by decide +kernel
theorem dL_change_363 : decode cL_change 363 = .ok (.iconst 2, 1) := by decide +kernel
theorem dL_change_364 : decode cL_change 364 = .ok (.invokestatic 9, 3) := by decide +kernel
theorem dL_change_367 : decode cL_change 367 = .ok (.invokevirtual 59, 3) := by decide +kernel
theorem dL_change_370 : decode cL_change 370 = .ok (.goto 7, 3) := by decide +kernel
theorem dL_change_373 : decode cL_change 373 = .ok (.aload_n 0, 1) := by decide +kernel
theorem dL_change_374 : decode cL_change 374 = .ok (.invokevirtual 50, 3) := by decide +kernel
theorem dL_change_377 : decode cL_change 377 = .ok (.ireturn, 1) := by decide +kernel
theorem dL_change_378 : decode cL_change 378 = .ok (.aload_n 0, 1) := by decide +kernel
theorem dL_change_379 : decode cL_change 379 = .ok (.invokevirtual 50, 3) := by decide +kernel
theorem dL_change_382 : decode cL_change 382 = .ok (.ireturn, 1) := by decide +kernel
theorem dL_isJournal_0 : decode cL_isJournal 0 = .ok (.aload_n 0, 1) := by decide +kernel
theorem dL_isJournal_1 : decode cL_isJournal 1 = .ok (.iconst (-1), 1) := by decide +kernel
theorem dL_isJournal_2 : decode cL_isJournal 2 = .ok (.invokevirtual 62, 3) := by decide +kernel
theorem dL_isJournal_5 : decode cL_isJournal 5 = .ok (.istore_n 1, 1) := by decide +kernel
theorem dL_isJournal_6 : decode cL_isJournal 6 = .ok (.iconst 0, 1) := by decide +kernel
theorem dL_isJournal_7 : decode cL_isJournal 7 = .ok (.istore_n 2, 1) := by decide +kernel
theorem dL_isJournal_8 : decode cL_isJournal 8 = .ok (.iconst 0, 1) := by decide +kernel
theorem dL_isJournal_9 : decode cL_isJournal 9 = .ok (.istore_n 3, 1) := by decide +kernel
theorem dL_isJournal_10 : decode cL_isJournal 10 = .ok (.iconst 0, 1) := by decide +kernel
theorem dL_isJournal_11 : decode cL_isJournal 11 = .ok (.istore 4, 2) := by decide +kernel
theorem dL_isJournal_13 : decode cL_isJournal 13 = .ok (.iconst 0, 1) := by decide +kernel
theorem dL_isJournal_14 : decode cL_isJournal 14 = .ok (.istore 5, 2) := by decide +kernel
theorem dL_isJournal_16 : decode cL_isJournal 16 = .ok (.iconst 0, 1) := by decide +kernel
theorem dL_isJournal_17 : decode cL_isJournal 17 = .ok (.istore 6, 2) := by decide +kernel
theorem dL_isJournal_19 : decode cL_isJournal 19 = .ok (.iload 6, 2) := by decide +kernel
theorem dL_isJournal_21 : decode cL_isJournal 21 = .ok (.iconst 5, 1) := by decide +kernel
theorem dL_isJournal_22 : decode cL_isJournal 22 = .ok (.if_icmp .ge 18, 3) := by decide +kernel
theorem dL_isJournal_25 : decode cL_isJournal 25 = .ok (.iload_n 2, 1) := by decide +kernel
theorem dL_isJournal_26 : decode cL_isJournal 26 = .ok (.aload_n 0, 1) := by decide +kernel
theorem dL_isJournal_27 : decode cL_isJournal 27 = .ok (.iload 6, 2) := by decide +kernel
theorem dL_isJournal_29 : decode cL_isJournal 29 = .ok (.invokevirtual 62, 3) := by decide +kernel
theorem dL_isJournal_32 : decode cL_isJournal 32 = .ok (.iadd, 1) := by decide +kernel
theorem dL_isJournal_33 : decode cL_isJournal 33 = .ok (.istore_n 2, 1) := by decide +kernel
theorem dL_isJournal_34 : decode cL_isJournal 34 = .ok (.iinc 6 1, 3) := by decide +kernel
theorem dL_isJournal_37 : decode cL_isJournal 37 = .ok (.goto (-18), 3) := by decide +kernel
theorem dL_isJournal_40 : decode cL_isJournal 40 = .ok (.iconst 0, 1) := by decide +kernel
theorem dL_isJournal_41 : decode cL_isJournal 41 = .ok (.istore 6, 2) := by decide +kernel
theorem dL_isJournal_43 : decode cL_isJournal 43 = .ok (.iload 6, 2) := by decide +kernel
theorem dL_isJournal_45 : decode cL_isJournal 45 = .ok (.iconst 5, 1) := by decide +kernel
theorem dL_isJournal_46 : decode cL_isJournal 46 = .ok (.if_icmp .ge 182, 3) := by decide +kernel
theorem dL_isJournal_49 : decode cL_isJournal 49 = .ok (.iload_n 3, 1) := by decide +kernel
theorem dL_isJournal_50 : decode cL_isJournal 50 = .ok (.aload_n 0, 1) := by decide +kernel
theorem dL_isJournal_51 : decode cL_isJournal 51 = .ok (.iload 6, 2) := by decide +kernel
theorem dL_isJournal_53 : decode cL_isJournal 53 = .ok (.iconst 2, 1) := by decide +kernel
theorem dL_isJournal_54 : decode cL_isJournal 54 = .ok (.invokevirtual 65, 3) := by decide +kernel
theorem dL_isJournal_57 : decode cL_isJournal 57 = .ok (.iadd, 1) := by decide +kernel
theorem dL_isJournal_58 : decode cL_isJournal 58 = .ok (.istore_n 3, 1) := by decide +kernel
theorem dL_isJournal_59 : decode cL_isJournal 59 = .ok (.iload 4, 2) := by decide +kernel
theorem dL_isJournal_61 : decode cL_isJournal 61 = .ok (.aload_n 0, 1) := by decide +kernel
theorem dL_isJournal_62 : decode cL_isJournal 62 = .ok (.iload 6, 2) := by decide +kernel
theorem dL_isJournal_64 : decode cL_isJournal 64 = .ok (.iconst 3, 1) := by decide +kernel
theorem dL_isJournal_65 : decode cL_isJournal 65 = .ok (.invokevirtual 65, 3) := by decide +kernel
theorem dL_isJournal_68 : decode cL_isJournal 68 = .ok (.iadd, 1) := by decide +kernel
theorem dL_isJournal_69 : decode cL_isJournal 69 = .ok (.istore 4, 2) := by decide +kernel
theorem dL_isJournal_71 : decode cL_isJournal 71 = .ok (.iload 5, 2) := by decide +kernel
theorem dL_isJournal_73 : decode cL_isJournal 73 = .ok (.aload_n 0, 1) := by decide +kernel
theorem dL_isJournal_74 : decode cL_isJournal 74 = .ok (.iload 6, 2) := by decide +kernel
theorem dL_isJournal_76 : decode cL_isJournal 76 = .ok (.iconst 0, 1) := by decide +kernel
theorem dL_isJournal_77 : decode cL_isJournal 77 = .ok (.invokevirtual 65, 3) := by decide +kernel
theorem dL_isJournal_80 : decode cL_isJournal 80 = .ok (.iadd, 1) := by decide +kernel
theorem dL_isJournal_81 : decode cL_isJournal 81 = .ok (.istore 5, 2) := by decide +kernel
theorem dL_isJournal_83 : decode cL_isJournal 83 = .ok (.iconst 0, 1) := by decide +kernel
theorem dL_isJournal_84 : decode cL_isJournal 84 = .ok (.istore 7, 2) := by decide +kernel
theorem dL_isJournal_86 : decode cL_isJournal 86 = .ok (.iload 7, 2) := by decide +kernel
theorem dL_isJournal_88 : decode cL_isJournal 88 = .ok (.bipush 22, 2) := by decide +kernel
theorem dL_isJournal_90 : decode cL_isJournal 90 = .ok (.if_icmp .ge 35, 3) := by decide +kernel
theorem dL_isJournal_93 : decode cL_isJournal 93 = .ok (.aload_n 0, 1) := by decide +kernel
theorem dL_isJournal_94 : decode cL_isJournal 94 = .ok (.iload 6, 2) := by decide +kernel
theorem dL_isJournal_96 : decode cL_isJournal 96 = .ok (.iload 7, 2) := by decide +kernel
theorem dL_isJournal_98 : decode cL_isJournal 98 = .ok (.invokevirtual 68, 3) := by decide +kernel
theorem dL_isJournal_101 : decode cL_isJournal 101 = .ok (.ifCond .lt 16, 3) := by decide +kernel
theorem dL_isJournal_104 : decode cL_isJournal 104 = .ok (.aload_n 0, 1) := by decide +kernel
theorem dL_isJournal_105 : decode cL_isJournal 105 = .ok (.iload 6, 2) := by decide +kernel
theorem dL_isJournal_107 : decode cL_isJournal 107 = .ok (.iload 7, 2) := by decide +kernel
theorem dL_isJournal_109 : decode cL_isJournal 109 = .ok (.invokevirtual 68, 3) := by decide +kernel
theorem dL_isJournal_112 : decode cL_isJournal 112 = .ok (.ldc 71, 2) := by decide +kernel
theorem dL_isJournal_114 : decode cL_isJournal 114 = .ok (.if_icmp .le 5, 3) := by decide +kernel
theorem dL_isJournal_117 : decode cL_isJournal 117 = .ok (.iconst 0, 1) := by decide +kernel
theorem dL_isJournal_118 : decode cL_isJournal 118 = .ok (.ireturn, 1) := by decide +kernel
theorem dL_isJournal_119 : decode cL_isJournal 119 = .ok (.iinc 7 1, 3) := by decide +kernel
theorem dL_isJournal_122 : decode cL_isJournal 122 = .ok (.goto (-36), 3) := by decide +kernel
theorem dL_isJournal_125 : decode cL_isJournal 125 = .ok (.aload_n 0, 1) := by decide +kernel
theorem dL_isJournal_126 : decode cL_isJournal 126 = .ok (.iload 6, 2) := by decide +kernel
theorem dL_isJournal_128 : decode cL_isJournal 128 = .ok (.iconst 0, 1) := by decide +kernel
theorem dL_isJournal_129 : decode cL_isJournal 129 = .ok (.invokevirtual 65, 3) := by decide +kernel
theorem dL_isJournal_132 : decode cL_isJournal 132 = .ok (.iconst 1, 1) := by decide +kernel
theorem dL_isJournal_133 : decode cL_isJournal 133 = .ok (.if_icmp .ne 89, 3) := by decide +kernel
theorem dL_isJournal_136 : decode cL_isJournal 136 = .ok (.aload_n 0, 1) := by decide +kernel
theorem dL_isJournal_137 : decode cL_isJournal 137 = .ok (.iload 6, 2) := by decide +kernel
theorem dL_isJournal_139 : decode cL_isJournal 139 = .ok (.iconst 1, 1) := by decide +kernel
theorem dL_isJournal_140 : decode cL_isJournal 140 = .ok (.invokevirtual 65, 3) := by decide +kernel
theorem dL_isJournal_143 : decode cL_isJournal 143 = .ok (.aload_n 0, 1) := by decide +kernel
theorem dL_isJournal_144 : decode cL_isJournal 144 = .ok (.iload 6, 2) := by decide +kernel
theorem dL_isJournal_146 : decode cL_isJournal 146 = .ok (.iconst 0, 1) := by decide +kernel
theorem dL_isJournal_147 : decode cL_isJournal 147 = .ok (.invokevirtual 68, 3) := by decide +kernel
theorem dL_isJournal_150 : decode cL_isJournal 150 = .ok (.if_icmp .ne 70, 3) := by decide +kernel
theorem dL_isJournal_153 : decode cL_isJournal 153 = .ok (.aload_n 0, 1) := by decide +kernel
theorem dL_isJournal_154 : decode cL_isJournal 154 = .ok (.iload 6, 2) := by decide +kernel
theorem dL_isJournal_156 : decode cL_isJournal 156 = .ok (.iconst 5, 1) := by decide +kernel
theorem dL_isJournal_157 : decode cL_isJournal 157 = .ok (.invokevirtual 68, 3) := by decide +kernel
theorem dL_isJournal_160 : decode cL_isJournal 160 = .ok (.iconst 3, 1) := by decide +kernel
theorem dL_isJournal_161 : decode cL_isJournal 161 = .ok (.aload_n 0, 1) := by decide +kernel
theorem dL_isJournal_162 : decode cL_isJournal 162 = .ok (.iload 6, 2) := by decide +kernel
theorem dL_isJournal_164 : decode cL_isJournal 164 = .ok (.iconst 0, 1) := by decide +kernel
theorem dL_isJournal_165 : decode cL_isJournal 165 = .ok (.invokevirtual 68, 3) := by decide +kernel
theorem dL_isJournal_168 : decode cL_isJournal 168 = .ok (.imul, 1) := by decide +kernel
theorem dL_isJournal_169 : decode cL_isJournal 169 = .ok (.iconst 5, 1) := by decide +kernel
theorem dL_isJournal_170 : decode cL_isJournal 170 = .ok (.aload_n 0, 1) := by decide +kernel
theorem dL_isJournal_171 : decode cL_isJournal 171 = .ok (.iload 6, 2) := by decide +kernel
theorem dL_isJournal_173 : decode cL_isJournal 173 = .ok (.iconst 1, 1) := by decide +kernel
theorem dL_isJournal_174 : decode cL_isJournal 174 = .ok (.invokevirtual 68, 3) := by decide +kernel
theorem dL_isJournal_177 : decode cL_isJournal 177 = .ok (.imul, 1) := by decide +kernel
theorem dL_isJournal_178 : decode cL_isJournal 178 = .ok (.iadd, 1) := by decide +kernel
theorem dL_isJournal_179 : decode cL_isJournal 179 = .ok (.bipush 7, 2) := by decide +kernel
theorem dL_isJournal_181 : decode cL_isJournal 181 = .ok (.aload_n 0, 1) := by decide +kernel
theorem dL_isJournal_182 : decode cL_isJournal 182 = .ok (.iload 6, 2) := by decide +kernel
theorem dL_isJournal_184 : decode cL_isJournal 184 = .ok (.iconst 2, 1) := by decide +kernel
theorem dL_isJournal_185 : decode cL_isJournal 185 = .ok (.invokevirtual 68, 3) := by decide +kernel
theorem dL_isJournal_188 : decode cL_isJournal 188 = .ok (.imul, 1) := by decide +kernel
theorem dL_isJournal_189 : decode cL_isJournal 189 = .ok (.iadd, 1) := by decide +kernel
theorem dL_isJournal_190 : decode cL_isJournal 190 = .ok (.bipush 11, 2) := by decide +kernel
theorem dL_isJournal_192 : decode cL_isJournal 192 = .ok (.aload_n 0, 1) := by decide +kernel
theorem dL_isJournal_193 : decode cL_isJournal 193 = .ok (.iload 6, 2) := by decide +kernel
theorem dL_isJournal_195 : decode cL_isJournal 195 = .ok (.iconst 3, 1) := by decide +kernel
theorem dL_isJournal_196 : decode cL_isJournal 196 = .ok (.invokevirtual 68, 3) := by decide +kernel
theorem dL_isJournal_199 : decode cL_isJournal 199 = .ok (.imul, 1) := by decide +kernel
theorem dL_isJournal_200 : decode cL_isJournal 200 = .ok (.iadd, 1) := by decide +kernel
theorem dL_isJournal_201 : decode cL_isJournal 201 = .ok (.bipush 13, 2) := by decide +kernel
theorem dL_isJournal_203 : decode cL_isJournal 203 = .ok (.aload_n 0, 1) := by decide +kernel
theorem dL_isJournal_204 : decode cL_isJournal 204 = .ok (.iload 6, 2) := by decide +kernel
theorem dL_isJournal_206 : decode cL_isJournal 206 = .ok (.iconst 4, 1) := by decide +kernel
theorem dL_isJournal_207 : decode cL_isJournal 207 = .ok (.invokevirtual 68, 3) := by decide +kernel
theorem dL_isJournal_210 : decode cL_isJournal 210 = .ok (.imul, 1) := by decide +kernel
theorem dL_isJournal_211 : decode cL_isJournal 211 = .ok (.iadd, 1) := by decide +kernel
theorem dL_isJournal_212 : decode cL_isJournal 212 = .ok (.iconst 1, 1) := by decide +kernel
theorem dL_isJournal_213 : decode cL_isJournal 213 = .ok (.iadd, 1) := by decide +kernel
theorem dL_isJournal_214 : decode cL_isJournal 214 = .ok (.ldc 72, 2) := by decide +kernel
theorem dL_isJournal_216 : decode cL_isJournal 216 = .ok (.irem, 1) := by decide +kernel
theorem dL_isJournal_217 : decode cL_isJournal 217 = .ok (.if_icmp .eq 5, 3) := by decide +kernel
theorem dL_isJournal_220 : decode cL_isJournal 220 = .ok (.iconst 0, 1) := by decide +kernel
theorem dL_isJournal_221 : decode cL_isJournal 221 = .ok (.ireturn, 1) := by decide +kernel
theorem dL_isJournal_222 : decode cL_isJournal 222 = .ok (.iinc 6 1, 3) := by decide +kernel
theorem dL_isJournal_225 : decode cL_isJournal 225 = .ok (.goto (-182), 3) := by decide +kernel
theorem dL_isJournal_228 : decode cL_isJournal 228 = .ok (.iconst 0, 1) := by decide +kernel
theorem dL_isJournal_229 : decode cL_isJournal 229 = .ok (.istore 6, 2) := by decide +kernel
theorem dL_isJournal_231 : decode cL_isJournal 231 = .ok (.iconst 0, 1) := by decide +kernel
theorem dL_isJournal_232 : decode cL_isJournal 232 = .ok (.istore 7, 2) := by decide +kernel
theorem dL_isJournal_234 : decode cL_isJournal 234 = .ok (.iload 7, 2) := by decide +kernel
theorem dL_isJournal_236 : decode cL_isJournal 236 = .ok (.iconst 4, 1) := by decide +kernel
theorem dL_isJournal_237 : decode cL_isJournal 237 = .ok (.if_icmp .ge 20, 3) := by decide +kernel
theorem dL_isJournal_240 : decode cL_isJournal 240 = .ok (.iload 6, 2) := by decide +kernel
theorem dL_isJournal_242 : decode cL_isJournal 242 = .ok (.aload_n 0, 1) := by decide +kernel
theorem dL_isJournal_243 : decode cL_isJournal 243 = .ok (.iload 7, 2) := by decide +kernel
theorem dL_isJournal_245 : decode cL_isJournal 245 = .ok (.invokevirtual 73, 3) := by decide +kernel
theorem dL_isJournal_248 : decode cL_isJournal 248 = .ok (.iadd, 1) := by decide +kernel
theorem dL_isJournal_249 : decode cL_isJournal 249 = .ok (.istore 6, 2) := by decide +kernel
theorem dL_isJournal_251 : decode cL_isJournal 251 = .ok (.iinc 7 1, 3) := by decide +kernel
theorem dL_isJournal_254 : decode cL_isJournal 254 = .ok (.goto (-20), 3) := by decide +kernel
theorem dL_isJournal_257 : decode cL_isJournal 257 = .ok (.iconst 0, 1) := by decide +kernel
theorem dL_isJournal_258 : decode cL_isJournal 258 = .ok (.istore 7, 2) := by decide +kernel
theorem dL_isJournal_260 : decode cL_isJournal 260 = .ok (.iload 7, 2) := by decide +kernel
theorem dL_isJournal_262 : decode cL_isJournal 262 = .ok (.iload_n 1, 1) := by decide +kernel
theorem dL_isJournal_263 : decode cL_isJournal 263 = .ok (.if_icmp .ge 154, 3) := by decide +kernel
theorem dL_isJournal_266 : decode cL_isJournal 266 = .ok (.aload_n 0, 1) := by decide +kernel
theorem dL_isJournal_267 : decode cL_isJournal 267 = .ok (.iload 7, 2) := by decide +kernel
theorem dL_isJournal_269 : decode cL_isJournal 269 = .ok (.iconst 4, 1) := by decide +kernel
theorem dL_isJournal_270 : decode cL_isJournal 270 = .ok (.invokevirtual 76, 3) := by decide +kernel
theorem dL_isJournal_273 : decode cL_isJournal 273 = .ok (.istore 8, 2) := by decide +kernel
theorem dL_isJournal_275 : decode cL_isJournal 275 = .ok (.bipush 6, 2) := by decide +kernel
theorem dL_isJournal_277 : decode cL_isJournal 277 = .ok (.iconst 4, 1) := by decide +kernel
theorem dL_isJournal_278 : decode cL_isJournal 278 = .ok (.aload_n 0, 1) := by decide +kernel
theorem dL_isJournal_279 : decode cL_isJournal 279 = .ok (.iload 7, 2) := by decide +kernel
theorem dL_isJournal_281 : decode cL_isJournal 281 = .ok (.iconst 5, 1) := by decide +kernel
theorem dL_isJournal_282 : decode cL_isJournal 282 = .ok (.invokevirtual 76, 3) := by decide +kernel
theorem dL_isJournal_285 : decode cL_isJournal 285 = .ok (.imul, 1) := by decide +kernel
theorem dL_isJournal_286 : decode cL_isJournal 286 = .ok (.iadd, 1) := by decide +kernel
theorem dL_isJournal_287 : decode cL_isJournal 287 = .ok (.istore 9, 2) := by decide +kernel
theorem dL_isJournal_289 : decode cL_isJournal 289 = .ok (.aload_n 0, 1) := by decide +kernel
theorem dL_isJournal_290 : decode cL_isJournal 290 = .ok (.iload 8, 2) := by decide +kernel
theorem dL_isJournal_292 : decode cL_isJournal 292 = .ok (.iload 9, 2) := by decide +kernel
theorem dL_isJournal_294 : decode cL_isJournal 294 = .ok (.invokevirtual 68, 3) := by decide +kernel
theorem dL_isJournal_297 : decode cL_isJournal 297 = .ok (.sipush 10000, 3) := by decide +kernel
theorem dL_isJournal_300 : decode cL_isJournal 300 = .ok (.aload_n 0, 1) := by decide +kernel
theorem dL_isJournal_301 : decode cL_isJournal 301 = .ok (.iload 7, 2) := by decide +kernel
theorem dL_isJournal_303 : decode cL_isJournal 303 = .ok (.iconst 1, 1) := by decide +kernel
theorem dL_isJournal_304 : decode cL_isJournal 304 = .ok (.invokevirtual 76, 3) := by decide +kernel
theorem dL_isJournal_307 : decode cL_isJournal 307 = .ok (.imul, 1) := by decide +kernel
theorem dL_isJournal_308 : decode cL_isJournal 308 = .ok (.aload_n 0, 1) := by decide +kernel
theorem dL_isJournal_309 : decode cL_isJournal 309 = .ok (.iload 7, 2) := by decide +kernel
theorem dL_isJournal_311 : decode cL_isJournal 311 = .ok (.iconst 0, 1) := by decide +kernel
theorem dL_isJournal_312 : decode cL_isJournal 312 = .ok (.invokevirtual 76, 3) := by decide +kernel
theorem dL_isJournal_315 : decode cL_isJournal 315 = .ok (.iadd, 1) := by decide +kernel
theorem dL_isJournal_316 : decode cL_isJournal 316 = .ok (.if_icmp .ne 47, 3) := by decide +kernel
theorem dL_isJournal_319 : decode cL_isJournal 319 = .ok (.aload_n 0, 1) := by decide +kernel
theorem dL_isJournal_320 : decode cL_isJournal 320 = .ok (.iload 8, 2) := by decide +kernel
theorem dL_isJournal_322 : decode cL_isJournal 322 = .ok (.iload 9, 2) := by decide +kernel
theorem dL_isJournal_324 : decode cL_isJournal 324 = .ok (.iconst 1, 1) := by decide +kernel
theorem dL_isJournal_325 : decode cL_isJournal 325 = .ok (.iadd, 1) := by decide +kernel
theorem dL_isJournal_326 : decode cL_isJournal 326 = .ok (.invokevirtual 68, 3) := by decide +kernel
theorem dL_isJournal_329 : decode cL_isJournal 329 = .ok (.aload_n 0, 1) := by decide +kernel
theorem dL_isJournal_330 : decode cL_isJournal 330 = .ok (.iload 7, 2) := by decide +kernel
theorem dL_isJournal_332 : decode cL_isJournal 332 = .ok (.iconst 2, 1) := by decide +kernel
theorem dL_isJournal_333 : decode cL_isJournal 333 = .ok (.invokevirtual 76, 3) := by decide +kernel
theorem dL_isJournal_336 : decode cL_isJournal 336 = .ok (.if_icmp .ne 27, 3) := by decide +kernel
theorem dL_isJournal_339 : decode cL_isJournal 339 = .ok (.aload_n 0, 1) := by decide +kernel
theorem dL_isJournal_340 : decode cL_isJournal 340 = .ok (.iload 8, 2) := by decide +kernel
theorem dL_isJournal_342 : decode cL_isJournal 342 = .ok (.iload 9, 2) := by decide +kernel
theorem dL_isJournal_344 : decode cL_isJournal 344 = .ok (.iconst 2, 1) := by decide +kernel
theorem dL_isJournal_345 : decode cL_isJournal 345 = .ok (.iadd, 1) := by decide +kernel
theorem dL_isJournal_346 : decode cL_isJournal 346 = .ok (.invokevirtual 68, 3) := by decide +kernel
theorem dL_isJournal_349 : decode cL_isJournal 349 = .ok (.aload_n 0, 1) := by decide +kernel
theorem dL_isJournal_350 : decode cL_isJournal 350 = .ok (.iload 7, 2) := by decide +kernel
theorem dL_isJournal_352 : decode cL_isJournal 352 = .ok (.iconst 3, 1) := by decide +kernel
theorem dL_isJournal_353 : decode cL_isJournal 353 = .ok (.invokevirtual 76, 3) := by decide +kernel
theorem dL_isJournal_356 : decode cL_isJournal 356 = .ok (.if_icmp .ne 7, 3) := by decide +kernel
theorem dL_isJournal_359 : decode cL_isJournal 359 = .ok (.iconst 1, 1) := by decide +kernel
theorem dL_isJournal_360 : decode cL_isJournal 360 = .ok (.goto 4, 3) := by decide +kernel
theorem dL_isJournal_363 : decode cL_isJournal 363 = .ok (.iconst 0, 1) := by decide +kernel
theorem dL_isJournal_364 : decode cL_isJournal 364 = .ok (.istore 10, 2) := by decide +kernel
theorem dL_isJournal_366 : decode cL_isJournal 366 = .ok (.iload 10, 2) := by decide +kernel
theorem dL_isJournal_368 : decode cL_isJournal 368 = .ok (.ifCond .eq 41, 3) := by decide +kernel
theorem dL_isJournal_371 : decode cL_isJournal 371 = .ok (.iload 7, 2) := by decide +kernel
theorem dL_isJournal_373 : decode cL_isJournal 373 = .ok (.ifCond .le 38, 3) := by decide +kernel
theorem dL_isJournal_376 : decode cL_isJournal 376 = .ok (.aload_n 0, 1) := by decide +kernel
theorem dL_isJournal_377 : decode cL_isJournal 377 = .ok (.iload 7, 2) := by decide +kernel
theorem dL_isJournal_379 : decode cL_isJournal 379 = .ok (.iconst 1, 1) := by decide +kernel
theorem dL_isJournal_380 : decode cL_isJournal 380 = .ok (.isub, 1) := by decide +kernel
theorem dL_isJournal_381 : decode cL_isJournal 381 = .ok (.iconst 4, 1) := by decide +kernel
theorem dL_isJournal_382 : decode cL_isJournal 382 = .ok (.invokevirtual 76, 3) := by decide +kernel
theorem dL_isJournal_385 : decode cL_isJournal 385 = .ok (.iload 8, 2) := by decide +kernel
theorem dL_isJournal_387 : decode cL_isJournal 387 = .ok (.if_icmp .ne 24, 3) := by decide +kernel
theorem dL_isJournal_390 : decode cL_isJournal 390 = .ok (.aload_n 0, 1) := by decide +kernel
theorem dL_isJournal_391 : decode cL_isJournal 391 = .ok (.iload 7, 2) := by decide +kernel
theorem dL_isJournal_393 : decode cL_isJournal 393 = .ok (.iconst 1, 1) := by decide +kernel
theorem dL_isJournal_394 : decode cL_isJournal 394 = .ok (.isub, 1) := by decide +kernel
theorem dL_isJournal_395 : decode cL_isJournal 395 = .ok (.iconst 5, 1) := by decide +kernel
theorem dL_isJournal_396 : decode cL_isJournal 396 = .ok (.invokevirtual 76, 3) := by decide +kernel
theorem dL_isJournal_399 : decode cL_isJournal 399 = .ok (.aload_n 0, 1) := by decide +kernel
theorem dL_isJournal_400 : decode cL_isJournal 400 = .ok (.iload 7, 2) := by decide +kernel
theorem dL_isJournal_402 : decode cL_isJournal 402 = .ok (.iconst 5, 1) := by decide +kernel
theorem dL_isJournal_403 : decode cL_isJournal 403 = .ok (.invokevirtual 76, 3) := by decide +kernel
theorem dL_isJournal_406 : decode cL_isJournal 406 = .ok (.if_icmp .lt 5, 3) := by decide +kernel
theorem dL_isJournal_409 : decode cL_isJournal 409 = .ok (.iconst 0, 1) := by decide +kernel
theorem dL_isJournal_410 : decode cL_isJournal 410 = .ok (.ireturn, 1) := by decide +kernel
theorem dL_isJournal_411 : decode cL_isJournal 411 = .ok (.iinc 7 1, 3) := by decide +kernel
theorem dL_isJournal_414 : decode cL_isJournal 414 = .ok (.goto (-154), 3) := by decide +kernel
theorem dL_isJournal_417 : decode cL_isJournal 417 = .ok (.iload_n 2, 1) := by decide +kernel
theorem dL_isJournal_418 : decode cL_isJournal 418 = .ok (.iload_n 1, 1) := by decide +kernel
theorem dL_isJournal_419 : decode cL_isJournal 419 = .ok (.if_icmp .ne 59, 3) := by decide +kernel
theorem dL_isJournal_422 : decode cL_isJournal 422 = .ok (.iload_n 3, 1) := by decide +kernel
theorem dL_isJournal_423 : decode cL_isJournal 423 = .ok (.iload_n 1, 1) := by decide +kernel
theorem dL_isJournal_424 : decode cL_isJournal 424 = .ok (.if_icmp .ne 54, 3) := by decide +kernel
theorem dL_isJournal_427 : decode cL_isJournal 427 = .ok (.aload_n 0, 1) := by decide +kernel
theorem dL_isJournal_428 : decode cL_isJournal 428 = .ok (.bipush (-2), 2) := by decide +kernel
theorem dL_isJournal_430 : decode cL_isJournal 430 = .ok (.invokevirtual 62, 3) := by decide +kernel
theorem dL_isJournal_433 : decode cL_isJournal 433 = .ok (.iload 4, 2) := by decide +kernel
theorem dL_isJournal_435 : decode cL_isJournal 435 = .ok (.if_icmp .ne 43, 3) := by decide +kernel
theorem dL_isJournal_438 : decode cL_isJournal 438 = .ok (.iload 5, 2) := by decide +kernel
theorem dL_isJournal_440 : decode cL_isJournal 440 = .ok (.ifCond .le 38, 3) := by decide +kernel
theorem dL_isJournal_443 : decode cL_isJournal 443 = .ok (.iload 6, 2) := by decide +kernel
theorem dL_isJournal_445 : decode cL_isJournal 445 = .ok (.aload_n 0, 1) := by decide +kernel
theorem dL_isJournal_446 : decode cL_isJournal 446 = .ok (.iconst (-1), 1) := by decide +kernel
theorem dL_isJournal_447 : decode cL_isJournal 447 = .ok (.invokevirtual 73, 3) := by decide +kernel
theorem dL_isJournal_450 : decode cL_isJournal 450 = .ok (.if_icmp .ne 28, 3) := by decide +kernel
theorem dL_isJournal_453 : decode cL_isJournal 453 = .ok (.aload_n 0, 1) := by decide +kernel
theorem dL_isJournal_454 : decode cL_isJournal 454 = .ok (.iload_n 1, 1) := by decide +kernel
theorem dL_isJournal_455 : decode cL_isJournal 455 = .ok (.iconst 0, 1) := by decide +kernel
theorem dL_isJournal_456 : decode cL_isJournal 456 = .ok (.invokevirtual 76, 3) := by decide +kernel
theorem dL_isJournal_459 : decode cL_isJournal 459 = .ok (.bipush (-9), 2) := by decide +kernel
theorem dL_isJournal_461 : decode cL_isJournal 461 = .ok (.if_icmp .ne 17, 3) := by decide +kernel
theorem dL_isJournal_464 : decode cL_isJournal 464 = .ok (.aload_n 0, 1) := by decide +kernel
theorem dL_isJournal_465 : decode cL_isJournal 465 = .ok (.iconst 5, 1) := by decide +kernel
theorem dL_isJournal_466 : decode cL_isJournal 466 = .ok (.iconst 0, 1) := by decide +kernel
theorem dL_isJournal_467 : decode cL_isJournal 467 = .ok (.invokevirtual 68, 3) := by decide +kernel
theorem dL_isJournal_470 : decode cL_isJournal 470 = .ok (.iconst (-1), 1) := by decide +kernel
theorem dL_isJournal_471 : decode cL_isJournal 471 = .ok (.if_icmp .ne 7, 3) := by decide +kernel
theorem dL_isJournal_474 : decode cL_isJournal 474 = .ok (.iconst 1, 1) := by decide +kernel
theorem dL_isJournal_475 : decode cL_isJournal 475 = .ok (.goto 4, 3) := by decide +kernel
theorem dL_isJournal_478 : decode cL_isJournal 478 = .ok (.iconst 0, 1) := by decide +kernel
theorem dL_isJournal_479 : decode cL_isJournal 479 = .ok (.ireturn, 1) := by decide +kernel
theorem dL_isKnown_0 : decode cL_isKnown 0 = .ok (.aload_n 0, 1) := by decide +kernel
theorem dL_isKnown_1 : decode cL_isKnown 1 = .ok (.iconst 0, 1) := by decide +kernel
theorem dL_isKnown_2 : decode cL_isKnown 2 = .ok (.invokevirtual 31, 3) := by decide +kernel
theorem dL_isKnown_5 : decode cL_isKnown 5 = .ok (.ifCond .ne 39, 3) := by decide +kernel
theorem dL_isKnown_8 : decode cL_isKnown 8 = .ok (.aload_n 0, 1) := by decide +kernel
theorem dL_isKnown_9 : decode cL_isKnown 9 = .ok (.iconst 2, 1) := by decide +kernel
theorem dL_isKnown_10 : decode cL_isKnown 10 = .ok (.invokevirtual 31, 3) := by decide +kernel
theorem dL_isKnown_13 : decode cL_isKnown 13 = .ok (.bipush (-9), 2) := by decide +kernel
theorem dL_isKnown_15 : decode cL_isKnown 15 = .ok (.if_icmp .ne 27, 3) := by decide +kernel
theorem dL_isKnown_18 : decode cL_isKnown 18 = .ok (.aload_n 0, 1) := by decide +kernel
theorem dL_isKnown_19 : decode cL_isKnown 19 = .ok (.bipush 7, 2) := by decide +kernel
theorem dL_isKnown_21 : decode cL_isKnown 21 = .ok (.invokevirtual 31, 3) := by decide +kernel
theorem dL_isKnown_24 : decode cL_isKnown 24 = .ok (.bipush (-9), 2) := by decide +kernel
theorem dL_isKnown_26 : decode cL_isKnown 26 = .ok (.if_icmp .ne 16, 3) := by decide +kernel
theorem dL_isKnown_29 : decode cL_isKnown 29 = .ok (.aload_n 0, 1) := by decide +kernel
theorem dL_isKnown_30 : decode cL_isKnown 30 = .ok (.invokevirtual 47, 3) := by decide +kernel
theorem dL_isKnown_33 : decode cL_isKnown 33 = .ok (.bipush (-2), 2) := by decide +kernel
theorem dL_isKnown_35 : decode cL_isKnown 35 = .ok (.if_icmp .ne 7, 3) := by decide +kernel
theorem dL_isKnown_38 : decode cL_isKnown 38 = .ok (.iconst 1, 1) := by decide +kernel
theorem dL_isKnown_39 : decode cL_isKnown 39 = .ok (.goto 4, 3) := by decide +kernel
theorem dL_isKnown_42 : decode cL_isKnown 42 = .ok (.iconst 0, 1) := by decide +kernel
theorem dL_isKnown_43 : decode cL_isKnown 43 = .ok (.ireturn, 1) := by decide +kernel
theorem dL_isKnown_44 : decode cL_isKnown 44 = .ok (.aload_n 0, 1) := by decide +kernel
theorem dL_isKnown_45 : decode cL_isKnown 45 = .ok (.iconst 2, 1) := by decide +kernel
theorem dL_isKnown_46 : decode cL_isKnown 46 = .ok (.invokevirtual 31, 3) := by decide +kernel
theorem dL_isKnown_49 : decode cL_isKnown 49 = .ok (.istore_n 1, 1) := by decide +kernel
theorem dL_isKnown_50 : decode cL_isKnown 50 = .ok (.aload_n 0, 1) := by decide +kernel
theorem dL_isKnown_51 : decode cL_isKnown 51 = .ok (.iconst 3, 1) := by decide +kernel
theorem dL_isKnown_52 : decode cL_isKnown 52 = .ok (.invokevirtual 31, 3) := by decide +kernel
theorem dL_isKnown_55 : decode cL_isKnown 55 = .ok (.istore_n 2, 1) := by decide +kernel
theorem dL_isKnown_56 : decode cL_isKnown 56 = .ok (.aload_n 0, 1) := by decide +kernel
theorem dL_isKnown_57 : decode cL_isKnown 57 = .ok (.iconst 4, 1) := by decide +kernel
theorem dL_isKnown_58 : decode cL_isKnown 58 = .ok (.invokevirtual 31, 3) := by decide +kernel
theorem dL_isKnown_61 : decode cL_isKnown 61 = .ok (.istore_n 3, 1) := by decide +kernel
theorem dL_isKnown_62 : decode cL_isKnown 62 = .ok (.aload_n 0, 1) := by decide +kernel
theorem dL_isKnown_63 : decode cL_isKnown 63 = .ok (.iconst 5, 1) := by decide +kernel
theorem dL_isKnown_64 : decode cL_isKnown 64 = .ok (.invokevirtual 31, 3) := by decide +kernel
theorem dL_isKnown_67 : decode cL_isKnown 67 = .ok (.istore 4, 2) := by decide +kernel
theorem dL_isKnown_69 : decode cL_isKnown 69 = .ok (.aload_n 0, 1) := by decide +kernel
theorem dL_isKnown_70 : decode cL_isKnown 70 = .ok (.bipush 6, 2) := by decide +kernel
theorem dL_isKnown_72 : decode cL_isKnown 72 = .ok (.invokevirtual 31, 3) := by decide +kernel
theorem dL_isKnown_75 : decode cL_isKnown 75 = .ok (.istore 5, 2) := by decide +kernel
theorem dL_isKnown_77 : decode cL_isKnown 77 = .ok (.aload_n 0, 1) := by decide +kernel
theorem dL_isKnown_78 : decode cL_isKnown 78 = .ok (.bipush 7, 2) := by decide +kernel
theorem dL_isKnown_80 : decode cL_isKnown 80 = .ok (.invokevirtual 31, 3) := by decide +kernel
theorem dL_isKnown_83 : decode cL_isKnown 83 = .ok (.istore 6, 2) := by decide +kernel
theorem dL_isKnown_85 : decode cL_isKnown 85 = .ok (.aload_n 0, 1) := by decide +kernel
theorem dL_isKnown_86 : decode cL_isKnown 86 = .ok (.iconst (-1), 1) := by decide +kernel
theorem dL_isKnown_87 : decode cL_isKnown 87 = .ok (.invokevirtual 62, 3) := by decide +kernel
theorem dL_isKnown_90 : decode cL_isKnown 90 = .ok (.istore 7, 2) := by decide +kernel
theorem dL_isKnown_92 : decode cL_isKnown 92 = .ok (.aload_n 0, 1) := by decide +kernel
theorem dL_isKnown_93 : decode cL_isKnown 93 = .ok (.invokevirtual 50, 3) := by decide +kernel
theorem dL_isKnown_96 : decode cL_isKnown 96 = .ok (.bipush (-2), 2) := by decide +kernel
theorem dL_isKnown_98 : decode cL_isKnown 98 = .ok (.if_icmp .ne 74, 3) := by decide +kernel
theorem dL_isKnown_101 : decode cL_isKnown 101 = .ok (.aload_n 0, 1) := by decide +kernel
theorem dL_isKnown_102 : decode cL_isKnown 102 = .ok (.invokevirtual 47, 3) := by decide +kernel
theorem dL_isKnown_105 : decode cL_isKnown 105 = .ok (.iload 7, 2) := by decide +kernel
theorem dL_isKnown_107 : decode cL_isKnown 107 = .ok (.if_icmp .ne 65, 3) := by decide +kernel
theorem dL_isKnown_110 : decode cL_isKnown 110 = .ok (.aload_n 0, 1) := by decide +kernel
theorem dL_isKnown_111 : decode cL_isKnown 111 = .ok (.invokevirtual 50, 3) := by decide +kernel
theorem dL_isKnown_114 : decode cL_isKnown 114 = .ok (.iload_n 1, 1) := by decide +kernel
theorem dL_isKnown_115 : decode cL_isKnown 115 = .ok (.if_icmp .ne 57, 3) := by decide +kernel
theorem dL_isKnown_118 : decode cL_isKnown 118 = .ok (.aload_n 0, 1) := by decide +kernel
theorem dL_isKnown_119 : decode cL_isKnown 119 = .ok (.iconst 3, 1) := by decide +kernel
theorem dL_isKnown_120 : decode cL_isKnown 120 = .ok (.invokevirtual 31, 3) := by decide +kernel
theorem dL_isKnown_123 : decode cL_isKnown 123 = .ok (.iload_n 2, 1) := by decide +kernel
theorem dL_isKnown_124 : decode cL_isKnown 124 = .ok (.if_icmp .ne 48, 3) := by decide +kernel
theorem dL_isKnown_127 : decode cL_isKnown 127 = .ok (.aload_n 0, 1) := by decide +kernel
theorem dL_isKnown_128 : decode cL_isKnown 128 = .ok (.iconst 4, 1) := by decide +kernel
theorem dL_isKnown_129 : decode cL_isKnown 129 = .ok (.invokevirtual 31, 3) := by decide +kernel
theorem dL_isKnown_132 : decode cL_isKnown 132 = .ok (.iload_n 3, 1) := by decide +kernel
theorem dL_isKnown_133 : decode cL_isKnown 133 = .ok (.if_icmp .ne 39, 3) := by decide +kernel
theorem dL_isKnown_136 : decode cL_isKnown 136 = .ok (.aload_n 0, 1) := by decide +kernel
theorem dL_isKnown_137 : decode cL_isKnown 137 = .ok (.iconst 5, 1) := by decide +kernel
theorem dL_isKnown_138 : decode cL_isKnown 138 = .ok (.invokevirtual 31, 3) := by decide +kernel
theorem dL_isKnown_141 : decode cL_isKnown 141 = .ok (.iload 4, 2) := by decide +kernel
theorem dL_isKnown_143 : decode cL_isKnown 143 = .ok (.if_icmp .ne 29, 3) := by decide +kernel
theorem dL_isKnown_146 : decode cL_isKnown 146 = .ok (.aload_n 0, 1) := by decide +kernel
theorem dL_isKnown_147 : decode cL_isKnown 147 = .ok (.bipush 6, 2) := by decide +kernel
theorem dL_isKnown_149 : decode cL_isKnown 149 = .ok (.invokevirtual 31, 3) := by decide +kernel
theorem dL_isKnown_152 : decode cL_isKnown 152 = .ok (.iload 5, 2) := by decide +kernel
theorem dL_isKnown_154 : decode cL_isKnown 154 = .ok (.if_icmp .ne 18, 3) := by decide +kernel
theorem dL_isKnown_157 : decode cL_isKnown 157 = .ok (.aload_n 0, 1) := by decide +kernel
theorem dL_isKnown_158 : decode cL_isKnown 158 = .ok (.bipush 7, 2) := by decide +kernel
theorem dL_isKnown_160 : decode cL_isKnown 160 = .ok (.invokevirtual 31, 3) := by decide +kernel
theorem dL_isKnown_163 : decode cL_isKnown 163 = .ok (.iload 6, 2) := by decide +kernel
theorem dL_isKnown_165 : decode cL_isKnown 165 = .ok (.if_icmp .ne 7, 3) := by decide +kernel
theorem dL_isKnown_168 : decode cL_isKnown 168 = .ok (.iconst 1, 1) := by decide +kernel
theorem dL_isKnown_169 : decode cL_isKnown 169 = .ok (.goto 4, 3) := by decide +kernel
theorem dL_isKnown_172 : decode cL_isKnown 172 = .ok (.iconst 0, 1) := by decide +kernel
theorem dL_isKnown_173 : decode cL_isKnown 173 = .ok (.istore 8, 2) := by decide +kernel
theorem dL_isKnown_175 : decode cL_isKnown 175 = .ok (.iload 8, 2) := by decide +kernel
theorem dL_isKnown_177 : decode cL_isKnown 177 = .ok (.ifCond .eq 21, 3) := by decide +kernel
theorem dL_isKnown_180 : decode cL_isKnown 180 = .ok (.aload_n 0, 1) := by decide +kernel
theorem dL_isKnown_181 : decode cL_isKnown 181 = .ok (.invokevirtual 53, 3) := by decide +kernel
theorem dL_isKnown_184 : decode cL_isKnown 184 = .ok (.ifCond .lt 14, 3) := by decide +kernel
theorem dL_isKnown_187 : decode cL_isKnown 187 = .ok (.aload_n 0, 1) := by decide +kernel
theorem dL_isKnown_188 : decode cL_isKnown 188 = .ok (.invokevirtual 53, 3) := by decide +kernel
theorem dL_isKnown_191 : decode cL_isKnown 191 = .ok (.ifCond .lt 7, 3) := by decide +kernel
theorem dL_isKnown_194 : decode cL_isKnown 194 = .ok (.iconst 1, 1) := by decide +kernel
theorem dL_isKnown_195 : decode cL_isKnown 195 = .ok (.goto 4, 3) := by decide +kernel
theorem dL_isKnown_198 : decode cL_isKnown 198 = .ok (.iconst 0, 1) := by decide +kernel
theorem dL_isKnown_199 : decode cL_isKnown 199 = .ok (.ireturn, 1) := by decide +kernel
theorem dL_isCut_0 : decode cL_isCut 0 = .ok (.aload_n 0, 1) := by decide +kernel
theorem dL_isCut_1 : decode cL_isCut 1 = .ok (.iload_n 1, 1) := by decide +kernel
theorem dL_isCut_2 : decode cL_isCut 2 = .ok (.invokevirtual 79, 3) := by decide +kernel
theorem dL_isCut_5 : decode cL_isCut 5 = .ok (.istore_n 3, 1) := by decide +kernel
theorem dL_isCut_6 : decode cL_isCut 6 = .ok (.aload_n 0, 1) := by decide +kernel
theorem dL_isCut_7 : decode cL_isCut 7 = .ok (.iload_n 1, 1) := by decide +kernel
theorem dL_isCut_8 : decode cL_isCut 8 = .ok (.invokevirtual 82, 3) := by decide +kernel
theorem dL_isCut_11 : decode cL_isCut 11 = .ok (.istore 4, 2) := by decide +kernel
theorem dL_isCut_13 : decode cL_isCut 13 = .ok (.iload_n 3, 1) := by decide +kernel
theorem dL_isCut_14 : decode cL_isCut 14 = .ok (.ifCond .ge 26, 3) := by decide +kernel
theorem dL_isCut_17 : decode cL_isCut 17 = .ok (.iload 4, 2) := by decide +kernel
theorem dL_isCut_19 : decode cL_isCut 19 = .ok (.iload_n 3, 1) := by decide +kernel
theorem dL_isCut_20 : decode cL_isCut 20 = .ok (.if_icmp .ne 18, 3) := by decide +kernel
theorem dL_isCut_23 : decode cL_isCut 23 = .ok (.aload_n 0, 1) := by decide +kernel
theorem dL_isCut_24 : decode cL_isCut 24 = .ok (.iload_n 1, 1) := by decide +kernel
theorem dL_isCut_25 : decode cL_isCut 25 = .ok (.iload_n 2, 1) := by decide +kernel
theorem dL_isCut_26 : decode cL_isCut 26 = .ok (.iconst 0, 1) := by decide +kernel
theorem dL_isCut_27 : decode cL_isCut 27 = .ok (.invokevirtual 85, 3) := by decide +kernel
theorem dL_isCut_30 : decode cL_isCut 30 = .ok (.iload_n 3, 1) := by decide +kernel
theorem dL_isCut_31 : decode cL_isCut 31 = .ok (.if_icmp .ne 7, 3) := by decide +kernel
theorem dL_isCut_34 : decode cL_isCut 34 = .ok (.iconst 1, 1) := by decide +kernel
theorem dL_isCut_35 : decode cL_isCut 35 = .ok (.goto 4, 3) := by decide +kernel
theorem dL_isCut_38 : decode cL_isCut 38 = .ok (.iconst 0, 1) := by decide +kernel
theorem dL_isCut_39 : decode cL_isCut 39 = .ok (.ireturn, 1) := by decide +kernel
theorem dL_isCut_40 : decode cL_isCut 40 = .ok (.aload_n 0, 1) := by decide +kernel
theorem dL_isCut_41 : decode cL_isCut 41 = .ok (.iconst 2, 1) := by decide +kernel
theorem dL_isCut_42 : decode cL_isCut 42 = .ok (.invokevirtual 31, 3) := by decide +kernel
theorem dL_isCut_45 : decode cL_isCut 45 = .ok (.istore 5, 2) := by decide +kernel
theorem dL_isCut_47 : decode cL_isCut 47 = .ok (.aload_n 0, 1) := by decide +kernel
theorem dL_isCut_48 : decode cL_isCut 48 = .ok (.iload_n 1, 1) := by decide +kernel
theorem dL_isCut_49 : decode cL_isCut 49 = .ok (.iload_n 2, 1) := by decide +kernel
theorem dL_isCut_50 : decode cL_isCut 50 = .ok (.iconst 2, 1) := by decide +kernel
theorem dL_isCut_51 : decode cL_isCut 51 = .ok (.invokevirtual 85, 3) := by decide +kernel
theorem dL_isCut_54 : decode cL_isCut 54 = .ok (.istore 6, 2) := by decide +kernel
theorem dL_isCut_56 : decode cL_isCut 56 = .ok (.iload_n 3, 1) := by decide +kernel
theorem dL_isCut_57 : decode cL_isCut 57 = .ok (.iload 4, 2) := by decide +kernel
theorem dL_isCut_59 : decode cL_isCut 59 = .ok (.if_icmp .gt 56, 3) := by decide +kernel
theorem dL_isCut_62 : decode cL_isCut 62 = .ok (.iload 6, 2) := by decide +kernel
theorem dL_isCut_64 : decode cL_isCut 64 = .ok (.iload 5, 2) := by decide +kernel
theorem dL_isCut_66 : decode cL_isCut 66 = .ok (.if_icmp .ne 7, 3) := by decide +kernel
theorem dL_isCut_69 : decode cL_isCut 69 = .ok (.iconst 1, 1) := by decide +kernel
theorem dL_isCut_70 : decode cL_isCut 70 = .ok (.goto 4, 3) := by decide +kernel
theorem dL_isCut_73 : decode cL_isCut 73 = .ok (.iconst 0, 1) := by decide +kernel
theorem dL_isCut_74 : decode cL_isCut 74 = .ok (.iload_n 2, 1) := by decide +kernel
theorem dL_isCut_75 : decode cL_isCut 75 = .ok (.iload_n 3, 1) := by decide +kernel
theorem dL_isCut_76 : decode cL_isCut 76 = .ok (.if_icmp .ge 7, 3) := by decide +kernel
theorem dL_isCut_79 : decode cL_isCut 79 = .ok (.iconst 1, 1) := by decide +kernel
theorem dL_isCut_80 : decode cL_isCut 80 = .ok (.goto 4, 3) := by decide +kernel
theorem dL_isCut_83 : decode cL_isCut 83 = .ok (.iconst 0, 1) := by decide +kernel
theorem dL_isCut_84 : decode cL_isCut 84 = .ok (.if_icmp .ne 31, 3) := by decide +kernel
theorem dL_isCut_87 : decode cL_isCut 87 = .ok (.iload_n 2, 1) := by decide +kernel
theorem dL_isCut_88 : decode cL_isCut 88 = .ok (.iload 4, 2) := by decide +kernel
theorem dL_isCut_90 : decode cL_isCut 90 = .ok (.if_icmp .lt 21, 3) := by decide +kernel
theorem dL_isCut_93 : decode cL_isCut 93 = .ok (.aload_n 0, 1) := by decide +kernel
theorem dL_isCut_94 : decode cL_isCut 94 = .ok (.iload_n 1, 1) := by decide +kernel
theorem dL_isCut_95 : decode cL_isCut 95 = .ok (.iload_n 2, 1) := by decide +kernel
theorem dL_isCut_96 : decode cL_isCut 96 = .ok (.iconst 1, 1) := by decide +kernel
theorem dL_isCut_97 : decode cL_isCut 97 = .ok (.invokevirtual 85, 3) := by decide +kernel
theorem dL_isCut_100 : decode cL_isCut 100 = .ok (.aload_n 0, 1) := by decide +kernel
theorem dL_isCut_101 : decode cL_isCut 101 = .ok (.iload_n 1, 1) := by decide +kernel
theorem dL_isCut_102 : decode cL_isCut 102 = .ok (.bipush 30, 2) := by decide +kernel
theorem dL_isCut_104 : decode cL_isCut 104 = .ok (.iconst 1, 1) := by decide +kernel
theorem dL_isCut_105 : decode cL_isCut 105 = .ok (.invokevirtual 85, 3) := by decide +kernel
theorem dL_isCut_108 : decode cL_isCut 108 = .ok (.if_icmp .ne 7, 3) := by decide +kernel
theorem dL_isCut_111 : decode cL_isCut 111 = .ok (.iconst 1, 1) := by decide +kernel
theorem dL_isCut_112 : decode cL_isCut 112 = .ok (.goto 4, 3) := by decide +kernel
theorem dL_isCut_115 : decode cL_isCut 115 = .ok (.iconst 0, 1) := by decide +kernel
theorem dL_isCut_116 : decode cL_isCut 116 = .ok (.istore 7, 2) := by decide +kernel
theorem dL_isCut_118 : decode cL_isCut 118 = .ok (.aload_n 0, 1) := by decide +kernel
theorem dL_isCut_119 : decode cL_isCut 119 = .ok (.iload_n 2, 1) := by decide +kernel
theorem dL_isCut_120 : decode cL_isCut 120 = .ok (.invokevirtual 44, 3) := by decide +kernel
theorem dL_isCut_123 : decode cL_isCut 123 = .ok (.istore 8, 2) := by decide +kernel
theorem dL_isCut_125 : decode cL_isCut 125 = .ok (.aload_n 0, 1) := by decide +kernel
theorem dL_isCut_126 : decode cL_isCut 126 = .ok (.iload_n 1, 1) := by decide +kernel
theorem dL_isCut_127 : decode cL_isCut 127 = .ok (.invokevirtual 15, 3) := by decide +kernel
theorem dL_isCut_130 : decode cL_isCut 130 = .ok (.istore 9, 2) := by decide +kernel
theorem dL_isCut_132 : decode cL_isCut 132 = .ok (.iload 9, 2) := by decide +kernel
theorem dL_isCut_134 : decode cL_isCut 134 = .ok (.bipush (-4), 2) := by decide +kernel
theorem dL_isCut_136 : decode cL_isCut 136 = .ok (.if_icmp .ne 10, 3) := by decide +kernel
theorem dL_isCut_139 : decode cL_isCut 139 = .ok (.aload_n 0, 1) := by decide +kernel
theorem dL_isCut_140 : decode cL_isCut 140 = .ok (.invokevirtual 50, 3) := by decide +kernel
theorem dL_isCut_143 : decode cL_isCut 143 = .ok (.goto 4, 3) := by decide +kernel
theorem dL_isCut_146 : decode cL_isCut 146 = .ok (.iconst 0, 1) := by decide +kernel
theorem dL_isCut_147 : decode cL_isCut 147 = .ok (.istore 10, 2) := by decide +kernel
theorem dL_isCut_149 : decode cL_isCut 149 = .ok (.iload 7, 2) := by decide +kernel
theorem dL_isCut_151 : decode cL_isCut 151 = .ok (.ifCond .eq 56, 3) := by decide +kernel
theorem dL_isCut_154 : decode cL_isCut 154 = .ok (.iload 9, 2) := by decide +kernel
theorem dL_isCut_156 : decode cL_isCut 156 = .ok (.bipush (-4), 2) := by decide +kernel
theorem dL_isCut_158 : decode cL_isCut 158 = .ok (.if_icmp .ne 7, 3) := by decide +kernel
theorem dL_isCut_161 : decode cL_isCut 161 = .ok (.iconst 1, 1) := by decide +kernel
theorem dL_isCut_162 : decode cL_isCut 162 = .ok (.goto 4, 3) := by decide +kernel
theorem dL_isCut_165 : decode cL_isCut 165 = .ok (.iconst 0, 1) := by decide +kernel
theorem dL_isCut_166 : decode cL_isCut 166 = .ok (.iload_n 2, 1) := by decide +kernel
theorem dL_isCut_167 : decode cL_isCut 167 = .ok (.iload 4, 2) := by decide +kernel
theorem dL_isCut_169 : decode cL_isCut 169 = .ok (.if_icmp .ge 7, 3) := by decide +kernel
theorem dL_isCut_172 : decode cL_isCut 172 = .ok (.iconst 1, 1) := by decide +kernel
theorem dL_isCut_173 : decode cL_isCut 173 = .ok (.goto 4, 3) := by decide +kernel
theorem dL_isCut_176 : decode cL_isCut 176 = .ok (.iconst 0, 1) := by decide +kernel
theorem dL_isCut_177 : decode cL_isCut 177 = .ok (.if_icmp .ne 30, 3) := by decide +kernel
theorem dL_isCut_180 : decode cL_isCut 180 = .ok (.aload_n 0, 1) := by decide +kernel
theorem dL_isCut_181 : decode cL_isCut 181 = .ok (.iconst 2, 1) := by decide +kernel
theorem dL_isCut_182 : decode cL_isCut 182 = .ok (.invokevirtual 31, 3) := by decide +kernel
theorem dL_isCut_185 : decode cL_isCut 185 = .ok (.iload 6, 2) := by decide +kernel
theorem dL_isCut_187 : decode cL_isCut 187 = .ok (.if_icmp .ne 20, 3) := by decide +kernel
theorem dL_isCut_190 : decode cL_isCut 190 = .ok (.aload_n 0, 1) := by decide +kernel
theorem dL_isCut_191 : decode cL_isCut 191 = .ok (.iconst (-1), 1) := by decide +kernel
theorem dL_isCut_192 : decode cL_isCut 192 = .ok (.invokevirtual 62, 3) := by decide +kernel
theorem dL_isCut_195 : decode cL_isCut 195 = .ok (.aload_n 0, 1) := by decide +kernel
theorem dL_isCut_196 : decode cL_isCut 196 = .ok (.iconst (-1), 1) := by decide +kernel
theorem dL_isCut_197 : decode cL_isCut 197 = .ok (.invokevirtual 62, 3) := by decide +kernel
theorem dL_isCut_200 : decode cL_isCut 200 = .ok (.if_icmp .ne 7, 3) := by decide +kernel
theorem dL_isCut_203 : decode cL_isCut 203 = .ok (.iconst 1, 1) := by decide +kernel
theorem dL_isCut_204 : decode cL_isCut 204 = .ok (.goto 4, 3) := by decide +kernel
theorem dL_isCut_207 : decode cL_isCut 207 = .ok (.iconst 0, 1) := by decide +kernel
theorem dL_isCut_208 : decode cL_isCut 208 = .ok (.istore 7, 2) := by decide +kernel
theorem dL_isCut_210 : decode cL_isCut 210 = .ok (.aload_n 0, 1) := by decide +kernel
theorem dL_isCut_211 : decode cL_isCut 211 = .ok (.iconst (-1), 1) := by decide +kernel
theorem dL_isCut_212 : decode cL_isCut 212 = .ok (.invokevirtual 62, 3) := by decide +kernel
theorem dL_isCut_215 : decode cL_isCut 215 = .ok (.istore 11, 2) := by decide +kernel
theorem dL_isCut_217 : decode cL_isCut 217 = .ok (.aload_n 0, 1) := by decide +kernel
theorem dL_isCut_218 : decode cL_isCut 218 = .ok (.bipush (-2), 2) := by decide +kernel
theorem dL_isCut_220 : decode cL_isCut 220 = .ok (.invokevirtual 62, 3) := by decide +kernel
theorem dL_isCut_223 : decode cL_isCut 223 = .ok (.istore 12, 2) := by decide +kernel
theorem dL_isCut_225 : decode cL_isCut 225 = .ok (.iload 9, 2) := by decide +kernel
theorem dL_isCut_227 : decode cL_isCut 227 = .ok (.bipush (-4), 2) := by decide +kernel
theorem dL_isCut_229 : decode cL_isCut 229 = .ok (.if_icmp .ne 10, 3) := by decide +kernel
theorem dL_isCut_232 : decode cL_isCut 232 = .ok (.aload_n 0, 1) := by decide +kernel
theorem dL_isCut_233 : decode cL_isCut 233 = .ok (.invokevirtual 53, 3) := by decide +kernel
theorem dL_isCut_236 : decode cL_isCut 236 = .ok (.goto 4, 3) := by decide +kernel
theorem dL_isCut_239 : decode cL_isCut 239 = .ok (.iconst 0, 1) := by decide +kernel
theorem dL_isCut_240 : decode cL_isCut 240 = .ok (.istore 13, 2) := by decide +kernel
theorem dL_isCut_242 : decode cL_isCut 242 = .ok (.aload_n 0, 1) := by decide +kernel
theorem dL_isCut_243 : decode cL_isCut 243 = .ok (.invokevirtual 53, 3) := by decide +kernel
theorem dL_isCut_246 : decode cL_isCut 246 = .ok (.istore 13, 2) := by decide +kernel
theorem dL_isCut_248 : decode cL_isCut 248 = .ok (.aload_n 0, 1) := by decide +kernel
theorem dL_isCut_249 : decode cL_isCut 249 = .ok (.invokevirtual 53, 3) := by decide +kernel
theorem dL_isCut_252 : decode cL_isCut 252 = .ok (.istore 13, 2) := by decide +kernel
theorem dL_isCut_254 : decode cL_isCut 254 = .ok (.iload 7, 2) := by decide +kernel
theorem dL_isCut_256 : decode cL_isCut 256 = .ok (.ifCond .eq 41, 3) := by decide +kernel
theorem dL_isCut_259 : decode cL_isCut 259 = .ok (.aload_n 0, 1) := by decide +kernel
theorem dL_isCut_260 : decode cL_isCut 260 = .ok (.iconst 2, 1) := by decide +kernel
theorem dL_isCut_261 : decode cL_isCut 261 = .ok (.invokevirtual 31, 3) := by decide +kernel
theorem dL_isCut_264 : decode cL_isCut 264 = .ok (.iload 5, 2) := by decide +kernel
theorem dL_isCut_266 : decode cL_isCut 266 = .ok (.if_icmp .ne 31, 3) := by decide +kernel
theorem dL_isCut_269 : decode cL_isCut 269 = .ok (.aload_n 0, 1) := by decide +kernel
theorem dL_isCut_270 : decode cL_isCut 270 = .ok (.iload_n 1, 1) := by decide +kernel
theorem dL_isCut_271 : decode cL_isCut 271 = .ok (.iload_n 2, 1) := by decide +kernel
theorem dL_isCut_272 : decode cL_isCut 272 = .ok (.iconst 0, 1) := by decide +kernel
theorem dL_isCut_273 : decode cL_isCut 273 = .ok (.invokevirtual 85, 3) := by decide +kernel
theorem dL_isCut_276 : decode cL_isCut 276 = .ok (.iload 11, 2) := by decide +kernel
theorem dL_isCut_278 : decode cL_isCut 278 = .ok (.if_icmp .ne 19, 3) := by decide +kernel
theorem dL_isCut_281 : decode cL_isCut 281 = .ok (.aload_n 0, 1) := by decide +kernel
theorem dL_isCut_282 : decode cL_isCut 282 = .ok (.iload_n 1, 1) := by decide +kernel
theorem dL_isCut_283 : decode cL_isCut 283 = .ok (.iload_n 2, 1) := by decide +kernel
theorem dL_isCut_284 : decode cL_isCut 284 = .ok (.iconst 1, 1) := by decide +kernel
theorem dL_isCut_285 : decode cL_isCut 285 = .ok (.invokevirtual 85, 3) := by decide +kernel
theorem dL_isCut_288 : decode cL_isCut 288 = .ok (.iload 12, 2) := by decide +kernel
theorem dL_isCut_290 : decode cL_isCut 290 = .ok (.if_icmp .ne 7, 3) := by decide +kernel
theorem dL_isCut_293 : decode cL_isCut 293 = .ok (.iconst 1, 1) := by decide +kernel
theorem dL_isCut_294 : decode cL_isCut 294 = .ok (.goto 4, 3) := by decide +kernel
theorem dL_isCut_297 : decode cL_isCut 297 = .ok (.iconst 0, 1) := by decide +kernel
theorem dL_isCut_298 : decode cL_isCut 298 = .ok (.ireturn, 1) := by decide +kernel
theorem dL_areAlike_0 : decode cL_areAlike 0 = .ok (.aload_n 0, 1) := by decide +kernel
theorem dL_areAlike_1 : decode cL_areAlike 1 = .ok (.invokevirtual 89, 3) := by decide +kernel
theorem dL_areAlike_4 : decode cL_areAlike 4 = .ok (.aload_n 1, 1) := by decide +kernel
theorem dL_areAlike_5 : decode cL_areAlike 5 = .ok (.invokevirtual 89, 3) := by decide +kernel
theorem dL_areAlike_8 : decode cL_areAlike 8 = .ok (.fcmp .l, 1) := by decide +kernel
theorem dL_areAlike_9 : decode cL_areAlike 9 = .ok (.ifCond .ne 7, 3) := by decide +kernel
theorem dL_areAlike_12 : decode cL_areAlike 12 = .ok (.iconst 1, 1) := by decide +kernel
theorem dL_areAlike_13 : decode cL_areAlike 13 = .ok (.goto 4, 3) := by decide +kernel
theorem dL_areAlike_16 : decode cL_areAlike 16 = .ok (.iconst 0, 1) := by decide +kernel
theorem dL_areAlike_17 : decode cL_areAlike 17 = .ok (.istore_n 2, 1) := by decide +kernel
theorem dL_areAlike_18 : decode cL_areAlike 18 = .ok (.iconst 0, 1) := by decide +kernel
theorem dL_areAlike_19 : decode cL_areAlike 19 = .ok (.istore_n 3, 1) := by decide +kernel
theorem dL_areAlike_20 : decode cL_areAlike 20 = .ok (.iload_n 3, 1) := by decide +kernel
theorem dL_areAlike_21 : decode cL_areAlike 21 = .ok (.bipush 12, 2) := by decide +kernel
theorem dL_areAlike_23 : decode cL_areAlike 23 = .ok (.if_icmp .ge 32, 3) := by decide +kernel
theorem dL_areAlike_26 : decode cL_areAlike 26 = .ok (.iload_n 2, 1) := by decide +kernel
theorem dL_areAlike_27 : decode cL_areAlike 27 = .ok (.ifCond .eq 20, 3) := by decide +kernel
theorem dL_areAlike_30 : decode cL_areAlike 30 = .ok (.aload_n 0, 1) := by decide +kernel
theorem dL_areAlike_31 : decode cL_areAlike 31 = .ok (.iload_n 3, 1) := by decide +kernel
theorem dL_areAlike_32 : decode cL_areAlike 32 = .ok (.invokevirtual 31, 3) := by decide +kernel
theorem dL_areAlike_35 : decode cL_areAlike 35 = .ok (.aload_n 1, 1) := by decide +kernel
theorem dL_areAlike_36 : decode cL_areAlike 36 = .ok (.iload_n 3, 1) := by decide +kernel
theorem dL_areAlike_37 : decode cL_areAlike 37 = .ok (.invokevirtual 31, 3) := by decide +kernel
theorem dL_areAlike_40 : decode cL_areAlike 40 = .ok (.if_icmp .ne 7, 3) := by decide +kernel
theorem dL_areAlike_43 : decode cL_areAlike 43 = .ok (.iconst 1, 1) := by decide +kernel
theorem dL_areAlike_44 : decode cL_areAlike 44 = .ok (.goto 4, 3) := by decide +kernel
theorem dL_areAlike_47 : decode cL_areAlike 47 = .ok (.iconst 0, 1) := by decide +kernel
theorem dL_areAlike_48 : decode cL_areAlike 48 = .ok (.istore_n 2, 1) := by decide +kernel
theorem dL_areAlike_49 : decode cL_areAlike 49 = .ok (.iinc 3 1, 3) := by decide +kernel
theorem dL_areAlike_52 : decode cL_areAlike 52 = .ok (.goto (-32), 3) := by decide +kernel
theorem dL_areAlike_55 : decode cL_areAlike 55 = .ok (.iconst 0, 1) := by decide +kernel
theorem dL_areAlike_56 : decode cL_areAlike 56 = .ok (.istore_n 3, 1) := by decide +kernel
theorem dL_areAlike_57 : decode cL_areAlike 57 = .ok (.iload_n 3, 1) := by decide +kernel
theorem dL_areAlike_58 : decode cL_areAlike 58 = .ok (.iconst 5, 1) := by decide +kernel
theorem dL_areAlike_59 : decode cL_areAlike 59 = .ok (.if_icmp .ge 52, 3) := by decide +kernel
theorem dL_areAlike_62 : decode cL_areAlike 62 = .ok (.iconst 0, 1) := by decide +kernel
theorem dL_areAlike_63 : decode cL_areAlike 63 = .ok (.istore 4, 2) := by decide +kernel
theorem dL_areAlike_65 : decode cL_areAlike 65 = .ok (.iload 4, 2) := by decide +kernel
theorem dL_areAlike_67 : decode cL_areAlike 67 = .ok (.bipush 22, 2) := by decide +kernel
theorem dL_areAlike_69 : decode cL_areAlike 69 = .ok (.if_icmp .ge 36, 3) := by decide +kernel
theorem dL_areAlike_72 : decode cL_areAlike 72 = .ok (.iload_n 2, 1) := by decide +kernel
theorem dL_areAlike_73 : decode cL_areAlike 73 = .ok (.ifCond .eq 24, 3) := by decide +kernel
theorem dL_areAlike_76 : decode cL_areAlike 76 = .ok (.aload_n 0, 1) := by decide +kernel
theorem dL_areAlike_77 : decode cL_areAlike 77 = .ok (.iload_n 3, 1) := by decide +kernel
theorem dL_areAlike_78 : decode cL_areAlike 78 = .ok (.iload 4, 2) := by decide +kernel
theorem dL_areAlike_80 : decode cL_areAlike 80 = .ok (.invokevirtual 68, 3) := by decide +kernel
theorem dL_areAlike_83 : decode cL_areAlike 83 = .ok (.aload_n 1, 1) := by decide +kernel
theorem dL_areAlike_84 : decode cL_areAlike 84 = .ok (.iload_n 3, 1) := by decide +kernel
theorem dL_areAlike_85 : decode cL_areAlike 85 = .ok (.iload 4, 2) := by decide +kernel
theorem dL_areAlike_87 : decode cL_areAlike 87 = .ok (.invokevirtual 68, 3) := by decide +kernel
theorem dL_areAlike_90 : decode cL_areAlike 90 = .ok (.if_icmp .ne 7, 3) := by decide +kernel
theorem dL_areAlike_93 : decode cL_areAlike 93 = .ok (.iconst 1, 1) := by decide +kernel
theorem dL_areAlike_94 : decode cL_areAlike 94 = .ok (.goto 4, 3) := by decide +kernel
theorem dL_areAlike_97 : decode cL_areAlike 97 = .ok (.iconst 0, 1) := by decide +kernel
theorem dL_areAlike_98 : decode cL_areAlike 98 = .ok (.istore_n 2, 1) := by decide +kernel
theorem dL_areAlike_99 : decode cL_areAlike 99 = .ok (.iinc 4 1, 3) := by decide +kernel
theorem dL_areAlike_102 : decode cL_areAlike 102 = .ok (.goto (-37), 3) := by decide +kernel
theorem dL_areAlike_105 : decode cL_areAlike 105 = .ok (.iinc 3 1, 3) := by decide +kernel
theorem dL_areAlike_108 : decode cL_areAlike 108 = .ok (.goto (-51), 3) := by decide +kernel
theorem dL_areAlike_111 : decode cL_areAlike 111 = .ok (.iload_n 2, 1) := by decide +kernel
theorem dL_areAlike_112 : decode cL_areAlike 112 = .ok (.ireturn, 1) := by decide +kernel
theorem dL_law_0 : decode cL_law 0 = .ok (.new 16, 3) := by decide +kernel
theorem dL_law_3 : decode cL_law 3 = .ok (.dup, 1) := by decide +kernel
theorem dL_law_4 : decode cL_law 4 = .ok (.invokespecial 93, 3) := by decide +kernel
theorem dL_law_7 : decode cL_law 7 = .ok (.astore_n 1, 1) := by decide +kernel
theorem dL_law_8 : decode cL_law 8 = .ok (.new 16, 3) := by decide +kernel
theorem dL_law_11 : decode cL_law 11 = .ok (.dup, 1) := by decide +kernel
theorem dL_law_12 : decode cL_law 12 = .ok (.invokespecial 93, 3) := by decide +kernel
theorem dL_law_15 : decode cL_law 15 = .ok (.astore_n 2, 1) := by decide +kernel
theorem dL_law_16 : decode cL_law 16 = .ok (.iconst 0, 1) := by decide +kernel
theorem dL_law_17 : decode cL_law 17 = .ok (.istore_n 3, 1) := by decide +kernel
theorem dL_law_18 : decode cL_law 18 = .ok (.iload_n 3, 1) := by decide +kernel
theorem dL_law_19 : decode cL_law 19 = .ok (.bipush 24, 2) := by decide +kernel
theorem dL_law_21 : decode cL_law 21 = .ok (.if_icmp .ge 131, 3) := by decide +kernel
theorem dL_law_24 : decode cL_law 24 = .ok (.aload_n 0, 1) := by decide +kernel
theorem dL_law_25 : decode cL_law 25 = .ok (.iconst 2, 1) := by decide +kernel
theorem dL_law_26 : decode cL_law 26 = .ok (.iload_n 3, 1) := by decide +kernel
theorem dL_law_27 : decode cL_law 27 = .ok (.imul, 1) := by decide +kernel
theorem dL_law_28 : decode cL_law 28 = .ok (.invokestatic 94, 3) := by decide +kernel
theorem dL_law_31 : decode cL_law 31 = .ok (.istore 4, 2) := by decide +kernel
theorem dL_law_33 : decode cL_law 33 = .ok (.aload_n 0, 1) := by decide +kernel
theorem dL_law_34 : decode cL_law 34 = .ok (.iconst 2, 1) := by decide +kernel
theorem dL_law_35 : decode cL_law 35 = .ok (.iload_n 3, 1) := by decide +kernel
theorem dL_law_36 : decode cL_law 36 = .ok (.imul, 1) := by decide +kernel
theorem dL_law_37 : decode cL_law 37 = .ok (.iconst 1, 1) := by decide +kernel
theorem dL_law_38 : decode cL_law 38 = .ok (.iadd, 1) := by decide +kernel
theorem dL_law_39 : decode cL_law 39 = .ok (.invokestatic 94, 3) := by decide +kernel
theorem dL_law_42 : decode cL_law 42 = .ok (.istore 5, 2) := by decide +kernel
theorem dL_law_44 : decode cL_law 44 = .ok (.iload 4, 2) := by decide +kernel
theorem dL_law_46 : decode cL_law 46 = .ok (.bipush 18, 2) := by decide +kernel
theorem dL_law_48 : decode cL_law 48 = .ok (.invokestatic 9, 3) := by decide +kernel
theorem dL_law_51 : decode cL_law 51 = .ok (.bipush 15, 2) := by decide +kernel
theorem dL_law_53 : decode cL_law 53 = .ok (.if_icmp .ne 7, 3) := by decide +kernel
theorem dL_law_56 : decode cL_law 56 = .ok (.iconst 1, 1) := by decide +kernel
theorem dL_law_57 : decode cL_law 57 = .ok (.goto 4, 3) := by decide +kernel
theorem dL_law_60 : decode cL_law 60 = .ok (.iconst 0, 1) := by decide +kernel
theorem dL_law_61 : decode cL_law 61 = .ok (.istore 6, 2) := by decide +kernel
theorem dL_law_63 : decode cL_law 63 = .ok (.iload 6, 2) := by decide +kernel
theorem dL_law_65 : decode cL_law 65 = .ok (.ifCond .ne 22, 3) := by decide +kernel
theorem dL_law_68 : decode cL_law 68 = .ok (.aload_n 1, 1) := by decide +kernel
theorem dL_law_69 : decode cL_law 69 = .ok (.iload 4, 2) := by decide +kernel
theorem dL_law_71 : decode cL_law 71 = .ok (.iload 5, 2) := by decide +kernel
theorem dL_law_73 : decode cL_law 73 = .ok (.invokestatic 98, 3) := by decide +kernel
theorem dL_law_76 : decode cL_law 76 = .ok (.aload_n 2, 1) := by decide +kernel
theorem dL_law_77 : decode cL_law 77 = .ok (.iload 4, 2) := by decide +kernel
theorem dL_law_79 : decode cL_law 79 = .ok (.iload 5, 2) := by decide +kernel
theorem dL_law_81 : decode cL_law 81 = .ok (.invokestatic 98, 3) := by decide +kernel
theorem dL_law_84 : decode cL_law 84 = .ok (.if_icmp .ne 17, 3) := by decide +kernel
theorem dL_law_87 : decode cL_law 87 = .ok (.aload_n 1, 1) := by decide +kernel
theorem dL_law_88 : decode cL_law 88 = .ok (.invokestatic 102, 3) := by decide +kernel
theorem dL_law_91 : decode cL_law 91 = .ok (.ifCond .eq 10, 3) := by decide +kernel
theorem dL_law_94 : decode cL_law 94 = .ok (.aload_n 1, 1) := by decide +kernel
theorem dL_law_95 : decode cL_law 95 = .ok (.invokestatic 106, 3) := by decide +kernel
theorem dL_law_98 : decode cL_law 98 = .ok (.ifCond .ne 5, 3) := by decide +kernel
theorem dL_law_101 : decode cL_law 101 = .ok (.iconst 0, 1) := by decide +kernel
theorem dL_law_102 : decode cL_law 102 = .ok (.ireturn, 1) := by decide +kernel
theorem dL_law_103 : decode cL_law 103 = .ok (.aload_n 1, 1) := by decide +kernel
theorem dL_law_104 : decode cL_law 104 = .ok (.iconst 0, 1) := by decide +kernel
theorem dL_law_105 : decode cL_law 105 = .ok (.invokevirtual 31, 3) := by decide +kernel
theorem dL_law_108 : decode cL_law 108 = .ok (.iconst 1, 1) := by decide +kernel
theorem dL_law_109 : decode cL_law 109 = .ok (.if_icmp .ne 37, 3) := by decide +kernel
theorem dL_law_112 : decode cL_law 112 = .ok (.iload_n 3, 1) := by decide +kernel
theorem dL_law_113 : decode cL_law 113 = .ok (.iconst 2, 1) := by decide +kernel
theorem dL_law_114 : decode cL_law 114 = .ok (.irem, 1) := by decide +kernel
theorem dL_law_115 : decode cL_law 115 = .ok (.iconst 1, 1) := by decide +kernel
theorem dL_law_116 : decode cL_law 116 = .ok (.if_icmp .ne 30, 3) := by decide +kernel
theorem dL_law_119 : decode cL_law 119 = .ok (.aload_n 1, 1) := by decide +kernel
theorem dL_law_120 : decode cL_law 120 = .ok (.iload 5, 2) := by decide +kernel
theorem dL_law_122 : decode cL_law 122 = .ok (.iconst 5, 1) := by decide +kernel
theorem dL_law_123 : decode cL_law 123 = .ok (.ishr, 1) := by decide +kernel
theorem dL_law_124 : decode cL_law 124 = .ok (.iconst 4, 1) := by decide +kernel
theorem dL_law_125 : decode cL_law 125 = .ok (.invokestatic 9, 3) := by decide +kernel
theorem dL_law_128 : decode cL_law 128 = .ok (.iload 5, 2) := by decide +kernel
theorem dL_law_130 : decode cL_law 130 = .ok (.bipush 8, 2) := by decide +kernel
theorem dL_law_132 : decode cL_law 132 = .ok (.ishr, 1) := by decide +kernel
theorem dL_law_133 : decode cL_law 133 = .ok (.bipush 25, 2) := by decide +kernel
theorem dL_law_135 : decode cL_law 135 = .ok (.invokestatic 9, 3) := by decide +kernel
theorem dL_law_138 : decode cL_law 138 = .ok (.invokestatic 109, 3) := by decide +kernel
theorem dL_law_141 : decode cL_law 141 = .ok (.ifCond .ne 5, 3) := by decide +kernel
theorem dL_law_144 : decode cL_law 144 = .ok (.iconst 0, 1) := by decide +kernel
theorem dL_law_145 : decode cL_law 145 = .ok (.ireturn, 1) := by decide +kernel
theorem dL_law_146 : decode cL_law 146 = .ok (.iinc 3 1, 3) := by decide +kernel
theorem dL_law_149 : decode cL_law 149 = .ok (.goto (-131), 3) := by decide +kernel
theorem dL_law_152 : decode cL_law 152 = .ok (.aload_n 1, 1) := by decide +kernel
theorem dL_law_153 : decode cL_law 153 = .ok (.aload_n 2, 1) := by decide +kernel
theorem dL_law_154 : decode cL_law 154 = .ok (.invokestatic 113, 3) := by decide +kernel
theorem dL_law_157 : decode cL_law 157 = .ok (.ireturn, 1) := by decide +kernel
