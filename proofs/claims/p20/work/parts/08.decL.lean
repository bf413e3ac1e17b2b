theorem dL_below_0 : decode cL_below 0 = .ok (.iload_n 0, 1) := by decide +kernel
theorem dL_below_1 : decode cL_below 1 = .ok (.ldc 7, 2) := by decide +kernel
theorem dL_below_3 : decode cL_below 3 = .ok (.iand, 1) := by decide +kernel
theorem dL_below_4 : decode cL_below 4 = .ok (.iload_n 1, 1) := by decide +kernel
theorem dL_below_5 : decode cL_below 5 = .ok (.irem, 1) := by decide +kernel
theorem dL_below_6 : decode cL_below 6 = .ok (.ireturn, 1) := by decide +kernel
theorem dL_cell_0 : decode cL_cell 0 = .ok (.iload_n 1, 1) := by decide +kernel
theorem dL_cell_1 : decode cL_cell 1 = .ok (.aload_n 0, 1) := by decide +kernel
theorem dL_cell_2 : decode cL_cell 2 = .ok (.arraylength, 1) := by decide +kernel
theorem dL_cell_3 : decode cL_cell 3 = .ok (.if_icmp .ge 9, 3) := by decide +kernel
theorem dL_cell_6 : decode cL_cell 6 = .ok (.aload_n 0, 1) := by decide +kernel
theorem dL_cell_7 : decode cL_cell 7 = .ok (.iload_n 1, 1) := by decide +kernel
theorem dL_cell_8 : decode cL_cell 8 = .ok (.iaload, 1) := by decide +kernel
theorem dL_cell_9 : decode cL_cell 9 = .ok (.goto 9, 3) := by decide +kernel
theorem dL_cell_12 : decode cL_cell 12 = .ok (.ldc 8, 2) := by decide +kernel
theorem dL_cell_14 : decode cL_cell 14 = .ok (.iload_n 1, 1) := by decide +kernel
theorem dL_cell_15 : decode cL_cell 15 = .ok (.iconst 3, 1) := by decide +kernel
theorem dL_cell_16 : decode cL_cell 16 = .ok (.iadd, 1) := by decide +kernel
theorem dL_cell_17 : decode cL_cell 17 = .ok (.imul, 1) := by decide +kernel
theorem dL_cell_18 : decode cL_cell 18 = .ok (.ireturn, 1) := by decide +kernel
theorem dL_act_0 : decode cL_act 0 = .ok (.iload_n 2, 1) := by decide +kernel
theorem dL_act_1 : decode cL_act 1 = .ok (.bipush 9, 2) := by decide +kernel
theorem dL_act_3 : decode cL_act 3 = .ok (.ishr, 1) := by decide +kernel
theorem dL_act_4 : decode cL_act 4 = .ok (.iconst 2, 1) := by decide +kernel
theorem dL_act_5 : decode cL_act 5 = .ok (.invokestatic 9, 3) := by decide +kernel
theorem dL_act_8 : decode cL_act 8 = .ok (.ifCond .ne 14, 3) := by decide +kernel
theorem dL_act_11 : decode cL_act 11 = .ok (.iload_n 2, 1) := by decide +kernel
theorem dL_act_12 : decode cL_act 12 = .ok (.iconst 4, 1) := by decide +kernel
theorem dL_act_13 : decode cL_act 13 = .ok (.ishr, 1) := by decide +kernel
theorem dL_act_14 : decode cL_act 14 = .ok (.bipush 30, 2) := by decide +kernel
theorem dL_act_16 : decode cL_act 16 = .ok (.invokestatic 9, 3) := by decide +kernel
theorem dL_act_19 : decode cL_act 19 = .ok (.goto 14, 3) := by decide +kernel
theorem dL_act_22 : decode cL_act 22 = .ok (.bipush 10, 2) := by decide +kernel
theorem dL_act_24 : decode cL_act 24 = .ok (.iload_n 2, 1) := by decide +kernel
theorem dL_act_25 : decode cL_act 25 = .ok (.iconst 5, 1) := by decide +kernel
theorem dL_act_26 : decode cL_act 26 = .ok (.ishr, 1) := by decide +kernel
theorem dL_act_27 : decode cL_act 27 = .ok (.bipush 8, 2) := by decide +kernel
theorem dL_act_29 : decode cL_act 29 = .ok (.invokestatic 9, 3) := by decide +kernel
theorem dL_act_32 : decode cL_act 32 = .ok (.iadd, 1) := by decide +kernel
theorem dL_act_33 : decode cL_act 33 = .ok (.istore_n 3, 1) := by decide +kernel
theorem dL_act_34 : decode cL_act 34 = .ok (.aload_n 1, 1) := by decide +kernel
theorem dL_act_35 : decode cL_act 35 = .ok (.getfield 15, 3) := by decide +kernel
theorem dL_act_38 : decode cL_act 38 = .ok (.arraylength, 1) := by decide +kernel
theorem dL_act_39 : decode cL_act 39 = .ok (.ifCond .ne 7, 3) := by decide +kernel
theorem dL_act_42 : decode cL_act 42 = .ok (.iconst (-1), 1) := by decide +kernel
theorem dL_act_43 : decode cL_act 43 = .ok (.goto 14, 3) := by decide +kernel
theorem dL_act_46 : decode cL_act 46 = .ok (.iload_n 2, 1) := by decide +kernel
theorem dL_act_47 : decode cL_act 47 = .ok (.iconst 3, 1) := by decide +kernel
theorem dL_act_48 : decode cL_act 48 = .ok (.ishr, 1) := by decide +kernel
theorem dL_act_49 : decode cL_act 49 = .ok (.aload_n 1, 1) := by decide +kernel
theorem dL_act_50 : decode cL_act 50 = .ok (.getfield 15, 3) := by decide +kernel
theorem dL_act_53 : decode cL_act 53 = .ok (.arraylength, 1) := by decide +kernel
theorem dL_act_54 : decode cL_act 54 = .ok (.invokestatic 9, 3) := by decide +kernel
theorem dL_act_57 : decode cL_act 57 = .ok (.istore 4, 2) := by decide +kernel
theorem dL_act_59 : decode cL_act 59 = .ok (.iload_n 2, 1) := by decide +kernel
theorem dL_act_60 : decode cL_act 60 = .ok (.bipush 12, 2) := by decide +kernel
theorem dL_act_62 : decode cL_act 62 = .ok (.invokestatic 9, 3) := by decide +kernel
theorem dL_act_65 : decode cL_act 65 = .ok (.tableswitch 720 0 9 #[55, 55, 203, 319, 319, 443, 528, 528, 528, 660], 55) := by decide +kernel
theorem dL_act_120 : decode cL_act 120 = .ok (.bipush 7, 2) := by decide +kernel
theorem dL_act_122 : decode cL_act 122 = .ok (.newarray .int, 2) := by decide +kernel
theorem dL_act_124 : decode cL_act 124 = .ok (.dup, 1) := by decide +kernel
theorem dL_act_125 : decode cL_act 125 = .ok (.iconst 0, 1) := by decide +kernel
theorem dL_act_126 : decode cL_act 126 = .ok (.iload_n 3, 1) := by decide +kernel
theorem dL_act_127 : decode cL_act 127 = .ok (.iastore, 1) := by decide +kernel
theorem dL_act_128 : decode cL_act 128 = .ok (.dup, 1) := by decide +kernel
theorem dL_act_129 : decode cL_act 129 = .ok (.iconst 1, 1) := by decide +kernel
theorem dL_act_130 : decode cL_act 130 = .ok (.iload_n 2, 1) := by decide +kernel
theorem dL_act_131 : decode cL_act 131 = .ok (.bipush 6, 2) := by decide +kernel
theorem dL_act_133 : decode cL_act 133 = .ok (.ishr, 1) := by decide +kernel
theorem dL_act_134 : decode cL_act 134 = .ok (.bipush 100, 2) := by decide +kernel
theorem dL_act_136 : decode cL_act 136 = .ok (.invokestatic 9, 3) := by decide +kernel
theorem dL_act_139 : decode cL_act 139 = .ok (.iastore, 1) := by decide +kernel
theorem dL_act_140 : decode cL_act 140 = .ok (.dup, 1) := by decide +kernel
theorem dL_act_141 : decode cL_act 141 = .ok (.iconst 2, 1) := by decide +kernel
theorem dL_act_142 : decode cL_act 142 = .ok (.iload_n 2, 1) := by decide +kernel
theorem dL_act_143 : decode cL_act 143 = .ok (.iconst 3, 1) := by decide +kernel
theorem dL_act_144 : decode cL_act 144 = .ok (.ishr, 1) := by decide +kernel
theorem dL_act_145 : decode cL_act 145 = .ok (.iconst 2, 1) := by decide +kernel
theorem dL_act_146 : decode cL_act 146 = .ok (.invokestatic 9, 3) := by decide +kernel
theorem dL_act_149 : decode cL_act 149 = .ok (.iastore, 1) := by decide +kernel
theorem dL_act_150 : decode cL_act 150 = .ok (.dup, 1) := by decide +kernel
theorem dL_act_151 : decode cL_act 151 = .ok (.iconst 3, 1) := by decide +kernel
theorem dL_act_152 : decode cL_act 152 = .ok (.iload_n 2, 1) := by decide +kernel
theorem dL_act_153 : decode cL_act 153 = .ok (.bipush 8, 2) := by decide +kernel
theorem dL_act_155 : decode cL_act 155 = .ok (.ishr, 1) := by decide +kernel
theorem dL_act_156 : decode cL_act 156 = .ok (.iconst 2, 1) := by decide +kernel
theorem dL_act_157 : decode cL_act 157 = .ok (.invokestatic 9, 3) := by decide +kernel
theorem dL_act_160 : decode cL_act 160 = .ok (.iastore, 1) := by decide +kernel
theorem dL_act_161 : decode cL_act 161 = .ok (.dup, 1) := by decide +kernel
theorem dL_act_162 : decode cL_act 162 = .ok (.iconst 4, 1) := by decide +kernel
theorem dL_act_163 : decode cL_act 163 = .ok (.iconst 0, 1) := by decide +kernel
theorem dL_act_164 : decode cL_act 164 = .ok (.iastore, 1) := by decide +kernel
theorem dL_act_165 : decode cL_act 165 = .ok (.dup, 1) := by decide +kernel
theorem dL_act_166 : decode cL_act 166 = .ok (.iconst 5, 1) := by decide +kernel
theorem dL_act_167 : decode cL_act 167 = .ok (.iconst 0, 1) := by decide +kernel
theorem dL_act_168 : decode cL_act 168 = .ok (.iastore, 1) := by decide +kernel
theorem dL_act_169 : decode cL_act 169 = .ok (.dup, 1) := by decide +kernel
theorem dL_act_170 : decode cL_act 170 = .ok (.bipush 6, 2) := by decide +kernel
theorem dL_act_172 : decode cL_act 172 = .ok (.iconst 0, 1) := by decide +kernel
theorem dL_act_173 : decode cL_act 173 = .ok (.iastore, 1) := by decide +kernel
theorem dL_act_174 : decode cL_act 174 = .ok (.astore 6, 2) := by decide +kernel
theorem dL_act_176 : decode cL_act 176 = .ok (.aload_n 1, 1) := by decide +kernel
theorem dL_act_177 : decode cL_act 177 = .ok (.getfield 21, 3) := by decide +kernel
theorem dL_act_180 : decode cL_act 180 = .ok (.arraylength, 1) := by decide +kernel
theorem dL_act_181 : decode cL_act 181 = .ok (.istore 7, 2) := by decide +kernel
theorem dL_act_183 : decode cL_act 183 = .ok (.aload_n 0, 1) := by decide +kernel
theorem dL_act_184 : decode cL_act 184 = .ok (.iload_n 3, 1) := by decide +kernel
theorem dL_act_185 : decode cL_act 185 = .ok (.aload 6, 2) := by decide +kernel
theorem dL_act_187 : decode cL_act 187 = .ok (.iconst 1, 1) := by decide +kernel
theorem dL_act_188 : decode cL_act 188 = .ok (.iaload, 1) := by decide +kernel
theorem dL_act_189 : decode cL_act 189 = .ok (.aload 6, 2) := by decide +kernel
theorem dL_act_191 : decode cL_act 191 = .ok (.iconst 2, 1) := by decide +kernel
theorem dL_act_192 : decode cL_act 192 = .ok (.iaload, 1) := by decide +kernel
theorem dL_act_193 : decode cL_act 193 = .ok (.iconst 1, 1) := by decide +kernel
theorem dL_act_194 : decode cL_act 194 = .ok (.if_icmp .ne 7, 3) := by decide +kernel
theorem dL_act_197 : decode cL_act 197 = .ok (.iconst 1, 1) := by decide +kernel
theorem dL_act_198 : decode cL_act 198 = .ok (.goto 4, 3) := by decide +kernel
theorem dL_act_201 : decode cL_act 201 = .ok (.iconst 0, 1) := by decide +kernel
theorem dL_act_202 : decode cL_act 202 = .ok (.aload 6, 2) := by decide +kernel
theorem dL_act_204 : decode cL_act 204 = .ok (.iconst 3, 1) := by decide +kernel
theorem dL_act_205 : decode cL_act 205 = .ok (.iaload, 1) := by decide +kernel
theorem dL_act_206 : decode cL_act 206 = .ok (.iconst 1, 1) := by decide +kernel
theorem dL_act_207 : decode cL_act 207 = .ok (.if_icmp .ne 7, 3) := by decide +kernel
theorem dL_act_210 : decode cL_act 210 = .ok (.iconst 1, 1) := by decide +kernel
theorem dL_act_211 : decode cL_act 211 = .ok (.goto 4, 3) := by decide +kernel
theorem dL_act_214 : decode cL_act 214 = .ok (.iconst 0, 1) := by decide +kernel
theorem dL_act_215 : decode cL_act 215 = .ok (.invokevirtual 24, 3) := by decide +kernel
theorem dL_act_218 : decode cL_act 218 = .ok (.istore 5, 2) := by decide +kernel
theorem dL_act_220 : decode cL_act 220 = .ok (.goto 8, 3) := by decide +kernel
theorem dL_act_223 : decode cL_act 223 = .ok (.astore 8, 2) := by decide +kernel
theorem dL_act_225 : decode cL_act 225 = .ok (.iconst (-1), 1) := by decide +kernel
theorem dL_act_226 : decode cL_act 226 = .ok (.istore 5, 2) := by decide +kernel
theorem dL_act_228 : decode cL_act 228 = .ok (.iload 5, 2) := by decide +kernel
theorem dL_act_230 : decode cL_act 230 = .ok (.iload 7, 2) := by decide +kernel
theorem dL_act_232 : decode cL_act 232 = .ok (.bipush 10, 2) := by decide +kernel
theorem dL_act_234 : decode cL_act 234 = .ok (.if_icmp .ge 8, 3) := by decide +kernel
theorem dL_act_237 : decode cL_act 237 = .ok (.iload 7, 2) := by decide +kernel
theorem dL_act_239 : decode cL_act 239 = .ok (.goto 4, 3) := by decide +kernel
theorem dL_act_242 : decode cL_act 242 = .ok (.iconst (-1), 1) := by decide +kernel
theorem dL_act_243 : decode cL_act 243 = .ok (.if_icmp .eq 5, 3) := by decide +kernel
theorem dL_act_246 : decode cL_act 246 = .ok (.iconst 0, 1) := by decide +kernel
theorem dL_act_247 : decode cL_act 247 = .ok (.ireturn, 1) := by decide +kernel
theorem dL_act_248 : decode cL_act 248 = .ok (.iload 5, 2) := by decide +kernel
theorem dL_act_250 : decode cL_act 250 = .ok (.ifCond .lt 16, 3) := by decide +kernel
theorem dL_act_253 : decode cL_act 253 = .ok (.aload_n 1, 1) := by decide +kernel
theorem dL_act_254 : decode cL_act 254 = .ok (.aload_n 1, 1) := by decide +kernel
theorem dL_act_255 : decode cL_act 255 = .ok (.getfield 21, 3) := by decide +kernel
theorem dL_act_258 : decode cL_act 258 = .ok (.aload 6, 2) := by decide +kernel
theorem dL_act_260 : decode cL_act 260 = .ok (.invokestatic 32, 3) := by decide +kernel
theorem dL_act_263 : decode cL_act 263 = .ok (.putfield 21, 3) := by decide +kernel
theorem dL_act_266 : decode cL_act 266 = .ok (.iconst 1, 1) := by decide +kernel
theorem dL_act_267 : decode cL_act 267 = .ok (.ireturn, 1) := by decide +kernel
theorem dL_act_268 : decode cL_act 268 = .ok (.aload_n 1, 1) := by decide +kernel
theorem dL_act_269 : decode cL_act 269 = .ok (.getfield 21, 3) := by decide +kernel
theorem dL_act_272 : decode cL_act 272 = .ok (.arraylength, 1) := by decide +kernel
theorem dL_act_273 : decode cL_act 273 = .ok (.ifCond .ne 5, 3) := by decide +kernel
theorem dL_act_276 : decode cL_act 276 = .ok (.iconst 1, 1) := by decide +kernel
theorem dL_act_277 : decode cL_act 277 = .ok (.ireturn, 1) := by decide +kernel
theorem dL_act_278 : decode cL_act 278 = .ok (.aload_n 1, 1) := by decide +kernel
theorem dL_act_279 : decode cL_act 279 = .ok (.getfield 21, 3) := by decide +kernel
theorem dL_act_282 : decode cL_act 282 = .ok (.iload_n 2, 1) := by decide +kernel
theorem dL_act_283 : decode cL_act 283 = .ok (.iconst 4, 1) := by decide +kernel
theorem dL_act_284 : decode cL_act 284 = .ok (.ishr, 1) := by decide +kernel
theorem dL_act_285 : decode cL_act 285 = .ok (.aload_n 1, 1) := by decide +kernel
theorem dL_act_286 : decode cL_act 286 = .ok (.getfield 21, 3) := by decide +kernel
theorem dL_act_289 : decode cL_act 289 = .ok (.arraylength, 1) := by decide +kernel
theorem dL_act_290 : decode cL_act 290 = .ok (.invokestatic 9, 3) := by decide +kernel
theorem dL_act_293 : decode cL_act 293 = .ok (.aaload, 1) := by decide +kernel
theorem dL_act_294 : decode cL_act 294 = .ok (.astore 6, 2) := by decide +kernel
theorem dL_act_296 : decode cL_act 296 = .ok (.aload 6, 2) := by decide +kernel
theorem dL_act_298 : decode cL_act 298 = .ok (.iconst 2, 1) := by decide +kernel
theorem dL_act_299 : decode cL_act 299 = .ok (.iaload, 1) := by decide +kernel
theorem dL_act_300 : decode cL_act 300 = .ok (.iconst 2, 1) := by decide +kernel
theorem dL_act_301 : decode cL_act 301 = .ok (.aload 6, 2) := by decide +kernel
theorem dL_act_303 : decode cL_act 303 = .ok (.iconst 3, 1) := by decide +kernel
theorem dL_act_304 : decode cL_act 304 = .ok (.iaload, 1) := by decide +kernel
theorem dL_act_305 : decode cL_act 305 = .ok (.imul, 1) := by decide +kernel
theorem dL_act_306 : decode cL_act 306 = .ok (.iadd, 1) := by decide +kernel
theorem dL_act_307 : decode cL_act 307 = .ok (.istore 7, 2) := by decide +kernel
theorem dL_act_309 : decode cL_act 309 = .ok (.aload 6, 2) := by decide +kernel
theorem dL_act_311 : decode cL_act 311 = .ok (.iconst 2, 1) := by decide +kernel
theorem dL_act_312 : decode cL_act 312 = .ok (.iload_n 2, 1) := by decide +kernel
theorem dL_act_313 : decode cL_act 313 = .ok (.iconst 3, 1) := by decide +kernel
theorem dL_act_314 : decode cL_act 314 = .ok (.ishr, 1) := by decide +kernel
theorem dL_act_315 : decode cL_act 315 = .ok (.iconst 2, 1) := by decide +kernel
theorem dL_act_316 : decode cL_act 316 = .ok (.invokestatic 9, 3) := by decide +kernel
theorem dL_act_319 : decode cL_act 319 = .ok (.iastore, 1) := by decide +kernel
theorem dL_act_320 : decode cL_act 320 = .ok (.aload 6, 2) := by decide +kernel
theorem dL_act_322 : decode cL_act 322 = .ok (.iconst 3, 1) := by decide +kernel
theorem dL_act_323 : decode cL_act 323 = .ok (.iload_n 2, 1) := by decide +kernel
theorem dL_act_324 : decode cL_act 324 = .ok (.bipush 8, 2) := by decide +kernel
theorem dL_act_326 : decode cL_act 326 = .ok (.ishr, 1) := by decide +kernel
theorem dL_act_327 : decode cL_act 327 = .ok (.iconst 2, 1) := by decide +kernel
theorem dL_act_328 : decode cL_act 328 = .ok (.invokestatic 9, 3) := by decide +kernel
theorem dL_act_331 : decode cL_act 331 = .ok (.iastore, 1) := by decide +kernel
theorem dL_act_332 : decode cL_act 332 = .ok (.aload_n 0, 1) := by decide +kernel
theorem dL_act_333 : decode cL_act 333 = .ok (.iload_n 2, 1) := by decide +kernel
theorem dL_act_334 : decode cL_act 334 = .ok (.iconst 4, 1) := by decide +kernel
theorem dL_act_335 : decode cL_act 335 = .ok (.ishr, 1) := by decide +kernel
theorem dL_act_336 : decode cL_act 336 = .ok (.aload_n 1, 1) := by decide +kernel
theorem dL_act_337 : decode cL_act 337 = .ok (.getfield 21, 3) := by decide +kernel
theorem dL_act_340 : decode cL_act 340 = .ok (.arraylength, 1) := by decide +kernel
theorem dL_act_341 : decode cL_act 341 = .ok (.invokestatic 9, 3) := by decide +kernel
theorem dL_act_344 : decode cL_act 344 = .ok (.aload 6, 2) := by decide +kernel
theorem dL_act_346 : decode cL_act 346 = .ok (.iconst 2, 1) := by decide +kernel
theorem dL_act_347 : decode cL_act 347 = .ok (.iaload, 1) := by decide +kernel
theorem dL_act_348 : decode cL_act 348 = .ok (.iconst 1, 1) := by decide +kernel
theorem dL_act_349 : decode cL_act 349 = .ok (.if_icmp .ne 7, 3) := by decide +kernel
theorem dL_act_352 : decode cL_act 352 = .ok (.iconst 1, 1) := by decide +kernel
theorem dL_act_353 : decode cL_act 353 = .ok (.goto 4, 3) := by decide +kernel
theorem dL_act_356 : decode cL_act 356 = .ok (.iconst 0, 1) := by decide +kernel
theorem dL_act_357 : decode cL_act 357 = .ok (.aload 6, 2) := by decide +kernel
theorem dL_act_359 : decode cL_act 359 = .ok (.iconst 3, 1) := by decide +kernel
theorem dL_act_360 : decode cL_act 360 = .ok (.iaload, 1) := by decide +kernel
theorem dL_act_361 : decode cL_act 361 = .ok (.iconst 1, 1) := by decide +kernel
theorem dL_act_362 : decode cL_act 362 = .ok (.if_icmp .ne 7, 3) := by decide +kernel
theorem dL_act_365 : decode cL_act 365 = .ok (.iconst 1, 1) := by decide +kernel
theorem dL_act_366 : decode cL_act 366 = .ok (.goto 4, 3) := by decide +kernel
theorem dL_act_369 : decode cL_act 369 = .ok (.iconst 0, 1) := by decide +kernel
theorem dL_act_370 : decode cL_act 370 = .ok (.invokevirtual 36, 3) := by decide +kernel
theorem dL_act_373 : decode cL_act 373 = .ok (.iload 7, 2) := by decide +kernel
theorem dL_act_375 : decode cL_act 375 = .ok (.if_icmp .ne 7, 3) := by decide +kernel
theorem dL_act_378 : decode cL_act 378 = .ok (.iconst 1, 1) := by decide +kernel
theorem dL_act_379 : decode cL_act 379 = .ok (.goto 4, 3) := by decide +kernel
theorem dL_act_382 : decode cL_act 382 = .ok (.iconst 0, 1) := by decide +kernel
theorem dL_act_383 : decode cL_act 383 = .ok (.ireturn, 1) := by decide +kernel
theorem dL_act_384 : decode cL_act 384 = .ok (.iconst 4, 1) := by decide +kernel
theorem dL_act_385 : decode cL_act 385 = .ok (.newarray .int, 2) := by decide +kernel
theorem dL_act_387 : decode cL_act 387 = .ok (.dup, 1) := by decide +kernel
theorem dL_act_388 : decode cL_act 388 = .ok (.iconst 0, 1) := by decide +kernel
theorem dL_act_389 : decode cL_act 389 = .ok (.iload_n 3, 1) := by decide +kernel
theorem dL_act_390 : decode cL_act 390 = .ok (.iastore, 1) := by decide +kernel
theorem dL_act_391 : decode cL_act 391 = .ok (.dup, 1) := by decide +kernel
theorem dL_act_392 : decode cL_act 392 = .ok (.iconst 1, 1) := by decide +kernel
theorem dL_act_393 : decode cL_act 393 = .ok (.iconst 1, 1) := by decide +kernel
theorem dL_act_394 : decode cL_act 394 = .ok (.iload_n 2, 1) := by decide +kernel
theorem dL_act_395 : decode cL_act 395 = .ok (.bipush 6, 2) := by decide +kernel
theorem dL_act_397 : decode cL_act 397 = .ok (.ishr, 1) := by decide +kernel
theorem dL_act_398 : decode cL_act 398 = .ok (.bipush 9, 2) := by decide +kernel
theorem dL_act_400 : decode cL_act 400 = .ok (.invokestatic 9, 3) := by decide +kernel
theorem dL_act_403 : decode cL_act 403 = .ok (.iadd, 1) := by decide +kernel
theorem dL_act_404 : decode cL_act 404 = .ok (.iastore, 1) := by decide +kernel
theorem dL_act_405 : decode cL_act 405 = .ok (.dup, 1) := by decide +kernel
theorem dL_act_406 : decode cL_act 406 = .ok (.iconst 2, 1) := by decide +kernel
theorem dL_act_407 : decode cL_act 407 = .ok (.iload_n 2, 1) := by decide +kernel
theorem dL_act_408 : decode cL_act 408 = .ok (.iconst 3, 1) := by decide +kernel
theorem dL_act_409 : decode cL_act 409 = .ok (.ishr, 1) := by decide +kernel
theorem dL_act_410 : decode cL_act 410 = .ok (.iload_n 2, 1) := by decide +kernel
theorem dL_act_411 : decode cL_act 411 = .ok (.bipush 8, 2) := by decide +kernel
theorem dL_act_413 : decode cL_act 413 = .ok (.ishr, 1) := by decide +kernel
theorem dL_act_414 : decode cL_act 414 = .ok (.iconst 2, 1) := by decide +kernel
theorem dL_act_415 : decode cL_act 415 = .ok (.invokestatic 9, 3) := by decide +kernel
theorem dL_act_418 : decode cL_act 418 = .ok (.ifCond .ne 8, 3) := by decide +kernel
theorem dL_act_421 : decode cL_act 421 = .ok (.bipush 61, 2) := by decide +kernel
theorem dL_act_423 : decode cL_act 423 = .ok (.goto 5, 3) := by decide +kernel
theorem dL_act_426 : decode cL_act 426 = .ok (.bipush 6, 2) := by decide +kernel
theorem dL_act_428 : decode cL_act 428 = .ok (.invokestatic 9, 3) := by decide +kernel
theorem dL_act_431 : decode cL_act 431 = .ok (.iastore, 1) := by decide +kernel
theorem dL_act_432 : decode cL_act 432 = .ok (.dup, 1) := by decide +kernel
theorem dL_act_433 : decode cL_act 433 = .ok (.iconst 3, 1) := by decide +kernel
theorem dL_act_434 : decode cL_act 434 = .ok (.iconst 0, 1) := by decide +kernel
theorem dL_act_435 : decode cL_act 435 = .ok (.iastore, 1) := by decide +kernel
theorem dL_act_436 : decode cL_act 436 = .ok (.astore 6, 2) := by decide +kernel
theorem dL_act_438 : decode cL_act 438 = .ok (.aload_n 1, 1) := by decide +kernel
theorem dL_act_439 : decode cL_act 439 = .ok (.getfield 15, 3) := by decide +kernel
theorem dL_act_442 : decode cL_act 442 = .ok (.arraylength, 1) := by decide +kernel
theorem dL_act_443 : decode cL_act 443 = .ok (.istore 7, 2) := by decide +kernel
theorem dL_act_445 : decode cL_act 445 = .ok (.aload_n 0, 1) := by decide +kernel
theorem dL_act_446 : decode cL_act 446 = .ok (.iload_n 3, 1) := by decide +kernel
theorem dL_act_447 : decode cL_act 447 = .ok (.aload 6, 2) := by decide +kernel
theorem dL_act_449 : decode cL_act 449 = .ok (.iconst 1, 1) := by decide +kernel
theorem dL_act_450 : decode cL_act 450 = .ok (.iaload, 1) := by decide +kernel
theorem dL_act_451 : decode cL_act 451 = .ok (.aload 6, 2) := by decide +kernel
theorem dL_act_453 : decode cL_act 453 = .ok (.iconst 2, 1) := by decide +kernel
theorem dL_act_454 : decode cL_act 454 = .ok (.iaload, 1) := by decide +kernel
theorem dL_act_455 : decode cL_act 455 = .ok (.invokevirtual 40, 3) := by decide +kernel
theorem dL_act_458 : decode cL_act 458 = .ok (.istore 5, 2) := by decide +kernel
theorem dL_act_460 : decode cL_act 460 = .ok (.goto 8, 3) := by decide +kernel
theorem dL_act_463 : decode cL_act 463 = .ok (.astore 8, 2) := by decide +kernel
theorem dL_act_465 : decode cL_act 465 = .ok (.iconst (-1), 1) := by decide +kernel
theorem dL_act_466 : decode cL_act 466 = .ok (.istore 5, 2) := by decide +kernel
theorem dL_act_468 : decode cL_act 468 = .ok (.iload 5, 2) := by decide +kernel
theorem dL_act_470 : decode cL_act 470 = .ok (.iload 7, 2) := by decide +kernel
theorem dL_act_472 : decode cL_act 472 = .ok (.bipush 6, 2) := by decide +kernel
theorem dL_act_474 : decode cL_act 474 = .ok (.if_icmp .ge 8, 3) := by decide +kernel
theorem dL_act_477 : decode cL_act 477 = .ok (.iload 7, 2) := by decide +kernel
theorem dL_act_479 : decode cL_act 479 = .ok (.goto 4, 3) := by decide +kernel
theorem dL_act_482 : decode cL_act 482 = .ok (.iconst (-1), 1) := by decide +kernel
theorem dL_act_483 : decode cL_act 483 = .ok (.if_icmp .eq 5, 3) := by decide +kernel
theorem dL_act_486 : decode cL_act 486 = .ok (.iconst 0, 1) := by decide +kernel
theorem dL_act_487 : decode cL_act 487 = .ok (.ireturn, 1) := by decide +kernel
theorem dL_act_488 : decode cL_act 488 = .ok (.iload 5, 2) := by decide +kernel
theorem dL_act_490 : decode cL_act 490 = .ok (.ifCond .lt 16, 3) := by decide +kernel
theorem dL_act_493 : decode cL_act 493 = .ok (.aload_n 1, 1) := by decide +kernel
theorem dL_act_494 : decode cL_act 494 = .ok (.aload_n 1, 1) := by decide +kernel
theorem dL_act_495 : decode cL_act 495 = .ok (.getfield 15, 3) := by decide +kernel
theorem dL_act_498 : decode cL_act 498 = .ok (.aload 6, 2) := by decide +kernel
theorem dL_act_500 : decode cL_act 500 = .ok (.invokestatic 32, 3) := by decide +kernel
theorem dL_act_503 : decode cL_act 503 = .ok (.putfield 15, 3) := by decide +kernel
theorem dL_act_506 : decode cL_act 506 = .ok (.iconst 1, 1) := by decide +kernel
theorem dL_act_507 : decode cL_act 507 = .ok (.ireturn, 1) := by decide +kernel
theorem dL_act_508 : decode cL_act 508 = .ok (.iload 4, 2) := by decide +kernel
theorem dL_act_510 : decode cL_act 510 = .ok (.ifCond .ge 5, 3) := by decide +kernel
theorem dL_act_513 : decode cL_act 513 = .ok (.iconst 1, 1) := by decide +kernel
theorem dL_act_514 : decode cL_act 514 = .ok (.ireturn, 1) := by decide +kernel
theorem dL_act_515 : decode cL_act 515 = .ok (.iconst 1, 1) := by decide +kernel
theorem dL_act_516 : decode cL_act 516 = .ok (.iload_n 2, 1) := by decide +kernel
theorem dL_act_517 : decode cL_act 517 = .ok (.bipush 6, 2) := by decide +kernel
theorem dL_act_519 : decode cL_act 519 = .ok (.ishr, 1) := by decide +kernel
theorem dL_act_520 : decode cL_act 520 = .ok (.bipush 60, 2) := by decide +kernel
theorem dL_act_522 : decode cL_act 522 = .ok (.invokestatic 9, 3) := by decide +kernel
theorem dL_act_525 : decode cL_act 525 = .ok (.iadd, 1) := by decide +kernel
theorem dL_act_526 : decode cL_act 526 = .ok (.istore 6, 2) := by decide +kernel
theorem dL_act_528 : decode cL_act 528 = .ok (.aload_n 1, 1) := by decide +kernel
theorem dL_act_529 : decode cL_act 529 = .ok (.getfield 15, 3) := by decide +kernel
theorem dL_act_532 : decode cL_act 532 = .ok (.iload 4, 2) := by decide +kernel
theorem dL_act_534 : decode cL_act 534 = .ok (.aaload, 1) := by decide +kernel
theorem dL_act_535 : decode cL_act 535 = .ok (.iconst 2, 1) := by decide +kernel
theorem dL_act_536 : decode cL_act 536 = .ok (.bipush 60, 2) := by decide +kernel
theorem dL_act_538 : decode cL_act 538 = .ok (.aload_n 1, 1) := by decide +kernel
theorem dL_act_539 : decode cL_act 539 = .ok (.getfield 15, 3) := by decide +kernel
theorem dL_act_542 : decode cL_act 542 = .ok (.iload 4, 2) := by decide +kernel
theorem dL_act_544 : decode cL_act 544 = .ok (.aaload, 1) := by decide +kernel
theorem dL_act_545 : decode cL_act 545 = .ok (.iconst 2, 1) := by decide +kernel
theorem dL_act_546 : decode cL_act 546 = .ok (.iaload, 1) := by decide +kernel
theorem dL_act_547 : decode cL_act 547 = .ok (.iload 6, 2) := by decide +kernel
theorem dL_act_549 : decode cL_act 549 = .ok (.iadd, 1) := by decide +kernel
theorem dL_act_550 : decode cL_act 550 = .ok (.invokestatic 44, 3) := by decide +kernel
theorem dL_act_553 : decode cL_act 553 = .ok (.iastore, 1) := by decide +kernel
theorem dL_act_554 : decode cL_act 554 = .ok (.aload_n 1, 1) := by decide +kernel
theorem dL_act_555 : decode cL_act 555 = .ok (.dup, 1) := by decide +kernel
theorem dL_act_556 : decode cL_act 556 = .ok (.getfield 49, 3) := by decide +kernel
theorem dL_act_559 : decode cL_act 559 = .ok (.iload 6, 2) := by decide +kernel
theorem dL_act_561 : decode cL_act 561 = .ok (.iconst 5, 1) := by decide +kernel
theorem dL_act_562 : decode cL_act 562 = .ok (.idiv, 1) := by decide +kernel
theorem dL_act_563 : decode cL_act 563 = .ok (.isub, 1) := by decide +kernel
theorem dL_act_564 : decode cL_act 564 = .ok (.putfield 49, 3) := by decide +kernel
theorem dL_act_567 : decode cL_act 567 = .ok (.aload_n 0, 1) := by decide +kernel
theorem dL_act_568 : decode cL_act 568 = .ok (.iload 4, 2) := by decide +kernel
theorem dL_act_570 : decode cL_act 570 = .ok (.iload 6, 2) := by decide +kernel
theorem dL_act_572 : decode cL_act 572 = .ok (.invokevirtual 53, 3) := by decide +kernel
theorem dL_act_575 : decode cL_act 575 = .ok (.aload_n 1, 1) := by decide +kernel
theorem dL_act_576 : decode cL_act 576 = .ok (.getfield 15, 3) := by decide +kernel
theorem dL_act_579 : decode cL_act 579 = .ok (.iload 4, 2) := by decide +kernel
theorem dL_act_581 : decode cL_act 581 = .ok (.aaload, 1) := by decide +kernel
theorem dL_act_582 : decode cL_act 582 = .ok (.iconst 2, 1) := by decide +kernel
theorem dL_act_583 : decode cL_act 583 = .ok (.iaload, 1) := by decide +kernel
theorem dL_act_584 : decode cL_act 584 = .ok (.if_icmp .ne 7, 3) := by decide +kernel
theorem dL_act_587 : decode cL_act 587 = .ok (.iconst 1, 1) := by decide +kernel
theorem dL_act_588 : decode cL_act 588 = .ok (.goto 4, 3) := by decide +kernel
theorem dL_act_591 : decode cL_act 591 = .ok (.iconst 0, 1) := by decide +kernel
theorem dL_act_592 : decode cL_act 592 = .ok (.ireturn, 1) := by decide +kernel
theorem dL_act_593 : decode cL_act 593 = .ok (.iconst 4, 1) := by decide +kernel
theorem dL_act_594 : decode cL_act 594 = .ok (.newarray .int, 2) := by decide +kernel
theorem dL_act_596 : decode cL_act 596 = .ok (.dup, 1) := by decide +kernel
theorem dL_act_597 : decode cL_act 597 = .ok (.iconst 0, 1) := by decide +kernel
theorem dL_act_598 : decode cL_act 598 = .ok (.iload_n 3, 1) := by decide +kernel
theorem dL_act_599 : decode cL_act 599 = .ok (.iastore, 1) := by decide +kernel
theorem dL_act_600 : decode cL_act 600 = .ok (.dup, 1) := by decide +kernel
theorem dL_act_601 : decode cL_act 601 = .ok (.iconst 1, 1) := by decide +kernel
theorem dL_act_602 : decode cL_act 602 = .ok (.iload_n 2, 1) := by decide +kernel
theorem dL_act_603 : decode cL_act 603 = .ok (.iconst 3, 1) := by decide +kernel
theorem dL_act_604 : decode cL_act 604 = .ok (.ishr, 1) := by decide +kernel
theorem dL_act_605 : decode cL_act 605 = .ok (.bipush 7, 2) := by decide +kernel
theorem dL_act_607 : decode cL_act 607 = .ok (.invokestatic 9, 3) := by decide +kernel
theorem dL_act_610 : decode cL_act 610 = .ok (.iconst 3, 1) := by decide +kernel
theorem dL_act_611 : decode cL_act 611 = .ok (.isub, 1) := by decide +kernel
theorem dL_act_612 : decode cL_act 612 = .ok (.iastore, 1) := by decide +kernel
theorem dL_act_613 : decode cL_act 613 = .ok (.dup, 1) := by decide +kernel
theorem dL_act_614 : decode cL_act 614 = .ok (.iconst 2, 1) := by decide +kernel
theorem dL_act_615 : decode cL_act 615 = .ok (.iload_n 2, 1) := by decide +kernel
theorem dL_act_616 : decode cL_act 616 = .ok (.bipush 7, 2) := by decide +kernel
theorem dL_act_618 : decode cL_act 618 = .ok (.ishr, 1) := by decide +kernel
theorem dL_act_619 : decode cL_act 619 = .ok (.bipush 61, 2) := by decide +kernel
theorem dL_act_621 : decode cL_act 621 = .ok (.invokestatic 9, 3) := by decide +kernel
theorem dL_act_624 : decode cL_act 624 = .ok (.iastore, 1) := by decide +kernel
theorem dL_act_625 : decode cL_act 625 = .ok (.dup, 1) := by decide +kernel
theorem dL_act_626 : decode cL_act 626 = .ok (.iconst 3, 1) := by decide +kernel
theorem dL_act_627 : decode cL_act 627 = .ok (.iconst 0, 1) := by decide +kernel
theorem dL_act_628 : decode cL_act 628 = .ok (.iastore, 1) := by decide +kernel
theorem dL_act_629 : decode cL_act 629 = .ok (.astore 6, 2) := by decide +kernel
theorem dL_act_631 : decode cL_act 631 = .ok (.iload_n 2, 1) := by decide +kernel
theorem dL_act_632 : decode cL_act 632 = .ok (.bipush 6, 2) := by decide +kernel
theorem dL_act_634 : decode cL_act 634 = .ok (.ishr, 1) := by decide +kernel
theorem dL_act_635 : decode cL_act 635 = .ok (.iconst 2, 1) := by decide +kernel
theorem dL_act_636 : decode cL_act 636 = .ok (.invokestatic 9, 3) := by decide +kernel
theorem dL_act_639 : decode cL_act 639 = .ok (.ifCond .ne 16, 3) := by decide +kernel
theorem dL_act_642 : decode cL_act 642 = .ok (.aload 6, 2) := by decide +kernel
theorem dL_act_644 : decode cL_act 644 = .ok (.iconst 1, 1) := by decide +kernel
theorem dL_act_645 : decode cL_act 645 = .ok (.iload_n 2, 1) := by decide +kernel
theorem dL_act_646 : decode cL_act 646 = .ok (.iconst 3, 1) := by decide +kernel
theorem dL_act_647 : decode cL_act 647 = .ok (.ishr, 1) := by decide +kernel
theorem dL_act_648 : decode cL_act 648 = .ok (.iconst 3, 1) := by decide +kernel
theorem dL_act_649 : decode cL_act 649 = .ok (.invokestatic 9, 3) := by decide +kernel
theorem dL_act_652 : decode cL_act 652 = .ok (.iconst 1, 1) := by decide +kernel
theorem dL_act_653 : decode cL_act 653 = .ok (.isub, 1) := by decide +kernel
theorem dL_act_654 : decode cL_act 654 = .ok (.iastore, 1) := by decide +kernel
theorem dL_act_655 : decode cL_act 655 = .ok (.aload_n 1, 1) := by decide +kernel
theorem dL_act_656 : decode cL_act 656 = .ok (.getfield 56, 3) := by decide +kernel
theorem dL_act_659 : decode cL_act 659 = .ok (.arraylength, 1) := by decide +kernel
theorem dL_act_660 : decode cL_act 660 = .ok (.istore 7, 2) := by decide +kernel
theorem dL_act_662 : decode cL_act 662 = .ok (.aload_n 0, 1) := by decide +kernel
theorem dL_act_663 : decode cL_act 663 = .ok (.iload_n 3, 1) := by decide +kernel
theorem dL_act_664 : decode cL_act 664 = .ok (.aload 6, 2) := by decide +kernel
theorem dL_act_666 : decode cL_act 666 = .ok (.iconst 1, 1) := by decide +kernel
theorem dL_act_667 : decode cL_act 667 = .ok (.iaload, 1) := by decide +kernel
theorem dL_act_668 : decode cL_act 668 = .ok (.aload 6, 2) := by decide +kernel
theorem dL_act_670 : decode cL_act 670 = .ok (.iconst 2, 1) := by decide +kernel
theorem dL_act_671 : decode cL_act 671 = .ok (.iaload, 1) := by decide +kernel
theorem dL_act_672 : decode cL_act 672 = .ok (.invokevirtual 59, 3) := by decide +kernel
theorem dL_act_675 : decode cL_act 675 = .ok (.istore 5, 2) := by decide +kernel
theorem dL_act_677 : decode cL_act 677 = .ok (.goto 8, 3) := by decide +kernel
theorem dL_act_680 : decode cL_act 680 = .ok (.astore 8, 2) := by decide +kernel
theorem dL_act_682 : decode cL_act 682 = .ok (.iconst (-1), 1) := by decide +kernel
theorem dL_act_683 : decode cL_act 683 = .ok (.istore 5, 2) := by decide +kernel
theorem dL_act_685 : decode cL_act 685 = .ok (.iload 5, 2) := by decide +kernel
theorem dL_act_687 : decode cL_act 687 = .ok (.iload 7, 2) := by decide +kernel
theorem dL_act_689 : decode cL_act 689 = .ok (.bipush 20, 2) := by decide +kernel
theorem dL_act_691 : decode cL_act 691 = .ok (.if_icmp .ge 8, 3) := by decide +kernel
theorem dL_act_694 : decode cL_act 694 = .ok (.iload 7, 2) := by decide +kernel
theorem dL_act_696 : decode cL_act 696 = .ok (.goto 4, 3) := by decide +kernel
theorem dL_act_699 : decode cL_act 699 = .ok (.iconst (-1), 1) := by decide +kernel
theorem dL_act_700 : decode cL_act 700 = .ok (.if_icmp .eq 5, 3) := by decide +kernel
theorem dL_act_703 : decode cL_act 703 = .ok (.iconst 0, 1) := by decide +kernel
theorem dL_act_704 : decode cL_act 704 = .ok (.ireturn, 1) := by decide +kernel
theorem dL_act_705 : decode cL_act 705 = .ok (.iload 5, 2) := by decide +kernel
theorem dL_act_707 : decode cL_act 707 = .ok (.ifCond .lt 16, 3) := by decide +kernel
theorem dL_act_710 : decode cL_act 710 = .ok (.aload_n 1, 1) := by decide +kernel
theorem dL_act_711 : decode cL_act 711 = .ok (.aload_n 1, 1) := by decide +kernel
theorem dL_act_712 : decode cL_act 712 = .ok (.getfield 56, 3) := by decide +kernel
theorem dL_act_715 : decode cL_act 715 = .ok (.aload 6, 2) := by decide +kernel
theorem dL_act_717 : decode cL_act 717 = .ok (.invokestatic 32, 3) := by decide +kernel
theorem dL_act_720 : decode cL_act 720 = .ok (.putfield 56, 3) := by decide +kernel
theorem dL_act_723 : decode cL_act 723 = .ok (.iconst 1, 1) := by decide +kernel
theorem dL_act_724 : decode cL_act 724 = .ok (.ireturn, 1) := by decide +kernel
theorem dL_act_725 : decode cL_act 725 = .ok (.iload_n 2, 1) := by decide +kernel
theorem dL_act_726 : decode cL_act 726 = .ok (.iconst 4, 1) := by decide +kernel
theorem dL_act_727 : decode cL_act 727 = .ok (.ishr, 1) := by decide +kernel
theorem dL_act_728 : decode cL_act 728 = .ok (.bipush 6, 2) := by decide +kernel
theorem dL_act_730 : decode cL_act 730 = .ok (.invokestatic 9, 3) := by decide +kernel
theorem dL_act_733 : decode cL_act 733 = .ok (.istore 6, 2) := by decide +kernel
theorem dL_act_735 : decode cL_act 735 = .ok (.aload_n 1, 1) := by decide +kernel
theorem dL_act_736 : decode cL_act 736 = .ok (.getfield 62, 3) := by decide +kernel
theorem dL_act_739 : decode cL_act 739 = .ok (.iload 6, 2) := by decide +kernel
theorem dL_act_741 : decode cL_act 741 = .ok (.iaload, 1) := by decide +kernel
theorem dL_act_742 : decode cL_act 742 = .ok (.istore 7, 2) := by decide +kernel
theorem dL_act_744 : decode cL_act 744 = .ok (.aload_n 1, 1) := by decide +kernel
theorem dL_act_745 : decode cL_act 745 = .ok (.getfield 62, 3) := by decide +kernel
theorem dL_act_748 : decode cL_act 748 = .ok (.iload 6, 2) := by decide +kernel
theorem dL_act_750 : decode cL_act 750 = .ok (.iload_n 2, 1) := by decide +kernel
theorem dL_act_751 : decode cL_act 751 = .ok (.bipush 7, 2) := by decide +kernel
theorem dL_act_753 : decode cL_act 753 = .ok (.ishr, 1) := by decide +kernel
theorem dL_act_754 : decode cL_act 754 = .ok (.iconst 5, 1) := by decide +kernel
theorem dL_act_755 : decode cL_act 755 = .ok (.invokestatic 9, 3) := by decide +kernel
theorem dL_act_758 : decode cL_act 758 = .ok (.iconst 2, 1) := by decide +kernel
theorem dL_act_759 : decode cL_act 759 = .ok (.isub, 1) := by decide +kernel
theorem dL_act_760 : decode cL_act 760 = .ok (.iastore, 1) := by decide +kernel
theorem dL_act_761 : decode cL_act 761 = .ok (.aload_n 0, 1) := by decide +kernel
theorem dL_act_762 : decode cL_act 762 = .ok (.iload 6, 2) := by decide +kernel
theorem dL_act_764 : decode cL_act 764 = .ok (.aload_n 1, 1) := by decide +kernel
theorem dL_act_765 : decode cL_act 765 = .ok (.getfield 62, 3) := by decide +kernel
theorem dL_act_768 : decode cL_act 768 = .ok (.iload 6, 2) := by decide +kernel
theorem dL_act_770 : decode cL_act 770 = .ok (.iaload, 1) := by decide +kernel
theorem dL_act_771 : decode cL_act 771 = .ok (.invokevirtual 66, 3) := by decide +kernel
theorem dL_act_774 : decode cL_act 774 = .ok (.iload 7, 2) := by decide +kernel
theorem dL_act_776 : decode cL_act 776 = .ok (.if_icmp .ne 7, 3) := by decide +kernel
theorem dL_act_779 : decode cL_act 779 = .ok (.iconst 1, 1) := by decide +kernel
theorem dL_act_780 : decode cL_act 780 = .ok (.goto 4, 3) := by decide +kernel
theorem dL_act_783 : decode cL_act 783 = .ok (.iconst 0, 1) := by decide +kernel
theorem dL_act_784 : decode cL_act 784 = .ok (.ireturn, 1) := by decide +kernel
theorem dL_act_785 : decode cL_act 785 = .ok (.iload 4, 2) := by decide +kernel
theorem dL_act_787 : decode cL_act 787 = .ok (.ifCond .ge 5, 3) := by decide +kernel
theorem dL_act_790 : decode cL_act 790 = .ok (.iconst 1, 1) := by decide +kernel
theorem dL_act_791 : decode cL_act 791 = .ok (.ireturn, 1) := by decide +kernel
theorem dL_act_792 : decode cL_act 792 = .ok (.aload_n 1, 1) := by decide +kernel
theorem dL_act_793 : decode cL_act 793 = .ok (.getfield 15, 3) := by decide +kernel
theorem dL_act_796 : decode cL_act 796 = .ok (.iload 4, 2) := by decide +kernel
theorem dL_act_798 : decode cL_act 798 = .ok (.aaload, 1) := by decide +kernel
theorem dL_act_799 : decode cL_act 799 = .ok (.iconst 0, 1) := by decide +kernel
theorem dL_act_800 : decode cL_act 800 = .ok (.iaload, 1) := by decide +kernel
theorem dL_act_801 : decode cL_act 801 = .ok (.istore 6, 2) := by decide +kernel
theorem dL_act_803 : decode cL_act 803 = .ok (.aload_n 1, 1) := by decide +kernel
theorem dL_act_804 : decode cL_act 804 = .ok (.getfield 15, 3) := by decide +kernel
theorem dL_act_807 : decode cL_act 807 = .ok (.iload 4, 2) := by decide +kernel
theorem dL_act_809 : decode cL_act 809 = .ok (.aaload, 1) := by decide +kernel
theorem dL_act_810 : decode cL_act 810 = .ok (.iconst 0, 1) := by decide +kernel
theorem dL_act_811 : decode cL_act 811 = .ok (.iload_n 3, 1) := by decide +kernel
theorem dL_act_812 : decode cL_act 812 = .ok (.iastore, 1) := by decide +kernel
theorem dL_act_813 : decode cL_act 813 = .ok (.aload_n 1, 1) := by decide +kernel
theorem dL_act_814 : decode cL_act 814 = .ok (.dup, 1) := by decide +kernel
theorem dL_act_815 : decode cL_act 815 = .ok (.getfield 49, 3) := by decide +kernel
theorem dL_act_818 : decode cL_act 818 = .ok (.iconst 2, 1) := by decide +kernel
theorem dL_act_819 : decode cL_act 819 = .ok (.isub, 1) := by decide +kernel
theorem dL_act_820 : decode cL_act 820 = .ok (.putfield 49, 3) := by decide +kernel
theorem dL_act_823 : decode cL_act 823 = .ok (.aload_n 0, 1) := by decide +kernel
theorem dL_act_824 : decode cL_act 824 = .ok (.iload 4, 2) := by decide +kernel
theorem dL_act_826 : decode cL_act 826 = .ok (.iload_n 3, 1) := by decide +kernel
theorem dL_act_827 : decode cL_act 827 = .ok (.invokevirtual 69, 3) := by decide +kernel
theorem dL_act_830 : decode cL_act 830 = .ok (.iload 6, 2) := by decide +kernel
theorem dL_act_832 : decode cL_act 832 = .ok (.if_icmp .ne 7, 3) := by decide +kernel
theorem dL_act_835 : decode cL_act 835 = .ok (.iconst 1, 1) := by decide +kernel
theorem dL_act_836 : decode cL_act 836 = .ok (.goto 4, 3) := by decide +kernel
theorem dL_act_839 : decode cL_act 839 = .ok (.iconst 0, 1) := by decide +kernel
theorem dL_act_840 : decode cL_act 840 = .ok (.ireturn, 1) := by decide +kernel
theorem dL_build_0 : decode cL_build 0 = .ok (.new 16, 3) := by decide +kernel
theorem dL_build_3 : decode cL_build 3 = .ok (.dup, 1) := by decide +kernel
theorem dL_build_4 : decode cL_build 4 = .ok (.invokespecial 72, 3) := by decide +kernel
theorem dL_build_7 : decode cL_build 7 = .ok (.astore_n 2, 1) := by decide +kernel
theorem dL_build_8 : decode cL_build 8 = .ok (.bipush 12, 2) := by decide +kernel
theorem dL_build_10 : decode cL_build 10 = .ok (.newarray .int, 2) := by decide +kernel
theorem dL_build_12 : decode cL_build 12 = .ok (.dup, 1) := by decide +kernel
theorem dL_build_13 : decode cL_build 13 = .ok (.iconst 0, 1) := by decide +kernel
theorem dL_build_14 : decode cL_build 14 = .ok (.iconst 0, 1) := by decide +kernel
theorem dL_build_15 : decode cL_build 15 = .ok (.iastore, 1) := by decide +kernel
theorem dL_build_16 : decode cL_build 16 = .ok (.dup, 1) := by decide +kernel
theorem dL_build_17 : decode cL_build 17 = .ok (.iconst 1, 1) := by decide +kernel
theorem dL_build_18 : decode cL_build 18 = .ok (.iconst 1, 1) := by decide +kernel
theorem dL_build_19 : decode cL_build 19 = .ok (.iastore, 1) := by decide +kernel
theorem dL_build_20 : decode cL_build 20 = .ok (.dup, 1) := by decide +kernel
theorem dL_build_21 : decode cL_build 21 = .ok (.iconst 2, 1) := by decide +kernel
theorem dL_build_22 : decode cL_build 22 = .ok (.iconst 3, 1) := by decide +kernel
theorem dL_build_23 : decode cL_build 23 = .ok (.iastore, 1) := by decide +kernel
theorem dL_build_24 : decode cL_build 24 = .ok (.dup, 1) := by decide +kernel
theorem dL_build_25 : decode cL_build 25 = .ok (.iconst 3, 1) := by decide +kernel
theorem dL_build_26 : decode cL_build 26 = .ok (.bipush 6, 2) := by decide +kernel
theorem dL_build_28 : decode cL_build 28 = .ok (.iastore, 1) := by decide +kernel
theorem dL_build_29 : decode cL_build 29 = .ok (.dup, 1) := by decide +kernel
theorem dL_build_30 : decode cL_build 30 = .ok (.iconst 4, 1) := by decide +kernel
theorem dL_build_31 : decode cL_build 31 = .ok (.bipush 7, 2) := by decide +kernel
theorem dL_build_33 : decode cL_build 33 = .ok (.iastore, 1) := by decide +kernel
theorem dL_build_34 : decode cL_build 34 = .ok (.dup, 1) := by decide +kernel
theorem dL_build_35 : decode cL_build 35 = .ok (.iconst 5, 1) := by decide +kernel
theorem dL_build_36 : decode cL_build 36 = .ok (.iconst 0, 1) := by decide +kernel
theorem dL_build_37 : decode cL_build 37 = .ok (.iastore, 1) := by decide +kernel
theorem dL_build_38 : decode cL_build 38 = .ok (.dup, 1) := by decide +kernel
theorem dL_build_39 : decode cL_build 39 = .ok (.bipush 6, 2) := by decide +kernel
theorem dL_build_41 : decode cL_build 41 = .ok (.iconst 4, 1) := by decide +kernel
theorem dL_build_42 : decode cL_build 42 = .ok (.iastore, 1) := by decide +kernel
theorem dL_build_43 : decode cL_build 43 = .ok (.dup, 1) := by decide +kernel
theorem dL_build_44 : decode cL_build 44 = .ok (.bipush 7, 2) := by decide +kernel
theorem dL_build_46 : decode cL_build 46 = .ok (.bipush 8, 2) := by decide +kernel
theorem dL_build_48 : decode cL_build 48 = .ok (.iastore, 1) := by decide +kernel
theorem dL_build_49 : decode cL_build 49 = .ok (.dup, 1) := by decide +kernel
theorem dL_build_50 : decode cL_build 50 = .ok (.bipush 8, 2) := by decide +kernel
theorem dL_build_52 : decode cL_build 52 = .ok (.bipush 9, 2) := by decide +kernel
theorem dL_build_54 : decode cL_build 54 = .ok (.iastore, 1) := by decide +kernel
theorem dL_build_55 : decode cL_build 55 = .ok (.dup, 1) := by decide +kernel
theorem dL_build_56 : decode cL_build 56 = .ok (.bipush 9, 2) := by decide +kernel
theorem dL_build_58 : decode cL_build 58 = .ok (.bipush 6, 2) := by decide +kernel
theorem dL_build_60 : decode cL_build 60 = .ok (.iastore, 1) := by decide +kernel
theorem dL_build_61 : decode cL_build 61 = .ok (.dup, 1) := by decide +kernel
theorem dL_build_62 : decode cL_build 62 = .ok (.bipush 10, 2) := by decide +kernel
theorem dL_build_64 : decode cL_build 64 = .ok (.iconst 1, 1) := by decide +kernel
theorem dL_build_65 : decode cL_build 65 = .ok (.iastore, 1) := by decide +kernel
theorem dL_build_66 : decode cL_build 66 = .ok (.dup, 1) := by decide +kernel
theorem dL_build_67 : decode cL_build 67 = .ok (.bipush 11, 2) := by decide +kernel
theorem dL_build_69 : decode cL_build 69 = .ok (.bipush 9, 2) := by decide +kernel
theorem dL_build_71 : decode cL_build 71 = .ok (.iastore, 1) := by decide +kernel
theorem dL_build_72 : decode cL_build 72 = .ok (.astore_n 3, 1) := by decide +kernel
theorem dL_build_73 : decode cL_build 73 = .ok (.iconst 0, 1) := by decide +kernel
theorem dL_build_74 : decode cL_build 74 = .ok (.istore 4, 2) := by decide +kernel
theorem dL_build_76 : decode cL_build 76 = .ok (.iload 4, 2) := by decide +kernel
theorem dL_build_78 : decode cL_build 78 = .ok (.bipush 34, 2) := by decide +kernel
theorem dL_build_80 : decode cL_build 80 = .ok (.if_icmp .ge 102, 3) := by decide +kernel
theorem dL_build_83 : decode cL_build 83 = .ok (.aload_n 1, 1) := by decide +kernel
theorem dL_build_84 : decode cL_build 84 = .ok (.iload 4, 2) := by decide +kernel
theorem dL_build_86 : decode cL_build 86 = .ok (.bipush 16, 2) := by decide +kernel
theorem dL_build_88 : decode cL_build 88 = .ok (.irem, 1) := by decide +kernel
theorem dL_build_89 : decode cL_build 89 = .ok (.invokestatic 73, 3) := by decide +kernel
theorem dL_build_92 : decode cL_build 92 = .ok (.iload 4, 2) := by decide +kernel
theorem dL_build_94 : decode cL_build 94 = .ok (.bipush 16, 2) := by decide +kernel
theorem dL_build_96 : decode cL_build 96 = .ok (.idiv, 1) := by decide +kernel
theorem dL_build_97 : decode cL_build 97 = .ok (.iconst 5, 1) := by decide +kernel
theorem dL_build_98 : decode cL_build 98 = .ok (.imul, 1) := by decide +kernel
theorem dL_build_99 : decode cL_build 99 = .ok (.ishr, 1) := by decide +kernel
theorem dL_build_100 : decode cL_build 100 = .ok (.bipush 61, 2) := by decide +kernel
theorem dL_build_102 : decode cL_build 102 = .ok (.iload 4, 2) := by decide +kernel
theorem dL_build_104 : decode cL_build 104 = .ok (.imul, 1) := by decide +kernel
theorem dL_build_105 : decode cL_build 105 = .ok (.iadd, 1) := by decide +kernel
theorem dL_build_106 : decode cL_build 106 = .ok (.istore 5, 2) := by decide +kernel
theorem dL_build_108 : decode cL_build 108 = .ok (.iload 4, 2) := by decide +kernel
theorem dL_build_110 : decode cL_build 110 = .ok (.bipush 12, 2) := by decide +kernel
theorem dL_build_112 : decode cL_build 112 = .ok (.if_icmp .ge 20, 3) := by decide +kernel
theorem dL_build_115 : decode cL_build 115 = .ok (.iload 5, 2) := by decide +kernel
theorem dL_build_117 : decode cL_build 117 = .ok (.ldc 77, 2) := by decide +kernel
theorem dL_build_119 : decode cL_build 119 = .ok (.invokestatic 9, 3) := by decide +kernel
theorem dL_build_122 : decode cL_build 122 = .ok (.bipush 12, 2) := by decide +kernel
theorem dL_build_124 : decode cL_build 124 = .ok (.imul, 1) := by decide +kernel
theorem dL_build_125 : decode cL_build 125 = .ok (.aload_n 3, 1) := by decide +kernel
theorem dL_build_126 : decode cL_build 126 = .ok (.iload 4, 2) := by decide +kernel
theorem dL_build_128 : decode cL_build 128 = .ok (.iaload, 1) := by decide +kernel
theorem dL_build_129 : decode cL_build 129 = .ok (.iadd, 1) := by decide +kernel
theorem dL_build_130 : decode cL_build 130 = .ok (.istore 5, 2) := by decide +kernel
theorem dL_build_132 : decode cL_build 132 = .ok (.aload_n 0, 1) := by decide +kernel
theorem dL_build_133 : decode cL_build 133 = .ok (.aload_n 2, 1) := by decide +kernel
theorem dL_build_134 : decode cL_build 134 = .ok (.iload 5, 2) := by decide +kernel
theorem dL_build_136 : decode cL_build 136 = .ok (.invokestatic 78, 3) := by decide +kernel
theorem dL_build_139 : decode cL_build 139 = .ok (.ifCond .ne 5, 3) := by decide +kernel
theorem dL_build_142 : decode cL_build 142 = .ok (.aconst_null, 1) := by decide +kernel
theorem dL_build_143 : decode cL_build 143 = .ok (.areturn, 1) := by decide +kernel
theorem dL_build_144 : decode cL_build 144 = .ok (.iload 4, 2) := by decide +kernel
theorem dL_build_146 : decode cL_build 146 = .ok (.bipush 11, 2) := by decide +kernel
theorem dL_build_148 : decode cL_build 148 = .ok (.if_icmp .le 28, 3) := by decide +kernel
theorem dL_build_151 : decode cL_build 151 = .ok (.iload 5, 2) := by decide +kernel
theorem dL_build_153 : decode cL_build 153 = .ok (.iconst 5, 1) := by decide +kernel
theorem dL_build_154 : decode cL_build 154 = .ok (.ishr, 1) := by decide +kernel
theorem dL_build_155 : decode cL_build 155 = .ok (.iconst 2, 1) := by decide +kernel
theorem dL_build_156 : decode cL_build 156 = .ok (.invokestatic 9, 3) := by decide +kernel
theorem dL_build_159 : decode cL_build 159 = .ok (.ifCond .ne 17, 3) := by decide +kernel
theorem dL_build_162 : decode cL_build 162 = .ok (.aload_n 0, 1) := by decide +kernel
theorem dL_build_163 : decode cL_build 163 = .ok (.iconst 1, 1) := by decide +kernel
theorem dL_build_164 : decode cL_build 164 = .ok (.invokevirtual 82, 3) := by decide +kernel
theorem dL_build_167 : decode cL_build 167 = .ok (.aload_n 2, 1) := by decide +kernel
theorem dL_build_168 : decode cL_build 168 = .ok (.invokevirtual 86, 3) := by decide +kernel
theorem dL_build_171 : decode cL_build 171 = .ok (.if_icmp .eq 5, 3) := by decide +kernel
theorem dL_build_174 : decode cL_build 174 = .ok (.aconst_null, 1) := by decide +kernel
theorem dL_build_175 : decode cL_build 175 = .ok (.areturn, 1) := by decide +kernel
theorem dL_build_176 : decode cL_build 176 = .ok (.iinc 4 1, 3) := by decide +kernel
theorem dL_build_179 : decode cL_build 179 = .ok (.goto (-103), 3) := by decide +kernel
theorem dL_build_182 : decode cL_build 182 = .ok (.aload_n 2, 1) := by decide +kernel
theorem dL_build_183 : decode cL_build 183 = .ok (.areturn, 1) := by decide +kernel
