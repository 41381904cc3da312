theorem dX12_once_29 : decode prog_14_method_10_code 29 = .ok (.aload_n 0, 1) := by decide +kernel
theorem dX12_once_30 : decode prog_14_method_10_code 30 = .ok (.iload_n 1, 1) := by decide +kernel
theorem dX12_once_31 : decode prog_14_method_10_code 31 = .ok (.putfield 7, 3) := by decide +kernel
theorem dX12_once_34 : decode prog_14_method_10_code 34 = .ok (.aload_n 0, 1) := by decide +kernel
theorem dX12_once_35 : decode prog_14_method_10_code 35 = .ok (.iload_n 1, 1) := by decide +kernel
theorem dX12_once_36 : decode prog_14_method_10_code 36 = .ok (.invokevirtual 92, 3) := by decide +kernel
theorem dX12_once_39 : decode prog_14_method_10_code 39 = .ok (.istore 4, 2) := by decide +kernel
theorem dX12_once_41 : decode prog_14_method_10_code 41 = .ok (.aload_n 0, 1) := by decide +kernel
theorem dX12_once_42 : decode prog_14_method_10_code 42 = .ok (.dup, 1) := by decide +kernel
theorem dX12_once_43 : decode prog_14_method_10_code 43 = .ok (.getfield 44, 3) := by decide +kernel
theorem dX12_once_46 : decode prog_14_method_10_code 46 = .ok (.aload_n 3, 1) := by decide +kernel
theorem dX12_once_47 : decode prog_14_method_10_code 47 = .ok (.iconst 1, 1) := by decide +kernel
theorem dX12_once_48 : decode prog_14_method_10_code 48 = .ok (.iaload, 1) := by decide +kernel
theorem dX12_once_49 : decode prog_14_method_10_code 49 = .ok (.iadd, 1) := by decide +kernel
theorem dX12_once_50 : decode prog_14_method_10_code 50 = .ok (.putfield 44, 3) := by decide +kernel
theorem dX12_once_53 : decode prog_14_method_10_code 53 = .ok (.aload_n 0, 1) := by decide +kernel
theorem dX12_once_54 : decode prog_14_method_10_code 54 = .ok (.dup, 1) := by decide +kernel
theorem dX12_once_55 : decode prog_14_method_10_code 55 = .ok (.getfield 50, 3) := by decide +kernel
theorem dX12_once_58 : decode prog_14_method_10_code 58 = .ok (.aload_n 3, 1) := by decide +kernel
theorem dX12_once_59 : decode prog_14_method_10_code 59 = .ok (.iconst 2, 1) := by decide +kernel
theorem dX12_once_60 : decode prog_14_method_10_code 60 = .ok (.iaload, 1) := by decide +kernel
theorem dX12_once_61 : decode prog_14_method_10_code 61 = .ok (.isub, 1) := by decide +kernel
theorem dX12_once_62 : decode prog_14_method_10_code 62 = .ok (.putfield 50, 3) := by decide +kernel
theorem dX12_once_65 : decode prog_14_method_10_code 65 = .ok (.aload_n 3, 1) := by decide +kernel
theorem dX12_once_66 : decode prog_14_method_10_code 66 = .ok (.iconst 4, 1) := by decide +kernel
theorem dX12_once_67 : decode prog_14_method_10_code 67 = .ok (.dup2, 1) := by decide +kernel
theorem dX12_once_68 : decode prog_14_method_10_code 68 = .ok (.iaload, 1) := by decide +kernel
theorem dX12_once_69 : decode prog_14_method_10_code 69 = .ok (.iconst 1, 1) := by decide +kernel
theorem dX12_once_70 : decode prog_14_method_10_code 70 = .ok (.iadd, 1) := by decide +kernel
theorem dX12_once_71 : decode prog_14_method_10_code 71 = .ok (.iastore, 1) := by decide +kernel
theorem dX12_once_72 : decode prog_14_method_10_code 72 = .ok (.aload_n 3, 1) := by decide +kernel
theorem dX12_once_73 : decode prog_14_method_10_code 73 = .ok (.iconst 3, 1) := by decide +kernel
theorem dX12_once_74 : decode prog_14_method_10_code 74 = .ok (.bipush 99, 2) := by decide +kernel
theorem dX12_once_76 : decode prog_14_method_10_code 76 = .ok (.aload_n 3, 1) := by decide +kernel
theorem dX12_once_77 : decode prog_14_method_10_code 77 = .ok (.iconst 3, 1) := by decide +kernel
theorem dX12_once_78 : decode prog_14_method_10_code 78 = .ok (.iaload, 1) := by decide +kernel
theorem dX12_once_79 : decode prog_14_method_10_code 79 = .ok (.iload 4, 2) := by decide +kernel
theorem dX12_once_81 : decode prog_14_method_10_code 81 = .ok (.iadd, 1) := by decide +kernel
theorem dX12_once_82 : decode prog_14_method_10_code 82 = .ok (.invokestatic 96, 3) := by decide +kernel
theorem dX12_once_85 : decode prog_14_method_10_code 85 = .ok (.iastore, 1) := by decide +kernel
theorem dX12_once_86 : decode prog_14_method_10_code 86 = .ok (.bipush 12, 2) := by decide +kernel
theorem dX12_once_88 : decode prog_14_method_10_code 88 = .ok (.newarray .int, 2) := by decide +kernel
theorem dX12_once_90 : decode prog_14_method_10_code 90 = .ok (.astore 5, 2) := by decide +kernel
theorem dX12_once_92 : decode prog_14_method_10_code 92 = .ok (.iconst 0, 1) := by decide +kernel
theorem dX12_once_93 : decode prog_14_method_10_code 93 = .ok (.istore 6, 2) := by decide +kernel
theorem dX12_once_95 : decode prog_14_method_10_code 95 = .ok (.iload 6, 2) := by decide +kernel
theorem dX12_once_97 : decode prog_14_method_10_code 97 = .ok (.aload_n 0, 1) := by decide +kernel
theorem dX12_once_98 : decode prog_14_method_10_code 98 = .ok (.getfield 59, 3) := by decide +kernel
theorem dX12_once_101 : decode prog_14_method_10_code 101 = .ok (.if_icmp .ge 44, 3) := by decide +kernel
theorem dX12_once_104 : decode prog_14_method_10_code 104 = .ok (.aload_n 0, 1) := by decide +kernel
theorem dX12_once_105 : decode prog_14_method_10_code 105 = .ok (.getfield 21, 3) := by decide +kernel
theorem dX12_once_108 : decode prog_14_method_10_code 108 = .ok (.iload 6, 2) := by decide +kernel
theorem dX12_once_110 : decode prog_14_method_10_code 110 = .ok (.aaload, 1) := by decide +kernel
theorem dX12_once_111 : decode prog_14_method_10_code 111 = .ok (.iconst 3, 1) := by decide +kernel
theorem dX12_once_112 : decode prog_14_method_10_code 112 = .ok (.iaload, 1) := by decide +kernel
theorem dX12_once_113 : decode prog_14_method_10_code 113 = .ok (.iconst 1, 1) := by decide +kernel
theorem dX12_once_114 : decode prog_14_method_10_code 114 = .ok (.if_icmp .ne 25, 3) := by decide +kernel
theorem dX12_once_117 : decode prog_14_method_10_code 117 = .ok (.aload 5, 2) := by decide +kernel
theorem dX12_once_119 : decode prog_14_method_10_code 119 = .ok (.iload 6, 2) := by decide +kernel
theorem dX12_once_121 : decode prog_14_method_10_code 121 = .ok (.iload_n 2, 1) := by decide +kernel
theorem dX12_once_122 : decode prog_14_method_10_code 122 = .ok (.ifCond .eq 13, 3) := by decide +kernel
theorem dX12_once_125 : decode prog_14_method_10_code 125 = .ok (.aload_n 0, 1) := by decide +kernel
theorem dX12_once_126 : decode prog_14_method_10_code 126 = .ok (.sipush 1000, 3) := by decide +kernel
theorem dX12_once_129 : decode prog_14_method_10_code 129 = .ok (.invokevirtual 102, 3) := by decide +kernel
theorem dX12_once_132 : decode prog_14_method_10_code 132 = .ok (.goto 6, 3) := by decide +kernel
theorem dX12_once_135 : decode prog_14_method_10_code 135 = .ok (.sipush 500, 3) := by decide +kernel
theorem dX12_once_138 : decode prog_14_method_10_code 138 = .ok (.iastore, 1) := by decide +kernel
theorem dX12_once_139 : decode prog_14_method_10_code 139 = .ok (.iinc 6 1, 3) := by decide +kernel
theorem dX12_once_142 : decode prog_14_method_10_code 142 = .ok (.goto (-47), 3) := by decide +kernel
theorem dX12_once_145 : decode prog_14_method_10_code 145 = .ok (.aload_n 0, 1) := by decide +kernel
theorem dX12_once_146 : decode prog_14_method_10_code 146 = .ok (.iconst 0, 1) := by decide +kernel
theorem dX12_once_147 : decode prog_14_method_10_code 147 = .ok (.putfield 105, 3) := by decide +kernel
theorem dX12_once_150 : decode prog_14_method_10_code 150 = .ok (.aload_n 0, 1) := by decide +kernel
theorem dX12_once_151 : decode prog_14_method_10_code 151 = .ok (.iconst 0, 1) := by decide +kernel
theorem dX12_once_152 : decode prog_14_method_10_code 152 = .ok (.putfield 108, 3) := by decide +kernel
theorem dX12_once_155 : decode prog_14_method_10_code 155 = .ok (.iconst 1, 1) := by decide +kernel
theorem dX12_once_156 : decode prog_14_method_10_code 156 = .ok (.istore 6, 2) := by decide +kernel
theorem dX12_once_158 : decode prog_14_method_10_code 158 = .ok (.iload 6, 2) := by decide +kernel
theorem dX12_once_160 : decode prog_14_method_10_code 160 = .ok (.ifCond .eq 129, 3) := by decide +kernel
theorem dX12_once_163 : decode prog_14_method_10_code 163 = .ok (.iconst 0, 1) := by decide +kernel
theorem dX12_once_164 : decode prog_14_method_10_code 164 = .ok (.istore 6, 2) := by decide +kernel
theorem dX12_once_166 : decode prog_14_method_10_code 166 = .ok (.iconst 0, 1) := by decide +kernel
theorem dX12_once_167 : decode prog_14_method_10_code 167 = .ok (.istore 7, 2) := by decide +kernel
theorem dX12_once_169 : decode prog_14_method_10_code 169 = .ok (.iload 7, 2) := by decide +kernel
theorem dX12_once_171 : decode prog_14_method_10_code 171 = .ok (.aload_n 0, 1) := by decide +kernel
theorem dX12_once_172 : decode prog_14_method_10_code 172 = .ok (.getfield 59, 3) := by decide +kernel
theorem dX12_once_175 : decode prog_14_method_10_code 175 = .ok (.if_icmp .ge 96, 3) := by decide +kernel
theorem dX12_once_178 : decode prog_14_method_10_code 178 = .ok (.aload_n 0, 1) := by decide +kernel
theorem dX12_once_179 : decode prog_14_method_10_code 179 = .ok (.getfield 21, 3) := by decide +kernel
theorem dX12_once_182 : decode prog_14_method_10_code 182 = .ok (.iload 7, 2) := by decide +kernel
theorem dX12_once_184 : decode prog_14_method_10_code 184 = .ok (.aaload, 1) := by decide +kernel
theorem dX12_once_185 : decode prog_14_method_10_code 185 = .ok (.iconst 3, 1) := by decide +kernel
theorem dX12_once_186 : decode prog_14_method_10_code 186 = .ok (.iaload, 1) := by decide +kernel
theorem dX12_once_187 : decode prog_14_method_10_code 187 = .ok (.ifCond .eq 78, 3) := by decide +kernel
theorem dX12_once_190 : decode prog_14_method_10_code 190 = .ok (.aload_n 0, 1) := by decide +kernel
theorem dX12_once_191 : decode prog_14_method_10_code 191 = .ok (.getfield 21, 3) := by decide +kernel
theorem dX12_once_194 : decode prog_14_method_10_code 194 = .ok (.iload 7, 2) := by decide +kernel
theorem dX12_once_196 : decode prog_14_method_10_code 196 = .ok (.aaload, 1) := by decide +kernel
theorem dX12_once_197 : decode prog_14_method_10_code 197 = .ok (.iconst 4, 1) := by decide +kernel
theorem dX12_once_198 : decode prog_14_method_10_code 198 = .ok (.iaload, 1) := by decide +kernel
theorem dX12_once_199 : decode prog_14_method_10_code 199 = .ok (.iconst 1, 1) := by decide +kernel
theorem dX12_once_200 : decode prog_14_method_10_code 200 = .ok (.if_icmp .eq 65, 3) := by decide +kernel
theorem dX12_once_203 : decode prog_14_method_10_code 203 = .ok (.aload_n 0, 1) := by decide +kernel
theorem dX12_once_204 : decode prog_14_method_10_code 204 = .ok (.getfield 105, 3) := by decide +kernel
theorem dX12_once_207 : decode prog_14_method_10_code 207 = .ok (.iload 7, 2) := by decide +kernel
theorem dX12_once_209 : decode prog_14_method_10_code 209 = .ok (.ishr, 1) := by decide +kernel
theorem dX12_once_210 : decode prog_14_method_10_code 210 = .ok (.iconst 1, 1) := by decide +kernel
theorem dX12_once_211 : decode prog_14_method_10_code 211 = .ok (.iand, 1) := by decide +kernel
theorem dX12_once_212 : decode prog_14_method_10_code 212 = .ok (.iconst 1, 1) := by decide +kernel
theorem dX12_once_213 : decode prog_14_method_10_code 213 = .ok (.if_icmp .eq 52, 3) := by decide +kernel
theorem dX12_once_216 : decode prog_14_method_10_code 216 = .ok (.aload 5, 2) := by decide +kernel
theorem dX12_once_218 : decode prog_14_method_10_code 218 = .ok (.iload 7, 2) := by decide +kernel
theorem dX12_once_220 : decode prog_14_method_10_code 220 = .ok (.iaload, 1) := by decide +kernel
theorem dX12_once_221 : decode prog_14_method_10_code 221 = .ok (.aload_n 0, 1) := by decide +kernel
theorem dX12_once_222 : decode prog_14_method_10_code 222 = .ok (.iload 7, 2) := by decide +kernel
theorem dX12_once_224 : decode prog_14_method_10_code 224 = .ok (.iload_n 1, 1) := by decide +kernel
theorem dX12_once_225 : decode prog_14_method_10_code 225 = .ok (.aload_n 0, 1) := by decide +kernel
theorem dX12_once_226 : decode prog_14_method_10_code 226 = .ok (.getfield 37, 3) := by decide +kernel
theorem dX12_once_229 : decode prog_14_method_10_code 229 = .ok (.iload 7, 2) := by decide +kernel
theorem dX12_once_231 : decode prog_14_method_10_code 231 = .ok (.iaload, 1) := by decide +kernel
theorem dX12_once_232 : decode prog_14_method_10_code 232 = .ok (.aload_n 0, 1) := by decide +kernel
theorem dX12_once_233 : decode prog_14_method_10_code 233 = .ok (.getfield 105, 3) := by decide +kernel
theorem dX12_once_236 : decode prog_14_method_10_code 236 = .ok (.iand, 1) := by decide +kernel
theorem dX12_once_237 : decode prog_14_method_10_code 237 = .ok (.invokestatic 111, 3) := by decide +kernel
theorem dX12_once_240 : decode prog_14_method_10_code 240 = .ok (.invokevirtual 116, 3) := by decide +kernel
theorem dX12_once_243 : decode prog_14_method_10_code 243 = .ok (.if_icmp .lt 6, 3) := by decide +kernel
theorem dX12_once_246 : decode prog_14_method_10_code 246 = .ok (.goto 19, 3) := by decide +kernel
theorem dX12_once_249 : decode prog_14_method_10_code 249 = .ok (.aload_n 0, 1) := by decide +kernel
theorem dX12_once_250 : decode prog_14_method_10_code 250 = .ok (.dup, 1) := by decide +kernel
theorem dX12_once_251 : decode prog_14_method_10_code 251 = .ok (.getfield 105, 3) := by decide +kernel
theorem dX12_once_254 : decode prog_14_method_10_code 254 = .ok (.iconst 1, 1) := by decide +kernel
theorem dX12_once_255 : decode prog_14_method_10_code 255 = .ok (.iload 7, 2) := by decide +kernel
theorem dX12_once_257 : decode prog_14_method_10_code 257 = .ok (.ishl, 1) := by decide +kernel
theorem dX12_once_258 : decode prog_14_method_10_code 258 = .ok (.ior, 1) := by decide +kernel
theorem dX12_once_259 : decode prog_14_method_10_code 259 = .ok (.putfield 105, 3) := by decide +kernel
theorem dX12_once_262 : decode prog_14_method_10_code 262 = .ok (.iconst 1, 1) := by decide +kernel
theorem dX12_once_263 : decode prog_14_method_10_code 263 = .ok (.istore 6, 2) := by decide +kernel
theorem dX12_once_265 : decode prog_14_method_10_code 265 = .ok (.iinc 7 1, 3) := by decide +kernel
theorem dX12_once_268 : decode prog_14_method_10_code 268 = .ok (.goto (-99), 3) := by decide +kernel
theorem dX12_once_271 : decode prog_14_method_10_code 271 = .ok (.iload 6, 2) := by decide +kernel
theorem dX12_once_273 : decode prog_14_method_10_code 273 = .ok (.ifCond .eq (-115), 3) := by decide +kernel
theorem dX12_once_276 : decode prog_14_method_10_code 276 = .ok (.aload_n 0, 1) := by decide +kernel
theorem dX12_once_277 : decode prog_14_method_10_code 277 = .ok (.dup, 1) := by decide +kernel
theorem dX12_once_278 : decode prog_14_method_10_code 278 = .ok (.getfield 108, 3) := by decide +kernel
theorem dX12_once_281 : decode prog_14_method_10_code 281 = .ok (.iconst 1, 1) := by decide +kernel
theorem dX12_once_282 : decode prog_14_method_10_code 282 = .ok (.iadd, 1) := by decide +kernel
theorem dX12_once_283 : decode prog_14_method_10_code 283 = .ok (.putfield 108, 3) := by decide +kernel
theorem dX12_once_286 : decode prog_14_method_10_code 286 = .ok (.goto (-128), 3) := by decide +kernel
theorem dX12_once_289 : decode prog_14_method_10_code 289 = .ok (.aload_n 0, 1) := by decide +kernel
theorem dX12_once_290 : decode prog_14_method_10_code 290 = .ok (.aload_n 0, 1) := by decide +kernel
theorem dX12_once_291 : decode prog_14_method_10_code 291 = .ok (.iload_n 1, 1) := by decide +kernel
theorem dX12_once_292 : decode prog_14_method_10_code 292 = .ok (.invokevirtual 119, 3) := by decide +kernel
theorem dX12_once_295 : decode prog_14_method_10_code 295 = .ok (.putfield 122, 3) := by decide +kernel
theorem dX12_once_298 : decode prog_14_method_10_code 298 = .ok (.iconst 0, 1) := by decide +kernel
theorem dX12_once_299 : decode prog_14_method_10_code 299 = .ok (.istore 7, 2) := by decide +kernel
theorem dX12_once_301 : decode prog_14_method_10_code 301 = .ok (.iload 7, 2) := by decide +kernel
theorem dX12_once_303 : decode prog_14_method_10_code 303 = .ok (.aload_n 0, 1) := by decide +kernel
theorem dX12_once_304 : decode prog_14_method_10_code 304 = .ok (.getfield 59, 3) := by decide +kernel
theorem dX12_once_307 : decode prog_14_method_10_code 307 = .ok (.if_icmp .ge 67, 3) := by decide +kernel
theorem dX12_once_310 : decode prog_14_method_10_code 310 = .ok (.aload_n 0, 1) := by decide +kernel
theorem dX12_once_311 : decode prog_14_method_10_code 311 = .ok (.getfield 105, 3) := by decide +kernel
theorem dX12_once_314 : decode prog_14_method_10_code 314 = .ok (.iload 7, 2) := by decide +kernel
theorem dX12_once_316 : decode prog_14_method_10_code 316 = .ok (.ishr, 1) := by decide +kernel
theorem dX12_once_317 : decode prog_14_method_10_code 317 = .ok (.iconst 1, 1) := by decide +kernel
theorem dX12_once_318 : decode prog_14_method_10_code 318 = .ok (.iand, 1) := by decide +kernel
theorem dX12_once_319 : decode prog_14_method_10_code 319 = .ok (.iconst 1, 1) := by decide +kernel
theorem dX12_once_320 : decode prog_14_method_10_code 320 = .ok (.if_icmp .ne 48, 3) := by decide +kernel
theorem dX12_once_323 : decode prog_14_method_10_code 323 = .ok (.aload_n 0, 1) := by decide +kernel
theorem dX12_once_324 : decode prog_14_method_10_code 324 = .ok (.dup, 1) := by decide +kernel
theorem dX12_once_325 : decode prog_14_method_10_code 325 = .ok (.getfield 122, 3) := by decide +kernel
theorem dX12_once_328 : decode prog_14_method_10_code 328 = .ok (.aload_n 0, 1) := by decide +kernel
theorem dX12_once_329 : decode prog_14_method_10_code 329 = .ok (.getfield 68, 3) := by decide +kernel
theorem dX12_once_332 : decode prog_14_method_10_code 332 = .ok (.iload 7, 2) := by decide +kernel
theorem dX12_once_334 : decode prog_14_method_10_code 334 = .ok (.ishr, 1) := by decide +kernel
theorem dX12_once_335 : decode prog_14_method_10_code 335 = .ok (.iconst 1, 1) := by decide +kernel
theorem dX12_once_336 : decode prog_14_method_10_code 336 = .ok (.iand, 1) := by decide +kernel
theorem dX12_once_337 : decode prog_14_method_10_code 337 = .ok (.iconst 1, 1) := by decide +kernel
theorem dX12_once_338 : decode prog_14_method_10_code 338 = .ok (.if_icmp .ne 17, 3) := by decide +kernel
theorem dX12_once_341 : decode prog_14_method_10_code 341 = .ok (.iconst 2, 1) := by decide +kernel
theorem dX12_once_342 : decode prog_14_method_10_code 342 = .ok (.aload_n 0, 1) := by decide +kernel
theorem dX12_once_343 : decode prog_14_method_10_code 343 = .ok (.getfield 21, 3) := by decide +kernel
theorem dX12_once_346 : decode prog_14_method_10_code 346 = .ok (.iload 7, 2) := by decide +kernel
theorem dX12_once_348 : decode prog_14_method_10_code 348 = .ok (.aaload, 1) := by decide +kernel
theorem dX12_once_349 : decode prog_14_method_10_code 349 = .ok (.iconst 0, 1) := by decide +kernel
theorem dX12_once_350 : decode prog_14_method_10_code 350 = .ok (.iaload, 1) := by decide +kernel
theorem dX12_once_351 : decode prog_14_method_10_code 351 = .ok (.imul, 1) := by decide +kernel
theorem dX12_once_352 : decode prog_14_method_10_code 352 = .ok (.goto 12, 3) := by decide +kernel
theorem dX12_once_355 : decode prog_14_method_10_code 355 = .ok (.aload_n 0, 1) := by decide +kernel
theorem dX12_once_356 : decode prog_14_method_10_code 356 = .ok (.getfield 21, 3) := by decide +kernel
theorem dX12_once_359 : decode prog_14_method_10_code 359 = .ok (.iload 7, 2) := by decide +kernel
theorem dX12_once_361 : decode prog_14_method_10_code 361 = .ok (.aaload, 1) := by decide +kernel
theorem dX12_once_362 : decode prog_14_method_10_code 362 = .ok (.iconst 0, 1) := by decide +kernel
theorem dX12_once_363 : decode prog_14_method_10_code 363 = .ok (.iaload, 1) := by decide +kernel
theorem dX12_once_364 : decode prog_14_method_10_code 364 = .ok (.iadd, 1) := by decide +kernel
theorem dX12_once_365 : decode prog_14_method_10_code 365 = .ok (.putfield 122, 3) := by decide +kernel
theorem dX12_once_368 : decode prog_14_method_10_code 368 = .ok (.iinc 7 1, 3) := by decide +kernel
theorem dX12_once_371 : decode prog_14_method_10_code 371 = .ok (.goto (-70), 3) := by decide +kernel
theorem dX12_once_374 : decode prog_14_method_10_code 374 = .ok (.iload_n 2, 1) := by decide +kernel
theorem dX12_once_375 : decode prog_14_method_10_code 375 = .ok (.ifCond .eq 28, 3) := by decide +kernel
theorem dX12_once_378 : decode prog_14_method_10_code 378 = .ok (.aload_n 0, 1) := by decide +kernel
theorem dX12_once_379 : decode prog_14_method_10_code 379 = .ok (.getfield 56, 3) := by decide +kernel
theorem dX12_once_382 : decode prog_14_method_10_code 382 = .ok (.ifCond .le 21, 3) := by decide +kernel
theorem dX12_once_385 : decode prog_14_method_10_code 385 = .ok (.aload_n 0, 1) := by decide +kernel
theorem dX12_once_386 : decode prog_14_method_10_code 386 = .ok (.sipush 1000, 3) := by decide +kernel
theorem dX12_once_389 : decode prog_14_method_10_code 389 = .ok (.invokevirtual 102, 3) := by decide +kernel
theorem dX12_once_392 : decode prog_14_method_10_code 392 = .ok (.aload_n 0, 1) := by decide +kernel
theorem dX12_once_393 : decode prog_14_method_10_code 393 = .ok (.getfield 56, 3) := by decide +kernel
theorem dX12_once_396 : decode prog_14_method_10_code 396 = .ok (.if_icmp .ge 7, 3) := by decide +kernel
theorem dX12_once_399 : decode prog_14_method_10_code 399 = .ok (.iconst 1, 1) := by decide +kernel
theorem dX12_once_400 : decode prog_14_method_10_code 400 = .ok (.goto 4, 3) := by decide +kernel
theorem dX12_once_403 : decode prog_14_method_10_code 403 = .ok (.iconst 0, 1) := by decide +kernel
theorem dX12_once_404 : decode prog_14_method_10_code 404 = .ok (.istore 7, 2) := by decide +kernel
theorem dX12_once_406 : decode prog_14_method_10_code 406 = .ok (.iload 7, 2) := by decide +kernel
theorem dX12_once_408 : decode prog_14_method_10_code 408 = .ok (.ifCond .eq 16, 3) := by decide +kernel
theorem dX12_once_411 : decode prog_14_method_10_code 411 = .ok (.aload_n 0, 1) := by decide +kernel
theorem dX12_once_412 : decode prog_14_method_10_code 412 = .ok (.iconst 0, 1) := by decide +kernel
theorem dX12_once_413 : decode prog_14_method_10_code 413 = .ok (.putfield 122, 3) := by decide +kernel
theorem dX12_once_416 : decode prog_14_method_10_code 416 = .ok (.aload_n 0, 1) := by decide +kernel
theorem dX12_once_417 : decode prog_14_method_10_code 417 = .ok (.iconst 2, 1) := by decide +kernel
theorem dX12_once_418 : decode prog_14_method_10_code 418 = .ok (.iload_n 1, 1) := by decide +kernel
theorem dX12_once_419 : decode prog_14_method_10_code 419 = .ok (.iconst 0, 1) := by decide +kernel
theorem dX12_once_420 : decode prog_14_method_10_code 420 = .ok (.iconst 1, 1) := by decide +kernel
theorem dX12_once_421 : decode prog_14_method_10_code 421 = .ok (.invokevirtual 125, 3) := by decide +kernel
theorem dX12_once_424 : decode prog_14_method_10_code 424 = .ok (.aload_n 0, 1) := by decide +kernel
theorem dX12_once_425 : decode prog_14_method_10_code 425 = .ok (.aload_n 0, 1) := by decide +kernel
theorem dX12_once_426 : decode prog_14_method_10_code 426 = .ok (.getfield 53, 3) := by decide +kernel
theorem dX12_once_429 : decode prog_14_method_10_code 429 = .ok (.ifCond .le 7, 3) := by decide +kernel
theorem dX12_once_432 : decode prog_14_method_10_code 432 = .ok (.iconst 1, 1) := by decide +kernel
theorem dX12_once_433 : decode prog_14_method_10_code 433 = .ok (.goto 4, 3) := by decide +kernel
theorem dX12_once_436 : decode prog_14_method_10_code 436 = .ok (.iconst 0, 1) := by decide +kernel
theorem dX12_once_437 : decode prog_14_method_10_code 437 = .ok (.iload_n 1, 1) := by decide +kernel
theorem dX12_once_438 : decode prog_14_method_10_code 438 = .ok (.aload_n 0, 1) := by decide +kernel
theorem dX12_once_439 : decode prog_14_method_10_code 439 = .ok (.getfield 122, 3) := by decide +kernel
theorem dX12_once_442 : decode prog_14_method_10_code 442 = .ok (.iload_n 2, 1) := by decide +kernel
theorem dX12_once_443 : decode prog_14_method_10_code 443 = .ok (.invokevirtual 125, 3) := by decide +kernel
theorem dX12_once_446 : decode prog_14_method_10_code 446 = .ok (.iload 7, 2) := by decide +kernel
theorem dX12_once_448 : decode prog_14_method_10_code 448 = .ok (.ifCond .ne 40, 3) := by decide +kernel
theorem dX12_once_451 : decode prog_14_method_10_code 451 = .ok (.aload_n 0, 1) := by decide +kernel
theorem dX12_once_452 : decode prog_14_method_10_code 452 = .ok (.getfield 122, 3) := by decide +kernel
theorem dX12_once_455 : decode prog_14_method_10_code 455 = .ok (.aload_n 0, 1) := by decide +kernel
theorem dX12_once_456 : decode prog_14_method_10_code 456 = .ok (.invokevirtual 129, 3) := by decide +kernel
theorem dX12_once_459 : decode prog_14_method_10_code 459 = .ok (.if_icmp .lt 29, 3) := by decide +kernel
theorem dX12_once_462 : decode prog_14_method_10_code 462 = .ok (.aload_n 0, 1) := by decide +kernel
theorem dX12_once_463 : decode prog_14_method_10_code 463 = .ok (.getfield 53, 3) := by decide +kernel
theorem dX12_once_466 : decode prog_14_method_10_code 466 = .ok (.aload_n 0, 1) := by decide +kernel
theorem dX12_once_467 : decode prog_14_method_10_code 467 = .ok (.getfield 13, 3) := by decide +kernel
theorem dX12_once_470 : decode prog_14_method_10_code 470 = .ok (.if_icmp .ge 18, 3) := by decide +kernel
theorem dX12_once_473 : decode prog_14_method_10_code 473 = .ok (.aload_n 0, 1) := by decide +kernel
theorem dX12_once_474 : decode prog_14_method_10_code 474 = .ok (.getfield 44, 3) := by decide +kernel
theorem dX12_once_477 : decode prog_14_method_10_code 477 = .ok (.aload_n 0, 1) := by decide +kernel
theorem dX12_once_478 : decode prog_14_method_10_code 478 = .ok (.getfield 16, 3) := by decide +kernel
theorem dX12_once_481 : decode prog_14_method_10_code 481 = .ok (.if_icmp .ge 7, 3) := by decide +kernel
theorem dX12_once_484 : decode prog_14_method_10_code 484 = .ok (.iconst 1, 1) := by decide +kernel
theorem dX12_once_485 : decode prog_14_method_10_code 485 = .ok (.goto 4, 3) := by decide +kernel
theorem dX12_once_488 : decode prog_14_method_10_code 488 = .ok (.iconst 0, 1) := by decide +kernel
theorem dX12_once_489 : decode prog_14_method_10_code 489 = .ok (.ireturn, 1) := by decide +kernel
theorem dX12_does_0 : decode prog_14_method_11_code 0 = .ok (.iconst 1, 1) := by decide +kernel
theorem dX12_does_1 : decode prog_14_method_11_code 1 = .ok (.istore_n 3, 1) := by decide +kernel
theorem dX12_does_2 : decode prog_14_method_11_code 2 = .ok (.aload_n 0, 1) := by decide +kernel
theorem dX12_does_3 : decode prog_14_method_11_code 3 = .ok (.iload_n 1, 1) := by decide +kernel
theorem dX12_does_4 : decode prog_14_method_11_code 4 = .ok (.iload_n 2, 1) := by decide +kernel
theorem dX12_does_5 : decode prog_14_method_11_code 5 = .ok (.invokevirtual 133, 3) := by decide +kernel
theorem dX12_does_8 : decode prog_14_method_11_code 8 = .ok (.ifCond .eq 9, 3) := by decide +kernel
theorem dX12_does_11 : decode prog_14_method_11_code 11 = .ok (.iinc 3 1, 3) := by decide +kernel
theorem dX12_does_14 : decode prog_14_method_11_code 14 = .ok (.goto (-12), 3) := by decide +kernel
theorem dX12_does_17 : decode prog_14_method_11_code 17 = .ok (.iload_n 3, 1) := by decide +kernel
theorem dX12_does_18 : decode prog_14_method_11_code 18 = .ok (.ireturn, 1) := by decide +kernel
theorem dX12_passes_0 : decode prog_14_method_12_code 0 = .ok (.aload_n 0, 1) := by decide +kernel
theorem dX12_passes_1 : decode prog_14_method_12_code 1 = .ok (.iconst 0, 1) := by decide +kernel
theorem dX12_passes_2 : decode prog_14_method_12_code 2 = .ok (.putfield 44, 3) := by decide +kernel
theorem dX12_passes_5 : decode prog_14_method_12_code 5 = .ok (.aload_n 0, 1) := by decide +kernel
theorem dX12_passes_6 : decode prog_14_method_12_code 6 = .ok (.iconst (-1), 1) := by decide +kernel
theorem dX12_passes_7 : decode prog_14_method_12_code 7 = .ok (.putfield 7, 3) := by decide +kernel
theorem dX12_passes_10 : decode prog_14_method_12_code 10 = .ok (.aload_n 0, 1) := by decide +kernel
theorem dX12_passes_11 : decode prog_14_method_12_code 11 = .ok (.iconst 0, 1) := by decide +kernel
theorem dX12_passes_12 : decode prog_14_method_12_code 12 = .ok (.putfield 53, 3) := by decide +kernel
theorem dX12_passes_15 : decode prog_14_method_12_code 15 = .ok (.iconst 0, 1) := by decide +kernel
theorem dX12_passes_16 : decode prog_14_method_12_code 16 = .ok (.istore_n 2, 1) := by decide +kernel
theorem dX12_passes_17 : decode prog_14_method_12_code 17 = .ok (.aload_n 0, 1) := by decide +kernel
theorem dX12_passes_18 : decode prog_14_method_12_code 18 = .ok (.getfield 34, 3) := by decide +kernel
theorem dX12_passes_21 : decode prog_14_method_12_code 21 = .ok (.astore_n 3, 1) := by decide +kernel
theorem dX12_passes_22 : decode prog_14_method_12_code 22 = .ok (.aload_n 3, 1) := by decide +kernel
theorem dX12_passes_23 : decode prog_14_method_12_code 23 = .ok (.arraylength, 1) := by decide +kernel
theorem dX12_passes_24 : decode prog_14_method_12_code 24 = .ok (.istore 4, 2) := by decide +kernel
theorem dX12_passes_26 : decode prog_14_method_12_code 26 = .ok (.iconst 0, 1) := by decide +kernel
theorem dX12_passes_27 : decode prog_14_method_12_code 27 = .ok (.istore 5, 2) := by decide +kernel
theorem dX12_passes_29 : decode prog_14_method_12_code 29 = .ok (.iload 5, 2) := by decide +kernel
theorem dX12_passes_31 : decode prog_14_method_12_code 31 = .ok (.iload 4, 2) := by decide +kernel
theorem dX12_passes_33 : decode prog_14_method_12_code 33 = .ok (.if_icmp .ge 57, 3) := by decide +kernel
theorem dX12_passes_36 : decode prog_14_method_12_code 36 = .ok (.aload_n 3, 1) := by decide +kernel
theorem dX12_passes_37 : decode prog_14_method_12_code 37 = .ok (.iload 5, 2) := by decide +kernel
theorem dX12_passes_39 : decode prog_14_method_12_code 39 = .ok (.aaload, 1) := by decide +kernel
theorem dX12_passes_40 : decode prog_14_method_12_code 40 = .ok (.astore 6, 2) := by decide +kernel
theorem dX12_passes_42 : decode prog_14_method_12_code 42 = .ok (.aload 6, 2) := by decide +kernel
theorem dX12_passes_44 : decode prog_14_method_12_code 44 = .ok (.iconst 0, 1) := by decide +kernel
theorem dX12_passes_45 : decode prog_14_method_12_code 45 = .ok (.iaload, 1) := by decide +kernel
theorem dX12_passes_46 : decode prog_14_method_12_code 46 = .ok (.aload_n 0, 1) := by decide +kernel
theorem dX12_passes_47 : decode prog_14_method_12_code 47 = .ok (.getfield 44, 3) := by decide +kernel
theorem dX12_passes_50 : decode prog_14_method_12_code 50 = .ok (.if_icmp .le 11, 3) := by decide +kernel
theorem dX12_passes_53 : decode prog_14_method_12_code 53 = .ok (.aload_n 0, 1) := by decide +kernel
theorem dX12_passes_54 : decode prog_14_method_12_code 54 = .ok (.aload 6, 2) := by decide +kernel
theorem dX12_passes_56 : decode prog_14_method_12_code 56 = .ok (.iconst 0, 1) := by decide +kernel
theorem dX12_passes_57 : decode prog_14_method_12_code 57 = .ok (.iaload, 1) := by decide +kernel
theorem dX12_passes_58 : decode prog_14_method_12_code 58 = .ok (.putfield 44, 3) := by decide +kernel
theorem dX12_passes_61 : decode prog_14_method_12_code 61 = .ok (.aload_n 0, 1) := by decide +kernel
theorem dX12_passes_62 : decode prog_14_method_12_code 62 = .ok (.getfield 44, 3) := by decide +kernel
theorem dX12_passes_65 : decode prog_14_method_12_code 65 = .ok (.aload_n 0, 1) := by decide +kernel
theorem dX12_passes_66 : decode prog_14_method_12_code 66 = .ok (.getfield 16, 3) := by decide +kernel
theorem dX12_passes_69 : decode prog_14_method_12_code 69 = .ok (.if_icmp .ge 15, 3) := by decide +kernel
theorem dX12_passes_72 : decode prog_14_method_12_code 72 = .ok (.iload_n 2, 1) := by decide +kernel
theorem dX12_passes_73 : decode prog_14_method_12_code 73 = .ok (.aload_n 0, 1) := by decide +kernel
theorem dX12_passes_74 : decode prog_14_method_12_code 74 = .ok (.aload 6, 2) := by decide +kernel
theorem dX12_passes_76 : decode prog_14_method_12_code 76 = .ok (.iconst 1, 1) := by decide +kernel
theorem dX12_passes_77 : decode prog_14_method_12_code 77 = .ok (.iaload, 1) := by decide +kernel
theorem dX12_passes_78 : decode prog_14_method_12_code 78 = .ok (.iload_n 1, 1) := by decide +kernel
theorem dX12_passes_79 : decode prog_14_method_12_code 79 = .ok (.invokevirtual 137, 3) := by decide +kernel
theorem dX12_passes_82 : decode prog_14_method_12_code 82 = .ok (.iadd, 1) := by decide +kernel
theorem dX12_passes_83 : decode prog_14_method_12_code 83 = .ok (.istore_n 2, 1) := by decide +kernel
theorem dX12_passes_84 : decode prog_14_method_12_code 84 = .ok (.iinc 5 1, 3) := by decide +kernel
theorem dX12_passes_87 : decode prog_14_method_12_code 87 = .ok (.goto (-58), 3) := by decide +kernel
theorem dX12_passes_90 : decode prog_14_method_12_code 90 = .ok (.aload_n 0, 1) := by decide +kernel
theorem dX12_passes_91 : decode prog_14_method_12_code 91 = .ok (.dup, 1) := by decide +kernel
theorem dX12_passes_92 : decode prog_14_method_12_code 92 = .ok (.getfield 47, 3) := by decide +kernel
theorem dX12_passes_95 : decode prog_14_method_12_code 95 = .ok (.iconst 1, 1) := by decide +kernel
theorem dX12_passes_96 : decode prog_14_method_12_code 96 = .ok (.iadd, 1) := by decide +kernel
theorem dX12_passes_97 : decode prog_14_method_12_code 97 = .ok (.putfield 47, 3) := by decide +kernel
theorem dX12_passes_100 : decode prog_14_method_12_code 100 = .ok (.iload_n 2, 1) := by decide +kernel
theorem dX12_passes_101 : decode prog_14_method_12_code 101 = .ok (.ireturn, 1) := by decide +kernel
theorem dX12_isSame_0 : decode prog_14_method_13_code 0 = .ok (.iconst 0, 1) := by decide +kernel
theorem dX12_isSame_1 : decode prog_14_method_13_code 1 = .ok (.istore_n 2, 1) := by decide +kernel
theorem dX12_isSame_2 : decode prog_14_method_13_code 2 = .ok (.iload_n 2, 1) := by decide +kernel
theorem dX12_isSame_3 : decode prog_14_method_13_code 3 = .ok (.aload_n 0, 1) := by decide +kernel
theorem dX12_isSame_4 : decode prog_14_method_13_code 4 = .ok (.getfield 59, 3) := by decide +kernel
theorem dX12_isSame_7 : decode prog_14_method_13_code 7 = .ok (.if_icmp .ge 144, 3) := by decide +kernel
theorem dX12_isSame_10 : decode prog_14_method_13_code 10 = .ok (.iconst 0, 1) := by decide +kernel
theorem dX12_isSame_11 : decode prog_14_method_13_code 11 = .ok (.istore_n 3, 1) := by decide +kernel
theorem dX12_isSame_12 : decode prog_14_method_13_code 12 = .ok (.iload_n 3, 1) := by decide +kernel
theorem dX12_isSame_13 : decode prog_14_method_13_code 13 = .ok (.bipush 6, 2) := by decide +kernel
theorem dX12_isSame_15 : decode prog_14_method_13_code 15 = .ok (.if_icmp .ge 28, 3) := by decide +kernel
theorem dX12_isSame_18 : decode prog_14_method_13_code 18 = .ok (.aload_n 1, 1) := by decide +kernel
theorem dX12_isSame_19 : decode prog_14_method_13_code 19 = .ok (.iload_n 2, 1) := by decide +kernel
theorem dX12_isSame_20 : decode prog_14_method_13_code 20 = .ok (.iload_n 3, 1) := by decide +kernel
theorem dX12_isSame_21 : decode prog_14_method_13_code 21 = .ok (.invokevirtual 141, 3) := by decide +kernel
theorem dX12_isSame_24 : decode prog_14_method_13_code 24 = .ok (.aload_n 0, 1) := by decide +kernel
theorem dX12_isSame_25 : decode prog_14_method_13_code 25 = .ok (.getfield 21, 3) := by decide +kernel
theorem dX12_isSame_28 : decode prog_14_method_13_code 28 = .ok (.iload_n 2, 1) := by decide +kernel
theorem dX12_isSame_29 : decode prog_14_method_13_code 29 = .ok (.aaload, 1) := by decide +kernel
theorem dX12_isSame_30 : decode prog_14_method_13_code 30 = .ok (.iload_n 3, 1) := by decide +kernel
theorem dX12_isSame_31 : decode prog_14_method_13_code 31 = .ok (.iaload, 1) := by decide +kernel
theorem dX12_isSame_32 : decode prog_14_method_13_code 32 = .ok (.if_icmp .eq 5, 3) := by decide +kernel
theorem dX12_isSame_35 : decode prog_14_method_13_code 35 = .ok (.iconst 0, 1) := by decide +kernel
theorem dX12_isSame_36 : decode prog_14_method_13_code 36 = .ok (.ireturn, 1) := by decide +kernel
theorem dX12_isSame_37 : decode prog_14_method_13_code 37 = .ok (.iinc 3 1, 3) := by decide +kernel
theorem dX12_isSame_40 : decode prog_14_method_13_code 40 = .ok (.goto (-28), 3) := by decide +kernel
theorem dX12_isSame_43 : decode prog_14_method_13_code 43 = .ok (.aload_n 1, 1) := by decide +kernel
theorem dX12_isSame_44 : decode prog_14_method_13_code 44 = .ok (.iload_n 2, 1) := by decide +kernel
theorem dX12_isSame_45 : decode prog_14_method_13_code 45 = .ok (.bipush 6, 2) := by decide +kernel
theorem dX12_isSame_47 : decode prog_14_method_13_code 47 = .ok (.invokevirtual 141, 3) := by decide +kernel
theorem dX12_isSame_50 : decode prog_14_method_13_code 50 = .ok (.aload_n 0, 1) := by decide +kernel
theorem dX12_isSame_51 : decode prog_14_method_13_code 51 = .ok (.getfield 37, 3) := by decide +kernel
theorem dX12_isSame_54 : decode prog_14_method_13_code 54 = .ok (.iload_n 2, 1) := by decide +kernel
theorem dX12_isSame_55 : decode prog_14_method_13_code 55 = .ok (.iaload, 1) := by decide +kernel
theorem dX12_isSame_56 : decode prog_14_method_13_code 56 = .ok (.if_icmp .ne 50, 3) := by decide +kernel
theorem dX12_isSame_59 : decode prog_14_method_13_code 59 = .ok (.aload_n 1, 1) := by decide +kernel
theorem dX12_isSame_60 : decode prog_14_method_13_code 60 = .ok (.iload_n 2, 1) := by decide +kernel
theorem dX12_isSame_61 : decode prog_14_method_13_code 61 = .ok (.bipush 7, 2) := by decide +kernel
theorem dX12_isSame_63 : decode prog_14_method_13_code 63 = .ok (.invokevirtual 141, 3) := by decide +kernel
theorem dX12_isSame_66 : decode prog_14_method_13_code 66 = .ok (.iconst 1, 1) := by decide +kernel
theorem dX12_isSame_67 : decode prog_14_method_13_code 67 = .ok (.aload_n 0, 1) := by decide +kernel
theorem dX12_isSame_68 : decode prog_14_method_13_code 68 = .ok (.getfield 68, 3) := by decide +kernel
theorem dX12_isSame_71 : decode prog_14_method_13_code 71 = .ok (.iload_n 2, 1) := by decide +kernel
theorem dX12_isSame_72 : decode prog_14_method_13_code 72 = .ok (.ishr, 1) := by decide +kernel
theorem dX12_isSame_73 : decode prog_14_method_13_code 73 = .ok (.iconst 1, 1) := by decide +kernel
theorem dX12_isSame_74 : decode prog_14_method_13_code 74 = .ok (.iand, 1) := by decide +kernel
theorem dX12_isSame_75 : decode prog_14_method_13_code 75 = .ok (.iadd, 1) := by decide +kernel
theorem dX12_isSame_76 : decode prog_14_method_13_code 76 = .ok (.if_icmp .ne 30, 3) := by decide +kernel
theorem dX12_isSame_79 : decode prog_14_method_13_code 79 = .ok (.aload_n 1, 1) := by decide +kernel
theorem dX12_isSame_80 : decode prog_14_method_13_code 80 = .ok (.iload_n 2, 1) := by decide +kernel
theorem dX12_isSame_81 : decode prog_14_method_13_code 81 = .ok (.bipush 8, 2) := by decide +kernel
theorem dX12_isSame_83 : decode prog_14_method_13_code 83 = .ok (.invokevirtual 141, 3) := by decide +kernel
theorem dX12_isSame_86 : decode prog_14_method_13_code 86 = .ok (.iconst (-1), 1) := by decide +kernel
theorem dX12_isSame_87 : decode prog_14_method_13_code 87 = .ok (.if_icmp .ne 19, 3) := by decide +kernel
theorem dX12_isSame_90 : decode prog_14_method_13_code 90 = .ok (.aload_n 1, 1) := by decide +kernel
theorem dX12_isSame_91 : decode prog_14_method_13_code 91 = .ok (.iload_n 2, 1) := by decide +kernel
theorem dX12_isSame_92 : decode prog_14_method_13_code 92 = .ok (.bipush 10, 2) := by decide +kernel
theorem dX12_isSame_94 : decode prog_14_method_13_code 94 = .ok (.aload_n 0, 1) := by decide +kernel
theorem dX12_isSame_95 : decode prog_14_method_13_code 95 = .ok (.getfield 62, 3) := by decide +kernel
theorem dX12_isSame_98 : decode prog_14_method_13_code 98 = .ok (.iadd, 1) := by decide +kernel
theorem dX12_isSame_99 : decode prog_14_method_13_code 99 = .ok (.invokevirtual 141, 3) := by decide +kernel
theorem dX12_isSame_102 : decode prog_14_method_13_code 102 = .ok (.iconst (-1), 1) := by decide +kernel
theorem dX12_isSame_103 : decode prog_14_method_13_code 103 = .ok (.if_icmp .eq 5, 3) := by decide +kernel
theorem dX12_isSame_106 : decode prog_14_method_13_code 106 = .ok (.iconst 0, 1) := by decide +kernel
theorem dX12_isSame_107 : decode prog_14_method_13_code 107 = .ok (.ireturn, 1) := by decide +kernel
theorem dX12_isSame_108 : decode prog_14_method_13_code 108 = .ok (.iconst 0, 1) := by decide +kernel
theorem dX12_isSame_109 : decode prog_14_method_13_code 109 = .ok (.istore_n 3, 1) := by decide +kernel
theorem dX12_isSame_110 : decode prog_14_method_13_code 110 = .ok (.iload_n 3, 1) := by decide +kernel
theorem dX12_isSame_111 : decode prog_14_method_13_code 111 = .ok (.aload_n 0, 1) := by decide +kernel
theorem dX12_isSame_112 : decode prog_14_method_13_code 112 = .ok (.getfield 62, 3) := by decide +kernel
theorem dX12_isSame_115 : decode prog_14_method_13_code 115 = .ok (.if_icmp .ge 30, 3) := by decide +kernel
theorem dX12_isSame_118 : decode prog_14_method_13_code 118 = .ok (.aload_n 1, 1) := by decide +kernel
theorem dX12_isSame_119 : decode prog_14_method_13_code 119 = .ok (.iload_n 2, 1) := by decide +kernel
theorem dX12_isSame_120 : decode prog_14_method_13_code 120 = .ok (.bipush 10, 2) := by decide +kernel
theorem dX12_isSame_122 : decode prog_14_method_13_code 122 = .ok (.iload_n 3, 1) := by decide +kernel
theorem dX12_isSame_123 : decode prog_14_method_13_code 123 = .ok (.iadd, 1) := by decide +kernel
theorem dX12_isSame_124 : decode prog_14_method_13_code 124 = .ok (.invokevirtual 141, 3) := by decide +kernel
theorem dX12_isSame_127 : decode prog_14_method_13_code 127 = .ok (.aload_n 0, 1) := by decide +kernel
theorem dX12_isSame_128 : decode prog_14_method_13_code 128 = .ok (.iload_n 2, 1) := by decide +kernel
theorem dX12_isSame_129 : decode prog_14_method_13_code 129 = .ok (.iload_n 3, 1) := by decide +kernel
theorem dX12_isSame_130 : decode prog_14_method_13_code 130 = .ok (.iconst 0, 1) := by decide +kernel
theorem dX12_isSame_131 : decode prog_14_method_13_code 131 = .ok (.invokevirtual 116, 3) := by decide +kernel
theorem dX12_isSame_134 : decode prog_14_method_13_code 134 = .ok (.if_icmp .eq 5, 3) := by decide +kernel
theorem dX12_isSame_137 : decode prog_14_method_13_code 137 = .ok (.iconst 0, 1) := by decide +kernel
theorem dX12_isSame_138 : decode prog_14_method_13_code 138 = .ok (.ireturn, 1) := by decide +kernel
theorem dX12_isSame_139 : decode prog_14_method_13_code 139 = .ok (.iinc 3 1, 3) := by decide +kernel
theorem dX12_isSame_142 : decode prog_14_method_13_code 142 = .ok (.goto (-32), 3) := by decide +kernel
theorem dX12_isSame_145 : decode prog_14_method_13_code 145 = .ok (.iinc 2 1, 3) := by decide +kernel
theorem dX12_isSame_148 : decode prog_14_method_13_code 148 = .ok (.goto (-146), 3) := by decide +kernel
theorem dX12_isSame_151 : decode prog_14_method_13_code 151 = .ok (.iconst 0, 1) := by decide +kernel
theorem dX12_isSame_152 : decode prog_14_method_13_code 152 = .ok (.istore_n 2, 1) := by decide +kernel
theorem dX12_isSame_153 : decode prog_14_method_13_code 153 = .ok (.iload_n 2, 1) := by decide +kernel
theorem dX12_isSame_154 : decode prog_14_method_13_code 154 = .ok (.aload_n 0, 1) := by decide +kernel
theorem dX12_isSame_155 : decode prog_14_method_13_code 155 = .ok (.getfield 62, 3) := by decide +kernel
theorem dX12_isSame_158 : decode prog_14_method_13_code 158 = .ok (.if_icmp .ge 83, 3) := by decide +kernel
theorem dX12_isSame_161 : decode prog_14_method_13_code 161 = .ok (.iconst 0, 1) := by decide +kernel
theorem dX12_isSame_162 : decode prog_14_method_13_code 162 = .ok (.istore_n 3, 1) := by decide +kernel
theorem dX12_isSame_163 : decode prog_14_method_13_code 163 = .ok (.iload_n 3, 1) := by decide +kernel
theorem dX12_isSame_164 : decode prog_14_method_13_code 164 = .ok (.iconst 5, 1) := by decide +kernel
theorem dX12_isSame_165 : decode prog_14_method_13_code 165 = .ok (.if_icmp .ge 28, 3) := by decide +kernel
theorem dX12_isSame_168 : decode prog_14_method_13_code 168 = .ok (.aload_n 1, 1) := by decide +kernel
theorem dX12_isSame_169 : decode prog_14_method_13_code 169 = .ok (.iload_n 2, 1) := by decide +kernel
theorem dX12_isSame_170 : decode prog_14_method_13_code 170 = .ok (.iload_n 3, 1) := by decide +kernel
theorem dX12_isSame_171 : decode prog_14_method_13_code 171 = .ok (.invokevirtual 146, 3) := by decide +kernel
theorem dX12_isSame_174 : decode prog_14_method_13_code 174 = .ok (.aload_n 0, 1) := by decide +kernel
theorem dX12_isSame_175 : decode prog_14_method_13_code 175 = .ok (.getfield 25, 3) := by decide +kernel
theorem dX12_isSame_178 : decode prog_14_method_13_code 178 = .ok (.iload_n 2, 1) := by decide +kernel
theorem dX12_isSame_179 : decode prog_14_method_13_code 179 = .ok (.aaload, 1) := by decide +kernel
theorem dX12_isSame_180 : decode prog_14_method_13_code 180 = .ok (.iload_n 3, 1) := by decide +kernel
theorem dX12_isSame_181 : decode prog_14_method_13_code 181 = .ok (.iaload, 1) := by decide +kernel
theorem dX12_isSame_182 : decode prog_14_method_13_code 182 = .ok (.if_icmp .eq 5, 3) := by decide +kernel
theorem dX12_isSame_185 : decode prog_14_method_13_code 185 = .ok (.iconst 0, 1) := by decide +kernel
theorem dX12_isSame_186 : decode prog_14_method_13_code 186 = .ok (.ireturn, 1) := by decide +kernel
theorem dX12_isSame_187 : decode prog_14_method_13_code 187 = .ok (.iinc 3 1, 3) := by decide +kernel
theorem dX12_isSame_190 : decode prog_14_method_13_code 190 = .ok (.goto (-27), 3) := by decide +kernel
theorem dX12_isSame_193 : decode prog_14_method_13_code 193 = .ok (.aload_n 1, 1) := by decide +kernel
theorem dX12_isSame_194 : decode prog_14_method_13_code 194 = .ok (.iload_n 2, 1) := by decide +kernel
theorem dX12_isSame_195 : decode prog_14_method_13_code 195 = .ok (.iconst 5, 1) := by decide +kernel
theorem dX12_isSame_196 : decode prog_14_method_13_code 196 = .ok (.invokevirtual 146, 3) := by decide +kernel
theorem dX12_isSame_199 : decode prog_14_method_13_code 199 = .ok (.aload_n 0, 1) := by decide +kernel
theorem dX12_isSame_200 : decode prog_14_method_13_code 200 = .ok (.iload_n 2, 1) := by decide +kernel
theorem dX12_isSame_201 : decode prog_14_method_13_code 201 = .ok (.invokevirtual 119, 3) := by decide +kernel
theorem dX12_isSame_204 : decode prog_14_method_13_code 204 = .ok (.if_icmp .ne 29, 3) := by decide +kernel
theorem dX12_isSame_207 : decode prog_14_method_13_code 207 = .ok (.aload_n 1, 1) := by decide +kernel
theorem dX12_isSame_208 : decode prog_14_method_13_code 208 = .ok (.iload_n 2, 1) := by decide +kernel
theorem dX12_isSame_209 : decode prog_14_method_13_code 209 = .ok (.bipush 6, 2) := by decide +kernel
theorem dX12_isSame_211 : decode prog_14_method_13_code 211 = .ok (.invokevirtual 146, 3) := by decide +kernel
theorem dX12_isSame_214 : decode prog_14_method_13_code 214 = .ok (.aload_n 0, 1) := by decide +kernel
theorem dX12_isSame_215 : decode prog_14_method_13_code 215 = .ok (.iload_n 2, 1) := by decide +kernel
theorem dX12_isSame_216 : decode prog_14_method_13_code 216 = .ok (.invokevirtual 92, 3) := by decide +kernel
theorem dX12_isSame_219 : decode prog_14_method_13_code 219 = .ok (.if_icmp .ne 14, 3) := by decide +kernel
theorem dX12_isSame_222 : decode prog_14_method_13_code 222 = .ok (.aload_n 1, 1) := by decide +kernel
theorem dX12_isSame_223 : decode prog_14_method_13_code 223 = .ok (.iload_n 2, 1) := by decide +kernel
theorem dX12_isSame_224 : decode prog_14_method_13_code 224 = .ok (.bipush 7, 2) := by decide +kernel
theorem dX12_isSame_226 : decode prog_14_method_13_code 226 = .ok (.invokevirtual 146, 3) := by decide +kernel
theorem dX12_isSame_229 : decode prog_14_method_13_code 229 = .ok (.iconst (-1), 1) := by decide +kernel
theorem dX12_isSame_230 : decode prog_14_method_13_code 230 = .ok (.if_icmp .eq 5, 3) := by decide +kernel
theorem dX12_isSame_233 : decode prog_14_method_13_code 233 = .ok (.iconst 0, 1) := by decide +kernel
theorem dX12_isSame_234 : decode prog_14_method_13_code 234 = .ok (.ireturn, 1) := by decide +kernel
theorem dX12_isSame_235 : decode prog_14_method_13_code 235 = .ok (.iinc 2 1, 3) := by decide +kernel
theorem dX12_isSame_238 : decode prog_14_method_13_code 238 = .ok (.goto (-85), 3) := by decide +kernel
theorem dX12_isSame_241 : decode prog_14_method_13_code 241 = .ok (.iconst 0, 1) := by decide +kernel
theorem dX12_isSame_242 : decode prog_14_method_13_code 242 = .ok (.istore_n 2, 1) := by decide +kernel
theorem dX12_isSame_243 : decode prog_14_method_13_code 243 = .ok (.iload_n 2, 1) := by decide +kernel
theorem dX12_isSame_244 : decode prog_14_method_13_code 244 = .ok (.aload_n 0, 1) := by decide +kernel
theorem dX12_isSame_245 : decode prog_14_method_13_code 245 = .ok (.getfield 65, 3) := by decide +kernel
theorem dX12_isSame_248 : decode prog_14_method_13_code 248 = .ok (.if_icmp .ge 41, 3) := by decide +kernel
theorem dX12_isSame_251 : decode prog_14_method_13_code 251 = .ok (.iconst 0, 1) := by decide +kernel
theorem dX12_isSame_252 : decode prog_14_method_13_code 252 = .ok (.istore_n 3, 1) := by decide +kernel
theorem dX12_isSame_253 : decode prog_14_method_13_code 253 = .ok (.iload_n 3, 1) := by decide +kernel
theorem dX12_isSame_254 : decode prog_14_method_13_code 254 = .ok (.iconst 4, 1) := by decide +kernel
theorem dX12_isSame_255 : decode prog_14_method_13_code 255 = .ok (.if_icmp .ge 28, 3) := by decide +kernel
theorem dX12_isSame_258 : decode prog_14_method_13_code 258 = .ok (.aload_n 1, 1) := by decide +kernel
theorem dX12_isSame_259 : decode prog_14_method_13_code 259 = .ok (.iload_n 2, 1) := by decide +kernel
theorem dX12_isSame_260 : decode prog_14_method_13_code 260 = .ok (.iload_n 3, 1) := by decide +kernel
theorem dX12_isSame_261 : decode prog_14_method_13_code 261 = .ok (.invokevirtual 149, 3) := by decide +kernel
theorem dX12_isSame_264 : decode prog_14_method_13_code 264 = .ok (.aload_n 0, 1) := by decide +kernel
theorem dX12_isSame_265 : decode prog_14_method_13_code 265 = .ok (.getfield 28, 3) := by decide +kernel
theorem dX12_isSame_268 : decode prog_14_method_13_code 268 = .ok (.iload_n 2, 1) := by decide +kernel
theorem dX12_isSame_269 : decode prog_14_method_13_code 269 = .ok (.aaload, 1) := by decide +kernel
theorem dX12_isSame_270 : decode prog_14_method_13_code 270 = .ok (.iload_n 3, 1) := by decide +kernel
theorem dX12_isSame_271 : decode prog_14_method_13_code 271 = .ok (.iaload, 1) := by decide +kernel
theorem dX12_isSame_272 : decode prog_14_method_13_code 272 = .ok (.if_icmp .eq 5, 3) := by decide +kernel
theorem dX12_isSame_275 : decode prog_14_method_13_code 275 = .ok (.iconst 0, 1) := by decide +kernel
theorem dX12_isSame_276 : decode prog_14_method_13_code 276 = .ok (.ireturn, 1) := by decide +kernel
theorem dX12_isSame_277 : decode prog_14_method_13_code 277 = .ok (.iinc 3 1, 3) := by decide +kernel
theorem dX12_isSame_280 : decode prog_14_method_13_code 280 = .ok (.goto (-27), 3) := by decide +kernel
theorem dX12_isSame_283 : decode prog_14_method_13_code 283 = .ok (.iinc 2 1, 3) := by decide +kernel
theorem dX12_isSame_286 : decode prog_14_method_13_code 286 = .ok (.goto (-43), 3) := by decide +kernel
theorem dX12_isSame_289 : decode prog_14_method_13_code 289 = .ok (.bipush 11, 2) := by decide +kernel
theorem dX12_isSame_291 : decode prog_14_method_13_code 291 = .ok (.newarray .int, 2) := by decide +kernel
theorem dX12_isSame_293 : decode prog_14_method_13_code 293 = .ok (.dup, 1) := by decide +kernel
theorem dX12_isSame_294 : decode prog_14_method_13_code 294 = .ok (.iconst 0, 1) := by decide +kernel
theorem dX12_isSame_295 : decode prog_14_method_13_code 295 = .ok (.aload_n 0, 1) := by decide +kernel
theorem dX12_isSame_296 : decode prog_14_method_13_code 296 = .ok (.getfield 59, 3) := by decide +kernel
theorem dX12_isSame_299 : decode prog_14_method_13_code 299 = .ok (.iastore, 1) := by decide +kernel
theorem dX12_isSame_300 : decode prog_14_method_13_code 300 = .ok (.dup, 1) := by decide +kernel
theorem dX12_isSame_301 : decode prog_14_method_13_code 301 = .ok (.iconst 1, 1) := by decide +kernel
theorem dX12_isSame_302 : decode prog_14_method_13_code 302 = .ok (.aload_n 0, 1) := by decide +kernel
theorem dX12_isSame_303 : decode prog_14_method_13_code 303 = .ok (.getfield 62, 3) := by decide +kernel
theorem dX12_isSame_306 : decode prog_14_method_13_code 306 = .ok (.iastore, 1) := by decide +kernel
theorem dX12_isSame_307 : decode prog_14_method_13_code 307 = .ok (.dup, 1) := by decide +kernel
theorem dX12_isSame_308 : decode prog_14_method_13_code 308 = .ok (.iconst 2, 1) := by decide +kernel
theorem dX12_isSame_309 : decode prog_14_method_13_code 309 = .ok (.aload_n 0, 1) := by decide +kernel
theorem dX12_isSame_310 : decode prog_14_method_13_code 310 = .ok (.getfield 44, 3) := by decide +kernel
theorem dX12_isSame_313 : decode prog_14_method_13_code 313 = .ok (.iastore, 1) := by decide +kernel
theorem dX12_isSame_314 : decode prog_14_method_13_code 314 = .ok (.dup, 1) := by decide +kernel
theorem dX12_isSame_315 : decode prog_14_method_13_code 315 = .ok (.iconst 3, 1) := by decide +kernel
theorem dX12_isSame_316 : decode prog_14_method_13_code 316 = .ok (.aload_n 0, 1) := by decide +kernel
theorem dX12_isSame_317 : decode prog_14_method_13_code 317 = .ok (.getfield 47, 3) := by decide +kernel
theorem dX12_isSame_320 : decode prog_14_method_13_code 320 = .ok (.iastore, 1) := by decide +kernel
theorem dX12_isSame_321 : decode prog_14_method_13_code 321 = .ok (.dup, 1) := by decide +kernel
theorem dX12_isSame_322 : decode prog_14_method_13_code 322 = .ok (.iconst 4, 1) := by decide +kernel
theorem dX12_isSame_323 : decode prog_14_method_13_code 323 = .ok (.aload_n 0, 1) := by decide +kernel
theorem dX12_isSame_324 : decode prog_14_method_13_code 324 = .ok (.getfield 50, 3) := by decide +kernel
theorem dX12_isSame_327 : decode prog_14_method_13_code 327 = .ok (.iastore, 1) := by decide +kernel
theorem dX12_isSame_328 : decode prog_14_method_13_code 328 = .ok (.dup, 1) := by decide +kernel
theorem dX12_isSame_329 : decode prog_14_method_13_code 329 = .ok (.iconst 5, 1) := by decide +kernel
theorem dX12_isSame_330 : decode prog_14_method_13_code 330 = .ok (.aload_n 0, 1) := by decide +kernel
theorem dX12_isSame_331 : decode prog_14_method_13_code 331 = .ok (.getfield 56, 3) := by decide +kernel
theorem dX12_isSame_334 : decode prog_14_method_13_code 334 = .ok (.iastore, 1) := by decide +kernel
theorem dX12_isSame_335 : decode prog_14_method_13_code 335 = .ok (.dup, 1) := by decide +kernel
theorem dX12_isSame_336 : decode prog_14_method_13_code 336 = .ok (.bipush 6, 2) := by decide +kernel
theorem dX12_isSame_338 : decode prog_14_method_13_code 338 = .ok (.aload_n 0, 1) := by decide +kernel
theorem dX12_isSame_339 : decode prog_14_method_13_code 339 = .ok (.getfield 7, 3) := by decide +kernel
theorem dX12_isSame_342 : decode prog_14_method_13_code 342 = .ok (.iastore, 1) := by decide +kernel
theorem dX12_isSame_343 : decode prog_14_method_13_code 343 = .ok (.dup, 1) := by decide +kernel
theorem dX12_isSame_344 : decode prog_14_method_13_code 344 = .ok (.bipush 7, 2) := by decide +kernel
theorem dX12_isSame_346 : decode prog_14_method_13_code 346 = .ok (.aload_n 0, 1) := by decide +kernel
theorem dX12_isSame_347 : decode prog_14_method_13_code 347 = .ok (.getfield 53, 3) := by decide +kernel
theorem dX12_isSame_350 : decode prog_14_method_13_code 350 = .ok (.iastore, 1) := by decide +kernel
theorem dX12_isSame_351 : decode prog_14_method_13_code 351 = .ok (.dup, 1) := by decide +kernel
theorem dX12_isSame_352 : decode prog_14_method_13_code 352 = .ok (.bipush 8, 2) := by decide +kernel
theorem dX12_isSame_354 : decode prog_14_method_13_code 354 = .ok (.aload_n 0, 1) := by decide +kernel
theorem dX12_isSame_355 : decode prog_14_method_13_code 355 = .ok (.invokevirtual 152, 3) := by decide +kernel
theorem dX12_isSame_358 : decode prog_14_method_13_code 358 = .ok (.iastore, 1) := by decide +kernel
theorem dX12_isSame_359 : decode prog_14_method_13_code 359 = .ok (.dup, 1) := by decide +kernel
theorem dX12_isSame_360 : decode prog_14_method_13_code 360 = .ok (.bipush 9, 2) := by decide +kernel
theorem dX12_isSame_362 : decode prog_14_method_13_code 362 = .ok (.aload_n 0, 1) := by decide +kernel
theorem dX12_isSame_363 : decode prog_14_method_13_code 363 = .ok (.getfield 65, 3) := by decide +kernel
theorem dX12_isSame_366 : decode prog_14_method_13_code 366 = .ok (.iastore, 1) := by decide +kernel
theorem dX12_isSame_367 : decode prog_14_method_13_code 367 = .ok (.dup, 1) := by decide +kernel
theorem dX12_isSame_368 : decode prog_14_method_13_code 368 = .ok (.bipush 10, 2) := by decide +kernel
theorem dX12_isSame_370 : decode prog_14_method_13_code 370 = .ok (.aload_n 0, 1) := by decide +kernel
theorem dX12_isSame_371 : decode prog_14_method_13_code 371 = .ok (.getfield 41, 3) := by decide +kernel
theorem dX12_isSame_374 : decode prog_14_method_13_code 374 = .ok (.iastore, 1) := by decide +kernel
theorem dX12_isSame_375 : decode prog_14_method_13_code 375 = .ok (.astore_n 2, 1) := by decide +kernel
theorem dX12_isSame_376 : decode prog_14_method_13_code 376 = .ok (.iconst 0, 1) := by decide +kernel
theorem dX12_isSame_377 : decode prog_14_method_13_code 377 = .ok (.istore_n 3, 1) := by decide +kernel
theorem dX12_isSame_378 : decode prog_14_method_13_code 378 = .ok (.iload_n 3, 1) := by decide +kernel
theorem dX12_isSame_379 : decode prog_14_method_13_code 379 = .ok (.bipush 11, 2) := by decide +kernel
theorem dX12_isSame_381 : decode prog_14_method_13_code 381 = .ok (.if_icmp .ge 22, 3) := by decide +kernel
theorem dX12_isSame_384 : decode prog_14_method_13_code 384 = .ok (.aload_n 1, 1) := by decide +kernel
theorem dX12_isSame_385 : decode prog_14_method_13_code 385 = .ok (.iload_n 3, 1) := by decide +kernel
theorem dX12_isSame_386 : decode prog_14_method_13_code 386 = .ok (.invokevirtual 155, 3) := by decide +kernel
theorem dX12_isSame_389 : decode prog_14_method_13_code 389 = .ok (.aload_n 2, 1) := by decide +kernel
theorem dX12_isSame_390 : decode prog_14_method_13_code 390 = .ok (.iload_n 3, 1) := by decide +kernel
theorem dX12_isSame_391 : decode prog_14_method_13_code 391 = .ok (.iaload, 1) := by decide +kernel
theorem dX12_isSame_392 : decode prog_14_method_13_code 392 = .ok (.if_icmp .eq 5, 3) := by decide +kernel
theorem dX12_isSame_395 : decode prog_14_method_13_code 395 = .ok (.iconst 0, 1) := by decide +kernel
theorem dX12_isSame_396 : decode prog_14_method_13_code 396 = .ok (.ireturn, 1) := by decide +kernel
theorem dX12_isSame_397 : decode prog_14_method_13_code 397 = .ok (.iinc 3 1, 3) := by decide +kernel
theorem dX12_isSame_400 : decode prog_14_method_13_code 400 = .ok (.goto (-22), 3) := by decide +kernel
theorem dX12_isSame_403 : decode prog_14_method_13_code 403 = .ok (.aload_n 1, 1) := by decide +kernel
theorem dX12_isSame_404 : decode prog_14_method_13_code 404 = .ok (.aload_n 0, 1) := by decide +kernel
theorem dX12_isSame_405 : decode prog_14_method_13_code 405 = .ok (.getfield 59, 3) := by decide +kernel
theorem dX12_isSame_408 : decode prog_14_method_13_code 408 = .ok (.iconst 0, 1) := by decide +kernel
theorem dX12_isSame_409 : decode prog_14_method_13_code 409 = .ok (.invokevirtual 141, 3) := by decide +kernel
theorem dX12_isSame_412 : decode prog_14_method_13_code 412 = .ok (.iconst (-1), 1) := by decide +kernel
theorem dX12_isSame_413 : decode prog_14_method_13_code 413 = .ok (.if_icmp .ne 118, 3) := by decide +kernel
theorem dX12_isSame_416 : decode prog_14_method_13_code 416 = .ok (.aload_n 1, 1) := by decide +kernel
theorem dX12_isSame_417 : decode prog_14_method_13_code 417 = .ok (.aload_n 0, 1) := by decide +kernel
theorem dX12_isSame_418 : decode prog_14_method_13_code 418 = .ok (.getfield 62, 3) := by decide +kernel
theorem dX12_isSame_421 : decode prog_14_method_13_code 421 = .ok (.iconst 0, 1) := by decide +kernel
theorem dX12_isSame_422 : decode prog_14_method_13_code 422 = .ok (.invokevirtual 146, 3) := by decide +kernel
theorem dX12_isSame_425 : decode prog_14_method_13_code 425 = .ok (.iconst (-1), 1) := by decide +kernel
theorem dX12_isSame_426 : decode prog_14_method_13_code 426 = .ok (.if_icmp .ne 105, 3) := by decide +kernel
theorem dX12_isSame_429 : decode prog_14_method_13_code 429 = .ok (.aload_n 1, 1) := by decide +kernel
theorem dX12_isSame_430 : decode prog_14_method_13_code 430 = .ok (.aload_n 0, 1) := by decide +kernel
theorem dX12_isSame_431 : decode prog_14_method_13_code 431 = .ok (.getfield 65, 3) := by decide +kernel
theorem dX12_isSame_434 : decode prog_14_method_13_code 434 = .ok (.iconst 0, 1) := by decide +kernel
theorem dX12_isSame_435 : decode prog_14_method_13_code 435 = .ok (.invokevirtual 149, 3) := by decide +kernel
theorem dX12_isSame_438 : decode prog_14_method_13_code 438 = .ok (.iconst (-1), 1) := by decide +kernel
theorem dX12_isSame_439 : decode prog_14_method_13_code 439 = .ok (.if_icmp .ne 92, 3) := by decide +kernel
theorem dX12_isSame_442 : decode prog_14_method_13_code 442 = .ok (.aload_n 1, 1) := by decide +kernel
theorem dX12_isSame_443 : decode prog_14_method_13_code 443 = .ok (.iconst 0, 1) := by decide +kernel
theorem dX12_isSame_444 : decode prog_14_method_13_code 444 = .ok (.invokevirtual 158, 3) := by decide +kernel
theorem dX12_isSame_447 : decode prog_14_method_13_code 447 = .ok (.aload_n 0, 1) := by decide +kernel
theorem dX12_isSame_448 : decode prog_14_method_13_code 448 = .ok (.invokevirtual 129, 3) := by decide +kernel
theorem dX12_isSame_451 : decode prog_14_method_13_code 451 = .ok (.if_icmp .ne 80, 3) := by decide +kernel
theorem dX12_isSame_454 : decode prog_14_method_13_code 454 = .ok (.aload_n 1, 1) := by decide +kernel
theorem dX12_isSame_455 : decode prog_14_method_13_code 455 = .ok (.iconst 1, 1) := by decide +kernel
theorem dX12_isSame_456 : decode prog_14_method_13_code 456 = .ok (.invokevirtual 158, 3) := by decide +kernel
theorem dX12_isSame_459 : decode prog_14_method_13_code 459 = .ok (.aload_n 0, 1) := by decide +kernel
theorem dX12_isSame_460 : decode prog_14_method_13_code 460 = .ok (.getfield 13, 3) := by decide +kernel
theorem dX12_isSame_463 : decode prog_14_method_13_code 463 = .ok (.if_icmp .ne 68, 3) := by decide +kernel
theorem dX12_isSame_466 : decode prog_14_method_13_code 466 = .ok (.aload_n 1, 1) := by decide +kernel
theorem dX12_isSame_467 : decode prog_14_method_13_code 467 = .ok (.iconst 2, 1) := by decide +kernel
theorem dX12_isSame_468 : decode prog_14_method_13_code 468 = .ok (.invokevirtual 158, 3) := by decide +kernel
theorem dX12_isSame_471 : decode prog_14_method_13_code 471 = .ok (.aload_n 0, 1) := by decide +kernel
theorem dX12_isSame_472 : decode prog_14_method_13_code 472 = .ok (.getfield 16, 3) := by decide +kernel
theorem dX12_isSame_475 : decode prog_14_method_13_code 475 = .ok (.if_icmp .ne 56, 3) := by decide +kernel
theorem dX12_isSame_478 : decode prog_14_method_13_code 478 = .ok (.aload_n 1, 1) := by decide +kernel
theorem dX12_isSame_479 : decode prog_14_method_13_code 479 = .ok (.iconst 3, 1) := by decide +kernel
theorem dX12_isSame_480 : decode prog_14_method_13_code 480 = .ok (.invokevirtual 158, 3) := by decide +kernel
theorem dX12_isSame_483 : decode prog_14_method_13_code 483 = .ok (.iconst (-1), 1) := by decide +kernel
theorem dX12_isSame_484 : decode prog_14_method_13_code 484 = .ok (.if_icmp .ne 47, 3) := by decide +kernel
theorem dX12_isSame_487 : decode prog_14_method_13_code 487 = .ok (.aload_n 1, 1) := by decide +kernel
theorem dX12_isSame_488 : decode prog_14_method_13_code 488 = .ok (.bipush 12, 2) := by decide +kernel
theorem dX12_isSame_490 : decode prog_14_method_13_code 490 = .ok (.invokevirtual 155, 3) := by decide +kernel
theorem dX12_isSame_493 : decode prog_14_method_13_code 493 = .ok (.aload_n 0, 1) := by decide +kernel
theorem dX12_isSame_494 : decode prog_14_method_13_code 494 = .ok (.getfield 71, 3) := by decide +kernel
theorem dX12_isSame_497 : decode prog_14_method_13_code 497 = .ok (.if_icmp .ne 34, 3) := by decide +kernel
theorem dX12_isSame_500 : decode prog_14_method_13_code 500 = .ok (.aload_n 1, 1) := by decide +kernel
theorem dX12_isSame_501 : decode prog_14_method_13_code 501 = .ok (.bipush 13, 2) := by decide +kernel
theorem dX12_isSame_503 : decode prog_14_method_13_code 503 = .ok (.invokevirtual 155, 3) := by decide +kernel
theorem dX12_isSame_506 : decode prog_14_method_13_code 506 = .ok (.aload_n 0, 1) := by decide +kernel
theorem dX12_isSame_507 : decode prog_14_method_13_code 507 = .ok (.getfield 34, 3) := by decide +kernel
theorem dX12_isSame_510 : decode prog_14_method_13_code 510 = .ok (.arraylength, 1) := by decide +kernel
theorem dX12_isSame_511 : decode prog_14_method_13_code 511 = .ok (.if_icmp .ne 20, 3) := by decide +kernel
theorem dX12_isSame_514 : decode prog_14_method_13_code 514 = .ok (.aload_n 1, 1) := by decide +kernel
theorem dX12_isSame_515 : decode prog_14_method_13_code 515 = .ok (.bipush 14, 2) := by decide +kernel
theorem dX12_isSame_517 : decode prog_14_method_13_code 517 = .ok (.invokevirtual 155, 3) := by decide +kernel
theorem dX12_isSame_520 : decode prog_14_method_13_code 520 = .ok (.aload_n 0, 1) := by decide +kernel
theorem dX12_isSame_521 : decode prog_14_method_13_code 521 = .ok (.getfield 74, 3) := by decide +kernel
theorem dX12_isSame_524 : decode prog_14_method_13_code 524 = .ok (.if_icmp .ne 7, 3) := by decide +kernel
theorem dX12_isSame_527 : decode prog_14_method_13_code 527 = .ok (.iconst 1, 1) := by decide +kernel
theorem dX12_isSame_528 : decode prog_14_method_13_code 528 = .ok (.goto 4, 3) := by decide +kernel
theorem dX12_isSame_531 : decode prog_14_method_13_code 531 = .ok (.iconst 0, 1) := by decide +kernel
theorem dX12_isSame_532 : decode prog_14_method_13_code 532 = .ok (.ireturn, 1) := by decide +kernel
theorem dJ5_init_d00df_0 : decode prog_16_method_2_code 0 = .ok (.aload_n 0, 1) := by decide +kernel
theorem dJ5_init_d00df_1 : decode prog_16_method_2_code 1 = .ok (.invokespecial 3, 3) := by decide +kernel
theorem dJ5_init_d00df_4 : decode prog_16_method_2_code 4 = .ok (.getstatic 18, 3) := by decide +kernel
theorem dJ5_init_d00df_7 : decode prog_16_method_2_code 7 = .ok (.ifCond .eq 18, 3) := by decide +kernel
theorem dJ5_init_d00df_10 : decode prog_16_method_2_code 10 = .ok (.aload_n 0, 1) := by decide +kernel
theorem dJ5_init_d00df_11 : decode prog_16_method_2_code 11 = .ok (.iload_n 1, 1) := by decide +kernel
theorem dJ5_init_d00df_12 : decode prog_16_method_2_code 12 = .ok (.newarray .byte, 2) := by decide +kernel
theorem dJ5_init_d00df_14 : decode prog_16_method_2_code 14 = .ok (.putfield 15, 3) := by decide +kernel
theorem dJ5_init_d00df_17 : decode prog_16_method_2_code 17 = .ok (.aload_n 0, 1) := by decide +kernel
theorem dJ5_init_d00df_18 : decode prog_16_method_2_code 18 = .ok (.iconst 0, 1) := by decide +kernel
theorem dJ5_init_d00df_19 : decode prog_16_method_2_code 19 = .ok (.putfield 22, 3) := by decide +kernel
theorem dJ5_init_d00df_22 : decode prog_16_method_2_code 22 = .ok (.goto 16, 3) := by decide +kernel
theorem dJ5_init_d00df_25 : decode prog_16_method_2_code 25 = .ok (.aload_n 0, 1) := by decide +kernel
theorem dJ5_init_d00df_26 : decode prog_16_method_2_code 26 = .ok (.iload_n 1, 1) := by decide +kernel
theorem dJ5_init_d00df_27 : decode prog_16_method_2_code 27 = .ok (.invokestatic 26, 3) := by decide +kernel
theorem dJ5_init_d00df_30 : decode prog_16_method_2_code 30 = .ok (.putfield 15, 3) := by decide +kernel
theorem dJ5_init_d00df_33 : decode prog_16_method_2_code 33 = .ok (.aload_n 0, 1) := by decide +kernel
theorem dJ5_init_d00df_34 : decode prog_16_method_2_code 34 = .ok (.iconst 1, 1) := by decide +kernel
theorem dJ5_init_d00df_35 : decode prog_16_method_2_code 35 = .ok (.putfield 22, 3) := by decide +kernel
theorem dJ5_init_d00df_38 : decode prog_16_method_2_code 38 = .ok (.return_, 1) := by decide +kernel
theorem dJ5_length_8abf5_0 : decode prog_16_method_6_code 0 = .ok (.aload_n 0, 1) := by decide +kernel
theorem dJ5_length_8abf5_1 : decode prog_16_method_6_code 1 = .ok (.getfield 79, 3) := by decide +kernel
theorem dJ5_length_8abf5_4 : decode prog_16_method_6_code 4 = .ok (.ireturn, 1) := by decide +kernel
theorem dJ5_ensureCapacityInternal_d00df_0 : decode prog_16_method_9_code 0 = .ok (.aload_n 0, 1) := by decide +kernel
theorem dJ5_ensureCapacityInternal_d00df_1 : decode prog_16_method_9_code 1 = .ok (.getfield 15, 3) := by decide +kernel
theorem dJ5_ensureCapacityInternal_d00df_4 : decode prog_16_method_9_code 4 = .ok (.arraylength, 1) := by decide +kernel
theorem dJ5_ensureCapacityInternal_d00df_5 : decode prog_16_method_9_code 5 = .ok (.aload_n 0, 1) := by decide +kernel
theorem dJ5_ensureCapacityInternal_d00df_6 : decode prog_16_method_9_code 6 = .ok (.getfield 22, 3) := by decide +kernel
theorem dJ5_ensureCapacityInternal_d00df_9 : decode prog_16_method_9_code 9 = .ok (.ishr, 1) := by decide +kernel
theorem dJ5_ensureCapacityInternal_d00df_10 : decode prog_16_method_9_code 10 = .ok (.istore_n 2, 1) := by decide +kernel
theorem dJ5_ensureCapacityInternal_d00df_11 : decode prog_16_method_9_code 11 = .ok (.iload_n 1, 1) := by decide +kernel
theorem dJ5_ensureCapacityInternal_d00df_12 : decode prog_16_method_9_code 12 = .ok (.iload_n 2, 1) := by decide +kernel
theorem dJ5_ensureCapacityInternal_d00df_13 : decode prog_16_method_9_code 13 = .ok (.isub, 1) := by decide +kernel
theorem dJ5_ensureCapacityInternal_d00df_14 : decode prog_16_method_9_code 14 = .ok (.ifCond .le 24, 3) := by decide +kernel
theorem dJ5_ensureCapacityInternal_d00df_17 : decode prog_16_method_9_code 17 = .ok (.aload_n 0, 1) := by decide +kernel
theorem dJ5_ensureCapacityInternal_d00df_18 : decode prog_16_method_9_code 18 = .ok (.aload_n 0, 1) := by decide +kernel
theorem dJ5_ensureCapacityInternal_d00df_19 : decode prog_16_method_9_code 19 = .ok (.getfield 15, 3) := by decide +kernel
theorem dJ5_ensureCapacityInternal_d00df_22 : decode prog_16_method_9_code 22 = .ok (.aload_n 0, 1) := by decide +kernel
theorem dJ5_ensureCapacityInternal_d00df_23 : decode prog_16_method_9_code 23 = .ok (.iload_n 1, 1) := by decide +kernel
theorem dJ5_ensureCapacityInternal_d00df_24 : decode prog_16_method_9_code 24 = .ok (.invokevirtual 104, 3) := by decide +kernel
theorem dJ5_ensureCapacityInternal_d00df_27 : decode prog_16_method_9_code 27 = .ok (.aload_n 0, 1) := by decide +kernel
theorem dJ5_ensureCapacityInternal_d00df_28 : decode prog_16_method_9_code 28 = .ok (.getfield 22, 3) := by decide +kernel
theorem dJ5_ensureCapacityInternal_d00df_31 : decode prog_16_method_9_code 31 = .ok (.ishl, 1) := by decide +kernel
theorem dJ5_ensureCapacityInternal_d00df_32 : decode prog_16_method_9_code 32 = .ok (.invokestatic 108, 3) := by decide +kernel
theorem dJ5_ensureCapacityInternal_d00df_35 : decode prog_16_method_9_code 35 = .ok (.putfield 15, 3) := by decide +kernel
theorem dJ5_ensureCapacityInternal_d00df_38 : decode prog_16_method_9_code 38 = .ok (.return_, 1) := by decide +kernel
theorem dJ5_newCapacity_0f7a4_0 : decode prog_16_method_10_code 0 = .ok (.aload_n 0, 1) := by decide +kernel
theorem dJ5_newCapacity_0f7a4_1 : decode prog_16_method_10_code 1 = .ok (.getfield 15, 3) := by decide +kernel
theorem dJ5_newCapacity_0f7a4_4 : decode prog_16_method_10_code 4 = .ok (.arraylength, 1) := by decide +kernel
theorem dJ5_newCapacity_0f7a4_5 : decode prog_16_method_10_code 5 = .ok (.istore_n 2, 1) := by decide +kernel
theorem dJ5_newCapacity_0f7a4_6 : decode prog_16_method_10_code 6 = .ok (.iload_n 1, 1) := by decide +kernel
theorem dJ5_newCapacity_0f7a4_7 : decode prog_16_method_10_code 7 = .ok (.aload_n 0, 1) := by decide +kernel
theorem dJ5_newCapacity_0f7a4_8 : decode prog_16_method_10_code 8 = .ok (.getfield 22, 3) := by decide +kernel
theorem dJ5_newCapacity_0f7a4_11 : decode prog_16_method_10_code 11 = .ok (.ishl, 1) := by decide +kernel
theorem dJ5_newCapacity_0f7a4_12 : decode prog_16_method_10_code 12 = .ok (.istore_n 3, 1) := by decide +kernel
theorem dJ5_newCapacity_0f7a4_13 : decode prog_16_method_10_code 13 = .ok (.iload_n 3, 1) := by decide +kernel
theorem dJ5_newCapacity_0f7a4_14 : decode prog_16_method_10_code 14 = .ok (.iload_n 2, 1) := by decide +kernel
theorem dJ5_newCapacity_0f7a4_15 : decode prog_16_method_10_code 15 = .ok (.isub, 1) := by decide +kernel
theorem dJ5_newCapacity_0f7a4_16 : decode prog_16_method_10_code 16 = .ok (.istore 4, 2) := by decide +kernel
theorem dJ5_newCapacity_0f7a4_18 : decode prog_16_method_10_code 18 = .ok (.iload_n 2, 1) := by decide +kernel
theorem dJ5_newCapacity_0f7a4_19 : decode prog_16_method_10_code 19 = .ok (.iload 4, 2) := by decide +kernel
theorem dJ5_newCapacity_0f7a4_21 : decode prog_16_method_10_code 21 = .ok (.iload_n 2, 1) := by decide +kernel
theorem dJ5_newCapacity_0f7a4_22 : decode prog_16_method_10_code 22 = .ok (.iconst 2, 1) := by decide +kernel
theorem dJ5_newCapacity_0f7a4_23 : decode prog_16_method_10_code 23 = .ok (.aload_n 0, 1) := by decide +kernel
theorem dJ5_newCapacity_0f7a4_24 : decode prog_16_method_10_code 24 = .ok (.getfield 22, 3) := by decide +kernel
theorem dJ5_newCapacity_0f7a4_27 : decode prog_16_method_10_code 27 = .ok (.ishl, 1) := by decide +kernel
theorem dJ5_newCapacity_0f7a4_28 : decode prog_16_method_10_code 28 = .ok (.iadd, 1) := by decide +kernel
theorem dJ5_newCapacity_0f7a4_29 : decode prog_16_method_10_code 29 = .ok (.invokestatic 114, 3) := by decide +kernel
theorem dJ5_newCapacity_0f7a4_32 : decode prog_16_method_10_code 32 = .ok (.istore 5, 2) := by decide +kernel
theorem dJ5_newCapacity_0f7a4_34 : decode prog_16_method_10_code 34 = .ok (.iload 5, 2) := by decide +kernel
theorem dJ5_newCapacity_0f7a4_36 : decode prog_16_method_10_code 36 = .ok (.ldc 39, 2) := by decide +kernel
theorem dJ5_newCapacity_0f7a4_38 : decode prog_16_method_10_code 38 = .ok (.if_icmp .ne 13, 3) := by decide +kernel
theorem dJ5_newCapacity_0f7a4_41 : decode prog_16_method_10_code 41 = .ok (.new 120, 3) := by decide +kernel
theorem dJ5_newCapacity_0f7a4_44 : decode prog_16_method_10_code 44 = .ok (.dup, 1) := by decide +kernel
theorem dJ5_newCapacity_0f7a4_45 : decode prog_16_method_10_code 45 = .ok (.ldc 122, 2) := by decide +kernel
theorem dJ5_newCapacity_0f7a4_47 : decode prog_16_method_10_code 47 = .ok (.invokespecial 124, 3) := by decide +kernel
theorem dJ5_newCapacity_0f7a4_50 : decode prog_16_method_10_code 50 = .ok (.athrow, 1) := by decide +kernel
theorem dJ5_newCapacity_0f7a4_51 : decode prog_16_method_10_code 51 = .ok (.iload 5, 2) := by decide +kernel
theorem dJ5_newCapacity_0f7a4_53 : decode prog_16_method_10_code 53 = .ok (.aload_n 0, 1) := by decide +kernel
theorem dJ5_newCapacity_0f7a4_54 : decode prog_16_method_10_code 54 = .ok (.getfield 22, 3) := by decide +kernel
theorem dJ5_newCapacity_0f7a4_57 : decode prog_16_method_10_code 57 = .ok (.ishr, 1) := by decide +kernel
theorem dJ5_newCapacity_0f7a4_58 : decode prog_16_method_10_code 58 = .ok (.ireturn, 1) := by decide +kernel
theorem dJ5_inflate_da8c8_0 : decode prog_16_method_11_code 0 = .ok (.aload_n 0, 1) := by decide +kernel
theorem dJ5_inflate_da8c8_1 : decode prog_16_method_11_code 1 = .ok (.invokevirtual 83, 3) := by decide +kernel
theorem dJ5_inflate_da8c8_4 : decode prog_16_method_11_code 4 = .ok (.ifCond .ne 4, 3) := by decide +kernel
theorem dJ5_inflate_da8c8_7 : decode prog_16_method_11_code 7 = .ok (.return_, 1) := by decide +kernel
theorem dJ5_inflate_da8c8_8 : decode prog_16_method_11_code 8 = .ok (.aload_n 0, 1) := by decide +kernel
theorem dJ5_inflate_da8c8_9 : decode prog_16_method_11_code 9 = .ok (.getfield 15, 3) := by decide +kernel
theorem dJ5_inflate_da8c8_12 : decode prog_16_method_11_code 12 = .ok (.arraylength, 1) := by decide +kernel
theorem dJ5_inflate_da8c8_13 : decode prog_16_method_11_code 13 = .ok (.invokestatic 26, 3) := by decide +kernel
theorem dJ5_inflate_da8c8_16 : decode prog_16_method_11_code 16 = .ok (.astore_n 1, 1) := by decide +kernel
theorem dJ5_inflate_da8c8_17 : decode prog_16_method_11_code 17 = .ok (.aload_n 0, 1) := by decide +kernel
theorem dJ5_inflate_da8c8_18 : decode prog_16_method_11_code 18 = .ok (.getfield 15, 3) := by decide +kernel
theorem dJ5_inflate_da8c8_21 : decode prog_16_method_11_code 21 = .ok (.iconst 0, 1) := by decide +kernel
theorem dJ5_inflate_da8c8_22 : decode prog_16_method_11_code 22 = .ok (.aload_n 1, 1) := by decide +kernel
theorem dJ5_inflate_da8c8_23 : decode prog_16_method_11_code 23 = .ok (.iconst 0, 1) := by decide +kernel
theorem dJ5_inflate_da8c8_24 : decode prog_16_method_11_code 24 = .ok (.aload_n 0, 1) := by decide +kernel
theorem dJ5_inflate_da8c8_25 : decode prog_16_method_11_code 25 = .ok (.getfield 79, 3) := by decide +kernel
theorem dJ5_inflate_da8c8_28 : decode prog_16_method_11_code 28 = .ok (.invokestatic 125, 3) := by decide +kernel
theorem dJ5_inflate_da8c8_31 : decode prog_16_method_11_code 31 = .ok (.aload_n 0, 1) := by decide +kernel
theorem dJ5_inflate_da8c8_32 : decode prog_16_method_11_code 32 = .ok (.aload_n 1, 1) := by decide +kernel
theorem dJ5_inflate_da8c8_33 : decode prog_16_method_11_code 33 = .ok (.putfield 15, 3) := by decide +kernel
theorem dJ5_inflate_da8c8_36 : decode prog_16_method_11_code 36 = .ok (.aload_n 0, 1) := by decide +kernel
theorem dJ5_inflate_da8c8_37 : decode prog_16_method_11_code 37 = .ok (.iconst 1, 1) := by decide +kernel
theorem dJ5_inflate_da8c8_38 : decode prog_16_method_11_code 38 = .ok (.putfield 22, 3) := by decide +kernel
theorem dJ5_inflate_da8c8_41 : decode prog_16_method_11_code 41 = .ok (.return_, 1) := by decide +kernel
theorem dJ5_append_cf1ce_0 : decode prog_16_method_22_code 0 = .ok (.aload_n 1, 1) := by decide +kernel
theorem dJ5_append_cf1ce_1 : decode prog_16_method_22_code 1 = .ok (.ifnonnull 8, 3) := by decide +kernel
theorem dJ5_append_cf1ce_4 : decode prog_16_method_22_code 4 = .ok (.aload_n 0, 1) := by decide +kernel
theorem dJ5_append_cf1ce_5 : decode prog_16_method_22_code 5 = .ok (.invokevirtual 204, 3) := by decide +kernel
theorem dJ5_append_cf1ce_8 : decode prog_16_method_22_code 8 = .ok (.areturn, 1) := by decide +kernel
theorem dJ5_append_cf1ce_9 : decode prog_16_method_22_code 9 = .ok (.aload_n 1, 1) := by decide +kernel
theorem dJ5_append_cf1ce_10 : decode prog_16_method_22_code 10 = .ok (.invokevirtual 32, 3) := by decide +kernel
theorem dJ5_append_cf1ce_13 : decode prog_16_method_22_code 13 = .ok (.istore_n 2, 1) := by decide +kernel
theorem dJ5_append_cf1ce_14 : decode prog_16_method_22_code 14 = .ok (.aload_n 0, 1) := by decide +kernel
theorem dJ5_append_cf1ce_15 : decode prog_16_method_22_code 15 = .ok (.aload_n 0, 1) := by decide +kernel
theorem dJ5_append_cf1ce_16 : decode prog_16_method_22_code 16 = .ok (.getfield 79, 3) := by decide +kernel
theorem dJ5_append_cf1ce_19 : decode prog_16_method_22_code 19 = .ok (.iload_n 2, 1) := by decide +kernel
theorem dJ5_append_cf1ce_20 : decode prog_16_method_22_code 20 = .ok (.iadd, 1) := by decide +kernel
theorem dJ5_append_cf1ce_21 : decode prog_16_method_22_code 21 = .ok (.invokevirtual 100, 3) := by decide +kernel
theorem dJ5_append_cf1ce_24 : decode prog_16_method_22_code 24 = .ok (.aload_n 0, 1) := by decide +kernel
theorem dJ5_append_cf1ce_25 : decode prog_16_method_22_code 25 = .ok (.aload_n 0, 1) := by decide +kernel
theorem dJ5_append_cf1ce_26 : decode prog_16_method_22_code 26 = .ok (.getfield 79, 3) := by decide +kernel
theorem dJ5_append_cf1ce_29 : decode prog_16_method_22_code 29 = .ok (.aload_n 1, 1) := by decide +kernel
theorem dJ5_append_cf1ce_30 : decode prog_16_method_22_code 30 = .ok (.invokevirtual 208, 3) := by decide +kernel
theorem dJ5_append_cf1ce_33 : decode prog_16_method_22_code 33 = .ok (.aload_n 0, 1) := by decide +kernel
theorem dJ5_append_cf1ce_34 : decode prog_16_method_22_code 34 = .ok (.dup, 1) := by decide +kernel
theorem dJ5_append_cf1ce_35 : decode prog_16_method_22_code 35 = .ok (.getfield 79, 3) := by decide +kernel
theorem dJ5_append_cf1ce_38 : decode prog_16_method_22_code 38 = .ok (.iload_n 2, 1) := by decide +kernel
theorem dJ5_append_cf1ce_39 : decode prog_16_method_22_code 39 = .ok (.iadd, 1) := by decide +kernel
theorem dJ5_append_cf1ce_40 : decode prog_16_method_22_code 40 = .ok (.putfield 79, 3) := by decide +kernel
theorem dJ5_append_cf1ce_43 : decode prog_16_method_22_code 43 = .ok (.aload_n 0, 1) := by decide +kernel
theorem dJ5_append_cf1ce_44 : decode prog_16_method_22_code 44 = .ok (.areturn, 1) := by decide +kernel
theorem dJ5_appendNull_278bc_0 : decode prog_16_method_26_code 0 = .ok (.aload_n 0, 1) := by decide +kernel
theorem dJ5_appendNull_278bc_1 : decode prog_16_method_26_code 1 = .ok (.aload_n 0, 1) := by decide +kernel
theorem dJ5_appendNull_278bc_2 : decode prog_16_method_26_code 2 = .ok (.getfield 79, 3) := by decide +kernel
theorem dJ5_appendNull_278bc_5 : decode prog_16_method_26_code 5 = .ok (.iconst 4, 1) := by decide +kernel
theorem dJ5_appendNull_278bc_6 : decode prog_16_method_26_code 6 = .ok (.iadd, 1) := by decide +kernel
theorem dJ5_appendNull_278bc_7 : decode prog_16_method_26_code 7 = .ok (.invokevirtual 100, 3) := by decide +kernel
theorem dJ5_appendNull_278bc_10 : decode prog_16_method_26_code 10 = .ok (.aload_n 0, 1) := by decide +kernel
theorem dJ5_appendNull_278bc_11 : decode prog_16_method_26_code 11 = .ok (.getfield 79, 3) := by decide +kernel
theorem dJ5_appendNull_278bc_14 : decode prog_16_method_26_code 14 = .ok (.istore_n 1, 1) := by decide +kernel
theorem dJ5_appendNull_278bc_15 : decode prog_16_method_26_code 15 = .ok (.aload_n 0, 1) := by decide +kernel
theorem dJ5_appendNull_278bc_16 : decode prog_16_method_26_code 16 = .ok (.getfield 15, 3) := by decide +kernel
theorem dJ5_appendNull_278bc_19 : decode prog_16_method_26_code 19 = .ok (.astore_n 2, 1) := by decide +kernel
theorem dJ5_appendNull_278bc_20 : decode prog_16_method_26_code 20 = .ok (.aload_n 0, 1) := by decide +kernel
theorem dJ5_appendNull_278bc_21 : decode prog_16_method_26_code 21 = .ok (.invokevirtual 83, 3) := by decide +kernel
theorem dJ5_appendNull_278bc_24 : decode prog_16_method_26_code 24 = .ok (.ifCond .eq 38, 3) := by decide +kernel
theorem dJ5_appendNull_278bc_27 : decode prog_16_method_26_code 27 = .ok (.aload_n 2, 1) := by decide +kernel
theorem dJ5_appendNull_278bc_28 : decode prog_16_method_26_code 28 = .ok (.iload_n 1, 1) := by decide +kernel
theorem dJ5_appendNull_278bc_29 : decode prog_16_method_26_code 29 = .ok (.iinc 1 1, 3) := by decide +kernel
theorem dJ5_appendNull_278bc_32 : decode prog_16_method_26_code 32 = .ok (.bipush 110, 2) := by decide +kernel
theorem dJ5_appendNull_278bc_34 : decode prog_16_method_26_code 34 = .ok (.bastore, 1) := by decide +kernel
theorem dJ5_appendNull_278bc_35 : decode prog_16_method_26_code 35 = .ok (.aload_n 2, 1) := by decide +kernel
theorem dJ5_appendNull_278bc_36 : decode prog_16_method_26_code 36 = .ok (.iload_n 1, 1) := by decide +kernel
theorem dJ5_appendNull_278bc_37 : decode prog_16_method_26_code 37 = .ok (.iinc 1 1, 3) := by decide +kernel
theorem dJ5_appendNull_278bc_40 : decode prog_16_method_26_code 40 = .ok (.bipush 117, 2) := by decide +kernel
theorem dJ5_appendNull_278bc_42 : decode prog_16_method_26_code 42 = .ok (.bastore, 1) := by decide +kernel
theorem dJ5_appendNull_278bc_43 : decode prog_16_method_26_code 43 = .ok (.aload_n 2, 1) := by decide +kernel
theorem dJ5_appendNull_278bc_44 : decode prog_16_method_26_code 44 = .ok (.iload_n 1, 1) := by decide +kernel
theorem dJ5_appendNull_278bc_45 : decode prog_16_method_26_code 45 = .ok (.iinc 1 1, 3) := by decide +kernel
theorem dJ5_appendNull_278bc_48 : decode prog_16_method_26_code 48 = .ok (.bipush 108, 2) := by decide +kernel
theorem dJ5_appendNull_278bc_50 : decode prog_16_method_26_code 50 = .ok (.bastore, 1) := by decide +kernel
theorem dJ5_appendNull_278bc_51 : decode prog_16_method_26_code 51 = .ok (.aload_n 2, 1) := by decide +kernel
theorem dJ5_appendNull_278bc_52 : decode prog_16_method_26_code 52 = .ok (.iload_n 1, 1) := by decide +kernel
theorem dJ5_appendNull_278bc_53 : decode prog_16_method_26_code 53 = .ok (.iinc 1 1, 3) := by decide +kernel
theorem dJ5_appendNull_278bc_56 : decode prog_16_method_26_code 56 = .ok (.bipush 108, 2) := by decide +kernel
theorem dJ5_appendNull_278bc_58 : decode prog_16_method_26_code 58 = .ok (.bastore, 1) := by decide +kernel
theorem dJ5_appendNull_278bc_59 : decode prog_16_method_26_code 59 = .ok (.goto 17, 3) := by decide +kernel
theorem dJ5_appendNull_278bc_62 : decode prog_16_method_26_code 62 = .ok (.aload_n 2, 1) := by decide +kernel
theorem dJ5_appendNull_278bc_63 : decode prog_16_method_26_code 63 = .ok (.iload_n 1, 1) := by decide +kernel
theorem dJ5_appendNull_278bc_64 : decode prog_16_method_26_code 64 = .ok (.bipush 110, 2) := by decide +kernel
theorem dJ5_appendNull_278bc_66 : decode prog_16_method_26_code 66 = .ok (.bipush 117, 2) := by decide +kernel
theorem dJ5_appendNull_278bc_68 : decode prog_16_method_26_code 68 = .ok (.bipush 108, 2) := by decide +kernel
theorem dJ5_appendNull_278bc_70 : decode prog_16_method_26_code 70 = .ok (.bipush 108, 2) := by decide +kernel
theorem dJ5_appendNull_278bc_72 : decode prog_16_method_26_code 72 = .ok (.invokestatic 226, 3) := by decide +kernel
theorem dJ5_appendNull_278bc_75 : decode prog_16_method_26_code 75 = .ok (.istore_n 1, 1) := by decide +kernel
theorem dJ5_appendNull_278bc_76 : decode prog_16_method_26_code 76 = .ok (.aload_n 0, 1) := by decide +kernel
theorem dJ5_appendNull_278bc_77 : decode prog_16_method_26_code 77 = .ok (.iload_n 1, 1) := by decide +kernel
theorem dJ5_appendNull_278bc_78 : decode prog_16_method_26_code 78 = .ok (.putfield 79, 3) := by decide +kernel
theorem dJ5_appendNull_278bc_81 : decode prog_16_method_26_code 81 = .ok (.aload_n 0, 1) := by decide +kernel
theorem dJ5_appendNull_278bc_82 : decode prog_16_method_26_code 82 = .ok (.areturn, 1) := by decide +kernel
theorem dJ5_append_c97b9_0 : decode prog_16_method_32_code 0 = .ok (.aload_n 0, 1) := by decide +kernel
theorem dJ5_append_c97b9_1 : decode prog_16_method_32_code 1 = .ok (.getfield 79, 3) := by decide +kernel
theorem dJ5_append_c97b9_4 : decode prog_16_method_32_code 4 = .ok (.istore_n 2, 1) := by decide +kernel
theorem dJ5_append_c97b9_5 : decode prog_16_method_32_code 5 = .ok (.iload_n 2, 1) := by decide +kernel
theorem dJ5_append_c97b9_6 : decode prog_16_method_32_code 6 = .ok (.iload_n 1, 1) := by decide +kernel
theorem dJ5_append_c97b9_7 : decode prog_16_method_32_code 7 = .ok (.invokestatic 245, 3) := by decide +kernel
theorem dJ5_append_c97b9_10 : decode prog_16_method_32_code 10 = .ok (.iadd, 1) := by decide +kernel
theorem dJ5_append_c97b9_11 : decode prog_16_method_32_code 11 = .ok (.istore_n 3, 1) := by decide +kernel
theorem dJ5_append_c97b9_12 : decode prog_16_method_32_code 12 = .ok (.aload_n 0, 1) := by decide +kernel
theorem dJ5_append_c97b9_13 : decode prog_16_method_32_code 13 = .ok (.iload_n 3, 1) := by decide +kernel
theorem dJ5_append_c97b9_14 : decode prog_16_method_32_code 14 = .ok (.invokevirtual 100, 3) := by decide +kernel
theorem dJ5_append_c97b9_17 : decode prog_16_method_32_code 17 = .ok (.aload_n 0, 1) := by decide +kernel
theorem dJ5_append_c97b9_18 : decode prog_16_method_32_code 18 = .ok (.invokevirtual 83, 3) := by decide +kernel
theorem dJ5_append_c97b9_21 : decode prog_16_method_32_code 21 = .ok (.ifCond .eq 16, 3) := by decide +kernel
theorem dJ5_append_c97b9_24 : decode prog_16_method_32_code 24 = .ok (.iload_n 1, 1) := by decide +kernel
theorem dJ5_append_c97b9_25 : decode prog_16_method_32_code 25 = .ok (.iload_n 3, 1) := by decide +kernel
theorem dJ5_append_c97b9_26 : decode prog_16_method_32_code 26 = .ok (.aload_n 0, 1) := by decide +kernel
theorem dJ5_append_c97b9_27 : decode prog_16_method_32_code 27 = .ok (.getfield 15, 3) := by decide +kernel
theorem dJ5_append_c97b9_30 : decode prog_16_method_32_code 30 = .ok (.invokestatic 248, 3) := by decide +kernel
theorem dJ5_append_c97b9_33 : decode prog_16_method_32_code 33 = .ok (.pop, 1) := by decide +kernel
theorem dJ5_append_c97b9_34 : decode prog_16_method_32_code 34 = .ok (.goto 14, 3) := by decide +kernel
theorem dJ5_append_c97b9_37 : decode prog_16_method_32_code 37 = .ok (.iload_n 1, 1) := by decide +kernel
theorem dJ5_append_c97b9_38 : decode prog_16_method_32_code 38 = .ok (.iload_n 2, 1) := by decide +kernel
theorem dJ5_append_c97b9_39 : decode prog_16_method_32_code 39 = .ok (.iload_n 3, 1) := by decide +kernel
theorem dJ5_append_c97b9_40 : decode prog_16_method_32_code 40 = .ok (.aload_n 0, 1) := by decide +kernel
theorem dJ5_append_c97b9_41 : decode prog_16_method_32_code 41 = .ok (.getfield 15, 3) := by decide +kernel
theorem dJ5_append_c97b9_44 : decode prog_16_method_32_code 44 = .ok (.invokestatic 251, 3) := by decide +kernel
theorem dJ5_append_c97b9_47 : decode prog_16_method_32_code 47 = .ok (.pop, 1) := by decide +kernel
theorem dJ5_append_c97b9_48 : decode prog_16_method_32_code 48 = .ok (.aload_n 0, 1) := by decide +kernel
theorem dJ5_append_c97b9_49 : decode prog_16_method_32_code 49 = .ok (.iload_n 3, 1) := by decide +kernel
theorem dJ5_append_c97b9_50 : decode prog_16_method_32_code 50 = .ok (.putfield 79, 3) := by decide +kernel
theorem dJ5_append_c97b9_53 : decode prog_16_method_32_code 53 = .ok (.aload_n 0, 1) := by decide +kernel
theorem dJ5_append_c97b9_54 : decode prog_16_method_32_code 54 = .ok (.areturn, 1) := by decide +kernel
theorem dJ5_getValue_6d5f1_0 : decode prog_16_method_64_code 0 = .ok (.aload_n 0, 1) := by decide +kernel
theorem dJ5_getValue_6d5f1_1 : decode prog_16_method_64_code 1 = .ok (.getfield 15, 3) := by decide +kernel
theorem dJ5_getValue_6d5f1_4 : decode prog_16_method_64_code 4 = .ok (.areturn, 1) := by decide +kernel
theorem dJ5_isLatin1_aae02_0 : decode prog_16_method_68_code 0 = .ok (.getstatic 18, 3) := by decide +kernel
theorem dJ5_isLatin1_aae02_3 : decode prog_16_method_68_code 3 = .ok (.ifCond .eq 14, 3) := by decide +kernel
theorem dJ5_isLatin1_aae02_6 : decode prog_16_method_68_code 6 = .ok (.aload_n 0, 1) := by decide +kernel
theorem dJ5_isLatin1_aae02_7 : decode prog_16_method_68_code 7 = .ok (.getfield 22, 3) := by decide +kernel
theorem dJ5_isLatin1_aae02_10 : decode prog_16_method_68_code 10 = .ok (.ifCond .ne 7, 3) := by decide +kernel
theorem dJ5_isLatin1_aae02_13 : decode prog_16_method_68_code 13 = .ok (.iconst 1, 1) := by decide +kernel
theorem dJ5_isLatin1_aae02_14 : decode prog_16_method_68_code 14 = .ok (.goto 4, 3) := by decide +kernel
theorem dJ5_isLatin1_aae02_17 : decode prog_16_method_68_code 17 = .ok (.iconst 0, 1) := by decide +kernel
theorem dJ5_isLatin1_aae02_18 : decode prog_16_method_68_code 18 = .ok (.ireturn, 1) := by decide +kernel
theorem dJ5_inflateIfNeededFor_a7421_0 : decode prog_16_method_71_code 0 = .ok (.getstatic 18, 3) := by decide +kernel
theorem dJ5_inflateIfNeededFor_a7421_3 : decode prog_16_method_71_code 3 = .ok (.ifCond .eq 18, 3) := by decide +kernel
theorem dJ5_inflateIfNeededFor_a7421_6 : decode prog_16_method_71_code 6 = .ok (.aload_n 0, 1) := by decide +kernel
theorem dJ5_inflateIfNeededFor_a7421_7 : decode prog_16_method_71_code 7 = .ok (.getfield 22, 3) := by decide +kernel
theorem dJ5_inflateIfNeededFor_a7421_10 : decode prog_16_method_71_code 10 = .ok (.aload_n 1, 1) := by decide +kernel
theorem dJ5_inflateIfNeededFor_a7421_11 : decode prog_16_method_71_code 11 = .ok (.invokevirtual 40, 3) := by decide +kernel
theorem dJ5_inflateIfNeededFor_a7421_14 : decode prog_16_method_71_code 14 = .ok (.if_icmp .eq 7, 3) := by decide +kernel
theorem dJ5_inflateIfNeededFor_a7421_17 : decode prog_16_method_71_code 17 = .ok (.aload_n 0, 1) := by decide +kernel
theorem dJ5_inflateIfNeededFor_a7421_18 : decode prog_16_method_71_code 18 = .ok (.invokevirtual 195, 3) := by decide +kernel
theorem dJ5_inflateIfNeededFor_a7421_21 : decode prog_16_method_71_code 21 = .ok (.return_, 1) := by decide +kernel
theorem dJ5_putStringAt_47b60_0 : decode prog_16_method_73_code 0 = .ok (.aload_n 0, 1) := by decide +kernel
theorem dJ5_putStringAt_47b60_1 : decode prog_16_method_73_code 1 = .ok (.aload_n 2, 1) := by decide +kernel
theorem dJ5_putStringAt_47b60_2 : decode prog_16_method_73_code 2 = .ok (.invokevirtual 397, 3) := by decide +kernel
theorem dJ5_putStringAt_47b60_5 : decode prog_16_method_73_code 5 = .ok (.aload_n 2, 1) := by decide +kernel
theorem dJ5_putStringAt_47b60_6 : decode prog_16_method_73_code 6 = .ok (.aload_n 0, 1) := by decide +kernel
theorem dJ5_putStringAt_47b60_7 : decode prog_16_method_73_code 7 = .ok (.getfield 15, 3) := by decide +kernel
theorem dJ5_putStringAt_47b60_10 : decode prog_16_method_73_code 10 = .ok (.iload_n 1, 1) := by decide +kernel
theorem dJ5_putStringAt_47b60_11 : decode prog_16_method_73_code 11 = .ok (.aload_n 0, 1) := by decide +kernel
theorem dJ5_putStringAt_47b60_12 : decode prog_16_method_73_code 12 = .ok (.getfield 22, 3) := by decide +kernel
theorem dJ5_putStringAt_47b60_15 : decode prog_16_method_73_code 15 = .ok (.invokevirtual 399, 3) := by decide +kernel
theorem dJ5_putStringAt_47b60_18 : decode prog_16_method_73_code 18 = .ok (.return_, 1) := by decide +kernel
theorem dJ6_getChars_ba4f3_0 : decode prog_18_method_12_code 0 = .ok (.iload_n 1, 1) := by decide +kernel
theorem dJ6_getChars_ba4f3_1 : decode prog_18_method_12_code 1 = .ok (.istore 5, 2) := by decide +kernel
theorem dJ6_getChars_ba4f3_3 : decode prog_18_method_12_code 3 = .ok (.iload_n 0, 1) := by decide +kernel
theorem dJ6_getChars_ba4f3_4 : decode prog_18_method_12_code 4 = .ok (.ifCond .ge 7, 3) := by decide +kernel
theorem dJ6_getChars_ba4f3_7 : decode prog_18_method_12_code 7 = .ok (.iconst 1, 1) := by decide +kernel
theorem dJ6_getChars_ba4f3_8 : decode prog_18_method_12_code 8 = .ok (.goto 4, 3) := by decide +kernel
theorem dJ6_getChars_ba4f3_11 : decode prog_18_method_12_code 11 = .ok (.iconst 0, 1) := by decide +kernel
theorem dJ6_getChars_ba4f3_12 : decode prog_18_method_12_code 12 = .ok (.istore 6, 2) := by decide +kernel
theorem dJ6_getChars_ba4f3_14 : decode prog_18_method_12_code 14 = .ok (.iload 6, 2) := by decide +kernel
theorem dJ6_getChars_ba4f3_16 : decode prog_18_method_12_code 16 = .ok (.ifCond .ne 6, 3) := by decide +kernel
theorem dJ6_getChars_ba4f3_19 : decode prog_18_method_12_code 19 = .ok (.iload_n 0, 1) := by decide +kernel
theorem dJ6_getChars_ba4f3_20 : decode prog_18_method_12_code 20 = .ok (.ineg, 1) := by decide +kernel
theorem dJ6_getChars_ba4f3_21 : decode prog_18_method_12_code 21 = .ok (.istore_n 0, 1) := by decide +kernel
theorem dJ6_getChars_ba4f3_22 : decode prog_18_method_12_code 22 = .ok (.iload_n 0, 1) := by decide +kernel
theorem dJ6_getChars_ba4f3_23 : decode prog_18_method_12_code 23 = .ok (.bipush (-100), 2) := by decide +kernel
theorem dJ6_getChars_ba4f3_25 : decode prog_18_method_12_code 25 = .ok (.if_icmp .gt 47, 3) := by decide +kernel
theorem dJ6_getChars_ba4f3_28 : decode prog_18_method_12_code 28 = .ok (.iload_n 0, 1) := by decide +kernel
theorem dJ6_getChars_ba4f3_29 : decode prog_18_method_12_code 29 = .ok (.bipush 100, 2) := by decide +kernel
theorem dJ6_getChars_ba4f3_31 : decode prog_18_method_12_code 31 = .ok (.idiv, 1) := by decide +kernel
theorem dJ6_getChars_ba4f3_32 : decode prog_18_method_12_code 32 = .ok (.istore_n 3, 1) := by decide +kernel
theorem dJ6_getChars_ba4f3_33 : decode prog_18_method_12_code 33 = .ok (.iload_n 3, 1) := by decide +kernel
theorem dJ6_getChars_ba4f3_34 : decode prog_18_method_12_code 34 = .ok (.bipush 100, 2) := by decide +kernel
theorem dJ6_getChars_ba4f3_36 : decode prog_18_method_12_code 36 = .ok (.imul, 1) := by decide +kernel
theorem dJ6_getChars_ba4f3_37 : decode prog_18_method_12_code 37 = .ok (.iload_n 0, 1) := by decide +kernel
theorem dJ6_getChars_ba4f3_38 : decode prog_18_method_12_code 38 = .ok (.isub, 1) := by decide +kernel
theorem dJ6_getChars_ba4f3_39 : decode prog_18_method_12_code 39 = .ok (.istore 4, 2) := by decide +kernel
theorem dJ6_getChars_ba4f3_41 : decode prog_18_method_12_code 41 = .ok (.iload_n 3, 1) := by decide +kernel
theorem dJ6_getChars_ba4f3_42 : decode prog_18_method_12_code 42 = .ok (.istore_n 0, 1) := by decide +kernel
theorem dJ6_getChars_ba4f3_43 : decode prog_18_method_12_code 43 = .ok (.aload_n 2, 1) := by decide +kernel
theorem dJ6_getChars_ba4f3_44 : decode prog_18_method_12_code 44 = .ok (.iinc 5 (-1), 3) := by decide +kernel
theorem dJ6_getChars_ba4f3_47 : decode prog_18_method_12_code 47 = .ok (.iload 5, 2) := by decide +kernel
theorem dJ6_getChars_ba4f3_49 : decode prog_18_method_12_code 49 = .ok (.getstatic 83, 3) := by decide +kernel
theorem dJ6_getChars_ba4f3_52 : decode prog_18_method_12_code 52 = .ok (.iload 4, 2) := by decide +kernel
theorem dJ6_getChars_ba4f3_54 : decode prog_18_method_12_code 54 = .ok (.baload, 1) := by decide +kernel
theorem dJ6_getChars_ba4f3_55 : decode prog_18_method_12_code 55 = .ok (.bastore, 1) := by decide +kernel
theorem dJ6_getChars_ba4f3_56 : decode prog_18_method_12_code 56 = .ok (.aload_n 2, 1) := by decide +kernel
theorem dJ6_getChars_ba4f3_57 : decode prog_18_method_12_code 57 = .ok (.iinc 5 (-1), 3) := by decide +kernel
theorem dJ6_getChars_ba4f3_60 : decode prog_18_method_12_code 60 = .ok (.iload 5, 2) := by decide +kernel
theorem dJ6_getChars_ba4f3_62 : decode prog_18_method_12_code 62 = .ok (.getstatic 87, 3) := by decide +kernel
theorem dJ6_getChars_ba4f3_65 : decode prog_18_method_12_code 65 = .ok (.iload 4, 2) := by decide +kernel
theorem dJ6_getChars_ba4f3_67 : decode prog_18_method_12_code 67 = .ok (.baload, 1) := by decide +kernel
theorem dJ6_getChars_ba4f3_68 : decode prog_18_method_12_code 68 = .ok (.bastore, 1) := by decide +kernel
theorem dJ6_getChars_ba4f3_69 : decode prog_18_method_12_code 69 = .ok (.goto (-47), 3) := by decide +kernel
theorem dJ6_getChars_ba4f3_72 : decode prog_18_method_12_code 72 = .ok (.aload_n 2, 1) := by decide +kernel
theorem dJ6_getChars_ba4f3_73 : decode prog_18_method_12_code 73 = .ok (.iinc 5 (-1), 3) := by decide +kernel
theorem dJ6_getChars_ba4f3_76 : decode prog_18_method_12_code 76 = .ok (.iload 5, 2) := by decide +kernel
theorem dJ6_getChars_ba4f3_78 : decode prog_18_method_12_code 78 = .ok (.getstatic 83, 3) := by decide +kernel
theorem dJ6_getChars_ba4f3_81 : decode prog_18_method_12_code 81 = .ok (.iload_n 0, 1) := by decide +kernel
theorem dJ6_getChars_ba4f3_82 : decode prog_18_method_12_code 82 = .ok (.ineg, 1) := by decide +kernel
theorem dJ6_getChars_ba4f3_83 : decode prog_18_method_12_code 83 = .ok (.baload, 1) := by decide +kernel
theorem dJ6_getChars_ba4f3_84 : decode prog_18_method_12_code 84 = .ok (.bastore, 1) := by decide +kernel
theorem dJ6_getChars_ba4f3_85 : decode prog_18_method_12_code 85 = .ok (.iload_n 0, 1) := by decide +kernel
theorem dJ6_getChars_ba4f3_86 : decode prog_18_method_12_code 86 = .ok (.bipush (-9), 2) := by decide +kernel
theorem dJ6_getChars_ba4f3_88 : decode prog_18_method_12_code 88 = .ok (.if_icmp .ge 16, 3) := by decide +kernel
theorem dJ6_getChars_ba4f3_91 : decode prog_18_method_12_code 91 = .ok (.aload_n 2, 1) := by decide +kernel
theorem dJ6_getChars_ba4f3_92 : decode prog_18_method_12_code 92 = .ok (.iinc 5 (-1), 3) := by decide +kernel
theorem dJ6_getChars_ba4f3_95 : decode prog_18_method_12_code 95 = .ok (.iload 5, 2) := by decide +kernel
theorem dJ6_getChars_ba4f3_97 : decode prog_18_method_12_code 97 = .ok (.getstatic 87, 3) := by decide +kernel
theorem dJ6_getChars_ba4f3_100 : decode prog_18_method_12_code 100 = .ok (.iload_n 0, 1) := by decide +kernel
theorem dJ6_getChars_ba4f3_101 : decode prog_18_method_12_code 101 = .ok (.ineg, 1) := by decide +kernel
theorem dJ6_getChars_ba4f3_102 : decode prog_18_method_12_code 102 = .ok (.baload, 1) := by decide +kernel
theorem dJ6_getChars_ba4f3_103 : decode prog_18_method_12_code 103 = .ok (.bastore, 1) := by decide +kernel
theorem dJ6_getChars_ba4f3_104 : decode prog_18_method_12_code 104 = .ok (.iload 6, 2) := by decide +kernel
theorem dJ6_getChars_ba4f3_106 : decode prog_18_method_12_code 106 = .ok (.ifCond .eq 12, 3) := by decide +kernel
theorem dJ6_getChars_ba4f3_109 : decode prog_18_method_12_code 109 = .ok (.aload_n 2, 1) := by decide +kernel
theorem dJ6_getChars_ba4f3_110 : decode prog_18_method_12_code 110 = .ok (.iinc 5 (-1), 3) := by decide +kernel
theorem dJ6_getChars_ba4f3_113 : decode prog_18_method_12_code 113 = .ok (.iload 5, 2) := by decide +kernel
theorem dJ6_getChars_ba4f3_115 : decode prog_18_method_12_code 115 = .ok (.bipush 45, 2) := by decide +kernel
theorem dJ6_getChars_ba4f3_117 : decode prog_18_method_12_code 117 = .ok (.bastore, 1) := by decide +kernel
theorem dJ6_getChars_ba4f3_118 : decode prog_18_method_12_code 118 = .ok (.iload 5, 2) := by decide +kernel
theorem dJ6_getChars_ba4f3_120 : decode prog_18_method_12_code 120 = .ok (.ireturn, 1) := by decide +kernel
theorem dJ6_stringSize_0f7a4_0 : decode prog_18_method_13_code 0 = .ok (.iconst 1, 1) := by decide +kernel
theorem dJ6_stringSize_0f7a4_1 : decode prog_18_method_13_code 1 = .ok (.istore_n 1, 1) := by decide +kernel
theorem dJ6_stringSize_0f7a4_2 : decode prog_18_method_13_code 2 = .ok (.iload_n 0, 1) := by decide +kernel
theorem dJ6_stringSize_0f7a4_3 : decode prog_18_method_13_code 3 = .ok (.ifCond .lt 8, 3) := by decide +kernel
theorem dJ6_stringSize_0f7a4_6 : decode prog_18_method_13_code 6 = .ok (.iconst 0, 1) := by decide +kernel
theorem dJ6_stringSize_0f7a4_7 : decode prog_18_method_13_code 7 = .ok (.istore_n 1, 1) := by decide +kernel
theorem dJ6_stringSize_0f7a4_8 : decode prog_18_method_13_code 8 = .ok (.iload_n 0, 1) := by decide +kernel
theorem dJ6_stringSize_0f7a4_9 : decode prog_18_method_13_code 9 = .ok (.ineg, 1) := by decide +kernel
theorem dJ6_stringSize_0f7a4_10 : decode prog_18_method_13_code 10 = .ok (.istore_n 0, 1) := by decide +kernel
theorem dJ6_stringSize_0f7a4_11 : decode prog_18_method_13_code 11 = .ok (.bipush (-10), 2) := by decide +kernel
theorem dJ6_stringSize_0f7a4_13 : decode prog_18_method_13_code 13 = .ok (.istore_n 2, 1) := by decide +kernel
theorem dJ6_stringSize_0f7a4_14 : decode prog_18_method_13_code 14 = .ok (.iconst 1, 1) := by decide +kernel
theorem dJ6_stringSize_0f7a4_15 : decode prog_18_method_13_code 15 = .ok (.istore_n 3, 1) := by decide +kernel
theorem dJ6_stringSize_0f7a4_16 : decode prog_18_method_13_code 16 = .ok (.iload_n 3, 1) := by decide +kernel
theorem dJ6_stringSize_0f7a4_17 : decode prog_18_method_13_code 17 = .ok (.bipush 10, 2) := by decide +kernel
theorem dJ6_stringSize_0f7a4_19 : decode prog_18_method_13_code 19 = .ok (.if_icmp .ge 23, 3) := by decide +kernel
theorem dJ6_stringSize_0f7a4_22 : decode prog_18_method_13_code 22 = .ok (.iload_n 0, 1) := by decide +kernel
theorem dJ6_stringSize_0f7a4_23 : decode prog_18_method_13_code 23 = .ok (.iload_n 2, 1) := by decide +kernel
theorem dJ6_stringSize_0f7a4_24 : decode prog_18_method_13_code 24 = .ok (.if_icmp .le 7, 3) := by decide +kernel
theorem dJ6_stringSize_0f7a4_27 : decode prog_18_method_13_code 27 = .ok (.iload_n 3, 1) := by decide +kernel
theorem dJ6_stringSize_0f7a4_28 : decode prog_18_method_13_code 28 = .ok (.iload_n 1, 1) := by decide +kernel
theorem dJ6_stringSize_0f7a4_29 : decode prog_18_method_13_code 29 = .ok (.iadd, 1) := by decide +kernel
theorem dJ6_stringSize_0f7a4_30 : decode prog_18_method_13_code 30 = .ok (.ireturn, 1) := by decide +kernel
theorem dJ6_stringSize_0f7a4_31 : decode prog_18_method_13_code 31 = .ok (.bipush 10, 2) := by decide +kernel
theorem dJ6_stringSize_0f7a4_33 : decode prog_18_method_13_code 33 = .ok (.iload_n 2, 1) := by decide +kernel
theorem dJ6_stringSize_0f7a4_34 : decode prog_18_method_13_code 34 = .ok (.imul, 1) := by decide +kernel
theorem dJ6_stringSize_0f7a4_35 : decode prog_18_method_13_code 35 = .ok (.istore_n 2, 1) := by decide +kernel
theorem dJ6_stringSize_0f7a4_36 : decode prog_18_method_13_code 36 = .ok (.iinc 3 1, 3) := by decide +kernel
theorem dJ6_stringSize_0f7a4_39 : decode prog_18_method_13_code 39 = .ok (.goto (-23), 3) := by decide +kernel
theorem dJ6_stringSize_0f7a4_42 : decode prog_18_method_13_code 42 = .ok (.bipush 10, 2) := by decide +kernel
theorem dJ6_stringSize_0f7a4_44 : decode prog_18_method_13_code 44 = .ok (.iload_n 1, 1) := by decide +kernel
theorem dJ6_stringSize_0f7a4_45 : decode prog_18_method_13_code 45 = .ok (.iadd, 1) := by decide +kernel
theorem dJ6_stringSize_0f7a4_46 : decode prog_18_method_13_code 46 = .ok (.ireturn, 1) := by decide +kernel
theorem dJ6_bitCount_0f7a4_0 : decode prog_18_method_49_code 0 = .ok (.iload_n 0, 1) := by decide +kernel
theorem dJ6_bitCount_0f7a4_1 : decode prog_18_method_49_code 1 = .ok (.iload_n 0, 1) := by decide +kernel
theorem dJ6_bitCount_0f7a4_2 : decode prog_18_method_49_code 2 = .ok (.iconst 1, 1) := by decide +kernel
theorem dJ6_bitCount_0f7a4_3 : decode prog_18_method_49_code 3 = .ok (.iushr, 1) := by decide +kernel
theorem dJ6_bitCount_0f7a4_4 : decode prog_18_method_49_code 4 = .ok (.ldc_w 265, 3) := by decide +kernel
theorem dJ6_bitCount_0f7a4_7 : decode prog_18_method_49_code 7 = .ok (.iand, 1) := by decide +kernel
theorem dJ6_bitCount_0f7a4_8 : decode prog_18_method_49_code 8 = .ok (.isub, 1) := by decide +kernel
theorem dJ6_bitCount_0f7a4_9 : decode prog_18_method_49_code 9 = .ok (.istore_n 0, 1) := by decide +kernel
theorem dJ6_bitCount_0f7a4_10 : decode prog_18_method_49_code 10 = .ok (.iload_n 0, 1) := by decide +kernel
theorem dJ6_bitCount_0f7a4_11 : decode prog_18_method_49_code 11 = .ok (.ldc_w 266, 3) := by decide +kernel
theorem dJ6_bitCount_0f7a4_14 : decode prog_18_method_49_code 14 = .ok (.iand, 1) := by decide +kernel
theorem dJ6_bitCount_0f7a4_15 : decode prog_18_method_49_code 15 = .ok (.iload_n 0, 1) := by decide +kernel
theorem dJ6_bitCount_0f7a4_16 : decode prog_18_method_49_code 16 = .ok (.iconst 2, 1) := by decide +kernel
theorem dJ6_bitCount_0f7a4_17 : decode prog_18_method_49_code 17 = .ok (.iushr, 1) := by decide +kernel
theorem dJ6_bitCount_0f7a4_18 : decode prog_18_method_49_code 18 = .ok (.ldc_w 266, 3) := by decide +kernel
theorem dJ6_bitCount_0f7a4_21 : decode prog_18_method_49_code 21 = .ok (.iand, 1) := by decide +kernel
theorem dJ6_bitCount_0f7a4_22 : decode prog_18_method_49_code 22 = .ok (.iadd, 1) := by decide +kernel
theorem dJ6_bitCount_0f7a4_23 : decode prog_18_method_49_code 23 = .ok (.istore_n 0, 1) := by decide +kernel
theorem dJ6_bitCount_0f7a4_24 : decode prog_18_method_49_code 24 = .ok (.iload_n 0, 1) := by decide +kernel
theorem dJ6_bitCount_0f7a4_25 : decode prog_18_method_49_code 25 = .ok (.iload_n 0, 1) := by decide +kernel
theorem dJ6_bitCount_0f7a4_26 : decode prog_18_method_49_code 26 = .ok (.iconst 4, 1) := by decide +kernel
theorem dJ6_bitCount_0f7a4_27 : decode prog_18_method_49_code 27 = .ok (.iushr, 1) := by decide +kernel
theorem dJ6_bitCount_0f7a4_28 : decode prog_18_method_49_code 28 = .ok (.iadd, 1) := by decide +kernel
theorem dJ6_bitCount_0f7a4_29 : decode prog_18_method_49_code 29 = .ok (.ldc_w 267, 3) := by decide +kernel
theorem dJ6_bitCount_0f7a4_32 : decode prog_18_method_49_code 32 = .ok (.iand, 1) := by decide +kernel
theorem dJ6_bitCount_0f7a4_33 : decode prog_18_method_49_code 33 = .ok (.istore_n 0, 1) := by decide +kernel
theorem dJ6_bitCount_0f7a4_34 : decode prog_18_method_49_code 34 = .ok (.iload_n 0, 1) := by decide +kernel
theorem dJ6_bitCount_0f7a4_35 : decode prog_18_method_49_code 35 = .ok (.iload_n 0, 1) := by decide +kernel
theorem dJ6_bitCount_0f7a4_36 : decode prog_18_method_49_code 36 = .ok (.bipush 8, 2) := by decide +kernel
theorem dJ6_bitCount_0f7a4_38 : decode prog_18_method_49_code 38 = .ok (.iushr, 1) := by decide +kernel
theorem dJ6_bitCount_0f7a4_39 : decode prog_18_method_49_code 39 = .ok (.iadd, 1) := by decide +kernel
theorem dJ6_bitCount_0f7a4_40 : decode prog_18_method_49_code 40 = .ok (.istore_n 0, 1) := by decide +kernel
theorem dJ6_bitCount_0f7a4_41 : decode prog_18_method_49_code 41 = .ok (.iload_n 0, 1) := by decide +kernel
theorem dJ6_bitCount_0f7a4_42 : decode prog_18_method_49_code 42 = .ok (.iload_n 0, 1) := by decide +kernel
theorem dJ6_bitCount_0f7a4_43 : decode prog_18_method_49_code 43 = .ok (.bipush 16, 2) := by decide +kernel
theorem dJ6_bitCount_0f7a4_45 : decode prog_18_method_49_code 45 = .ok (.iushr, 1) := by decide +kernel
theorem dJ6_bitCount_0f7a4_46 : decode prog_18_method_49_code 46 = .ok (.iadd, 1) := by decide +kernel
theorem dJ6_bitCount_0f7a4_47 : decode prog_18_method_49_code 47 = .ok (.istore_n 0, 1) := by decide +kernel
theorem dJ6_bitCount_0f7a4_48 : decode prog_18_method_49_code 48 = .ok (.iload_n 0, 1) := by decide +kernel
theorem dJ6_bitCount_0f7a4_49 : decode prog_18_method_49_code 49 = .ok (.bipush 63, 2) := by decide +kernel
theorem dJ6_bitCount_0f7a4_51 : decode prog_18_method_49_code 51 = .ok (.iand, 1) := by decide +kernel
theorem dJ6_bitCount_0f7a4_52 : decode prog_18_method_49_code 52 = .ok (.ireturn, 1) := by decide +kernel
theorem dJ9_max_7cf53_0 : decode prog_19_method_65_code 0 = .ok (.iload_n 0, 1) := by decide +kernel
theorem dJ9_max_7cf53_1 : decode prog_19_method_65_code 1 = .ok (.iload_n 1, 1) := by decide +kernel
theorem dJ9_max_7cf53_2 : decode prog_19_method_65_code 2 = .ok (.if_icmp .lt 7, 3) := by decide +kernel
theorem dJ9_max_7cf53_5 : decode prog_19_method_65_code 5 = .ok (.iload_n 0, 1) := by decide +kernel
theorem dJ9_max_7cf53_6 : decode prog_19_method_65_code 6 = .ok (.goto 4, 3) := by decide +kernel
theorem dJ9_max_7cf53_9 : decode prog_19_method_65_code 9 = .ok (.iload_n 1, 1) := by decide +kernel
theorem dJ9_max_7cf53_10 : decode prog_19_method_65_code 10 = .ok (.ireturn, 1) := by decide +kernel
theorem dJ9_min_7cf53_0 : decode prog_19_method_69_code 0 = .ok (.iload_n 0, 1) := by decide +kernel
theorem dJ9_min_7cf53_1 : decode prog_19_method_69_code 1 = .ok (.iload_n 1, 1) := by decide +kernel
theorem dJ9_min_7cf53_2 : decode prog_19_method_69_code 2 = .ok (.if_icmp .gt 7, 3) := by decide +kernel
theorem dJ9_min_7cf53_5 : decode prog_19_method_69_code 5 = .ok (.iload_n 0, 1) := by decide +kernel
theorem dJ9_min_7cf53_6 : decode prog_19_method_69_code 6 = .ok (.goto 4, 3) := by decide +kernel
theorem dJ9_min_7cf53_9 : decode prog_19_method_69_code 9 = .ok (.iload_n 1, 1) := by decide +kernel
theorem dJ9_min_7cf53_10 : decode prog_19_method_69_code 10 = .ok (.ireturn, 1) := by decide +kernel
theorem dJ0_init_81219_0 : decode prog_20_method_53_code 0 = .ok (.aload_n 0, 1) := by decide +kernel
theorem dJ0_init_81219_1 : decode prog_20_method_53_code 1 = .ok (.aload_n 1, 1) := by decide +kernel
theorem dJ0_init_81219_2 : decode prog_20_method_53_code 2 = .ok (.aconst_null, 1) := by decide +kernel
theorem dJ0_init_81219_3 : decode prog_20_method_53_code 3 = .ok (.invokespecial 489, 3) := by decide +kernel
theorem dJ0_init_81219_6 : decode prog_20_method_53_code 6 = .ok (.return_, 1) := by decide +kernel
theorem dJ0_length_8abf5_0 : decode prog_20_method_54_code 0 = .ok (.aload_n 0, 1) := by decide +kernel
theorem dJ0_length_8abf5_1 : decode prog_20_method_54_code 1 = .ok (.getfield 9, 3) := by decide +kernel
theorem dJ0_length_8abf5_4 : decode prog_20_method_54_code 4 = .ok (.arraylength, 1) := by decide +kernel
theorem dJ0_length_8abf5_5 : decode prog_20_method_54_code 5 = .ok (.aload_n 0, 1) := by decide +kernel
theorem dJ0_length_8abf5_6 : decode prog_20_method_54_code 6 = .ok (.invokevirtual 335, 3) := by decide +kernel
theorem dJ0_length_8abf5_9 : decode prog_20_method_54_code 9 = .ok (.ishr, 1) := by decide +kernel
theorem dJ0_length_8abf5_10 : decode prog_20_method_54_code 10 = .ok (.ireturn, 1) := by decide +kernel
theorem dJ0_charAt_5068e_0 : decode prog_20_method_56_code 0 = .ok (.aload_n 0, 1) := by decide +kernel
theorem dJ0_charAt_5068e_1 : decode prog_20_method_56_code 1 = .ok (.invokevirtual 492, 3) := by decide +kernel
theorem dJ0_charAt_5068e_4 : decode prog_20_method_56_code 4 = .ok (.ifCond .eq 12, 3) := by decide +kernel
theorem dJ0_charAt_5068e_7 : decode prog_20_method_56_code 7 = .ok (.aload_n 0, 1) := by decide +kernel
theorem dJ0_charAt_5068e_8 : decode prog_20_method_56_code 8 = .ok (.getfield 9, 3) := by decide +kernel
theorem dJ0_charAt_5068e_11 : decode prog_20_method_56_code 11 = .ok (.iload_n 1, 1) := by decide +kernel
theorem dJ0_charAt_5068e_12 : decode prog_20_method_56_code 12 = .ok (.invokestatic 495, 3) := by decide +kernel
theorem dJ0_charAt_5068e_15 : decode prog_20_method_56_code 15 = .ok (.ireturn, 1) := by decide +kernel
theorem dJ0_charAt_5068e_16 : decode prog_20_method_56_code 16 = .ok (.aload_n 0, 1) := by decide +kernel
theorem dJ0_charAt_5068e_17 : decode prog_20_method_56_code 17 = .ok (.getfield 9, 3) := by decide +kernel
theorem dJ0_charAt_5068e_20 : decode prog_20_method_56_code 20 = .ok (.iload_n 1, 1) := by decide +kernel
theorem dJ0_charAt_5068e_21 : decode prog_20_method_56_code 21 = .ok (.invokestatic 498, 3) := by decide +kernel
theorem dJ0_charAt_5068e_24 : decode prog_20_method_56_code 24 = .ok (.ireturn, 1) := by decide +kernel
theorem dJ0_getBytes_840e7_0 : decode prog_20_method_147_code 0 = .ok (.aload_n 0, 1) := by decide +kernel
theorem dJ0_getBytes_840e7_1 : decode prog_20_method_147_code 1 = .ok (.invokevirtual 335, 3) := by decide +kernel
theorem dJ0_getBytes_840e7_4 : decode prog_20_method_147_code 4 = .ok (.iload_n 3, 1) := by decide +kernel
theorem dJ0_getBytes_840e7_5 : decode prog_20_method_147_code 5 = .ok (.if_icmp .ne 23, 3) := by decide +kernel
theorem dJ0_getBytes_840e7_8 : decode prog_20_method_147_code 8 = .ok (.aload_n 0, 1) := by decide +kernel
theorem dJ0_getBytes_840e7_9 : decode prog_20_method_147_code 9 = .ok (.getfield 9, 3) := by decide +kernel
theorem dJ0_getBytes_840e7_12 : decode prog_20_method_147_code 12 = .ok (.iconst 0, 1) := by decide +kernel
theorem dJ0_getBytes_840e7_13 : decode prog_20_method_147_code 13 = .ok (.aload_n 1, 1) := by decide +kernel
theorem dJ0_getBytes_840e7_14 : decode prog_20_method_147_code 14 = .ok (.iload_n 2, 1) := by decide +kernel
theorem dJ0_getBytes_840e7_15 : decode prog_20_method_147_code 15 = .ok (.iload_n 3, 1) := by decide +kernel
theorem dJ0_getBytes_840e7_16 : decode prog_20_method_147_code 16 = .ok (.ishl, 1) := by decide +kernel
theorem dJ0_getBytes_840e7_17 : decode prog_20_method_147_code 17 = .ok (.aload_n 0, 1) := by decide +kernel
theorem dJ0_getBytes_840e7_18 : decode prog_20_method_147_code 18 = .ok (.getfield 9, 3) := by decide +kernel
theorem dJ0_getBytes_840e7_21 : decode prog_20_method_147_code 21 = .ok (.arraylength, 1) := by decide +kernel
theorem dJ0_getBytes_840e7_22 : decode prog_20_method_147_code 22 = .ok (.invokestatic 212, 3) := by decide +kernel
theorem dJ0_getBytes_840e7_25 : decode prog_20_method_147_code 25 = .ok (.goto 18, 3) := by decide +kernel
theorem dJ0_getBytes_840e7_28 : decode prog_20_method_147_code 28 = .ok (.aload_n 0, 1) := by decide +kernel
theorem dJ0_getBytes_840e7_29 : decode prog_20_method_147_code 29 = .ok (.getfield 9, 3) := by decide +kernel
theorem dJ0_getBytes_840e7_32 : decode prog_20_method_147_code 32 = .ok (.iconst 0, 1) := by decide +kernel
theorem dJ0_getBytes_840e7_33 : decode prog_20_method_147_code 33 = .ok (.aload_n 1, 1) := by decide +kernel
theorem dJ0_getBytes_840e7_34 : decode prog_20_method_147_code 34 = .ok (.iload_n 2, 1) := by decide +kernel
theorem dJ0_getBytes_840e7_35 : decode prog_20_method_147_code 35 = .ok (.aload_n 0, 1) := by decide +kernel
theorem dJ0_getBytes_840e7_36 : decode prog_20_method_147_code 36 = .ok (.getfield 9, 3) := by decide +kernel
theorem dJ0_getBytes_840e7_39 : decode prog_20_method_147_code 39 = .ok (.arraylength, 1) := by decide +kernel
theorem dJ0_getBytes_840e7_40 : decode prog_20_method_147_code 40 = .ok (.invokestatic 106, 3) := by decide +kernel
theorem dJ0_getBytes_840e7_43 : decode prog_20_method_147_code 43 = .ok (.return_, 1) := by decide +kernel
theorem dJ0_init_db425_0 : decode prog_20_method_150_code 0 = .ok (.aload_n 0, 1) := by decide +kernel
theorem dJ0_init_db425_1 : decode prog_20_method_150_code 1 = .ok (.invokespecial 1, 3) := by decide +kernel
theorem dJ0_init_db425_4 : decode prog_20_method_150_code 4 = .ok (.aload_n 1, 1) := by decide +kernel
theorem dJ0_init_db425_5 : decode prog_20_method_150_code 5 = .ok (.invokevirtual 552, 3) := by decide +kernel
theorem dJ0_init_db425_8 : decode prog_20_method_150_code 8 = .ok (.astore_n 3, 1) := by decide +kernel
theorem dJ0_init_db425_9 : decode prog_20_method_150_code 9 = .ok (.aload_n 1, 1) := by decide +kernel
theorem dJ0_init_db425_10 : decode prog_20_method_150_code 10 = .ok (.invokevirtual 549, 3) := by decide +kernel
theorem dJ0_init_db425_13 : decode prog_20_method_150_code 13 = .ok (.istore 4, 2) := by decide +kernel
theorem dJ0_init_db425_15 : decode prog_20_method_150_code 15 = .ok (.aload_n 1, 1) := by decide +kernel
theorem dJ0_init_db425_16 : decode prog_20_method_150_code 16 = .ok (.invokevirtual 1047, 3) := by decide +kernel
theorem dJ0_init_db425_19 : decode prog_20_method_150_code 19 = .ok (.ifCond .eq 22, 3) := by decide +kernel
theorem dJ0_init_db425_22 : decode prog_20_method_150_code 22 = .ok (.aload_n 0, 1) := by decide +kernel
theorem dJ0_init_db425_23 : decode prog_20_method_150_code 23 = .ok (.iconst 0, 1) := by decide +kernel
theorem dJ0_init_db425_24 : decode prog_20_method_150_code 24 = .ok (.putfield 15, 3) := by decide +kernel
theorem dJ0_init_db425_27 : decode prog_20_method_150_code 27 = .ok (.aload_n 0, 1) := by decide +kernel
theorem dJ0_init_db425_28 : decode prog_20_method_150_code 28 = .ok (.aload_n 3, 1) := by decide +kernel
theorem dJ0_init_db425_29 : decode prog_20_method_150_code 29 = .ok (.iconst 0, 1) := by decide +kernel
theorem dJ0_init_db425_30 : decode prog_20_method_150_code 30 = .ok (.iload 4, 2) := by decide +kernel
theorem dJ0_init_db425_32 : decode prog_20_method_150_code 32 = .ok (.invokestatic 54, 3) := by decide +kernel
theorem dJ0_init_db425_35 : decode prog_20_method_150_code 35 = .ok (.putfield 9, 3) := by decide +kernel
theorem dJ0_init_db425_38 : decode prog_20_method_150_code 38 = .ok (.goto 59, 3) := by decide +kernel
theorem dJ0_init_db425_41 : decode prog_20_method_150_code 41 = .ok (.getstatic 38, 3) := by decide +kernel
theorem dJ0_init_db425_44 : decode prog_20_method_150_code 44 = .ok (.ifCond .eq 35, 3) := by decide +kernel
theorem dJ0_init_db425_47 : decode prog_20_method_150_code 47 = .ok (.aload_n 1, 1) := by decide +kernel
theorem dJ0_init_db425_48 : decode prog_20_method_150_code 48 = .ok (.getfield 1048, 3) := by decide +kernel
theorem dJ0_init_db425_51 : decode prog_20_method_150_code 51 = .ok (.ifCond .eq 28, 3) := by decide +kernel
theorem dJ0_init_db425_54 : decode prog_20_method_150_code 54 = .ok (.aload_n 0, 1) := by decide +kernel
theorem dJ0_init_db425_55 : decode prog_20_method_150_code 55 = .ok (.aload_n 3, 1) := by decide +kernel
theorem dJ0_init_db425_56 : decode prog_20_method_150_code 56 = .ok (.iconst 0, 1) := by decide +kernel
theorem dJ0_init_db425_57 : decode prog_20_method_150_code 57 = .ok (.iload 4, 2) := by decide +kernel
theorem dJ0_init_db425_59 : decode prog_20_method_150_code 59 = .ok (.invokestatic 1051, 3) := by decide +kernel
theorem dJ0_init_db425_62 : decode prog_20_method_150_code 62 = .ok (.putfield 9, 3) := by decide +kernel
theorem dJ0_init_db425_65 : decode prog_20_method_150_code 65 = .ok (.aload_n 0, 1) := by decide +kernel
theorem dJ0_init_db425_66 : decode prog_20_method_150_code 66 = .ok (.aload_n 0, 1) := by decide +kernel
theorem dJ0_init_db425_67 : decode prog_20_method_150_code 67 = .ok (.getfield 9, 3) := by decide +kernel
theorem dJ0_init_db425_70 : decode prog_20_method_150_code 70 = .ok (.iload 4, 2) := by decide +kernel
theorem dJ0_init_db425_72 : decode prog_20_method_150_code 72 = .ok (.invokestatic 47, 3) := by decide +kernel
theorem dJ0_init_db425_75 : decode prog_20_method_150_code 75 = .ok (.putfield 15, 3) := by decide +kernel
theorem dJ0_init_db425_78 : decode prog_20_method_150_code 78 = .ok (.return_, 1) := by decide +kernel
theorem dJ0_init_db425_79 : decode prog_20_method_150_code 79 = .ok (.aload_n 0, 1) := by decide +kernel
theorem dJ0_init_db425_80 : decode prog_20_method_150_code 80 = .ok (.iconst 1, 1) := by decide +kernel
theorem dJ0_init_db425_81 : decode prog_20_method_150_code 81 = .ok (.putfield 15, 3) := by decide +kernel
theorem dJ0_init_db425_84 : decode prog_20_method_150_code 84 = .ok (.aload_n 0, 1) := by decide +kernel
theorem dJ0_init_db425_85 : decode prog_20_method_150_code 85 = .ok (.aload_n 3, 1) := by decide +kernel
theorem dJ0_init_db425_86 : decode prog_20_method_150_code 86 = .ok (.iconst 0, 1) := by decide +kernel
theorem dJ0_init_db425_87 : decode prog_20_method_150_code 87 = .ok (.iload 4, 2) := by decide +kernel
theorem dJ0_init_db425_89 : decode prog_20_method_150_code 89 = .ok (.iconst 1, 1) := by decide +kernel
theorem dJ0_init_db425_90 : decode prog_20_method_150_code 90 = .ok (.ishl, 1) := by decide +kernel
theorem dJ0_init_db425_91 : decode prog_20_method_150_code 91 = .ok (.invokestatic 54, 3) := by decide +kernel
theorem dJ0_init_db425_94 : decode prog_20_method_150_code 94 = .ok (.putfield 9, 3) := by decide +kernel
theorem dJ0_init_db425_97 : decode prog_20_method_150_code 97 = .ok (.return_, 1) := by decide +kernel
theorem dJ0_coder_7d493_0 : decode prog_20_method_152_code 0 = .ok (.getstatic 38, 3) := by decide +kernel
theorem dJ0_coder_7d493_3 : decode prog_20_method_152_code 3 = .ok (.ifCond .eq 10, 3) := by decide +kernel
theorem dJ0_coder_7d493_6 : decode prog_20_method_152_code 6 = .ok (.aload_n 0, 1) := by decide +kernel
theorem dJ0_coder_7d493_7 : decode prog_20_method_152_code 7 = .ok (.getfield 15, 3) := by decide +kernel
theorem dJ0_coder_7d493_10 : decode prog_20_method_152_code 10 = .ok (.goto 4, 3) := by decide +kernel
theorem dJ0_coder_7d493_13 : decode prog_20_method_152_code 13 = .ok (.iconst 1, 1) := by decide +kernel
theorem dJ0_coder_7d493_14 : decode prog_20_method_152_code 14 = .ok (.ireturn, 1) := by decide +kernel
theorem dJ0_isLatin1_aae02_0 : decode prog_20_method_154_code 0 = .ok (.getstatic 38, 3) := by decide +kernel
theorem dJ0_isLatin1_aae02_3 : decode prog_20_method_154_code 3 = .ok (.ifCond .eq 14, 3) := by decide +kernel
theorem dJ0_isLatin1_aae02_6 : decode prog_20_method_154_code 6 = .ok (.aload_n 0, 1) := by decide +kernel
theorem dJ0_isLatin1_aae02_7 : decode prog_20_method_154_code 7 = .ok (.getfield 15, 3) := by decide +kernel
theorem dJ0_isLatin1_aae02_10 : decode prog_20_method_154_code 10 = .ok (.ifCond .ne 7, 3) := by decide +kernel
theorem dJ0_isLatin1_aae02_13 : decode prog_20_method_154_code 13 = .ok (.iconst 1, 1) := by decide +kernel
theorem dJ0_isLatin1_aae02_14 : decode prog_20_method_154_code 14 = .ok (.goto 4, 3) := by decide +kernel
theorem dJ0_isLatin1_aae02_17 : decode prog_20_method_154_code 17 = .ok (.iconst 0, 1) := by decide +kernel
theorem dJ0_isLatin1_aae02_18 : decode prog_20_method_154_code 18 = .ok (.ireturn, 1) := by decide +kernel
theorem dJ0_checkIndex_df160_0 : decode prog_20_method_155_code 0 = .ok (.iload_n 0, 1) := by decide +kernel
theorem dJ0_checkIndex_df160_1 : decode prog_20_method_155_code 1 = .ok (.iload_n 1, 1) := by decide +kernel
theorem dJ0_checkIndex_df160_2 : decode prog_20_method_155_code 2 = .ok (.getstatic 1053, 3) := by decide +kernel
theorem dJ0_checkIndex_df160_5 : decode prog_20_method_155_code 5 = .ok (.invokestatic 1059, 3) := by decide +kernel
theorem dJ0_checkIndex_df160_8 : decode prog_20_method_155_code 8 = .ok (.pop, 1) := by decide +kernel
theorem dJ0_checkIndex_df160_9 : decode prog_20_method_155_code 9 = .ok (.return_, 1) := by decide +kernel
theorem dJ0_checkBoundsOffCount_cabcc_0 : decode prog_20_method_157_code 0 = .ok (.iload_n 0, 1) := by decide +kernel
theorem dJ0_checkBoundsOffCount_cabcc_1 : decode prog_20_method_157_code 1 = .ok (.iload_n 1, 1) := by decide +kernel
theorem dJ0_checkBoundsOffCount_cabcc_2 : decode prog_20_method_157_code 2 = .ok (.iload_n 2, 1) := by decide +kernel
theorem dJ0_checkBoundsOffCount_cabcc_3 : decode prog_20_method_157_code 3 = .ok (.getstatic 1053, 3) := by decide +kernel
theorem dJ0_checkBoundsOffCount_cabcc_6 : decode prog_20_method_157_code 6 = .ok (.invokestatic 1065, 3) := by decide +kernel
theorem dJ0_checkBoundsOffCount_cabcc_9 : decode prog_20_method_157_code 9 = .ok (.ireturn, 1) := by decide +kernel
theorem dJ0_checkBoundsBeginEnd_23922_0 : decode prog_20_method_158_code 0 = .ok (.iload_n 0, 1) := by decide +kernel
theorem dJ0_checkBoundsBeginEnd_23922_1 : decode prog_20_method_158_code 1 = .ok (.iload_n 1, 1) := by decide +kernel
theorem dJ0_checkBoundsBeginEnd_23922_2 : decode prog_20_method_158_code 2 = .ok (.iload_n 2, 1) := by decide +kernel
theorem dJ0_checkBoundsBeginEnd_23922_3 : decode prog_20_method_158_code 3 = .ok (.getstatic 1053, 3) := by decide +kernel
theorem dJ0_checkBoundsBeginEnd_23922_6 : decode prog_20_method_158_code 6 = .ok (.invokestatic 1062, 3) := by decide +kernel
theorem dJ0_checkBoundsBeginEnd_23922_9 : decode prog_20_method_158_code 9 = .ok (.pop, 1) := by decide +kernel
theorem dJ0_checkBoundsBeginEnd_23922_10 : decode prog_20_method_158_code 10 = .ok (.return_, 1) := by decide +kernel
theorem dJ4_init_da8c8_0 : decode prog_21_method_1_code 0 = .ok (.aload_n 0, 1) := by decide +kernel
theorem dJ4_init_da8c8_1 : decode prog_21_method_1_code 1 = .ok (.bipush 16, 2) := by decide +kernel
theorem dJ4_init_da8c8_3 : decode prog_21_method_1_code 3 = .ok (.invokespecial 1, 3) := by decide +kernel
theorem dJ4_init_da8c8_6 : decode prog_21_method_1_code 6 = .ok (.return_, 1) := by decide +kernel
theorem dJ4_append_15ec4_0 : decode prog_21_method_7_code 0 = .ok (.aload_n 0, 1) := by decide +kernel
theorem dJ4_append_15ec4_1 : decode prog_21_method_7_code 1 = .ok (.aload_n 1, 1) := by decide +kernel
theorem dJ4_append_15ec4_2 : decode prog_21_method_7_code 2 = .ok (.invokespecial 29, 3) := by decide +kernel
theorem dJ4_append_15ec4_5 : decode prog_21_method_7_code 5 = .ok (.pop, 1) := by decide +kernel
theorem dJ4_append_15ec4_6 : decode prog_21_method_7_code 6 = .ok (.aload_n 0, 1) := by decide +kernel
theorem dJ4_append_15ec4_7 : decode prog_21_method_7_code 7 = .ok (.areturn, 1) := by decide +kernel
theorem dJ4_append_bf812_0 : decode prog_21_method_15_code 0 = .ok (.aload_n 0, 1) := by decide +kernel
theorem dJ4_append_bf812_1 : decode prog_21_method_15_code 1 = .ok (.iload_n 1, 1) := by decide +kernel
theorem dJ4_append_bf812_2 : decode prog_21_method_15_code 2 = .ok (.invokespecial 53, 3) := by decide +kernel
theorem dJ4_append_bf812_5 : decode prog_21_method_15_code 5 = .ok (.pop, 1) := by decide +kernel
theorem dJ4_append_bf812_6 : decode prog_21_method_15_code 6 = .ok (.aload_n 0, 1) := by decide +kernel
theorem dJ4_append_bf812_7 : decode prog_21_method_15_code 7 = .ok (.areturn, 1) := by decide +kernel
theorem dJ4_toString_0e30d_0 : decode prog_21_method_42_code 0 = .ok (.new 18, 3) := by decide +kernel
theorem dJ4_toString_0e30d_3 : decode prog_21_method_42_code 3 = .ok (.dup, 1) := by decide +kernel
theorem dJ4_toString_0e30d_4 : decode prog_21_method_42_code 4 = .ok (.aload_n 0, 1) := by decide +kernel
theorem dJ4_toString_0e30d_5 : decode prog_21_method_42_code 5 = .ok (.invokespecial 137, 3) := by decide +kernel
theorem dJ4_toString_0e30d_8 : decode prog_21_method_42_code 8 = .ok (.areturn, 1) := by decide +kernel
theorem dJ4_length_8abf5_0 : decode prog_21_method_93_code 0 = .ok (.aload_n 0, 1) := by decide +kernel
theorem dJ4_length_8abf5_1 : decode prog_21_method_93_code 1 = .ok (.invokespecial 343, 3) := by decide +kernel
theorem dJ4_length_8abf5_4 : decode prog_21_method_93_code 4 = .ok (.ireturn, 1) := by decide +kernel
theorem dJ1_charAt_3b067_0 : decode prog_22_method_2_code 0 = .ok (.iload_n 1, 1) := by decide +kernel
theorem dJ1_charAt_3b067_1 : decode prog_22_method_2_code 1 = .ok (.aload_n 0, 1) := by decide +kernel
theorem dJ1_charAt_3b067_2 : decode prog_22_method_2_code 2 = .ok (.arraylength, 1) := by decide +kernel
theorem dJ1_charAt_3b067_3 : decode prog_22_method_2_code 3 = .ok (.invokestatic 9, 3) := by decide +kernel
theorem dJ1_charAt_3b067_6 : decode prog_22_method_2_code 6 = .ok (.aload_n 0, 1) := by decide +kernel
theorem dJ1_charAt_3b067_7 : decode prog_22_method_2_code 7 = .ok (.iload_n 1, 1) := by decide +kernel
theorem dJ1_charAt_3b067_8 : decode prog_22_method_2_code 8 = .ok (.baload, 1) := by decide +kernel
theorem dJ1_charAt_3b067_9 : decode prog_22_method_2_code 9 = .ok (.sipush 255, 3) := by decide +kernel
theorem dJ1_charAt_3b067_12 : decode prog_22_method_2_code 12 = .ok (.iand, 1) := by decide +kernel
theorem dJ1_charAt_3b067_13 : decode prog_22_method_2_code 13 = .ok (.i2c, 1) := by decide +kernel
theorem dJ1_charAt_3b067_14 : decode prog_22_method_2_code 14 = .ok (.ireturn, 1) := by decide +kernel
theorem dJ1_inflate_0e8fd_0 : decode prog_22_method_50_code 0 = .ok (.aload_n 0, 1) := by decide +kernel
theorem dJ1_inflate_0e8fd_1 : decode prog_22_method_50_code 1 = .ok (.iload_n 1, 1) := by decide +kernel
theorem dJ1_inflate_0e8fd_2 : decode prog_22_method_50_code 2 = .ok (.aload_n 2, 1) := by decide +kernel
theorem dJ1_inflate_0e8fd_3 : decode prog_22_method_50_code 3 = .ok (.iload_n 3, 1) := by decide +kernel
theorem dJ1_inflate_0e8fd_4 : decode prog_22_method_50_code 4 = .ok (.iload 4, 2) := by decide +kernel
theorem dJ1_inflate_0e8fd_6 : decode prog_22_method_50_code 6 = .ok (.invokestatic 240, 3) := by decide +kernel
theorem dJ1_inflate_0e8fd_9 : decode prog_22_method_50_code 9 = .ok (.return_, 1) := by decide +kernel
theorem dJ2_newBytesFor_77867_0 : decode prog_23_method_2_code 0 = .ok (.iload_n 0, 1) := by decide +kernel
theorem dJ2_newBytesFor_77867_1 : decode prog_23_method_2_code 1 = .ok (.invokestatic 11, 3) := by decide +kernel
theorem dJ2_newBytesFor_77867_4 : decode prog_23_method_2_code 4 = .ok (.newarray .byte, 2) := by decide +kernel
theorem dJ2_newBytesFor_77867_6 : decode prog_23_method_2_code 6 = .ok (.areturn, 1) := by decide +kernel
theorem dJ2_newBytesLength_0f7a4_0 : decode prog_23_method_3_code 0 = .ok (.iload_n 0, 1) := by decide +kernel
theorem dJ2_newBytesLength_0f7a4_1 : decode prog_23_method_3_code 1 = .ok (.ifCond .ge 11, 3) := by decide +kernel
theorem dJ2_newBytesLength_0f7a4_4 : decode prog_23_method_3_code 4 = .ok (.new 17, 3) := by decide +kernel
theorem dJ2_newBytesLength_0f7a4_7 : decode prog_23_method_3_code 7 = .ok (.dup, 1) := by decide +kernel
theorem dJ2_newBytesLength_0f7a4_8 : decode prog_23_method_3_code 8 = .ok (.invokespecial 19, 3) := by decide +kernel
theorem dJ2_newBytesLength_0f7a4_11 : decode prog_23_method_3_code 11 = .ok (.athrow, 1) := by decide +kernel
theorem dJ2_newBytesLength_0f7a4_12 : decode prog_23_method_3_code 12 = .ok (.iload_n 0, 1) := by decide +kernel
theorem dJ2_newBytesLength_0f7a4_13 : decode prog_23_method_3_code 13 = .ok (.ldc 20, 2) := by decide +kernel
theorem dJ2_newBytesLength_0f7a4_15 : decode prog_23_method_3_code 15 = .ok (.if_icmp .lt 40, 3) := by decide +kernel
theorem dJ2_newBytesLength_0f7a4_18 : decode prog_23_method_3_code 18 = .ok (.new 21, 3) := by decide +kernel
theorem dJ2_newBytesLength_0f7a4_21 : decode prog_23_method_3_code 21 = .ok (.dup, 1) := by decide +kernel
theorem dJ2_newBytesLength_0f7a4_22 : decode prog_23_method_3_code 22 = .ok (.new 23, 3) := by decide +kernel
theorem dJ2_newBytesLength_0f7a4_25 : decode prog_23_method_3_code 25 = .ok (.dup, 1) := by decide +kernel
theorem dJ2_newBytesLength_0f7a4_26 : decode prog_23_method_3_code 26 = .ok (.invokespecial 25, 3) := by decide +kernel
theorem dJ2_newBytesLength_0f7a4_29 : decode prog_23_method_3_code 29 = .ok (.ldc 26, 2) := by decide +kernel
theorem dJ2_newBytesLength_0f7a4_31 : decode prog_23_method_3_code 31 = .ok (.invokevirtual 28, 3) := by decide +kernel
theorem dJ2_newBytesLength_0f7a4_34 : decode prog_23_method_3_code 34 = .ok (.iload_n 0, 1) := by decide +kernel
theorem dJ2_newBytesLength_0f7a4_35 : decode prog_23_method_3_code 35 = .ok (.invokevirtual 32, 3) := by decide +kernel
theorem dJ2_newBytesLength_0f7a4_38 : decode prog_23_method_3_code 38 = .ok (.ldc 35, 2) := by decide +kernel
theorem dJ2_newBytesLength_0f7a4_40 : decode prog_23_method_3_code 40 = .ok (.invokevirtual 28, 3) := by decide +kernel
theorem dJ2_newBytesLength_0f7a4_43 : decode prog_23_method_3_code 43 = .ok (.ldc 20, 2) := by decide +kernel
theorem dJ2_newBytesLength_0f7a4_45 : decode prog_23_method_3_code 45 = .ok (.invokevirtual 32, 3) := by decide +kernel
theorem dJ2_newBytesLength_0f7a4_48 : decode prog_23_method_3_code 48 = .ok (.invokevirtual 37, 3) := by decide +kernel
theorem dJ2_newBytesLength_0f7a4_51 : decode prog_23_method_3_code 51 = .ok (.invokespecial 41, 3) := by decide +kernel
theorem dJ2_newBytesLength_0f7a4_54 : decode prog_23_method_3_code 54 = .ok (.athrow, 1) := by decide +kernel
theorem dJ2_newBytesLength_0f7a4_55 : decode prog_23_method_3_code 55 = .ok (.iload_n 0, 1) := by decide +kernel
theorem dJ2_newBytesLength_0f7a4_56 : decode prog_23_method_3_code 56 = .ok (.iconst 1, 1) := by decide +kernel
theorem dJ2_newBytesLength_0f7a4_57 : decode prog_23_method_3_code 57 = .ok (.ishl, 1) := by decide +kernel
theorem dJ2_newBytesLength_0f7a4_58 : decode prog_23_method_3_code 58 = .ok (.ireturn, 1) := by decide +kernel
theorem dJ2_putChar_b72d1_0 : decode prog_23_method_4_code 0 = .ok (.getstatic 44, 3) := by decide +kernel
theorem dJ2_putChar_b72d1_3 : decode prog_23_method_4_code 3 = .ok (.ifCond .ne 25, 3) := by decide +kernel
theorem dJ2_putChar_b72d1_6 : decode prog_23_method_4_code 6 = .ok (.iload_n 1, 1) := by decide +kernel
theorem dJ2_putChar_b72d1_7 : decode prog_23_method_4_code 7 = .ok (.ifCond .lt 11, 3) := by decide +kernel
theorem dJ2_putChar_b72d1_10 : decode prog_23_method_4_code 10 = .ok (.iload_n 1, 1) := by decide +kernel
theorem dJ2_putChar_b72d1_11 : decode prog_23_method_4_code 11 = .ok (.aload_n 0, 1) := by decide +kernel
theorem dJ2_putChar_b72d1_12 : decode prog_23_method_4_code 12 = .ok (.invokestatic 48, 3) := by decide +kernel
theorem dJ2_putChar_b72d1_15 : decode prog_23_method_4_code 15 = .ok (.if_icmp .lt 13, 3) := by decide +kernel
theorem dJ2_putChar_b72d1_18 : decode prog_23_method_4_code 18 = .ok (.new 52, 3) := by decide +kernel
theorem dJ2_putChar_b72d1_21 : decode prog_23_method_4_code 21 = .ok (.dup, 1) := by decide +kernel
theorem dJ2_putChar_b72d1_22 : decode prog_23_method_4_code 22 = .ok (.ldc 54, 2) := by decide +kernel
theorem dJ2_putChar_b72d1_24 : decode prog_23_method_4_code 24 = .ok (.invokespecial 56, 3) := by decide +kernel
theorem dJ2_putChar_b72d1_27 : decode prog_23_method_4_code 27 = .ok (.athrow, 1) := by decide +kernel
theorem dJ2_putChar_b72d1_28 : decode prog_23_method_4_code 28 = .ok (.iload_n 1, 1) := by decide +kernel
theorem dJ2_putChar_b72d1_29 : decode prog_23_method_4_code 29 = .ok (.iconst 1, 1) := by decide +kernel
theorem dJ2_putChar_b72d1_30 : decode prog_23_method_4_code 30 = .ok (.ishl, 1) := by decide +kernel
theorem dJ2_putChar_b72d1_31 : decode prog_23_method_4_code 31 = .ok (.istore_n 1, 1) := by decide +kernel
theorem dJ2_putChar_b72d1_32 : decode prog_23_method_4_code 32 = .ok (.aload_n 0, 1) := by decide +kernel
theorem dJ2_putChar_b72d1_33 : decode prog_23_method_4_code 33 = .ok (.iload_n 1, 1) := by decide +kernel
theorem dJ2_putChar_b72d1_34 : decode prog_23_method_4_code 34 = .ok (.iinc 1 1, 3) := by decide +kernel
theorem dJ2_putChar_b72d1_37 : decode prog_23_method_4_code 37 = .ok (.iload_n 2, 1) := by decide +kernel
theorem dJ2_putChar_b72d1_38 : decode prog_23_method_4_code 38 = .ok (.getstatic 59, 3) := by decide +kernel
theorem dJ2_putChar_b72d1_41 : decode prog_23_method_4_code 41 = .ok (.ishr, 1) := by decide +kernel
theorem dJ2_putChar_b72d1_42 : decode prog_23_method_4_code 42 = .ok (.i2b, 1) := by decide +kernel
theorem dJ2_putChar_b72d1_43 : decode prog_23_method_4_code 43 = .ok (.bastore, 1) := by decide +kernel
theorem dJ2_putChar_b72d1_44 : decode prog_23_method_4_code 44 = .ok (.aload_n 0, 1) := by decide +kernel
theorem dJ2_putChar_b72d1_45 : decode prog_23_method_4_code 45 = .ok (.iload_n 1, 1) := by decide +kernel
theorem dJ2_putChar_b72d1_46 : decode prog_23_method_4_code 46 = .ok (.iload_n 2, 1) := by decide +kernel
theorem dJ2_putChar_b72d1_47 : decode prog_23_method_4_code 47 = .ok (.getstatic 63, 3) := by decide +kernel
theorem dJ2_putChar_b72d1_50 : decode prog_23_method_4_code 50 = .ok (.ishr, 1) := by decide +kernel
theorem dJ2_putChar_b72d1_51 : decode prog_23_method_4_code 51 = .ok (.i2b, 1) := by decide +kernel
theorem dJ2_putChar_b72d1_52 : decode prog_23_method_4_code 52 = .ok (.bastore, 1) := by decide +kernel
theorem dJ2_putChar_b72d1_53 : decode prog_23_method_4_code 53 = .ok (.return_, 1) := by decide +kernel
theorem dJ2_getChar_3b067_0 : decode prog_23_method_5_code 0 = .ok (.getstatic 44, 3) := by decide +kernel
theorem dJ2_getChar_3b067_3 : decode prog_23_method_5_code 3 = .ok (.ifCond .ne 25, 3) := by decide +kernel
theorem dJ2_getChar_3b067_6 : decode prog_23_method_5_code 6 = .ok (.iload_n 1, 1) := by decide +kernel
theorem dJ2_getChar_3b067_7 : decode prog_23_method_5_code 7 = .ok (.ifCond .lt 11, 3) := by decide +kernel
theorem dJ2_getChar_3b067_10 : decode prog_23_method_5_code 10 = .ok (.iload_n 1, 1) := by decide +kernel
theorem dJ2_getChar_3b067_11 : decode prog_23_method_5_code 11 = .ok (.aload_n 0, 1) := by decide +kernel
theorem dJ2_getChar_3b067_12 : decode prog_23_method_5_code 12 = .ok (.invokestatic 48, 3) := by decide +kernel
theorem dJ2_getChar_3b067_15 : decode prog_23_method_5_code 15 = .ok (.if_icmp .lt 13, 3) := by decide +kernel
theorem dJ2_getChar_3b067_18 : decode prog_23_method_5_code 18 = .ok (.new 52, 3) := by decide +kernel
theorem dJ2_getChar_3b067_21 : decode prog_23_method_5_code 21 = .ok (.dup, 1) := by decide +kernel
theorem dJ2_getChar_3b067_22 : decode prog_23_method_5_code 22 = .ok (.ldc 54, 2) := by decide +kernel
theorem dJ2_getChar_3b067_24 : decode prog_23_method_5_code 24 = .ok (.invokespecial 56, 3) := by decide +kernel
theorem dJ2_getChar_3b067_27 : decode prog_23_method_5_code 27 = .ok (.athrow, 1) := by decide +kernel
theorem dJ2_getChar_3b067_28 : decode prog_23_method_5_code 28 = .ok (.iload_n 1, 1) := by decide +kernel
theorem dJ2_getChar_3b067_29 : decode prog_23_method_5_code 29 = .ok (.iconst 1, 1) := by decide +kernel
theorem dJ2_getChar_3b067_30 : decode prog_23_method_5_code 30 = .ok (.ishl, 1) := by decide +kernel
theorem dJ2_getChar_3b067_31 : decode prog_23_method_5_code 31 = .ok (.istore_n 1, 1) := by decide +kernel
theorem dJ2_getChar_3b067_32 : decode prog_23_method_5_code 32 = .ok (.aload_n 0, 1) := by decide +kernel
theorem dJ2_getChar_3b067_33 : decode prog_23_method_5_code 33 = .ok (.iload_n 1, 1) := by decide +kernel
theorem dJ2_getChar_3b067_34 : decode prog_23_method_5_code 34 = .ok (.iinc 1 1, 3) := by decide +kernel
theorem dJ2_getChar_3b067_37 : decode prog_23_method_5_code 37 = .ok (.baload, 1) := by decide +kernel
theorem dJ2_getChar_3b067_38 : decode prog_23_method_5_code 38 = .ok (.sipush 255, 3) := by decide +kernel
theorem dJ2_getChar_3b067_41 : decode prog_23_method_5_code 41 = .ok (.iand, 1) := by decide +kernel
theorem dJ2_getChar_3b067_42 : decode prog_23_method_5_code 42 = .ok (.getstatic 59, 3) := by decide +kernel
theorem dJ2_getChar_3b067_45 : decode prog_23_method_5_code 45 = .ok (.ishl, 1) := by decide +kernel
theorem dJ2_getChar_3b067_46 : decode prog_23_method_5_code 46 = .ok (.aload_n 0, 1) := by decide +kernel
theorem dJ2_getChar_3b067_47 : decode prog_23_method_5_code 47 = .ok (.iload_n 1, 1) := by decide +kernel
theorem dJ2_getChar_3b067_48 : decode prog_23_method_5_code 48 = .ok (.baload, 1) := by decide +kernel
theorem dJ2_getChar_3b067_49 : decode prog_23_method_5_code 49 = .ok (.sipush 255, 3) := by decide +kernel
theorem dJ2_getChar_3b067_52 : decode prog_23_method_5_code 52 = .ok (.iand, 1) := by decide +kernel
theorem dJ2_getChar_3b067_53 : decode prog_23_method_5_code 53 = .ok (.getstatic 63, 3) := by decide +kernel
theorem dJ2_getChar_3b067_56 : decode prog_23_method_5_code 56 = .ok (.ishl, 1) := by decide +kernel
theorem dJ2_getChar_3b067_57 : decode prog_23_method_5_code 57 = .ok (.ior, 1) := by decide +kernel
theorem dJ2_getChar_3b067_58 : decode prog_23_method_5_code 58 = .ok (.i2c, 1) := by decide +kernel
theorem dJ2_getChar_3b067_59 : decode prog_23_method_5_code 59 = .ok (.ireturn, 1) := by decide +kernel
theorem dJ2_length_9d52b_0 : decode prog_23_method_6_code 0 = .ok (.aload_n 0, 1) := by decide +kernel
theorem dJ2_length_9d52b_1 : decode prog_23_method_6_code 1 = .ok (.arraylength, 1) := by decide +kernel
theorem dJ2_length_9d52b_2 : decode prog_23_method_6_code 2 = .ok (.iconst 1, 1) := by decide +kernel
theorem dJ2_length_9d52b_3 : decode prog_23_method_6_code 3 = .ok (.ishr, 1) := by decide +kernel
theorem dJ2_length_9d52b_4 : decode prog_23_method_6_code 4 = .ok (.ireturn, 1) := by decide +kernel
theorem dJ2_coderFromArrayLen_85cad_0 : decode prog_23_method_15_code 0 = .ok (.iload_n 1, 1) := by decide +kernel
theorem dJ2_coderFromArrayLen_85cad_1 : decode prog_23_method_15_code 1 = .ok (.aload_n 0, 1) := by decide +kernel
theorem dJ2_coderFromArrayLen_85cad_2 : decode prog_23_method_15_code 2 = .ok (.arraylength, 1) := by decide +kernel
theorem dJ2_coderFromArrayLen_85cad_3 : decode prog_23_method_15_code 3 = .ok (.isub, 1) := by decide +kernel
theorem dJ2_coderFromArrayLen_85cad_4 : decode prog_23_method_15_code 4 = .ok (.bipush 31, 2) := by decide +kernel
theorem dJ2_coderFromArrayLen_85cad_6 : decode prog_23_method_15_code 6 = .ok (.iushr, 1) := by decide +kernel
theorem dJ2_coderFromArrayLen_85cad_7 : decode prog_23_method_15_code 7 = .ok (.i2b, 1) := by decide +kernel
theorem dJ2_coderFromArrayLen_85cad_8 : decode prog_23_method_15_code 8 = .ok (.ireturn, 1) := by decide +kernel
theorem dJ2_compress_39247_0 : decode prog_23_method_17_code 0 = .ok (.iload_n 2, 1) := by decide +kernel
theorem dJ2_compress_39247_1 : decode prog_23_method_17_code 1 = .ok (.newarray .byte, 2) := by decide +kernel
theorem dJ2_compress_39247_3 : decode prog_23_method_17_code 3 = .ok (.astore_n 3, 1) := by decide +kernel
theorem dJ2_compress_39247_4 : decode prog_23_method_17_code 4 = .ok (.aload_n 0, 1) := by decide +kernel
theorem dJ2_compress_39247_5 : decode prog_23_method_17_code 5 = .ok (.iload_n 1, 1) := by decide +kernel
theorem dJ2_compress_39247_6 : decode prog_23_method_17_code 6 = .ok (.aload_n 3, 1) := by decide +kernel
theorem dJ2_compress_39247_7 : decode prog_23_method_17_code 7 = .ok (.iconst 0, 1) := by decide +kernel
theorem dJ2_compress_39247_8 : decode prog_23_method_17_code 8 = .ok (.iload_n 2, 1) := by decide +kernel
theorem dJ2_compress_39247_9 : decode prog_23_method_17_code 9 = .ok (.invokestatic 123, 3) := by decide +kernel
theorem dJ2_compress_39247_12 : decode prog_23_method_17_code 12 = .ok (.istore 4, 2) := by decide +kernel
theorem dJ2_compress_39247_14 : decode prog_23_method_17_code 14 = .ok (.iload 4, 2) := by decide +kernel
theorem dJ2_compress_39247_16 : decode prog_23_method_17_code 16 = .ok (.iload_n 2, 1) := by decide +kernel
theorem dJ2_compress_39247_17 : decode prog_23_method_17_code 17 = .ok (.if_icmp .eq 47, 3) := by decide +kernel
theorem dJ2_compress_39247_20 : decode prog_23_method_17_code 20 = .ok (.aload_n 0, 1) := by decide +kernel
theorem dJ2_compress_39247_21 : decode prog_23_method_17_code 21 = .ok (.iload_n 1, 1) := by decide +kernel
theorem dJ2_compress_39247_22 : decode prog_23_method_17_code 22 = .ok (.iconst 1, 1) := by decide +kernel
theorem dJ2_compress_39247_23 : decode prog_23_method_17_code 23 = .ok (.ishl, 1) := by decide +kernel
theorem dJ2_compress_39247_24 : decode prog_23_method_17_code 24 = .ok (.iload_n 1, 1) := by decide +kernel
theorem dJ2_compress_39247_25 : decode prog_23_method_17_code 25 = .ok (.iload_n 2, 1) := by decide +kernel
theorem dJ2_compress_39247_26 : decode prog_23_method_17_code 26 = .ok (.iadd, 1) := by decide +kernel
theorem dJ2_compress_39247_27 : decode prog_23_method_17_code 27 = .ok (.invokestatic 11, 3) := by decide +kernel
theorem dJ2_compress_39247_30 : decode prog_23_method_17_code 30 = .ok (.invokestatic 126, 3) := by decide +kernel
theorem dJ2_compress_39247_33 : decode prog_23_method_17_code 33 = .ok (.astore 5, 2) := by decide +kernel
theorem dJ2_compress_39247_35 : decode prog_23_method_17_code 35 = .ok (.aload 5, 2) := by decide +kernel
theorem dJ2_compress_39247_37 : decode prog_23_method_17_code 37 = .ok (.iload 4, 2) := by decide +kernel
theorem dJ2_compress_39247_39 : decode prog_23_method_17_code 39 = .ok (.invokestatic 71, 3) := by decide +kernel
theorem dJ2_compress_39247_42 : decode prog_23_method_17_code 42 = .ok (.sipush 255, 3) := by decide +kernel
theorem dJ2_compress_39247_45 : decode prog_23_method_17_code 45 = .ok (.if_icmp .gt 16, 3) := by decide +kernel
theorem dJ2_compress_39247_48 : decode prog_23_method_17_code 48 = .ok (.aload 5, 2) := by decide +kernel
theorem dJ2_compress_39247_50 : decode prog_23_method_17_code 50 = .ok (.iconst 0, 1) := by decide +kernel
theorem dJ2_compress_39247_51 : decode prog_23_method_17_code 51 = .ok (.aload_n 3, 1) := by decide +kernel
theorem dJ2_compress_39247_52 : decode prog_23_method_17_code 52 = .ok (.iconst 0, 1) := by decide +kernel
theorem dJ2_compress_39247_53 : decode prog_23_method_17_code 53 = .ok (.iload_n 2, 1) := by decide +kernel
theorem dJ2_compress_39247_54 : decode prog_23_method_17_code 54 = .ok (.invokestatic 123, 3) := by decide +kernel
theorem dJ2_compress_39247_57 : decode prog_23_method_17_code 57 = .ok (.iload_n 2, 1) := by decide +kernel
theorem dJ2_compress_39247_58 : decode prog_23_method_17_code 58 = .ok (.if_icmp .eq 6, 3) := by decide +kernel
theorem dJ2_compress_39247_61 : decode prog_23_method_17_code 61 = .ok (.aload 5, 2) := by decide +kernel
theorem dJ2_compress_39247_63 : decode prog_23_method_17_code 63 = .ok (.areturn, 1) := by decide +kernel
theorem dJ2_compress_39247_64 : decode prog_23_method_17_code 64 = .ok (.aload_n 3, 1) := by decide +kernel
theorem dJ2_compress_39247_65 : decode prog_23_method_17_code 65 = .ok (.areturn, 1) := by decide +kernel
theorem dJ2_compress_5af95_0 : decode prog_23_method_22_code 0 = .ok (.iload_n 1, 1) := by decide +kernel
theorem dJ2_compress_5af95_1 : decode prog_23_method_22_code 1 = .ok (.iload 4, 2) := by decide +kernel
theorem dJ2_compress_5af95_3 : decode prog_23_method_22_code 3 = .ok (.aload_n 0, 1) := by decide +kernel
theorem dJ2_compress_5af95_4 : decode prog_23_method_22_code 4 = .ok (.invokestatic 173, 3) := by decide +kernel
theorem dJ2_compress_5af95_7 : decode prog_23_method_22_code 7 = .ok (.iconst 0, 1) := by decide +kernel
theorem dJ2_compress_5af95_8 : decode prog_23_method_22_code 8 = .ok (.istore 5, 2) := by decide +kernel
theorem dJ2_compress_5af95_10 : decode prog_23_method_22_code 10 = .ok (.iload 5, 2) := by decide +kernel
theorem dJ2_compress_5af95_12 : decode prog_23_method_22_code 12 = .ok (.iload 4, 2) := by decide +kernel
theorem dJ2_compress_5af95_14 : decode prog_23_method_22_code 14 = .ok (.if_icmp .ge 39, 3) := by decide +kernel
theorem dJ2_compress_5af95_17 : decode prog_23_method_22_code 17 = .ok (.aload_n 0, 1) := by decide +kernel
theorem dJ2_compress_5af95_18 : decode prog_23_method_22_code 18 = .ok (.iload_n 1, 1) := by decide +kernel
theorem dJ2_compress_5af95_19 : decode prog_23_method_22_code 19 = .ok (.invokestatic 71, 3) := by decide +kernel
theorem dJ2_compress_5af95_22 : decode prog_23_method_22_code 22 = .ok (.istore 6, 2) := by decide +kernel
theorem dJ2_compress_5af95_24 : decode prog_23_method_22_code 24 = .ok (.iload 6, 2) := by decide +kernel
theorem dJ2_compress_5af95_26 : decode prog_23_method_22_code 26 = .ok (.sipush 255, 3) := by decide +kernel
theorem dJ2_compress_5af95_29 : decode prog_23_method_22_code 29 = .ok (.if_icmp .le 6, 3) := by decide +kernel
theorem dJ2_compress_5af95_32 : decode prog_23_method_22_code 32 = .ok (.iload 5, 2) := by decide +kernel
theorem dJ2_compress_5af95_34 : decode prog_23_method_22_code 34 = .ok (.ireturn, 1) := by decide +kernel
theorem dJ2_compress_5af95_35 : decode prog_23_method_22_code 35 = .ok (.aload_n 2, 1) := by decide +kernel
theorem dJ2_compress_5af95_36 : decode prog_23_method_22_code 36 = .ok (.iload_n 3, 1) := by decide +kernel
theorem dJ2_compress_5af95_37 : decode prog_23_method_22_code 37 = .ok (.iload 6, 2) := by decide +kernel
theorem dJ2_compress_5af95_39 : decode prog_23_method_22_code 39 = .ok (.i2b, 1) := by decide +kernel
theorem dJ2_compress_5af95_40 : decode prog_23_method_22_code 40 = .ok (.bastore, 1) := by decide +kernel
theorem dJ2_compress_5af95_41 : decode prog_23_method_22_code 41 = .ok (.iinc 1 1, 3) := by decide +kernel
theorem dJ2_compress_5af95_44 : decode prog_23_method_22_code 44 = .ok (.iinc 3 1, 3) := by decide +kernel
theorem dJ2_compress_5af95_47 : decode prog_23_method_22_code 47 = .ok (.iinc 5 1, 3) := by decide +kernel
theorem dJ2_compress_5af95_50 : decode prog_23_method_22_code 50 = .ok (.goto (-40), 3) := by decide +kernel
theorem dJ2_compress_5af95_53 : decode prog_23_method_22_code 53 = .ok (.iload 4, 2) := by decide +kernel
theorem dJ2_compress_5af95_55 : decode prog_23_method_22_code 55 = .ok (.ireturn, 1) := by decide +kernel
theorem dJ2_getChars_46870_0 : decode prog_23_method_77_code 0 = .ok (.iload_n 1, 1) := by decide +kernel
theorem dJ2_getChars_46870_1 : decode prog_23_method_77_code 1 = .ok (.iload_n 2, 1) := by decide +kernel
theorem dJ2_getChars_46870_2 : decode prog_23_method_77_code 2 = .ok (.aload_n 3, 1) := by decide +kernel
theorem dJ2_getChars_46870_3 : decode prog_23_method_77_code 3 = .ok (.invokestatic 96, 3) := by decide +kernel
theorem dJ2_getChars_46870_6 : decode prog_23_method_77_code 6 = .ok (.iload_n 0, 1) := by decide +kernel
theorem dJ2_getChars_46870_7 : decode prog_23_method_77_code 7 = .ok (.iload_n 2, 1) := by decide +kernel
theorem dJ2_getChars_46870_8 : decode prog_23_method_77_code 8 = .ok (.aload_n 3, 1) := by decide +kernel
theorem dJ2_getChars_46870_9 : decode prog_23_method_77_code 9 = .ok (.invokestatic 393, 3) := by decide +kernel
theorem dJ2_getChars_46870_12 : decode prog_23_method_77_code 12 = .ok (.istore 4, 2) := by decide +kernel
theorem dJ2_getChars_46870_14 : decode prog_23_method_77_code 14 = .ok (.getstatic 44, 3) := by decide +kernel
theorem dJ2_getChars_46870_17 : decode prog_23_method_77_code 17 = .ok (.ifCond .ne 17, 3) := by decide +kernel
theorem dJ2_getChars_46870_20 : decode prog_23_method_77_code 20 = .ok (.iload_n 1, 1) := by decide +kernel
theorem dJ2_getChars_46870_21 : decode prog_23_method_77_code 21 = .ok (.iload 4, 2) := by decide +kernel
theorem dJ2_getChars_46870_23 : decode prog_23_method_77_code 23 = .ok (.if_icmp .eq 11, 3) := by decide +kernel
theorem dJ2_getChars_46870_26 : decode prog_23_method_77_code 26 = .ok (.new 52, 3) := by decide +kernel
theorem dJ2_getChars_46870_29 : decode prog_23_method_77_code 29 = .ok (.dup, 1) := by decide +kernel
theorem dJ2_getChars_46870_30 : decode prog_23_method_77_code 30 = .ok (.invokespecial 66, 3) := by decide +kernel
theorem dJ2_getChars_46870_33 : decode prog_23_method_77_code 33 = .ok (.athrow, 1) := by decide +kernel
theorem dJ2_getChars_46870_34 : decode prog_23_method_77_code 34 = .ok (.iload 4, 2) := by decide +kernel
theorem dJ2_getChars_46870_36 : decode prog_23_method_77_code 36 = .ok (.ireturn, 1) := by decide +kernel
theorem dJ2_putCharsAt_cd4e5_0 : decode prog_23_method_81_code 0 = .ok (.iload_n 1, 1) := by decide +kernel
theorem dJ2_putCharsAt_cd4e5_1 : decode prog_23_method_81_code 1 = .ok (.iconst 4, 1) := by decide +kernel
theorem dJ2_putCharsAt_cd4e5_2 : decode prog_23_method_81_code 2 = .ok (.iadd, 1) := by decide +kernel
theorem dJ2_putCharsAt_cd4e5_3 : decode prog_23_method_81_code 3 = .ok (.istore 6, 2) := by decide +kernel
theorem dJ2_putCharsAt_cd4e5_5 : decode prog_23_method_81_code 5 = .ok (.iload_n 1, 1) := by decide +kernel
theorem dJ2_putCharsAt_cd4e5_6 : decode prog_23_method_81_code 6 = .ok (.iload 6, 2) := by decide +kernel
theorem dJ2_putCharsAt_cd4e5_8 : decode prog_23_method_81_code 8 = .ok (.aload_n 0, 1) := by decide +kernel
theorem dJ2_putCharsAt_cd4e5_9 : decode prog_23_method_81_code 9 = .ok (.invokestatic 96, 3) := by decide +kernel
theorem dJ2_putCharsAt_cd4e5_12 : decode prog_23_method_81_code 12 = .ok (.aload_n 0, 1) := by decide +kernel
theorem dJ2_putCharsAt_cd4e5_13 : decode prog_23_method_81_code 13 = .ok (.iload_n 1, 1) := by decide +kernel
theorem dJ2_putCharsAt_cd4e5_14 : decode prog_23_method_81_code 14 = .ok (.iinc 1 1, 3) := by decide +kernel
theorem dJ2_putCharsAt_cd4e5_17 : decode prog_23_method_81_code 17 = .ok (.iload_n 2, 1) := by decide +kernel
theorem dJ2_putCharsAt_cd4e5_18 : decode prog_23_method_81_code 18 = .ok (.invokestatic 111, 3) := by decide +kernel
theorem dJ2_putCharsAt_cd4e5_21 : decode prog_23_method_81_code 21 = .ok (.aload_n 0, 1) := by decide +kernel
theorem dJ2_putCharsAt_cd4e5_22 : decode prog_23_method_81_code 22 = .ok (.iload_n 1, 1) := by decide +kernel
theorem dJ2_putCharsAt_cd4e5_23 : decode prog_23_method_81_code 23 = .ok (.iinc 1 1, 3) := by decide +kernel
theorem dJ2_putCharsAt_cd4e5_26 : decode prog_23_method_81_code 26 = .ok (.iload_n 3, 1) := by decide +kernel
theorem dJ2_putCharsAt_cd4e5_27 : decode prog_23_method_81_code 27 = .ok (.invokestatic 111, 3) := by decide +kernel
theorem dJ2_putCharsAt_cd4e5_30 : decode prog_23_method_81_code 30 = .ok (.aload_n 0, 1) := by decide +kernel
theorem dJ2_putCharsAt_cd4e5_31 : decode prog_23_method_81_code 31 = .ok (.iload_n 1, 1) := by decide +kernel
theorem dJ2_putCharsAt_cd4e5_32 : decode prog_23_method_81_code 32 = .ok (.iinc 1 1, 3) := by decide +kernel
theorem dJ2_putCharsAt_cd4e5_35 : decode prog_23_method_81_code 35 = .ok (.iload 4, 2) := by decide +kernel
theorem dJ2_putCharsAt_cd4e5_37 : decode prog_23_method_81_code 37 = .ok (.invokestatic 111, 3) := by decide +kernel
theorem dJ2_putCharsAt_cd4e5_40 : decode prog_23_method_81_code 40 = .ok (.aload_n 0, 1) := by decide +kernel
theorem dJ2_putCharsAt_cd4e5_41 : decode prog_23_method_81_code 41 = .ok (.iload_n 1, 1) := by decide +kernel
theorem dJ2_putCharsAt_cd4e5_42 : decode prog_23_method_81_code 42 = .ok (.iinc 1 1, 3) := by decide +kernel
theorem dJ2_putCharsAt_cd4e5_45 : decode prog_23_method_81_code 45 = .ok (.iload 5, 2) := by decide +kernel
theorem dJ2_putCharsAt_cd4e5_47 : decode prog_23_method_81_code 47 = .ok (.invokestatic 111, 3) := by decide +kernel
theorem dJ2_putCharsAt_cd4e5_50 : decode prog_23_method_81_code 50 = .ok (.getstatic 44, 3) := by decide +kernel
theorem dJ2_putCharsAt_cd4e5_53 : decode prog_23_method_81_code 53 = .ok (.ifCond .ne 17, 3) := by decide +kernel
theorem dJ2_putCharsAt_cd4e5_56 : decode prog_23_method_81_code 56 = .ok (.iload_n 1, 1) := by decide +kernel
theorem dJ2_putCharsAt_cd4e5_57 : decode prog_23_method_81_code 57 = .ok (.iload 6, 2) := by decide +kernel
theorem dJ2_putCharsAt_cd4e5_59 : decode prog_23_method_81_code 59 = .ok (.if_icmp .eq 11, 3) := by decide +kernel
theorem dJ2_putCharsAt_cd4e5_62 : decode prog_23_method_81_code 62 = .ok (.new 52, 3) := by decide +kernel
theorem dJ2_putCharsAt_cd4e5_65 : decode prog_23_method_81_code 65 = .ok (.dup, 1) := by decide +kernel
theorem dJ2_putCharsAt_cd4e5_66 : decode prog_23_method_81_code 66 = .ok (.invokespecial 66, 3) := by decide +kernel
theorem dJ2_putCharsAt_cd4e5_69 : decode prog_23_method_81_code 69 = .ok (.athrow, 1) := by decide +kernel
theorem dJ2_putCharsAt_cd4e5_70 : decode prog_23_method_81_code 70 = .ok (.iload 6, 2) := by decide +kernel
theorem dJ2_putCharsAt_cd4e5_72 : decode prog_23_method_81_code 72 = .ok (.ireturn, 1) := by decide +kernel
theorem dJ2_charAt_3b067_0 : decode prog_23_method_83_code 0 = .ok (.iload_n 1, 1) := by decide +kernel
theorem dJ2_charAt_3b067_1 : decode prog_23_method_83_code 1 = .ok (.aload_n 0, 1) := by decide +kernel
theorem dJ2_charAt_3b067_2 : decode prog_23_method_83_code 2 = .ok (.invokestatic 67, 3) := by decide +kernel
theorem dJ2_charAt_3b067_5 : decode prog_23_method_83_code 5 = .ok (.aload_n 0, 1) := by decide +kernel
theorem dJ2_charAt_3b067_6 : decode prog_23_method_83_code 6 = .ok (.iload_n 1, 1) := by decide +kernel
theorem dJ2_charAt_3b067_7 : decode prog_23_method_83_code 7 = .ok (.invokestatic 71, 3) := by decide +kernel
theorem dJ2_charAt_3b067_10 : decode prog_23_method_83_code 10 = .ok (.ireturn, 1) := by decide +kernel
theorem dJ2_inflate_0e8fd_0 : decode prog_23_method_86_code 0 = .ok (.iload_n 3, 1) := by decide +kernel
theorem dJ2_inflate_0e8fd_1 : decode prog_23_method_86_code 1 = .ok (.iload 4, 2) := by decide +kernel
theorem dJ2_inflate_0e8fd_3 : decode prog_23_method_86_code 3 = .ok (.aload_n 2, 1) := by decide +kernel
theorem dJ2_inflate_0e8fd_4 : decode prog_23_method_86_code 4 = .ok (.invokestatic 173, 3) := by decide +kernel
theorem dJ2_inflate_0e8fd_7 : decode prog_23_method_86_code 7 = .ok (.iconst 0, 1) := by decide +kernel
theorem dJ2_inflate_0e8fd_8 : decode prog_23_method_86_code 8 = .ok (.istore 5, 2) := by decide +kernel
theorem dJ2_inflate_0e8fd_10 : decode prog_23_method_86_code 10 = .ok (.iload 5, 2) := by decide +kernel
theorem dJ2_inflate_0e8fd_12 : decode prog_23_method_86_code 12 = .ok (.iload 4, 2) := by decide +kernel
theorem dJ2_inflate_0e8fd_14 : decode prog_23_method_86_code 14 = .ok (.if_icmp .ge 27, 3) := by decide +kernel
theorem dJ2_inflate_0e8fd_17 : decode prog_23_method_86_code 17 = .ok (.aload_n 2, 1) := by decide +kernel
theorem dJ2_inflate_0e8fd_18 : decode prog_23_method_86_code 18 = .ok (.iload_n 3, 1) := by decide +kernel
theorem dJ2_inflate_0e8fd_19 : decode prog_23_method_86_code 19 = .ok (.iinc 3 1, 3) := by decide +kernel
theorem dJ2_inflate_0e8fd_22 : decode prog_23_method_86_code 22 = .ok (.aload_n 0, 1) := by decide +kernel
theorem dJ2_inflate_0e8fd_23 : decode prog_23_method_86_code 23 = .ok (.iload_n 1, 1) := by decide +kernel
theorem dJ2_inflate_0e8fd_24 : decode prog_23_method_86_code 24 = .ok (.iinc 1 1, 3) := by decide +kernel
theorem dJ2_inflate_0e8fd_27 : decode prog_23_method_86_code 27 = .ok (.baload, 1) := by decide +kernel
theorem dJ2_inflate_0e8fd_28 : decode prog_23_method_86_code 28 = .ok (.sipush 255, 3) := by decide +kernel
theorem dJ2_inflate_0e8fd_31 : decode prog_23_method_86_code 31 = .ok (.iand, 1) := by decide +kernel
theorem dJ2_inflate_0e8fd_32 : decode prog_23_method_86_code 32 = .ok (.invokestatic 111, 3) := by decide +kernel
theorem dJ2_inflate_0e8fd_35 : decode prog_23_method_86_code 35 = .ok (.iinc 5 1, 3) := by decide +kernel
theorem dJ2_inflate_0e8fd_38 : decode prog_23_method_86_code 38 = .ok (.goto (-28), 3) := by decide +kernel
theorem dJ2_inflate_0e8fd_41 : decode prog_23_method_86_code 41 = .ok (.return_, 1) := by decide +kernel
theorem dJ2_getChars_ba4f3_0 : decode prog_23_method_89_code 0 = .ok (.iload_n 1, 1) := by decide +kernel
theorem dJ2_getChars_ba4f3_1 : decode prog_23_method_89_code 1 = .ok (.istore 5, 2) := by decide +kernel
theorem dJ2_getChars_ba4f3_3 : decode prog_23_method_89_code 3 = .ok (.iload_n 0, 1) := by decide +kernel
theorem dJ2_getChars_ba4f3_4 : decode prog_23_method_89_code 4 = .ok (.ifCond .ge 7, 3) := by decide +kernel
theorem dJ2_getChars_ba4f3_7 : decode prog_23_method_89_code 7 = .ok (.iconst 1, 1) := by decide +kernel
theorem dJ2_getChars_ba4f3_8 : decode prog_23_method_89_code 8 = .ok (.goto 4, 3) := by decide +kernel
theorem dJ2_getChars_ba4f3_11 : decode prog_23_method_89_code 11 = .ok (.iconst 0, 1) := by decide +kernel
theorem dJ2_getChars_ba4f3_12 : decode prog_23_method_89_code 12 = .ok (.istore 6, 2) := by decide +kernel
theorem dJ2_getChars_ba4f3_14 : decode prog_23_method_89_code 14 = .ok (.iload 6, 2) := by decide +kernel
theorem dJ2_getChars_ba4f3_16 : decode prog_23_method_89_code 16 = .ok (.ifCond .ne 6, 3) := by decide +kernel
theorem dJ2_getChars_ba4f3_19 : decode prog_23_method_89_code 19 = .ok (.iload_n 0, 1) := by decide +kernel
theorem dJ2_getChars_ba4f3_20 : decode prog_23_method_89_code 20 = .ok (.ineg, 1) := by decide +kernel
theorem dJ2_getChars_ba4f3_21 : decode prog_23_method_89_code 21 = .ok (.istore_n 0, 1) := by decide +kernel
theorem dJ2_getChars_ba4f3_22 : decode prog_23_method_89_code 22 = .ok (.iload_n 0, 1) := by decide +kernel
theorem dJ2_getChars_ba4f3_23 : decode prog_23_method_89_code 23 = .ok (.bipush (-100), 2) := by decide +kernel
theorem dJ2_getChars_ba4f3_25 : decode prog_23_method_89_code 25 = .ok (.if_icmp .gt 51, 3) := by decide +kernel
theorem dJ2_getChars_ba4f3_28 : decode prog_23_method_89_code 28 = .ok (.iload_n 0, 1) := by decide +kernel
theorem dJ2_getChars_ba4f3_29 : decode prog_23_method_89_code 29 = .ok (.bipush 100, 2) := by decide +kernel
theorem dJ2_getChars_ba4f3_31 : decode prog_23_method_89_code 31 = .ok (.idiv, 1) := by decide +kernel
theorem dJ2_getChars_ba4f3_32 : decode prog_23_method_89_code 32 = .ok (.istore_n 3, 1) := by decide +kernel
theorem dJ2_getChars_ba4f3_33 : decode prog_23_method_89_code 33 = .ok (.iload_n 3, 1) := by decide +kernel
theorem dJ2_getChars_ba4f3_34 : decode prog_23_method_89_code 34 = .ok (.bipush 100, 2) := by decide +kernel
theorem dJ2_getChars_ba4f3_36 : decode prog_23_method_89_code 36 = .ok (.imul, 1) := by decide +kernel
theorem dJ2_getChars_ba4f3_37 : decode prog_23_method_89_code 37 = .ok (.iload_n 0, 1) := by decide +kernel
theorem dJ2_getChars_ba4f3_38 : decode prog_23_method_89_code 38 = .ok (.isub, 1) := by decide +kernel
theorem dJ2_getChars_ba4f3_39 : decode prog_23_method_89_code 39 = .ok (.istore 4, 2) := by decide +kernel
theorem dJ2_getChars_ba4f3_41 : decode prog_23_method_89_code 41 = .ok (.iload_n 3, 1) := by decide +kernel
theorem dJ2_getChars_ba4f3_42 : decode prog_23_method_89_code 42 = .ok (.istore_n 0, 1) := by decide +kernel
theorem dJ2_getChars_ba4f3_43 : decode prog_23_method_89_code 43 = .ok (.aload_n 2, 1) := by decide +kernel
theorem dJ2_getChars_ba4f3_44 : decode prog_23_method_89_code 44 = .ok (.iinc 5 (-1), 3) := by decide +kernel
theorem dJ2_getChars_ba4f3_47 : decode prog_23_method_89_code 47 = .ok (.iload 5, 2) := by decide +kernel
theorem dJ2_getChars_ba4f3_49 : decode prog_23_method_89_code 49 = .ok (.getstatic 403, 3) := by decide +kernel
theorem dJ2_getChars_ba4f3_52 : decode prog_23_method_89_code 52 = .ok (.iload 4, 2) := by decide +kernel
theorem dJ2_getChars_ba4f3_54 : decode prog_23_method_89_code 54 = .ok (.baload, 1) := by decide +kernel
theorem dJ2_getChars_ba4f3_55 : decode prog_23_method_89_code 55 = .ok (.invokestatic 111, 3) := by decide +kernel
theorem dJ2_getChars_ba4f3_58 : decode prog_23_method_89_code 58 = .ok (.aload_n 2, 1) := by decide +kernel
theorem dJ2_getChars_ba4f3_59 : decode prog_23_method_89_code 59 = .ok (.iinc 5 (-1), 3) := by decide +kernel
theorem dJ2_getChars_ba4f3_62 : decode prog_23_method_89_code 62 = .ok (.iload 5, 2) := by decide +kernel
theorem dJ2_getChars_ba4f3_64 : decode prog_23_method_89_code 64 = .ok (.getstatic 407, 3) := by decide +kernel
theorem dJ2_getChars_ba4f3_67 : decode prog_23_method_89_code 67 = .ok (.iload 4, 2) := by decide +kernel
theorem dJ2_getChars_ba4f3_69 : decode prog_23_method_89_code 69 = .ok (.baload, 1) := by decide +kernel
theorem dJ2_getChars_ba4f3_70 : decode prog_23_method_89_code 70 = .ok (.invokestatic 111, 3) := by decide +kernel
theorem dJ2_getChars_ba4f3_73 : decode prog_23_method_89_code 73 = .ok (.goto (-51), 3) := by decide +kernel
theorem dJ2_getChars_ba4f3_76 : decode prog_23_method_89_code 76 = .ok (.aload_n 2, 1) := by decide +kernel
theorem dJ2_getChars_ba4f3_77 : decode prog_23_method_89_code 77 = .ok (.iinc 5 (-1), 3) := by decide +kernel
theorem dJ2_getChars_ba4f3_80 : decode prog_23_method_89_code 80 = .ok (.iload 5, 2) := by decide +kernel
theorem dJ2_getChars_ba4f3_82 : decode prog_23_method_89_code 82 = .ok (.getstatic 403, 3) := by decide +kernel
theorem dJ2_getChars_ba4f3_85 : decode prog_23_method_89_code 85 = .ok (.iload_n 0, 1) := by decide +kernel
theorem dJ2_getChars_ba4f3_86 : decode prog_23_method_89_code 86 = .ok (.ineg, 1) := by decide +kernel
theorem dJ2_getChars_ba4f3_87 : decode prog_23_method_89_code 87 = .ok (.baload, 1) := by decide +kernel
theorem dJ2_getChars_ba4f3_88 : decode prog_23_method_89_code 88 = .ok (.invokestatic 111, 3) := by decide +kernel
theorem dJ2_getChars_ba4f3_91 : decode prog_23_method_89_code 91 = .ok (.iload_n 0, 1) := by decide +kernel
theorem dJ2_getChars_ba4f3_92 : decode prog_23_method_89_code 92 = .ok (.bipush (-9), 2) := by decide +kernel
theorem dJ2_getChars_ba4f3_94 : decode prog_23_method_89_code 94 = .ok (.if_icmp .ge 18, 3) := by decide +kernel
theorem dJ2_getChars_ba4f3_97 : decode prog_23_method_89_code 97 = .ok (.aload_n 2, 1) := by decide +kernel
theorem dJ2_getChars_ba4f3_98 : decode prog_23_method_89_code 98 = .ok (.iinc 5 (-1), 3) := by decide +kernel
theorem dJ2_getChars_ba4f3_101 : decode prog_23_method_89_code 101 = .ok (.iload 5, 2) := by decide +kernel
theorem dJ2_getChars_ba4f3_103 : decode prog_23_method_89_code 103 = .ok (.getstatic 407, 3) := by decide +kernel
theorem dJ2_getChars_ba4f3_106 : decode prog_23_method_89_code 106 = .ok (.iload_n 0, 1) := by decide +kernel
theorem dJ2_getChars_ba4f3_107 : decode prog_23_method_89_code 107 = .ok (.ineg, 1) := by decide +kernel
theorem dJ2_getChars_ba4f3_108 : decode prog_23_method_89_code 108 = .ok (.baload, 1) := by decide +kernel
theorem dJ2_getChars_ba4f3_109 : decode prog_23_method_89_code 109 = .ok (.invokestatic 111, 3) := by decide +kernel
theorem dJ2_getChars_ba4f3_112 : decode prog_23_method_89_code 112 = .ok (.iload 6, 2) := by decide +kernel
theorem dJ2_getChars_ba4f3_114 : decode prog_23_method_89_code 114 = .ok (.ifCond .eq 14, 3) := by decide +kernel
theorem dJ2_getChars_ba4f3_117 : decode prog_23_method_89_code 117 = .ok (.aload_n 2, 1) := by decide +kernel
theorem dJ2_getChars_ba4f3_118 : decode prog_23_method_89_code 118 = .ok (.iinc 5 (-1), 3) := by decide +kernel
theorem dJ2_getChars_ba4f3_121 : decode prog_23_method_89_code 121 = .ok (.iload 5, 2) := by decide +kernel
theorem dJ2_getChars_ba4f3_123 : decode prog_23_method_89_code 123 = .ok (.bipush 45, 2) := by decide +kernel
theorem dJ2_getChars_ba4f3_125 : decode prog_23_method_89_code 125 = .ok (.invokestatic 111, 3) := by decide +kernel
theorem dJ2_getChars_ba4f3_128 : decode prog_23_method_89_code 128 = .ok (.iload 5, 2) := by decide +kernel
theorem dJ2_getChars_ba4f3_130 : decode prog_23_method_89_code 130 = .ok (.ireturn, 1) := by decide +kernel
theorem dJ2_checkIndex_2214a_0 : decode prog_23_method_91_code 0 = .ok (.iload_n 0, 1) := by decide +kernel
theorem dJ2_checkIndex_2214a_1 : decode prog_23_method_91_code 1 = .ok (.aload_n 1, 1) := by decide +kernel
theorem dJ2_checkIndex_2214a_2 : decode prog_23_method_91_code 2 = .ok (.invokestatic 48, 3) := by decide +kernel
theorem dJ2_checkIndex_2214a_5 : decode prog_23_method_91_code 5 = .ok (.invokestatic 414, 3) := by decide +kernel
theorem dJ2_checkIndex_2214a_8 : decode prog_23_method_91_code 8 = .ok (.return_, 1) := by decide +kernel
theorem dJ2_checkBoundsBeginEnd_d044e_0 : decode prog_23_method_93_code 0 = .ok (.iload_n 0, 1) := by decide +kernel
theorem dJ2_checkBoundsBeginEnd_d044e_1 : decode prog_23_method_93_code 1 = .ok (.iload_n 1, 1) := by decide +kernel
theorem dJ2_checkBoundsBeginEnd_d044e_2 : decode prog_23_method_93_code 2 = .ok (.aload_n 2, 1) := by decide +kernel
theorem dJ2_checkBoundsBeginEnd_d044e_3 : decode prog_23_method_93_code 3 = .ok (.invokestatic 48, 3) := by decide +kernel
theorem dJ2_checkBoundsBeginEnd_d044e_6 : decode prog_23_method_93_code 6 = .ok (.invokestatic 241, 3) := by decide +kernel
theorem dJ2_checkBoundsBeginEnd_d044e_9 : decode prog_23_method_93_code 9 = .ok (.return_, 1) := by decide +kernel
theorem dJ2_checkBoundsOffCount_d044e_0 : decode prog_23_method_94_code 0 = .ok (.iload_n 0, 1) := by decide +kernel
theorem dJ2_checkBoundsOffCount_d044e_1 : decode prog_23_method_94_code 1 = .ok (.iload_n 1, 1) := by decide +kernel
theorem dJ2_checkBoundsOffCount_d044e_2 : decode prog_23_method_94_code 2 = .ok (.aload_n 2, 1) := by decide +kernel
theorem dJ2_checkBoundsOffCount_d044e_3 : decode prog_23_method_94_code 3 = .ok (.invokestatic 48, 3) := by decide +kernel
theorem dJ2_checkBoundsOffCount_d044e_6 : decode prog_23_method_94_code 6 = .ok (.invokestatic 419, 3) := by decide +kernel
theorem dJ2_checkBoundsOffCount_d044e_9 : decode prog_23_method_94_code 9 = .ok (.pop, 1) := by decide +kernel
theorem dJ2_checkBoundsOffCount_d044e_10 : decode prog_23_method_94_code 10 = .ok (.return_, 1) := by decide +kernel
theorem dJ7_copyOf_9075b_0 : decode prog_25_method_121_code 0 = .ok (.iload_n 1, 1) := by decide +kernel
theorem dJ7_copyOf_9075b_1 : decode prog_25_method_121_code 1 = .ok (.aload_n 0, 1) := by decide +kernel
theorem dJ7_copyOf_9075b_2 : decode prog_25_method_121_code 2 = .ok (.arraylength, 1) := by decide +kernel
theorem dJ7_copyOf_9075b_3 : decode prog_25_method_121_code 3 = .ok (.if_icmp .ne 11, 3) := by decide +kernel
theorem dJ7_copyOf_9075b_6 : decode prog_25_method_121_code 6 = .ok (.aload_n 0, 1) := by decide +kernel
theorem dJ7_copyOf_9075b_7 : decode prog_25_method_121_code 7 = .ok (.invokevirtual 310, 3) := by decide +kernel
theorem dJ7_copyOf_9075b_10 : decode prog_25_method_121_code 10 = .ok (.checkcast 311, 3) := by decide +kernel
theorem dJ7_copyOf_9075b_13 : decode prog_25_method_121_code 13 = .ok (.areturn, 1) := by decide +kernel
theorem dJ7_copyOf_9075b_14 : decode prog_25_method_121_code 14 = .ok (.iload_n 1, 1) := by decide +kernel
theorem dJ7_copyOf_9075b_15 : decode prog_25_method_121_code 15 = .ok (.newarray .byte, 2) := by decide +kernel
theorem dJ7_copyOf_9075b_17 : decode prog_25_method_121_code 17 = .ok (.astore_n 2, 1) := by decide +kernel
theorem dJ7_copyOf_9075b_18 : decode prog_25_method_121_code 18 = .ok (.aload_n 0, 1) := by decide +kernel
theorem dJ7_copyOf_9075b_19 : decode prog_25_method_121_code 19 = .ok (.iconst 0, 1) := by decide +kernel
theorem dJ7_copyOf_9075b_20 : decode prog_25_method_121_code 20 = .ok (.aload_n 2, 1) := by decide +kernel
theorem dJ7_copyOf_9075b_21 : decode prog_25_method_121_code 21 = .ok (.iconst 0, 1) := by decide +kernel
theorem dJ7_copyOf_9075b_22 : decode prog_25_method_121_code 22 = .ok (.aload_n 0, 1) := by decide +kernel
theorem dJ7_copyOf_9075b_23 : decode prog_25_method_121_code 23 = .ok (.arraylength, 1) := by decide +kernel
theorem dJ7_copyOf_9075b_24 : decode prog_25_method_121_code 24 = .ok (.iload_n 1, 1) := by decide +kernel
theorem dJ7_copyOf_9075b_25 : decode prog_25_method_121_code 25 = .ok (.invokestatic 304, 3) := by decide +kernel
theorem dJ7_copyOf_9075b_28 : decode prog_25_method_121_code 28 = .ok (.invokestatic 150, 3) := by decide +kernel
theorem dJ7_copyOf_9075b_31 : decode prog_25_method_121_code 31 = .ok (.aload_n 2, 1) := by decide +kernel
theorem dJ7_copyOf_9075b_32 : decode prog_25_method_121_code 32 = .ok (.areturn, 1) := by decide +kernel
theorem dJ7_checkLength_df160_0 : decode prog_25_method_131_code 0 = .ok (.iload_n 1, 1) := by decide +kernel
theorem dJ7_checkLength_df160_1 : decode prog_25_method_131_code 1 = .ok (.iload_n 0, 1) := by decide +kernel
theorem dJ7_checkLength_df160_2 : decode prog_25_method_131_code 2 = .ok (.if_icmp .ge 35, 3) := by decide +kernel
theorem dJ7_checkLength_df160_5 : decode prog_25_method_131_code 5 = .ok (.new 43, 3) := by decide +kernel
theorem dJ7_checkLength_df160_8 : decode prog_25_method_131_code 8 = .ok (.dup, 1) := by decide +kernel
theorem dJ7_checkLength_df160_9 : decode prog_25_method_131_code 9 = .ok (.new 45, 3) := by decide +kernel
theorem dJ7_checkLength_df160_12 : decode prog_25_method_131_code 12 = .ok (.dup, 1) := by decide +kernel
theorem dJ7_checkLength_df160_13 : decode prog_25_method_131_code 13 = .ok (.invokespecial 47, 3) := by decide +kernel
theorem dJ7_checkLength_df160_16 : decode prog_25_method_131_code 16 = .ok (.iload_n 0, 1) := by decide +kernel
theorem dJ7_checkLength_df160_17 : decode prog_25_method_131_code 17 = .ok (.invokevirtual 54, 3) := by decide +kernel
theorem dJ7_checkLength_df160_20 : decode prog_25_method_131_code 20 = .ok (.ldc_w 337, 3) := by decide +kernel
theorem dJ7_checkLength_df160_23 : decode prog_25_method_131_code 23 = .ok (.invokevirtual 50, 3) := by decide +kernel
theorem dJ7_checkLength_df160_26 : decode prog_25_method_131_code 26 = .ok (.iload_n 1, 1) := by decide +kernel
theorem dJ7_checkLength_df160_27 : decode prog_25_method_131_code 27 = .ok (.invokevirtual 54, 3) := by decide +kernel
theorem dJ7_checkLength_df160_30 : decode prog_25_method_131_code 30 = .ok (.invokevirtual 61, 3) := by decide +kernel
theorem dJ7_checkLength_df160_33 : decode prog_25_method_131_code 33 = .ok (.invokespecial 65, 3) := by decide +kernel
theorem dJ7_checkLength_df160_36 : decode prog_25_method_131_code 36 = .ok (.athrow, 1) := by decide +kernel
theorem dJ7_checkLength_df160_37 : decode prog_25_method_131_code 37 = .ok (.return_, 1) := by decide +kernel
theorem dJ7_copyOfRange_39247_0 : decode prog_25_method_132_code 0 = .ok (.iload_n 1, 1) := by decide +kernel
theorem dJ7_copyOfRange_39247_1 : decode prog_25_method_132_code 1 = .ok (.ifCond .ne 9, 3) := by decide +kernel
theorem dJ7_copyOfRange_39247_4 : decode prog_25_method_132_code 4 = .ok (.iload_n 2, 1) := by decide +kernel
theorem dJ7_copyOfRange_39247_5 : decode prog_25_method_132_code 5 = .ok (.aload_n 0, 1) := by decide +kernel
theorem dJ7_copyOfRange_39247_6 : decode prog_25_method_132_code 6 = .ok (.arraylength, 1) := by decide +kernel
theorem dJ7_copyOfRange_39247_7 : decode prog_25_method_132_code 7 = .ok (.if_icmp .eq 10, 3) := by decide +kernel
theorem dJ7_copyOfRange_39247_10 : decode prog_25_method_132_code 10 = .ok (.aload_n 0, 1) := by decide +kernel
theorem dJ7_copyOfRange_39247_11 : decode prog_25_method_132_code 11 = .ok (.iload_n 1, 1) := by decide +kernel
theorem dJ7_copyOfRange_39247_12 : decode prog_25_method_132_code 12 = .ok (.iload_n 2, 1) := by decide +kernel
theorem dJ7_copyOfRange_39247_13 : decode prog_25_method_132_code 13 = .ok (.invokestatic 339, 3) := by decide +kernel
theorem dJ7_copyOfRange_39247_16 : decode prog_25_method_132_code 16 = .ok (.areturn, 1) := by decide +kernel
theorem dJ7_copyOfRange_39247_17 : decode prog_25_method_132_code 17 = .ok (.aload_n 0, 1) := by decide +kernel
theorem dJ7_copyOfRange_39247_18 : decode prog_25_method_132_code 18 = .ok (.invokevirtual 310, 3) := by decide +kernel
theorem dJ7_copyOfRange_39247_21 : decode prog_25_method_132_code 21 = .ok (.checkcast 311, 3) := by decide +kernel
theorem dJ7_copyOfRange_39247_24 : decode prog_25_method_132_code 24 = .ok (.areturn, 1) := by decide +kernel
theorem dJ7_copyOfRangeByte_39247_0 : decode prog_25_method_133_code 0 = .ok (.iload_n 1, 1) := by decide +kernel
theorem dJ7_copyOfRangeByte_39247_1 : decode prog_25_method_133_code 1 = .ok (.iload_n 2, 1) := by decide +kernel
theorem dJ7_copyOfRangeByte_39247_2 : decode prog_25_method_133_code 2 = .ok (.invokestatic 343, 3) := by decide +kernel
theorem dJ7_copyOfRangeByte_39247_5 : decode prog_25_method_133_code 5 = .ok (.iload_n 2, 1) := by decide +kernel
theorem dJ7_copyOfRangeByte_39247_6 : decode prog_25_method_133_code 6 = .ok (.iload_n 1, 1) := by decide +kernel
theorem dJ7_copyOfRangeByte_39247_7 : decode prog_25_method_133_code 7 = .ok (.isub, 1) := by decide +kernel
theorem dJ7_copyOfRangeByte_39247_8 : decode prog_25_method_133_code 8 = .ok (.istore_n 3, 1) := by decide +kernel
theorem dJ7_copyOfRangeByte_39247_9 : decode prog_25_method_133_code 9 = .ok (.iload_n 3, 1) := by decide +kernel
theorem dJ7_copyOfRangeByte_39247_10 : decode prog_25_method_133_code 10 = .ok (.newarray .byte, 2) := by decide +kernel
theorem dJ7_copyOfRangeByte_39247_12 : decode prog_25_method_133_code 12 = .ok (.astore 4, 2) := by decide +kernel
theorem dJ7_copyOfRangeByte_39247_14 : decode prog_25_method_133_code 14 = .ok (.aload_n 0, 1) := by decide +kernel
theorem dJ7_copyOfRangeByte_39247_15 : decode prog_25_method_133_code 15 = .ok (.iload_n 1, 1) := by decide +kernel
theorem dJ7_copyOfRangeByte_39247_16 : decode prog_25_method_133_code 16 = .ok (.aload 4, 2) := by decide +kernel
theorem dJ7_copyOfRangeByte_39247_18 : decode prog_25_method_133_code 18 = .ok (.iconst 0, 1) := by decide +kernel
theorem dJ7_copyOfRangeByte_39247_19 : decode prog_25_method_133_code 19 = .ok (.aload_n 0, 1) := by decide +kernel
theorem dJ7_copyOfRangeByte_39247_20 : decode prog_25_method_133_code 20 = .ok (.arraylength, 1) := by decide +kernel
theorem dJ7_copyOfRangeByte_39247_21 : decode prog_25_method_133_code 21 = .ok (.iload_n 1, 1) := by decide +kernel
theorem dJ7_copyOfRangeByte_39247_22 : decode prog_25_method_133_code 22 = .ok (.isub, 1) := by decide +kernel
theorem dJ7_copyOfRangeByte_39247_23 : decode prog_25_method_133_code 23 = .ok (.iload_n 3, 1) := by decide +kernel
theorem dJ7_copyOfRangeByte_39247_24 : decode prog_25_method_133_code 24 = .ok (.invokestatic 304, 3) := by decide +kernel
theorem dJ7_copyOfRangeByte_39247_27 : decode prog_25_method_133_code 27 = .ok (.invokestatic 150, 3) := by decide +kernel
theorem dJ7_copyOfRangeByte_39247_30 : decode prog_25_method_133_code 30 = .ok (.aload 4, 2) := by decide +kernel
theorem dJ7_copyOfRangeByte_39247_32 : decode prog_25_method_133_code 32 = .ok (.areturn, 1) := by decide +kernel
theorem dJ8_newLength_cabcc_0 : decode prog_26_method_27_code 0 = .ok (.iload_n 0, 1) := by decide +kernel
theorem dJ8_newLength_cabcc_1 : decode prog_26_method_27_code 1 = .ok (.iload_n 1, 1) := by decide +kernel
theorem dJ8_newLength_cabcc_2 : decode prog_26_method_27_code 2 = .ok (.iload_n 2, 1) := by decide +kernel
theorem dJ8_newLength_cabcc_3 : decode prog_26_method_27_code 3 = .ok (.invokestatic 194, 3) := by decide +kernel
theorem dJ8_newLength_cabcc_6 : decode prog_26_method_27_code 6 = .ok (.iadd, 1) := by decide +kernel
theorem dJ8_newLength_cabcc_7 : decode prog_26_method_27_code 7 = .ok (.istore_n 3, 1) := by decide +kernel
theorem dJ8_newLength_cabcc_8 : decode prog_26_method_27_code 8 = .ok (.iconst 0, 1) := by decide +kernel
theorem dJ8_newLength_cabcc_9 : decode prog_26_method_27_code 9 = .ok (.iload_n 3, 1) := by decide +kernel
theorem dJ8_newLength_cabcc_10 : decode prog_26_method_27_code 10 = .ok (.if_icmp .ge 11, 3) := by decide +kernel
theorem dJ8_newLength_cabcc_13 : decode prog_26_method_27_code 13 = .ok (.iload_n 3, 1) := by decide +kernel
theorem dJ8_newLength_cabcc_14 : decode prog_26_method_27_code 14 = .ok (.ldc 200, 2) := by decide +kernel
theorem dJ8_newLength_cabcc_16 : decode prog_26_method_27_code 16 = .ok (.if_icmp .gt 5, 3) := by decide +kernel
theorem dJ8_newLength_cabcc_19 : decode prog_26_method_27_code 19 = .ok (.iload_n 3, 1) := by decide +kernel
theorem dJ8_newLength_cabcc_20 : decode prog_26_method_27_code 20 = .ok (.ireturn, 1) := by decide +kernel
theorem dJ8_newLength_cabcc_21 : decode prog_26_method_27_code 21 = .ok (.iload_n 0, 1) := by decide +kernel
theorem dJ8_newLength_cabcc_22 : decode prog_26_method_27_code 22 = .ok (.iload_n 1, 1) := by decide +kernel
theorem dJ8_newLength_cabcc_23 : decode prog_26_method_27_code 23 = .ok (.invokestatic 201, 3) := by decide +kernel
theorem dJ8_newLength_cabcc_26 : decode prog_26_method_27_code 26 = .ok (.ireturn, 1) := by decide +kernel
theorem dJ8_hugeLength_7cf53_0 : decode prog_26_method_28_code 0 = .ok (.iload_n 0, 1) := by decide +kernel
theorem dJ8_hugeLength_7cf53_1 : decode prog_26_method_28_code 1 = .ok (.iload_n 1, 1) := by decide +kernel
theorem dJ8_hugeLength_7cf53_2 : decode prog_26_method_28_code 2 = .ok (.iadd, 1) := by decide +kernel
theorem dJ8_hugeLength_7cf53_3 : decode prog_26_method_28_code 3 = .ok (.istore_n 2, 1) := by decide +kernel
theorem dJ8_hugeLength_7cf53_4 : decode prog_26_method_28_code 4 = .ok (.iload_n 2, 1) := by decide +kernel
theorem dJ8_hugeLength_7cf53_5 : decode prog_26_method_28_code 5 = .ok (.ifCond .ge 44, 3) := by decide +kernel
theorem dJ8_hugeLength_7cf53_8 : decode prog_26_method_28_code 8 = .ok (.new 204, 3) := by decide +kernel
theorem dJ8_hugeLength_7cf53_11 : decode prog_26_method_28_code 11 = .ok (.dup, 1) := by decide +kernel
theorem dJ8_hugeLength_7cf53_12 : decode prog_26_method_28_code 12 = .ok (.new 89, 3) := by decide +kernel
theorem dJ8_hugeLength_7cf53_15 : decode prog_26_method_28_code 15 = .ok (.dup, 1) := by decide +kernel
theorem dJ8_hugeLength_7cf53_16 : decode prog_26_method_28_code 16 = .ok (.invokespecial 91, 3) := by decide +kernel
theorem dJ8_hugeLength_7cf53_19 : decode prog_26_method_28_code 19 = .ok (.ldc 206, 2) := by decide +kernel
theorem dJ8_hugeLength_7cf53_21 : decode prog_26_method_28_code 21 = .ok (.invokevirtual 94, 3) := by decide +kernel
theorem dJ8_hugeLength_7cf53_24 : decode prog_26_method_28_code 24 = .ok (.iload_n 0, 1) := by decide +kernel
theorem dJ8_hugeLength_7cf53_25 : decode prog_26_method_28_code 25 = .ok (.invokevirtual 98, 3) := by decide +kernel
theorem dJ8_hugeLength_7cf53_28 : decode prog_26_method_28_code 28 = .ok (.ldc 208, 2) := by decide +kernel
theorem dJ8_hugeLength_7cf53_30 : decode prog_26_method_28_code 30 = .ok (.invokevirtual 94, 3) := by decide +kernel
theorem dJ8_hugeLength_7cf53_33 : decode prog_26_method_28_code 33 = .ok (.iload_n 1, 1) := by decide +kernel
theorem dJ8_hugeLength_7cf53_34 : decode prog_26_method_28_code 34 = .ok (.invokevirtual 98, 3) := by decide +kernel
theorem dJ8_hugeLength_7cf53_37 : decode prog_26_method_28_code 37 = .ok (.ldc 210, 2) := by decide +kernel
theorem dJ8_hugeLength_7cf53_39 : decode prog_26_method_28_code 39 = .ok (.invokevirtual 94, 3) := by decide +kernel
theorem dJ8_hugeLength_7cf53_42 : decode prog_26_method_28_code 42 = .ok (.invokevirtual 101, 3) := by decide +kernel
theorem dJ8_hugeLength_7cf53_45 : decode prog_26_method_28_code 45 = .ok (.invokespecial 212, 3) := by decide +kernel
theorem dJ8_hugeLength_7cf53_48 : decode prog_26_method_28_code 48 = .ok (.athrow, 1) := by decide +kernel
theorem dJ8_hugeLength_7cf53_49 : decode prog_26_method_28_code 49 = .ok (.iload_n 2, 1) := by decide +kernel
theorem dJ8_hugeLength_7cf53_50 : decode prog_26_method_28_code 50 = .ok (.ldc 200, 2) := by decide +kernel
theorem dJ8_hugeLength_7cf53_52 : decode prog_26_method_28_code 52 = .ok (.if_icmp .gt 6, 3) := by decide +kernel
theorem dJ8_hugeLength_7cf53_55 : decode prog_26_method_28_code 55 = .ok (.ldc 200, 2) := by decide +kernel
theorem dJ8_hugeLength_7cf53_57 : decode prog_26_method_28_code 57 = .ok (.ireturn, 1) := by decide +kernel
theorem dJ8_hugeLength_7cf53_58 : decode prog_26_method_28_code 58 = .ok (.iload_n 2, 1) := by decide +kernel
theorem dJ8_hugeLength_7cf53_59 : decode prog_26_method_28_code 59 = .ok (.ireturn, 1) := by decide +kernel
theorem dJ3_checkIndex_8e157_0 : decode prog_27_method_11_code 0 = .ok (.iload_n 0, 1) := by decide +kernel
theorem dJ3_checkIndex_8e157_1 : decode prog_27_method_11_code 1 = .ok (.ifCond .lt 8, 3) := by decide +kernel
theorem dJ3_checkIndex_8e157_4 : decode prog_27_method_11_code 4 = .ok (.iload_n 0, 1) := by decide +kernel
theorem dJ3_checkIndex_8e157_5 : decode prog_27_method_11_code 5 = .ok (.iload_n 1, 1) := by decide +kernel
theorem dJ3_checkIndex_8e157_6 : decode prog_27_method_11_code 6 = .ok (.if_icmp .lt 10, 3) := by decide +kernel
theorem dJ3_checkIndex_8e157_9 : decode prog_27_method_11_code 9 = .ok (.aload_n 2, 1) := by decide +kernel
theorem dJ3_checkIndex_8e157_10 : decode prog_27_method_11_code 10 = .ok (.iload_n 0, 1) := by decide +kernel
theorem dJ3_checkIndex_8e157_11 : decode prog_27_method_11_code 11 = .ok (.iload_n 1, 1) := by decide +kernel
theorem dJ3_checkIndex_8e157_12 : decode prog_27_method_11_code 12 = .ok (.invokestatic 95, 3) := by decide +kernel
theorem dJ3_checkIndex_8e157_15 : decode prog_27_method_11_code 15 = .ok (.athrow, 1) := by decide +kernel
theorem dJ3_checkIndex_8e157_16 : decode prog_27_method_11_code 16 = .ok (.iload_n 0, 1) := by decide +kernel
theorem dJ3_checkIndex_8e157_17 : decode prog_27_method_11_code 17 = .ok (.ireturn, 1) := by decide +kernel
theorem dJ3_checkFromToIndex_8c36e_0 : decode prog_27_method_12_code 0 = .ok (.iload_n 0, 1) := by decide +kernel
theorem dJ3_checkFromToIndex_8c36e_1 : decode prog_27_method_12_code 1 = .ok (.ifCond .lt 13, 3) := by decide +kernel
theorem dJ3_checkFromToIndex_8c36e_4 : decode prog_27_method_12_code 4 = .ok (.iload_n 0, 1) := by decide +kernel
theorem dJ3_checkFromToIndex_8c36e_5 : decode prog_27_method_12_code 5 = .ok (.iload_n 1, 1) := by decide +kernel
theorem dJ3_checkFromToIndex_8c36e_6 : decode prog_27_method_12_code 6 = .ok (.if_icmp .gt 8, 3) := by decide +kernel
theorem dJ3_checkFromToIndex_8c36e_9 : decode prog_27_method_12_code 9 = .ok (.iload_n 1, 1) := by decide +kernel
theorem dJ3_checkFromToIndex_8c36e_10 : decode prog_27_method_12_code 10 = .ok (.iload_n 2, 1) := by decide +kernel
theorem dJ3_checkFromToIndex_8c36e_11 : decode prog_27_method_12_code 11 = .ok (.if_icmp .le 11, 3) := by decide +kernel
theorem dJ3_checkFromToIndex_8c36e_14 : decode prog_27_method_12_code 14 = .ok (.aload_n 3, 1) := by decide +kernel
theorem dJ3_checkFromToIndex_8c36e_15 : decode prog_27_method_12_code 15 = .ok (.iload_n 0, 1) := by decide +kernel
theorem dJ3_checkFromToIndex_8c36e_16 : decode prog_27_method_12_code 16 = .ok (.iload_n 1, 1) := by decide +kernel
theorem dJ3_checkFromToIndex_8c36e_17 : decode prog_27_method_12_code 17 = .ok (.iload_n 2, 1) := by decide +kernel
theorem dJ3_checkFromToIndex_8c36e_18 : decode prog_27_method_12_code 18 = .ok (.invokestatic 99, 3) := by decide +kernel
theorem dJ3_checkFromToIndex_8c36e_21 : decode prog_27_method_12_code 21 = .ok (.athrow, 1) := by decide +kernel
theorem dJ3_checkFromToIndex_8c36e_22 : decode prog_27_method_12_code 22 = .ok (.iload_n 0, 1) := by decide +kernel
theorem dJ3_checkFromToIndex_8c36e_23 : decode prog_27_method_12_code 23 = .ok (.ireturn, 1) := by decide +kernel
theorem dJ3_checkFromIndexSize_8c36e_0 : decode prog_27_method_13_code 0 = .ok (.iload_n 2, 1) := by decide +kernel
theorem dJ3_checkFromIndexSize_8c36e_1 : decode prog_27_method_13_code 1 = .ok (.iload_n 0, 1) := by decide +kernel
theorem dJ3_checkFromIndexSize_8c36e_2 : decode prog_27_method_13_code 2 = .ok (.ior, 1) := by decide +kernel
theorem dJ3_checkFromIndexSize_8c36e_3 : decode prog_27_method_13_code 3 = .ok (.iload_n 1, 1) := by decide +kernel
theorem dJ3_checkFromIndexSize_8c36e_4 : decode prog_27_method_13_code 4 = .ok (.ior, 1) := by decide +kernel
theorem dJ3_checkFromIndexSize_8c36e_5 : decode prog_27_method_13_code 5 = .ok (.ifCond .lt 10, 3) := by decide +kernel
theorem dJ3_checkFromIndexSize_8c36e_8 : decode prog_27_method_13_code 8 = .ok (.iload_n 1, 1) := by decide +kernel
theorem dJ3_checkFromIndexSize_8c36e_9 : decode prog_27_method_13_code 9 = .ok (.iload_n 2, 1) := by decide +kernel
theorem dJ3_checkFromIndexSize_8c36e_10 : decode prog_27_method_13_code 10 = .ok (.iload_n 0, 1) := by decide +kernel
theorem dJ3_checkFromIndexSize_8c36e_11 : decode prog_27_method_13_code 11 = .ok (.isub, 1) := by decide +kernel
theorem dJ3_checkFromIndexSize_8c36e_12 : decode prog_27_method_13_code 12 = .ok (.if_icmp .le 11, 3) := by decide +kernel
theorem dJ3_checkFromIndexSize_8c36e_15 : decode prog_27_method_13_code 15 = .ok (.aload_n 3, 1) := by decide +kernel
theorem dJ3_checkFromIndexSize_8c36e_16 : decode prog_27_method_13_code 16 = .ok (.iload_n 0, 1) := by decide +kernel
theorem dJ3_checkFromIndexSize_8c36e_17 : decode prog_27_method_13_code 17 = .ok (.iload_n 1, 1) := by decide +kernel
theorem dJ3_checkFromIndexSize_8c36e_18 : decode prog_27_method_13_code 18 = .ok (.iload_n 2, 1) := by decide +kernel
theorem dJ3_checkFromIndexSize_8c36e_19 : decode prog_27_method_13_code 19 = .ok (.invokestatic 103, 3) := by decide +kernel
theorem dJ3_checkFromIndexSize_8c36e_22 : decode prog_27_method_13_code 22 = .ok (.athrow, 1) := by decide +kernel
theorem dJ3_checkFromIndexSize_8c36e_23 : decode prog_27_method_13_code 23 = .ok (.iload_n 0, 1) := by decide +kernel
theorem dJ3_checkFromIndexSize_8c36e_24 : decode prog_27_method_13_code 24 = .ok (.ireturn, 1) := by decide +kernel
theorem dL_cell_0 : decode method_2_code 0 = .ok (.iload_n 1, 1) := by decide +kernel
theorem dL_cell_1 : decode method_2_code 1 = .ok (.aload_n 0, 1) := by decide +kernel
theorem dL_cell_2 : decode method_2_code 2 = .ok (.arraylength, 1) := by decide +kernel
theorem dL_cell_3 : decode method_2_code 3 = .ok (.if_icmp .ge 9, 3) := by decide +kernel
theorem dL_cell_6 : decode method_2_code 6 = .ok (.aload_n 0, 1) := by decide +kernel
theorem dL_cell_7 : decode method_2_code 7 = .ok (.iload_n 1, 1) := by decide +kernel
theorem dL_cell_8 : decode method_2_code 8 = .ok (.iaload, 1) := by decide +kernel
theorem dL_cell_9 : decode method_2_code 9 = .ok (.goto 12, 3) := by decide +kernel
theorem dL_cell_12 : decode method_2_code 12 = .ok (.sipush 661, 3) := by decide +kernel
theorem dL_cell_15 : decode method_2_code 15 = .ok (.iload_n 1, 1) := by decide +kernel
theorem dL_cell_16 : decode method_2_code 16 = .ok (.imul, 1) := by decide +kernel
theorem dL_cell_17 : decode method_2_code 17 = .ok (.sipush 659, 3) := by decide +kernel
theorem dL_cell_20 : decode method_2_code 20 = .ok (.iadd, 1) := by decide +kernel
theorem dL_cell_21 : decode method_2_code 21 = .ok (.ireturn, 1) := by decide +kernel
theorem dL_between_0 : decode method_3_code 0 = .ok (.iload_n 1, 1) := by decide +kernel
theorem dL_between_1 : decode method_3_code 1 = .ok (.iload_n 0, 1) := by decide +kernel
theorem dL_between_2 : decode method_3_code 2 = .ok (.ldc 7, 2) := by decide +kernel
theorem dL_between_4 : decode method_3_code 4 = .ok (.iand, 1) := by decide +kernel
theorem dL_between_5 : decode method_3_code 5 = .ok (.iload_n 2, 1) := by decide +kernel
theorem dL_between_6 : decode method_3_code 6 = .ok (.iload_n 1, 1) := by decide +kernel
theorem dL_between_7 : decode method_3_code 7 = .ok (.isub, 1) := by decide +kernel
theorem dL_between_8 : decode method_3_code 8 = .ok (.iconst 1, 1) := by decide +kernel
theorem dL_between_9 : decode method_3_code 9 = .ok (.iadd, 1) := by decide +kernel
theorem dL_between_10 : decode method_3_code 10 = .ok (.irem, 1) := by decide +kernel
theorem dL_between_11 : decode method_3_code 11 = .ok (.iadd, 1) := by decide +kernel
theorem dL_between_12 : decode method_3_code 12 = .ok (.ireturn, 1) := by decide +kernel
theorem dL_held_0 : decode method_4_code 0 = .ok (.iload_n 1, 1) := by decide +kernel
theorem dL_held_1 : decode method_4_code 1 = .ok (.iload_n 2, 1) := by decide +kernel
theorem dL_held_2 : decode method_4_code 2 = .ok (.iload_n 0, 1) := by decide +kernel
theorem dL_held_3 : decode method_4_code 3 = .ok (.invokestatic 8, 3) := by decide +kernel
theorem dL_held_6 : decode method_4_code 6 = .ok (.invokestatic 14, 3) := by decide +kernel
theorem dL_held_9 : decode method_4_code 9 = .ok (.ireturn, 1) := by decide +kernel
theorem dL_say_0 : decode method_5_code 0 = .ok (.iconst 0, 1) := by decide +kernel
theorem dL_say_1 : decode method_5_code 1 = .ok (.istore_n 2, 1) := by decide +kernel
theorem dL_say_2 : decode method_5_code 2 = .ok (.iload_n 2, 1) := by decide +kernel
theorem dL_say_3 : decode method_5_code 3 = .ok (.aload_n 1, 1) := by decide +kernel
theorem dL_say_4 : decode method_5_code 4 = .ok (.invokevirtual 17, 3) := by decide +kernel
theorem dL_say_7 : decode method_5_code 7 = .ok (.if_icmp .ge 89, 3) := by decide +kernel
theorem dL_say_10 : decode method_5_code 10 = .ok (.iconst 5, 1) := by decide +kernel
theorem dL_say_11 : decode method_5_code 11 = .ok (.newarray .int, 2) := by decide +kernel
theorem dL_say_13 : decode method_5_code 13 = .ok (.astore_n 3, 1) := by decide +kernel
theorem dL_say_14 : decode method_5_code 14 = .ok (.iconst 0, 1) := by decide +kernel
theorem dL_say_15 : decode method_5_code 15 = .ok (.istore 4, 2) := by decide +kernel
theorem dL_say_17 : decode method_5_code 17 = .ok (.iload 4, 2) := by decide +kernel
theorem dL_say_19 : decode method_5_code 19 = .ok (.bipush 20, 2) := by decide +kernel
theorem dL_say_21 : decode method_5_code 21 = .ok (.if_icmp .ge 49, 3) := by decide +kernel
theorem dL_say_24 : decode method_5_code 24 = .ok (.aload_n 3, 1) := by decide +kernel
theorem dL_say_25 : decode method_5_code 25 = .ok (.iload 4, 2) := by decide +kernel
theorem dL_say_27 : decode method_5_code 27 = .ok (.iconst 4, 1) := by decide +kernel
theorem dL_say_28 : decode method_5_code 28 = .ok (.idiv, 1) := by decide +kernel
theorem dL_say_29 : decode method_5_code 29 = .ok (.aload_n 3, 1) := by decide +kernel
theorem dL_say_30 : decode method_5_code 30 = .ok (.iload 4, 2) := by decide +kernel
theorem dL_say_32 : decode method_5_code 32 = .ok (.iconst 4, 1) := by decide +kernel
theorem dL_say_33 : decode method_5_code 33 = .ok (.idiv, 1) := by decide +kernel
theorem dL_say_34 : decode method_5_code 34 = .ok (.iaload, 1) := by decide +kernel
theorem dL_say_35 : decode method_5_code 35 = .ok (.bipush 8, 2) := by decide +kernel
theorem dL_say_37 : decode method_5_code 37 = .ok (.ishl, 1) := by decide +kernel
theorem dL_say_38 : decode method_5_code 38 = .ok (.iload_n 2, 1) := by decide +kernel
theorem dL_say_39 : decode method_5_code 39 = .ok (.iload 4, 2) := by decide +kernel
theorem dL_say_41 : decode method_5_code 41 = .ok (.iadd, 1) := by decide +kernel
theorem dL_say_42 : decode method_5_code 42 = .ok (.aload_n 1, 1) := by decide +kernel
theorem dL_say_43 : decode method_5_code 43 = .ok (.invokevirtual 17, 3) := by decide +kernel
theorem dL_say_46 : decode method_5_code 46 = .ok (.if_icmp .ge 14, 3) := by decide +kernel
theorem dL_say_49 : decode method_5_code 49 = .ok (.aload_n 1, 1) := by decide +kernel
theorem dL_say_50 : decode method_5_code 50 = .ok (.iload_n 2, 1) := by decide +kernel
theorem dL_say_51 : decode method_5_code 51 = .ok (.iload 4, 2) := by decide +kernel
theorem dL_say_53 : decode method_5_code 53 = .ok (.iadd, 1) := by decide +kernel
theorem dL_say_54 : decode method_5_code 54 = .ok (.invokevirtual 23, 3) := by decide +kernel
theorem dL_say_57 : decode method_5_code 57 = .ok (.goto 5, 3) := by decide +kernel
theorem dL_say_60 : decode method_5_code 60 = .ok (.bipush 32, 2) := by decide +kernel
theorem dL_say_62 : decode method_5_code 62 = .ok (.ior, 1) := by decide +kernel
theorem dL_say_63 : decode method_5_code 63 = .ok (.iastore, 1) := by decide +kernel
theorem dL_say_64 : decode method_5_code 64 = .ok (.iinc 4 1, 3) := by decide +kernel
theorem dL_say_67 : decode method_5_code 67 = .ok (.goto (-50), 3) := by decide +kernel
theorem dL_say_70 : decode method_5_code 70 = .ok (.aload_n 0, 1) := by decide +kernel
theorem dL_say_71 : decode method_5_code 71 = .ok (.aload_n 3, 1) := by decide +kernel
theorem dL_say_72 : decode method_5_code 72 = .ok (.iconst 0, 1) := by decide +kernel
theorem dL_say_73 : decode method_5_code 73 = .ok (.iaload, 1) := by decide +kernel
theorem dL_say_74 : decode method_5_code 74 = .ok (.aload_n 3, 1) := by decide +kernel
theorem dL_say_75 : decode method_5_code 75 = .ok (.iconst 1, 1) := by decide +kernel
theorem dL_say_76 : decode method_5_code 76 = .ok (.iaload, 1) := by decide +kernel
theorem dL_say_77 : decode method_5_code 77 = .ok (.aload_n 3, 1) := by decide +kernel
theorem dL_say_78 : decode method_5_code 78 = .ok (.iconst 2, 1) := by decide +kernel
theorem dL_say_79 : decode method_5_code 79 = .ok (.iaload, 1) := by decide +kernel
theorem dL_say_80 : decode method_5_code 80 = .ok (.aload_n 3, 1) := by decide +kernel
theorem dL_say_81 : decode method_5_code 81 = .ok (.iconst 3, 1) := by decide +kernel
theorem dL_say_82 : decode method_5_code 82 = .ok (.iaload, 1) := by decide +kernel
theorem dL_say_83 : decode method_5_code 83 = .ok (.aload_n 3, 1) := by decide +kernel
theorem dL_say_84 : decode method_5_code 84 = .ok (.iconst 4, 1) := by decide +kernel
theorem dL_say_85 : decode method_5_code 85 = .ok (.iaload, 1) := by decide +kernel
theorem dL_say_86 : decode method_5_code 86 = .ok (.invokevirtual 27, 3) := by decide +kernel
theorem dL_say_89 : decode method_5_code 89 = .ok (.pop, 1) := by decide +kernel
theorem dL_say_90 : decode method_5_code 90 = .ok (.iinc 2 20, 3) := by decide +kernel
theorem dL_say_93 : decode method_5_code 93 = .ok (.goto (-91), 3) := by decide +kernel
theorem dL_say_96 : decode method_5_code 96 = .ok (.aload_n 1, 1) := by decide +kernel
theorem dL_say_97 : decode method_5_code 97 = .ok (.invokevirtual 17, 3) := by decide +kernel
theorem dL_say_100 : decode method_5_code 100 = .ok (.ifCond .le 12, 3) := by decide +kernel
theorem dL_say_103 : decode method_5_code 103 = .ok (.aload_n 0, 1) := by decide +kernel
theorem dL_say_104 : decode method_5_code 104 = .ok (.aload_n 1, 1) := by decide +kernel
theorem dL_say_105 : decode method_5_code 105 = .ok (.invokevirtual 17, 3) := by decide +kernel
theorem dL_say_108 : decode method_5_code 108 = .ok (.invokevirtual 33, 3) := by decide +kernel
theorem dL_say_111 : decode method_5_code 111 = .ok (.pop, 1) := by decide +kernel
theorem dL_say_112 : decode method_5_code 112 = .ok (.return_, 1) := by decide +kernel
theorem dL_texts_0 : decode method_6_code 0 = .ok (.iload_n 2, 1) := by decide +kernel
theorem dL_texts_1 : decode method_6_code 1 = .ok (.iconst 3, 1) := by decide +kernel
theorem dL_texts_2 : decode method_6_code 2 = .ok (.ishr, 1) := by decide +kernel
theorem dL_texts_3 : decode method_6_code 3 = .ok (.iconst 0, 1) := by decide +kernel
theorem dL_texts_4 : decode method_6_code 4 = .ok (.bipush 8, 2) := by decide +kernel
theorem dL_texts_6 : decode method_6_code 6 = .ok (.invokestatic 37, 3) := by decide +kernel
theorem dL_texts_9 : decode method_6_code 9 = .ok (.istore_n 3, 1) := by decide +kernel
theorem dL_texts_10 : decode method_6_code 10 = .ok (.new 43, 3) := by decide +kernel
theorem dL_texts_13 : decode method_6_code 13 = .ok (.dup, 1) := by decide +kernel
theorem dL_texts_14 : decode method_6_code 14 = .ok (.invokespecial 45, 3) := by decide +kernel
theorem dL_texts_17 : decode method_6_code 17 = .ok (.astore 4, 2) := by decide +kernel
theorem dL_texts_19 : decode method_6_code 19 = .ok (.bipush 16, 2) := by decide +kernel
theorem dL_texts_21 : decode method_6_code 21 = .ok (.anewarray 46, 3) := by decide +kernel
theorem dL_texts_24 : decode method_6_code 24 = .ok (.astore 5, 2) := by decide +kernel
theorem dL_texts_26 : decode method_6_code 26 = .ok (.iconst 0, 1) := by decide +kernel
theorem dL_texts_27 : decode method_6_code 27 = .ok (.istore 6, 2) := by decide +kernel
theorem dL_texts_29 : decode method_6_code 29 = .ok (.aload_n 1, 1) := by decide +kernel
theorem dL_texts_30 : decode method_6_code 30 = .ok (.bipush 9, 2) := by decide +kernel
theorem dL_texts_32 : decode method_6_code 32 = .ok (.putfield 48, 3) := by decide +kernel
theorem dL_texts_35 : decode method_6_code 35 = .ok (.aload_n 1, 1) := by decide +kernel
theorem dL_texts_36 : decode method_6_code 36 = .ok (.sipush 300, 3) := by decide +kernel
theorem dL_texts_39 : decode method_6_code 39 = .ok (.putfield 54, 3) := by decide +kernel
theorem dL_texts_42 : decode method_6_code 42 = .ok (.aload_n 1, 1) := by decide +kernel
theorem dL_texts_43 : decode method_6_code 43 = .ok (.iconst 0, 1) := by decide +kernel
theorem dL_texts_44 : decode method_6_code 44 = .ok (.putfield 56, 3) := by decide +kernel
theorem dL_texts_47 : decode method_6_code 47 = .ok (.aload_n 1, 1) := by decide +kernel
theorem dL_texts_48 : decode method_6_code 48 = .ok (.iload_n 3, 1) := by decide +kernel
theorem dL_texts_49 : decode method_6_code 49 = .ok (.putfield 59, 3) := by decide +kernel
theorem dL_texts_52 : decode method_6_code 52 = .ok (.iconst 0, 1) := by decide +kernel
theorem dL_texts_53 : decode method_6_code 53 = .ok (.istore 7, 2) := by decide +kernel
theorem dL_texts_55 : decode method_6_code 55 = .ok (.iload 7, 2) := by decide +kernel
theorem dL_texts_57 : decode method_6_code 57 = .ok (.iload_n 3, 1) := by decide +kernel
theorem dL_texts_58 : decode method_6_code 58 = .ok (.if_icmp .ge 332, 3) := by decide +kernel
theorem dL_texts_61 : decode method_6_code 61 = .ok (.iload_n 2, 1) := by decide +kernel
theorem dL_texts_62 : decode method_6_code 62 = .ok (.iload 7, 2) := by decide +kernel
theorem dL_texts_64 : decode method_6_code 64 = .ok (.iconst 3, 1) := by decide +kernel
theorem dL_texts_65 : decode method_6_code 65 = .ok (.iadd, 1) := by decide +kernel
theorem dL_texts_66 : decode method_6_code 66 = .ok (.imul, 1) := by decide +kernel
theorem dL_texts_67 : decode method_6_code 67 = .ok (.sipush 313, 3) := by decide +kernel
theorem dL_texts_70 : decode method_6_code 70 = .ok (.iload 7, 2) := by decide +kernel
theorem dL_texts_72 : decode method_6_code 72 = .ok (.imul, 1) := by decide +kernel
theorem dL_texts_73 : decode method_6_code 73 = .ok (.iadd, 1) := by decide +kernel
theorem dL_texts_74 : decode method_6_code 74 = .ok (.istore 8, 2) := by decide +kernel
theorem dL_texts_76 : decode method_6_code 76 = .ok (.iload 8, 2) := by decide +kernel
theorem dL_texts_78 : decode method_6_code 78 = .ok (.iconst 3, 1) := by decide +kernel
theorem dL_texts_79 : decode method_6_code 79 = .ok (.ishr, 1) := by decide +kernel
theorem dL_texts_80 : decode method_6_code 80 = .ok (.iconst 0, 1) := by decide +kernel
theorem dL_texts_81 : decode method_6_code 81 = .ok (.aload_n 1, 1) := by decide +kernel
theorem dL_texts_82 : decode method_6_code 82 = .ok (.getfield 62, 3) := by decide +kernel
theorem dL_texts_85 : decode method_6_code 85 = .ok (.ifCond .ne 7, 3) := by decide +kernel
theorem dL_texts_88 : decode method_6_code 88 = .ok (.iconst 2, 1) := by decide +kernel
theorem dL_texts_89 : decode method_6_code 89 = .ok (.goto 4, 3) := by decide +kernel
theorem dL_texts_92 : decode method_6_code 92 = .ok (.iconst 3, 1) := by decide +kernel
theorem dL_texts_93 : decode method_6_code 93 = .ok (.invokestatic 37, 3) := by decide +kernel
theorem dL_texts_96 : decode method_6_code 96 = .ok (.istore 9, 2) := by decide +kernel
theorem dL_texts_98 : decode method_6_code 98 = .ok (.iload 9, 2) := by decide +kernel
theorem dL_texts_100 : decode method_6_code 100 = .ok (.ifCond .ne 110, 3) := by decide +kernel
theorem dL_texts_103 : decode method_6_code 103 = .ok (.aload 5, 2) := by decide +kernel
theorem dL_texts_105 : decode method_6_code 105 = .ok (.iload 6, 2) := by decide +kernel
theorem dL_texts_107 : decode method_6_code 107 = .ok (.iconst 2, 1) := by decide +kernel
theorem dL_texts_108 : decode method_6_code 108 = .ok (.newarray .int, 2) := by decide +kernel
theorem dL_texts_110 : decode method_6_code 110 = .ok (.dup, 1) := by decide +kernel
theorem dL_texts_111 : decode method_6_code 111 = .ok (.iconst 0, 1) := by decide +kernel
theorem dL_texts_112 : decode method_6_code 112 = .ok (.iload 8, 2) := by decide +kernel
theorem dL_texts_114 : decode method_6_code 114 = .ok (.iconst 4, 1) := by decide +kernel
theorem dL_texts_115 : decode method_6_code 115 = .ok (.ishr, 1) := by decide +kernel
theorem dL_texts_116 : decode method_6_code 116 = .ok (.iconst 1, 1) := by decide +kernel
theorem dL_texts_117 : decode method_6_code 117 = .ok (.bipush 30, 2) := by decide +kernel
theorem dL_texts_119 : decode method_6_code 119 = .ok (.invokestatic 37, 3) := by decide +kernel
theorem dL_texts_122 : decode method_6_code 122 = .ok (.iastore, 1) := by decide +kernel
theorem dL_texts_123 : decode method_6_code 123 = .ok (.dup, 1) := by decide +kernel
theorem dL_texts_124 : decode method_6_code 124 = .ok (.iconst 1, 1) := by decide +kernel
theorem dL_texts_125 : decode method_6_code 125 = .ok (.aload_n 1, 1) := by decide +kernel
theorem dL_texts_126 : decode method_6_code 126 = .ok (.getfield 65, 3) := by decide +kernel
theorem dL_texts_129 : decode method_6_code 129 = .ok (.iload 8, 2) := by decide +kernel
theorem dL_texts_131 : decode method_6_code 131 = .ok (.bipush 6, 2) := by decide +kernel
theorem dL_texts_133 : decode method_6_code 133 = .ok (.ishr, 1) := by decide +kernel
theorem dL_texts_134 : decode method_6_code 134 = .ok (.iconst 0, 1) := by decide +kernel
theorem dL_texts_135 : decode method_6_code 135 = .ok (.iconst 4, 1) := by decide +kernel
theorem dL_texts_136 : decode method_6_code 136 = .ok (.invokestatic 37, 3) := by decide +kernel
theorem dL_texts_139 : decode method_6_code 139 = .ok (.iadd, 1) := by decide +kernel
theorem dL_texts_140 : decode method_6_code 140 = .ok (.aload_n 1, 1) := by decide +kernel
theorem dL_texts_141 : decode method_6_code 141 = .ok (.getfield 65, 3) := by decide +kernel
theorem dL_texts_144 : decode method_6_code 144 = .ok (.iconst 1, 1) := by decide +kernel
theorem dL_texts_145 : decode method_6_code 145 = .ok (.if_icmp .le 7, 3) := by decide +kernel
theorem dL_texts_148 : decode method_6_code 148 = .ok (.iconst 2, 1) := by decide +kernel
theorem dL_texts_149 : decode method_6_code 149 = .ok (.goto 4, 3) := by decide +kernel
theorem dL_texts_152 : decode method_6_code 152 = .ok (.iconst 0, 1) := by decide +kernel
theorem dL_texts_153 : decode method_6_code 153 = .ok (.isub, 1) := by decide +kernel
theorem dL_texts_154 : decode method_6_code 154 = .ok (.iastore, 1) := by decide +kernel
theorem dL_texts_155 : decode method_6_code 155 = .ok (.aastore, 1) := by decide +kernel
theorem dL_texts_156 : decode method_6_code 156 = .ok (.aload 4, 2) := by decide +kernel
theorem dL_texts_158 : decode method_6_code 158 = .ok (.new 43, 3) := by decide +kernel
theorem dL_texts_161 : decode method_6_code 161 = .ok (.dup, 1) := by decide +kernel
theorem dL_texts_162 : decode method_6_code 162 = .ok (.invokespecial 45, 3) := by decide +kernel
theorem dL_texts_165 : decode method_6_code 165 = .ok (.ldc 68, 2) := by decide +kernel
theorem dL_texts_167 : decode method_6_code 167 = .ok (.invokevirtual 70, 3) := by decide +kernel
theorem dL_texts_170 : decode method_6_code 170 = .ok (.aload 5, 2) := by decide +kernel
theorem dL_texts_172 : decode method_6_code 172 = .ok (.iload 6, 2) := by decide +kernel
theorem dL_texts_174 : decode method_6_code 174 = .ok (.aaload, 1) := by decide +kernel
theorem dL_texts_175 : decode method_6_code 175 = .ok (.iconst 0, 1) := by decide +kernel
theorem dL_texts_176 : decode method_6_code 176 = .ok (.iaload, 1) := by decide +kernel
theorem dL_texts_177 : decode method_6_code 177 = .ok (.invokevirtual 74, 3) := by decide +kernel
theorem dL_texts_180 : decode method_6_code 180 = .ok (.ldc 77, 2) := by decide +kernel
theorem dL_texts_182 : decode method_6_code 182 = .ok (.invokevirtual 70, 3) := by decide +kernel
theorem dL_texts_185 : decode method_6_code 185 = .ok (.aload 5, 2) := by decide +kernel
theorem dL_texts_187 : decode method_6_code 187 = .ok (.iload 6, 2) := by decide +kernel
theorem dL_texts_189 : decode method_6_code 189 = .ok (.aaload, 1) := by decide +kernel
theorem dL_texts_190 : decode method_6_code 190 = .ok (.iconst 1, 1) := by decide +kernel
theorem dL_texts_191 : decode method_6_code 191 = .ok (.iaload, 1) := by decide +kernel
theorem dL_texts_192 : decode method_6_code 192 = .ok (.invokevirtual 74, 3) := by decide +kernel
theorem dL_texts_195 : decode method_6_code 195 = .ok (.ldc 79, 2) := by decide +kernel
theorem dL_texts_197 : decode method_6_code 197 = .ok (.invokevirtual 70, 3) := by decide +kernel
theorem dL_texts_200 : decode method_6_code 200 = .ok (.invokevirtual 81, 3) := by decide +kernel
theorem dL_texts_203 : decode method_6_code 203 = .ok (.invokevirtual 70, 3) := by decide +kernel
theorem dL_texts_206 : decode method_6_code 206 = .ok (.pop, 1) := by decide +kernel
theorem dL_texts_207 : decode method_6_code 207 = .ok (.iinc 6 1, 3) := by decide +kernel
theorem dL_texts_210 : decode method_6_code 210 = .ok (.iload 9, 2) := by decide +kernel
theorem dL_texts_212 : decode method_6_code 212 = .ok (.iconst 1, 1) := by decide +kernel
theorem dL_texts_213 : decode method_6_code 213 = .ok (.if_icmp .ne 50, 3) := by decide +kernel
theorem dL_texts_216 : decode method_6_code 216 = .ok (.aload_n 1, 1) := by decide +kernel
theorem dL_texts_217 : decode method_6_code 217 = .ok (.iload 8, 2) := by decide +kernel
theorem dL_texts_219 : decode method_6_code 219 = .ok (.iconst 5, 1) := by decide +kernel
theorem dL_texts_220 : decode method_6_code 220 = .ok (.ishr, 1) := by decide +kernel
theorem dL_texts_221 : decode method_6_code 221 = .ok (.iconst 0, 1) := by decide +kernel
theorem dL_texts_222 : decode method_6_code 222 = .ok (.bipush 7, 2) := by decide +kernel
theorem dL_texts_224 : decode method_6_code 224 = .ok (.invokestatic 37, 3) := by decide +kernel
theorem dL_texts_227 : decode method_6_code 227 = .ok (.putfield 48, 3) := by decide +kernel
theorem dL_texts_230 : decode method_6_code 230 = .ok (.aload 4, 2) := by decide +kernel
theorem dL_texts_232 : decode method_6_code 232 = .ok (.new 43, 3) := by decide +kernel
theorem dL_texts_235 : decode method_6_code 235 = .ok (.dup, 1) := by decide +kernel
theorem dL_texts_236 : decode method_6_code 236 = .ok (.invokespecial 45, 3) := by decide +kernel
theorem dL_texts_239 : decode method_6_code 239 = .ok (.ldc 85, 2) := by decide +kernel
theorem dL_texts_241 : decode method_6_code 241 = .ok (.invokevirtual 70, 3) := by decide +kernel
theorem dL_texts_244 : decode method_6_code 244 = .ok (.aload_n 1, 1) := by decide +kernel
theorem dL_texts_245 : decode method_6_code 245 = .ok (.getfield 48, 3) := by decide +kernel
theorem dL_texts_248 : decode method_6_code 248 = .ok (.invokevirtual 74, 3) := by decide +kernel
theorem dL_texts_251 : decode method_6_code 251 = .ok (.ldc 79, 2) := by decide +kernel
theorem dL_texts_253 : decode method_6_code 253 = .ok (.invokevirtual 70, 3) := by decide +kernel
theorem dL_texts_256 : decode method_6_code 256 = .ok (.invokevirtual 81, 3) := by decide +kernel
theorem dL_texts_259 : decode method_6_code 259 = .ok (.invokevirtual 70, 3) := by decide +kernel
theorem dL_texts_262 : decode method_6_code 262 = .ok (.pop, 1) := by decide +kernel
theorem dL_texts_263 : decode method_6_code 263 = .ok (.iload 9, 2) := by decide +kernel
theorem dL_texts_265 : decode method_6_code 265 = .ok (.iconst 2, 1) := by decide +kernel
theorem dL_texts_266 : decode method_6_code 266 = .ok (.if_icmp .ne 52, 3) := by decide +kernel
theorem dL_texts_269 : decode method_6_code 269 = .ok (.aload_n 1, 1) := by decide +kernel
theorem dL_texts_270 : decode method_6_code 270 = .ok (.iload 8, 2) := by decide +kernel
theorem dL_texts_272 : decode method_6_code 272 = .ok (.iconst 5, 1) := by decide +kernel
theorem dL_texts_273 : decode method_6_code 273 = .ok (.ishr, 1) := by decide +kernel
theorem dL_texts_274 : decode method_6_code 274 = .ok (.bipush 60, 2) := by decide +kernel
theorem dL_texts_276 : decode method_6_code 276 = .ok (.sipush 600, 3) := by decide +kernel
theorem dL_texts_279 : decode method_6_code 279 = .ok (.invokestatic 37, 3) := by decide +kernel
theorem dL_texts_282 : decode method_6_code 282 = .ok (.putfield 54, 3) := by decide +kernel
theorem dL_texts_285 : decode method_6_code 285 = .ok (.aload 4, 2) := by decide +kernel
theorem dL_texts_287 : decode method_6_code 287 = .ok (.new 43, 3) := by decide +kernel
theorem dL_texts_290 : decode method_6_code 290 = .ok (.dup, 1) := by decide +kernel
theorem dL_texts_291 : decode method_6_code 291 = .ok (.invokespecial 45, 3) := by decide +kernel
theorem dL_texts_294 : decode method_6_code 294 = .ok (.ldc 87, 2) := by decide +kernel
theorem dL_texts_296 : decode method_6_code 296 = .ok (.invokevirtual 70, 3) := by decide +kernel
theorem dL_texts_299 : decode method_6_code 299 = .ok (.aload_n 1, 1) := by decide +kernel
theorem dL_texts_300 : decode method_6_code 300 = .ok (.getfield 54, 3) := by decide +kernel
theorem dL_texts_303 : decode method_6_code 303 = .ok (.invokevirtual 74, 3) := by decide +kernel
theorem dL_texts_306 : decode method_6_code 306 = .ok (.ldc 79, 2) := by decide +kernel
theorem dL_texts_308 : decode method_6_code 308 = .ok (.invokevirtual 70, 3) := by decide +kernel
theorem dL_texts_311 : decode method_6_code 311 = .ok (.invokevirtual 81, 3) := by decide +kernel
theorem dL_texts_314 : decode method_6_code 314 = .ok (.invokevirtual 70, 3) := by decide +kernel
theorem dL_texts_317 : decode method_6_code 317 = .ok (.pop, 1) := by decide +kernel
theorem dL_texts_318 : decode method_6_code 318 = .ok (.iload 9, 2) := by decide +kernel
theorem dL_texts_320 : decode method_6_code 320 = .ok (.iconst 3, 1) := by decide +kernel
theorem dL_texts_321 : decode method_6_code 321 = .ok (.if_icmp .ne 63, 3) := by decide +kernel
theorem dL_texts_324 : decode method_6_code 324 = .ok (.iload 8, 2) := by decide +kernel
theorem dL_texts_326 : decode method_6_code 326 = .ok (.iconst 5, 1) := by decide +kernel
theorem dL_texts_327 : decode method_6_code 327 = .ok (.ishr, 1) := by decide +kernel
theorem dL_texts_328 : decode method_6_code 328 = .ok (.iconst 0, 1) := by decide +kernel
theorem dL_texts_329 : decode method_6_code 329 = .ok (.aload_n 1, 1) := by decide +kernel
theorem dL_texts_330 : decode method_6_code 330 = .ok (.getfield 62, 3) := by decide +kernel
theorem dL_texts_333 : decode method_6_code 333 = .ok (.iconst 1, 1) := by decide +kernel
theorem dL_texts_334 : decode method_6_code 334 = .ok (.isub, 1) := by decide +kernel
theorem dL_texts_335 : decode method_6_code 335 = .ok (.invokestatic 37, 3) := by decide +kernel
theorem dL_texts_338 : decode method_6_code 338 = .ok (.istore 10, 2) := by decide +kernel
theorem dL_texts_340 : decode method_6_code 340 = .ok (.aload_n 1, 1) := by decide +kernel
theorem dL_texts_341 : decode method_6_code 341 = .ok (.dup, 1) := by decide +kernel
theorem dL_texts_342 : decode method_6_code 342 = .ok (.getfield 56, 3) := by decide +kernel
theorem dL_texts_345 : decode method_6_code 345 = .ok (.iconst 1, 1) := by decide +kernel
theorem dL_texts_346 : decode method_6_code 346 = .ok (.iload 10, 2) := by decide +kernel
theorem dL_texts_348 : decode method_6_code 348 = .ok (.ishl, 1) := by decide +kernel
theorem dL_texts_349 : decode method_6_code 349 = .ok (.ior, 1) := by decide +kernel
theorem dL_texts_350 : decode method_6_code 350 = .ok (.putfield 56, 3) := by decide +kernel
theorem dL_texts_353 : decode method_6_code 353 = .ok (.aload 4, 2) := by decide +kernel
theorem dL_texts_355 : decode method_6_code 355 = .ok (.new 43, 3) := by decide +kernel
theorem dL_texts_358 : decode method_6_code 358 = .ok (.dup, 1) := by decide +kernel
theorem dL_texts_359 : decode method_6_code 359 = .ok (.invokespecial 45, 3) := by decide +kernel
theorem dL_texts_362 : decode method_6_code 362 = .ok (.ldc 89, 2) := by decide +kernel
theorem dL_texts_364 : decode method_6_code 364 = .ok (.invokevirtual 70, 3) := by decide +kernel
theorem dL_texts_367 : decode method_6_code 367 = .ok (.iload 10, 2) := by decide +kernel
theorem dL_texts_369 : decode method_6_code 369 = .ok (.invokevirtual 74, 3) := by decide +kernel
theorem dL_texts_372 : decode method_6_code 372 = .ok (.ldc 79, 2) := by decide +kernel
theorem dL_texts_374 : decode method_6_code 374 = .ok (.invokevirtual 70, 3) := by decide +kernel
theorem dL_texts_377 : decode method_6_code 377 = .ok (.invokevirtual 81, 3) := by decide +kernel
theorem dL_texts_380 : decode method_6_code 380 = .ok (.invokevirtual 70, 3) := by decide +kernel
theorem dL_texts_383 : decode method_6_code 383 = .ok (.pop, 1) := by decide +kernel
theorem dL_texts_384 : decode method_6_code 384 = .ok (.iinc 7 1, 3) := by decide +kernel
theorem dL_texts_387 : decode method_6_code 387 = .ok (.goto (-332), 3) := by decide +kernel
theorem dL_texts_390 : decode method_6_code 390 = .ok (.aload_n 1, 1) := by decide +kernel
theorem dL_texts_391 : decode method_6_code 391 = .ok (.iload 6, 2) := by decide +kernel
theorem dL_texts_393 : decode method_6_code 393 = .ok (.anewarray 46, 3) := by decide +kernel
theorem dL_texts_396 : decode method_6_code 396 = .ok (.putfield 91, 3) := by decide +kernel
theorem dL_texts_399 : decode method_6_code 399 = .ok (.iconst 0, 1) := by decide +kernel
theorem dL_texts_400 : decode method_6_code 400 = .ok (.istore 7, 2) := by decide +kernel
theorem dL_texts_402 : decode method_6_code 402 = .ok (.iload 7, 2) := by decide +kernel
theorem dL_texts_404 : decode method_6_code 404 = .ok (.iload 6, 2) := by decide +kernel
theorem dL_texts_406 : decode method_6_code 406 = .ok (.if_icmp .ge 21, 3) := by decide +kernel
theorem dL_texts_409 : decode method_6_code 409 = .ok (.aload_n 1, 1) := by decide +kernel
theorem dL_texts_410 : decode method_6_code 410 = .ok (.getfield 91, 3) := by decide +kernel
theorem dL_texts_413 : decode method_6_code 413 = .ok (.iload 7, 2) := by decide +kernel
theorem dL_texts_415 : decode method_6_code 415 = .ok (.aload 5, 2) := by decide +kernel
theorem dL_texts_417 : decode method_6_code 417 = .ok (.iload 7, 2) := by decide +kernel
theorem dL_texts_419 : decode method_6_code 419 = .ok (.aaload, 1) := by decide +kernel
theorem dL_texts_420 : decode method_6_code 420 = .ok (.aastore, 1) := by decide +kernel
theorem dL_texts_421 : decode method_6_code 421 = .ok (.iinc 7 1, 3) := by decide +kernel
theorem dL_texts_424 : decode method_6_code 424 = .ok (.goto (-22), 3) := by decide +kernel
theorem dL_texts_427 : decode method_6_code 427 = .ok (.aload_n 0, 1) := by decide +kernel
theorem dL_texts_428 : decode method_6_code 428 = .ok (.aload 4, 2) := by decide +kernel
theorem dL_texts_430 : decode method_6_code 430 = .ok (.invokevirtual 81, 3) := by decide +kernel
theorem dL_texts_433 : decode method_6_code 433 = .ok (.invokestatic 95, 3) := by decide +kernel
theorem dL_texts_436 : decode method_6_code 436 = .ok (.aload_n 0, 1) := by decide +kernel
theorem dL_texts_437 : decode method_6_code 437 = .ok (.iconst 1, 1) := by decide +kernel
theorem dL_texts_438 : decode method_6_code 438 = .ok (.invokevirtual 99, 3) := by decide +kernel
theorem dL_texts_441 : decode method_6_code 441 = .ok (.iload_n 3, 1) := by decide +kernel
theorem dL_texts_442 : decode method_6_code 442 = .ok (.if_icmp .eq 5, 3) := by decide +kernel
theorem dL_texts_445 : decode method_6_code 445 = .ok (.iconst 0, 1) := by decide +kernel
theorem dL_texts_446 : decode method_6_code 446 = .ok (.ireturn, 1) := by decide +kernel
theorem dL_texts_447 : decode method_6_code 447 = .ok (.aload_n 1, 1) := by decide +kernel
theorem dL_texts_448 : decode method_6_code 448 = .ok (.getfield 103, 3) := by decide +kernel
theorem dL_texts_451 : decode method_6_code 451 = .ok (.ifCond .ne 7, 3) := by decide +kernel
theorem dL_texts_454 : decode method_6_code 454 = .ok (.iconst 0, 1) := by decide +kernel
theorem dL_texts_455 : decode method_6_code 455 = .ok (.goto 12, 3) := by decide +kernel
theorem dL_texts_458 : decode method_6_code 458 = .ok (.iload_n 2, 1) := by decide +kernel
theorem dL_texts_459 : decode method_6_code 459 = .ok (.iconst 5, 1) := by decide +kernel
theorem dL_texts_460 : decode method_6_code 460 = .ok (.ishr, 1) := by decide +kernel
theorem dL_texts_461 : decode method_6_code 461 = .ok (.iconst 0, 1) := by decide +kernel
theorem dL_texts_462 : decode method_6_code 462 = .ok (.bipush 7, 2) := by decide +kernel
theorem dL_texts_464 : decode method_6_code 464 = .ok (.invokestatic 37, 3) := by decide +kernel
theorem dL_texts_467 : decode method_6_code 467 = .ok (.istore_n 3, 1) := by decide +kernel
theorem dL_texts_468 : decode method_6_code 468 = .ok (.new 43, 3) := by decide +kernel
theorem dL_texts_471 : decode method_6_code 471 = .ok (.dup, 1) := by decide +kernel
theorem dL_texts_472 : decode method_6_code 472 = .ok (.invokespecial 45, 3) := by decide +kernel
theorem dL_texts_475 : decode method_6_code 475 = .ok (.astore 4, 2) := by decide +kernel
theorem dL_texts_477 : decode method_6_code 477 = .ok (.aload_n 1, 1) := by decide +kernel
theorem dL_texts_478 : decode method_6_code 478 = .ok (.iload_n 3, 1) := by decide +kernel
theorem dL_texts_479 : decode method_6_code 479 = .ok (.anewarray 46, 3) := by decide +kernel
theorem dL_texts_482 : decode method_6_code 482 = .ok (.putfield 106, 3) := by decide +kernel
theorem dL_texts_485 : decode method_6_code 485 = .ok (.iconst 0, 1) := by decide +kernel
theorem dL_texts_486 : decode method_6_code 486 = .ok (.istore 7, 2) := by decide +kernel
theorem dL_texts_488 : decode method_6_code 488 = .ok (.iload 7, 2) := by decide +kernel
theorem dL_texts_490 : decode method_6_code 490 = .ok (.iload_n 3, 1) := by decide +kernel
theorem dL_texts_491 : decode method_6_code 491 = .ok (.if_icmp .ge 121, 3) := by decide +kernel
theorem dL_texts_494 : decode method_6_code 494 = .ok (.iload_n 2, 1) := by decide +kernel
theorem dL_texts_495 : decode method_6_code 495 = .ok (.iload 7, 2) := by decide +kernel
theorem dL_texts_497 : decode method_6_code 497 = .ok (.iconst 5, 1) := by decide +kernel
theorem dL_texts_498 : decode method_6_code 498 = .ok (.iadd, 1) := by decide +kernel
theorem dL_texts_499 : decode method_6_code 499 = .ok (.imul, 1) := by decide +kernel
theorem dL_texts_500 : decode method_6_code 500 = .ok (.sipush 317, 3) := by decide +kernel
theorem dL_texts_503 : decode method_6_code 503 = .ok (.iload 7, 2) := by decide +kernel
theorem dL_texts_505 : decode method_6_code 505 = .ok (.imul, 1) := by decide +kernel
theorem dL_texts_506 : decode method_6_code 506 = .ok (.iadd, 1) := by decide +kernel
theorem dL_texts_507 : decode method_6_code 507 = .ok (.istore 8, 2) := by decide +kernel
theorem dL_texts_509 : decode method_6_code 509 = .ok (.aload_n 1, 1) := by decide +kernel
theorem dL_texts_510 : decode method_6_code 510 = .ok (.getfield 106, 3) := by decide +kernel
theorem dL_texts_513 : decode method_6_code 513 = .ok (.iload 7, 2) := by decide +kernel
theorem dL_texts_515 : decode method_6_code 515 = .ok (.iconst 2, 1) := by decide +kernel
theorem dL_texts_516 : decode method_6_code 516 = .ok (.newarray .int, 2) := by decide +kernel
theorem dL_texts_518 : decode method_6_code 518 = .ok (.dup, 1) := by decide +kernel
theorem dL_texts_519 : decode method_6_code 519 = .ok (.iconst 0, 1) := by decide +kernel
theorem dL_texts_520 : decode method_6_code 520 = .ok (.iload 8, 2) := by decide +kernel
theorem dL_texts_522 : decode method_6_code 522 = .ok (.iconst 3, 1) := by decide +kernel
theorem dL_texts_523 : decode method_6_code 523 = .ok (.ishr, 1) := by decide +kernel
theorem dL_texts_524 : decode method_6_code 524 = .ok (.iconst 0, 1) := by decide +kernel
theorem dL_texts_525 : decode method_6_code 525 = .ok (.sipush 250, 3) := by decide +kernel
theorem dL_texts_528 : decode method_6_code 528 = .ok (.invokestatic 37, 3) := by decide +kernel
theorem dL_texts_531 : decode method_6_code 531 = .ok (.iastore, 1) := by decide +kernel
theorem dL_texts_532 : decode method_6_code 532 = .ok (.dup, 1) := by decide +kernel
theorem dL_texts_533 : decode method_6_code 533 = .ok (.iconst 1, 1) := by decide +kernel
theorem dL_texts_534 : decode method_6_code 534 = .ok (.iload 8, 2) := by decide +kernel
theorem dL_texts_536 : decode method_6_code 536 = .ok (.bipush 6, 2) := by decide +kernel
theorem dL_texts_538 : decode method_6_code 538 = .ok (.ishr, 1) := by decide +kernel
theorem dL_texts_539 : decode method_6_code 539 = .ok (.iconst 0, 1) := by decide +kernel
theorem dL_texts_540 : decode method_6_code 540 = .ok (.aload_n 1, 1) := by decide +kernel
theorem dL_texts_541 : decode method_6_code 541 = .ok (.getfield 103, 3) := by decide +kernel
theorem dL_texts_544 : decode method_6_code 544 = .ok (.iconst 1, 1) := by decide +kernel
theorem dL_texts_545 : decode method_6_code 545 = .ok (.isub, 1) := by decide +kernel
theorem dL_texts_546 : decode method_6_code 546 = .ok (.invokestatic 37, 3) := by decide +kernel
theorem dL_texts_549 : decode method_6_code 549 = .ok (.iastore, 1) := by decide +kernel
theorem dL_texts_550 : decode method_6_code 550 = .ok (.aastore, 1) := by decide +kernel
theorem dL_texts_551 : decode method_6_code 551 = .ok (.aload 4, 2) := by decide +kernel
theorem dL_texts_553 : decode method_6_code 553 = .ok (.new 43, 3) := by decide +kernel
theorem dL_texts_556 : decode method_6_code 556 = .ok (.dup, 1) := by decide +kernel
theorem dL_texts_557 : decode method_6_code 557 = .ok (.invokespecial 45, 3) := by decide +kernel
theorem dL_texts_560 : decode method_6_code 560 = .ok (.ldc 109, 2) := by decide +kernel
theorem dL_texts_562 : decode method_6_code 562 = .ok (.invokevirtual 70, 3) := by decide +kernel
theorem dL_texts_565 : decode method_6_code 565 = .ok (.aload_n 1, 1) := by decide +kernel
theorem dL_texts_566 : decode method_6_code 566 = .ok (.getfield 106, 3) := by decide +kernel
theorem dL_texts_569 : decode method_6_code 569 = .ok (.iload 7, 2) := by decide +kernel
theorem dL_texts_571 : decode method_6_code 571 = .ok (.aaload, 1) := by decide +kernel
theorem dL_texts_572 : decode method_6_code 572 = .ok (.iconst 0, 1) := by decide +kernel
theorem dL_texts_573 : decode method_6_code 573 = .ok (.iaload, 1) := by decide +kernel
theorem dL_texts_574 : decode method_6_code 574 = .ok (.invokevirtual 74, 3) := by decide +kernel
theorem dL_texts_577 : decode method_6_code 577 = .ok (.ldc 111, 2) := by decide +kernel
theorem dL_texts_579 : decode method_6_code 579 = .ok (.invokevirtual 70, 3) := by decide +kernel
theorem dL_texts_582 : decode method_6_code 582 = .ok (.aload_n 1, 1) := by decide +kernel
theorem dL_texts_583 : decode method_6_code 583 = .ok (.getfield 106, 3) := by decide +kernel
theorem dL_texts_586 : decode method_6_code 586 = .ok (.iload 7, 2) := by decide +kernel
theorem dL_texts_588 : decode method_6_code 588 = .ok (.aaload, 1) := by decide +kernel
theorem dL_texts_589 : decode method_6_code 589 = .ok (.iconst 1, 1) := by decide +kernel
theorem dL_texts_590 : decode method_6_code 590 = .ok (.iaload, 1) := by decide +kernel
theorem dL_texts_591 : decode method_6_code 591 = .ok (.invokevirtual 74, 3) := by decide +kernel
theorem dL_texts_594 : decode method_6_code 594 = .ok (.ldc 79, 2) := by decide +kernel
theorem dL_texts_596 : decode method_6_code 596 = .ok (.invokevirtual 70, 3) := by decide +kernel
theorem dL_texts_599 : decode method_6_code 599 = .ok (.invokevirtual 81, 3) := by decide +kernel
theorem dL_texts_602 : decode method_6_code 602 = .ok (.invokevirtual 70, 3) := by decide +kernel
theorem dL_texts_605 : decode method_6_code 605 = .ok (.pop, 1) := by decide +kernel
theorem dL_texts_606 : decode method_6_code 606 = .ok (.iinc 7 1, 3) := by decide +kernel
theorem dL_texts_609 : decode method_6_code 609 = .ok (.goto (-121), 3) := by decide +kernel
theorem dL_texts_612 : decode method_6_code 612 = .ok (.aload_n 0, 1) := by decide +kernel
theorem dL_texts_613 : decode method_6_code 613 = .ok (.aload 4, 2) := by decide +kernel
theorem dL_texts_615 : decode method_6_code 615 = .ok (.invokevirtual 81, 3) := by decide +kernel
theorem dL_texts_618 : decode method_6_code 618 = .ok (.invokestatic 95, 3) := by decide +kernel
theorem dL_texts_621 : decode method_6_code 621 = .ok (.aload_n 0, 1) := by decide +kernel
theorem dL_texts_622 : decode method_6_code 622 = .ok (.iconst 2, 1) := by decide +kernel
theorem dL_texts_623 : decode method_6_code 623 = .ok (.invokevirtual 99, 3) := by decide +kernel
theorem dL_texts_626 : decode method_6_code 626 = .ok (.iload_n 3, 1) := by decide +kernel
theorem dL_texts_627 : decode method_6_code 627 = .ok (.if_icmp .eq 5, 3) := by decide +kernel
theorem dL_texts_630 : decode method_6_code 630 = .ok (.iconst 0, 1) := by decide +kernel
theorem dL_texts_631 : decode method_6_code 631 = .ok (.ireturn, 1) := by decide +kernel
theorem dL_texts_632 : decode method_6_code 632 = .ok (.aload_n 1, 1) := by decide +kernel
theorem dL_texts_633 : decode method_6_code 633 = .ok (.getfield 62, 3) := by decide +kernel
theorem dL_texts_636 : decode method_6_code 636 = .ok (.iconst 2, 1) := by decide +kernel
theorem dL_texts_637 : decode method_6_code 637 = .ok (.if_icmp .ge 7, 3) := by decide +kernel
theorem dL_texts_640 : decode method_6_code 640 = .ok (.iconst 0, 1) := by decide +kernel
theorem dL_texts_641 : decode method_6_code 641 = .ok (.goto 13, 3) := by decide +kernel
theorem dL_texts_644 : decode method_6_code 644 = .ok (.iload_n 2, 1) := by decide +kernel
theorem dL_texts_645 : decode method_6_code 645 = .ok (.bipush 6, 2) := by decide +kernel
theorem dL_texts_647 : decode method_6_code 647 = .ok (.ishr, 1) := by decide +kernel
theorem dL_texts_648 : decode method_6_code 648 = .ok (.iconst 0, 1) := by decide +kernel
theorem dL_texts_649 : decode method_6_code 649 = .ok (.bipush 14, 2) := by decide +kernel
theorem dL_texts_651 : decode method_6_code 651 = .ok (.invokestatic 37, 3) := by decide +kernel
theorem dL_texts_654 : decode method_6_code 654 = .ok (.istore_n 3, 1) := by decide +kernel
theorem dL_texts_655 : decode method_6_code 655 = .ok (.new 43, 3) := by decide +kernel
theorem dL_texts_658 : decode method_6_code 658 = .ok (.dup, 1) := by decide +kernel
theorem dL_texts_659 : decode method_6_code 659 = .ok (.invokespecial 45, 3) := by decide +kernel
theorem dL_texts_662 : decode method_6_code 662 = .ok (.astore 4, 2) := by decide +kernel
theorem dL_texts_664 : decode method_6_code 664 = .ok (.aload_n 1, 1) := by decide +kernel
theorem dL_texts_665 : decode method_6_code 665 = .ok (.bipush 12, 2) := by decide +kernel
theorem dL_texts_667 : decode method_6_code 667 = .ok (.newarray .int, 2) := by decide +kernel
theorem dL_texts_669 : decode method_6_code 669 = .ok (.putfield 113, 3) := by decide +kernel
theorem dL_texts_672 : decode method_6_code 672 = .ok (.aload_n 1, 1) := by decide +kernel
theorem dL_texts_673 : decode method_6_code 673 = .ok (.iload_n 3, 1) := by decide +kernel
theorem dL_texts_674 : decode method_6_code 674 = .ok (.putfield 116, 3) := by decide +kernel
theorem dL_texts_677 : decode method_6_code 677 = .ok (.iconst 0, 1) := by decide +kernel
theorem dL_texts_678 : decode method_6_code 678 = .ok (.istore 7, 2) := by decide +kernel
theorem dL_texts_680 : decode method_6_code 680 = .ok (.iload 7, 2) := by decide +kernel
theorem dL_texts_682 : decode method_6_code 682 = .ok (.iload_n 3, 1) := by decide +kernel
theorem dL_texts_683 : decode method_6_code 683 = .ok (.if_icmp .ge 132, 3) := by decide +kernel
theorem dL_texts_686 : decode method_6_code 686 = .ok (.iload_n 2, 1) := by decide +kernel
theorem dL_texts_687 : decode method_6_code 687 = .ok (.iload 7, 2) := by decide +kernel
theorem dL_texts_689 : decode method_6_code 689 = .ok (.bipush 7, 2) := by decide +kernel
theorem dL_texts_691 : decode method_6_code 691 = .ok (.iadd, 1) := by decide +kernel
theorem dL_texts_692 : decode method_6_code 692 = .ok (.imul, 1) := by decide +kernel
theorem dL_texts_693 : decode method_6_code 693 = .ok (.sipush 331, 3) := by decide +kernel
theorem dL_texts_696 : decode method_6_code 696 = .ok (.iload 7, 2) := by decide +kernel
theorem dL_texts_698 : decode method_6_code 698 = .ok (.imul, 1) := by decide +kernel
theorem dL_texts_699 : decode method_6_code 699 = .ok (.iadd, 1) := by decide +kernel
theorem dL_texts_700 : decode method_6_code 700 = .ok (.istore 8, 2) := by decide +kernel
theorem dL_texts_702 : decode method_6_code 702 = .ok (.iload 8, 2) := by decide +kernel
theorem dL_texts_704 : decode method_6_code 704 = .ok (.iconst 0, 1) := by decide +kernel
theorem dL_texts_705 : decode method_6_code 705 = .ok (.aload_n 1, 1) := by decide +kernel
theorem dL_texts_706 : decode method_6_code 706 = .ok (.getfield 62, 3) := by decide +kernel
theorem dL_texts_709 : decode method_6_code 709 = .ok (.iconst 1, 1) := by decide +kernel
theorem dL_texts_710 : decode method_6_code 710 = .ok (.isub, 1) := by decide +kernel
theorem dL_texts_711 : decode method_6_code 711 = .ok (.invokestatic 37, 3) := by decide +kernel
theorem dL_texts_714 : decode method_6_code 714 = .ok (.istore 9, 2) := by decide +kernel
theorem dL_texts_716 : decode method_6_code 716 = .ok (.iload 9, 2) := by decide +kernel
theorem dL_texts_718 : decode method_6_code 718 = .ok (.iload 8, 2) := by decide +kernel
theorem dL_texts_720 : decode method_6_code 720 = .ok (.iconst 4, 1) := by decide +kernel
theorem dL_texts_721 : decode method_6_code 721 = .ok (.ishr, 1) := by decide +kernel
theorem dL_texts_722 : decode method_6_code 722 = .ok (.iconst 1, 1) := by decide +kernel
theorem dL_texts_723 : decode method_6_code 723 = .ok (.aload_n 1, 1) := by decide +kernel
theorem dL_texts_724 : decode method_6_code 724 = .ok (.getfield 62, 3) := by decide +kernel
theorem dL_texts_727 : decode method_6_code 727 = .ok (.iconst 1, 1) := by decide +kernel
theorem dL_texts_728 : decode method_6_code 728 = .ok (.isub, 1) := by decide +kernel
theorem dL_texts_729 : decode method_6_code 729 = .ok (.invokestatic 37, 3) := by decide +kernel
theorem dL_texts_732 : decode method_6_code 732 = .ok (.iadd, 1) := by decide +kernel
theorem dL_texts_733 : decode method_6_code 733 = .ok (.aload_n 1, 1) := by decide +kernel
theorem dL_texts_734 : decode method_6_code 734 = .ok (.getfield 62, 3) := by decide +kernel
theorem dL_texts_737 : decode method_6_code 737 = .ok (.irem, 1) := by decide +kernel
theorem dL_texts_738 : decode method_6_code 738 = .ok (.istore 10, 2) := by decide +kernel
theorem dL_texts_740 : decode method_6_code 740 = .ok (.aload_n 1, 1) := by decide +kernel
theorem dL_texts_741 : decode method_6_code 741 = .ok (.getfield 113, 3) := by decide +kernel
theorem dL_texts_744 : decode method_6_code 744 = .ok (.iload 9, 2) := by decide +kernel
theorem dL_texts_746 : decode method_6_code 746 = .ok (.dup2, 1) := by decide +kernel
theorem dL_texts_747 : decode method_6_code 747 = .ok (.iaload, 1) := by decide +kernel
theorem dL_texts_748 : decode method_6_code 748 = .ok (.iconst 1, 1) := by decide +kernel
theorem dL_texts_749 : decode method_6_code 749 = .ok (.iload 10, 2) := by decide +kernel
theorem dL_texts_751 : decode method_6_code 751 = .ok (.ishl, 1) := by decide +kernel
theorem dL_texts_752 : decode method_6_code 752 = .ok (.ior, 1) := by decide +kernel
theorem dL_texts_753 : decode method_6_code 753 = .ok (.iastore, 1) := by decide +kernel
theorem dL_texts_754 : decode method_6_code 754 = .ok (.aload_n 1, 1) := by decide +kernel
theorem dL_texts_755 : decode method_6_code 755 = .ok (.getfield 113, 3) := by decide +kernel
theorem dL_texts_758 : decode method_6_code 758 = .ok (.iload 10, 2) := by decide +kernel
theorem dL_texts_760 : decode method_6_code 760 = .ok (.dup2, 1) := by decide +kernel
theorem dL_texts_761 : decode method_6_code 761 = .ok (.iaload, 1) := by decide +kernel
theorem dL_texts_762 : decode method_6_code 762 = .ok (.iconst 1, 1) := by decide +kernel
theorem dL_texts_763 : decode method_6_code 763 = .ok (.iload 9, 2) := by decide +kernel
theorem dL_texts_765 : decode method_6_code 765 = .ok (.ishl, 1) := by decide +kernel
theorem dL_texts_766 : decode method_6_code 766 = .ok (.ior, 1) := by decide +kernel
theorem dL_texts_767 : decode method_6_code 767 = .ok (.iastore, 1) := by decide +kernel
theorem dL_texts_768 : decode method_6_code 768 = .ok (.aload 4, 2) := by decide +kernel
theorem dL_texts_770 : decode method_6_code 770 = .ok (.new 43, 3) := by decide +kernel
theorem dL_texts_773 : decode method_6_code 773 = .ok (.dup, 1) := by decide +kernel
theorem dL_texts_774 : decode method_6_code 774 = .ok (.invokespecial 45, 3) := by decide +kernel
theorem dL_texts_777 : decode method_6_code 777 = .ok (.ldc 119, 2) := by decide +kernel
theorem dL_texts_779 : decode method_6_code 779 = .ok (.invokevirtual 70, 3) := by decide +kernel
theorem dL_texts_782 : decode method_6_code 782 = .ok (.iload 9, 2) := by decide +kernel
theorem dL_texts_784 : decode method_6_code 784 = .ok (.invokevirtual 74, 3) := by decide +kernel
theorem dL_texts_787 : decode method_6_code 787 = .ok (.ldc 121, 2) := by decide +kernel
theorem dL_texts_789 : decode method_6_code 789 = .ok (.invokevirtual 70, 3) := by decide +kernel
theorem dL_texts_792 : decode method_6_code 792 = .ok (.iload 10, 2) := by decide +kernel
theorem dL_texts_794 : decode method_6_code 794 = .ok (.invokevirtual 74, 3) := by decide +kernel
theorem dL_texts_797 : decode method_6_code 797 = .ok (.ldc 79, 2) := by decide +kernel
theorem dL_texts_799 : decode method_6_code 799 = .ok (.invokevirtual 70, 3) := by decide +kernel
theorem dL_texts_802 : decode method_6_code 802 = .ok (.invokevirtual 81, 3) := by decide +kernel
theorem dL_texts_805 : decode method_6_code 805 = .ok (.invokevirtual 70, 3) := by decide +kernel
theorem dL_texts_808 : decode method_6_code 808 = .ok (.pop, 1) := by decide +kernel
theorem dL_texts_809 : decode method_6_code 809 = .ok (.iinc 7 1, 3) := by decide +kernel
theorem dL_texts_812 : decode method_6_code 812 = .ok (.goto (-132), 3) := by decide +kernel
theorem dL_texts_815 : decode method_6_code 815 = .ok (.aload_n 0, 1) := by decide +kernel
theorem dL_texts_816 : decode method_6_code 816 = .ok (.aload 4, 2) := by decide +kernel
theorem dL_texts_818 : decode method_6_code 818 = .ok (.invokevirtual 81, 3) := by decide +kernel
theorem dL_texts_821 : decode method_6_code 821 = .ok (.invokestatic 95, 3) := by decide +kernel
theorem dL_texts_824 : decode method_6_code 824 = .ok (.aload_n 0, 1) := by decide +kernel
theorem dL_texts_825 : decode method_6_code 825 = .ok (.iconst 3, 1) := by decide +kernel
theorem dL_texts_826 : decode method_6_code 826 = .ok (.invokevirtual 99, 3) := by decide +kernel
theorem dL_texts_829 : decode method_6_code 829 = .ok (.iload_n 3, 1) := by decide +kernel
theorem dL_texts_830 : decode method_6_code 830 = .ok (.if_icmp .ne 7, 3) := by decide +kernel
theorem dL_texts_833 : decode method_6_code 833 = .ok (.iconst 1, 1) := by decide +kernel
theorem dL_texts_834 : decode method_6_code 834 = .ok (.goto 4, 3) := by decide +kernel
theorem dL_texts_837 : decode method_6_code 837 = .ok (.iconst 0, 1) := by decide +kernel
theorem dL_texts_838 : decode method_6_code 838 = .ok (.ireturn, 1) := by decide +kernel
theorem dL_house_0 : decode method_7_code 0 = .ok (.new 49, 3) := by decide +kernel
theorem dL_house_3 : decode method_7_code 3 = .ok (.dup, 1) := by decide +kernel
theorem dL_house_4 : decode method_7_code 4 = .ok (.invokespecial 123, 3) := by decide +kernel
theorem dL_house_7 : decode method_7_code 7 = .ok (.astore_n 3, 1) := by decide +kernel
theorem dL_house_8 : decode method_7_code 8 = .ok (.aload_n 1, 1) := by decide +kernel
theorem dL_house_9 : decode method_7_code 9 = .ok (.iload_n 2, 1) := by decide +kernel
theorem dL_house_10 : decode method_7_code 10 = .ok (.invokestatic 124, 3) := by decide +kernel
theorem dL_house_13 : decode method_7_code 13 = .ok (.istore 4, 2) := by decide +kernel
theorem dL_house_15 : decode method_7_code 15 = .ok (.aload_n 1, 1) := by decide +kernel
theorem dL_house_16 : decode method_7_code 16 = .ok (.iload_n 2, 1) := by decide +kernel
theorem dL_house_17 : decode method_7_code 17 = .ok (.iconst 1, 1) := by decide +kernel
theorem dL_house_18 : decode method_7_code 18 = .ok (.iadd, 1) := by decide +kernel
theorem dL_house_19 : decode method_7_code 19 = .ok (.invokestatic 124, 3) := by decide +kernel
theorem dL_house_22 : decode method_7_code 22 = .ok (.istore 5, 2) := by decide +kernel
theorem dL_house_24 : decode method_7_code 24 = .ok (.bipush 7, 2) := by decide +kernel
theorem dL_house_26 : decode method_7_code 26 = .ok (.newarray .int, 2) := by decide +kernel
theorem dL_house_28 : decode method_7_code 28 = .ok (.dup, 1) := by decide +kernel
theorem dL_house_29 : decode method_7_code 29 = .ok (.iconst 0, 1) := by decide +kernel
theorem dL_house_30 : decode method_7_code 30 = .ok (.iload 5, 2) := by decide +kernel
theorem dL_house_32 : decode method_7_code 32 = .ok (.iconst 0, 1) := by decide +kernel
theorem dL_house_33 : decode method_7_code 33 = .ok (.iconst 4, 1) := by decide +kernel
theorem dL_house_34 : decode method_7_code 34 = .ok (.invokestatic 37, 3) := by decide +kernel
theorem dL_house_37 : decode method_7_code 37 = .ok (.iastore, 1) := by decide +kernel
theorem dL_house_38 : decode method_7_code 38 = .ok (.dup, 1) := by decide +kernel
theorem dL_house_39 : decode method_7_code 39 = .ok (.iconst 1, 1) := by decide +kernel
theorem dL_house_40 : decode method_7_code 40 = .ok (.iload 5, 2) := by decide +kernel
theorem dL_house_42 : decode method_7_code 42 = .ok (.iconst 3, 1) := by decide +kernel
theorem dL_house_43 : decode method_7_code 43 = .ok (.ishr, 1) := by decide +kernel
theorem dL_house_44 : decode method_7_code 44 = .ok (.iconst 0, 1) := by decide +kernel
theorem dL_house_45 : decode method_7_code 45 = .ok (.iconst 4, 1) := by decide +kernel
theorem dL_house_46 : decode method_7_code 46 = .ok (.invokestatic 37, 3) := by decide +kernel
theorem dL_house_49 : decode method_7_code 49 = .ok (.iastore, 1) := by decide +kernel
theorem dL_house_50 : decode method_7_code 50 = .ok (.dup, 1) := by decide +kernel
theorem dL_house_51 : decode method_7_code 51 = .ok (.iconst 2, 1) := by decide +kernel
theorem dL_house_52 : decode method_7_code 52 = .ok (.iload 5, 2) := by decide +kernel
theorem dL_house_54 : decode method_7_code 54 = .ok (.iconst 5, 1) := by decide +kernel
theorem dL_house_55 : decode method_7_code 55 = .ok (.ishr, 1) := by decide +kernel
theorem dL_house_56 : decode method_7_code 56 = .ok (.iconst 0, 1) := by decide +kernel
theorem dL_house_57 : decode method_7_code 57 = .ok (.bipush 9, 2) := by decide +kernel
theorem dL_house_59 : decode method_7_code 59 = .ok (.invokestatic 37, 3) := by decide +kernel
theorem dL_house_62 : decode method_7_code 62 = .ok (.iastore, 1) := by decide +kernel
theorem dL_house_63 : decode method_7_code 63 = .ok (.dup, 1) := by decide +kernel
theorem dL_house_64 : decode method_7_code 64 = .ok (.iconst 3, 1) := by decide +kernel
theorem dL_house_65 : decode method_7_code 65 = .ok (.iload 5, 2) := by decide +kernel
theorem dL_house_67 : decode method_7_code 67 = .ok (.bipush 6, 2) := by decide +kernel
theorem dL_house_69 : decode method_7_code 69 = .ok (.ishr, 1) := by decide +kernel
theorem dL_house_70 : decode method_7_code 70 = .ok (.iconst 0, 1) := by decide +kernel
theorem dL_house_71 : decode method_7_code 71 = .ok (.bipush 7, 2) := by decide +kernel
theorem dL_house_73 : decode method_7_code 73 = .ok (.invokestatic 37, 3) := by decide +kernel
theorem dL_house_76 : decode method_7_code 76 = .ok (.iastore, 1) := by decide +kernel
theorem dL_house_77 : decode method_7_code 77 = .ok (.dup, 1) := by decide +kernel
theorem dL_house_78 : decode method_7_code 78 = .ok (.iconst 4, 1) := by decide +kernel
theorem dL_house_79 : decode method_7_code 79 = .ok (.iload 5, 2) := by decide +kernel
theorem dL_house_81 : decode method_7_code 81 = .ok (.iconst 4, 1) := by decide +kernel
theorem dL_house_82 : decode method_7_code 82 = .ok (.ishr, 1) := by decide +kernel
theorem dL_house_83 : decode method_7_code 83 = .ok (.iconst 3, 1) := by decide +kernel
theorem dL_house_84 : decode method_7_code 84 = .ok (.bipush 9, 2) := by decide +kernel
theorem dL_house_86 : decode method_7_code 86 = .ok (.invokestatic 37, 3) := by decide +kernel
theorem dL_house_89 : decode method_7_code 89 = .ok (.iastore, 1) := by decide +kernel
theorem dL_house_90 : decode method_7_code 90 = .ok (.dup, 1) := by decide +kernel
theorem dL_house_91 : decode method_7_code 91 = .ok (.iconst 5, 1) := by decide +kernel
theorem dL_house_92 : decode method_7_code 92 = .ok (.iload 5, 2) := by decide +kernel
theorem dL_house_94 : decode method_7_code 94 = .ok (.bipush 7, 2) := by decide +kernel
theorem dL_house_96 : decode method_7_code 96 = .ok (.ishr, 1) := by decide +kernel
theorem dL_house_97 : decode method_7_code 97 = .ok (.sipush 300, 3) := by decide +kernel
theorem dL_house_100 : decode method_7_code 100 = .ok (.sipush 950, 3) := by decide +kernel
theorem dL_house_103 : decode method_7_code 103 = .ok (.invokestatic 37, 3) := by decide +kernel
theorem dL_house_106 : decode method_7_code 106 = .ok (.iastore, 1) := by decide +kernel
theorem dL_house_107 : decode method_7_code 107 = .ok (.dup, 1) := by decide +kernel
theorem dL_house_108 : decode method_7_code 108 = .ok (.bipush 6, 2) := by decide +kernel
theorem dL_house_110 : decode method_7_code 110 = .ok (.iload 5, 2) := by decide +kernel
theorem dL_house_112 : decode method_7_code 112 = .ok (.iconst 2, 1) := by decide +kernel
theorem dL_house_113 : decode method_7_code 113 = .ok (.ishr, 1) := by decide +kernel
theorem dL_house_114 : decode method_7_code 114 = .ok (.sipush 200, 3) := by decide +kernel
theorem dL_house_117 : decode method_7_code 117 = .ok (.sipush 700, 3) := by decide +kernel
theorem dL_house_120 : decode method_7_code 120 = .ok (.invokestatic 37, 3) := by decide +kernel
theorem dL_house_123 : decode method_7_code 123 = .ok (.iastore, 1) := by decide +kernel
theorem dL_house_124 : decode method_7_code 124 = .ok (.astore 6, 2) := by decide +kernel
theorem dL_house_126 : decode method_7_code 126 = .ok (.iload 4, 2) := by decide +kernel
theorem dL_house_128 : decode method_7_code 128 = .ok (.iconst 5, 1) := by decide +kernel
theorem dL_house_129 : decode method_7_code 129 = .ok (.ishr, 1) := by decide +kernel
theorem dL_house_130 : decode method_7_code 130 = .ok (.bipush 7, 2) := by decide +kernel
theorem dL_house_132 : decode method_7_code 132 = .ok (.iand, 1) := by decide +kernel
theorem dL_house_133 : decode method_7_code 133 = .ok (.ifCond .le 125, 3) := by decide +kernel
theorem dL_house_136 : decode method_7_code 136 = .ok (.aload_n 3, 1) := by decide +kernel
theorem dL_house_137 : decode method_7_code 137 = .ok (.aload 6, 2) := by decide +kernel
theorem dL_house_139 : decode method_7_code 139 = .ok (.putfield 128, 3) := by decide +kernel
theorem dL_house_142 : decode method_7_code 142 = .ok (.aload_n 0, 1) := by decide +kernel
theorem dL_house_143 : decode method_7_code 143 = .ok (.new 43, 3) := by decide +kernel
theorem dL_house_146 : decode method_7_code 146 = .ok (.dup, 1) := by decide +kernel
theorem dL_house_147 : decode method_7_code 147 = .ok (.invokespecial 45, 3) := by decide +kernel
theorem dL_house_150 : decode method_7_code 150 = .ok (.ldc 131, 2) := by decide +kernel
theorem dL_house_152 : decode method_7_code 152 = .ok (.invokevirtual 70, 3) := by decide +kernel
theorem dL_house_155 : decode method_7_code 155 = .ok (.aload 6, 2) := by decide +kernel
theorem dL_house_157 : decode method_7_code 157 = .ok (.iconst 0, 1) := by decide +kernel
theorem dL_house_158 : decode method_7_code 158 = .ok (.iaload, 1) := by decide +kernel
theorem dL_house_159 : decode method_7_code 159 = .ok (.invokevirtual 74, 3) := by decide +kernel
theorem dL_house_162 : decode method_7_code 162 = .ok (.ldc 133, 2) := by decide +kernel
theorem dL_house_164 : decode method_7_code 164 = .ok (.invokevirtual 70, 3) := by decide +kernel
theorem dL_house_167 : decode method_7_code 167 = .ok (.aload 6, 2) := by decide +kernel
theorem dL_house_169 : decode method_7_code 169 = .ok (.iconst 5, 1) := by decide +kernel
theorem dL_house_170 : decode method_7_code 170 = .ok (.iaload, 1) := by decide +kernel
theorem dL_house_171 : decode method_7_code 171 = .ok (.invokevirtual 74, 3) := by decide +kernel
theorem dL_house_174 : decode method_7_code 174 = .ok (.ldc 135, 2) := by decide +kernel
theorem dL_house_176 : decode method_7_code 176 = .ok (.invokevirtual 70, 3) := by decide +kernel
theorem dL_house_179 : decode method_7_code 179 = .ok (.aload 6, 2) := by decide +kernel
theorem dL_house_181 : decode method_7_code 181 = .ok (.iconst 3, 1) := by decide +kernel
theorem dL_house_182 : decode method_7_code 182 = .ok (.iaload, 1) := by decide +kernel
theorem dL_house_183 : decode method_7_code 183 = .ok (.invokevirtual 74, 3) := by decide +kernel
theorem dL_house_186 : decode method_7_code 186 = .ok (.ldc 137, 2) := by decide +kernel
theorem dL_house_188 : decode method_7_code 188 = .ok (.invokevirtual 70, 3) := by decide +kernel
theorem dL_house_191 : decode method_7_code 191 = .ok (.aload 6, 2) := by decide +kernel
theorem dL_house_193 : decode method_7_code 193 = .ok (.iconst 4, 1) := by decide +kernel
theorem dL_house_194 : decode method_7_code 194 = .ok (.iaload, 1) := by decide +kernel
theorem dL_house_195 : decode method_7_code 195 = .ok (.invokevirtual 74, 3) := by decide +kernel
theorem dL_house_198 : decode method_7_code 198 = .ok (.ldc 139, 2) := by decide +kernel
theorem dL_house_200 : decode method_7_code 200 = .ok (.invokevirtual 70, 3) := by decide +kernel
theorem dL_house_203 : decode method_7_code 203 = .ok (.aload 6, 2) := by decide +kernel
theorem dL_house_205 : decode method_7_code 205 = .ok (.bipush 6, 2) := by decide +kernel
theorem dL_house_207 : decode method_7_code 207 = .ok (.iaload, 1) := by decide +kernel
theorem dL_house_208 : decode method_7_code 208 = .ok (.invokevirtual 74, 3) := by decide +kernel
theorem dL_house_211 : decode method_7_code 211 = .ok (.ldc 141, 2) := by decide +kernel
theorem dL_house_213 : decode method_7_code 213 = .ok (.invokevirtual 70, 3) := by decide +kernel
theorem dL_house_216 : decode method_7_code 216 = .ok (.aload 6, 2) := by decide +kernel
theorem dL_house_218 : decode method_7_code 218 = .ok (.iconst 1, 1) := by decide +kernel
theorem dL_house_219 : decode method_7_code 219 = .ok (.iaload, 1) := by decide +kernel
theorem dL_house_220 : decode method_7_code 220 = .ok (.invokevirtual 74, 3) := by decide +kernel
theorem dL_house_223 : decode method_7_code 223 = .ok (.ldc 143, 2) := by decide +kernel
theorem dL_house_225 : decode method_7_code 225 = .ok (.invokevirtual 70, 3) := by decide +kernel
theorem dL_house_228 : decode method_7_code 228 = .ok (.aload 6, 2) := by decide +kernel
theorem dL_house_230 : decode method_7_code 230 = .ok (.iconst 2, 1) := by decide +kernel
theorem dL_house_231 : decode method_7_code 231 = .ok (.iaload, 1) := by decide +kernel
theorem dL_house_232 : decode method_7_code 232 = .ok (.invokevirtual 74, 3) := by decide +kernel
theorem dL_house_235 : decode method_7_code 235 = .ok (.ldc 145, 2) := by decide +kernel
theorem dL_house_237 : decode method_7_code 237 = .ok (.invokevirtual 70, 3) := by decide +kernel
theorem dL_house_240 : decode method_7_code 240 = .ok (.invokevirtual 81, 3) := by decide +kernel
theorem dL_house_243 : decode method_7_code 243 = .ok (.invokestatic 95, 3) := by decide +kernel
theorem dL_house_246 : decode method_7_code 246 = .ok (.aload_n 0, 1) := by decide +kernel
theorem dL_house_247 : decode method_7_code 247 = .ok (.iconst 0, 1) := by decide +kernel
theorem dL_house_248 : decode method_7_code 248 = .ok (.invokevirtual 99, 3) := by decide +kernel
theorem dL_house_251 : decode method_7_code 251 = .ok (.bipush 6, 2) := by decide +kernel
theorem dL_house_253 : decode method_7_code 253 = .ok (.if_icmp .eq 5, 3) := by decide +kernel
theorem dL_house_256 : decode method_7_code 256 = .ok (.aconst_null, 1) := by decide +kernel
theorem dL_house_257 : decode method_7_code 257 = .ok (.areturn, 1) := by decide +kernel
theorem dL_house_258 : decode method_7_code 258 = .ok (.iload 4, 2) := by decide +kernel
theorem dL_house_260 : decode method_7_code 260 = .ok (.iconst 3, 1) := by decide +kernel
theorem dL_house_261 : decode method_7_code 261 = .ok (.ishr, 1) := by decide +kernel
theorem dL_house_262 : decode method_7_code 262 = .ok (.iconst 0, 1) := by decide +kernel
theorem dL_house_263 : decode method_7_code 263 = .ok (.bipush 12, 2) := by decide +kernel
theorem dL_house_265 : decode method_7_code 265 = .ok (.invokestatic 37, 3) := by decide +kernel
theorem dL_house_268 : decode method_7_code 268 = .ok (.istore 7, 2) := by decide +kernel
theorem dL_house_270 : decode method_7_code 270 = .ok (.iconst 0, 1) := by decide +kernel
theorem dL_house_271 : decode method_7_code 271 = .ok (.istore 8, 2) := by decide +kernel
theorem dL_house_273 : decode method_7_code 273 = .ok (.iload 8, 2) := by decide +kernel
theorem dL_house_275 : decode method_7_code 275 = .ok (.iload 7, 2) := by decide +kernel
theorem dL_house_277 : decode method_7_code 277 = .ok (.if_icmp .ge 135, 3) := by decide +kernel
theorem dL_house_280 : decode method_7_code 280 = .ok (.aload_n 1, 1) := by decide +kernel
theorem dL_house_281 : decode method_7_code 281 = .ok (.iload_n 2, 1) := by decide +kernel
theorem dL_house_282 : decode method_7_code 282 = .ok (.iconst 2, 1) := by decide +kernel
theorem dL_house_283 : decode method_7_code 283 = .ok (.iadd, 1) := by decide +kernel
theorem dL_house_284 : decode method_7_code 284 = .ok (.invokestatic 124, 3) := by decide +kernel
theorem dL_house_287 : decode method_7_code 287 = .ok (.iload 8, 2) := by decide +kernel
theorem dL_house_289 : decode method_7_code 289 = .ok (.iconst 1, 1) := by decide +kernel
theorem dL_house_290 : decode method_7_code 290 = .ok (.iadd, 1) := by decide +kernel
theorem dL_house_291 : decode method_7_code 291 = .ok (.imul, 1) := by decide +kernel
theorem dL_house_292 : decode method_7_code 292 = .ok (.sipush 337, 3) := by decide +kernel
theorem dL_house_295 : decode method_7_code 295 = .ok (.iload 8, 2) := by decide +kernel
theorem dL_house_297 : decode method_7_code 297 = .ok (.imul, 1) := by decide +kernel
theorem dL_house_298 : decode method_7_code 298 = .ok (.iadd, 1) := by decide +kernel
theorem dL_house_299 : decode method_7_code 299 = .ok (.istore 5, 2) := by decide +kernel
theorem dL_house_301 : decode method_7_code 301 = .ok (.aload_n 3, 1) := by decide +kernel
theorem dL_house_302 : decode method_7_code 302 = .ok (.getfield 147, 3) := by decide +kernel
theorem dL_house_305 : decode method_7_code 305 = .ok (.iload 8, 2) := by decide +kernel
theorem dL_house_307 : decode method_7_code 307 = .ok (.bipush 6, 2) := by decide +kernel
theorem dL_house_309 : decode method_7_code 309 = .ok (.newarray .int, 2) := by decide +kernel
theorem dL_house_311 : decode method_7_code 311 = .ok (.dup, 1) := by decide +kernel
theorem dL_house_312 : decode method_7_code 312 = .ok (.iconst 0, 1) := by decide +kernel
theorem dL_house_313 : decode method_7_code 313 = .ok (.iload 5, 2) := by decide +kernel
theorem dL_house_315 : decode method_7_code 315 = .ok (.iconst 3, 1) := by decide +kernel
theorem dL_house_316 : decode method_7_code 316 = .ok (.ishr, 1) := by decide +kernel
theorem dL_house_317 : decode method_7_code 317 = .ok (.iconst 0, 1) := by decide +kernel
theorem dL_house_318 : decode method_7_code 318 = .ok (.bipush 9, 2) := by decide +kernel
theorem dL_house_320 : decode method_7_code 320 = .ok (.invokestatic 37, 3) := by decide +kernel
theorem dL_house_323 : decode method_7_code 323 = .ok (.iastore, 1) := by decide +kernel
theorem dL_house_324 : decode method_7_code 324 = .ok (.dup, 1) := by decide +kernel
theorem dL_house_325 : decode method_7_code 325 = .ok (.iconst 1, 1) := by decide +kernel
theorem dL_house_326 : decode method_7_code 326 = .ok (.iload 5, 2) := by decide +kernel
theorem dL_house_328 : decode method_7_code 328 = .ok (.iconst 5, 1) := by decide +kernel
theorem dL_house_329 : decode method_7_code 329 = .ok (.ishr, 1) := by decide +kernel
theorem dL_house_330 : decode method_7_code 330 = .ok (.iconst 0, 1) := by decide +kernel
theorem dL_house_331 : decode method_7_code 331 = .ok (.bipush 9, 2) := by decide +kernel
theorem dL_house_333 : decode method_7_code 333 = .ok (.invokestatic 37, 3) := by decide +kernel
theorem dL_house_336 : decode method_7_code 336 = .ok (.iastore, 1) := by decide +kernel
theorem dL_house_337 : decode method_7_code 337 = .ok (.dup, 1) := by decide +kernel
theorem dL_house_338 : decode method_7_code 338 = .ok (.iconst 2, 1) := by decide +kernel
theorem dL_house_339 : decode method_7_code 339 = .ok (.iload 5, 2) := by decide +kernel
theorem dL_house_341 : decode method_7_code 341 = .ok (.bipush 6, 2) := by decide +kernel
theorem dL_house_343 : decode method_7_code 343 = .ok (.ishr, 1) := by decide +kernel
theorem dL_house_344 : decode method_7_code 344 = .ok (.iconst 0, 1) := by decide +kernel
theorem dL_house_345 : decode method_7_code 345 = .ok (.bipush 9, 2) := by decide +kernel
theorem dL_house_347 : decode method_7_code 347 = .ok (.invokestatic 37, 3) := by decide +kernel
theorem dL_house_350 : decode method_7_code 350 = .ok (.iastore, 1) := by decide +kernel
theorem dL_house_351 : decode method_7_code 351 = .ok (.dup, 1) := by decide +kernel
theorem dL_house_352 : decode method_7_code 352 = .ok (.iconst 3, 1) := by decide +kernel
theorem dL_house_353 : decode method_7_code 353 = .ok (.iconst 1, 1) := by decide +kernel
theorem dL_house_354 : decode method_7_code 354 = .ok (.iastore, 1) := by decide +kernel
theorem dL_house_355 : decode method_7_code 355 = .ok (.dup, 1) := by decide +kernel
theorem dL_house_356 : decode method_7_code 356 = .ok (.iconst 4, 1) := by decide +kernel
theorem dL_house_357 : decode method_7_code 357 = .ok (.iconst 0, 1) := by decide +kernel
theorem dL_house_358 : decode method_7_code 358 = .ok (.iastore, 1) := by decide +kernel
theorem dL_house_359 : decode method_7_code 359 = .ok (.dup, 1) := by decide +kernel
theorem dL_house_360 : decode method_7_code 360 = .ok (.iconst 5, 1) := by decide +kernel
theorem dL_house_361 : decode method_7_code 361 = .ok (.iconst 0, 1) := by decide +kernel
theorem dL_house_362 : decode method_7_code 362 = .ok (.iastore, 1) := by decide +kernel
theorem dL_house_363 : decode method_7_code 363 = .ok (.aastore, 1) := by decide +kernel
theorem dL_house_364 : decode method_7_code 364 = .ok (.aload_n 3, 1) := by decide +kernel
theorem dL_house_365 : decode method_7_code 365 = .ok (.getfield 147, 3) := by decide +kernel
theorem dL_house_368 : decode method_7_code 368 = .ok (.iload 8, 2) := by decide +kernel
theorem dL_house_370 : decode method_7_code 370 = .ok (.aaload, 1) := by decide +kernel
theorem dL_house_371 : decode method_7_code 371 = .ok (.astore 9, 2) := by decide +kernel
theorem dL_house_373 : decode method_7_code 373 = .ok (.aload_n 0, 1) := by decide +kernel
theorem dL_house_374 : decode method_7_code 374 = .ok (.aload 9, 2) := by decide +kernel
theorem dL_house_376 : decode method_7_code 376 = .ok (.iconst 0, 1) := by decide +kernel
theorem dL_house_377 : decode method_7_code 377 = .ok (.iaload, 1) := by decide +kernel
theorem dL_house_378 : decode method_7_code 378 = .ok (.aload 9, 2) := by decide +kernel
theorem dL_house_380 : decode method_7_code 380 = .ok (.iconst 1, 1) := by decide +kernel
theorem dL_house_381 : decode method_7_code 381 = .ok (.iaload, 1) := by decide +kernel
theorem dL_house_382 : decode method_7_code 382 = .ok (.aload 9, 2) := by decide +kernel
theorem dL_house_384 : decode method_7_code 384 = .ok (.iconst 2, 1) := by decide +kernel
theorem dL_house_385 : decode method_7_code 385 = .ok (.iaload, 1) := by decide +kernel
theorem dL_house_386 : decode method_7_code 386 = .ok (.invokevirtual 150, 3) := by decide +kernel
theorem dL_house_389 : decode method_7_code 389 = .ok (.iload 8, 2) := by decide +kernel
theorem dL_house_391 : decode method_7_code 391 = .ok (.if_icmp .eq 5, 3) := by decide +kernel
theorem dL_house_394 : decode method_7_code 394 = .ok (.aconst_null, 1) := by decide +kernel
theorem dL_house_395 : decode method_7_code 395 = .ok (.areturn, 1) := by decide +kernel
theorem dL_house_396 : decode method_7_code 396 = .ok (.aload_n 3, 1) := by decide +kernel
theorem dL_house_397 : decode method_7_code 397 = .ok (.dup, 1) := by decide +kernel
theorem dL_house_398 : decode method_7_code 398 = .ok (.getfield 62, 3) := by decide +kernel
theorem dL_house_401 : decode method_7_code 401 = .ok (.iconst 1, 1) := by decide +kernel
theorem dL_house_402 : decode method_7_code 402 = .ok (.iadd, 1) := by decide +kernel
theorem dL_house_403 : decode method_7_code 403 = .ok (.putfield 62, 3) := by decide +kernel
theorem dL_house_406 : decode method_7_code 406 = .ok (.iinc 8 1, 3) := by decide +kernel
theorem dL_house_409 : decode method_7_code 409 = .ok (.goto (-136), 3) := by decide +kernel
theorem dL_house_412 : decode method_7_code 412 = .ok (.iload 4, 2) := by decide +kernel
theorem dL_house_414 : decode method_7_code 414 = .ok (.bipush 6, 2) := by decide +kernel
theorem dL_house_416 : decode method_7_code 416 = .ok (.ishr, 1) := by decide +kernel
theorem dL_house_417 : decode method_7_code 417 = .ok (.iconst 0, 1) := by decide +kernel
theorem dL_house_418 : decode method_7_code 418 = .ok (.bipush 8, 2) := by decide +kernel
theorem dL_house_420 : decode method_7_code 420 = .ok (.invokestatic 37, 3) := by decide +kernel
theorem dL_house_423 : decode method_7_code 423 = .ok (.istore 7, 2) := by decide +kernel
theorem dL_house_425 : decode method_7_code 425 = .ok (.iconst 0, 1) := by decide +kernel
theorem dL_house_426 : decode method_7_code 426 = .ok (.istore 8, 2) := by decide +kernel
theorem dL_house_428 : decode method_7_code 428 = .ok (.iload 8, 2) := by decide +kernel
theorem dL_house_430 : decode method_7_code 430 = .ok (.iload 7, 2) := by decide +kernel
theorem dL_house_432 : decode method_7_code 432 = .ok (.if_icmp .ge 130, 3) := by decide +kernel
theorem dL_house_435 : decode method_7_code 435 = .ok (.aload_n 1, 1) := by decide +kernel
theorem dL_house_436 : decode method_7_code 436 = .ok (.iload_n 2, 1) := by decide +kernel
theorem dL_house_437 : decode method_7_code 437 = .ok (.iconst 3, 1) := by decide +kernel
theorem dL_house_438 : decode method_7_code 438 = .ok (.iadd, 1) := by decide +kernel
theorem dL_house_439 : decode method_7_code 439 = .ok (.invokestatic 124, 3) := by decide +kernel
theorem dL_house_442 : decode method_7_code 442 = .ok (.iload 8, 2) := by decide +kernel
theorem dL_house_444 : decode method_7_code 444 = .ok (.iconst 1, 1) := by decide +kernel
theorem dL_house_445 : decode method_7_code 445 = .ok (.iadd, 1) := by decide +kernel
theorem dL_house_446 : decode method_7_code 446 = .ok (.imul, 1) := by decide +kernel
theorem dL_house_447 : decode method_7_code 447 = .ok (.sipush 347, 3) := by decide +kernel
theorem dL_house_450 : decode method_7_code 450 = .ok (.iload 8, 2) := by decide +kernel
theorem dL_house_452 : decode method_7_code 452 = .ok (.imul, 1) := by decide +kernel
theorem dL_house_453 : decode method_7_code 453 = .ok (.iadd, 1) := by decide +kernel
theorem dL_house_454 : decode method_7_code 454 = .ok (.istore 5, 2) := by decide +kernel
theorem dL_house_456 : decode method_7_code 456 = .ok (.aload_n 3, 1) := by decide +kernel
theorem dL_house_457 : decode method_7_code 457 = .ok (.getfield 153, 3) := by decide +kernel
theorem dL_house_460 : decode method_7_code 460 = .ok (.iload 8, 2) := by decide +kernel
theorem dL_house_462 : decode method_7_code 462 = .ok (.iconst 5, 1) := by decide +kernel
theorem dL_house_463 : decode method_7_code 463 = .ok (.newarray .int, 2) := by decide +kernel
theorem dL_house_465 : decode method_7_code 465 = .ok (.dup, 1) := by decide +kernel
theorem dL_house_466 : decode method_7_code 466 = .ok (.iconst 0, 1) := by decide +kernel
theorem dL_house_467 : decode method_7_code 467 = .ok (.iload 5, 2) := by decide +kernel
theorem dL_house_469 : decode method_7_code 469 = .ok (.iconst 3, 1) := by decide +kernel
theorem dL_house_470 : decode method_7_code 470 = .ok (.ishr, 1) := by decide +kernel
theorem dL_house_471 : decode method_7_code 471 = .ok (.iconst 0, 1) := by decide +kernel
theorem dL_house_472 : decode method_7_code 472 = .ok (.bipush 9, 2) := by decide +kernel
theorem dL_house_474 : decode method_7_code 474 = .ok (.invokestatic 37, 3) := by decide +kernel
theorem dL_house_477 : decode method_7_code 477 = .ok (.iastore, 1) := by decide +kernel
theorem dL_house_478 : decode method_7_code 478 = .ok (.dup, 1) := by decide +kernel
theorem dL_house_479 : decode method_7_code 479 = .ok (.iconst 1, 1) := by decide +kernel
theorem dL_house_480 : decode method_7_code 480 = .ok (.iload 5, 2) := by decide +kernel
theorem dL_house_482 : decode method_7_code 482 = .ok (.iconst 5, 1) := by decide +kernel
theorem dL_house_483 : decode method_7_code 483 = .ok (.ishr, 1) := by decide +kernel
theorem dL_house_484 : decode method_7_code 484 = .ok (.iconst 1, 1) := by decide +kernel
theorem dL_house_485 : decode method_7_code 485 = .ok (.bipush 40, 2) := by decide +kernel
theorem dL_house_487 : decode method_7_code 487 = .ok (.invokestatic 37, 3) := by decide +kernel
theorem dL_house_490 : decode method_7_code 490 = .ok (.iastore, 1) := by decide +kernel
theorem dL_house_491 : decode method_7_code 491 = .ok (.dup, 1) := by decide +kernel
theorem dL_house_492 : decode method_7_code 492 = .ok (.iconst 2, 1) := by decide +kernel
theorem dL_house_493 : decode method_7_code 493 = .ok (.iload 5, 2) := by decide +kernel
theorem dL_house_495 : decode method_7_code 495 = .ok (.bipush 6, 2) := by decide +kernel
theorem dL_house_497 : decode method_7_code 497 = .ok (.ishr, 1) := by decide +kernel
theorem dL_house_498 : decode method_7_code 498 = .ok (.iconst 0, 1) := by decide +kernel
theorem dL_house_499 : decode method_7_code 499 = .ok (.bipush 30, 2) := by decide +kernel
theorem dL_house_501 : decode method_7_code 501 = .ok (.invokestatic 37, 3) := by decide +kernel
theorem dL_house_504 : decode method_7_code 504 = .ok (.iastore, 1) := by decide +kernel
theorem dL_house_505 : decode method_7_code 505 = .ok (.dup, 1) := by decide +kernel
theorem dL_house_506 : decode method_7_code 506 = .ok (.iconst 3, 1) := by decide +kernel
theorem dL_house_507 : decode method_7_code 507 = .ok (.iconst 0, 1) := by decide +kernel
theorem dL_house_508 : decode method_7_code 508 = .ok (.iastore, 1) := by decide +kernel
theorem dL_house_509 : decode method_7_code 509 = .ok (.dup, 1) := by decide +kernel
theorem dL_house_510 : decode method_7_code 510 = .ok (.iconst 4, 1) := by decide +kernel
theorem dL_house_511 : decode method_7_code 511 = .ok (.iconst 0, 1) := by decide +kernel
theorem dL_house_512 : decode method_7_code 512 = .ok (.iastore, 1) := by decide +kernel
theorem dL_house_513 : decode method_7_code 513 = .ok (.aastore, 1) := by decide +kernel
theorem dL_house_514 : decode method_7_code 514 = .ok (.aload_n 3, 1) := by decide +kernel
theorem dL_house_515 : decode method_7_code 515 = .ok (.getfield 153, 3) := by decide +kernel
theorem dL_house_518 : decode method_7_code 518 = .ok (.iload 8, 2) := by decide +kernel
theorem dL_house_520 : decode method_7_code 520 = .ok (.aaload, 1) := by decide +kernel
theorem dL_house_521 : decode method_7_code 521 = .ok (.astore 9, 2) := by decide +kernel
theorem dL_house_523 : decode method_7_code 523 = .ok (.aload_n 0, 1) := by decide +kernel
theorem dL_house_524 : decode method_7_code 524 = .ok (.aload 9, 2) := by decide +kernel
theorem dL_house_526 : decode method_7_code 526 = .ok (.iconst 0, 1) := by decide +kernel
theorem dL_house_527 : decode method_7_code 527 = .ok (.iaload, 1) := by decide +kernel
theorem dL_house_528 : decode method_7_code 528 = .ok (.aload 9, 2) := by decide +kernel
theorem dL_house_530 : decode method_7_code 530 = .ok (.iconst 1, 1) := by decide +kernel
theorem dL_house_531 : decode method_7_code 531 = .ok (.iaload, 1) := by decide +kernel
theorem dL_house_532 : decode method_7_code 532 = .ok (.aload 9, 2) := by decide +kernel
theorem dL_house_534 : decode method_7_code 534 = .ok (.iconst 2, 1) := by decide +kernel
theorem dL_house_535 : decode method_7_code 535 = .ok (.iaload, 1) := by decide +kernel
theorem dL_house_536 : decode method_7_code 536 = .ok (.invokevirtual 156, 3) := by decide +kernel
theorem dL_house_539 : decode method_7_code 539 = .ok (.iload 8, 2) := by decide +kernel
theorem dL_house_541 : decode method_7_code 541 = .ok (.if_icmp .eq 5, 3) := by decide +kernel
theorem dL_house_544 : decode method_7_code 544 = .ok (.aconst_null, 1) := by decide +kernel
theorem dL_house_545 : decode method_7_code 545 = .ok (.areturn, 1) := by decide +kernel
theorem dL_house_546 : decode method_7_code 546 = .ok (.aload_n 3, 1) := by decide +kernel
theorem dL_house_547 : decode method_7_code 547 = .ok (.dup, 1) := by decide +kernel
theorem dL_house_548 : decode method_7_code 548 = .ok (.getfield 103, 3) := by decide +kernel
theorem dL_house_551 : decode method_7_code 551 = .ok (.iconst 1, 1) := by decide +kernel
theorem dL_house_552 : decode method_7_code 552 = .ok (.iadd, 1) := by decide +kernel
theorem dL_house_553 : decode method_7_code 553 = .ok (.putfield 103, 3) := by decide +kernel
theorem dL_house_556 : decode method_7_code 556 = .ok (.iinc 8 1, 3) := by decide +kernel
theorem dL_house_559 : decode method_7_code 559 = .ok (.goto (-131), 3) := by decide +kernel
theorem dL_house_562 : decode method_7_code 562 = .ok (.aload_n 3, 1) := by decide +kernel
theorem dL_house_563 : decode method_7_code 563 = .ok (.iload 4, 2) := by decide +kernel
theorem dL_house_565 : decode method_7_code 565 = .ok (.bipush 8, 2) := by decide +kernel
theorem dL_house_567 : decode method_7_code 567 = .ok (.ishr, 1) := by decide +kernel
theorem dL_house_568 : decode method_7_code 568 = .ok (.iconst 1, 1) := by decide +kernel
theorem dL_house_569 : decode method_7_code 569 = .ok (.iand, 1) := by decide +kernel
theorem dL_house_570 : decode method_7_code 570 = .ok (.iload 4, 2) := by decide +kernel
theorem dL_house_572 : decode method_7_code 572 = .ok (.iconst 4, 1) := by decide +kernel
theorem dL_house_573 : decode method_7_code 573 = .ok (.ishr, 1) := by decide +kernel
theorem dL_house_574 : decode method_7_code 574 = .ok (.iconst 0, 1) := by decide +kernel
theorem dL_house_575 : decode method_7_code 575 = .ok (.sipush 400, 3) := by decide +kernel
theorem dL_house_578 : decode method_7_code 578 = .ok (.invokestatic 37, 3) := by decide +kernel
theorem dL_house_581 : decode method_7_code 581 = .ok (.imul, 1) := by decide +kernel
theorem dL_house_582 : decode method_7_code 582 = .ok (.putfield 158, 3) := by decide +kernel
theorem dL_house_585 : decode method_7_code 585 = .ok (.aload_n 0, 1) := by decide +kernel
theorem dL_house_586 : decode method_7_code 586 = .ok (.iconst 0, 1) := by decide +kernel
theorem dL_house_587 : decode method_7_code 587 = .ok (.iconst 0, 1) := by decide +kernel
theorem dL_house_588 : decode method_7_code 588 = .ok (.aload_n 3, 1) := by decide +kernel
theorem dL_house_589 : decode method_7_code 589 = .ok (.getfield 158, 3) := by decide +kernel
theorem dL_house_592 : decode method_7_code 592 = .ok (.invokevirtual 161, 3) := by decide +kernel
theorem dL_house_595 : decode method_7_code 595 = .ok (.ifCond .eq 18, 3) := by decide +kernel
theorem dL_house_598 : decode method_7_code 598 = .ok (.aload_n 0, 1) := by decide +kernel
theorem dL_house_599 : decode method_7_code 599 = .ok (.aload_n 3, 1) := by decide +kernel
theorem dL_house_600 : decode method_7_code 600 = .ok (.aload_n 1, 1) := by decide +kernel
theorem dL_house_601 : decode method_7_code 601 = .ok (.iload_n 2, 1) := by decide +kernel
theorem dL_house_602 : decode method_7_code 602 = .ok (.iconst 4, 1) := by decide +kernel
theorem dL_house_603 : decode method_7_code 603 = .ok (.iadd, 1) := by decide +kernel
theorem dL_house_604 : decode method_7_code 604 = .ok (.invokestatic 124, 3) := by decide +kernel
theorem dL_house_607 : decode method_7_code 607 = .ok (.invokestatic 165, 3) := by decide +kernel
theorem dL_house_610 : decode method_7_code 610 = .ok (.ifCond .ne 5, 3) := by decide +kernel
theorem dL_house_613 : decode method_7_code 613 = .ok (.aconst_null, 1) := by decide +kernel
theorem dL_house_614 : decode method_7_code 614 = .ok (.areturn, 1) := by decide +kernel
theorem dL_house_615 : decode method_7_code 615 = .ok (.aload_n 3, 1) := by decide +kernel
theorem dL_house_616 : decode method_7_code 616 = .ok (.aload_n 1, 1) := by decide +kernel
theorem dL_house_617 : decode method_7_code 617 = .ok (.iload_n 2, 1) := by decide +kernel
theorem dL_house_618 : decode method_7_code 618 = .ok (.iconst 5, 1) := by decide +kernel
theorem dL_house_619 : decode method_7_code 619 = .ok (.iadd, 1) := by decide +kernel
theorem dL_house_620 : decode method_7_code 620 = .ok (.invokestatic 124, 3) := by decide +kernel
theorem dL_house_623 : decode method_7_code 623 = .ok (.putfield 169, 3) := by decide +kernel
theorem dL_house_626 : decode method_7_code 626 = .ok (.aload_n 0, 1) := by decide +kernel
theorem dL_house_627 : decode method_7_code 627 = .ok (.aload_n 3, 1) := by decide +kernel
theorem dL_house_628 : decode method_7_code 628 = .ok (.getfield 169, 3) := by decide +kernel
theorem dL_house_631 : decode method_7_code 631 = .ok (.invokevirtual 172, 3) := by decide +kernel
theorem dL_house_634 : decode method_7_code 634 = .ok (.pop, 1) := by decide +kernel
theorem dL_house_635 : decode method_7_code 635 = .ok (.aload_n 3, 1) := by decide +kernel
theorem dL_house_636 : decode method_7_code 636 = .ok (.areturn, 1) := by decide +kernel
theorem dL_law_0 : decode code 0 = .ok (.new 28, 3) := by decide +kernel
theorem dL_law_3 : decode code 3 = .ok (.dup, 1) := by decide +kernel
theorem dL_law_4 : decode code 4 = .ok (.invokespecial 174, 3) := by decide +kernel
theorem dL_law_7 : decode code 7 = .ok (.astore_n 1, 1) := by decide +kernel
theorem dL_law_8 : decode code 8 = .ok (.aload_n 1, 1) := by decide +kernel
theorem dL_law_9 : decode code 9 = .ok (.aload_n 0, 1) := by decide +kernel
theorem dL_law_10 : decode code 10 = .ok (.iconst 0, 1) := by decide +kernel
theorem dL_law_11 : decode code 11 = .ok (.invokestatic 175, 3) := by decide +kernel
theorem dL_law_14 : decode code 14 = .ok (.astore_n 2, 1) := by decide +kernel
theorem dL_law_15 : decode code 15 = .ok (.aload_n 2, 1) := by decide +kernel
theorem dL_law_16 : decode code 16 = .ok (.ifnull 11, 3) := by decide +kernel
theorem dL_law_19 : decode code 19 = .ok (.aload_n 2, 1) := by decide +kernel
theorem dL_law_20 : decode code 20 = .ok (.aload_n 1, 1) := by decide +kernel
theorem dL_law_21 : decode code 21 = .ok (.invokevirtual 179, 3) := by decide +kernel
theorem dL_law_24 : decode code 24 = .ok (.ifCond .ne 5, 3) := by decide +kernel
theorem dL_law_27 : decode code 27 = .ok (.iconst 0, 1) := by decide +kernel
theorem dL_law_28 : decode code 28 = .ok (.ireturn, 1) := by decide +kernel
theorem dL_law_29 : decode code 29 = .ok (.bipush 6, 2) := by decide +kernel
theorem dL_law_31 : decode code 31 = .ok (.anewarray 49, 3) := by decide +kernel
theorem dL_law_34 : decode code 34 = .ok (.astore_n 3, 1) := by decide +kernel
theorem dL_law_35 : decode code 35 = .ok (.iconst 0, 1) := by decide +kernel
theorem dL_law_36 : decode code 36 = .ok (.istore 4, 2) := by decide +kernel
theorem dL_law_38 : decode code 38 = .ok (.iconst 0, 1) := by decide +kernel
theorem dL_law_39 : decode code 39 = .ok (.istore 5, 2) := by decide +kernel
theorem dL_law_41 : decode code 41 = .ok (.iload 5, 2) := by decide +kernel
theorem dL_law_43 : decode code 43 = .ok (.bipush 22, 2) := by decide +kernel
theorem dL_law_45 : decode code 45 = .ok (.if_icmp .ge 949, 3) := by decide +kernel
theorem dL_law_48 : decode code 48 = .ok (.aload_n 0, 1) := by decide +kernel
theorem dL_law_49 : decode code 49 = .ok (.bipush 6, 2) := by decide +kernel
theorem dL_law_51 : decode code 51 = .ok (.iload 5, 2) := by decide +kernel
theorem dL_law_53 : decode code 53 = .ok (.bipush 12, 2) := by decide +kernel
theorem dL_law_55 : decode code 55 = .ok (.irem, 1) := by decide +kernel
theorem dL_law_56 : decode code 56 = .ok (.iadd, 1) := by decide +kernel
theorem dL_law_57 : decode code 57 = .ok (.invokestatic 124, 3) := by decide +kernel
theorem dL_law_60 : decode code 60 = .ok (.iload 5, 2) := by decide +kernel
theorem dL_law_62 : decode code 62 = .ok (.bipush 12, 2) := by decide +kernel
theorem dL_law_64 : decode code 64 = .ok (.idiv, 1) := by decide +kernel
theorem dL_law_65 : decode code 65 = .ok (.iconst 1, 1) := by decide +kernel
theorem dL_law_66 : decode code 66 = .ok (.iadd, 1) := by decide +kernel
theorem dL_law_67 : decode code 67 = .ok (.imul, 1) := by decide +kernel
theorem dL_law_68 : decode code 68 = .ok (.sipush 227, 3) := by decide +kernel
theorem dL_law_71 : decode code 71 = .ok (.iload 5, 2) := by decide +kernel
theorem dL_law_73 : decode code 73 = .ok (.imul, 1) := by decide +kernel
theorem dL_law_74 : decode code 74 = .ok (.iadd, 1) := by decide +kernel
theorem dL_law_75 : decode code 75 = .ok (.istore 6, 2) := by decide +kernel
theorem dL_law_77 : decode code 77 = .ok (.iload 6, 2) := by decide +kernel
theorem dL_law_79 : decode code 79 = .ok (.iconst 0, 1) := by decide +kernel
theorem dL_law_80 : decode code 80 = .ok (.bipush 13, 2) := by decide +kernel
theorem dL_law_82 : decode code 82 = .ok (.invokestatic 37, 3) := by decide +kernel
theorem dL_law_85 : decode code 85 = .ok (.istore 7, 2) := by decide +kernel
theorem dL_law_87 : decode code 87 = .ok (.iload 6, 2) := by decide +kernel
theorem dL_law_89 : decode code 89 = .ok (.iconst 3, 1) := by decide +kernel
theorem dL_law_90 : decode code 90 = .ok (.ishr, 1) := by decide +kernel
theorem dL_law_91 : decode code 91 = .ok (.iconst 0, 1) := by decide +kernel
theorem dL_law_92 : decode code 92 = .ok (.aload_n 2, 1) := by decide +kernel
theorem dL_law_93 : decode code 93 = .ok (.getfield 62, 3) := by decide +kernel
theorem dL_law_96 : decode code 96 = .ok (.invokestatic 37, 3) := by decide +kernel
theorem dL_law_99 : decode code 99 = .ok (.istore 8, 2) := by decide +kernel
theorem dL_law_101 : decode code 101 = .ok (.iload 6, 2) := by decide +kernel
theorem dL_law_103 : decode code 103 = .ok (.iconst 5, 1) := by decide +kernel
theorem dL_law_104 : decode code 104 = .ok (.ishr, 1) := by decide +kernel
theorem dL_law_105 : decode code 105 = .ok (.iconst 0, 1) := by decide +kernel
theorem dL_law_106 : decode code 106 = .ok (.aload_n 2, 1) := by decide +kernel
theorem dL_law_107 : decode code 107 = .ok (.getfield 103, 3) := by decide +kernel
theorem dL_law_110 : decode code 110 = .ok (.invokestatic 37, 3) := by decide +kernel
theorem dL_law_113 : decode code 113 = .ok (.istore 9, 2) := by decide +kernel
theorem dL_law_115 : decode code 115 = .ok (.aload_n 2, 1) := by decide +kernel
theorem dL_law_116 : decode code 116 = .ok (.invokevirtual 183, 3) := by decide +kernel
theorem dL_law_119 : decode code 119 = .ok (.astore 10, 2) := by decide +kernel
theorem dL_law_121 : decode code 121 = .ok (.iconst 0, 1) := by decide +kernel
theorem dL_law_122 : decode code 122 = .ok (.istore 11, 2) := by decide +kernel
theorem dL_law_124 : decode code 124 = .ok (.iload 7, 2) := by decide +kernel
theorem dL_law_126 : decode code 126 = .ok (.iconst 3, 1) := by decide +kernel
theorem dL_law_127 : decode code 127 = .ok (.if_icmp .ge 106, 3) := by decide +kernel
theorem dL_law_130 : decode code 130 = .ok (.iload 6, 2) := by decide +kernel
theorem dL_law_132 : decode code 132 = .ok (.iconst 5, 1) := by decide +kernel
theorem dL_law_133 : decode code 133 = .ok (.ishr, 1) := by decide +kernel
theorem dL_law_134 : decode code 134 = .ok (.iconst 1, 1) := by decide +kernel
theorem dL_law_135 : decode code 135 = .ok (.iconst 3, 1) := by decide +kernel
theorem dL_law_136 : decode code 136 = .ok (.invokestatic 37, 3) := by decide +kernel
theorem dL_law_139 : decode code 139 = .ok (.istore 12, 2) := by decide +kernel
theorem dL_law_141 : decode code 141 = .ok (.iconst 0, 1) := by decide +kernel
theorem dL_law_142 : decode code 142 = .ok (.istore 13, 2) := by decide +kernel
theorem dL_law_144 : decode code 144 = .ok (.iconst 0, 1) := by decide +kernel
theorem dL_law_145 : decode code 145 = .ok (.istore 14, 2) := by decide +kernel
theorem dL_law_147 : decode code 147 = .ok (.iload 14, 2) := by decide +kernel
theorem dL_law_149 : decode code 149 = .ok (.iload 12, 2) := by decide +kernel
theorem dL_law_151 : decode code 151 = .ok (.if_icmp .ge 66, 3) := by decide +kernel
theorem dL_law_154 : decode code 154 = .ok (.iload 4, 2) := by decide +kernel
theorem dL_law_156 : decode code 156 = .ok (.bipush 6, 2) := by decide +kernel
theorem dL_law_158 : decode code 158 = .ok (.if_icmp .ne 32, 3) := by decide +kernel
theorem dL_law_161 : decode code 161 = .ok (.iconst 1, 1) := by decide +kernel
theorem dL_law_162 : decode code 162 = .ok (.istore 15, 2) := by decide +kernel
theorem dL_law_164 : decode code 164 = .ok (.iload 15, 2) := by decide +kernel
theorem dL_law_166 : decode code 166 = .ok (.bipush 6, 2) := by decide +kernel
theorem dL_law_168 : decode code 168 = .ok (.if_icmp .ge 19, 3) := by decide +kernel
theorem dL_law_171 : decode code 171 = .ok (.aload_n 3, 1) := by decide +kernel
theorem dL_law_172 : decode code 172 = .ok (.iload 15, 2) := by decide +kernel
theorem dL_law_174 : decode code 174 = .ok (.iconst 1, 1) := by decide +kernel
theorem dL_law_175 : decode code 175 = .ok (.isub, 1) := by decide +kernel
theorem dL_law_176 : decode code 176 = .ok (.aload_n 3, 1) := by decide +kernel
theorem dL_law_177 : decode code 177 = .ok (.iload 15, 2) := by decide +kernel
theorem dL_law_179 : decode code 179 = .ok (.aaload, 1) := by decide +kernel
theorem dL_law_180 : decode code 180 = .ok (.aastore, 1) := by decide +kernel
theorem dL_law_181 : decode code 181 = .ok (.iinc 15 1, 3) := by decide +kernel
theorem dL_law_184 : decode code 184 = .ok (.goto (-20), 3) := by decide +kernel
theorem dL_law_187 : decode code 187 = .ok (.iinc 4 (-1), 3) := by decide +kernel
theorem dL_law_190 : decode code 190 = .ok (.aload_n 3, 1) := by decide +kernel
theorem dL_law_191 : decode code 191 = .ok (.iload 4, 2) := by decide +kernel
theorem dL_law_193 : decode code 193 = .ok (.iinc 4 1, 3) := by decide +kernel
theorem dL_law_196 : decode code 196 = .ok (.aload_n 2, 1) := by decide +kernel
theorem dL_law_197 : decode code 197 = .ok (.invokevirtual 183, 3) := by decide +kernel
theorem dL_law_200 : decode code 200 = .ok (.aastore, 1) := by decide +kernel
theorem dL_law_201 : decode code 201 = .ok (.iload 13, 2) := by decide +kernel
theorem dL_law_203 : decode code 203 = .ok (.aload_n 2, 1) := by decide +kernel
theorem dL_law_204 : decode code 204 = .ok (.iconst 1, 1) := by decide +kernel
theorem dL_law_205 : decode code 205 = .ok (.invokevirtual 187, 3) := by decide +kernel
theorem dL_law_208 : decode code 208 = .ok (.iadd, 1) := by decide +kernel
theorem dL_law_209 : decode code 209 = .ok (.istore 13, 2) := by decide +kernel
theorem dL_law_211 : decode code 211 = .ok (.iinc 14 1, 3) := by decide +kernel
theorem dL_law_214 : decode code 214 = .ok (.goto (-67), 3) := by decide +kernel
theorem dL_law_217 : decode code 217 = .ok (.aload_n 1, 1) := by decide +kernel
theorem dL_law_218 : decode code 218 = .ok (.iload 12, 2) := by decide +kernel
theorem dL_law_220 : decode code 220 = .ok (.invokevirtual 191, 3) := by decide +kernel
theorem dL_law_223 : decode code 223 = .ok (.iload 13, 2) := by decide +kernel
theorem dL_law_225 : decode code 225 = .ok (.if_icmp .eq 5, 3) := by decide +kernel
theorem dL_law_228 : decode code 228 = .ok (.iconst 0, 1) := by decide +kernel
theorem dL_law_229 : decode code 229 = .ok (.ireturn, 1) := by decide +kernel
theorem dL_law_230 : decode code 230 = .ok (.goto 687, 3) := by decide +kernel
theorem dL_law_233 : decode code 233 = .ok (.iload 7, 2) := by decide +kernel
theorem dL_law_235 : decode code 235 = .ok (.bipush 6, 2) := by decide +kernel
theorem dL_law_237 : decode code 237 = .ok (.if_icmp .ge 76, 3) := by decide +kernel
theorem dL_law_240 : decode code 240 = .ok (.iload 9, 2) := by decide +kernel
theorem dL_law_242 : decode code 242 = .ok (.aload_n 2, 1) := by decide +kernel
theorem dL_law_243 : decode code 243 = .ok (.getfield 103, 3) := by decide +kernel
theorem dL_law_246 : decode code 246 = .ok (.if_icmp .ge 30, 3) := by decide +kernel
theorem dL_law_249 : decode code 249 = .ok (.aload_n 2, 1) := by decide +kernel
theorem dL_law_250 : decode code 250 = .ok (.getfield 194, 3) := by decide +kernel
theorem dL_law_253 : decode code 253 = .ok (.bipush 21, 2) := by decide +kernel
theorem dL_law_255 : decode code 255 = .ok (.aload_n 2, 1) := by decide +kernel
theorem dL_law_256 : decode code 256 = .ok (.getfield 153, 3) := by decide +kernel
theorem dL_law_259 : decode code 259 = .ok (.iload 9, 2) := by decide +kernel
theorem dL_law_261 : decode code 261 = .ok (.aaload, 1) := by decide +kernel
theorem dL_law_262 : decode code 262 = .ok (.iconst 1, 1) := by decide +kernel
theorem dL_law_263 : decode code 263 = .ok (.iaload, 1) := by decide +kernel
theorem dL_law_264 : decode code 264 = .ok (.imul, 1) := by decide +kernel
theorem dL_law_265 : decode code 265 = .ok (.iadd, 1) := by decide +kernel
theorem dL_law_266 : decode code 266 = .ok (.sipush 9999, 3) := by decide +kernel
theorem dL_law_269 : decode code 269 = .ok (.if_icmp .ge 7, 3) := by decide +kernel
theorem dL_law_272 : decode code 272 = .ok (.iconst 1, 1) := by decide +kernel
theorem dL_law_273 : decode code 273 = .ok (.goto 4, 3) := by decide +kernel
theorem dL_law_276 : decode code 276 = .ok (.iconst 0, 1) := by decide +kernel
theorem dL_law_277 : decode code 277 = .ok (.istore 11, 2) := by decide +kernel
theorem dL_law_279 : decode code 279 = .ok (.iload 11, 2) := by decide +kernel
theorem dL_law_281 : decode code 281 = .ok (.ifCond .eq 13, 3) := by decide +kernel
theorem dL_law_284 : decode code 284 = .ok (.aload_n 2, 1) := by decide +kernel
theorem dL_law_285 : decode code 285 = .ok (.iload 9, 2) := by decide +kernel
theorem dL_law_287 : decode code 287 = .ok (.iconst 1, 1) := by decide +kernel
theorem dL_law_288 : decode code 288 = .ok (.invokevirtual 197, 3) := by decide +kernel
theorem dL_law_291 : decode code 291 = .ok (.goto 4, 3) := by decide +kernel
theorem dL_law_294 : decode code 294 = .ok (.iconst (-1), 1) := by decide +kernel
theorem dL_law_295 : decode code 295 = .ok (.istore 12, 2) := by decide +kernel
theorem dL_law_297 : decode code 297 = .ok (.aload_n 1, 1) := by decide +kernel
theorem dL_law_298 : decode code 298 = .ok (.iload 9, 2) := by decide +kernel
theorem dL_law_300 : decode code 300 = .ok (.invokevirtual 201, 3) := by decide +kernel
theorem dL_law_303 : decode code 303 = .ok (.iload 12, 2) := by decide +kernel
theorem dL_law_305 : decode code 305 = .ok (.if_icmp .eq 5, 3) := by decide +kernel
theorem dL_law_308 : decode code 308 = .ok (.iconst 0, 1) := by decide +kernel
theorem dL_law_309 : decode code 309 = .ok (.ireturn, 1) := by decide +kernel
theorem dL_law_310 : decode code 310 = .ok (.goto 607, 3) := by decide +kernel
theorem dL_law_313 : decode code 313 = .ok (.iload 7, 2) := by decide +kernel
theorem dL_law_315 : decode code 315 = .ok (.bipush 6, 2) := by decide +kernel
theorem dL_law_317 : decode code 317 = .ok (.if_icmp .ne 114, 3) := by decide +kernel
theorem dL_law_320 : decode code 320 = .ok (.iload 6, 2) := by decide +kernel
theorem dL_law_322 : decode code 322 = .ok (.bipush 6, 2) := by decide +kernel
theorem dL_law_324 : decode code 324 = .ok (.ishr, 1) := by decide +kernel
theorem dL_law_325 : decode code 325 = .ok (.iconst 0, 1) := by decide +kernel
theorem dL_law_326 : decode code 326 = .ok (.bipush 100, 2) := by decide +kernel
theorem dL_law_328 : decode code 328 = .ok (.invokestatic 37, 3) := by decide +kernel
theorem dL_law_331 : decode code 331 = .ok (.istore 12, 2) := by decide +kernel
theorem dL_law_333 : decode code 333 = .ok (.iload 8, 2) := by decide +kernel
theorem dL_law_335 : decode code 335 = .ok (.aload_n 2, 1) := by decide +kernel
theorem dL_law_336 : decode code 336 = .ok (.getfield 62, 3) := by decide +kernel
theorem dL_law_339 : decode code 339 = .ok (.if_icmp .ge 19, 3) := by decide +kernel
theorem dL_law_342 : decode code 342 = .ok (.iload 12, 2) := by decide +kernel
theorem dL_law_344 : decode code 344 = .ok (.ifCond .le 14, 3) := by decide +kernel
theorem dL_law_347 : decode code 347 = .ok (.iload 12, 2) := by decide +kernel
theorem dL_law_349 : decode code 349 = .ok (.bipush 100, 2) := by decide +kernel
theorem dL_law_351 : decode code 351 = .ok (.if_icmp .ge 7, 3) := by decide +kernel
theorem dL_law_354 : decode code 354 = .ok (.iconst 1, 1) := by decide +kernel
theorem dL_law_355 : decode code 355 = .ok (.goto 4, 3) := by decide +kernel
theorem dL_law_358 : decode code 358 = .ok (.iconst 0, 1) := by decide +kernel
theorem dL_law_359 : decode code 359 = .ok (.istore 11, 2) := by decide +kernel
theorem dL_law_361 : decode code 361 = .ok (.iload 11, 2) := by decide +kernel
theorem dL_law_363 : decode code 363 = .ok (.ifCond .eq 50, 3) := by decide +kernel
theorem dL_law_366 : decode code 366 = .ok (.aload_n 2, 1) := by decide +kernel
theorem dL_law_367 : decode code 367 = .ok (.getfield 147, 3) := by decide +kernel
theorem dL_law_370 : decode code 370 = .ok (.iload 8, 2) := by decide +kernel
theorem dL_law_372 : decode code 372 = .ok (.aaload, 1) := by decide +kernel
theorem dL_law_373 : decode code 373 = .ok (.iconst 5, 1) := by decide +kernel
theorem dL_law_374 : decode code 374 = .ok (.bipush 99, 2) := by decide +kernel
theorem dL_law_376 : decode code 376 = .ok (.aload_n 2, 1) := by decide +kernel
theorem dL_law_377 : decode code 377 = .ok (.getfield 147, 3) := by decide +kernel
theorem dL_law_380 : decode code 380 = .ok (.iload 8, 2) := by decide +kernel
theorem dL_law_382 : decode code 382 = .ok (.aaload, 1) := by decide +kernel
theorem dL_law_383 : decode code 383 = .ok (.iconst 5, 1) := by decide +kernel
theorem dL_law_384 : decode code 384 = .ok (.iaload, 1) := by decide +kernel
theorem dL_law_385 : decode code 385 = .ok (.iload 12, 2) := by decide +kernel
theorem dL_law_387 : decode code 387 = .ok (.iadd, 1) := by decide +kernel
theorem dL_law_388 : decode code 388 = .ok (.invokestatic 8, 3) := by decide +kernel
theorem dL_law_391 : decode code 391 = .ok (.iastore, 1) := by decide +kernel
theorem dL_law_392 : decode code 392 = .ok (.aload_n 2, 1) := by decide +kernel
theorem dL_law_393 : decode code 393 = .ok (.dup, 1) := by decide +kernel
theorem dL_law_394 : decode code 394 = .ok (.getfield 204, 3) := by decide +kernel
theorem dL_law_397 : decode code 397 = .ok (.iload 12, 2) := by decide +kernel
theorem dL_law_399 : decode code 399 = .ok (.isub, 1) := by decide +kernel
theorem dL_law_400 : decode code 400 = .ok (.putfield 204, 3) := by decide +kernel
theorem dL_law_403 : decode code 403 = .ok (.aload_n 2, 1) := by decide +kernel
theorem dL_law_404 : decode code 404 = .ok (.iconst 3, 1) := by decide +kernel
theorem dL_law_405 : decode code 405 = .ok (.iload 8, 2) := by decide +kernel
theorem dL_law_407 : decode code 407 = .ok (.iload 12, 2) := by decide +kernel
theorem dL_law_409 : decode code 409 = .ok (.iconst 1, 1) := by decide +kernel
theorem dL_law_410 : decode code 410 = .ok (.invokevirtual 207, 3) := by decide +kernel
theorem dL_law_413 : decode code 413 = .ok (.aload_n 1, 1) := by decide +kernel
theorem dL_law_414 : decode code 414 = .ok (.iload 8, 2) := by decide +kernel
theorem dL_law_416 : decode code 416 = .ok (.iload 12, 2) := by decide +kernel
theorem dL_law_418 : decode code 418 = .ok (.invokevirtual 211, 3) := by decide +kernel
theorem dL_law_421 : decode code 421 = .ok (.iload 11, 2) := by decide +kernel
theorem dL_law_423 : decode code 423 = .ok (.if_icmp .eq 5, 3) := by decide +kernel
theorem dL_law_426 : decode code 426 = .ok (.iconst 0, 1) := by decide +kernel
theorem dL_law_427 : decode code 427 = .ok (.ireturn, 1) := by decide +kernel
theorem dL_law_428 : decode code 428 = .ok (.goto 489, 3) := by decide +kernel
theorem dL_law_431 : decode code 431 = .ok (.iload 7, 2) := by decide +kernel
theorem dL_law_433 : decode code 433 = .ok (.bipush 9, 2) := by decide +kernel
theorem dL_law_435 : decode code 435 = .ok (.if_icmp .ge 162, 3) := by decide +kernel
theorem dL_law_438 : decode code 438 = .ok (.iload 7, 2) := by decide +kernel
theorem dL_law_440 : decode code 440 = .ok (.bipush 7, 2) := by decide +kernel
theorem dL_law_442 : decode code 442 = .ok (.if_icmp .ne 7, 3) := by decide +kernel
theorem dL_law_445 : decode code 445 = .ok (.iconst 4, 1) := by decide +kernel
theorem dL_law_446 : decode code 446 = .ok (.goto 4, 3) := by decide +kernel
theorem dL_law_449 : decode code 449 = .ok (.iconst 3, 1) := by decide +kernel
theorem dL_law_450 : decode code 450 = .ok (.istore 12, 2) := by decide +kernel
theorem dL_law_452 : decode code 452 = .ok (.iload 6, 2) := by decide +kernel
theorem dL_law_454 : decode code 454 = .ok (.bipush 6, 2) := by decide +kernel
theorem dL_law_456 : decode code 456 = .ok (.ishr, 1) := by decide +kernel
theorem dL_law_457 : decode code 457 = .ok (.iconst 1, 1) := by decide +kernel
theorem dL_law_458 : decode code 458 = .ok (.iand, 1) := by decide +kernel
theorem dL_law_459 : decode code 459 = .ok (.iconst 1, 1) := by decide +kernel
theorem dL_law_460 : decode code 460 = .ok (.if_icmp .ne 7, 3) := by decide +kernel
theorem dL_law_463 : decode code 463 = .ok (.iconst 1, 1) := by decide +kernel
theorem dL_law_464 : decode code 464 = .ok (.goto 4, 3) := by decide +kernel
theorem dL_law_467 : decode code 467 = .ok (.iconst 0, 1) := by decide +kernel
theorem dL_law_468 : decode code 468 = .ok (.istore 13, 2) := by decide +kernel
theorem dL_law_470 : decode code 470 = .ok (.iload 8, 2) := by decide +kernel
theorem dL_law_472 : decode code 472 = .ok (.aload_n 2, 1) := by decide +kernel
theorem dL_law_473 : decode code 473 = .ok (.getfield 62, 3) := by decide +kernel
theorem dL_law_476 : decode code 476 = .ok (.if_icmp .ge 30, 3) := by decide +kernel
theorem dL_law_479 : decode code 479 = .ok (.aload_n 2, 1) := by decide +kernel
theorem dL_law_480 : decode code 480 = .ok (.getfield 147, 3) := by decide +kernel
theorem dL_law_483 : decode code 483 = .ok (.iload 8, 2) := by decide +kernel
theorem dL_law_485 : decode code 485 = .ok (.aaload, 1) := by decide +kernel
theorem dL_law_486 : decode code 486 = .ok (.iload 12, 2) := by decide +kernel
theorem dL_law_488 : decode code 488 = .ok (.iaload, 1) := by decide +kernel
theorem dL_law_489 : decode code 489 = .ok (.iload 13, 2) := by decide +kernel
theorem dL_law_491 : decode code 491 = .ok (.ifCond .eq 7, 3) := by decide +kernel
theorem dL_law_494 : decode code 494 = .ok (.iconst 1, 1) := by decide +kernel
theorem dL_law_495 : decode code 495 = .ok (.goto 4, 3) := by decide +kernel
theorem dL_law_498 : decode code 498 = .ok (.iconst 0, 1) := by decide +kernel
theorem dL_law_499 : decode code 499 = .ok (.if_icmp .eq 7, 3) := by decide +kernel
theorem dL_law_502 : decode code 502 = .ok (.iconst 1, 1) := by decide +kernel
theorem dL_law_503 : decode code 503 = .ok (.goto 4, 3) := by decide +kernel
theorem dL_law_506 : decode code 506 = .ok (.iconst 0, 1) := by decide +kernel
theorem dL_law_507 : decode code 507 = .ok (.istore 11, 2) := by decide +kernel
theorem dL_law_509 : decode code 509 = .ok (.iload 11, 2) := by decide +kernel
theorem dL_law_511 : decode code 511 = .ok (.ifCond .eq 51, 3) := by decide +kernel
theorem dL_law_514 : decode code 514 = .ok (.aload_n 2, 1) := by decide +kernel
theorem dL_law_515 : decode code 515 = .ok (.getfield 147, 3) := by decide +kernel
theorem dL_law_518 : decode code 518 = .ok (.iload 8, 2) := by decide +kernel
theorem dL_law_520 : decode code 520 = .ok (.aaload, 1) := by decide +kernel
theorem dL_law_521 : decode code 521 = .ok (.iload 12, 2) := by decide +kernel
theorem dL_law_523 : decode code 523 = .ok (.iload 13, 2) := by decide +kernel
theorem dL_law_525 : decode code 525 = .ok (.ifCond .eq 7, 3) := by decide +kernel
theorem dL_law_528 : decode code 528 = .ok (.iconst 1, 1) := by decide +kernel
theorem dL_law_529 : decode code 529 = .ok (.goto 4, 3) := by decide +kernel
theorem dL_law_532 : decode code 532 = .ok (.iconst 0, 1) := by decide +kernel
theorem dL_law_533 : decode code 533 = .ok (.iastore, 1) := by decide +kernel
theorem dL_law_534 : decode code 534 = .ok (.aload_n 2, 1) := by decide +kernel
theorem dL_law_535 : decode code 535 = .ok (.iload 12, 2) := by decide +kernel
theorem dL_law_537 : decode code 537 = .ok (.iconst 4, 1) := by decide +kernel
theorem dL_law_538 : decode code 538 = .ok (.if_icmp .ne 7, 3) := by decide +kernel
theorem dL_law_541 : decode code 541 = .ok (.iconst 4, 1) := by decide +kernel
theorem dL_law_542 : decode code 542 = .ok (.goto 4, 3) := by decide +kernel
theorem dL_law_545 : decode code 545 = .ok (.iconst 5, 1) := by decide +kernel
theorem dL_law_546 : decode code 546 = .ok (.iload 8, 2) := by decide +kernel
theorem dL_law_548 : decode code 548 = .ok (.iload 13, 2) := by decide +kernel
theorem dL_law_550 : decode code 550 = .ok (.ifCond .eq 7, 3) := by decide +kernel
theorem dL_law_553 : decode code 553 = .ok (.iconst 1, 1) := by decide +kernel
theorem dL_law_554 : decode code 554 = .ok (.goto 4, 3) := by decide +kernel
theorem dL_law_557 : decode code 557 = .ok (.iconst 0, 1) := by decide +kernel
theorem dL_law_558 : decode code 558 = .ok (.iconst 1, 1) := by decide +kernel
theorem dL_law_559 : decode code 559 = .ok (.invokevirtual 207, 3) := by decide +kernel
theorem dL_law_562 : decode code 562 = .ok (.iload 12, 2) := by decide +kernel
theorem dL_law_564 : decode code 564 = .ok (.iconst 4, 1) := by decide +kernel
theorem dL_law_565 : decode code 565 = .ok (.if_icmp .ne 14, 3) := by decide +kernel
theorem dL_law_568 : decode code 568 = .ok (.aload_n 1, 1) := by decide +kernel
theorem dL_law_569 : decode code 569 = .ok (.iload 8, 2) := by decide +kernel
theorem dL_law_571 : decode code 571 = .ok (.iload 13, 2) := by decide +kernel
theorem dL_law_573 : decode code 573 = .ok (.invokevirtual 215, 3) := by decide +kernel
theorem dL_law_576 : decode code 576 = .ok (.goto 11, 3) := by decide +kernel
theorem dL_law_579 : decode code 579 = .ok (.aload_n 1, 1) := by decide +kernel
theorem dL_law_580 : decode code 580 = .ok (.iload 8, 2) := by decide +kernel
theorem dL_law_582 : decode code 582 = .ok (.iload 13, 2) := by decide +kernel
theorem dL_law_584 : decode code 584 = .ok (.invokevirtual 219, 3) := by decide +kernel
theorem dL_law_587 : decode code 587 = .ok (.iload 11, 2) := by decide +kernel
theorem dL_law_589 : decode code 589 = .ok (.if_icmp .eq 5, 3) := by decide +kernel
theorem dL_law_592 : decode code 592 = .ok (.iconst 0, 1) := by decide +kernel
theorem dL_law_593 : decode code 593 = .ok (.ireturn, 1) := by decide +kernel
theorem dL_law_594 : decode code 594 = .ok (.goto 323, 3) := by decide +kernel
theorem dL_law_597 : decode code 597 = .ok (.iload 7, 2) := by decide +kernel
theorem dL_law_599 : decode code 599 = .ok (.bipush 9, 2) := by decide +kernel
theorem dL_law_601 : decode code 601 = .ok (.if_icmp .ne 249, 3) := by decide +kernel
theorem dL_law_604 : decode code 604 = .ok (.iload 6, 2) := by decide +kernel
theorem dL_law_606 : decode code 606 = .ok (.iconst 4, 1) := by decide +kernel
theorem dL_law_607 : decode code 607 = .ok (.ishr, 1) := by decide +kernel
theorem dL_law_608 : decode code 608 = .ok (.iconst 0, 1) := by decide +kernel
theorem dL_law_609 : decode code 609 = .ok (.bipush 6, 2) := by decide +kernel
theorem dL_law_611 : decode code 611 = .ok (.invokestatic 37, 3) := by decide +kernel
theorem dL_law_614 : decode code 614 = .ok (.istore 12, 2) := by decide +kernel
theorem dL_law_616 : decode code 616 = .ok (.iload 6, 2) := by decide +kernel
theorem dL_law_618 : decode code 618 = .ok (.bipush 6, 2) := by decide +kernel
theorem dL_law_620 : decode code 620 = .ok (.ishr, 1) := by decide +kernel
theorem dL_law_621 : decode code 621 = .ok (.iconst 0, 1) := by decide +kernel
theorem dL_law_622 : decode code 622 = .ok (.iload 12, 2) := by decide +kernel
theorem dL_law_624 : decode code 624 = .ok (.ifCond .ne 9, 3) := by decide +kernel
theorem dL_law_627 : decode code 627 = .ok (.sipush 1001, 3) := by decide +kernel
theorem dL_law_630 : decode code 630 = .ok (.goto 16, 3) := by decide +kernel
theorem dL_law_633 : decode code 633 = .ok (.iload 12, 2) := by decide +kernel
theorem dL_law_635 : decode code 635 = .ok (.iconst 5, 1) := by decide +kernel
theorem dL_law_636 : decode code 636 = .ok (.if_icmp .ne 8, 3) := by decide +kernel
theorem dL_law_639 : decode code 639 = .ok (.bipush 100, 2) := by decide +kernel
theorem dL_law_641 : decode code 641 = .ok (.goto 5, 3) := by decide +kernel
theorem dL_law_644 : decode code 644 = .ok (.bipush 10, 2) := by decide +kernel
theorem dL_law_646 : decode code 646 = .ok (.invokestatic 37, 3) := by decide +kernel
theorem dL_law_649 : decode code 649 = .ok (.istore 13, 2) := by decide +kernel
theorem dL_law_651 : decode code 651 = .ok (.bipush 7, 2) := by decide +kernel
theorem dL_law_653 : decode code 653 = .ok (.newarray .int, 2) := by decide +kernel
theorem dL_law_655 : decode code 655 = .ok (.dup, 1) := by decide +kernel
theorem dL_law_656 : decode code 656 = .ok (.iconst 0, 1) := by decide +kernel
theorem dL_law_657 : decode code 657 = .ok (.sipush 1000, 3) := by decide +kernel
theorem dL_law_660 : decode code 660 = .ok (.iastore, 1) := by decide +kernel
theorem dL_law_661 : decode code 661 = .ok (.dup, 1) := by decide +kernel
theorem dL_law_662 : decode code 662 = .ok (.iconst 1, 1) := by decide +kernel
theorem dL_law_663 : decode code 663 = .ok (.bipush 9, 2) := by decide +kernel
theorem dL_law_665 : decode code 665 = .ok (.iastore, 1) := by decide +kernel
theorem dL_law_666 : decode code 666 = .ok (.dup, 1) := by decide +kernel
theorem dL_law_667 : decode code 667 = .ok (.iconst 2, 1) := by decide +kernel
theorem dL_law_668 : decode code 668 = .ok (.bipush 9, 2) := by decide +kernel
theorem dL_law_670 : decode code 670 = .ok (.iastore, 1) := by decide +kernel
theorem dL_law_671 : decode code 671 = .ok (.dup, 1) := by decide +kernel
theorem dL_law_672 : decode code 672 = .ok (.iconst 3, 1) := by decide +kernel
theorem dL_law_673 : decode code 673 = .ok (.bipush 9, 2) := by decide +kernel
theorem dL_law_675 : decode code 675 = .ok (.iastore, 1) := by decide +kernel
theorem dL_law_676 : decode code 676 = .ok (.dup, 1) := by decide +kernel
theorem dL_law_677 : decode code 677 = .ok (.iconst 4, 1) := by decide +kernel
theorem dL_law_678 : decode code 678 = .ok (.bipush 9, 2) := by decide +kernel
theorem dL_law_680 : decode code 680 = .ok (.iastore, 1) := by decide +kernel
theorem dL_law_681 : decode code 681 = .ok (.dup, 1) := by decide +kernel
theorem dL_law_682 : decode code 682 = .ok (.iconst 5, 1) := by decide +kernel
theorem dL_law_683 : decode code 683 = .ok (.bipush 99, 2) := by decide +kernel
theorem dL_law_685 : decode code 685 = .ok (.iastore, 1) := by decide +kernel
theorem dL_law_686 : decode code 686 = .ok (.dup, 1) := by decide +kernel
theorem dL_law_687 : decode code 687 = .ok (.bipush 6, 2) := by decide +kernel
theorem dL_law_689 : decode code 689 = .ok (.iconst (-1), 1) := by decide +kernel
theorem dL_law_690 : decode code 690 = .ok (.iastore, 1) := by decide +kernel
theorem dL_law_691 : decode code 691 = .ok (.astore 14, 2) := by decide +kernel
theorem dL_law_693 : decode code 693 = .ok (.iload 12, 2) := by decide +kernel
theorem dL_law_695 : decode code 695 = .ok (.iconst 3, 1) := by decide +kernel
theorem dL_law_696 : decode code 696 = .ok (.if_icmp .le 8, 3) := by decide +kernel
theorem dL_law_699 : decode code 699 = .ok (.iload 9, 2) := by decide +kernel
theorem dL_law_701 : decode code 701 = .ok (.goto 5, 3) := by decide +kernel
theorem dL_law_704 : decode code 704 = .ok (.iload 8, 2) := by decide +kernel
theorem dL_law_706 : decode code 706 = .ok (.istore 15, 2) := by decide +kernel
theorem dL_law_708 : decode code 708 = .ok (.iload 13, 2) := by decide +kernel
theorem dL_law_710 : decode code 710 = .ok (.aload 14, 2) := by decide +kernel
theorem dL_law_712 : decode code 712 = .ok (.iload 12, 2) := by decide +kernel
theorem dL_law_714 : decode code 714 = .ok (.iaload, 1) := by decide +kernel
theorem dL_law_715 : decode code 715 = .ok (.if_icmp .gt 34, 3) := by decide +kernel
theorem dL_law_718 : decode code 718 = .ok (.iload 12, 2) := by decide +kernel
theorem dL_law_720 : decode code 720 = .ok (.ifCond .eq 25, 3) := by decide +kernel
theorem dL_law_723 : decode code 723 = .ok (.iload 15, 2) := by decide +kernel
theorem dL_law_725 : decode code 725 = .ok (.iload 12, 2) := by decide +kernel
theorem dL_law_727 : decode code 727 = .ok (.iconst 3, 1) := by decide +kernel
theorem dL_law_728 : decode code 728 = .ok (.if_icmp .le 10, 3) := by decide +kernel
theorem dL_law_731 : decode code 731 = .ok (.aload_n 2, 1) := by decide +kernel
theorem dL_law_732 : decode code 732 = .ok (.getfield 103, 3) := by decide +kernel
theorem dL_law_735 : decode code 735 = .ok (.goto 7, 3) := by decide +kernel
theorem dL_law_738 : decode code 738 = .ok (.aload_n 2, 1) := by decide +kernel
theorem dL_law_739 : decode code 739 = .ok (.getfield 62, 3) := by decide +kernel
theorem dL_law_742 : decode code 742 = .ok (.if_icmp .ge 7, 3) := by decide +kernel
theorem dL_law_745 : decode code 745 = .ok (.iconst 1, 1) := by decide +kernel
theorem dL_law_746 : decode code 746 = .ok (.goto 4, 3) := by decide +kernel
theorem dL_law_749 : decode code 749 = .ok (.iconst 0, 1) := by decide +kernel
theorem dL_law_750 : decode code 750 = .ok (.istore 16, 2) := by decide +kernel
theorem dL_law_752 : decode code 752 = .ok (.aload_n 1, 1) := by decide +kernel
theorem dL_law_753 : decode code 753 = .ok (.iload 12, 2) := by decide +kernel
theorem dL_law_755 : decode code 755 = .ok (.iload 15, 2) := by decide +kernel
theorem dL_law_757 : decode code 757 = .ok (.iload 13, 2) := by decide +kernel
theorem dL_law_759 : decode code 759 = .ok (.invokevirtual 161, 3) := by decide +kernel
theorem dL_law_762 : decode code 762 = .ok (.iload 16, 2) := by decide +kernel
theorem dL_law_764 : decode code 764 = .ok (.if_icmp .eq 5, 3) := by decide +kernel
theorem dL_law_767 : decode code 767 = .ok (.iconst 0, 1) := by decide +kernel
theorem dL_law_768 : decode code 768 = .ok (.ireturn, 1) := by decide +kernel
theorem dL_law_769 : decode code 769 = .ok (.iload 16, 2) := by decide +kernel
theorem dL_law_771 : decode code 771 = .ok (.ifCond .eq 76, 3) := by decide +kernel
theorem dL_law_774 : decode code 774 = .ok (.iload 12, 2) := by decide +kernel
theorem dL_law_776 : decode code 776 = .ok (.ifCond .ne 9, 3) := by decide +kernel
theorem dL_law_779 : decode code 779 = .ok (.aload_n 2, 1) := by decide +kernel
theorem dL_law_780 : decode code 780 = .ok (.iload 13, 2) := by decide +kernel
theorem dL_law_782 : decode code 782 = .ok (.putfield 158, 3) := by decide +kernel
theorem dL_law_785 : decode code 785 = .ok (.iload 12, 2) := by decide +kernel
theorem dL_law_787 : decode code 787 = .ok (.ifCond .le 23, 3) := by decide +kernel
theorem dL_law_790 : decode code 790 = .ok (.iload 12, 2) := by decide +kernel
theorem dL_law_792 : decode code 792 = .ok (.iconst 4, 1) := by decide +kernel
theorem dL_law_793 : decode code 793 = .ok (.if_icmp .ge 17, 3) := by decide +kernel
theorem dL_law_796 : decode code 796 = .ok (.aload_n 2, 1) := by decide +kernel
theorem dL_law_797 : decode code 797 = .ok (.getfield 147, 3) := by decide +kernel
theorem dL_law_800 : decode code 800 = .ok (.iload 8, 2) := by decide +kernel
theorem dL_law_802 : decode code 802 = .ok (.aaload, 1) := by decide +kernel
theorem dL_law_803 : decode code 803 = .ok (.iload 12, 2) := by decide +kernel
theorem dL_law_805 : decode code 805 = .ok (.iconst 1, 1) := by decide +kernel
theorem dL_law_806 : decode code 806 = .ok (.isub, 1) := by decide +kernel
theorem dL_law_807 : decode code 807 = .ok (.iload 13, 2) := by decide +kernel
theorem dL_law_809 : decode code 809 = .ok (.iastore, 1) := by decide +kernel
theorem dL_law_810 : decode code 810 = .ok (.iload 12, 2) := by decide +kernel
theorem dL_law_812 : decode code 812 = .ok (.iconst 4, 1) := by decide +kernel
theorem dL_law_813 : decode code 813 = .ok (.if_icmp .ne 14, 3) := by decide +kernel
theorem dL_law_816 : decode code 816 = .ok (.aload_n 2, 1) := by decide +kernel
theorem dL_law_817 : decode code 817 = .ok (.getfield 153, 3) := by decide +kernel
theorem dL_law_820 : decode code 820 = .ok (.iload 9, 2) := by decide +kernel
theorem dL_law_822 : decode code 822 = .ok (.aaload, 1) := by decide +kernel
theorem dL_law_823 : decode code 823 = .ok (.iconst 0, 1) := by decide +kernel
theorem dL_law_824 : decode code 824 = .ok (.iload 13, 2) := by decide +kernel
theorem dL_law_826 : decode code 826 = .ok (.iastore, 1) := by decide +kernel
theorem dL_law_827 : decode code 827 = .ok (.iload 12, 2) := by decide +kernel
theorem dL_law_829 : decode code 829 = .ok (.iconst 5, 1) := by decide +kernel
theorem dL_law_830 : decode code 830 = .ok (.if_icmp .ne 14, 3) := by decide +kernel
theorem dL_law_833 : decode code 833 = .ok (.aload_n 2, 1) := by decide +kernel
theorem dL_law_834 : decode code 834 = .ok (.getfield 153, 3) := by decide +kernel
theorem dL_law_837 : decode code 837 = .ok (.iload 9, 2) := by decide +kernel
theorem dL_law_839 : decode code 839 = .ok (.aaload, 1) := by decide +kernel
theorem dL_law_840 : decode code 840 = .ok (.iconst 3, 1) := by decide +kernel
theorem dL_law_841 : decode code 841 = .ok (.iload 13, 2) := by decide +kernel
theorem dL_law_843 : decode code 843 = .ok (.iastore, 1) := by decide +kernel
theorem dL_law_844 : decode code 844 = .ok (.iconst 0, 1) := by decide +kernel
theorem dL_law_845 : decode code 845 = .ok (.istore 4, 2) := by decide +kernel
theorem dL_law_847 : decode code 847 = .ok (.goto 70, 3) := by decide +kernel
theorem dL_law_850 : decode code 850 = .ok (.iload 7, 2) := by decide +kernel
theorem dL_law_852 : decode code 852 = .ok (.bipush 10, 2) := by decide +kernel
theorem dL_law_854 : decode code 854 = .ok (.if_icmp .ne 31, 3) := by decide +kernel
theorem dL_law_857 : decode code 857 = .ok (.iload 6, 2) := by decide +kernel
theorem dL_law_859 : decode code 859 = .ok (.bipush 6, 2) := by decide +kernel
theorem dL_law_861 : decode code 861 = .ok (.ishr, 1) := by decide +kernel
theorem dL_law_862 : decode code 862 = .ok (.iconst 1, 1) := by decide +kernel
theorem dL_law_863 : decode code 863 = .ok (.iand, 1) := by decide +kernel
theorem dL_law_864 : decode code 864 = .ok (.ifCond .ne 53, 3) := by decide +kernel
theorem dL_law_867 : decode code 867 = .ok (.aload_n 1, 1) := by decide +kernel
theorem dL_law_868 : decode code 868 = .ok (.aload_n 2, 1) := by decide +kernel
theorem dL_law_869 : decode code 869 = .ok (.iload 6, 2) := by decide +kernel
theorem dL_law_871 : decode code 871 = .ok (.invokestatic 165, 3) := by decide +kernel
theorem dL_law_874 : decode code 874 = .ok (.ifCond .ne 5, 3) := by decide +kernel
theorem dL_law_877 : decode code 877 = .ok (.iconst 0, 1) := by decide +kernel
theorem dL_law_878 : decode code 878 = .ok (.ireturn, 1) := by decide +kernel
theorem dL_law_879 : decode code 879 = .ok (.iconst 0, 1) := by decide +kernel
theorem dL_law_880 : decode code 880 = .ok (.istore 4, 2) := by decide +kernel
theorem dL_law_882 : decode code 882 = .ok (.goto 35, 3) := by decide +kernel
theorem dL_law_885 : decode code 885 = .ok (.aload_n 1, 1) := by decide +kernel
theorem dL_law_886 : decode code 886 = .ok (.invokevirtual 222, 3) := by decide +kernel
theorem dL_law_889 : decode code 889 = .ok (.iload 4, 2) := by decide +kernel
theorem dL_law_891 : decode code 891 = .ok (.ifCond .le 7, 3) := by decide +kernel
theorem dL_law_894 : decode code 894 = .ok (.iconst 1, 1) := by decide +kernel
theorem dL_law_895 : decode code 895 = .ok (.goto 4, 3) := by decide +kernel
theorem dL_law_898 : decode code 898 = .ok (.iconst 0, 1) := by decide +kernel
theorem dL_law_899 : decode code 899 = .ok (.if_icmp .eq 5, 3) := by decide +kernel
theorem dL_law_902 : decode code 902 = .ok (.iconst 0, 1) := by decide +kernel
theorem dL_law_903 : decode code 903 = .ok (.ireturn, 1) := by decide +kernel
theorem dL_law_904 : decode code 904 = .ok (.iload 4, 2) := by decide +kernel
theorem dL_law_906 : decode code 906 = .ok (.ifCond .le 11, 3) := by decide +kernel
theorem dL_law_909 : decode code 909 = .ok (.aload_n 3, 1) := by decide +kernel
theorem dL_law_910 : decode code 910 = .ok (.iinc 4 (-1), 3) := by decide +kernel
theorem dL_law_913 : decode code 913 = .ok (.iload 4, 2) := by decide +kernel
theorem dL_law_915 : decode code 915 = .ok (.aaload, 1) := by decide +kernel
theorem dL_law_916 : decode code 916 = .ok (.astore_n 2, 1) := by decide +kernel
theorem dL_law_917 : decode code 917 = .ok (.iload 11, 2) := by decide +kernel
theorem dL_law_919 : decode code 919 = .ok (.ifCond .eq 48, 3) := by decide +kernel
theorem dL_law_922 : decode code 922 = .ok (.iload 4, 2) := by decide +kernel
theorem dL_law_924 : decode code 924 = .ok (.bipush 6, 2) := by decide +kernel
theorem dL_law_926 : decode code 926 = .ok (.if_icmp .ne 32, 3) := by decide +kernel
theorem dL_law_929 : decode code 929 = .ok (.iconst 1, 1) := by decide +kernel
theorem dL_law_930 : decode code 930 = .ok (.istore 12, 2) := by decide +kernel
theorem dL_law_932 : decode code 932 = .ok (.iload 12, 2) := by decide +kernel
theorem dL_law_934 : decode code 934 = .ok (.bipush 6, 2) := by decide +kernel
theorem dL_law_936 : decode code 936 = .ok (.if_icmp .ge 19, 3) := by decide +kernel
theorem dL_law_939 : decode code 939 = .ok (.aload_n 3, 1) := by decide +kernel
theorem dL_law_940 : decode code 940 = .ok (.iload 12, 2) := by decide +kernel
theorem dL_law_942 : decode code 942 = .ok (.iconst 1, 1) := by decide +kernel
theorem dL_law_943 : decode code 943 = .ok (.isub, 1) := by decide +kernel
theorem dL_law_944 : decode code 944 = .ok (.aload_n 3, 1) := by decide +kernel
theorem dL_law_945 : decode code 945 = .ok (.iload 12, 2) := by decide +kernel
theorem dL_law_947 : decode code 947 = .ok (.aaload, 1) := by decide +kernel
theorem dL_law_948 : decode code 948 = .ok (.aastore, 1) := by decide +kernel
theorem dL_law_949 : decode code 949 = .ok (.iinc 12 1, 3) := by decide +kernel
theorem dL_law_952 : decode code 952 = .ok (.goto (-20), 3) := by decide +kernel
theorem dL_law_955 : decode code 955 = .ok (.iinc 4 (-1), 3) := by decide +kernel
theorem dL_law_958 : decode code 958 = .ok (.aload_n 3, 1) := by decide +kernel
theorem dL_law_959 : decode code 959 = .ok (.iload 4, 2) := by decide +kernel
theorem dL_law_961 : decode code 961 = .ok (.iinc 4 1, 3) := by decide +kernel
theorem dL_law_964 : decode code 964 = .ok (.aload 10, 2) := by decide +kernel
theorem dL_law_966 : decode code 966 = .ok (.aastore, 1) := by decide +kernel
theorem dL_law_967 : decode code 967 = .ok (.aload_n 1, 1) := by decide +kernel
theorem dL_law_968 : decode code 968 = .ok (.bipush 16, 2) := by decide +kernel
theorem dL_law_970 : decode code 970 = .ok (.invokevirtual 226, 3) := by decide +kernel
theorem dL_law_973 : decode code 973 = .ok (.iload 4, 2) := by decide +kernel
theorem dL_law_975 : decode code 975 = .ok (.if_icmp .ne 11, 3) := by decide +kernel
theorem dL_law_978 : decode code 978 = .ok (.aload_n 2, 1) := by decide +kernel
theorem dL_law_979 : decode code 979 = .ok (.aload_n 1, 1) := by decide +kernel
theorem dL_law_980 : decode code 980 = .ok (.invokevirtual 179, 3) := by decide +kernel
theorem dL_law_983 : decode code 983 = .ok (.ifCond .ne 5, 3) := by decide +kernel
theorem dL_law_986 : decode code 986 = .ok (.iconst 0, 1) := by decide +kernel
theorem dL_law_987 : decode code 987 = .ok (.ireturn, 1) := by decide +kernel
theorem dL_law_988 : decode code 988 = .ok (.iinc 5 1, 3) := by decide +kernel
theorem dL_law_991 : decode code 991 = .ok (.goto (-950), 3) := by decide +kernel
theorem dL_law_994 : decode code 994 = .ok (.aload_n 1, 1) := by decide +kernel
theorem dL_law_995 : decode code 995 = .ok (.iconst 0, 1) := by decide +kernel
theorem dL_law_996 : decode code 996 = .ok (.invokevirtual 191, 3) := by decide +kernel
theorem dL_law_999 : decode code 999 = .ok (.iconst (-1), 1) := by decide +kernel
theorem dL_law_1000 : decode code 1000 = .ok (.if_icmp .ne 166, 3) := by decide +kernel
theorem dL_law_1003 : decode code 1003 = .ok (.aload_n 1, 1) := by decide +kernel
theorem dL_law_1004 : decode code 1004 = .ok (.bipush 21, 2) := by decide +kernel
theorem dL_law_1006 : decode code 1006 = .ok (.invokevirtual 191, 3) := by decide +kernel
theorem dL_law_1009 : decode code 1009 = .ok (.iconst (-1), 1) := by decide +kernel
theorem dL_law_1010 : decode code 1010 = .ok (.if_icmp .ne 156, 3) := by decide +kernel
theorem dL_law_1013 : decode code 1013 = .ok (.aload_n 1, 1) := by decide +kernel
theorem dL_law_1014 : decode code 1014 = .ok (.bipush 10, 2) := by decide +kernel
theorem dL_law_1016 : decode code 1016 = .ok (.iconst 0, 1) := by decide +kernel
theorem dL_law_1017 : decode code 1017 = .ok (.iconst 0, 1) := by decide +kernel
theorem dL_law_1018 : decode code 1018 = .ok (.invokevirtual 150, 3) := by decide +kernel
theorem dL_law_1021 : decode code 1021 = .ok (.iconst (-1), 1) := by decide +kernel
theorem dL_law_1022 : decode code 1022 = .ok (.if_icmp .ne 144, 3) := by decide +kernel
theorem dL_law_1025 : decode code 1025 = .ok (.aload_n 1, 1) := by decide +kernel
theorem dL_law_1026 : decode code 1026 = .ok (.iconst 0, 1) := by decide +kernel
theorem dL_law_1027 : decode code 1027 = .ok (.iconst 0, 1) := by decide +kernel
theorem dL_law_1028 : decode code 1028 = .ok (.iconst (-1), 1) := by decide +kernel
theorem dL_law_1029 : decode code 1029 = .ok (.invokevirtual 150, 3) := by decide +kernel
theorem dL_law_1032 : decode code 1032 = .ok (.iconst (-1), 1) := by decide +kernel
theorem dL_law_1033 : decode code 1033 = .ok (.if_icmp .ne 133, 3) := by decide +kernel
theorem dL_law_1036 : decode code 1036 = .ok (.aload_n 1, 1) := by decide +kernel
theorem dL_law_1037 : decode code 1037 = .ok (.bipush 10, 2) := by decide +kernel
theorem dL_law_1039 : decode code 1039 = .ok (.iconst 1, 1) := by decide +kernel
theorem dL_law_1040 : decode code 1040 = .ok (.iconst 0, 1) := by decide +kernel
theorem dL_law_1041 : decode code 1041 = .ok (.invokevirtual 156, 3) := by decide +kernel
theorem dL_law_1044 : decode code 1044 = .ok (.iconst (-1), 1) := by decide +kernel
theorem dL_law_1045 : decode code 1045 = .ok (.if_icmp .ne 121, 3) := by decide +kernel
theorem dL_law_1048 : decode code 1048 = .ok (.aload_n 1, 1) := by decide +kernel
theorem dL_law_1049 : decode code 1049 = .ok (.iconst 0, 1) := by decide +kernel
theorem dL_law_1050 : decode code 1050 = .ok (.iconst 0, 1) := by decide +kernel
theorem dL_law_1051 : decode code 1051 = .ok (.iconst 0, 1) := by decide +kernel
theorem dL_law_1052 : decode code 1052 = .ok (.invokevirtual 156, 3) := by decide +kernel
theorem dL_law_1055 : decode code 1055 = .ok (.iconst (-1), 1) := by decide +kernel
theorem dL_law_1056 : decode code 1056 = .ok (.if_icmp .ne 110, 3) := by decide +kernel
theorem dL_law_1059 : decode code 1059 = .ok (.aload_n 1, 1) := by decide +kernel
theorem dL_law_1060 : decode code 1060 = .ok (.iconst 0, 1) := by decide +kernel
theorem dL_law_1061 : decode code 1061 = .ok (.bipush 61, 2) := by decide +kernel
theorem dL_law_1063 : decode code 1063 = .ok (.iconst 0, 1) := by decide +kernel
theorem dL_law_1064 : decode code 1064 = .ok (.invokevirtual 156, 3) := by decide +kernel
theorem dL_law_1067 : decode code 1067 = .ok (.iconst (-1), 1) := by decide +kernel
theorem dL_law_1068 : decode code 1068 = .ok (.if_icmp .ne 98, 3) := by decide +kernel
theorem dL_law_1071 : decode code 1071 = .ok (.aload_n 1, 1) := by decide +kernel
theorem dL_law_1072 : decode code 1072 = .ok (.iconst 0, 1) := by decide +kernel
theorem dL_law_1073 : decode code 1073 = .ok (.iconst 1, 1) := by decide +kernel
theorem dL_law_1074 : decode code 1074 = .ok (.bipush 100, 2) := by decide +kernel
theorem dL_law_1076 : decode code 1076 = .ok (.invokevirtual 156, 3) := by decide +kernel
theorem dL_law_1079 : decode code 1079 = .ok (.iconst (-1), 1) := by decide +kernel
theorem dL_law_1080 : decode code 1080 = .ok (.if_icmp .ne 86, 3) := by decide +kernel
theorem dL_law_1083 : decode code 1083 = .ok (.aload_n 1, 1) := by decide +kernel
theorem dL_law_1084 : decode code 1084 = .ok (.bipush 6, 2) := by decide +kernel
theorem dL_law_1086 : decode code 1086 = .ok (.iconst 0, 1) := by decide +kernel
theorem dL_law_1087 : decode code 1087 = .ok (.iconst 0, 1) := by decide +kernel
theorem dL_law_1088 : decode code 1088 = .ok (.invokevirtual 161, 3) := by decide +kernel
theorem dL_law_1091 : decode code 1091 = .ok (.ifCond .ne 75, 3) := by decide +kernel
theorem dL_law_1094 : decode code 1094 = .ok (.aload_n 1, 1) := by decide +kernel
theorem dL_law_1095 : decode code 1095 = .ok (.iconst (-1), 1) := by decide +kernel
theorem dL_law_1096 : decode code 1096 = .ok (.invokevirtual 201, 3) := by decide +kernel
theorem dL_law_1099 : decode code 1099 = .ok (.iconst (-1), 1) := by decide +kernel
theorem dL_law_1100 : decode code 1100 = .ok (.if_icmp .ne 66, 3) := by decide +kernel
theorem dL_law_1103 : decode code 1103 = .ok (.aload_n 1, 1) := by decide +kernel
theorem dL_law_1104 : decode code 1104 = .ok (.iconst (-1), 1) := by decide +kernel
theorem dL_law_1105 : decode code 1105 = .ok (.iconst 1, 1) := by decide +kernel
theorem dL_law_1106 : decode code 1106 = .ok (.invokevirtual 211, 3) := by decide +kernel
theorem dL_law_1109 : decode code 1109 = .ok (.ifCond .ne 57, 3) := by decide +kernel
theorem dL_law_1112 : decode code 1112 = .ok (.aload_n 1, 1) := by decide +kernel
theorem dL_law_1113 : decode code 1113 = .ok (.aload_n 2, 1) := by decide +kernel
theorem dL_law_1114 : decode code 1114 = .ok (.getfield 62, 3) := by decide +kernel
theorem dL_law_1117 : decode code 1117 = .ok (.iconst 1, 1) := by decide +kernel
theorem dL_law_1118 : decode code 1118 = .ok (.invokevirtual 215, 3) := by decide +kernel
theorem dL_law_1121 : decode code 1121 = .ok (.ifCond .ne 45, 3) := by decide +kernel
theorem dL_law_1124 : decode code 1124 = .ok (.aload_n 1, 1) := by decide +kernel
theorem dL_law_1125 : decode code 1125 = .ok (.iconst (-1), 1) := by decide +kernel
theorem dL_law_1126 : decode code 1126 = .ok (.iconst 0, 1) := by decide +kernel
theorem dL_law_1127 : decode code 1127 = .ok (.invokevirtual 219, 3) := by decide +kernel
theorem dL_law_1130 : decode code 1130 = .ok (.ifCond .ne 36, 3) := by decide +kernel
theorem dL_law_1133 : decode code 1133 = .ok (.aload_n 1, 1) := by decide +kernel
theorem dL_law_1134 : decode code 1134 = .ok (.iconst 0, 1) := by decide +kernel
theorem dL_law_1135 : decode code 1135 = .ok (.iconst 4, 1) := by decide +kernel
theorem dL_law_1136 : decode code 1136 = .ok (.invokevirtual 229, 3) := by decide +kernel
theorem dL_law_1139 : decode code 1139 = .ok (.iconst (-1), 1) := by decide +kernel
theorem dL_law_1140 : decode code 1140 = .ok (.if_icmp .ne 26, 3) := by decide +kernel
theorem dL_law_1143 : decode code 1143 = .ok (.aload_n 1, 1) := by decide +kernel
theorem dL_law_1144 : decode code 1144 = .ok (.bipush 17, 2) := by decide +kernel
theorem dL_law_1146 : decode code 1146 = .ok (.invokevirtual 226, 3) := by decide +kernel
theorem dL_law_1149 : decode code 1149 = .ok (.ldc 232, 2) := by decide +kernel
theorem dL_law_1151 : decode code 1151 = .ok (.if_icmp .ne 15, 3) := by decide +kernel
theorem dL_law_1154 : decode code 1154 = .ok (.aload_n 2, 1) := by decide +kernel
theorem dL_law_1155 : decode code 1155 = .ok (.aload_n 1, 1) := by decide +kernel
theorem dL_law_1156 : decode code 1156 = .ok (.invokevirtual 179, 3) := by decide +kernel
theorem dL_law_1159 : decode code 1159 = .ok (.ifCond .eq 7, 3) := by decide +kernel
theorem dL_law_1162 : decode code 1162 = .ok (.iconst 1, 1) := by decide +kernel
theorem dL_law_1163 : decode code 1163 = .ok (.goto 4, 3) := by decide +kernel
theorem dL_law_1166 : decode code 1166 = .ok (.iconst 0, 1) := by decide +kernel
theorem dL_law_1167 : decode code 1167 = .ok (.ireturn, 1) := by decide +kernel
