theorem dL_errors_12 : decode cL_errors 12 = .ok (.aload_n 0, 1) := by decide +kernel
theorem dL_errors_13 : decode cL_errors 13 = .ok (.iload_n 1, 1) := by decide +kernel
theorem dL_errors_14 : decode cL_errors 14 = .ok (.iconst 0, 1) := by decide +kernel
theorem dL_errors_15 : decode cL_errors 15 = .ok (.iconst 0, 1) := by decide +kernel
theorem dL_errors_16 : decode cL_errors 16 = .ok (.iconst 0, 1) := by decide +kernel
theorem dL_errors_17 : decode cL_errors 17 = .ok (.invokevirtual 87, 3) := by decide +kernel
theorem dL_errors_20 : decode cL_errors 20 = .ok (.iconst (-1), 1) := by decide +kernel
theorem dL_errors_21 : decode cL_errors 21 = .ok (.if_icmp .ne 142, 3) := by decide +kernel
theorem dL_errors_24 : decode cL_errors 24 = .ok (.aload_n 0, 1) := by decide +kernel
theorem dL_errors_25 : decode cL_errors 25 = .ok (.iconst 0, 1) := by decide +kernel
theorem dL_errors_26 : decode cL_errors 26 = .ok (.bipush 8, 2) := by decide +kernel
theorem dL_errors_28 : decode cL_errors 28 = .ok (.iconst 0, 1) := by decide +kernel
theorem dL_errors_29 : decode cL_errors 29 = .ok (.iconst 0, 1) := by decide +kernel
theorem dL_errors_30 : decode cL_errors 30 = .ok (.invokevirtual 87, 3) := by decide +kernel
theorem dL_errors_33 : decode cL_errors 33 = .ok (.bipush (-2), 2) := by decide +kernel
theorem dL_errors_35 : decode cL_errors 35 = .ok (.if_icmp .ne 128, 3) := by decide +kernel
theorem dL_errors_38 : decode cL_errors 38 = .ok (.aload_n 0, 1) := by decide +kernel
theorem dL_errors_39 : decode cL_errors 39 = .ok (.iconst 0, 1) := by decide +kernel
theorem dL_errors_40 : decode cL_errors 40 = .ok (.iconst 0, 1) := by decide +kernel
theorem dL_errors_41 : decode cL_errors 41 = .ok (.iconst (-1), 1) := by decide +kernel
theorem dL_errors_42 : decode cL_errors 42 = .ok (.iconst 0, 1) := by decide +kernel
theorem dL_errors_43 : decode cL_errors 43 = .ok (.invokevirtual 87, 3) := by decide +kernel
theorem dL_errors_46 : decode cL_errors 46 = .ok (.bipush (-2), 2) := by decide +kernel
theorem dL_errors_48 : decode cL_errors 48 = .ok (.if_icmp .ne 115, 3) := by decide +kernel
theorem dL_errors_51 : decode cL_errors 51 = .ok (.aload_n 0, 1) := by decide +kernel
theorem dL_errors_52 : decode cL_errors 52 = .ok (.iconst 0, 1) := by decide +kernel
theorem dL_errors_53 : decode cL_errors 53 = .ok (.iconst 0, 1) := by decide +kernel
theorem dL_errors_54 : decode cL_errors 54 = .ok (.iconst 0, 1) := by decide +kernel
theorem dL_errors_55 : decode cL_errors 55 = .ok (.iconst 4, 1) := by decide +kernel
theorem dL_errors_56 : decode cL_errors 56 = .ok (.invokevirtual 87, 3) := by decide +kernel
theorem dL_errors_59 : decode cL_errors 59 = .ok (.bipush (-2), 2) := by decide +kernel
theorem dL_errors_61 : decode cL_errors 61 = .ok (.if_icmp .ne 102, 3) := by decide +kernel
theorem dL_errors_64 : decode cL_errors 64 = .ok (.aload_n 0, 1) := by decide +kernel
theorem dL_errors_65 : decode cL_errors 65 = .ok (.iconst 4, 1) := by decide +kernel
theorem dL_errors_66 : decode cL_errors 66 = .ok (.iconst 1, 1) := by decide +kernel
theorem dL_errors_67 : decode cL_errors 67 = .ok (.iconst 0, 1) := by decide +kernel
theorem dL_errors_68 : decode cL_errors 68 = .ok (.invokevirtual 91, 3) := by decide +kernel
theorem dL_errors_71 : decode cL_errors 71 = .ok (.iconst (-1), 1) := by decide +kernel
theorem dL_errors_72 : decode cL_errors 72 = .ok (.if_icmp .ne 91, 3) := by decide +kernel
theorem dL_errors_75 : decode cL_errors 75 = .ok (.aload_n 0, 1) := by decide +kernel
theorem dL_errors_76 : decode cL_errors 76 = .ok (.iconst 0, 1) := by decide +kernel
theorem dL_errors_77 : decode cL_errors 77 = .ok (.iconst 0, 1) := by decide +kernel
theorem dL_errors_78 : decode cL_errors 78 = .ok (.iconst 0, 1) := by decide +kernel
theorem dL_errors_79 : decode cL_errors 79 = .ok (.invokevirtual 91, 3) := by decide +kernel
theorem dL_errors_82 : decode cL_errors 82 = .ok (.bipush (-2), 2) := by decide +kernel
theorem dL_errors_84 : decode cL_errors 84 = .ok (.if_icmp .ne 79, 3) := by decide +kernel
theorem dL_errors_87 : decode cL_errors 87 = .ok (.aload_n 0, 1) := by decide +kernel
theorem dL_errors_88 : decode cL_errors 88 = .ok (.iconst 0, 1) := by decide +kernel
theorem dL_errors_89 : decode cL_errors 89 = .ok (.iconst 1, 1) := by decide +kernel
theorem dL_errors_90 : decode cL_errors 90 = .ok (.bipush 64, 2) := by decide +kernel
theorem dL_errors_92 : decode cL_errors 92 = .ok (.invokevirtual 91, 3) := by decide +kernel
theorem dL_errors_95 : decode cL_errors 95 = .ok (.bipush (-2), 2) := by decide +kernel
theorem dL_errors_97 : decode cL_errors 97 = .ok (.if_icmp .ne 66, 3) := by decide +kernel
theorem dL_errors_100 : decode cL_errors 100 = .ok (.aload_n 0, 1) := by decide +kernel
theorem dL_errors_101 : decode cL_errors 101 = .ok (.iload_n 1, 1) := by decide +kernel
theorem dL_errors_102 : decode cL_errors 102 = .ok (.iconst 0, 1) := by decide +kernel
theorem dL_errors_103 : decode cL_errors 103 = .ok (.iconst 0, 1) := by decide +kernel
theorem dL_errors_104 : decode cL_errors 104 = .ok (.invokevirtual 94, 3) := by decide +kernel
theorem dL_errors_107 : decode cL_errors 107 = .ok (.iconst (-1), 1) := by decide +kernel
theorem dL_errors_108 : decode cL_errors 108 = .ok (.if_icmp .ne 55, 3) := by decide +kernel
theorem dL_errors_111 : decode cL_errors 111 = .ok (.aload_n 0, 1) := by decide +kernel
theorem dL_errors_112 : decode cL_errors 112 = .ok (.iconst 0, 1) := by decide +kernel
theorem dL_errors_113 : decode cL_errors 113 = .ok (.bipush 32, 2) := by decide +kernel
theorem dL_errors_115 : decode cL_errors 115 = .ok (.iconst 0, 1) := by decide +kernel
theorem dL_errors_116 : decode cL_errors 116 = .ok (.invokevirtual 94, 3) := by decide +kernel
theorem dL_errors_119 : decode cL_errors 119 = .ok (.bipush (-2), 2) := by decide +kernel
theorem dL_errors_121 : decode cL_errors 121 = .ok (.if_icmp .ne 42, 3) := by decide +kernel
theorem dL_errors_124 : decode cL_errors 124 = .ok (.aload_n 0, 1) := by decide +kernel
theorem dL_errors_125 : decode cL_errors 125 = .ok (.iconst 0, 1) := by decide +kernel
theorem dL_errors_126 : decode cL_errors 126 = .ok (.iconst 0, 1) := by decide +kernel
theorem dL_errors_127 : decode cL_errors 127 = .ok (.bipush (-8), 2) := by decide +kernel
theorem dL_errors_129 : decode cL_errors 129 = .ok (.invokevirtual 94, 3) := by decide +kernel
theorem dL_errors_132 : decode cL_errors 132 = .ok (.bipush (-2), 2) := by decide +kernel
theorem dL_errors_134 : decode cL_errors 134 = .ok (.if_icmp .ne 29, 3) := by decide +kernel
theorem dL_errors_137 : decode cL_errors 137 = .ok (.aload_n 0, 1) := by decide +kernel
theorem dL_errors_138 : decode cL_errors 138 = .ok (.iload_n 2, 1) := by decide +kernel
theorem dL_errors_139 : decode cL_errors 139 = .ok (.iconst 0, 1) := by decide +kernel
theorem dL_errors_140 : decode cL_errors 140 = .ok (.iconst 0, 1) := by decide +kernel
theorem dL_errors_141 : decode cL_errors 141 = .ok (.invokevirtual 97, 3) := by decide +kernel
theorem dL_errors_144 : decode cL_errors 144 = .ok (.iconst (-1), 1) := by decide +kernel
theorem dL_errors_145 : decode cL_errors 145 = .ok (.if_icmp .ne 18, 3) := by decide +kernel
theorem dL_errors_148 : decode cL_errors 148 = .ok (.aload_n 0, 1) := by decide +kernel
theorem dL_errors_149 : decode cL_errors 149 = .ok (.iload_n 2, 1) := by decide +kernel
theorem dL_errors_150 : decode cL_errors 150 = .ok (.iconst 0, 1) := by decide +kernel
theorem dL_errors_151 : decode cL_errors 151 = .ok (.iconst 0, 1) := by decide +kernel
theorem dL_errors_152 : decode cL_errors 152 = .ok (.invokevirtual 100, 3) := by decide +kernel
theorem dL_errors_155 : decode cL_errors 155 = .ok (.iconst (-1), 1) := by decide +kernel
theorem dL_errors_156 : decode cL_errors 156 = .ok (.if_icmp .ne 7, 3) := by decide +kernel
theorem dL_errors_159 : decode cL_errors 159 = .ok (.iconst 1, 1) := by decide +kernel
theorem dL_errors_160 : decode cL_errors 160 = .ok (.goto 4, 3) := by decide +kernel
theorem dL_errors_163 : decode cL_errors 163 = .ok (.iconst 0, 1) := by decide +kernel
theorem dL_errors_164 : decode cL_errors 164 = .ok (.istore_n 3, 1) := by decide +kernel
theorem dL_errors_165 : decode cL_errors 165 = .ok (.iload_n 3, 1) := by decide +kernel
theorem dL_errors_166 : decode cL_errors 166 = .ok (.ifCond .eq 192, 3) := by decide +kernel
theorem dL_errors_169 : decode cL_errors 169 = .ok (.aload_n 0, 1) := by decide +kernel
theorem dL_errors_170 : decode cL_errors 170 = .ok (.bipush 32, 2) := by decide +kernel
theorem dL_errors_172 : decode cL_errors 172 = .ok (.iconst 0, 1) := by decide +kernel
theorem dL_errors_173 : decode cL_errors 173 = .ok (.iconst 0, 1) := by decide +kernel
theorem dL_errors_174 : decode cL_errors 174 = .ok (.iconst 0, 1) := by decide +kernel
theorem dL_errors_175 : decode cL_errors 175 = .ok (.invokevirtual 103, 3) := by decide +kernel
theorem dL_errors_178 : decode cL_errors 178 = .ok (.iconst (-1), 1) := by decide +kernel
theorem dL_errors_179 : decode cL_errors 179 = .ok (.if_icmp .ne 179, 3) := by decide +kernel
theorem dL_errors_182 : decode cL_errors 182 = .ok (.aload_n 0, 1) := by decide +kernel
theorem dL_errors_183 : decode cL_errors 183 = .ok (.iconst 0, 1) := by decide +kernel
theorem dL_errors_184 : decode cL_errors 184 = .ok (.iconst 0, 1) := by decide +kernel
theorem dL_errors_185 : decode cL_errors 185 = .ok (.iconst 4, 1) := by decide +kernel
theorem dL_errors_186 : decode cL_errors 186 = .ok (.iconst 0, 1) := by decide +kernel
theorem dL_errors_187 : decode cL_errors 187 = .ok (.invokevirtual 103, 3) := by decide +kernel
theorem dL_errors_190 : decode cL_errors 190 = .ok (.iconst (-1), 1) := by decide +kernel
theorem dL_errors_191 : decode cL_errors 191 = .ok (.if_icmp .ne 167, 3) := by decide +kernel
theorem dL_errors_194 : decode cL_errors 194 = .ok (.aload_n 0, 1) := by decide +kernel
theorem dL_errors_195 : decode cL_errors 195 = .ok (.iconst 5, 1) := by decide +kernel
theorem dL_errors_196 : decode cL_errors 196 = .ok (.iconst 4, 1) := by decide +kernel
theorem dL_errors_197 : decode cL_errors 197 = .ok (.iconst 0, 1) := by decide +kernel
theorem dL_errors_198 : decode cL_errors 198 = .ok (.iconst 1, 1) := by decide +kernel
theorem dL_errors_199 : decode cL_errors 199 = .ok (.invokevirtual 103, 3) := by decide +kernel
theorem dL_errors_202 : decode cL_errors 202 = .ok (.bipush (-2), 2) := by decide +kernel
theorem dL_errors_204 : decode cL_errors 204 = .ok (.if_icmp .ne 154, 3) := by decide +kernel
theorem dL_errors_207 : decode cL_errors 207 = .ok (.aload_n 0, 1) := by decide +kernel
theorem dL_errors_208 : decode cL_errors 208 = .ok (.iconst 0, 1) := by decide +kernel
theorem dL_errors_209 : decode cL_errors 209 = .ok (.invokevirtual 106, 3) := by decide +kernel
theorem dL_errors_212 : decode cL_errors 212 = .ok (.bipush (-2), 2) := by decide +kernel
theorem dL_errors_214 : decode cL_errors 214 = .ok (.if_icmp .ne 144, 3) := by decide +kernel
theorem dL_errors_217 : decode cL_errors 217 = .ok (.aload_n 0, 1) := by decide +kernel
theorem dL_errors_218 : decode cL_errors 218 = .ok (.bipush 21, 2) := by decide +kernel
theorem dL_errors_220 : decode cL_errors 220 = .ok (.invokevirtual 106, 3) := by decide +kernel
theorem dL_errors_223 : decode cL_errors 223 = .ok (.bipush (-2), 2) := by decide +kernel
theorem dL_errors_225 : decode cL_errors 225 = .ok (.if_icmp .ne 133, 3) := by decide +kernel
theorem dL_errors_228 : decode cL_errors 228 = .ok (.aload_n 0, 1) := by decide +kernel
theorem dL_errors_229 : decode cL_errors 229 = .ok (.bipush 20, 2) := by decide +kernel
theorem dL_errors_231 : decode cL_errors 231 = .ok (.invokevirtual 109, 3) := by decide +kernel
theorem dL_errors_234 : decode cL_errors 234 = .ok (.bipush (-2), 2) := by decide +kernel
theorem dL_errors_236 : decode cL_errors 236 = .ok (.if_icmp .ne 122, 3) := by decide +kernel
theorem dL_errors_239 : decode cL_errors 239 = .ok (.aload_n 0, 1) := by decide +kernel
theorem dL_errors_240 : decode cL_errors 240 = .ok (.iconst 0, 1) := by decide +kernel
theorem dL_errors_241 : decode cL_errors 241 = .ok (.invokevirtual 112, 3) := by decide +kernel
theorem dL_errors_244 : decode cL_errors 244 = .ok (.bipush (-2), 2) := by decide +kernel
theorem dL_errors_246 : decode cL_errors 246 = .ok (.if_icmp .ne 112, 3) := by decide +kernel
theorem dL_errors_249 : decode cL_errors 249 = .ok (.aload_n 0, 1) := by decide +kernel
theorem dL_errors_250 : decode cL_errors 250 = .ok (.ldc 115, 2) := by decide +kernel
theorem dL_errors_252 : decode cL_errors 252 = .ok (.invokevirtual 112, 3) := by decide +kernel
theorem dL_errors_255 : decode cL_errors 255 = .ok (.bipush (-2), 2) := by decide +kernel
theorem dL_errors_257 : decode cL_errors 257 = .ok (.if_icmp .ne 101, 3) := by decide +kernel
theorem dL_errors_260 : decode cL_errors 260 = .ok (.aload_n 0, 1) := by decide +kernel
theorem dL_errors_261 : decode cL_errors 261 = .ok (.iload_n 1, 1) := by decide +kernel
theorem dL_errors_262 : decode cL_errors 262 = .ok (.iconst 0, 1) := by decide +kernel
theorem dL_errors_263 : decode cL_errors 263 = .ok (.iconst 0, 1) := by decide +kernel
theorem dL_errors_264 : decode cL_errors 264 = .ok (.invokevirtual 9, 3) := by decide +kernel
theorem dL_errors_267 : decode cL_errors 267 = .ok (.iconst (-1), 1) := by decide +kernel
theorem dL_errors_268 : decode cL_errors 268 = .ok (.if_icmp .ne 90, 3) := by decide +kernel
theorem dL_errors_271 : decode cL_errors 271 = .ok (.aload_n 0, 1) := by decide +kernel
theorem dL_errors_272 : decode cL_errors 272 = .ok (.iconst 0, 1) := by decide +kernel
theorem dL_errors_273 : decode cL_errors 273 = .ok (.bipush 8, 2) := by decide +kernel
theorem dL_errors_275 : decode cL_errors 275 = .ok (.iconst 0, 1) := by decide +kernel
theorem dL_errors_276 : decode cL_errors 276 = .ok (.invokevirtual 9, 3) := by decide +kernel
theorem dL_errors_279 : decode cL_errors 279 = .ok (.bipush (-2), 2) := by decide +kernel
theorem dL_errors_281 : decode cL_errors 281 = .ok (.if_icmp .ne 77, 3) := by decide +kernel
theorem dL_errors_284 : decode cL_errors 284 = .ok (.aload_n 0, 1) := by decide +kernel
theorem dL_errors_285 : decode cL_errors 285 = .ok (.iconst 0, 1) := by decide +kernel
theorem dL_errors_286 : decode cL_errors 286 = .ok (.iload_n 1, 1) := by decide +kernel
theorem dL_errors_287 : decode cL_errors 287 = .ok (.invokevirtual 15, 3) := by decide +kernel
theorem dL_errors_290 : decode cL_errors 290 = .ok (.iconst (-1), 1) := by decide +kernel
theorem dL_errors_291 : decode cL_errors 291 = .ok (.if_icmp .ne 67, 3) := by decide +kernel
theorem dL_errors_294 : decode cL_errors 294 = .ok (.aload_n 0, 1) := by decide +kernel
theorem dL_errors_295 : decode cL_errors 295 = .ok (.iconst 0, 1) := by decide +kernel
theorem dL_errors_296 : decode cL_errors 296 = .ok (.iload_n 2, 1) := by decide +kernel
theorem dL_errors_297 : decode cL_errors 297 = .ok (.invokevirtual 59, 3) := by decide +kernel
theorem dL_errors_300 : decode cL_errors 300 = .ok (.iconst (-1), 1) := by decide +kernel
theorem dL_errors_301 : decode cL_errors 301 = .ok (.if_icmp .ne 57, 3) := by decide +kernel
theorem dL_errors_304 : decode cL_errors 304 = .ok (.aload_n 0, 1) := by decide +kernel
theorem dL_errors_305 : decode cL_errors 305 = .ok (.bipush 32, 2) := by decide +kernel
theorem dL_errors_307 : decode cL_errors 307 = .ok (.iconst 0, 1) := by decide +kernel
theorem dL_errors_308 : decode cL_errors 308 = .ok (.invokevirtual 42, 3) := by decide +kernel
theorem dL_errors_311 : decode cL_errors 311 = .ok (.iconst (-1), 1) := by decide +kernel
theorem dL_errors_312 : decode cL_errors 312 = .ok (.if_icmp .ne 46, 3) := by decide +kernel
theorem dL_errors_315 : decode cL_errors 315 = .ok (.aload_n 0, 1) := by decide +kernel
theorem dL_errors_316 : decode cL_errors 316 = .ok (.iconst (-1), 1) := by decide +kernel
theorem dL_errors_317 : decode cL_errors 317 = .ok (.iconst 0, 1) := by decide +kernel
theorem dL_errors_318 : decode cL_errors 318 = .ok (.invokevirtual 36, 3) := by decide +kernel
theorem dL_errors_321 : decode cL_errors 321 = .ok (.iconst (-1), 1) := by decide +kernel
theorem dL_errors_322 : decode cL_errors 322 = .ok (.if_icmp .ne 36, 3) := by decide +kernel
theorem dL_errors_325 : decode cL_errors 325 = .ok (.aload_n 0, 1) := by decide +kernel
theorem dL_errors_326 : decode cL_errors 326 = .ok (.bipush 32, 2) := by decide +kernel
theorem dL_errors_328 : decode cL_errors 328 = .ok (.iconst 0, 1) := by decide +kernel
theorem dL_errors_329 : decode cL_errors 329 = .ok (.invokevirtual 39, 3) := by decide +kernel
theorem dL_errors_332 : decode cL_errors 332 = .ok (.iconst (-1), 1) := by decide +kernel
theorem dL_errors_333 : decode cL_errors 333 = .ok (.if_icmp .ne 25, 3) := by decide +kernel
theorem dL_errors_336 : decode cL_errors 336 = .ok (.aload_n 0, 1) := by decide +kernel
theorem dL_errors_337 : decode cL_errors 337 = .ok (.iconst 2, 1) := by decide +kernel
theorem dL_errors_338 : decode cL_errors 338 = .ok (.invokevirtual 116, 3) := by decide +kernel
theorem dL_errors_341 : decode cL_errors 341 = .ok (.iconst (-1), 1) := by decide +kernel
theorem dL_errors_342 : decode cL_errors 342 = .ok (.if_icmp .ne 16, 3) := by decide +kernel
theorem dL_errors_345 : decode cL_errors 345 = .ok (.aload_n 0, 1) := by decide +kernel
theorem dL_errors_346 : decode cL_errors 346 = .ok (.iconst 2, 1) := by decide +kernel
theorem dL_errors_347 : decode cL_errors 347 = .ok (.invokevirtual 119, 3) := by decide +kernel
theorem dL_errors_350 : decode cL_errors 350 = .ok (.iconst (-1), 1) := by decide +kernel
theorem dL_errors_351 : decode cL_errors 351 = .ok (.if_icmp .ne 7, 3) := by decide +kernel
theorem dL_errors_354 : decode cL_errors 354 = .ok (.iconst 1, 1) := by decide +kernel
theorem dL_errors_355 : decode cL_errors 355 = .ok (.goto 4, 3) := by decide +kernel
theorem dL_errors_358 : decode cL_errors 358 = .ok (.iconst 0, 1) := by decide +kernel
theorem dL_errors_359 : decode cL_errors 359 = .ok (.ireturn, 1) := by decide +kernel
set_option maxRecDepth 20000 in
theorem ggL_law_X6_init : GoodIn wsL_law wsX6_init := goodIn_r _ [6, 7, 8, 9, 10, 11, 12, 13, 14, 15, 16, 17, 18, 19, 20, 21, 22, 23, 24, 25, 26, 27, 28, 29, 30, 31, 32, 33, 34, 35, 36, 37, 38, 39, 3, 40, 41, 42, 43, 44, 45, 46, 47, 48, 49, 50, 51, 52, 53, 54, 55, 56, 57, 58, 59, 60, 61, 62, 63, 64, 65, 66, 67, 68, 69, 70, 71, 72, 73, 74, 75, 76, 77, 78, 623, 624, 625, 626, 627, 628, 629, 630, 631, 617, 618, 619, 620, 621, 622, 632, 633, 634, 635, 636, 637, 638, 639, 640, 641, 642, 643, 644, 645, 646, 647, 648, 649, 650, 651, 652, 653, 654] (by decide +kernel) (by decide +kernel)
set_option maxRecDepth 20000 in
theorem gL_law_X6_init : GoodIn wsL_law (wsX6_init) := ggL_law_X6_init
set_option maxRecDepth 20000 in
theorem ggL_law_X6_addPart : GoodIn wsL_law wsX6_addPart := goodIn_r _ [82, 13, 83, 84, 29, 85, 86, 87, 28, 88, 89, 90, 91, 92, 93, 94, 77, 95, 96, 97, 98, 99, 100, 101, 12, 102, 103, 35, 104, 105, 39, 40, 106, 107, 108, 109, 41, 42, 43, 110, 111, 112, 38, 113, 114, 48, 115, 49, 116, 117, 118, 119, 120, 121, 122, 123, 617, 618, 619, 620, 621, 622, 623, 624, 625, 626, 627, 628, 629, 630, 631, 652, 653, 654, 649, 650, 651] (by decide +kernel) (by decide +kernel)
set_option maxRecDepth 20000 in
theorem gL_law_X6_addPart : GoodIn wsL_law (wsV RL 123 RX6 yX6_addPart wsX6_addPart) := goodIn_app (goodIn_of _ (by decide +kernel)) ggL_law_X6_addPart
set_option maxRecDepth 20000 in
theorem ggL_law_X6_addSprite : GoodIn wsL_law wsX6_addSprite := goodIn_r _ [127, 13, 128, 29, 129, 130, 131, 2, 132, 83, 84, 133, 134, 135, 85, 86, 87, 28, 88, 89, 90, 91, 92, 93, 94, 77, 95, 96, 97, 98, 99, 100, 101, 12, 102, 103, 35, 104, 105, 39, 40, 106, 107, 108, 109, 41, 42, 43, 110, 111, 112, 38, 113, 114, 48, 115, 49, 136, 137, 138, 139, 617, 618, 619, 620, 621, 622, 623, 624, 625, 626, 627, 628, 629, 630, 631, 652, 653, 654, 649, 650, 651] (by decide +kernel) (by decide +kernel)
set_option maxRecDepth 20000 in
theorem gL_law_X6_addSprite : GoodIn wsL_law (wsV RL 94 RX6 yX6_addSprite wsX6_addSprite) := goodIn_app (goodIn_of _ (by decide +kernel)) ggL_law_X6_addSprite
set_option maxRecDepth 20000 in
theorem ggL_law_L_cell : GoodIn wsL_law wsL_cell := goodIn_r _ [143, 144] (by decide +kernel) (by decide +kernel)
set_option maxRecDepth 20000 in
theorem gL_law_L_cell : GoodIn wsL_law (va_wsS RL 126 yL_cell wsL_cell) := goodIn_app (goodIn_of _ (by decide +kernel)) ggL_law_L_cell
set_option maxRecDepth 20000 in
theorem ggL_law_L_low : GoodIn wsL_law wsL_low := goodIn_r _ [147, 148] (by decide +kernel) (by decide +kernel)
set_option maxRecDepth 20000 in
theorem gL_law_L_low : GoodIn wsL_law (va_wsS RL 74 yL_low wsL_low) := goodIn_app (goodIn_of _ (by decide +kernel)) ggL_law_L_low
set_option maxRecDepth 20000 in
theorem ggL_law_X6_count : GoodIn wsL_law wsX6_count := goodIn_r _ [152, 13, 83, 84, 128, 17, 153, 154, 155, 29, 156, 25, 157, 158, 159, 160, 12, 161, 105, 162, 163, 164, 165, 40, 166, 167, 168, 16, 169, 57, 170, 171, 172, 173, 174, 175, 176, 177, 178, 179, 180, 181, 182, 183, 184, 185, 186, 187, 188, 189, 190, 191, 192, 193, 194, 195, 196, 197, 198, 199, 42, 200, 201, 202, 203, 43, 204, 205, 206, 207, 56, 208, 209, 210, 211, 212, 55, 213, 214, 215, 216, 54, 217, 218, 219, 220, 221, 222, 223, 224, 225, 2, 226, 227, 228, 229, 230, 231, 232, 233, 234, 235, 38, 236, 237, 238, 239, 240, 241, 48, 242, 243, 244, 245, 49, 246, 247, 248, 249, 250, 251, 252, 253, 254, 255, 256, 257, 258, 259, 260, 261, 262, 263, 264, 265, 266, 267, 268, 269, 270, 271, 272, 39, 273, 274, 275, 276, 277, 278, 279, 280, 281, 282, 283, 284, 285, 286, 287, 288, 289, 290, 291, 292, 293, 294, 295, 296, 297, 617, 618, 619, 620, 621, 622, 623, 624, 625, 626, 627, 628, 629, 630, 631, 652, 653, 654, 649, 650, 651, 640, 641, 642, 643, 644, 645, 646, 647, 648, 632, 633, 634, 635] (by decide +kernel) (by decide +kernel)
set_option maxRecDepth 20000 in
theorem gL_law_X6_count : GoodIn wsL_law (wsV RL 28 RX6 yX6_count wsX6_count) := goodIn_app (goodIn_of _ (by decide +kernel)) ggL_law_X6_count
set_option maxRecDepth 20000 in
theorem ggL_law_X6_pixel : GoodIn wsL_law wsX6_pixel := goodIn_r _ [301, 13, 83, 129, 130, 131, 2, 132, 84, 302, 303, 304, 305, 306, 307, 38, 308, 238, 239, 240, 241, 48, 242, 243, 244, 245, 49, 617, 618, 619, 620, 621, 622, 623, 624, 625, 626, 627, 628, 629, 630, 631, 652, 653, 654] (by decide +kernel) (by decide +kernel)
set_option maxRecDepth 20000 in
theorem gL_law_X6_pixel : GoodIn wsL_law (wsV RL 9 RX6 yX6_pixel wsX6_pixel) := goodIn_app (goodIn_of _ (by decide +kernel)) ggL_law_X6_pixel
set_option maxRecDepth 20000 in
theorem ggL_law_X6_setPixel : GoodIn wsL_law wsX6_setPixel := goodIn_r _ [312, 29, 13, 83, 129, 130, 131, 2, 132, 84, 302, 303, 304, 85, 86, 87, 28, 88, 89, 90, 91, 92, 93, 94, 77, 95, 96, 97, 98, 99, 100, 101, 12, 102, 103, 35, 104, 105, 39, 40, 106, 107, 108, 109, 41, 42, 43, 110, 111, 112, 38, 113, 114, 48, 115, 49, 305, 306, 307, 308, 238, 239, 240, 241, 242, 243, 244, 245, 313, 314, 315, 316, 317, 120, 121, 122, 123, 617, 618, 619, 620, 621, 622, 623, 624, 625, 626, 627, 628, 629, 630, 631, 652, 653, 654, 649, 650, 651] (by decide +kernel) (by decide +kernel)
set_option maxRecDepth 20000 in
theorem gL_law_X6_setPixel : GoodIn wsL_law (wsV RL 87 RX6 yX6_setPixel wsX6_setPixel) := goodIn_app (goodIn_of _ (by decide +kernel)) ggL_law_X6_setPixel
set_option maxRecDepth 20000 in
theorem ggL_law_L_draws : GoodIn wsL_law wsL_draws := goodIn_r _ [320, 3, 145, 146, 142, 147, 148, 321, 322, 323, 2, 324, 25, 157, 325, 326, 327, 328, 29, 13, 329, 83, 330, 331, 129, 130, 131, 132, 84, 332, 333, 334, 24, 335, 336, 337, 338, 339, 340, 341, 342, 71, 343, 344, 345, 346, 347, 348, 349, 350, 351, 352, 353, 354, 355, 356, 357, 358, 359, 360, 361, 362, 363, 85, 86, 87, 28, 88, 89, 90, 91, 92, 93, 94, 77, 95, 96, 97, 98, 99, 100, 101, 12, 102, 103, 35, 104, 105, 39, 40, 106, 107, 108, 109, 41, 42, 43, 110, 111, 112, 38, 113, 114, 48, 115, 49, 364, 365, 366, 367, 317, 238, 239, 240, 241, 242, 243, 244, 245, 120, 121, 122, 123, 149, 150, 151, 152, 128, 17, 153, 154, 155, 156, 158, 159, 160, 161, 162, 163, 164, 165, 166, 167, 168, 16, 169, 57, 170, 171, 172, 173, 174, 175, 176, 177, 178, 179, 180, 181, 182, 183, 184, 185, 186, 187, 188, 189, 190, 191, 192, 193, 194, 195, 196, 197, 198, 199, 200, 201, 202, 203, 204, 205, 206, 207, 56, 208, 209, 210, 211, 212, 55, 213, 214, 215, 216, 54, 217, 218, 219, 220, 221, 222, 223, 224, 225, 226, 227, 228, 229, 230, 231, 232, 233, 234, 235, 236, 237, 246, 247, 248, 249, 250, 251, 252, 253, 254, 255, 256, 257, 258, 259, 260, 261, 262, 263, 264, 265, 266, 267, 268, 269, 270, 271, 272, 273, 274, 275, 276, 277, 278, 279, 280, 281, 282, 283, 284, 285, 286, 287, 288, 289, 290, 291, 292, 293, 294, 295, 296, 297, 368, 369, 370, 371, 372, 373, 374, 375, 298, 299, 300, 301, 302, 303, 304, 305, 306, 307, 308, 617, 618, 619, 620, 621, 622, 640, 641, 642, 643, 644, 645, 646, 647, 648, 623, 624, 625, 626, 627, 628, 629, 630, 631, 652, 653, 654, 649, 650, 651, 632, 633, 634, 635] (by decide +kernel) (by decide +kernel)
set_option maxRecDepth 20000 in
theorem gL_law_L_draws : GoodIn wsL_law (va_wsS RL 130 yL_draws wsL_draws) := goodIn_app (goodIn_of _ (by decide +kernel)) ggL_law_L_draws
set_option maxRecDepth 20000 in
theorem ggL_law_X6_sprite : GoodIn wsL_law wsX6_sprite := goodIn_r _ [379, 13, 17, 380, 381, 382, 2, 383, 128, 384, 163, 164, 12, 165, 40, 385, 386, 387, 16, 388, 57, 212, 176, 177, 178, 179, 162, 213, 214, 215, 216, 54, 217, 218, 219, 220, 175, 170, 221, 222, 186, 223, 224, 225, 226, 389, 390, 391, 392, 393, 394, 185, 187, 395, 396, 397, 398, 56, 208, 209, 210, 211, 55, 227, 228, 229, 230, 231, 232, 233, 234, 235, 38, 236, 237, 238, 239, 240, 241, 48, 242, 243, 244, 245, 49, 246, 247, 248, 249, 250, 251, 252, 253, 254, 255, 256, 257, 258, 259, 260, 261, 399, 263, 264, 265, 266, 267, 268, 617, 618, 619, 620, 621, 622, 623, 624, 625, 626, 627, 628, 629, 630, 631, 632, 633, 634, 635, 652, 653, 654] (by decide +kernel) (by decide +kernel)
set_option maxRecDepth 20000 in
theorem gL_law_X6_sprite : GoodIn wsL_law (wsV RL 25 RX6 yX6_sprite wsX6_sprite) := goodIn_app (goodIn_of _ (by decide +kernel)) ggL_law_X6_sprite
set_option maxRecDepth 20000 in
theorem ggL_law_X6_set : GoodIn wsL_law wsX6_set := goodIn_r _ [403, 29, 13, 380, 381, 382, 2, 383, 128, 404, 405, 406, 407, 83, 84, 85, 86, 87, 28, 88, 89, 90, 91, 92, 93, 94, 77, 95, 96, 97, 98, 99, 100, 101, 12, 102, 103, 35, 104, 105, 39, 40, 106, 107, 108, 109, 41, 42, 43, 110, 111, 112, 38, 113, 114, 48, 115, 49, 384, 163, 164, 165, 136, 137, 138, 139, 617, 618, 619, 620, 621, 622, 623, 624, 625, 626, 627, 628, 629, 630, 631, 652, 653, 654, 649, 650, 651] (by decide +kernel) (by decide +kernel)
set_option maxRecDepth 20000 in
theorem gL_law_X6_set : GoodIn wsL_law (wsV RL 100 RX6 yX6_set wsX6_set) := goodIn_app (goodIn_of _ (by decide +kernel)) ggL_law_X6_set
set_option maxRecDepth 20000 in
theorem ggL_law_X6_move : GoodIn wsL_law wsX6_move := goodIn_r _ [411, 29, 13, 380, 381, 382, 2, 383, 128, 133, 134, 135, 85, 86, 87, 28, 88, 89, 90, 91, 92, 93, 94, 77, 95, 96, 97, 98, 99, 100, 101, 12, 102, 103, 35, 104, 105, 39, 40, 106, 107, 108, 109, 41, 42, 43, 110, 111, 112, 38, 113, 114, 48, 115, 49, 136, 137, 138, 139, 389, 390, 391, 392, 393, 222, 186, 223, 394, 185, 187, 162, 163, 164, 165, 617, 618, 619, 620, 621, 622, 623, 624, 625, 626, 627, 628, 629, 630, 631, 649, 650, 651, 652, 653, 654] (by decide +kernel) (by decide +kernel)
set_option maxRecDepth 20000 in
theorem gL_law_X6_move : GoodIn wsL_law (wsV RL 97 RX6 yX6_move wsX6_move) := goodIn_app (goodIn_of _ (by decide +kernel)) ggL_law_X6_move
set_option maxRecDepth 20000 in
theorem ggL_law_X6_swap : GoodIn wsL_law wsX6_swap := goodIn_r _ [415, 29, 13, 416, 417, 2, 418, 419, 420, 421, 85, 86, 87, 28, 88, 89, 90, 91, 92, 93, 94, 77, 95, 96, 97, 98, 99, 100, 101, 12, 102, 103, 35, 104, 105, 39, 40, 106, 107, 108, 109, 41, 42, 43, 110, 111, 112, 38, 113, 114, 48, 115, 49, 422, 423, 424, 425, 393, 222, 186, 223, 394, 185, 187, 188, 189, 190, 191, 192, 193, 194, 195, 196, 197, 198, 199, 200, 201, 202, 203, 617, 618, 619, 620, 621, 622, 649, 650, 651, 623, 624, 625, 626, 627, 628, 629, 630, 631, 652, 653, 654] (by decide +kernel) (by decide +kernel)
set_option maxRecDepth 20000 in
theorem gL_law_X6_swap : GoodIn wsL_law (wsV RL 103 RX6 yX6_swap wsX6_swap) := goodIn_app (goodIn_of _ (by decide +kernel)) ggL_law_X6_swap
set_option maxRecDepth 20000 in
theorem ggL_law_X6_line : GoodIn wsL_law wsX6_line := goodIn_r _ [429, 17, 13, 153, 416, 417, 2, 418, 430, 172, 173, 16, 174, 57, 175, 176, 177, 178, 12, 179, 162, 163, 164, 165, 40, 431, 218, 219, 220, 170, 54, 221, 222, 186, 223, 224, 432, 433, 434, 435, 212, 213, 214, 215, 216, 217, 436, 437, 438, 439, 225, 226, 440, 441, 442, 443, 231, 232, 303, 304, 444, 306, 307, 38, 308, 238, 239, 240, 241, 48, 242, 243, 244, 245, 49, 445, 446, 447, 448, 196, 197, 198, 199, 42, 200, 201, 202, 203, 43, 449, 450, 451, 452, 41, 453, 193, 194, 195, 454, 455, 617, 618, 619, 620, 621, 622, 623, 624, 625, 626, 627, 628, 629, 630, 631, 632, 633, 634, 635, 652, 653, 654] (by decide +kernel) (by decide +kernel)
set_option maxRecDepth 20000 in
theorem gL_law_X6_line : GoodIn wsL_law (wsV RL 42 RX6 yX6_line wsX6_line) := goodIn_app (goodIn_of _ (by decide +kernel)) ggL_law_X6_line
set_option maxRecDepth 20000 in
theorem ggL_law_X6_setLimit : GoodIn wsL_law wsX6_setLimit := goodIn_r _ [459, 29, 13, 154, 85, 86, 87, 28, 88, 89, 90, 91, 92, 93, 94, 77, 95, 96, 97, 98, 99, 100, 101, 12, 102, 103, 35, 104, 105, 39, 40, 106, 107, 108, 109, 41, 42, 43, 110, 111, 112, 38, 113, 114, 48, 115, 49, 617, 618, 619, 620, 621, 622, 623, 624, 625, 626, 627, 628, 629, 630, 631, 649, 650, 651, 652, 653, 654] (by decide +kernel) (by decide +kernel)
set_option maxRecDepth 20000 in
theorem gL_law_X6_setLimit : GoodIn wsL_law (wsV RL 106 RX6 yX6_setLimit wsX6_setLimit) := goodIn_app (goodIn_of _ (by decide +kernel)) ggL_law_X6_setLimit
set_option maxRecDepth 20000 in
theorem ggL_law_X6_setStride : GoodIn wsL_law wsX6_setStride := goodIn_r _ [463, 29, 13, 155, 85, 86, 87, 28, 88, 89, 90, 91, 92, 93, 94, 77, 95, 96, 97, 98, 99, 100, 101, 12, 102, 103, 35, 104, 105, 39, 40, 106, 107, 108, 109, 41, 42, 43, 110, 111, 112, 38, 113, 114, 48, 115, 49, 617, 618, 619, 620, 621, 622, 623, 624, 625, 626, 627, 628, 629, 630, 631, 649, 650, 651, 652, 653, 654] (by decide +kernel) (by decide +kernel)
set_option maxRecDepth 20000 in
theorem gL_law_X6_setStride : GoodIn wsL_law (wsV RL 109 RX6 yX6_setStride wsX6_setStride) := goodIn_app (goodIn_of _ (by decide +kernel)) ggL_law_X6_setStride
set_option maxRecDepth 20000 in
theorem ggL_law_X6_next : GoodIn wsL_law wsX6_next := goodIn_r _ [467, 468, 13, 153, 469, 29, 85, 86, 87, 28, 88, 89, 90, 91, 92, 93, 94, 77, 95, 96, 97, 98, 99, 100, 101, 12, 102, 103, 35, 104, 105, 39, 40, 106, 107, 108, 109, 41, 42, 43, 110, 111, 112, 38, 113, 114, 48, 115, 49, 617, 618, 619, 620, 621, 622, 623, 624, 625, 626, 627, 628, 629, 630, 631, 649, 650, 651, 652, 653, 654] (by decide +kernel) (by decide +kernel)
set_option maxRecDepth 20000 in
theorem gL_law_X6_next : GoodIn wsL_law (wsV RL 112 RX6 yX6_next wsX6_next) := goodIn_app (goodIn_of _ (by decide +kernel)) ggL_law_X6_next
set_option maxRecDepth 20000 in
theorem ggL_law_X6_setColor : GoodIn wsL_law wsX6_setColor := goodIn_r _ [473, 29, 13, 419, 420, 2, 421, 85, 86, 87, 28, 88, 89, 90, 91, 92, 93, 94, 77, 95, 96, 97, 98, 99, 100, 101, 12, 102, 103, 35, 104, 105, 39, 40, 106, 107, 108, 109, 41, 42, 43, 110, 111, 112, 38, 113, 114, 48, 115, 49, 474, 450, 451, 452, 475, 476, 477, 478, 617, 618, 619, 620, 621, 622, 649, 650, 651, 623, 624, 625, 626, 627, 628, 629, 630, 631, 652, 653, 654] (by decide +kernel) (by decide +kernel)
set_option maxRecDepth 20000 in
theorem gL_law_X6_setColor : GoodIn wsL_law (wsV RL 91 RX6 yX6_setColor wsX6_setColor) := goodIn_app (goodIn_of _ (by decide +kernel)) ggL_law_X6_setColor
set_option maxRecDepth 20000 in
theorem ggL_law_L_packs : GoodIn wsL_law wsL_packs := goodIn_r _ [481, 149, 150, 151, 2, 152, 13, 83, 84, 128, 17, 153, 154, 155, 29, 156, 25, 157, 158, 159, 160, 12, 161, 105, 162, 163, 164, 165, 40, 166, 167, 168, 16, 169, 57, 170, 171, 172, 173, 174, 175, 176, 177, 178, 179, 180, 181, 182, 183, 184, 185, 186, 187, 188, 189, 190, 191, 192, 193, 194, 195, 196, 197, 198, 199, 42, 200, 201, 202, 203, 43, 204, 205, 206, 207, 56, 208, 209, 210, 211, 212, 55, 213, 214, 215, 216, 54, 217, 218, 219, 220, 221, 222, 223, 224, 225, 226, 227, 228, 229, 230, 231, 232, 233, 234, 235, 38, 236, 237, 238, 239, 240, 241, 48, 242, 243, 244, 245, 49, 246, 247, 248, 249, 250, 251, 252, 253, 254, 255, 256, 257, 258, 259, 260, 261, 262, 263, 264, 265, 266, 267, 268, 269, 270, 271, 272, 39, 273, 274, 275, 276, 277, 278, 279, 280, 281, 282, 283, 284, 285, 286, 287, 288, 289, 290, 291, 292, 293, 294, 295, 296, 297, 482, 483, 142, 484, 485, 486, 487, 488, 416, 417, 418, 489, 490, 437, 438, 439, 440, 441, 442, 443, 303, 304, 444, 306, 307, 308, 445, 446, 447, 448, 449, 450, 451, 452, 41, 491, 492, 493, 494, 129, 130, 131, 132, 495, 496, 497, 498, 499, 500, 501, 502, 21, 503, 504, 505, 20, 506, 62, 66, 507, 64, 508, 509, 510, 511, 512, 513, 514, 515, 516, 517, 518, 519, 520, 521, 522, 523, 524, 525, 526, 527, 528, 529, 530, 531, 532, 65, 85, 86, 87, 28, 88, 89, 90, 91, 92, 93, 94, 77, 95, 96, 97, 98, 99, 100, 101, 102, 103, 35, 104, 106, 107, 108, 109, 110, 111, 112, 113, 114, 115, 533, 534, 535, 536, 537, 538, 539, 540, 541, 542, 137, 138, 139, 543, 544, 545, 121, 122, 123, 546, 547, 548, 549, 550, 551, 552, 553, 617, 618, 619, 620, 621, 622, 623, 624, 625, 626, 627, 628, 629, 630, 631, 652, 653, 654, 649, 650, 651, 640, 641, 642, 643, 644, 645, 646, 647, 648, 632, 633, 634, 635, 636, 637, 638, 639] (by decide +kernel) (by decide +kernel)
set_option maxRecDepth 20000 in
theorem gL_law_L_packs : GoodIn wsL_law (va_wsS RL 134 yL_packs wsL_packs) := goodIn_app (goodIn_of _ (by decide +kernel)) ggL_law_L_packs
set_option maxRecDepth 20000 in
theorem ggL_law_L_alike : GoodIn wsL_law wsL_alike := goodIn_r _ [556, 491, 492, 493, 2, 494, 13, 83, 129, 130, 131, 132, 84, 495, 496, 497, 38, 498, 238, 239, 240, 241, 48, 246, 247, 248, 249, 250, 251, 252, 253, 254, 255, 256, 257, 242, 243, 244, 245, 49, 557, 558, 142, 559, 298, 299, 300, 301, 302, 303, 304, 305, 306, 307, 308, 617, 618, 619, 620, 621, 622, 623, 624, 625, 626, 627, 628, 629, 630, 631, 652, 653, 654] (by decide +kernel) (by decide +kernel)
set_option maxRecDepth 20000 in
theorem gL_law_L_alike : GoodIn wsL_law (va_wsS RL 138 yL_alike wsL_alike) := goodIn_app (goodIn_of _ (by decide +kernel)) ggL_law_L_alike
set_option maxRecDepth 20000 in
theorem ggL_law_L_meets : GoodIn wsL_law wsL_meets := goodIn_r _ [562, 563, 564, 142, 565, 376, 377, 378, 2, 379, 13, 17, 380, 381, 382, 383, 128, 384, 163, 164, 12, 165, 40, 385, 386, 387, 16, 388, 57, 212, 176, 177, 178, 179, 162, 213, 214, 215, 216, 54, 217, 218, 219, 220, 175, 170, 221, 222, 186, 223, 224, 225, 226, 389, 390, 391, 392, 393, 394, 185, 187, 395, 396, 397, 398, 56, 208, 209, 210, 211, 55, 227, 228, 229, 230, 231, 232, 233, 234, 235, 38, 236, 237, 238, 239, 240, 241, 48, 242, 243, 244, 245, 49, 246, 247, 248, 249, 250, 251, 252, 253, 254, 255, 256, 257, 258, 259, 260, 261, 399, 263, 264, 265, 266, 267, 268, 566, 567, 568, 426, 427, 428, 429, 153, 416, 417, 418, 430, 172, 173, 174, 431, 432, 433, 434, 435, 436, 437, 438, 439, 440, 441, 442, 443, 303, 304, 444, 306, 307, 308, 445, 446, 447, 448, 196, 197, 198, 199, 42, 200, 201, 202, 203, 43, 449, 450, 451, 452, 41, 453, 193, 194, 195, 454, 455, 569, 570, 571, 572, 573, 574, 575, 576, 577, 578, 579, 557, 558, 559, 298, 299, 300, 301, 83, 129, 130, 131, 132, 84, 302, 305, 580, 581, 582, 583, 584, 617, 618, 619, 620, 621, 622, 623, 624, 625, 626, 627, 628, 629, 630, 631, 632, 633, 634, 635, 652, 653, 654] (by decide +kernel) (by decide +kernel)
set_option maxRecDepth 20000 in
theorem gL_law_L_meets : GoodIn wsL_law (va_wsS RL 140 yL_meets wsL_meets) := goodIn_app (goodIn_of _ (by decide +kernel)) ggL_law_L_meets
set_option maxRecDepth 20000 in
theorem ggL_law_L_turns : GoodIn wsL_law wsL_turns := goodIn_r _ [587, 149, 150, 151, 2, 152, 13, 83, 84, 128, 17, 153, 154, 155, 29, 156, 25, 157, 158, 159, 160, 12, 161, 105, 162, 163, 164, 165, 40, 166, 167, 168, 16, 169, 57, 170, 171, 172, 173, 174, 175, 176, 177, 178, 179, 180, 181, 182, 183, 184, 185, 186, 187, 188, 189, 190, 191, 192, 193, 194, 195, 196, 197, 198, 199, 42, 200, 201, 202, 203, 43, 204, 205, 206, 207, 56, 208, 209, 210, 211, 212, 55, 213, 214, 215, 216, 54, 217, 218, 219, 220, 221, 222, 223, 224, 225, 226, 227, 228, 229, 230, 231, 232, 233, 234, 235, 38, 236, 237, 238, 239, 240, 241, 48, 242, 243, 244, 245, 49, 246, 247, 248, 249, 250, 251, 252, 253, 254, 255, 256, 257, 258, 259, 260, 261, 262, 263, 264, 265, 266, 267, 268, 269, 270, 271, 272, 39, 273, 274, 275, 276, 277, 278, 279, 280, 281, 282, 283, 284, 285, 286, 287, 288, 289, 290, 291, 292, 293, 294, 295, 296, 297, 563, 564, 142, 565, 376, 377, 378, 379, 380, 381, 382, 383, 384, 385, 386, 387, 388, 389, 390, 391, 392, 393, 394, 395, 396, 397, 398, 399, 569, 570, 571, 572, 416, 417, 418, 573, 574, 575, 576, 588, 589, 590, 591, 489, 584, 426, 427, 428, 429, 430, 431, 432, 433, 434, 435, 436, 437, 438, 439, 440, 441, 442, 443, 303, 304, 444, 306, 307, 308, 445, 446, 447, 448, 449, 450, 451, 452, 41, 453, 454, 455, 617, 618, 619, 620, 621, 622, 623, 624, 625, 626, 627, 628, 629, 630, 631, 652, 653, 654, 649, 650, 651, 640, 641, 642, 643, 644, 645, 646, 647, 648, 632, 633, 634, 635] (by decide +kernel) (by decide +kernel)
set_option maxRecDepth 20000 in
theorem gL_law_L_turns : GoodIn wsL_law (va_wsS RL 143 yL_turns wsL_turns) := goodIn_app (goodIn_of _ (by decide +kernel)) ggL_law_L_turns
set_option maxRecDepth 20000 in
theorem ggL_law_L_colors : GoodIn wsL_law wsL_colors := goodIn_r _ [594, 595, 596, 142, 597, 149, 150, 151, 2, 152, 13, 83, 84, 128, 17, 153, 154, 155, 29, 156, 25, 157, 158, 159, 160, 12, 161, 105, 162, 163, 164, 165, 40, 166, 167, 168, 16, 169, 57, 170, 171, 172, 173, 174, 175, 176, 177, 178, 179, 180, 181, 182, 183, 184, 185, 186, 187, 188, 189, 190, 191, 192, 193, 194, 195, 196, 197, 198, 199, 42, 200, 201, 202, 203, 43, 204, 205, 206, 207, 56, 208, 209, 210, 211, 212, 55, 213, 214, 215, 216, 54, 217, 218, 219, 220, 221, 222, 223, 224, 225, 226, 227, 228, 229, 230, 231, 232, 233, 234, 235, 38, 236, 237, 238, 239, 240, 241, 48, 242, 243, 244, 245, 49, 246, 247, 248, 249, 250, 251, 252, 253, 254, 255, 256, 257, 258, 259, 260, 261, 262, 263, 264, 265, 266, 267, 268, 269, 270, 271, 272, 39, 273, 274, 275, 276, 277, 278, 279, 280, 281, 282, 283, 284, 285, 286, 287, 288, 289, 290, 291, 292, 293, 294, 295, 296, 297, 577, 578, 579, 376, 377, 378, 379, 380, 381, 382, 383, 384, 385, 386, 387, 388, 389, 390, 391, 392, 393, 394, 395, 396, 397, 398, 399, 557, 558, 559, 298, 299, 300, 301, 129, 130, 131, 132, 302, 303, 304, 305, 306, 307, 308, 566, 567, 568, 426, 427, 428, 429, 416, 417, 418, 430, 431, 432, 433, 434, 435, 436, 437, 438, 439, 440, 441, 442, 443, 444, 445, 446, 447, 448, 449, 450, 451, 452, 41, 453, 454, 455, 569, 570, 571, 572, 573, 574, 575, 576, 485, 486, 487, 488, 489, 490, 617, 618, 619, 620, 621, 622, 623, 624, 625, 626, 627, 628, 629, 630, 631, 652, 653, 654, 649, 650, 651, 640, 641, 642, 643, 644, 645, 646, 647, 648, 632, 633, 634, 635] (by decide +kernel) (by decide +kernel)
set_option maxRecDepth 20000 in
theorem gL_law_L_colors : GoodIn wsL_law (va_wsS RL 147 yL_colors wsL_colors) := goodIn_app (goodIn_of _ (by decide +kernel)) ggL_law_L_colors
set_option maxRecDepth 20000 in
theorem ggL_law_L_sprites : GoodIn wsL_law wsL_sprites := goodIn_r _ [600, 149, 150, 151, 2, 152, 13, 83, 84, 128, 17, 153, 154, 155, 29, 156, 25, 157, 158, 159, 160, 12, 161, 105, 162, 163, 164, 165, 40, 166, 167, 168, 16, 169, 57, 170, 171, 172, 173, 174, 175, 176, 177, 178, 179, 180, 181, 182, 183, 184, 185, 186, 187, 188, 189, 190, 191, 192, 193, 194, 195, 196, 197, 198, 199, 42, 200, 201, 202, 203, 43, 204, 205, 206, 207, 56, 208, 209, 210, 211, 212, 55, 213, 214, 215, 216, 54, 217, 218, 219, 220, 221, 222, 223, 224, 225, 226, 227, 228, 229, 230, 231, 232, 233, 234, 235, 38, 236, 237, 238, 239, 240, 241, 48, 242, 243, 244, 245, 49, 246, 247, 248, 249, 250, 251, 252, 253, 254, 255, 256, 257, 258, 259, 260, 261, 262, 263, 264, 265, 266, 267, 268, 269, 270, 271, 272, 39, 273, 274, 275, 276, 277, 278, 279, 280, 281, 282, 283, 284, 285, 286, 287, 288, 289, 290, 291, 292, 293, 294, 295, 296, 297, 376, 377, 378, 379, 380, 381, 382, 383, 384, 385, 386, 387, 388, 389, 390, 391, 392, 393, 394, 395, 396, 397, 398, 399, 563, 564, 142, 565, 566, 567, 568, 426, 427, 428, 429, 416, 417, 418, 430, 431, 432, 433, 434, 435, 436, 437, 438, 439, 440, 441, 442, 443, 303, 304, 444, 306, 307, 308, 445, 446, 447, 448, 449, 450, 451, 452, 41, 453, 454, 455, 569, 570, 571, 572, 573, 574, 575, 576, 580, 581, 582, 583, 584, 617, 618, 619, 620, 621, 622, 623, 624, 625, 626, 627, 628, 629, 630, 631, 652, 653, 654, 649, 650, 651, 640, 641, 642, 643, 644, 645, 646, 647, 648, 632, 633, 634, 635] (by decide +kernel) (by decide +kernel)
set_option maxRecDepth 20000 in
theorem gL_law_L_sprites : GoodIn wsL_law (va_wsS RL 151 yL_sprites wsL_sprites) := goodIn_app (goodIn_of _ (by decide +kernel)) ggL_law_L_sprites
set_option maxRecDepth 20000 in
theorem ggL_law_L_errors : GoodIn wsL_law wsL_errors := goodIn_r _ [603, 604, 149, 150, 151, 2, 152, 13, 83, 84, 128, 17, 153, 154, 155, 29, 156, 25, 157, 158, 159, 160, 12, 161, 105, 162, 163, 164, 165, 40, 166, 167, 168, 16, 169, 57, 170, 171, 172, 173, 174, 175, 176, 177, 178, 179, 180, 181, 182, 183, 184, 185, 186, 187, 188, 189, 190, 191, 192, 193, 194, 195, 196, 197, 198, 199, 42, 200, 201, 202, 203, 43, 204, 205, 206, 207, 56, 208, 209, 210, 211, 212, 55, 213, 214, 215, 216, 54, 217, 218, 219, 220, 221, 222, 223, 224, 225, 226, 227, 228, 229, 230, 231, 232, 233, 234, 235, 38, 236, 237, 238, 239, 240, 241, 48, 242, 243, 244, 245, 49, 246, 247, 248, 249, 250, 251, 252, 253, 254, 255, 256, 257, 258, 259, 260, 261, 262, 263, 264, 265, 266, 267, 268, 269, 270, 271, 272, 39, 273, 274, 275, 276, 277, 278, 279, 280, 281, 282, 283, 284, 285, 286, 287, 288, 289, 290, 291, 292, 293, 294, 295, 296, 297, 309, 310, 311, 312, 129, 130, 131, 132, 302, 303, 304, 85, 86, 87, 28, 88, 89, 90, 91, 92, 93, 94, 77, 95, 96, 97, 98, 99, 100, 101, 102, 103, 35, 104, 106, 107, 108, 109, 41, 110, 111, 112, 113, 114, 115, 305, 306, 307, 308, 313, 314, 315, 316, 317, 120, 121, 122, 123, 470, 471, 472, 473, 419, 420, 421, 474, 450, 451, 452, 475, 476, 477, 478, 124, 125, 126, 127, 133, 134, 135, 136, 137, 138, 139, 408, 409, 410, 411, 380, 381, 382, 383, 389, 390, 391, 392, 393, 394, 400, 401, 402, 403, 404, 405, 406, 407, 384, 412, 413, 414, 415, 416, 417, 418, 422, 423, 424, 425, 456, 457, 458, 459, 460, 461, 462, 463, 464, 465, 466, 467, 468, 469, 298, 299, 300, 301, 491, 492, 493, 494, 495, 496, 497, 498, 580, 581, 582, 583, 395, 396, 397, 398, 584, 426, 427, 428, 429, 430, 431, 432, 433, 434, 435, 436, 437, 438, 439, 440, 441, 442, 443, 444, 445, 446, 447, 448, 449, 453, 454, 455, 569, 570, 571, 572, 573, 574, 575, 576, 588, 589, 590, 591, 489, 605, 606, 607, 608, 30, 10, 11, 609, 610, 611, 31, 32, 33, 34, 8, 9, 36, 37, 3, 44, 45, 46, 47, 612, 613, 614, 615, 616, 617, 618, 619, 620, 621, 622, 623, 624, 625, 626, 627, 628, 629, 630, 631, 652, 653, 654, 649, 650, 651, 640, 641, 642, 643, 644, 645, 646, 647, 648, 632, 633, 634, 635] (by decide +kernel) (by decide +kernel)
set_option maxRecDepth 20000 in
theorem gL_law_L_errors : GoodIn wsL_law (va_wsS RL 155 yL_errors wsL_errors) := goodIn_app (goodIn_of _ (by decide +kernel)) ggL_law_L_errors
theorem dL_law_0 : decode cL_law 0 = .ok (.new 10, 3) := by decide +kernel
theorem dL_law_3 : decode cL_law 3 = .ok (.dup, 1) := by decide +kernel
theorem dL_law_4 : decode cL_law 4 = .ok (.invokespecial 122, 3) := by decide +kernel
theorem dL_law_7 : decode cL_law 7 = .ok (.astore_n 1, 1) := by decide +kernel
theorem dL_law_8 : decode cL_law 8 = .ok (.bipush 20, 2) := by decide +kernel
theorem dL_law_10 : decode cL_law 10 = .ok (.newarray .int, 2) := by decide +kernel
theorem dL_law_12 : decode cL_law 12 = .ok (.astore_n 2, 1) := by decide +kernel
theorem dL_law_13 : decode cL_law 13 = .ok (.iconst 0, 1) := by decide +kernel
theorem dL_law_14 : decode cL_law 14 = .ok (.istore_n 3, 1) := by decide +kernel
theorem dL_law_15 : decode cL_law 15 = .ok (.iload_n 3, 1) := by decide +kernel
theorem dL_law_16 : decode cL_law 16 = .ok (.bipush 16, 2) := by decide +kernel
theorem dL_law_18 : decode cL_law 18 = .ok (.if_icmp .ge 22, 3) := by decide +kernel
theorem dL_law_21 : decode cL_law 21 = .ok (.aload_n 2, 1) := by decide +kernel
theorem dL_law_22 : decode cL_law 22 = .ok (.iload_n 3, 1) := by decide +kernel
theorem dL_law_23 : decode cL_law 23 = .ok (.bipush 16, 2) := by decide +kernel
theorem dL_law_25 : decode cL_law 25 = .ok (.iload_n 3, 1) := by decide +kernel
theorem dL_law_26 : decode cL_law 26 = .ok (.iconst 4, 1) := by decide +kernel
theorem dL_law_27 : decode cL_law 27 = .ok (.idiv, 1) := by decide +kernel
theorem dL_law_28 : decode cL_law 28 = .ok (.imul, 1) := by decide +kernel
theorem dL_law_29 : decode cL_law 29 = .ok (.iload_n 3, 1) := by decide +kernel
theorem dL_law_30 : decode cL_law 30 = .ok (.iconst 4, 1) := by decide +kernel
theorem dL_law_31 : decode cL_law 31 = .ok (.irem, 1) := by decide +kernel
theorem dL_law_32 : decode cL_law 32 = .ok (.iadd, 1) := by decide +kernel
theorem dL_law_33 : decode cL_law 33 = .ok (.iastore, 1) := by decide +kernel
theorem dL_law_34 : decode cL_law 34 = .ok (.iinc 3 1, 3) := by decide +kernel
theorem dL_law_37 : decode cL_law 37 = .ok (.goto (-22), 3) := by decide +kernel
theorem dL_law_40 : decode cL_law 40 = .ok (.aload_n 1, 1) := by decide +kernel
theorem dL_law_41 : decode cL_law 41 = .ok (.invokevirtual 123, 3) := by decide +kernel
theorem dL_law_44 : decode cL_law 44 = .ok (.ifCond .ne 13, 3) := by decide +kernel
theorem dL_law_47 : decode cL_law 47 = .ok (.aload_n 1, 1) := by decide +kernel
theorem dL_law_48 : decode cL_law 48 = .ok (.iconst 0, 1) := by decide +kernel
theorem dL_law_49 : decode cL_law 49 = .ok (.iconst 3, 1) := by decide +kernel
theorem dL_law_50 : decode cL_law 50 = .ok (.iconst 3, 1) := by decide +kernel
theorem dL_law_51 : decode cL_law 51 = .ok (.invokevirtual 94, 3) := by decide +kernel
theorem dL_law_54 : decode cL_law 54 = .ok (.ifCond .eq 5, 3) := by decide +kernel
theorem dL_law_57 : decode cL_law 57 = .ok (.iconst 0, 1) := by decide +kernel
theorem dL_law_58 : decode cL_law 58 = .ok (.ireturn, 1) := by decide +kernel
theorem dL_law_59 : decode cL_law 59 = .ok (.iconst 0, 1) := by decide +kernel
theorem dL_law_60 : decode cL_law 60 = .ok (.istore_n 3, 1) := by decide +kernel
theorem dL_law_61 : decode cL_law 61 = .ok (.iload_n 3, 1) := by decide +kernel
theorem dL_law_62 : decode cL_law 62 = .ok (.bipush 30, 2) := by decide +kernel
theorem dL_law_64 : decode cL_law 64 = .ok (.if_icmp .ge 957, 3) := by decide +kernel
theorem dL_law_67 : decode cL_law 67 = .ok (.aload_n 0, 1) := by decide +kernel
theorem dL_law_68 : decode cL_law 68 = .ok (.iconst 2, 1) := by decide +kernel
theorem dL_law_69 : decode cL_law 69 = .ok (.iload_n 3, 1) := by decide +kernel
theorem dL_law_70 : decode cL_law 70 = .ok (.imul, 1) := by decide +kernel
theorem dL_law_71 : decode cL_law 71 = .ok (.invokestatic 126, 3) := by decide +kernel
theorem dL_law_74 : decode cL_law 74 = .ok (.istore 4, 2) := by decide +kernel
theorem dL_law_76 : decode cL_law 76 = .ok (.aload_n 0, 1) := by decide +kernel
theorem dL_law_77 : decode cL_law 77 = .ok (.iconst 2, 1) := by decide +kernel
theorem dL_law_78 : decode cL_law 78 = .ok (.iload_n 3, 1) := by decide +kernel
theorem dL_law_79 : decode cL_law 79 = .ok (.imul, 1) := by decide +kernel
theorem dL_law_80 : decode cL_law 80 = .ok (.iconst 1, 1) := by decide +kernel
theorem dL_law_81 : decode cL_law 81 = .ok (.iadd, 1) := by decide +kernel
theorem dL_law_82 : decode cL_law 82 = .ok (.invokestatic 126, 3) := by decide +kernel
theorem dL_law_85 : decode cL_law 85 = .ok (.istore 5, 2) := by decide +kernel
theorem dL_law_87 : decode cL_law 87 = .ok (.iload 4, 2) := by decide +kernel
theorem dL_law_89 : decode cL_law 89 = .ok (.bipush 16, 2) := by decide +kernel
theorem dL_law_91 : decode cL_law 91 = .ok (.invokestatic 74, 3) := by decide +kernel
theorem dL_law_94 : decode cL_law 94 = .ok (.istore 6, 2) := by decide +kernel
theorem dL_law_96 : decode cL_law 96 = .ok (.iload 4, 2) := by decide +kernel
theorem dL_law_98 : decode cL_law 98 = .ok (.iconst 4, 1) := by decide +kernel
theorem dL_law_99 : decode cL_law 99 = .ok (.ishr, 1) := by decide +kernel
theorem dL_law_100 : decode cL_law 100 = .ok (.istore 4, 2) := by decide +kernel
theorem dL_law_102 : decode cL_law 102 = .ok (.aload_n 1, 1) := by decide +kernel
theorem dL_law_103 : decode cL_law 103 = .ok (.iconst 0, 1) := by decide +kernel
theorem dL_law_104 : decode cL_law 104 = .ok (.invokevirtual 28, 3) := by decide +kernel
theorem dL_law_107 : decode cL_law 107 = .ok (.istore 7, 2) := by decide +kernel
theorem dL_law_109 : decode cL_law 109 = .ok (.aload_n 1, 1) := by decide +kernel
theorem dL_law_110 : decode cL_law 110 = .ok (.iconst 1, 1) := by decide +kernel
theorem dL_law_111 : decode cL_law 111 = .ok (.invokevirtual 28, 3) := by decide +kernel
theorem dL_law_114 : decode cL_law 114 = .ok (.istore 8, 2) := by decide +kernel
theorem dL_law_116 : decode cL_law 116 = .ok (.iload 4, 2) := by decide +kernel
theorem dL_law_118 : decode cL_law 118 = .ok (.iload 7, 2) := by decide +kernel
theorem dL_law_120 : decode cL_law 120 = .ok (.invokestatic 74, 3) := by decide +kernel
theorem dL_law_123 : decode cL_law 123 = .ok (.istore 9, 2) := by decide +kernel
theorem dL_law_125 : decode cL_law 125 = .ok (.iload 5, 2) := by decide +kernel
theorem dL_law_127 : decode cL_law 127 = .ok (.iload 8, 2) := by decide +kernel
theorem dL_law_129 : decode cL_law 129 = .ok (.invokestatic 74, 3) := by decide +kernel
theorem dL_law_132 : decode cL_law 132 = .ok (.istore 10, 2) := by decide +kernel
theorem dL_law_134 : decode cL_law 134 = .ok (.iconst 1, 1) := by decide +kernel
theorem dL_law_135 : decode cL_law 135 = .ok (.istore 11, 2) := by decide +kernel
theorem dL_law_137 : decode cL_law 137 = .ok (.iload 6, 2) := by decide +kernel
theorem dL_law_139 : decode cL_law 139 = .ok (.ifCond .ne 28, 3) := by decide +kernel
theorem dL_law_142 : decode cL_law 142 = .ok (.iload 7, 2) := by decide +kernel
theorem dL_law_144 : decode cL_law 144 = .ok (.iconst 4, 1) := by decide +kernel
theorem dL_law_145 : decode cL_law 145 = .ok (.if_icmp .gt 12, 3) := by decide +kernel
theorem dL_law_148 : decode cL_law 148 = .ok (.aload_n 1, 1) := by decide +kernel
theorem dL_law_149 : decode cL_law 149 = .ok (.invokevirtual 123, 3) := by decide +kernel
theorem dL_law_152 : decode cL_law 152 = .ok (.iload 7, 2) := by decide +kernel
theorem dL_law_154 : decode cL_law 154 = .ok (.if_icmp .ne 7, 3) := by decide +kernel
theorem dL_law_157 : decode cL_law 157 = .ok (.iconst 1, 1) := by decide +kernel
theorem dL_law_158 : decode cL_law 158 = .ok (.goto 4, 3) := by decide +kernel
theorem dL_law_161 : decode cL_law 161 = .ok (.iconst 0, 1) := by decide +kernel
theorem dL_law_162 : decode cL_law 162 = .ok (.istore 11, 2) := by decide +kernel
theorem dL_law_164 : decode cL_law 164 = .ok (.goto 800, 3) := by decide +kernel
theorem dL_law_167 : decode cL_law 167 = .ok (.iload 6, 2) := by decide +kernel
theorem dL_law_169 : decode cL_law 169 = .ok (.iconst 3, 1) := by decide +kernel
theorem dL_law_170 : decode cL_law 170 = .ok (.if_icmp .ge 107, 3) := by decide +kernel
theorem dL_law_173 : decode cL_law 173 = .ok (.aload_n 1, 1) := by decide +kernel
theorem dL_law_174 : decode cL_law 174 = .ok (.iload 9, 2) := by decide +kernel
theorem dL_law_176 : decode cL_law 176 = .ok (.iload 5, 2) := by decide +kernel
theorem dL_law_178 : decode cL_law 178 = .ok (.bipush 8, 2) := by decide +kernel
theorem dL_law_180 : decode cL_law 180 = .ok (.invokestatic 74, 3) := by decide +kernel
theorem dL_law_183 : decode cL_law 183 = .ok (.iload 5, 2) := by decide +kernel
theorem dL_law_185 : decode cL_law 185 = .ok (.iconst 3, 1) := by decide +kernel
theorem dL_law_186 : decode cL_law 186 = .ok (.ishr, 1) := by decide +kernel
theorem dL_law_187 : decode cL_law 187 = .ok (.bipush 8, 2) := by decide +kernel
theorem dL_law_189 : decode cL_law 189 = .ok (.invokestatic 74, 3) := by decide +kernel
theorem dL_law_192 : decode cL_law 192 = .ok (.invokevirtual 9, 3) := by decide +kernel
theorem dL_law_195 : decode cL_law 195 = .ok (.istore 12, 2) := by decide +kernel
theorem dL_law_197 : decode cL_law 197 = .ok (.aload_n 1, 1) := by decide +kernel
theorem dL_law_198 : decode cL_law 198 = .ok (.iload 9, 2) := by decide +kernel
theorem dL_law_200 : decode cL_law 200 = .ok (.iload 5, 2) := by decide +kernel
theorem dL_law_202 : decode cL_law 202 = .ok (.bipush 8, 2) := by decide +kernel
theorem dL_law_204 : decode cL_law 204 = .ok (.invokestatic 74, 3) := by decide +kernel
theorem dL_law_207 : decode cL_law 207 = .ok (.iload 5, 2) := by decide +kernel
theorem dL_law_209 : decode cL_law 209 = .ok (.iconst 3, 1) := by decide +kernel
theorem dL_law_210 : decode cL_law 210 = .ok (.ishr, 1) := by decide +kernel
theorem dL_law_211 : decode cL_law 211 = .ok (.bipush 8, 2) := by decide +kernel
theorem dL_law_213 : decode cL_law 213 = .ok (.invokestatic 74, 3) := by decide +kernel
theorem dL_law_216 : decode cL_law 216 = .ok (.iload 5, 2) := by decide +kernel
theorem dL_law_218 : decode cL_law 218 = .ok (.bipush 6, 2) := by decide +kernel
theorem dL_law_220 : decode cL_law 220 = .ok (.ishr, 1) := by decide +kernel
theorem dL_law_221 : decode cL_law 221 = .ok (.iconst 4, 1) := by decide +kernel
theorem dL_law_222 : decode cL_law 222 = .ok (.invokestatic 74, 3) := by decide +kernel
theorem dL_law_225 : decode cL_law 225 = .ok (.invokevirtual 87, 3) := by decide +kernel
theorem dL_law_228 : decode cL_law 228 = .ok (.iload 12, 2) := by decide +kernel
theorem dL_law_230 : decode cL_law 230 = .ok (.if_icmp .ne 41, 3) := by decide +kernel
theorem dL_law_233 : decode cL_law 233 = .ok (.aload_n 1, 1) := by decide +kernel
theorem dL_law_234 : decode cL_law 234 = .ok (.iload 9, 2) := by decide +kernel
theorem dL_law_236 : decode cL_law 236 = .ok (.iload 5, 2) := by decide +kernel
theorem dL_law_238 : decode cL_law 238 = .ok (.bipush 8, 2) := by decide +kernel
theorem dL_law_240 : decode cL_law 240 = .ok (.invokestatic 74, 3) := by decide +kernel
theorem dL_law_243 : decode cL_law 243 = .ok (.iload 5, 2) := by decide +kernel
theorem dL_law_245 : decode cL_law 245 = .ok (.iconst 3, 1) := by decide +kernel
theorem dL_law_246 : decode cL_law 246 = .ok (.ishr, 1) := by decide +kernel
theorem dL_law_247 : decode cL_law 247 = .ok (.bipush 8, 2) := by decide +kernel
theorem dL_law_249 : decode cL_law 249 = .ok (.invokestatic 74, 3) := by decide +kernel
theorem dL_law_252 : decode cL_law 252 = .ok (.invokevirtual 9, 3) := by decide +kernel
theorem dL_law_255 : decode cL_law 255 = .ok (.iload 5, 2) := by decide +kernel
theorem dL_law_257 : decode cL_law 257 = .ok (.bipush 6, 2) := by decide +kernel
theorem dL_law_259 : decode cL_law 259 = .ok (.ishr, 1) := by decide +kernel
theorem dL_law_260 : decode cL_law 260 = .ok (.iconst 4, 1) := by decide +kernel
theorem dL_law_261 : decode cL_law 261 = .ok (.invokestatic 74, 3) := by decide +kernel
theorem dL_law_264 : decode cL_law 264 = .ok (.if_icmp .ne 7, 3) := by decide +kernel
theorem dL_law_267 : decode cL_law 267 = .ok (.iconst 1, 1) := by decide +kernel
theorem dL_law_268 : decode cL_law 268 = .ok (.goto 4, 3) := by decide +kernel
theorem dL_law_271 : decode cL_law 271 = .ok (.iconst 0, 1) := by decide +kernel
theorem dL_law_272 : decode cL_law 272 = .ok (.istore 11, 2) := by decide +kernel
theorem dL_law_274 : decode cL_law 274 = .ok (.goto 690, 3) := by decide +kernel
theorem dL_law_277 : decode cL_law 277 = .ok (.iload 6, 2) := by decide +kernel
theorem dL_law_279 : decode cL_law 279 = .ok (.iconst 5, 1) := by decide +kernel
theorem dL_law_280 : decode cL_law 280 = .ok (.if_icmp .ge 18, 3) := by decide +kernel
theorem dL_law_283 : decode cL_law 283 = .ok (.aload_n 1, 1) := by decide +kernel
theorem dL_law_284 : decode cL_law 284 = .ok (.iload 9, 2) := by decide +kernel
theorem dL_law_286 : decode cL_law 286 = .ok (.iload 4, 2) := by decide +kernel
theorem dL_law_288 : decode cL_law 288 = .ok (.iload 5, 2) := by decide +kernel
theorem dL_law_290 : decode cL_law 290 = .ok (.invokestatic 130, 3) := by decide +kernel
theorem dL_law_293 : decode cL_law 293 = .ok (.istore 11, 2) := by decide +kernel
theorem dL_law_295 : decode cL_law 295 = .ok (.goto 669, 3) := by decide +kernel
theorem dL_law_298 : decode cL_law 298 = .ok (.iload 6, 2) := by decide +kernel
theorem dL_law_300 : decode cL_law 300 = .ok (.iconst 5, 1) := by decide +kernel
theorem dL_law_301 : decode cL_law 301 = .ok (.if_icmp .ne 54, 3) := by decide +kernel
theorem dL_law_304 : decode cL_law 304 = .ok (.iload 8, 2) := by decide +kernel
theorem dL_law_306 : decode cL_law 306 = .ok (.bipush 6, 2) := by decide +kernel
theorem dL_law_308 : decode cL_law 308 = .ok (.if_icmp .gt 37, 3) := by decide +kernel
theorem dL_law_311 : decode cL_law 311 = .ok (.aload_n 1, 1) := by decide +kernel
theorem dL_law_312 : decode cL_law 312 = .ok (.iload 9, 2) := by decide +kernel
theorem dL_law_314 : decode cL_law 314 = .ok (.iload 5, 2) := by decide +kernel
theorem dL_law_316 : decode cL_law 316 = .ok (.bipush 39, 2) := by decide +kernel
theorem dL_law_318 : decode cL_law 318 = .ok (.invokestatic 74, 3) := by decide +kernel
theorem dL_law_321 : decode cL_law 321 = .ok (.bipush 7, 2) := by decide +kernel
theorem dL_law_323 : decode cL_law 323 = .ok (.isub, 1) := by decide +kernel
theorem dL_law_324 : decode cL_law 324 = .ok (.iload 5, 2) := by decide +kernel
theorem dL_law_326 : decode cL_law 326 = .ok (.bipush 6, 2) := by decide +kernel
theorem dL_law_328 : decode cL_law 328 = .ok (.ishr, 1) := by decide +kernel
theorem dL_law_329 : decode cL_law 329 = .ok (.bipush 39, 2) := by decide +kernel
theorem dL_law_331 : decode cL_law 331 = .ok (.invokestatic 74, 3) := by decide +kernel
theorem dL_law_334 : decode cL_law 334 = .ok (.bipush 7, 2) := by decide +kernel
theorem dL_law_336 : decode cL_law 336 = .ok (.isub, 1) := by decide +kernel
theorem dL_law_337 : decode cL_law 337 = .ok (.invokevirtual 94, 3) := by decide +kernel
theorem dL_law_340 : decode cL_law 340 = .ok (.iload 8, 2) := by decide +kernel
theorem dL_law_342 : decode cL_law 342 = .ok (.if_icmp .ne 7, 3) := by decide +kernel
theorem dL_law_345 : decode cL_law 345 = .ok (.iconst 1, 1) := by decide +kernel
theorem dL_law_346 : decode cL_law 346 = .ok (.goto 4, 3) := by decide +kernel
theorem dL_law_349 : decode cL_law 349 = .ok (.iconst 0, 1) := by decide +kernel
theorem dL_law_350 : decode cL_law 350 = .ok (.istore 11, 2) := by decide +kernel
theorem dL_law_352 : decode cL_law 352 = .ok (.goto 612, 3) := by decide +kernel
theorem dL_law_355 : decode cL_law 355 = .ok (.iload 6, 2) := by decide +kernel
theorem dL_law_357 : decode cL_law 357 = .ok (.bipush 9, 2) := by decide +kernel
theorem dL_law_359 : decode cL_law 359 = .ok (.if_icmp .ge 122, 3) := by decide +kernel
theorem dL_law_362 : decode cL_law 362 = .ok (.iload 4, 2) := by decide +kernel
theorem dL_law_364 : decode cL_law 364 = .ok (.iconst 4, 1) := by decide +kernel
theorem dL_law_365 : decode cL_law 365 = .ok (.invokestatic 74, 3) := by decide +kernel
theorem dL_law_368 : decode cL_law 368 = .ok (.istore 12, 2) := by decide +kernel
theorem dL_law_370 : decode cL_law 370 = .ok (.iload 12, 2) := by decide +kernel
theorem dL_law_372 : decode cL_law 372 = .ok (.ifCond .ne 15, 3) := by decide +kernel
theorem dL_law_375 : decode cL_law 375 = .ok (.iload 5, 2) := by decide +kernel
theorem dL_law_377 : decode cL_law 377 = .ok (.iconst 5, 1) := by decide +kernel
theorem dL_law_378 : decode cL_law 378 = .ok (.ishr, 1) := by decide +kernel
theorem dL_law_379 : decode cL_law 379 = .ok (.iload 7, 2) := by decide +kernel
theorem dL_law_381 : decode cL_law 381 = .ok (.invokestatic 74, 3) := by decide +kernel
theorem dL_law_384 : decode cL_law 384 = .ok (.goto 34, 3) := by decide +kernel
theorem dL_law_387 : decode cL_law 387 = .ok (.iload 12, 2) := by decide +kernel
theorem dL_law_389 : decode cL_law 389 = .ok (.iconst 3, 1) := by decide +kernel
theorem dL_law_390 : decode cL_law 390 = .ok (.if_icmp .ne 20, 3) := by decide +kernel
theorem dL_law_393 : decode cL_law 393 = .ok (.iload 5, 2) := by decide +kernel
theorem dL_law_395 : decode cL_law 395 = .ok (.iconst 5, 1) := by decide +kernel
theorem dL_law_396 : decode cL_law 396 = .ok (.ishr, 1) := by decide +kernel
theorem dL_law_397 : decode cL_law 397 = .ok (.iconst 3, 1) := by decide +kernel
theorem dL_law_398 : decode cL_law 398 = .ok (.iand, 1) := by decide +kernel
theorem dL_law_399 : decode cL_law 399 = .ok (.ifCond .le 7, 3) := by decide +kernel
theorem dL_law_402 : decode cL_law 402 = .ok (.iconst 1, 1) := by decide +kernel
theorem dL_law_403 : decode cL_law 403 = .ok (.goto 15, 3) := by decide +kernel
theorem dL_law_406 : decode cL_law 406 = .ok (.iconst 0, 1) := by decide +kernel
theorem dL_law_407 : decode cL_law 407 = .ok (.goto 11, 3) := by decide +kernel
theorem dL_law_410 : decode cL_law 410 = .ok (.iload 5, 2) := by decide +kernel
theorem dL_law_412 : decode cL_law 412 = .ok (.iconst 5, 1) := by decide +kernel
theorem dL_law_413 : decode cL_law 413 = .ok (.ishr, 1) := by decide +kernel
theorem dL_law_414 : decode cL_law 414 = .ok (.iconst 4, 1) := by decide +kernel
theorem dL_law_415 : decode cL_law 415 = .ok (.invokestatic 74, 3) := by decide +kernel
theorem dL_law_418 : decode cL_law 418 = .ok (.istore 13, 2) := by decide +kernel
theorem dL_law_420 : decode cL_law 420 = .ok (.aload_n 1, 1) := by decide +kernel
theorem dL_law_421 : decode cL_law 421 = .ok (.iload 10, 2) := by decide +kernel
theorem dL_law_423 : decode cL_law 423 = .ok (.iload 12, 2) := by decide +kernel
theorem dL_law_425 : decode cL_law 425 = .ok (.invokevirtual 25, 3) := by decide +kernel
theorem dL_law_428 : decode cL_law 428 = .ok (.istore 14, 2) := by decide +kernel
theorem dL_law_430 : decode cL_law 430 = .ok (.aload_n 1, 1) := by decide +kernel
theorem dL_law_431 : decode cL_law 431 = .ok (.iload 10, 2) := by decide +kernel
theorem dL_law_433 : decode cL_law 433 = .ok (.iload 12, 2) := by decide +kernel
theorem dL_law_435 : decode cL_law 435 = .ok (.iload 13, 2) := by decide +kernel
theorem dL_law_437 : decode cL_law 437 = .ok (.invokevirtual 100, 3) := by decide +kernel
theorem dL_law_440 : decode cL_law 440 = .ok (.iload 14, 2) := by decide +kernel
theorem dL_law_442 : decode cL_law 442 = .ok (.if_icmp .ne 33, 3) := by decide +kernel
theorem dL_law_445 : decode cL_law 445 = .ok (.aload_n 1, 1) := by decide +kernel
theorem dL_law_446 : decode cL_law 446 = .ok (.iload 10, 2) := by decide +kernel
theorem dL_law_448 : decode cL_law 448 = .ok (.iload 12, 2) := by decide +kernel
theorem dL_law_450 : decode cL_law 450 = .ok (.invokevirtual 25, 3) := by decide +kernel
theorem dL_law_453 : decode cL_law 453 = .ok (.iload 13, 2) := by decide +kernel
theorem dL_law_455 : decode cL_law 455 = .ok (.if_icmp .ne 20, 3) := by decide +kernel
theorem dL_law_458 : decode cL_law 458 = .ok (.aload_n 1, 1) := by decide +kernel
theorem dL_law_459 : decode cL_law 459 = .ok (.iload 10, 2) := by decide +kernel
theorem dL_law_461 : decode cL_law 461 = .ok (.iconst 4, 1) := by decide +kernel
theorem dL_law_462 : decode cL_law 462 = .ok (.iconst 0, 1) := by decide +kernel
theorem dL_law_463 : decode cL_law 463 = .ok (.invokevirtual 100, 3) := by decide +kernel
theorem dL_law_466 : decode cL_law 466 = .ok (.bipush (-2), 2) := by decide +kernel
theorem dL_law_468 : decode cL_law 468 = .ok (.if_icmp .ne 7, 3) := by decide +kernel
theorem dL_law_471 : decode cL_law 471 = .ok (.iconst 1, 1) := by decide +kernel
theorem dL_law_472 : decode cL_law 472 = .ok (.goto 4, 3) := by decide +kernel
theorem dL_law_475 : decode cL_law 475 = .ok (.iconst 0, 1) := by decide +kernel
theorem dL_law_476 : decode cL_law 476 = .ok (.istore 11, 2) := by decide +kernel
theorem dL_law_478 : decode cL_law 478 = .ok (.goto 486, 3) := by decide +kernel
theorem dL_law_481 : decode cL_law 481 = .ok (.iload 6, 2) := by decide +kernel
theorem dL_law_483 : decode cL_law 483 = .ok (.bipush 9, 2) := by decide +kernel
theorem dL_law_485 : decode cL_law 485 = .ok (.if_icmp .ne 85, 3) := by decide +kernel
theorem dL_law_488 : decode cL_law 488 = .ok (.iload 4, 2) := by decide +kernel
theorem dL_law_490 : decode cL_law 490 = .ok (.bipush 39, 2) := by decide +kernel
theorem dL_law_492 : decode cL_law 492 = .ok (.invokestatic 74, 3) := by decide +kernel
theorem dL_law_495 : decode cL_law 495 = .ok (.bipush 7, 2) := by decide +kernel
theorem dL_law_497 : decode cL_law 497 = .ok (.isub, 1) := by decide +kernel
theorem dL_law_498 : decode cL_law 498 = .ok (.istore 12, 2) := by decide +kernel
theorem dL_law_500 : decode cL_law 500 = .ok (.iload 4, 2) := by decide +kernel
theorem dL_law_502 : decode cL_law 502 = .ok (.bipush 6, 2) := by decide +kernel
theorem dL_law_504 : decode cL_law 504 = .ok (.ishr, 1) := by decide +kernel
theorem dL_law_505 : decode cL_law 505 = .ok (.bipush 20, 2) := by decide +kernel
theorem dL_law_507 : decode cL_law 507 = .ok (.invokestatic 74, 3) := by decide +kernel
theorem dL_law_510 : decode cL_law 510 = .ok (.bipush 7, 2) := by decide +kernel
theorem dL_law_512 : decode cL_law 512 = .ok (.isub, 1) := by decide +kernel
theorem dL_law_513 : decode cL_law 513 = .ok (.istore 13, 2) := by decide +kernel
theorem dL_law_515 : decode cL_law 515 = .ok (.aload_n 1, 1) := by decide +kernel
theorem dL_law_516 : decode cL_law 516 = .ok (.iload 10, 2) := by decide +kernel
theorem dL_law_518 : decode cL_law 518 = .ok (.iload 12, 2) := by decide +kernel
theorem dL_law_520 : decode cL_law 520 = .ok (.iload 13, 2) := by decide +kernel
theorem dL_law_522 : decode cL_law 522 = .ok (.invokevirtual 97, 3) := by decide +kernel
theorem dL_law_525 : decode cL_law 525 = .ok (.aload_n 1, 1) := by decide +kernel
theorem dL_law_526 : decode cL_law 526 = .ok (.iload 10, 2) := by decide +kernel
theorem dL_law_528 : decode cL_law 528 = .ok (.bipush 7, 2) := by decide +kernel
theorem dL_law_530 : decode cL_law 530 = .ok (.invokevirtual 25, 3) := by decide +kernel
theorem dL_law_533 : decode cL_law 533 = .ok (.if_icmp .ne 31, 3) := by decide +kernel
theorem dL_law_536 : decode cL_law 536 = .ok (.aload_n 1, 1) := by decide +kernel
theorem dL_law_537 : decode cL_law 537 = .ok (.iload 10, 2) := by decide +kernel
theorem dL_law_539 : decode cL_law 539 = .ok (.iconst 4, 1) := by decide +kernel
theorem dL_law_540 : decode cL_law 540 = .ok (.invokevirtual 25, 3) := by decide +kernel
theorem dL_law_543 : decode cL_law 543 = .ok (.iload 12, 2) := by decide +kernel
theorem dL_law_545 : decode cL_law 545 = .ok (.if_icmp .ne 19, 3) := by decide +kernel
theorem dL_law_548 : decode cL_law 548 = .ok (.aload_n 1, 1) := by decide +kernel
theorem dL_law_549 : decode cL_law 549 = .ok (.iload 10, 2) := by decide +kernel
theorem dL_law_551 : decode cL_law 551 = .ok (.iconst 5, 1) := by decide +kernel
theorem dL_law_552 : decode cL_law 552 = .ok (.invokevirtual 25, 3) := by decide +kernel
theorem dL_law_555 : decode cL_law 555 = .ok (.iload 13, 2) := by decide +kernel
theorem dL_law_557 : decode cL_law 557 = .ok (.if_icmp .ne 7, 3) := by decide +kernel
theorem dL_law_560 : decode cL_law 560 = .ok (.iconst 1, 1) := by decide +kernel
theorem dL_law_561 : decode cL_law 561 = .ok (.goto 4, 3) := by decide +kernel
theorem dL_law_564 : decode cL_law 564 = .ok (.iconst 0, 1) := by decide +kernel
theorem dL_law_565 : decode cL_law 565 = .ok (.istore 11, 2) := by decide +kernel
theorem dL_law_567 : decode cL_law 567 = .ok (.goto 397, 3) := by decide +kernel
theorem dL_law_570 : decode cL_law 570 = .ok (.iload 6, 2) := by decide +kernel
theorem dL_law_572 : decode cL_law 572 = .ok (.bipush 10, 2) := by decide +kernel
theorem dL_law_574 : decode cL_law 574 = .ok (.if_icmp .ne 114, 3) := by decide +kernel
theorem dL_law_577 : decode cL_law 577 = .ok (.iload 4, 2) := by decide +kernel
theorem dL_law_579 : decode cL_law 579 = .ok (.bipush 32, 2) := by decide +kernel
theorem dL_law_581 : decode cL_law 581 = .ok (.invokestatic 74, 3) := by decide +kernel
theorem dL_law_584 : decode cL_law 584 = .ok (.istore 12, 2) := by decide +kernel
theorem dL_law_586 : decode cL_law 586 = .ok (.iload 12, 2) := by decide +kernel
theorem dL_law_588 : decode cL_law 588 = .ok (.iload 5, 2) := by decide +kernel
theorem dL_law_590 : decode cL_law 590 = .ok (.bipush 32, 2) := by decide +kernel
theorem dL_law_592 : decode cL_law 592 = .ok (.iload 12, 2) := by decide +kernel
theorem dL_law_594 : decode cL_law 594 = .ok (.isub, 1) := by decide +kernel
theorem dL_law_595 : decode cL_law 595 = .ok (.invokestatic 74, 3) := by decide +kernel
theorem dL_law_598 : decode cL_law 598 = .ok (.iadd, 1) := by decide +kernel
theorem dL_law_599 : decode cL_law 599 = .ok (.istore 13, 2) := by decide +kernel
theorem dL_law_601 : decode cL_law 601 = .ok (.iload 5, 2) := by decide +kernel
theorem dL_law_603 : decode cL_law 603 = .ok (.iconst 5, 1) := by decide +kernel
theorem dL_law_604 : decode cL_law 604 = .ok (.ishr, 1) := by decide +kernel
theorem dL_law_605 : decode cL_law 605 = .ok (.iconst 4, 1) := by decide +kernel
theorem dL_law_606 : decode cL_law 606 = .ok (.invokestatic 74, 3) := by decide +kernel
theorem dL_law_609 : decode cL_law 609 = .ok (.istore 14, 2) := by decide +kernel
theorem dL_law_611 : decode cL_law 611 = .ok (.iload 5, 2) := by decide +kernel
theorem dL_law_613 : decode cL_law 613 = .ok (.bipush 7, 2) := by decide +kernel
theorem dL_law_615 : decode cL_law 615 = .ok (.ishr, 1) := by decide +kernel
theorem dL_law_616 : decode cL_law 616 = .ok (.iconst 4, 1) := by decide +kernel
theorem dL_law_617 : decode cL_law 617 = .ok (.invokestatic 74, 3) := by decide +kernel
theorem dL_law_620 : decode cL_law 620 = .ok (.istore 15, 2) := by decide +kernel
theorem dL_law_622 : decode cL_law 622 = .ok (.aload_n 1, 1) := by decide +kernel
theorem dL_law_623 : decode cL_law 623 = .ok (.iload 12, 2) := by decide +kernel
theorem dL_law_625 : decode cL_law 625 = .ok (.iload 13, 2) := by decide +kernel
theorem dL_law_627 : decode cL_law 627 = .ok (.iload 14, 2) := by decide +kernel
theorem dL_law_629 : decode cL_law 629 = .ok (.iload 15, 2) := by decide +kernel
theorem dL_law_631 : decode cL_law 631 = .ok (.invokevirtual 103, 3) := by decide +kernel
theorem dL_law_634 : decode cL_law 634 = .ok (.aload_n 1, 1) := by decide +kernel
theorem dL_law_635 : decode cL_law 635 = .ok (.iconst 5, 1) := by decide +kernel
theorem dL_law_636 : decode cL_law 636 = .ok (.invokevirtual 28, 3) := by decide +kernel
theorem dL_law_639 : decode cL_law 639 = .ok (.if_icmp .ne 43, 3) := by decide +kernel
theorem dL_law_642 : decode cL_law 642 = .ok (.aload_n 1, 1) := by decide +kernel
theorem dL_law_643 : decode cL_law 643 = .ok (.iload 13, 2) := by decide +kernel
theorem dL_law_645 : decode cL_law 645 = .ok (.iconst 3, 1) := by decide +kernel
theorem dL_law_646 : decode cL_law 646 = .ok (.invokevirtual 42, 3) := by decide +kernel
theorem dL_law_649 : decode cL_law 649 = .ok (.iload 14, 2) := by decide +kernel
theorem dL_law_651 : decode cL_law 651 = .ok (.iload 15, 2) := by decide +kernel
theorem dL_law_653 : decode cL_law 653 = .ok (.if_icmp .ne 8, 3) := by decide +kernel
theorem dL_law_656 : decode cL_law 656 = .ok (.bipush (-5), 2) := by decide +kernel
theorem dL_law_658 : decode cL_law 658 = .ok (.goto 17, 3) := by decide +kernel
theorem dL_law_661 : decode cL_law 661 = .ok (.iload 14, 2) := by decide +kernel
theorem dL_law_663 : decode cL_law 663 = .ok (.iload 15, 2) := by decide +kernel
theorem dL_law_665 : decode cL_law 665 = .ok (.if_icmp .ge 8, 3) := by decide +kernel
theorem dL_law_668 : decode cL_law 668 = .ok (.iload 14, 2) := by decide +kernel
theorem dL_law_670 : decode cL_law 670 = .ok (.goto 5, 3) := by decide +kernel
theorem dL_law_673 : decode cL_law 673 = .ok (.iload 15, 2) := by decide +kernel
theorem dL_law_675 : decode cL_law 675 = .ok (.if_icmp .ne 7, 3) := by decide +kernel
theorem dL_law_678 : decode cL_law 678 = .ok (.iconst 1, 1) := by decide +kernel
theorem dL_law_679 : decode cL_law 679 = .ok (.goto 4, 3) := by decide +kernel
theorem dL_law_682 : decode cL_law 682 = .ok (.iconst 0, 1) := by decide +kernel
theorem dL_law_683 : decode cL_law 683 = .ok (.istore 11, 2) := by decide +kernel
theorem dL_law_685 : decode cL_law 685 = .ok (.goto 279, 3) := by decide +kernel
theorem dL_law_688 : decode cL_law 688 = .ok (.iload 6, 2) := by decide +kernel
theorem dL_law_690 : decode cL_law 690 = .ok (.bipush 11, 2) := by decide +kernel
theorem dL_law_692 : decode cL_law 692 = .ok (.if_icmp .ne 39, 3) := by decide +kernel
theorem dL_law_695 : decode cL_law 695 = .ok (.aload_n 1, 1) := by decide +kernel
theorem dL_law_696 : decode cL_law 696 = .ok (.bipush 9, 2) := by decide +kernel
theorem dL_law_698 : decode cL_law 698 = .ok (.invokevirtual 28, 3) := by decide +kernel
theorem dL_law_701 : decode cL_law 701 = .ok (.istore 12, 2) := by decide +kernel
theorem dL_law_703 : decode cL_law 703 = .ok (.aload_n 1, 1) := by decide +kernel
theorem dL_law_704 : decode cL_law 704 = .ok (.iconst 1, 1) := by decide +kernel
theorem dL_law_705 : decode cL_law 705 = .ok (.iload 5, 2) := by decide +kernel
theorem dL_law_707 : decode cL_law 707 = .ok (.bipush 6, 2) := by decide +kernel
theorem dL_law_709 : decode cL_law 709 = .ok (.invokestatic 74, 3) := by decide +kernel
theorem dL_law_712 : decode cL_law 712 = .ok (.iadd, 1) := by decide +kernel
theorem dL_law_713 : decode cL_law 713 = .ok (.invokevirtual 106, 3) := by decide +kernel
theorem dL_law_716 : decode cL_law 716 = .ok (.iload 12, 2) := by decide +kernel
theorem dL_law_718 : decode cL_law 718 = .ok (.if_icmp .ne 7, 3) := by decide +kernel
theorem dL_law_721 : decode cL_law 721 = .ok (.iconst 1, 1) := by decide +kernel
theorem dL_law_722 : decode cL_law 722 = .ok (.goto 4, 3) := by decide +kernel
theorem dL_law_725 : decode cL_law 725 = .ok (.iconst 0, 1) := by decide +kernel
theorem dL_law_726 : decode cL_law 726 = .ok (.istore 11, 2) := by decide +kernel
theorem dL_law_728 : decode cL_law 728 = .ok (.goto 236, 3) := by decide +kernel
theorem dL_law_731 : decode cL_law 731 = .ok (.iload 6, 2) := by decide +kernel
theorem dL_law_733 : decode cL_law 733 = .ok (.bipush 12, 2) := by decide +kernel
theorem dL_law_735 : decode cL_law 735 = .ok (.if_icmp .ne 59, 3) := by decide +kernel
theorem dL_law_738 : decode cL_law 738 = .ok (.aload_n 1, 1) := by decide +kernel
theorem dL_law_739 : decode cL_law 739 = .ok (.bipush 10, 2) := by decide +kernel
theorem dL_law_741 : decode cL_law 741 = .ok (.invokevirtual 28, 3) := by decide +kernel
theorem dL_law_744 : decode cL_law 744 = .ok (.istore 12, 2) := by decide +kernel
theorem dL_law_746 : decode cL_law 746 = .ok (.aload_n 1, 1) := by decide +kernel
theorem dL_law_747 : decode cL_law 747 = .ok (.iload 5, 2) := by decide +kernel
theorem dL_law_749 : decode cL_law 749 = .ok (.bipush 20, 2) := by decide +kernel
theorem dL_law_751 : decode cL_law 751 = .ok (.invokestatic 74, 3) := by decide +kernel
theorem dL_law_754 : decode cL_law 754 = .ok (.invokevirtual 109, 3) := by decide +kernel
theorem dL_law_757 : decode cL_law 757 = .ok (.iload 12, 2) := by decide +kernel
theorem dL_law_759 : decode cL_law 759 = .ok (.if_icmp .ne 29, 3) := by decide +kernel
theorem dL_law_762 : decode cL_law 762 = .ok (.aload_n 1, 1) := by decide +kernel
theorem dL_law_763 : decode cL_law 763 = .ok (.iconst 1, 1) := by decide +kernel
theorem dL_law_764 : decode cL_law 764 = .ok (.iload 4, 2) := by decide +kernel
theorem dL_law_766 : decode cL_law 766 = .ok (.bipush 50, 2) := by decide +kernel
theorem dL_law_768 : decode cL_law 768 = .ok (.invokestatic 74, 3) := by decide +kernel
theorem dL_law_771 : decode cL_law 771 = .ok (.iadd, 1) := by decide +kernel
theorem dL_law_772 : decode cL_law 772 = .ok (.invokevirtual 112, 3) := by decide +kernel
theorem dL_law_775 : decode cL_law 775 = .ok (.aload_n 1, 1) := by decide +kernel
theorem dL_law_776 : decode cL_law 776 = .ok (.bipush 8, 2) := by decide +kernel
theorem dL_law_778 : decode cL_law 778 = .ok (.invokevirtual 28, 3) := by decide +kernel
theorem dL_law_781 : decode cL_law 781 = .ok (.if_icmp .ne 7, 3) := by decide +kernel
theorem dL_law_784 : decode cL_law 784 = .ok (.iconst 1, 1) := by decide +kernel
theorem dL_law_785 : decode cL_law 785 = .ok (.goto 4, 3) := by decide +kernel
theorem dL_law_788 : decode cL_law 788 = .ok (.iconst 0, 1) := by decide +kernel
theorem dL_law_789 : decode cL_law 789 = .ok (.istore 11, 2) := by decide +kernel
theorem dL_law_791 : decode cL_law 791 = .ok (.goto 173, 3) := by decide +kernel
theorem dL_law_794 : decode cL_law 794 = .ok (.iload 6, 2) := by decide +kernel
theorem dL_law_796 : decode cL_law 796 = .ok (.bipush 13, 2) := by decide +kernel
theorem dL_law_798 : decode cL_law 798 = .ok (.if_icmp .ne 86, 3) := by decide +kernel
theorem dL_law_801 : decode cL_law 801 = .ok (.iconst 1, 1) := by decide +kernel
theorem dL_law_802 : decode cL_law 802 = .ok (.iload 4, 2) := by decide +kernel
theorem dL_law_804 : decode cL_law 804 = .ok (.iconst 3, 1) := by decide +kernel
theorem dL_law_805 : decode cL_law 805 = .ok (.invokestatic 74, 3) := by decide +kernel
theorem dL_law_808 : decode cL_law 808 = .ok (.iadd, 1) := by decide +kernel
theorem dL_law_809 : decode cL_law 809 = .ok (.istore 12, 2) := by decide +kernel
theorem dL_law_811 : decode cL_law 811 = .ok (.iload 5, 2) := by decide +kernel
theorem dL_law_813 : decode cL_law 813 = .ok (.bipush 64, 2) := by decide +kernel
theorem dL_law_815 : decode cL_law 815 = .ok (.invokestatic 74, 3) := by decide +kernel
theorem dL_law_818 : decode cL_law 818 = .ok (.istore 13, 2) := by decide +kernel
theorem dL_law_820 : decode cL_law 820 = .ok (.aload_n 1, 1) := by decide +kernel
theorem dL_law_821 : decode cL_law 821 = .ok (.iload 5, 2) := by decide +kernel
theorem dL_law_823 : decode cL_law 823 = .ok (.bipush 6, 2) := by decide +kernel
theorem dL_law_825 : decode cL_law 825 = .ok (.ishr, 1) := by decide +kernel
theorem dL_law_826 : decode cL_law 826 = .ok (.iconst 4, 1) := by decide +kernel
theorem dL_law_827 : decode cL_law 827 = .ok (.invokestatic 74, 3) := by decide +kernel
theorem dL_law_830 : decode cL_law 830 = .ok (.iload 12, 2) := by decide +kernel
theorem dL_law_832 : decode cL_law 832 = .ok (.iload 13, 2) := by decide +kernel
theorem dL_law_834 : decode cL_law 834 = .ok (.invokevirtual 91, 3) := by decide +kernel
theorem dL_law_837 : decode cL_law 837 = .ok (.aload_n 2, 1) := by decide +kernel
theorem dL_law_838 : decode cL_law 838 = .ok (.iconst 4, 1) := by decide +kernel
theorem dL_law_839 : decode cL_law 839 = .ok (.iload 5, 2) := by decide +kernel
theorem dL_law_841 : decode cL_law 841 = .ok (.bipush 6, 2) := by decide +kernel
theorem dL_law_843 : decode cL_law 843 = .ok (.ishr, 1) := by decide +kernel
theorem dL_law_844 : decode cL_law 844 = .ok (.iconst 4, 1) := by decide +kernel
theorem dL_law_845 : decode cL_law 845 = .ok (.invokestatic 74, 3) := by decide +kernel
theorem dL_law_848 : decode cL_law 848 = .ok (.imul, 1) := by decide +kernel
theorem dL_law_849 : decode cL_law 849 = .ok (.iload 12, 2) := by decide +kernel
theorem dL_law_851 : decode cL_law 851 = .ok (.iadd, 1) := by decide +kernel
theorem dL_law_852 : decode cL_law 852 = .ok (.iaload, 1) := by decide +kernel
theorem dL_law_853 : decode cL_law 853 = .ok (.if_icmp .ne 7, 3) := by decide +kernel
theorem dL_law_856 : decode cL_law 856 = .ok (.iconst 1, 1) := by decide +kernel
theorem dL_law_857 : decode cL_law 857 = .ok (.goto 4, 3) := by decide +kernel
theorem dL_law_860 : decode cL_law 860 = .ok (.iconst 0, 1) := by decide +kernel
theorem dL_law_861 : decode cL_law 861 = .ok (.istore 11, 2) := by decide +kernel
theorem dL_law_863 : decode cL_law 863 = .ok (.aload_n 2, 1) := by decide +kernel
theorem dL_law_864 : decode cL_law 864 = .ok (.iconst 4, 1) := by decide +kernel
theorem dL_law_865 : decode cL_law 865 = .ok (.iload 5, 2) := by decide +kernel
theorem dL_law_867 : decode cL_law 867 = .ok (.bipush 6, 2) := by decide +kernel
theorem dL_law_869 : decode cL_law 869 = .ok (.ishr, 1) := by decide +kernel
theorem dL_law_870 : decode cL_law 870 = .ok (.iconst 4, 1) := by decide +kernel
theorem dL_law_871 : decode cL_law 871 = .ok (.invokestatic 74, 3) := by decide +kernel
theorem dL_law_874 : decode cL_law 874 = .ok (.imul, 1) := by decide +kernel
theorem dL_law_875 : decode cL_law 875 = .ok (.iload 12, 2) := by decide +kernel
theorem dL_law_877 : decode cL_law 877 = .ok (.iadd, 1) := by decide +kernel
theorem dL_law_878 : decode cL_law 878 = .ok (.iload 13, 2) := by decide +kernel
theorem dL_law_880 : decode cL_law 880 = .ok (.iastore, 1) := by decide +kernel
theorem dL_law_881 : decode cL_law 881 = .ok (.goto 83, 3) := by decide +kernel
theorem dL_law_884 : decode cL_law 884 = .ok (.iload 6, 2) := by decide +kernel
theorem dL_law_886 : decode cL_law 886 = .ok (.bipush 14, 2) := by decide +kernel
theorem dL_law_888 : decode cL_law 888 = .ok (.if_icmp .ne 25, 3) := by decide +kernel
theorem dL_law_891 : decode cL_law 891 = .ok (.aload_n 1, 1) := by decide +kernel
theorem dL_law_892 : decode cL_law 892 = .ok (.iload 5, 2) := by decide +kernel
theorem dL_law_894 : decode cL_law 894 = .ok (.iconst 1, 1) := by decide +kernel
theorem dL_law_895 : decode cL_law 895 = .ok (.iand, 1) := by decide +kernel
theorem dL_law_896 : decode cL_law 896 = .ok (.iconst 1, 1) := by decide +kernel
theorem dL_law_897 : decode cL_law 897 = .ok (.if_icmp .ne 7, 3) := by decide +kernel
theorem dL_law_900 : decode cL_law 900 = .ok (.iconst 1, 1) := by decide +kernel
theorem dL_law_901 : decode cL_law 901 = .ok (.goto 4, 3) := by decide +kernel
theorem dL_law_904 : decode cL_law 904 = .ok (.iconst 0, 1) := by decide +kernel
theorem dL_law_905 : decode cL_law 905 = .ok (.invokestatic 134, 3) := by decide +kernel
theorem dL_law_908 : decode cL_law 908 = .ok (.istore 11, 2) := by decide +kernel
theorem dL_law_910 : decode cL_law 910 = .ok (.goto 54, 3) := by decide +kernel
theorem dL_law_913 : decode cL_law 913 = .ok (.aload_n 1, 1) := by decide +kernel
theorem dL_law_914 : decode cL_law 914 = .ok (.iload 9, 2) := by decide +kernel
theorem dL_law_916 : decode cL_law 916 = .ok (.iload 5, 2) := by decide +kernel
theorem dL_law_918 : decode cL_law 918 = .ok (.iload 7, 2) := by decide +kernel
theorem dL_law_920 : decode cL_law 920 = .ok (.invokestatic 74, 3) := by decide +kernel
theorem dL_law_923 : decode cL_law 923 = .ok (.invokestatic 138, 3) := by decide +kernel
theorem dL_law_926 : decode cL_law 926 = .ok (.ifCond .eq 35, 3) := by decide +kernel
theorem dL_law_929 : decode cL_law 929 = .ok (.iload 10, 2) := by decide +kernel
theorem dL_law_931 : decode cL_law 931 = .ok (.iload 4, 2) := by decide +kernel
theorem dL_law_933 : decode cL_law 933 = .ok (.iload 8, 2) := by decide +kernel
theorem dL_law_935 : decode cL_law 935 = .ok (.invokestatic 74, 3) := by decide +kernel
theorem dL_law_938 : decode cL_law 938 = .ok (.if_icmp .eq 19, 3) := by decide +kernel
theorem dL_law_941 : decode cL_law 941 = .ok (.aload_n 1, 1) := by decide +kernel
theorem dL_law_942 : decode cL_law 942 = .ok (.iload 10, 2) := by decide +kernel
theorem dL_law_944 : decode cL_law 944 = .ok (.iload 4, 2) := by decide +kernel
theorem dL_law_946 : decode cL_law 946 = .ok (.iload 8, 2) := by decide +kernel
theorem dL_law_948 : decode cL_law 948 = .ok (.invokestatic 74, 3) := by decide +kernel
theorem dL_law_951 : decode cL_law 951 = .ok (.invokestatic 140, 3) := by decide +kernel
theorem dL_law_954 : decode cL_law 954 = .ok (.ifCond .eq 7, 3) := by decide +kernel
theorem dL_law_957 : decode cL_law 957 = .ok (.iconst 1, 1) := by decide +kernel
theorem dL_law_958 : decode cL_law 958 = .ok (.goto 4, 3) := by decide +kernel
theorem dL_law_961 : decode cL_law 961 = .ok (.iconst 0, 1) := by decide +kernel
theorem dL_law_962 : decode cL_law 962 = .ok (.istore 11, 2) := by decide +kernel
theorem dL_law_964 : decode cL_law 964 = .ok (.iload 5, 2) := by decide +kernel
theorem dL_law_966 : decode cL_law 966 = .ok (.iconst 4, 1) := by decide +kernel
theorem dL_law_967 : decode cL_law 967 = .ok (.ishr, 1) := by decide +kernel
theorem dL_law_968 : decode cL_law 968 = .ok (.bipush 32, 2) := by decide +kernel
theorem dL_law_970 : decode cL_law 970 = .ok (.invokestatic 74, 3) := by decide +kernel
theorem dL_law_973 : decode cL_law 973 = .ok (.istore 12, 2) := by decide +kernel
theorem dL_law_975 : decode cL_law 975 = .ok (.iload 11, 2) := by decide +kernel
theorem dL_law_977 : decode cL_law 977 = .ok (.ifCond .eq 36, 3) := by decide +kernel
theorem dL_law_980 : decode cL_law 980 = .ok (.aload_n 1, 1) := by decide +kernel
theorem dL_law_981 : decode cL_law 981 = .ok (.iload 12, 2) := by decide +kernel
theorem dL_law_983 : decode cL_law 983 = .ok (.invokestatic 143, 3) := by decide +kernel
theorem dL_law_986 : decode cL_law 986 = .ok (.ifCond .eq 27, 3) := by decide +kernel
theorem dL_law_989 : decode cL_law 989 = .ok (.aload_n 1, 1) := by decide +kernel
theorem dL_law_990 : decode cL_law 990 = .ok (.aload_n 2, 1) := by decide +kernel
theorem dL_law_991 : decode cL_law 991 = .ok (.iload 12, 2) := by decide +kernel
theorem dL_law_993 : decode cL_law 993 = .ok (.invokestatic 147, 3) := by decide +kernel
theorem dL_law_996 : decode cL_law 996 = .ok (.ifCond .eq 17, 3) := by decide +kernel
theorem dL_law_999 : decode cL_law 999 = .ok (.iload_n 3, 1) := by decide +kernel
theorem dL_law_1000 : decode cL_law 1000 = .ok (.iconst 5, 1) := by decide +kernel
theorem dL_law_1001 : decode cL_law 1001 = .ok (.irem, 1) := by decide +kernel
theorem dL_law_1002 : decode cL_law 1002 = .ok (.iconst 4, 1) := by decide +kernel
theorem dL_law_1003 : decode cL_law 1003 = .ok (.if_icmp .ne 12, 3) := by decide +kernel
theorem dL_law_1006 : decode cL_law 1006 = .ok (.aload_n 1, 1) := by decide +kernel
theorem dL_law_1007 : decode cL_law 1007 = .ok (.invokestatic 151, 3) := by decide +kernel
theorem dL_law_1010 : decode cL_law 1010 = .ok (.ifCond .ne 5, 3) := by decide +kernel
theorem dL_law_1013 : decode cL_law 1013 = .ok (.iconst 0, 1) := by decide +kernel
theorem dL_law_1014 : decode cL_law 1014 = .ok (.ireturn, 1) := by decide +kernel
theorem dL_law_1015 : decode cL_law 1015 = .ok (.iinc 3 1, 3) := by decide +kernel
theorem dL_law_1018 : decode cL_law 1018 = .ok (.goto (-957), 3) := by decide +kernel
theorem dL_law_1021 : decode cL_law 1021 = .ok (.aload_n 1, 1) := by decide +kernel
theorem dL_law_1022 : decode cL_law 1022 = .ok (.invokestatic 155, 3) := by decide +kernel
theorem dL_law_1025 : decode cL_law 1025 = .ok (.ireturn, 1) := by decide +kernel
abbrev vwCl : List vw_C := [(RX0, TX0, 3), (RX1, TX1, 4), (RX2, TX2, 9), (RX3, TX3, 3), (RX4, TX4, 9), (RX5, TX5, 4), (RX6, TX6, 6)]
