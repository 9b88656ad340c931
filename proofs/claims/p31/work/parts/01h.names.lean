theorem dL_errors_12 : decode cL_errors 12 = .ok (.aload_n 0, 1) := by decide +kernel
theorem dL_errors_13 : decode cL_errors 13 = .ok (.iload_n 1, 1) := by decide +kernel
theorem dL_errors_14 : decode cL_errors 14 = .ok (.iconst 0, 1) := by decide +kernel
theorem dL_errors_15 : decode cL_errors 15 = .ok (.iconst 0, 1) := by decide +kernel
theorem dL_errors_16 : decode cL_errors 16 = .ok (.iconst 0, 1) := by decide +kernel
theorem dL_errors_17 : decode cL_errors 17 = .ok (.invokevirtual 87, 3) := by decide +kernel
theorem dL_errors_20 : decode cL_errors 20 = .ok (.iconst (-1), 1) := by decide +kernel
theorem dL_errors_21 : decode cL_errors 21 = .ok (.if_icmp .ne 142, 3) := by decide +kernel
theorem dL_errors_24 : decode cL_errors 24 = .ok (.aload_n 0, 1) := by decide +kernel
theorem dL_errors_25 : decode cL_errors 25 = .ok (.iconst 0, 1) := by decide +kernel
theorem dL_errors_26 : decode cL_errors 26 = .ok (.bipush 8, 2) := by decide +kernel
theorem dL_errors_28 : decode cL_errors 28 = .ok (.iconst 0, 1) := by decide +kernel
theorem dL_errors_29 : decode cL_errors 29 = .ok (.iconst 0, 1) := by decide +kernel
theorem dL_errors_30 : decode cL_errors 30 = .ok (.invokevirtual 87, 3) := by decide +kernel
theorem dL_errors_33 : decode cL_errors 33 = .ok (.bipush (-2), 2) := by decide +kernel
theorem dL_errors_35 : decode cL_errors 35 = .ok (.if_icmp .ne 128, 3) := by decide +kernel
theorem dL_errors_38 : decode cL_errors 38 = .ok (.aload_n 0, 1) := by decide +kernel
theorem dL_errors_39 : decode cL_errors 39 = .ok (.iconst 0, 1) := by decide +kernel
theorem dL_errors_40 : decode cL_errors 40 = .ok (.iconst 0, 1) := by decide +kernel
theorem dL_errors_41 : decode cL_errors 41 = .ok (.iconst (-1), 1) := by decide +kernel
theorem dL_errors_42 : decode cL_errors 42 = .ok (.iconst 0, 1) := by decide +kernel
theorem dL_errors_43 : decode cL_errors 43 = .ok (.invokevirtual 87, 3) := by decide +kernel
theorem dL_errors_46 : decode cL_errors 46 = .ok (.bipush (-2), 2) := by decide +kernel
theorem dL_errors_48 : decode cL_errors 48 = .ok (.if_icmp .ne 115, 3) := by decide +kernel
theorem dL_errors_51 : decode cL_errors 51 = .ok (.aload_n 0, 1) := by decide +kernel
theorem dL_errors_52 : decode cL_errors 52 = .ok (.iconst 0, 1) := by decide +kernel
theorem dL_errors_53 : decode cL_errors 53 = .ok (.iconst 0, 1) := by decide +kernel
theorem dL_errors_54 : decode cL_errors 54 = .ok (.iconst 0, 1) := by decide +kernel
theorem dL_errors_55 : decode cL_errors 55 = .ok (.iconst 4, 1) := by decide +kernel
theorem dL_errors_56 : decode cL_errors 56 = .ok (.invokevirtual 87, 3) := by decide +kernel
theorem dL_errors_59 : decode cL_errors 59 = .ok (.bipush (-2), 2) := by decide +kernel
theorem dL_errors_61 : decode cL_errors 61 = .ok (.if_icmp .ne 102, 3) := by decide +kernel
theorem dL_errors_64 : decode cL_errors 64 = .ok (.aload_n 0, 1) := by decide +kernel
theorem dL_errors_65 : decode cL_errors 65 = .ok (.iconst 4, 1) := by decide +kernel
theorem dL_errors_66 : decode cL_errors 66 = .ok (.iconst 1, 1) := by decide +kernel
theorem dL_errors_67 : decode cL_errors 67 = .ok (.iconst 0, 1) := by decide +kernel
theorem dL_errors_68 : decode cL_errors 68 = .ok (.invokevirtual 91, 3) := by decide +kernel
theorem dL_errors_71 : decode cL_errors 71 = .ok (.iconst (-1), 1) := by decide +kernel
theorem dL_errors_72 : decode cL_errors 72 = .ok (.if_icmp .ne 91, 3) := by decide +kernel
theorem dL_errors_75 : decode cL_errors 75 = .ok (.aload_n 0, 1) := by decide +kernel
theorem dL_errors_76 : decode cL_errors 76 = .ok (.iconst 0, 1) := by decide +kernel
theorem dL_errors_77 : decode cL_errors 77 = .ok (.iconst 0, 1) := by decide +kernel
theorem dL_errors_78 : decode cL_errors 78 = .ok (.iconst 0, 1) := by decide +kernel
theorem dL_errors_79 : decode cL_errors 79 = .ok (.invokevirtual 91, 3) := by decide +kernel
theorem dL_errors_82 : decode cL_errors 82 = .ok (.bipush (-2), 2) := by decide +kernel
theorem dL_errors_84 : decode cL_errors 84 = .ok (.if_icmp .ne 79, 3) := by decide +kernel
theorem dL_errors_87 : decode cL_errors 87 = .ok (.aload_n 0, 1) := by decide +kernel
theorem dL_errors_88 : decode cL_errors 88 = .ok (.iconst 0, 1) := by decide +kernel
theorem dL_errors_89 : decode cL_errors 89 = .ok (.iconst 1, 1) := by decide +kernel
theorem dL_errors_90 : decode cL_errors 90 = .ok (.bipush 64, 2) := by decide +kernel
theorem dL_errors_92 : decode cL_errors 92 = .ok (.invokevirtual 91, 3) := by decide +kernel
theorem dL_errors_95 : decode cL_errors 95 = .ok (.bipush (-2), 2) := by decide +kernel
theorem dL_errors_97 : decode cL_errors 97 = .ok (.if_icmp .ne 66, 3) := by decide +kernel
theorem dL_errors_100 : decode cL_errors 100 = .ok (.aload_n 0, 1) := by decide +kernel
theorem dL_errors_101 : decode cL_errors 101 = .ok (.iload_n 1, 1) := by decide +kernel
theorem dL_errors_102 : decode cL_errors 102 = .ok (.iconst 0, 1) := by decide +kernel
theorem dL_errors_103 : decode cL_errors 103 = .ok (.iconst 0, 1) := by decide +kernel
theorem dL_errors_104 : decode cL_errors 104 = .ok (.invokevirtual 94, 3) := by decide +kernel
theorem dL_errors_107 : decode cL_errors 107 = .ok (.iconst (-1), 1) := by decide +kernel
theorem dL_errors_108 : decode cL_errors 108 = .ok (.if_icmp .ne 55, 3) := by decide +kernel
theorem dL_errors_111 : decode cL_errors 111 = .ok (.aload_n 0, 1) := by decide +kernel
theorem dL_errors_112 : decode cL_errors 112 = .ok (.iconst 0, 1) := by decide +kernel
theorem dL_errors_113 : decode cL_errors 113 = .ok (.bipush 32, 2) := by decide +kernel
theorem dL_errors_115 : decode cL_errors 115 = .ok (.iconst 0, 1) := by decide +kernel
theorem dL_errors_116 : decode cL_errors 116 = .ok (.invokevirtual 94, 3) := by decide +kernel
theorem dL_errors_119 : decode cL_errors 119 = .ok (.bipush (-2), 2) := by decide +kernel
theorem dL_errors_121 : decode cL_errors 121 = .ok (.if_icmp .ne 42, 3) := by decide +kernel
theorem dL_errors_124 : decode cL_errors 124 = .ok (.aload_n 0, 1) := by decide +kernel
theorem dL_errors_125 : decode cL_errors 125 = .ok (.iconst 0, 1) := by decide +kernel
theorem dL_errors_126 : decode cL_errors 126 = .ok (.iconst 0, 1) := by decide +kernel
theorem dL_errors_127 : decode cL_errors 127 = .ok (.bipush (-8), 2) := by decide +kernel
theorem dL_errors_129 : decode cL_errors 129 = .ok (.invokevirtual 94, 3) := by decide +kernel
theorem dL_errors_132 : decode cL_errors 132 = .ok (.bipush (-2), 2) := by decide +kernel
theorem dL_errors_134 : decode cL_errors 134 = .ok (.if_icmp .ne 29, 3) := by decide +kernel
theorem dL_errors_137 : decode cL_errors 137 = .ok (.aload_n 0, 1) := by decide +kernel
theorem dL_errors_138 : decode cL_errors 138 = .ok (.iload_n 2, 1) := by decide +kernel
theorem dL_errors_139 : decode cL_errors 139 = .ok (.iconst 0, 1) := by decide +kernel
theorem dL_errors_140 : decode cL_errors 140 = .ok (.iconst 0, 1) := by decide +kernel
theorem dL_errors_141 : decode cL_errors 141 = .ok (.invokevirtual 97, 3) := by decide +kernel
theorem dL_errors_144 : decode cL_errors 144 = .ok (.iconst (-1), 1) := by decide +kernel
theorem dL_errors_145 : decode cL_errors 145 = .ok (.if_icmp .ne 18, 3) := by decide +kernel
theorem dL_errors_148 : decode cL_errors 148 = .ok (.aload_n 0, 1) := by decide +kernel
theorem dL_errors_149 : decode cL_errors 149 = .ok (.iload_n 2, 1) := by decide +kernel
theorem dL_errors_150 : decode cL_errors 150 = .ok (.iconst 0, 1) := by decide +kernel
theorem dL_errors_151 : decode cL_errors 151 = .ok (.iconst 0, 1) := by decide +kernel
theorem dL_errors_152 : decode cL_errors 152 = .ok (.invokevirtual 100, 3) := by decide +kernel
theorem dL_errors_155 : decode cL_errors 155 = .ok (.iconst (-1), 1) := by decide +kernel
theorem dL_errors_156 : decode cL_errors 156 = .ok (.if_icmp .ne 7, 3) := by decide +kernel
theorem dL_errors_159 : decode cL_errors 159 = .ok (.iconst 1, 1) := by decide +kernel
theorem dL_errors_160 : decode cL_errors 160 = .ok (.goto 4, 3) := by decide +kernel
theorem dL_errors_163 : decode cL_errors 163 = .ok (.iconst 0, 1) := by decide +kernel
theorem dL_errors_164 : decode cL_errors 164 = .ok (.istore_n 3, 1) := by decide +kernel
theorem dL_errors_165 : decode cL_errors 165 = .ok (.iload_n 3, 1) := by decide +kernel
theorem dL_errors_166 : decode cL_errors 166 = .ok (.ifCond .eq 192, 3) := by decide +kernel
theorem dL_errors_169 : decode cL_errors 169 = .ok (.aload_n 0, 1) := by decide +kernel
theorem dL_errors_170 : decode cL_errors 170 = .ok (.bipush 32, 2) := by decide +kernel
theorem dL_errors_172 : decode cL_errors 172 = .ok (.iconst 0, 1) := by decide +kernel
theorem dL_errors_173 : decode cL_errors 173 = .ok (.iconst 0, 1) := by decide +kernel
theorem dL_errors_174 : decode cL_errors 174 = .ok (.iconst 0, 1) := by decide +kernel
theorem dL_errors_175 : decode cL_errors 175 = .ok (.invokevirtual 103, 3) := by decide +kernel
theorem dL_errors_178 : decode cL_errors 178 = .ok (.iconst (-1), 1) := by decide +kernel
theorem dL_errors_179 : decode cL_errors 179 = .ok (.if_icmp .ne 179, 3) := by decide +kernel
theorem dL_errors_182 : decode cL_errors 182 = .ok (.aload_n 0, 1) := by decide +kernel
theorem dL_errors_183 : decode cL_errors 183 = .ok (.iconst 0, 1) := by decide +kernel
theorem dL_errors_184 : decode cL_errors 184 = .ok (.iconst 0, 1) := by decide +kernel
theorem dL_errors_185 : decode cL_errors 185 = .ok (.iconst 4, 1) := by decide +kernel
theorem dL_errors_186 : decode cL_errors 186 = .ok (.iconst 0, 1) := by decide +kernel
theorem dL_errors_187 : decode cL_errors 187 = .ok (.invokevirtual 103, 3) := by decide +kernel
theorem dL_errors_190 : decode cL_errors 190 = .ok (.iconst (-1), 1) := by decide +kernel
theorem dL_errors_191 : decode cL_errors 191 = .ok (.if_icmp .ne 167, 3) := by decide +kernel
theorem dL_errors_194 : decode cL_errors 194 = .ok (.aload_n 0, 1) := by decide +kernel
theorem dL_errors_195 : decode cL_errors 195 = .ok (.iconst 5, 1) := by decide +kernel
theorem dL_errors_196 : decode cL_errors 196 = .ok (.iconst 4, 1) := by decide +kernel
theorem dL_errors_197 : decode cL_errors 197 = .ok (.iconst 0, 1) := by decide +kernel
theorem dL_errors_198 : decode cL_errors 198 = .ok (.iconst 1, 1) := by decide +kernel
theorem dL_errors_199 : decode cL_errors 199 = .ok (.invokevirtual 103, 3) := by decide +kernel
theorem dL_errors_202 : decode cL_errors 202 = .ok (.bipush (-2), 2) := by decide +kernel
theorem dL_errors_204 : decode cL_errors 204 = .ok (.if_icmp .ne 154, 3) := by decide +kernel
theorem dL_errors_207 : decode cL_errors 207 = .ok (.aload_n 0, 1) := by decide +kernel
theorem dL_errors_208 : decode cL_errors 208 = .ok (.iconst 0, 1) := by decide +kernel
theorem dL_errors_209 : decode cL_errors 209 = .ok (.invokevirtual 106, 3) := by decide +kernel
theorem dL_errors_212 : decode cL_errors 212 = .ok (.bipush (-2), 2) := by decide +kernel
theorem dL_errors_214 : decode cL_errors 214 = .ok (.if_icmp .ne 144, 3) := by decide +kernel
theorem dL_errors_217 : decode cL_errors 217 = .ok (.aload_n 0, 1) := by decide +kernel
theorem dL_errors_218 : decode cL_errors 218 = .ok (.bipush 21, 2) := by decide +kernel
theorem dL_errors_220 : decode cL_errors 220 = .ok (.invokevirtual 106, 3) := by decide +kernel
theorem dL_errors_223 : decode cL_errors 223 = .ok (.bipush (-2), 2) := by decide +kernel
theorem dL_errors_225 : decode cL_errors 225 = .ok (.if_icmp .ne 133, 3) := by decide +kernel
theorem dL_errors_228 : decode cL_errors 228 = .ok (.aload_n 0, 1) := by decide +kernel
theorem dL_errors_229 : decode cL_errors 229 = .ok (.bipush 20, 2) := by decide +kernel
theorem dL_errors_231 : decode cL_errors 231 = .ok (.invokevirtual 109, 3) := by decide +kernel
theorem dL_errors_234 : decode cL_errors 234 = .ok (.bipush (-2), 2) := by decide +kernel
theorem dL_errors_236 : decode cL_errors 236 = .ok (.if_icmp .ne 122, 3) := by decide +kernel
theorem dL_errors_239 : decode cL_errors 239 = .ok (.aload_n 0, 1) := by decide +kernel
theorem dL_errors_240 : decode cL_errors 240 = .ok (.iconst 0, 1) := by decide +kernel
theorem dL_errors_241 : decode cL_errors 241 = .ok (.invokevirtual 112, 3) := by decide +kernel
theorem dL_errors_244 : decode cL_errors 244 = .ok (.bipush (-2), 2) := by decide +kernel
theorem dL_errors_246 : decode cL_errors 246 = .ok (.if_icmp .ne 112, 3) := by decide +kernel
theorem dL_errors_249 : decode cL_errors 249 = .ok (.aload_n 0, 1) := by decide +kernel
theorem dL_errors_250 : decode cL_errors 250 = .ok (.ldc 115, 2) := by decide +kernel
theorem dL_errors_252 : decode cL_errors 252 = .ok (.invokevirtual 112, 3) := by decide +kernel
theorem dL_errors_255 : decode cL_errors 255 = .ok (.bipush (-2), 2) := by decide +kernel
theorem dL_errors_257 : decode cL_errors 257 = .ok (.if_icmp .ne 101, 3) := by decide +kernel
theorem dL_errors_260 : decode cL_errors 260 = .ok (.aload_n 0, 1) := by decide +kernel
theorem dL_errors_261 : decode cL_errors 261 = .ok (.iload_n 1, 1) := by decide +kernel
theorem dL_errors_262 : decode cL_errors 262 = .ok (.iconst 0, 1) := by decide +kernel
theorem dL_errors_263 : decode cL_errors 263 = .ok (.iconst 0, 1) := by decide +kernel
theorem dL_errors_264 : decode cL_errors 264 = .ok (.invokevirtual 9, 3) := by decide +kernel
theorem dL_errors_267 : decode cL_errors 267 = .ok (.iconst (-1), 1) := by decide +kernel
theorem dL_errors_268 : decode cL_errors 268 = .ok (.if_icmp .ne 90, 3) := by decide +kernel
theorem dL_errors_271 : decode cL_errors 271 = .ok (.aload_n 0, 1) := by decide +kernel
theorem dL_errors_272 : decode cL_errors 272 = .ok (.iconst 0, 1) := by decide +kernel
theorem dL_errors_273 : decode cL_errors 273 = .ok (.bipush 8, 2) := by decide +kernel
theorem dL_errors_275 : decode cL_errors 275 = .ok (.iconst 0, 1) := by decide +kernel
theorem dL_errors_276 : decode cL_errors 276 = .ok (.invokevirtual 9, 3) := by decide +kernel
theorem dL_errors_279 : decode cL_errors 279 = .ok (.bipush (-2), 2) := by decide +kernel
theorem dL_errors_281 : decode cL_errors 281 = .ok (.if_icmp .ne 77, 3) := by decide +kernel
theorem dL_errors_284 : decode cL_errors 284 = .ok (.aload_n 0, 1) := by decide +kernel
theorem dL_errors_285 : decode cL_errors 285 = .ok (.iconst 0, 1) := by decide +kernel
theorem dL_errors_286 : decode cL_errors 286 = .ok (.iload_n 1, 1) := by decide +kernel
theorem dL_errors_287 : decode cL_errors 287 = .ok (.invokevirtual 15, 3) := by decide +kernel
theorem dL_errors_290 : decode cL_errors 290 = .ok (.iconst (-1), 1) := by decide +kernel
theorem dL_errors_291 : decode cL_errors 291 = .ok (.if_icmp .ne 67, 3) := by decide +kernel
theorem dL_errors_294 : decode cL_errors 294 = .ok (.aload_n 0, 1) := by decide +kernel
theorem dL_errors_295 : decode cL_errors 295 = .ok (.iconst 0, 1) := by decide +kernel
theorem dL_errors_296 : decode cL_errors 296 = .ok (.iload_n 2, 1) := by decide +kernel
theorem dL_errors_297 : decode cL_errors 297 = .ok (.invokevirtual 59, 3) := by decide +kernel
theorem dL_errors_300 : decode cL_errors 300 = .ok (.iconst (-1), 1) := by decide +kernel
theorem dL_errors_301 : decode cL_errors 301 = .ok (.if_icmp .ne 57, 3) := by decide +kernel
theorem dL_errors_304 : decode cL_errors 304 = .ok (.aload_n 0, 1) := by decide +kernel
theorem dL_errors_305 : decode cL_errors 305 = .ok (.bipush 32, 2) := by decide +kernel
theorem dL_errors_307 : decode cL_errors 307 = .ok (.iconst 0, 1) := by decide +kernel
theorem dL_errors_308 : decode cL_errors 308 = .ok (.invokevirtual 42, 3) := by decide +kernel
theorem dL_errors_311 : decode cL_errors 311 = .ok (.iconst (-1), 1) := by decide +kernel
theorem dL_errors_312 : decode cL_errors 312 = .ok (.if_icmp .ne 46, 3) := by decide +kernel
theorem dL_errors_315 : decode cL_errors 315 = .ok (.aload_n 0, 1) := by decide +kernel
theorem dL_errors_316 : decode cL_errors 316 = .ok (.iconst (-1), 1) := by decide +kernel
theorem dL_errors_317 : decode cL_errors 317 = .ok (.iconst 0, 1) := by decide +kernel
theorem dL_errors_318 : decode cL_errors 318 = .ok (.invokevirtual 36, 3) := by decide +kernel
theorem dL_errors_321 : decode cL_errors 321 = .ok (.iconst (-1), 1) := by decide +kernel
theorem dL_errors_322 : decode cL_errors 322 = .ok (.if_icmp .ne 36, 3) := by decide +kernel
theorem dL_errors_325 : decode cL_errors 325 = .ok (.aload_n 0, 1) := by decide +kernel
theorem dL_errors_326 : decode cL_errors 326 = .ok (.bipush 32, 2) := by decide +kernel
theorem dL_errors_328 : decode cL_errors 328 = .ok (.iconst 0, 1) := by decide +kernel
theorem dL_errors_329 : decode cL_errors 329 = .ok (.invokevirtual 39, 3) := by decide +kernel
theorem dL_errors_332 : decode cL_errors 332 = .ok (.iconst (-1), 1) := by decide +kernel
theorem dL_errors_333 : decode cL_errors 333 = .ok (.if_icmp .ne 25, 3) := by decide +kernel
theorem dL_errors_336 : decode cL_errors 336 = .ok (.aload_n 0, 1) := by decide +kernel
theorem dL_errors_337 : decode cL_errors 337 = .ok (.iconst 2, 1) := by decide +kernel
theorem dL_errors_338 : decode cL_errors 338 = .ok (.invokevirtual 116, 3) := by decide +kernel
theorem dL_errors_341 : decode cL_errors 341 = .ok (.iconst (-1), 1) := by decide +kernel
theorem dL_errors_342 : decode cL_errors 342 = .ok (.if_icmp .ne 16, 3) := by decide +kernel
theorem dL_errors_345 : decode cL_errors 345 = .ok (.aload_n 0, 1) := by decide +kernel
theorem dL_errors_346 : decode cL_errors 346 = .ok (.iconst 2, 1) := by decide +kernel
theorem dL_errors_347 : decode cL_errors 347 = .ok (.invokevirtual 119, 3) := by decide +kernel
theorem dL_errors_350 : decode cL_errors 350 = .ok (.iconst (-1), 1) := by decide +kernel
theorem dL_errors_351 : decode cL_errors 351 = .ok (.if_icmp .ne 7, 3) := by decide +kernel
theorem dL_errors_354 : decode cL_errors 354 = .ok (.iconst 1, 1) := by decide +kernel
theorem dL_errors_355 : decode cL_errors 355 = .ok (.goto 4, 3) := by decide +kernel
theorem dL_errors_358 : decode cL_errors 358 = .ok (.iconst 0, 1) := by decide +kernel
theorem dL_errors_359 : decode cL_errors 359 = .ok (.ireturn, 1) := by decide +kernel
abbrev vwCl : List vw_C := [(RX0, TX0, 3), (RX1, TX1, 4), (RX2, TX2, 9), (RX3, TX3, 3), (RX4, TX4, 9), (RX5, TX5, 4), (RX6, TX6, 6)]
