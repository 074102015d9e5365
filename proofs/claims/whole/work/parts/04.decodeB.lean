theorem dX12_init_0 : decode cX12_init 0 = .ok (.aload_n 0, 1) := by decide +kernel
theorem dX12_init_1 : decode cX12_init 1 = .ok (.invokespecial 1, 3) := by decide +kernel
theorem dX12_init_4 : decode cX12_init 4 = .ok (.aload_n 0, 1) := by decide +kernel
theorem dX12_init_5 : decode cX12_init 5 = .ok (.iconst 0, 1) := by decide +kernel
theorem dX12_init_6 : decode cX12_init 6 = .ok (.putfield 7, 3) := by decide +kernel
theorem dX12_init_9 : decode cX12_init 9 = .ok (.aload_n 0, 1) := by decide +kernel
theorem dX12_init_10 : decode cX12_init 10 = .ok (.iconst 0, 1) := by decide +kernel
theorem dX12_init_11 : decode cX12_init 11 = .ok (.putfield 13, 3) := by decide +kernel
theorem dX12_init_14 : decode cX12_init 14 = .ok (.aload_n 0, 1) := by decide +kernel
theorem dX12_init_15 : decode cX12_init 15 = .ok (.iconst 0, 1) := by decide +kernel
theorem dX12_init_16 : decode cX12_init 16 = .ok (.putfield 16, 3) := by decide +kernel
theorem dX12_init_19 : decode cX12_init 19 = .ok (.aload_n 0, 1) := by decide +kernel
theorem dX12_init_20 : decode cX12_init 20 = .ok (.bipush 7, 2) := by decide +kernel
theorem dX12_init_22 : decode cX12_init 22 = .ok (.newarray .int, 2) := by decide +kernel
theorem dX12_init_24 : decode cX12_init 24 = .ok (.putfield 19, 3) := by decide +kernel
theorem dX12_init_27 : decode cX12_init 27 = .ok (.aload_n 0, 1) := by decide +kernel
theorem dX12_init_28 : decode cX12_init 28 = .ok (.bipush 7, 2) := by decide +kernel
theorem dX12_init_30 : decode cX12_init 30 = .ok (.newarray .int, 2) := by decide +kernel
theorem dX12_init_32 : decode cX12_init 32 = .ok (.putfield 23, 3) := by decide +kernel
theorem dX12_init_35 : decode cX12_init 35 = .ok (.aload_n 0, 1) := by decide +kernel
theorem dX12_init_36 : decode cX12_init 36 = .ok (.bipush 7, 2) := by decide +kernel
theorem dX12_init_38 : decode cX12_init 38 = .ok (.newarray .int, 2) := by decide +kernel
theorem dX12_init_40 : decode cX12_init 40 = .ok (.putfield 26, 3) := by decide +kernel
theorem dX12_init_43 : decode cX12_init 43 = .ok (.aload_n 0, 1) := by decide +kernel
theorem dX12_init_44 : decode cX12_init 44 = .ok (.bipush 7, 2) := by decide +kernel
theorem dX12_init_46 : decode cX12_init 46 = .ok (.newarray .int, 2) := by decide +kernel
theorem dX12_init_48 : decode cX12_init 48 = .ok (.putfield 29, 3) := by decide +kernel
theorem dX12_init_51 : decode cX12_init 51 = .ok (.aload_n 0, 1) := by decide +kernel
theorem dX12_init_52 : decode cX12_init 52 = .ok (.bipush 7, 2) := by decide +kernel
theorem dX12_init_54 : decode cX12_init 54 = .ok (.newarray .int, 2) := by decide +kernel
theorem dX12_init_56 : decode cX12_init 56 = .ok (.putfield 32, 3) := by decide +kernel
theorem dX12_init_59 : decode cX12_init 59 = .ok (.aload_n 0, 1) := by decide +kernel
theorem dX12_init_60 : decode cX12_init 60 = .ok (.bipush 28, 2) := by decide +kernel
theorem dX12_init_62 : decode cX12_init 62 = .ok (.newarray .int, 2) := by decide +kernel
theorem dX12_init_64 : decode cX12_init 64 = .ok (.putfield 35, 3) := by decide +kernel
theorem dX12_init_67 : decode cX12_init 67 = .ok (.aload_n 0, 1) := by decide +kernel
theorem dX12_init_68 : decode cX12_init 68 = .ok (.iconst 4, 1) := by decide +kernel
theorem dX12_init_69 : decode cX12_init 69 = .ok (.newarray .int, 2) := by decide +kernel
theorem dX12_init_71 : decode cX12_init 71 = .ok (.dup, 1) := by decide +kernel
theorem dX12_init_72 : decode cX12_init 72 = .ok (.iconst 0, 1) := by decide +kernel
theorem dX12_init_73 : decode cX12_init 73 = .ok (.iconst 3, 1) := by decide +kernel
theorem dX12_init_74 : decode cX12_init 74 = .ok (.iastore, 1) := by decide +kernel
theorem dX12_init_75 : decode cX12_init 75 = .ok (.dup, 1) := by decide +kernel
theorem dX12_init_76 : decode cX12_init 76 = .ok (.iconst 1, 1) := by decide +kernel
theorem dX12_init_77 : decode cX12_init 77 = .ok (.iconst 3, 1) := by decide +kernel
theorem dX12_init_78 : decode cX12_init 78 = .ok (.iastore, 1) := by decide +kernel
theorem dX12_init_79 : decode cX12_init 79 = .ok (.dup, 1) := by decide +kernel
theorem dX12_init_80 : decode cX12_init 80 = .ok (.iconst 2, 1) := by decide +kernel
theorem dX12_init_81 : decode cX12_init 81 = .ok (.iconst 3, 1) := by decide +kernel
theorem dX12_init_82 : decode cX12_init 82 = .ok (.iastore, 1) := by decide +kernel
theorem dX12_init_83 : decode cX12_init 83 = .ok (.dup, 1) := by decide +kernel
theorem dX12_init_84 : decode cX12_init 84 = .ok (.iconst 3, 1) := by decide +kernel
theorem dX12_init_85 : decode cX12_init 85 = .ok (.iconst 3, 1) := by decide +kernel
theorem dX12_init_86 : decode cX12_init 86 = .ok (.iastore, 1) := by decide +kernel
theorem dX12_init_87 : decode cX12_init 87 = .ok (.putfield 38, 3) := by decide +kernel
theorem dX12_init_90 : decode cX12_init 90 = .ok (.aload_n 0, 1) := by decide +kernel
theorem dX12_init_91 : decode cX12_init 91 = .ok (.iconst 0, 1) := by decide +kernel
theorem dX12_init_92 : decode cX12_init 92 = .ok (.putfield 41, 3) := by decide +kernel
theorem dX12_init_95 : decode cX12_init 95 = .ok (.aload_n 0, 1) := by decide +kernel
theorem dX12_init_96 : decode cX12_init 96 = .ok (.iconst (-1), 1) := by decide +kernel
theorem dX12_init_97 : decode cX12_init 97 = .ok (.putfield 44, 3) := by decide +kernel
theorem dX12_init_100 : decode cX12_init 100 = .ok (.aload_n 0, 1) := by decide +kernel
theorem dX12_init_101 : decode cX12_init 101 = .ok (.iconst 0, 1) := by decide +kernel
theorem dX12_init_102 : decode cX12_init 102 = .ok (.putfield 47, 3) := by decide +kernel
theorem dX12_init_105 : decode cX12_init 105 = .ok (.aload_n 0, 1) := by decide +kernel
theorem dX12_init_106 : decode cX12_init 106 = .ok (.iconst 0, 1) := by decide +kernel
theorem dX12_init_107 : decode cX12_init 107 = .ok (.putfield 50, 3) := by decide +kernel
theorem dX12_init_110 : decode cX12_init 110 = .ok (.aload_n 0, 1) := by decide +kernel
theorem dX12_init_111 : decode cX12_init 111 = .ok (.iconst 0, 1) := by decide +kernel
theorem dX12_init_112 : decode cX12_init 112 = .ok (.putfield 53, 3) := by decide +kernel
theorem dX12_init_115 : decode cX12_init 115 = .ok (.aload_n 0, 1) := by decide +kernel
theorem dX12_init_116 : decode cX12_init 116 = .ok (.bipush 100, 2) := by decide +kernel
theorem dX12_init_118 : decode cX12_init 118 = .ok (.newarray .int, 2) := by decide +kernel
theorem dX12_init_120 : decode cX12_init 120 = .ok (.putfield 56, 3) := by decide +kernel
theorem dX12_init_123 : decode cX12_init 123 = .ok (.aload_n 0, 1) := by decide +kernel
theorem dX12_init_124 : decode cX12_init 124 = .ok (.bipush 6, 2) := by decide +kernel
theorem dX12_init_126 : decode cX12_init 126 = .ok (.newarray .int, 2) := by decide +kernel
theorem dX12_init_128 : decode cX12_init 128 = .ok (.putfield 59, 3) := by decide +kernel
theorem dX12_init_131 : decode cX12_init 131 = .ok (.aload_n 0, 1) := by decide +kernel
theorem dX12_init_132 : decode cX12_init 132 = .ok (.bipush 60, 2) := by decide +kernel
theorem dX12_init_134 : decode cX12_init 134 = .ok (.newarray .int, 2) := by decide +kernel
theorem dX12_init_136 : decode cX12_init 136 = .ok (.putfield 62, 3) := by decide +kernel
theorem dX12_init_139 : decode cX12_init 139 = .ok (.aload_n 0, 1) := by decide +kernel
theorem dX12_init_140 : decode cX12_init 140 = .ok (.bipush 60, 2) := by decide +kernel
theorem dX12_init_142 : decode cX12_init 142 = .ok (.newarray .int, 2) := by decide +kernel
theorem dX12_init_144 : decode cX12_init 144 = .ok (.putfield 65, 3) := by decide +kernel
theorem dX12_init_147 : decode cX12_init 147 = .ok (.aload_n 0, 1) := by decide +kernel
theorem dX12_init_148 : decode cX12_init 148 = .ok (.bipush 60, 2) := by decide +kernel
theorem dX12_init_150 : decode cX12_init 150 = .ok (.newarray .int, 2) := by decide +kernel
theorem dX12_init_152 : decode cX12_init 152 = .ok (.putfield 68, 3) := by decide +kernel
theorem dX12_init_155 : decode cX12_init 155 = .ok (.aload_n 0, 1) := by decide +kernel
theorem dX12_init_156 : decode cX12_init 156 = .ok (.bipush 60, 2) := by decide +kernel
theorem dX12_init_158 : decode cX12_init 158 = .ok (.newarray .int, 2) := by decide +kernel
theorem dX12_init_160 : decode cX12_init 160 = .ok (.putfield 71, 3) := by decide +kernel
theorem dX12_init_163 : decode cX12_init 163 = .ok (.aload_n 0, 1) := by decide +kernel
theorem dX12_init_164 : decode cX12_init 164 = .ok (.sipush 600, 3) := by decide +kernel
theorem dX12_init_167 : decode cX12_init 167 = .ok (.newarray .int, 2) := by decide +kernel
theorem dX12_init_169 : decode cX12_init 169 = .ok (.putfield 74, 3) := by decide +kernel
theorem dX12_init_172 : decode cX12_init 172 = .ok (.aload_n 0, 1) := by decide +kernel
theorem dX12_init_173 : decode cX12_init 173 = .ok (.bipush 101, 2) := by decide +kernel
theorem dX12_init_175 : decode cX12_init 175 = .ok (.newarray .int, 2) := by decide +kernel
theorem dX12_init_177 : decode cX12_init 177 = .ok (.putfield 77, 3) := by decide +kernel
theorem dX12_init_180 : decode cX12_init 180 = .ok (.aload_n 0, 1) := by decide +kernel
theorem dX12_init_181 : decode cX12_init 181 = .ok (.iconst 0, 1) := by decide +kernel
theorem dX12_init_182 : decode cX12_init 182 = .ok (.putfield 80, 3) := by decide +kernel
theorem dX12_init_185 : decode cX12_init 185 = .ok (.aload_n 0, 1) := by decide +kernel
theorem dX12_init_186 : decode cX12_init 186 = .ok (.iconst 0, 1) := by decide +kernel
theorem dX12_init_187 : decode cX12_init 187 = .ok (.putfield 83, 3) := by decide +kernel
theorem dX12_init_190 : decode cX12_init 190 = .ok (.aload_n 0, 1) := by decide +kernel
theorem dX12_init_191 : decode cX12_init 191 = .ok (.iconst 0, 1) := by decide +kernel
theorem dX12_init_192 : decode cX12_init 192 = .ok (.putfield 86, 3) := by decide +kernel
theorem dX12_init_195 : decode cX12_init 195 = .ok (.aload_n 0, 1) := by decide +kernel
theorem dX12_init_196 : decode cX12_init 196 = .ok (.bipush 23, 2) := by decide +kernel
theorem dX12_init_198 : decode cX12_init 198 = .ok (.newarray .int, 2) := by decide +kernel
theorem dX12_init_200 : decode cX12_init 200 = .ok (.dup, 1) := by decide +kernel
theorem dX12_init_201 : decode cX12_init 201 = .ok (.iconst 0, 1) := by decide +kernel
theorem dX12_init_202 : decode cX12_init 202 = .ok (.bipush 119, 2) := by decide +kernel
theorem dX12_init_204 : decode cX12_init 204 = .ok (.iastore, 1) := by decide +kernel
theorem dX12_init_205 : decode cX12_init 205 = .ok (.dup, 1) := by decide +kernel
theorem dX12_init_206 : decode cX12_init 206 = .ok (.iconst 1, 1) := by decide +kernel
theorem dX12_init_207 : decode cX12_init 207 = .ok (.bipush 111, 2) := by decide +kernel
theorem dX12_init_209 : decode cX12_init 209 = .ok (.iastore, 1) := by decide +kernel
theorem dX12_init_210 : decode cX12_init 210 = .ok (.dup, 1) := by decide +kernel
theorem dX12_init_211 : decode cX12_init 211 = .ok (.iconst 2, 1) := by decide +kernel
theorem dX12_init_212 : decode cX12_init 212 = .ok (.bipush 98, 2) := by decide +kernel
theorem dX12_init_214 : decode cX12_init 214 = .ok (.iastore, 1) := by decide +kernel
theorem dX12_init_215 : decode cX12_init 215 = .ok (.dup, 1) := by decide +kernel
theorem dX12_init_216 : decode cX12_init 216 = .ok (.iconst 3, 1) := by decide +kernel
theorem dX12_init_217 : decode cX12_init 217 = .ok (.bipush 98, 2) := by decide +kernel
theorem dX12_init_219 : decode cX12_init 219 = .ok (.iastore, 1) := by decide +kernel
theorem dX12_init_220 : decode cX12_init 220 = .ok (.dup, 1) := by decide +kernel
theorem dX12_init_221 : decode cX12_init 221 = .ok (.iconst 4, 1) := by decide +kernel
theorem dX12_init_222 : decode cX12_init 222 = .ok (.bipush 108, 2) := by decide +kernel
theorem dX12_init_224 : decode cX12_init 224 = .ok (.iastore, 1) := by decide +kernel
theorem dX12_init_225 : decode cX12_init 225 = .ok (.dup, 1) := by decide +kernel
theorem dX12_init_226 : decode cX12_init 226 = .ok (.iconst 5, 1) := by decide +kernel
theorem dX12_init_227 : decode cX12_init 227 = .ok (.bipush 101, 2) := by decide +kernel
theorem dX12_init_229 : decode cX12_init 229 = .ok (.iastore, 1) := by decide +kernel
theorem dX12_init_230 : decode cX12_init 230 = .ok (.dup, 1) := by decide +kernel
theorem dX12_init_231 : decode cX12_init 231 = .ok (.bipush 6, 2) := by decide +kernel
theorem dX12_init_233 : decode cX12_init 233 = .ok (.bipush 115, 2) := by decide +kernel
theorem dX12_init_235 : decode cX12_init 235 = .ok (.iastore, 1) := by decide +kernel
theorem dX12_init_236 : decode cX12_init 236 = .ok (.dup, 1) := by decide +kernel
theorem dX12_init_237 : decode cX12_init 237 = .ok (.bipush 7, 2) := by decide +kernel
theorem dX12_init_239 : decode cX12_init 239 = .ok (.bipush 116, 2) := by decide +kernel
theorem dX12_init_241 : decode cX12_init 241 = .ok (.iastore, 1) := by decide +kernel
theorem dX12_init_242 : decode cX12_init 242 = .ok (.dup, 1) := by decide +kernel
theorem dX12_init_243 : decode cX12_init 243 = .ok (.bipush 8, 2) := by decide +kernel
theorem dX12_init_245 : decode cX12_init 245 = .ok (.bipush 105, 2) := by decide +kernel
theorem dX12_init_247 : decode cX12_init 247 = .ok (.iastore, 1) := by decide +kernel
theorem dX12_init_248 : decode cX12_init 248 = .ok (.dup, 1) := by decide +kernel
theorem dX12_init_249 : decode cX12_init 249 = .ok (.bipush 9, 2) := by decide +kernel
theorem dX12_init_251 : decode cX12_init 251 = .ok (.bipush 108, 2) := by decide +kernel
theorem dX12_init_253 : decode cX12_init 253 = .ok (.iastore, 1) := by decide +kernel
theorem dX12_init_254 : decode cX12_init 254 = .ok (.dup, 1) := by decide +kernel
theorem dX12_init_255 : decode cX12_init 255 = .ok (.bipush 10, 2) := by decide +kernel
theorem dX12_init_257 : decode cX12_init 257 = .ok (.bipush 108, 2) := by decide +kernel
theorem dX12_init_259 : decode cX12_init 259 = .ok (.iastore, 1) := by decide +kernel
theorem dX12_init_260 : decode cX12_init 260 = .ok (.dup, 1) := by decide +kernel
theorem dX12_init_261 : decode cX12_init 261 = .ok (.bipush 11, 2) := by decide +kernel
theorem dX12_init_263 : decode cX12_init 263 = .ok (.bipush 102, 2) := by decide +kernel
theorem dX12_init_265 : decode cX12_init 265 = .ok (.iastore, 1) := by decide +kernel
theorem dX12_init_266 : decode cX12_init 266 = .ok (.dup, 1) := by decide +kernel
theorem dX12_init_267 : decode cX12_init 267 = .ok (.bipush 12, 2) := by decide +kernel
theorem dX12_init_269 : decode cX12_init 269 = .ok (.bipush 97, 2) := by decide +kernel
theorem dX12_init_271 : decode cX12_init 271 = .ok (.iastore, 1) := by decide +kernel
theorem dX12_init_272 : decode cX12_init 272 = .ok (.dup, 1) := by decide +kernel
theorem dX12_init_273 : decode cX12_init 273 = .ok (.bipush 13, 2) := by decide +kernel
theorem dX12_init_275 : decode cX12_init 275 = .ok (.bipush 114, 2) := by decide +kernel
theorem dX12_init_277 : decode cX12_init 277 = .ok (.iastore, 1) := by decide +kernel
theorem dX12_init_278 : decode cX12_init 278 = .ok (.dup, 1) := by decide +kernel
theorem dX12_init_279 : decode cX12_init 279 = .ok (.bipush 14, 2) := by decide +kernel
theorem dX12_init_281 : decode cX12_init 281 = .ok (.bipush 115, 2) := by decide +kernel
theorem dX12_init_283 : decode cX12_init 283 = .ok (.iastore, 1) := by decide +kernel
theorem dX12_init_284 : decode cX12_init 284 = .ok (.dup, 1) := by decide +kernel
theorem dX12_init_285 : decode cX12_init 285 = .ok (.bipush 15, 2) := by decide +kernel
theorem dX12_init_287 : decode cX12_init 287 = .ok (.bipush 104, 2) := by decide +kernel
theorem dX12_init_289 : decode cX12_init 289 = .ok (.iastore, 1) := by decide +kernel
theorem dX12_init_290 : decode cX12_init 290 = .ok (.dup, 1) := by decide +kernel
theorem dX12_init_291 : decode cX12_init 291 = .ok (.bipush 16, 2) := by decide +kernel
theorem dX12_init_293 : decode cX12_init 293 = .ok (.bipush 97, 2) := by decide +kernel
theorem dX12_init_295 : decode cX12_init 295 = .ok (.iastore, 1) := by decide +kernel
theorem dX12_init_296 : decode cX12_init 296 = .ok (.dup, 1) := by decide +kernel
theorem dX12_init_297 : decode cX12_init 297 = .ok (.bipush 17, 2) := by decide +kernel
theorem dX12_init_299 : decode cX12_init 299 = .ok (.bipush 114, 2) := by decide +kernel
theorem dX12_init_301 : decode cX12_init 301 = .ok (.iastore, 1) := by decide +kernel
theorem dX12_init_302 : decode cX12_init 302 = .ok (.dup, 1) := by decide +kernel
theorem dX12_init_303 : decode cX12_init 303 = .ok (.bipush 18, 2) := by decide +kernel
theorem dX12_init_305 : decode cX12_init 305 = .ok (.bipush 112, 2) := by decide +kernel
theorem dX12_init_307 : decode cX12_init 307 = .ok (.iastore, 1) := by decide +kernel
theorem dX12_init_308 : decode cX12_init 308 = .ok (.dup, 1) := by decide +kernel
theorem dX12_init_309 : decode cX12_init 309 = .ok (.bipush 19, 2) := by decide +kernel
theorem dX12_init_311 : decode cX12_init 311 = .ok (.bipush 115, 2) := by decide +kernel
theorem dX12_init_313 : decode cX12_init 313 = .ok (.iastore, 1) := by decide +kernel
theorem dX12_init_314 : decode cX12_init 314 = .ok (.dup, 1) := by decide +kernel
theorem dX12_init_315 : decode cX12_init 315 = .ok (.bipush 20, 2) := by decide +kernel
theorem dX12_init_317 : decode cX12_init 317 = .ok (.bipush 101, 2) := by decide +kernel
theorem dX12_init_319 : decode cX12_init 319 = .ok (.iastore, 1) := by decide +kernel
theorem dX12_init_320 : decode cX12_init 320 = .ok (.dup, 1) := by decide +kernel
theorem dX12_init_321 : decode cX12_init 321 = .ok (.bipush 21, 2) := by decide +kernel
theorem dX12_init_323 : decode cX12_init 323 = .ok (.bipush 101, 2) := by decide +kernel
theorem dX12_init_325 : decode cX12_init 325 = .ok (.iastore, 1) := by decide +kernel
theorem dX12_init_326 : decode cX12_init 326 = .ok (.dup, 1) := by decide +kernel
theorem dX12_init_327 : decode cX12_init 327 = .ok (.bipush 22, 2) := by decide +kernel
theorem dX12_init_329 : decode cX12_init 329 = .ok (.bipush 115, 2) := by decide +kernel
theorem dX12_init_331 : decode cX12_init 331 = .ok (.iastore, 1) := by decide +kernel
theorem dX12_init_332 : decode cX12_init 332 = .ok (.putfield 89, 3) := by decide +kernel
theorem dX12_init_335 : decode cX12_init 335 = .ok (.aload_n 0, 1) := by decide +kernel
theorem dX12_init_336 : decode cX12_init 336 = .ok (.iconst (-1), 1) := by decide +kernel
theorem dX12_init_337 : decode cX12_init 337 = .ok (.putfield 92, 3) := by decide +kernel
theorem dX12_init_340 : decode cX12_init 340 = .ok (.aload_n 0, 1) := by decide +kernel
theorem dX12_init_341 : decode cX12_init 341 = .ok (.bipush 100, 2) := by decide +kernel
theorem dX12_init_343 : decode cX12_init 343 = .ok (.newarray .boolean, 2) := by decide +kernel
theorem dX12_init_345 : decode cX12_init 345 = .ok (.putfield 95, 3) := by decide +kernel
theorem dX12_init_348 : decode cX12_init 348 = .ok (.aload_n 0, 1) := by decide +kernel
theorem dX12_init_349 : decode cX12_init 349 = .ok (.sipush 9999, 3) := by decide +kernel
theorem dX12_init_352 : decode cX12_init 352 = .ok (.putfield 99, 3) := by decide +kernel
theorem dX12_init_355 : decode cX12_init 355 = .ok (.aload_n 0, 1) := by decide +kernel
theorem dX12_init_356 : decode cX12_init 356 = .ok (.iconst (-1), 1) := by decide +kernel
theorem dX12_init_357 : decode cX12_init 357 = .ok (.putfield 102, 3) := by decide +kernel
theorem dX12_init_360 : decode cX12_init 360 = .ok (.aload_n 0, 1) := by decide +kernel
theorem dX12_init_361 : decode cX12_init 361 = .ok (.bipush 7, 2) := by decide +kernel
theorem dX12_init_363 : decode cX12_init 363 = .ok (.newarray .int, 2) := by decide +kernel
theorem dX12_init_365 : decode cX12_init 365 = .ok (.putfield 105, 3) := by decide +kernel
theorem dX12_init_368 : decode cX12_init 368 = .ok (.aload_n 0, 1) := by decide +kernel
theorem dX12_init_369 : decode cX12_init 369 = .ok (.bipush 7, 2) := by decide +kernel
theorem dX12_init_371 : decode cX12_init 371 = .ok (.newarray .int, 2) := by decide +kernel
theorem dX12_init_373 : decode cX12_init 373 = .ok (.putfield 108, 3) := by decide +kernel
theorem dX12_init_376 : decode cX12_init 376 = .ok (.aload_n 0, 1) := by decide +kernel
theorem dX12_init_377 : decode cX12_init 377 = .ok (.iconst 0, 1) := by decide +kernel
theorem dX12_init_378 : decode cX12_init 378 = .ok (.putfield 111, 3) := by decide +kernel
theorem dX12_init_381 : decode cX12_init 381 = .ok (.aload_n 0, 1) := by decide +kernel
theorem dX12_init_382 : decode cX12_init 382 = .ok (.iconst 0, 1) := by decide +kernel
theorem dX12_init_383 : decode cX12_init 383 = .ok (.putfield 114, 3) := by decide +kernel
theorem dX12_init_386 : decode cX12_init 386 = .ok (.aload_n 0, 1) := by decide +kernel
theorem dX12_init_387 : decode cX12_init 387 = .ok (.bipush 7, 2) := by decide +kernel
theorem dX12_init_389 : decode cX12_init 389 = .ok (.newarray .int, 2) := by decide +kernel
theorem dX12_init_391 : decode cX12_init 391 = .ok (.putfield 117, 3) := by decide +kernel
theorem dX12_init_394 : decode cX12_init 394 = .ok (.aload_n 0, 1) := by decide +kernel
theorem dX12_init_395 : decode cX12_init 395 = .ok (.bipush 7, 2) := by decide +kernel
theorem dX12_init_397 : decode cX12_init 397 = .ok (.newarray .int, 2) := by decide +kernel
theorem dX12_init_399 : decode cX12_init 399 = .ok (.putfield 120, 3) := by decide +kernel
theorem dX12_init_402 : decode cX12_init 402 = .ok (.aload_n 0, 1) := by decide +kernel
theorem dX12_init_403 : decode cX12_init 403 = .ok (.bipush 7, 2) := by decide +kernel
theorem dX12_init_405 : decode cX12_init 405 = .ok (.newarray .int, 2) := by decide +kernel
theorem dX12_init_407 : decode cX12_init 407 = .ok (.putfield 123, 3) := by decide +kernel
theorem dX12_init_410 : decode cX12_init 410 = .ok (.aload_n 0, 1) := by decide +kernel
theorem dX12_init_411 : decode cX12_init 411 = .ok (.iconst 0, 1) := by decide +kernel
theorem dX12_init_412 : decode cX12_init 412 = .ok (.putfield 126, 3) := by decide +kernel
theorem dX12_init_415 : decode cX12_init 415 = .ok (.aload_n 0, 1) := by decide +kernel
theorem dX12_init_416 : decode cX12_init 416 = .ok (.iconst 0, 1) := by decide +kernel
theorem dX12_init_417 : decode cX12_init 417 = .ok (.putfield 129, 3) := by decide +kernel
theorem dX12_init_420 : decode cX12_init 420 = .ok (.aload_n 0, 1) := by decide +kernel
theorem dX12_init_421 : decode cX12_init 421 = .ok (.iconst 4, 1) := by decide +kernel
theorem dX12_init_422 : decode cX12_init 422 = .ok (.newarray .int, 2) := by decide +kernel
theorem dX12_init_424 : decode cX12_init 424 = .ok (.putfield 132, 3) := by decide +kernel
theorem dX12_init_427 : decode cX12_init 427 = .ok (.aload_n 0, 1) := by decide +kernel
theorem dX12_init_428 : decode cX12_init 428 = .ok (.iconst 4, 1) := by decide +kernel
theorem dX12_init_429 : decode cX12_init 429 = .ok (.newarray .int, 2) := by decide +kernel
theorem dX12_init_431 : decode cX12_init 431 = .ok (.putfield 135, 3) := by decide +kernel
theorem dX12_init_434 : decode cX12_init 434 = .ok (.aload_n 0, 1) := by decide +kernel
theorem dX12_init_435 : decode cX12_init 435 = .ok (.iconst 0, 1) := by decide +kernel
theorem dX12_init_436 : decode cX12_init 436 = .ok (.putfield 138, 3) := by decide +kernel
theorem dX12_init_439 : decode cX12_init 439 = .ok (.aload_n 0, 1) := by decide +kernel
theorem dX12_init_440 : decode cX12_init 440 = .ok (.iconst 4, 1) := by decide +kernel
theorem dX12_init_441 : decode cX12_init 441 = .ok (.newarray .int, 2) := by decide +kernel
theorem dX12_init_443 : decode cX12_init 443 = .ok (.putfield 141, 3) := by decide +kernel
theorem dX12_init_446 : decode cX12_init 446 = .ok (.aload_n 0, 1) := by decide +kernel
theorem dX12_init_447 : decode cX12_init 447 = .ok (.iconst 4, 1) := by decide +kernel
theorem dX12_init_448 : decode cX12_init 448 = .ok (.newarray .int, 2) := by decide +kernel
theorem dX12_init_450 : decode cX12_init 450 = .ok (.putfield 144, 3) := by decide +kernel
theorem dX12_init_453 : decode cX12_init 453 = .ok (.aload_n 0, 1) := by decide +kernel
theorem dX12_init_454 : decode cX12_init 454 = .ok (.iconst 4, 1) := by decide +kernel
theorem dX12_init_455 : decode cX12_init 455 = .ok (.newarray .int, 2) := by decide +kernel
theorem dX12_init_457 : decode cX12_init 457 = .ok (.putfield 147, 3) := by decide +kernel
theorem dX12_init_460 : decode cX12_init 460 = .ok (.aload_n 0, 1) := by decide +kernel
theorem dX12_init_461 : decode cX12_init 461 = .ok (.iconst 0, 1) := by decide +kernel
theorem dX12_init_462 : decode cX12_init 462 = .ok (.putfield 150, 3) := by decide +kernel
theorem dX12_init_465 : decode cX12_init 465 = .ok (.aload_n 0, 1) := by decide +kernel
theorem dX12_init_466 : decode cX12_init 466 = .ok (.bipush 8, 2) := by decide +kernel
theorem dX12_init_468 : decode cX12_init 468 = .ok (.newarray .int, 2) := by decide +kernel
theorem dX12_init_470 : decode cX12_init 470 = .ok (.putfield 153, 3) := by decide +kernel
theorem dX12_init_473 : decode cX12_init 473 = .ok (.aload_n 0, 1) := by decide +kernel
theorem dX12_init_474 : decode cX12_init 474 = .ok (.bipush 8, 2) := by decide +kernel
theorem dX12_init_476 : decode cX12_init 476 = .ok (.newarray .int, 2) := by decide +kernel
theorem dX12_init_478 : decode cX12_init 478 = .ok (.putfield 156, 3) := by decide +kernel
theorem dX12_init_481 : decode cX12_init 481 = .ok (.aload_n 0, 1) := by decide +kernel
theorem dX12_init_482 : decode cX12_init 482 = .ok (.iconst 0, 1) := by decide +kernel
theorem dX12_init_483 : decode cX12_init 483 = .ok (.putfield 159, 3) := by decide +kernel
theorem dX12_init_486 : decode cX12_init 486 = .ok (.aload_n 0, 1) := by decide +kernel
theorem dX12_init_487 : decode cX12_init 487 = .ok (.iconst (-1), 1) := by decide +kernel
theorem dX12_init_488 : decode cX12_init 488 = .ok (.putfield 163, 3) := by decide +kernel
theorem dX12_init_491 : decode cX12_init 491 = .ok (.aload_n 0, 1) := by decide +kernel
theorem dX12_init_492 : decode cX12_init 492 = .ok (.iconst 0, 1) := by decide +kernel
theorem dX12_init_493 : decode cX12_init 493 = .ok (.putfield 166, 3) := by decide +kernel
theorem dX12_init_496 : decode cX12_init 496 = .ok (.aload_n 0, 1) := by decide +kernel
theorem dX12_init_497 : decode cX12_init 497 = .ok (.iconst 0, 1) := by decide +kernel
theorem dX12_init_498 : decode cX12_init 498 = .ok (.putfield 169, 3) := by decide +kernel
theorem dX12_init_501 : decode cX12_init 501 = .ok (.aload_n 0, 1) := by decide +kernel
theorem dX12_init_502 : decode cX12_init 502 = .ok (.iconst 0, 1) := by decide +kernel
theorem dX12_init_503 : decode cX12_init 503 = .ok (.putfield 172, 3) := by decide +kernel
theorem dX12_init_506 : decode cX12_init 506 = .ok (.aload_n 0, 1) := by decide +kernel
theorem dX12_init_507 : decode cX12_init 507 = .ok (.iconst 0, 1) := by decide +kernel
theorem dX12_init_508 : decode cX12_init 508 = .ok (.putfield 175, 3) := by decide +kernel
theorem dX12_init_511 : decode cX12_init 511 = .ok (.aload_n 0, 1) := by decide +kernel
theorem dX12_init_512 : decode cX12_init 512 = .ok (.iconst 0, 1) := by decide +kernel
theorem dX12_init_513 : decode cX12_init 513 = .ok (.putfield 178, 3) := by decide +kernel
theorem dX12_init_516 : decode cX12_init 516 = .ok (.aload_n 0, 1) := by decide +kernel
theorem dX12_init_517 : decode cX12_init 517 = .ok (.bipush 7, 2) := by decide +kernel
theorem dX12_init_519 : decode cX12_init 519 = .ok (.newarray .int, 2) := by decide +kernel
theorem dX12_init_521 : decode cX12_init 521 = .ok (.putfield 181, 3) := by decide +kernel
theorem dX12_init_524 : decode cX12_init 524 = .ok (.aload_n 0, 1) := by decide +kernel
theorem dX12_init_525 : decode cX12_init 525 = .ok (.bipush 7, 2) := by decide +kernel
theorem dX12_init_527 : decode cX12_init 527 = .ok (.newarray .int, 2) := by decide +kernel
theorem dX12_init_529 : decode cX12_init 529 = .ok (.putfield 184, 3) := by decide +kernel
theorem dX12_init_532 : decode cX12_init 532 = .ok (.aload_n 0, 1) := by decide +kernel
theorem dX12_init_533 : decode cX12_init 533 = .ok (.bipush 7, 2) := by decide +kernel
theorem dX12_init_535 : decode cX12_init 535 = .ok (.newarray .int, 2) := by decide +kernel
theorem dX12_init_537 : decode cX12_init 537 = .ok (.putfield 187, 3) := by decide +kernel
theorem dX12_init_540 : decode cX12_init 540 = .ok (.aload_n 0, 1) := by decide +kernel
theorem dX12_init_541 : decode cX12_init 541 = .ok (.bipush 7, 2) := by decide +kernel
theorem dX12_init_543 : decode cX12_init 543 = .ok (.newarray .int, 2) := by decide +kernel
theorem dX12_init_545 : decode cX12_init 545 = .ok (.putfield 190, 3) := by decide +kernel
theorem dX12_init_548 : decode cX12_init 548 = .ok (.aload_n 0, 1) := by decide +kernel
theorem dX12_init_549 : decode cX12_init 549 = .ok (.bipush 7, 2) := by decide +kernel
theorem dX12_init_551 : decode cX12_init 551 = .ok (.newarray .int, 2) := by decide +kernel
theorem dX12_init_553 : decode cX12_init 553 = .ok (.putfield 193, 3) := by decide +kernel
theorem dX12_init_556 : decode cX12_init 556 = .ok (.aload_n 0, 1) := by decide +kernel
theorem dX12_init_557 : decode cX12_init 557 = .ok (.bipush 28, 2) := by decide +kernel
theorem dX12_init_559 : decode cX12_init 559 = .ok (.newarray .int, 2) := by decide +kernel
theorem dX12_init_561 : decode cX12_init 561 = .ok (.putfield 196, 3) := by decide +kernel
theorem dX12_init_564 : decode cX12_init 564 = .ok (.aload_n 0, 1) := by decide +kernel
theorem dX12_init_565 : decode cX12_init 565 = .ok (.iconst 4, 1) := by decide +kernel
theorem dX12_init_566 : decode cX12_init 566 = .ok (.newarray .int, 2) := by decide +kernel
theorem dX12_init_568 : decode cX12_init 568 = .ok (.putfield 199, 3) := by decide +kernel
theorem dX12_init_571 : decode cX12_init 571 = .ok (.aload_n 0, 1) := by decide +kernel
theorem dX12_init_572 : decode cX12_init 572 = .ok (.iconst 4, 1) := by decide +kernel
theorem dX12_init_573 : decode cX12_init 573 = .ok (.newarray .int, 2) := by decide +kernel
theorem dX12_init_575 : decode cX12_init 575 = .ok (.putfield 202, 3) := by decide +kernel
theorem dX12_init_578 : decode cX12_init 578 = .ok (.aload_n 0, 1) := by decide +kernel
theorem dX12_init_579 : decode cX12_init 579 = .ok (.iconst 4, 1) := by decide +kernel
theorem dX12_init_580 : decode cX12_init 580 = .ok (.newarray .int, 2) := by decide +kernel
theorem dX12_init_582 : decode cX12_init 582 = .ok (.putfield 205, 3) := by decide +kernel
theorem dX12_init_585 : decode cX12_init 585 = .ok (.aload_n 0, 1) := by decide +kernel
theorem dX12_init_586 : decode cX12_init 586 = .ok (.iconst 4, 1) := by decide +kernel
theorem dX12_init_587 : decode cX12_init 587 = .ok (.newarray .int, 2) := by decide +kernel
theorem dX12_init_589 : decode cX12_init 589 = .ok (.putfield 208, 3) := by decide +kernel
theorem dX12_init_592 : decode cX12_init 592 = .ok (.aload_n 0, 1) := by decide +kernel
theorem dX12_init_593 : decode cX12_init 593 = .ok (.bipush 8, 2) := by decide +kernel
theorem dX12_init_595 : decode cX12_init 595 = .ok (.newarray .int, 2) := by decide +kernel
theorem dX12_init_597 : decode cX12_init 597 = .ok (.putfield 211, 3) := by decide +kernel
theorem dX12_init_600 : decode cX12_init 600 = .ok (.aload_n 0, 1) := by decide +kernel
theorem dX12_init_601 : decode cX12_init 601 = .ok (.bipush 8, 2) := by decide +kernel
theorem dX12_init_603 : decode cX12_init 603 = .ok (.newarray .int, 2) := by decide +kernel
theorem dX12_init_605 : decode cX12_init 605 = .ok (.putfield 214, 3) := by decide +kernel
theorem dX12_init_608 : decode cX12_init 608 = .ok (.aload_n 0, 1) := by decide +kernel
theorem dX12_init_609 : decode cX12_init 609 = .ok (.iconst 0, 1) := by decide +kernel
theorem dX12_init_610 : decode cX12_init 610 = .ok (.putfield 217, 3) := by decide +kernel
theorem dX12_init_613 : decode cX12_init 613 = .ok (.aload_n 0, 1) := by decide +kernel
theorem dX12_init_614 : decode cX12_init 614 = .ok (.bipush 20, 2) := by decide +kernel
theorem dX12_init_616 : decode cX12_init 616 = .ok (.newarray .int, 2) := by decide +kernel
theorem dX12_init_618 : decode cX12_init 618 = .ok (.putfield 220, 3) := by decide +kernel
theorem dX12_init_621 : decode cX12_init 621 = .ok (.aload_n 0, 1) := by decide +kernel
theorem dX12_init_622 : decode cX12_init 622 = .ok (.bipush 6, 2) := by decide +kernel
theorem dX12_init_624 : decode cX12_init 624 = .ok (.newarray .int, 2) := by decide +kernel
theorem dX12_init_626 : decode cX12_init 626 = .ok (.dup, 1) := by decide +kernel
theorem dX12_init_627 : decode cX12_init 627 = .ok (.iconst 0, 1) := by decide +kernel
theorem dX12_init_628 : decode cX12_init 628 = .ok (.iconst (-1), 1) := by decide +kernel
theorem dX12_init_629 : decode cX12_init 629 = .ok (.iastore, 1) := by decide +kernel
theorem dX12_init_630 : decode cX12_init 630 = .ok (.dup, 1) := by decide +kernel
theorem dX12_init_631 : decode cX12_init 631 = .ok (.iconst 1, 1) := by decide +kernel
theorem dX12_init_632 : decode cX12_init 632 = .ok (.iconst (-1), 1) := by decide +kernel
theorem dX12_init_633 : decode cX12_init 633 = .ok (.iastore, 1) := by decide +kernel
theorem dX12_init_634 : decode cX12_init 634 = .ok (.dup, 1) := by decide +kernel
theorem dX12_init_635 : decode cX12_init 635 = .ok (.iconst 2, 1) := by decide +kernel
theorem dX12_init_636 : decode cX12_init 636 = .ok (.iconst (-1), 1) := by decide +kernel
theorem dX12_init_637 : decode cX12_init 637 = .ok (.iastore, 1) := by decide +kernel
theorem dX12_init_638 : decode cX12_init 638 = .ok (.dup, 1) := by decide +kernel
theorem dX12_init_639 : decode cX12_init 639 = .ok (.iconst 3, 1) := by decide +kernel
theorem dX12_init_640 : decode cX12_init 640 = .ok (.iconst (-1), 1) := by decide +kernel
theorem dX12_init_641 : decode cX12_init 641 = .ok (.iastore, 1) := by decide +kernel
theorem dX12_init_642 : decode cX12_init 642 = .ok (.dup, 1) := by decide +kernel
theorem dX12_init_643 : decode cX12_init 643 = .ok (.iconst 4, 1) := by decide +kernel
theorem dX12_init_644 : decode cX12_init 644 = .ok (.iconst (-1), 1) := by decide +kernel
theorem dX12_init_645 : decode cX12_init 645 = .ok (.iastore, 1) := by decide +kernel
theorem dX12_init_646 : decode cX12_init 646 = .ok (.dup, 1) := by decide +kernel
theorem dX12_init_647 : decode cX12_init 647 = .ok (.iconst 5, 1) := by decide +kernel
theorem dX12_init_648 : decode cX12_init 648 = .ok (.iconst (-1), 1) := by decide +kernel
theorem dX12_init_649 : decode cX12_init 649 = .ok (.iastore, 1) := by decide +kernel
theorem dX12_init_650 : decode cX12_init 650 = .ok (.putfield 223, 3) := by decide +kernel
theorem dX12_init_653 : decode cX12_init 653 = .ok (.aload_n 0, 1) := by decide +kernel
theorem dX12_init_654 : decode cX12_init 654 = .ok (.bipush 6, 2) := by decide +kernel
theorem dX12_init_656 : decode cX12_init 656 = .ok (.newarray .int, 2) := by decide +kernel
theorem dX12_init_658 : decode cX12_init 658 = .ok (.putfield 226, 3) := by decide +kernel
theorem dX12_init_661 : decode cX12_init 661 = .ok (.aload_n 0, 1) := by decide +kernel
theorem dX12_init_662 : decode cX12_init 662 = .ok (.sipush 360, 3) := by decide +kernel
theorem dX12_init_665 : decode cX12_init 665 = .ok (.newarray .long, 2) := by decide +kernel
theorem dX12_init_667 : decode cX12_init 667 = .ok (.putfield 229, 3) := by decide +kernel
theorem dX12_init_670 : decode cX12_init 670 = .ok (.aload_n 0, 1) := by decide +kernel
theorem dX12_init_671 : decode cX12_init 671 = .ok (.bipush 60, 2) := by decide +kernel
theorem dX12_init_673 : decode cX12_init 673 = .ok (.newarray .long, 2) := by decide +kernel
theorem dX12_init_675 : decode cX12_init 675 = .ok (.putfield 233, 3) := by decide +kernel
theorem dX12_init_678 : decode cX12_init 678 = .ok (.return_, 1) := by decide +kernel
theorem dX12_in_0 : decode cX12_in 0 = .ok (.iload_n 1, 1) := by decide +kernel
theorem dX12_in_1 : decode cX12_in 1 = .ok (.iload_n 2, 1) := by decide +kernel
theorem dX12_in_2 : decode cX12_in 2 = .ok (.if_icmp .lt 12, 3) := by decide +kernel
theorem dX12_in_5 : decode cX12_in 5 = .ok (.iload_n 1, 1) := by decide +kernel
theorem dX12_in_6 : decode cX12_in 6 = .ok (.iload_n 3, 1) := by decide +kernel
theorem dX12_in_7 : decode cX12_in 7 = .ok (.if_icmp .gt 7, 3) := by decide +kernel
theorem dX12_in_10 : decode cX12_in 10 = .ok (.iconst 1, 1) := by decide +kernel
theorem dX12_in_11 : decode cX12_in 11 = .ok (.goto 4, 3) := by decide +kernel
theorem dX12_in_14 : decode cX12_in 14 = .ok (.iconst 0, 1) := by decide +kernel
theorem dX12_in_15 : decode cX12_in 15 = .ok (.ireturn, 1) := by decide +kernel
theorem dX12_has_0 : decode cX12_has 0 = .ok (.iload_n 1, 1) := by decide +kernel
theorem dX12_has_1 : decode cX12_has 1 = .ok (.iload_n 2, 1) := by decide +kernel
theorem dX12_has_2 : decode cX12_has 2 = .ok (.ishr, 1) := by decide +kernel
theorem dX12_has_3 : decode cX12_has 3 = .ok (.iconst 1, 1) := by decide +kernel
theorem dX12_has_4 : decode cX12_has 4 = .ok (.iand, 1) := by decide +kernel
theorem dX12_has_5 : decode cX12_has 5 = .ok (.iconst 1, 1) := by decide +kernel
theorem dX12_has_6 : decode cX12_has 6 = .ok (.if_icmp .ne 7, 3) := by decide +kernel
theorem dX12_has_9 : decode cX12_has 9 = .ok (.iconst 1, 1) := by decide +kernel
theorem dX12_has_10 : decode cX12_has 10 = .ok (.goto 4, 3) := by decide +kernel
theorem dX12_has_13 : decode cX12_has 13 = .ok (.iconst 0, 1) := by decide +kernel
theorem dX12_has_14 : decode cX12_has 14 = .ok (.ireturn, 1) := by decide +kernel
theorem dX12_ones_0 : decode cX12_ones 0 = .ok (.iconst 0, 1) := by decide +kernel
theorem dX12_ones_1 : decode cX12_ones 1 = .ok (.istore_n 2, 1) := by decide +kernel
theorem dX12_ones_2 : decode cX12_ones 2 = .ok (.iload_n 1, 1) := by decide +kernel
theorem dX12_ones_3 : decode cX12_ones 3 = .ok (.istore_n 3, 1) := by decide +kernel
theorem dX12_ones_4 : decode cX12_ones 4 = .ok (.iload_n 3, 1) := by decide +kernel
theorem dX12_ones_5 : decode cX12_ones 5 = .ok (.ifCond .eq 15, 3) := by decide +kernel
theorem dX12_ones_8 : decode cX12_ones 8 = .ok (.iinc 2 1, 3) := by decide +kernel
theorem dX12_ones_11 : decode cX12_ones 11 = .ok (.iload_n 3, 1) := by decide +kernel
theorem dX12_ones_12 : decode cX12_ones 12 = .ok (.iload_n 3, 1) := by decide +kernel
theorem dX12_ones_13 : decode cX12_ones 13 = .ok (.iconst 1, 1) := by decide +kernel
theorem dX12_ones_14 : decode cX12_ones 14 = .ok (.isub, 1) := by decide +kernel
theorem dX12_ones_15 : decode cX12_ones 15 = .ok (.iand, 1) := by decide +kernel
theorem dX12_ones_16 : decode cX12_ones 16 = .ok (.istore_n 3, 1) := by decide +kernel
theorem dX12_ones_17 : decode cX12_ones 17 = .ok (.goto (-13), 3) := by decide +kernel
theorem dX12_ones_20 : decode cX12_ones 20 = .ok (.iload_n 2, 1) := by decide +kernel
theorem dX12_ones_21 : decode cX12_ones 21 = .ok (.ireturn, 1) := by decide +kernel
theorem dX12_isChild_0 : decode cX12_isChild 0 = .ok (.aload_n 0, 1) := by decide +kernel
theorem dX12_isChild_1 : decode cX12_isChild 1 = .ok (.iload_n 1, 1) := by decide +kernel
theorem dX12_isChild_2 : decode cX12_isChild 2 = .ok (.iconst 0, 1) := by decide +kernel
theorem dX12_isChild_3 : decode cX12_isChild 3 = .ok (.aload_n 0, 1) := by decide +kernel
theorem dX12_isChild_4 : decode cX12_isChild 4 = .ok (.getfield 7, 3) := by decide +kernel
theorem dX12_isChild_7 : decode cX12_isChild 7 = .ok (.iconst 1, 1) := by decide +kernel
theorem dX12_isChild_8 : decode cX12_isChild 8 = .ok (.isub, 1) := by decide +kernel
theorem dX12_isChild_9 : decode cX12_isChild 9 = .ok (.invokevirtual 236, 3) := by decide +kernel
theorem dX12_isChild_12 : decode cX12_isChild 12 = .ok (.ireturn, 1) := by decide +kernel
theorem dX12_child_0 : decode cX12_child 0 = .ok (.aload_n 0, 1) := by decide +kernel
theorem dX12_child_1 : decode cX12_child 1 = .ok (.iload_n 1, 1) := by decide +kernel
theorem dX12_child_2 : decode cX12_child 2 = .ok (.iconst 0, 1) := by decide +kernel
theorem dX12_child_3 : decode cX12_child 3 = .ok (.bipush 6, 2) := by decide +kernel
theorem dX12_child_5 : decode cX12_child 5 = .ok (.invokevirtual 236, 3) := by decide +kernel
theorem dX12_child_8 : decode cX12_child 8 = .ok (.ifCond .ne 5, 3) := by decide +kernel
theorem dX12_child_11 : decode cX12_child 11 = .ok (.iconst (-1), 1) := by decide +kernel
theorem dX12_child_12 : decode cX12_child 12 = .ok (.ireturn, 1) := by decide +kernel
theorem dX12_child_13 : decode cX12_child 13 = .ok (.aload_n 0, 1) := by decide +kernel
theorem dX12_child_14 : decode cX12_child 14 = .ok (.iload_n 2, 1) := by decide +kernel
theorem dX12_child_15 : decode cX12_child 15 = .ok (.iconst 0, 1) := by decide +kernel
theorem dX12_child_16 : decode cX12_child 16 = .ok (.bipush 9, 2) := by decide +kernel
theorem dX12_child_18 : decode cX12_child 18 = .ok (.invokevirtual 236, 3) := by decide +kernel
theorem dX12_child_21 : decode cX12_child 21 = .ok (.ifCond .ne 6, 3) := by decide +kernel
theorem dX12_child_24 : decode cX12_child 24 = .ok (.bipush (-2), 2) := by decide +kernel
theorem dX12_child_26 : decode cX12_child 26 = .ok (.ireturn, 1) := by decide +kernel
theorem dX12_child_27 : decode cX12_child 27 = .ok (.aload_n 0, 1) := by decide +kernel
theorem dX12_child_28 : decode cX12_child 28 = .ok (.getfield 7, 3) := by decide +kernel
theorem dX12_child_31 : decode cX12_child 31 = .ok (.bipush 7, 2) := by decide +kernel
theorem dX12_child_33 : decode cX12_child 33 = .ok (.if_icmp .ne 6, 3) := by decide +kernel
theorem dX12_child_36 : decode cX12_child 36 = .ok (.bipush (-4), 2) := by decide +kernel
theorem dX12_child_38 : decode cX12_child 38 = .ok (.ireturn, 1) := by decide +kernel
theorem dX12_child_39 : decode cX12_child 39 = .ok (.aload_n 0, 1) := by decide +kernel
theorem dX12_child_40 : decode cX12_child 40 = .ok (.getfield 19, 3) := by decide +kernel
theorem dX12_child_43 : decode cX12_child 43 = .ok (.aload_n 0, 1) := by decide +kernel
theorem dX12_child_44 : decode cX12_child 44 = .ok (.getfield 7, 3) := by decide +kernel
theorem dX12_child_47 : decode cX12_child 47 = .ok (.iload_n 1, 1) := by decide +kernel
theorem dX12_child_48 : decode cX12_child 48 = .ok (.iastore, 1) := by decide +kernel
theorem dX12_child_49 : decode cX12_child 49 = .ok (.aload_n 0, 1) := by decide +kernel
theorem dX12_child_50 : decode cX12_child 50 = .ok (.getfield 23, 3) := by decide +kernel
theorem dX12_child_53 : decode cX12_child 53 = .ok (.aload_n 0, 1) := by decide +kernel
theorem dX12_child_54 : decode cX12_child 54 = .ok (.getfield 7, 3) := by decide +kernel
theorem dX12_child_57 : decode cX12_child 57 = .ok (.iload_n 2, 1) := by decide +kernel
theorem dX12_child_58 : decode cX12_child 58 = .ok (.iastore, 1) := by decide +kernel
theorem dX12_child_59 : decode cX12_child 59 = .ok (.aload_n 0, 1) := by decide +kernel
theorem dX12_child_60 : decode cX12_child 60 = .ok (.getfield 26, 3) := by decide +kernel
theorem dX12_child_63 : decode cX12_child 63 = .ok (.aload_n 0, 1) := by decide +kernel
theorem dX12_child_64 : decode cX12_child 64 = .ok (.getfield 7, 3) := by decide +kernel
theorem dX12_child_67 : decode cX12_child 67 = .ok (.iconst 0, 1) := by decide +kernel
theorem dX12_child_68 : decode cX12_child 68 = .ok (.iastore, 1) := by decide +kernel
theorem dX12_child_69 : decode cX12_child 69 = .ok (.aload_n 0, 1) := by decide +kernel
theorem dX12_child_70 : decode cX12_child 70 = .ok (.getfield 29, 3) := by decide +kernel
theorem dX12_child_73 : decode cX12_child 73 = .ok (.aload_n 0, 1) := by decide +kernel
theorem dX12_child_74 : decode cX12_child 74 = .ok (.getfield 7, 3) := by decide +kernel
theorem dX12_child_77 : decode cX12_child 77 = .ok (.iconst 1, 1) := by decide +kernel
theorem dX12_child_78 : decode cX12_child 78 = .ok (.iastore, 1) := by decide +kernel
theorem dX12_child_79 : decode cX12_child 79 = .ok (.aload_n 0, 1) := by decide +kernel
theorem dX12_child_80 : decode cX12_child 80 = .ok (.getfield 32, 3) := by decide +kernel
theorem dX12_child_83 : decode cX12_child 83 = .ok (.aload_n 0, 1) := by decide +kernel
theorem dX12_child_84 : decode cX12_child 84 = .ok (.getfield 7, 3) := by decide +kernel
theorem dX12_child_87 : decode cX12_child 87 = .ok (.iconst 0, 1) := by decide +kernel
theorem dX12_child_88 : decode cX12_child 88 = .ok (.iastore, 1) := by decide +kernel
theorem dX12_child_89 : decode cX12_child 89 = .ok (.aload_n 0, 1) := by decide +kernel
theorem dX12_child_90 : decode cX12_child 90 = .ok (.dup, 1) := by decide +kernel
theorem dX12_child_91 : decode cX12_child 91 = .ok (.getfield 16, 3) := by decide +kernel
theorem dX12_child_94 : decode cX12_child 94 = .ok (.iconst 1, 1) := by decide +kernel
theorem dX12_child_95 : decode cX12_child 95 = .ok (.aload_n 0, 1) := by decide +kernel
theorem dX12_child_96 : decode cX12_child 96 = .ok (.getfield 7, 3) := by decide +kernel
theorem dX12_child_99 : decode cX12_child 99 = .ok (.ishl, 1) := by decide +kernel
theorem dX12_child_100 : decode cX12_child 100 = .ok (.iconst (-1), 1) := by decide +kernel
theorem dX12_child_101 : decode cX12_child 101 = .ok (.ixor, 1) := by decide +kernel
theorem dX12_child_102 : decode cX12_child 102 = .ok (.iand, 1) := by decide +kernel
theorem dX12_child_103 : decode cX12_child 103 = .ok (.putfield 16, 3) := by decide +kernel
theorem dX12_child_106 : decode cX12_child 106 = .ok (.iconst 0, 1) := by decide +kernel
theorem dX12_child_107 : decode cX12_child 107 = .ok (.istore_n 3, 1) := by decide +kernel
theorem dX12_child_108 : decode cX12_child 108 = .ok (.iload_n 3, 1) := by decide +kernel
theorem dX12_child_109 : decode cX12_child 109 = .ok (.iconst 4, 1) := by decide +kernel
theorem dX12_child_110 : decode cX12_child 110 = .ok (.if_icmp .ge 23, 3) := by decide +kernel
theorem dX12_child_113 : decode cX12_child 113 = .ok (.aload_n 0, 1) := by decide +kernel
theorem dX12_child_114 : decode cX12_child 114 = .ok (.getfield 35, 3) := by decide +kernel
theorem dX12_child_117 : decode cX12_child 117 = .ok (.iconst 4, 1) := by decide +kernel
theorem dX12_child_118 : decode cX12_child 118 = .ok (.aload_n 0, 1) := by decide +kernel
theorem dX12_child_119 : decode cX12_child 119 = .ok (.getfield 7, 3) := by decide +kernel
theorem dX12_child_122 : decode cX12_child 122 = .ok (.imul, 1) := by decide +kernel
theorem dX12_child_123 : decode cX12_child 123 = .ok (.iload_n 3, 1) := by decide +kernel
theorem dX12_child_124 : decode cX12_child 124 = .ok (.iadd, 1) := by decide +kernel
theorem dX12_child_125 : decode cX12_child 125 = .ok (.iconst 0, 1) := by decide +kernel
theorem dX12_child_126 : decode cX12_child 126 = .ok (.iastore, 1) := by decide +kernel
theorem dX12_child_127 : decode cX12_child 127 = .ok (.iinc 3 1, 3) := by decide +kernel
theorem dX12_child_130 : decode cX12_child 130 = .ok (.goto (-22), 3) := by decide +kernel
theorem dX12_child_133 : decode cX12_child 133 = .ok (.aload_n 0, 1) := by decide +kernel
theorem dX12_child_134 : decode cX12_child 134 = .ok (.dup, 1) := by decide +kernel
theorem dX12_child_135 : decode cX12_child 135 = .ok (.getfield 7, 3) := by decide +kernel
theorem dX12_child_138 : decode cX12_child 138 = .ok (.iconst 1, 1) := by decide +kernel
theorem dX12_child_139 : decode cX12_child 139 = .ok (.iadd, 1) := by decide +kernel
theorem dX12_child_140 : decode cX12_child 140 = .ok (.putfield 7, 3) := by decide +kernel
theorem dX12_child_143 : decode cX12_child 143 = .ok (.aload_n 0, 1) := by decide +kernel
theorem dX12_child_144 : decode cX12_child 144 = .ok (.getfield 7, 3) := by decide +kernel
theorem dX12_child_147 : decode cX12_child 147 = .ok (.iconst 1, 1) := by decide +kernel
theorem dX12_child_148 : decode cX12_child 148 = .ok (.isub, 1) := by decide +kernel
theorem dX12_child_149 : decode cX12_child 149 = .ok (.ireturn, 1) := by decide +kernel
theorem dX12_set_0 : decode cX12_set 0 = .ok (.aload_n 0, 1) := by decide +kernel
theorem dX12_set_1 : decode cX12_set 1 = .ok (.iload_n 1, 1) := by decide +kernel
theorem dX12_set_2 : decode cX12_set 2 = .ok (.invokevirtual 240, 3) := by decide +kernel
theorem dX12_set_5 : decode cX12_set 5 = .ok (.ifCond .eq 13, 3) := by decide +kernel
theorem dX12_set_8 : decode cX12_set 8 = .ok (.aload_n 0, 1) := by decide +kernel
theorem dX12_set_9 : decode cX12_set 9 = .ok (.iload_n 2, 1) := by decide +kernel
theorem dX12_set_10 : decode cX12_set 10 = .ok (.iconst 0, 1) := by decide +kernel
theorem dX12_set_11 : decode cX12_set 11 = .ok (.iconst 1, 1) := by decide +kernel
theorem dX12_set_12 : decode cX12_set 12 = .ok (.invokevirtual 236, 3) := by decide +kernel
theorem dX12_set_15 : decode cX12_set 15 = .ok (.ifCond .ne 5, 3) := by decide +kernel
theorem dX12_set_18 : decode cX12_set 18 = .ok (.iconst (-1), 1) := by decide +kernel
theorem dX12_set_19 : decode cX12_set 19 = .ok (.ireturn, 1) := by decide +kernel
theorem dX12_set_20 : decode cX12_set 20 = .ok (.aload_n 0, 1) := by decide +kernel
theorem dX12_set_21 : decode cX12_set 21 = .ok (.iload_n 3, 1) := by decide +kernel
theorem dX12_set_22 : decode cX12_set 22 = .ok (.iconst 0, 1) := by decide +kernel
theorem dX12_set_23 : decode cX12_set 23 = .ok (.iload_n 2, 1) := by decide +kernel
theorem dX12_set_24 : decode cX12_set 24 = .ok (.ifCond .ne 12, 3) := by decide +kernel
theorem dX12_set_27 : decode cX12_set 27 = .ok (.aload_n 0, 1) := by decide +kernel
theorem dX12_set_28 : decode cX12_set 28 = .ok (.invokevirtual 244, 3) := by decide +kernel
theorem dX12_set_31 : decode cX12_set 31 = .ok (.iconst 1, 1) := by decide +kernel
theorem dX12_set_32 : decode cX12_set 32 = .ok (.isub, 1) := by decide +kernel
theorem dX12_set_33 : decode cX12_set 33 = .ok (.goto 5, 3) := by decide +kernel
theorem dX12_set_36 : decode cX12_set 36 = .ok (.bipush 9, 2) := by decide +kernel
theorem dX12_set_38 : decode cX12_set 38 = .ok (.invokevirtual 236, 3) := by decide +kernel
theorem dX12_set_41 : decode cX12_set 41 = .ok (.ifCond .ne 6, 3) := by decide +kernel
theorem dX12_set_44 : decode cX12_set 44 = .ok (.bipush (-2), 2) := by decide +kernel
theorem dX12_set_46 : decode cX12_set 46 = .ok (.ireturn, 1) := by decide +kernel
theorem dX12_set_47 : decode cX12_set 47 = .ok (.iload_n 2, 1) := by decide +kernel
theorem dX12_set_48 : decode cX12_set 48 = .ok (.ifCond .ne 12, 3) := by decide +kernel
theorem dX12_set_51 : decode cX12_set 51 = .ok (.aload_n 0, 1) := by decide +kernel
theorem dX12_set_52 : decode cX12_set 52 = .ok (.getfield 26, 3) := by decide +kernel
theorem dX12_set_55 : decode cX12_set 55 = .ok (.iload_n 1, 1) := by decide +kernel
theorem dX12_set_56 : decode cX12_set 56 = .ok (.iaload, 1) := by decide +kernel
theorem dX12_set_57 : decode cX12_set 57 = .ok (.goto 9, 3) := by decide +kernel
theorem dX12_set_60 : decode cX12_set 60 = .ok (.aload_n 0, 1) := by decide +kernel
theorem dX12_set_61 : decode cX12_set 61 = .ok (.getfield 29, 3) := by decide +kernel
theorem dX12_set_64 : decode cX12_set 64 = .ok (.iload_n 1, 1) := by decide +kernel
theorem dX12_set_65 : decode cX12_set 65 = .ok (.iaload, 1) := by decide +kernel
theorem dX12_set_66 : decode cX12_set 66 = .ok (.istore 4, 2) := by decide +kernel
theorem dX12_set_68 : decode cX12_set 68 = .ok (.iload_n 2, 1) := by decide +kernel
theorem dX12_set_69 : decode cX12_set 69 = .ok (.ifCond .ne 27, 3) := by decide +kernel
theorem dX12_set_72 : decode cX12_set 72 = .ok (.aload_n 0, 1) := by decide +kernel
theorem dX12_set_73 : decode cX12_set 73 = .ok (.getfield 26, 3) := by decide +kernel
theorem dX12_set_76 : decode cX12_set 76 = .ok (.iload_n 1, 1) := by decide +kernel
theorem dX12_set_77 : decode cX12_set 77 = .ok (.iload_n 3, 1) := by decide +kernel
theorem dX12_set_78 : decode cX12_set 78 = .ok (.iastore, 1) := by decide +kernel
theorem dX12_set_79 : decode cX12_set 79 = .ok (.aload_n 0, 1) := by decide +kernel
theorem dX12_set_80 : decode cX12_set 80 = .ok (.dup, 1) := by decide +kernel
theorem dX12_set_81 : decode cX12_set 81 = .ok (.getfield 16, 3) := by decide +kernel
theorem dX12_set_84 : decode cX12_set 84 = .ok (.iconst 1, 1) := by decide +kernel
theorem dX12_set_85 : decode cX12_set 85 = .ok (.iload_n 1, 1) := by decide +kernel
theorem dX12_set_86 : decode cX12_set 86 = .ok (.ishl, 1) := by decide +kernel
theorem dX12_set_87 : decode cX12_set 87 = .ok (.iconst (-1), 1) := by decide +kernel
theorem dX12_set_88 : decode cX12_set 88 = .ok (.ixor, 1) := by decide +kernel
theorem dX12_set_89 : decode cX12_set 89 = .ok (.iand, 1) := by decide +kernel
theorem dX12_set_90 : decode cX12_set 90 = .ok (.putfield 16, 3) := by decide +kernel
theorem dX12_set_93 : decode cX12_set 93 = .ok (.goto 10, 3) := by decide +kernel
theorem dX12_set_96 : decode cX12_set 96 = .ok (.aload_n 0, 1) := by decide +kernel
theorem dX12_set_97 : decode cX12_set 97 = .ok (.getfield 29, 3) := by decide +kernel
theorem dX12_set_100 : decode cX12_set 100 = .ok (.iload_n 1, 1) := by decide +kernel
theorem dX12_set_101 : decode cX12_set 101 = .ok (.iload_n 3, 1) := by decide +kernel
theorem dX12_set_102 : decode cX12_set 102 = .ok (.iastore, 1) := by decide +kernel
theorem dX12_set_103 : decode cX12_set 103 = .ok (.iload 4, 2) := by decide +kernel
theorem dX12_set_105 : decode cX12_set 105 = .ok (.ireturn, 1) := by decide +kernel
theorem dX12_row_0 : decode cX12_row 0 = .ok (.aload_n 0, 1) := by decide +kernel
theorem dX12_row_1 : decode cX12_row 1 = .ok (.iload_n 1, 1) := by decide +kernel
theorem dX12_row_2 : decode cX12_row 2 = .ok (.invokevirtual 240, 3) := by decide +kernel
theorem dX12_row_5 : decode cX12_row 5 = .ok (.ifCond .eq 13, 3) := by decide +kernel
theorem dX12_row_8 : decode cX12_row 8 = .ok (.aload_n 0, 1) := by decide +kernel
theorem dX12_row_9 : decode cX12_row 9 = .ok (.iload_n 2, 1) := by decide +kernel
theorem dX12_row_10 : decode cX12_row 10 = .ok (.iconst 0, 1) := by decide +kernel
theorem dX12_row_11 : decode cX12_row 11 = .ok (.iconst 3, 1) := by decide +kernel
theorem dX12_row_12 : decode cX12_row 12 = .ok (.invokevirtual 236, 3) := by decide +kernel
theorem dX12_row_15 : decode cX12_row 15 = .ok (.ifCond .ne 5, 3) := by decide +kernel
theorem dX12_row_18 : decode cX12_row 18 = .ok (.iconst (-1), 1) := by decide +kernel
theorem dX12_row_19 : decode cX12_row 19 = .ok (.ireturn, 1) := by decide +kernel
theorem dX12_row_20 : decode cX12_row 20 = .ok (.aload_n 0, 1) := by decide +kernel
theorem dX12_row_21 : decode cX12_row 21 = .ok (.iload_n 3, 1) := by decide +kernel
theorem dX12_row_22 : decode cX12_row 22 = .ok (.iconst 0, 1) := by decide +kernel
theorem dX12_row_23 : decode cX12_row 23 = .ok (.bipush 9, 2) := by decide +kernel
theorem dX12_row_25 : decode cX12_row 25 = .ok (.invokevirtual 236, 3) := by decide +kernel
theorem dX12_row_28 : decode cX12_row 28 = .ok (.ifCond .ne 6, 3) := by decide +kernel
theorem dX12_row_31 : decode cX12_row 31 = .ok (.bipush (-2), 2) := by decide +kernel
theorem dX12_row_33 : decode cX12_row 33 = .ok (.ireturn, 1) := by decide +kernel
theorem dX12_row_34 : decode cX12_row 34 = .ok (.aload_n 0, 1) := by decide +kernel
theorem dX12_row_35 : decode cX12_row 35 = .ok (.getfield 19, 3) := by decide +kernel
theorem dX12_row_38 : decode cX12_row 38 = .ok (.iload_n 1, 1) := by decide +kernel
theorem dX12_row_39 : decode cX12_row 39 = .ok (.iaload, 1) := by decide +kernel
theorem dX12_row_40 : decode cX12_row 40 = .ok (.bipush 6, 2) := by decide +kernel
theorem dX12_row_42 : decode cX12_row 42 = .ok (.if_icmp .eq 6, 3) := by decide +kernel
theorem dX12_row_45 : decode cX12_row 45 = .ok (.bipush (-3), 2) := by decide +kernel
theorem dX12_row_47 : decode cX12_row 47 = .ok (.ireturn, 1) := by decide +kernel
theorem dX12_row_48 : decode cX12_row 48 = .ok (.aload_n 0, 1) := by decide +kernel
theorem dX12_row_49 : decode cX12_row 49 = .ok (.getfield 35, 3) := by decide +kernel
theorem dX12_row_52 : decode cX12_row 52 = .ok (.iconst 4, 1) := by decide +kernel
theorem dX12_row_53 : decode cX12_row 53 = .ok (.iload_n 1, 1) := by decide +kernel
theorem dX12_row_54 : decode cX12_row 54 = .ok (.imul, 1) := by decide +kernel
theorem dX12_row_55 : decode cX12_row 55 = .ok (.iload_n 2, 1) := by decide +kernel
theorem dX12_row_56 : decode cX12_row 56 = .ok (.iadd, 1) := by decide +kernel
theorem dX12_row_57 : decode cX12_row 57 = .ok (.iaload, 1) := by decide +kernel
theorem dX12_row_58 : decode cX12_row 58 = .ok (.istore 4, 2) := by decide +kernel
theorem dX12_row_60 : decode cX12_row 60 = .ok (.aload_n 0, 1) := by decide +kernel
theorem dX12_row_61 : decode cX12_row 61 = .ok (.getfield 35, 3) := by decide +kernel
theorem dX12_row_64 : decode cX12_row 64 = .ok (.iconst 4, 1) := by decide +kernel
theorem dX12_row_65 : decode cX12_row 65 = .ok (.iload_n 1, 1) := by decide +kernel
theorem dX12_row_66 : decode cX12_row 66 = .ok (.imul, 1) := by decide +kernel
theorem dX12_row_67 : decode cX12_row 67 = .ok (.iload_n 2, 1) := by decide +kernel
theorem dX12_row_68 : decode cX12_row 68 = .ok (.iadd, 1) := by decide +kernel
theorem dX12_row_69 : decode cX12_row 69 = .ok (.iload_n 3, 1) := by decide +kernel
theorem dX12_row_70 : decode cX12_row 70 = .ok (.iastore, 1) := by decide +kernel
theorem dX12_row_71 : decode cX12_row 71 = .ok (.iload 4, 2) := by decide +kernel
theorem dX12_row_73 : decode cX12_row 73 = .ok (.ireturn, 1) := by decide +kernel
theorem dX12_counts_0 : decode cX12_counts 0 = .ok (.aload_n 0, 1) := by decide +kernel
theorem dX12_counts_1 : decode cX12_counts 1 = .ok (.iload_n 1, 1) := by decide +kernel
theorem dX12_counts_2 : decode cX12_counts 2 = .ok (.iconst 0, 1) := by decide +kernel
theorem dX12_counts_3 : decode cX12_counts 3 = .ok (.iconst 3, 1) := by decide +kernel
theorem dX12_counts_4 : decode cX12_counts 4 = .ok (.invokevirtual 236, 3) := by decide +kernel
theorem dX12_counts_7 : decode cX12_counts 7 = .ok (.ifCond .ne 5, 3) := by decide +kernel
theorem dX12_counts_10 : decode cX12_counts 10 = .ok (.iconst (-1), 1) := by decide +kernel
theorem dX12_counts_11 : decode cX12_counts 11 = .ok (.ireturn, 1) := by decide +kernel
theorem dX12_counts_12 : decode cX12_counts 12 = .ok (.aload_n 0, 1) := by decide +kernel
theorem dX12_counts_13 : decode cX12_counts 13 = .ok (.iload_n 2, 1) := by decide +kernel
theorem dX12_counts_14 : decode cX12_counts 14 = .ok (.iconst 1, 1) := by decide +kernel
theorem dX12_counts_15 : decode cX12_counts 15 = .ok (.bipush 9, 2) := by decide +kernel
theorem dX12_counts_17 : decode cX12_counts 17 = .ok (.invokevirtual 236, 3) := by decide +kernel
theorem dX12_counts_20 : decode cX12_counts 20 = .ok (.ifCond .ne 6, 3) := by decide +kernel
theorem dX12_counts_23 : decode cX12_counts 23 = .ok (.bipush (-2), 2) := by decide +kernel
theorem dX12_counts_25 : decode cX12_counts 25 = .ok (.ireturn, 1) := by decide +kernel
theorem dX12_counts_26 : decode cX12_counts 26 = .ok (.aload_n 0, 1) := by decide +kernel
theorem dX12_counts_27 : decode cX12_counts 27 = .ok (.getfield 38, 3) := by decide +kernel
theorem dX12_counts_30 : decode cX12_counts 30 = .ok (.iload_n 1, 1) := by decide +kernel
theorem dX12_counts_31 : decode cX12_counts 31 = .ok (.iaload, 1) := by decide +kernel
theorem dX12_counts_32 : decode cX12_counts 32 = .ok (.istore_n 3, 1) := by decide +kernel
theorem dX12_counts_33 : decode cX12_counts 33 = .ok (.aload_n 0, 1) := by decide +kernel
theorem dX12_counts_34 : decode cX12_counts 34 = .ok (.getfield 38, 3) := by decide +kernel
theorem dX12_counts_37 : decode cX12_counts 37 = .ok (.iload_n 1, 1) := by decide +kernel
theorem dX12_counts_38 : decode cX12_counts 38 = .ok (.iload_n 2, 1) := by decide +kernel
theorem dX12_counts_39 : decode cX12_counts 39 = .ok (.iastore, 1) := by decide +kernel
theorem dX12_counts_40 : decode cX12_counts 40 = .ok (.iload_n 3, 1) := by decide +kernel
theorem dX12_counts_41 : decode cX12_counts 41 = .ok (.ireturn, 1) := by decide +kernel
theorem dX12_feed_0 : decode cX12_feed 0 = .ok (.aload_n 0, 1) := by decide +kernel
theorem dX12_feed_1 : decode cX12_feed 1 = .ok (.iload_n 1, 1) := by decide +kernel
theorem dX12_feed_2 : decode cX12_feed 2 = .ok (.iconst 0, 1) := by decide +kernel
theorem dX12_feed_3 : decode cX12_feed 3 = .ok (.bipush 127, 2) := by decide +kernel
theorem dX12_feed_5 : decode cX12_feed 5 = .ok (.invokevirtual 236, 3) := by decide +kernel
theorem dX12_feed_8 : decode cX12_feed 8 = .ok (.ifCond .ne 6, 3) := by decide +kernel
theorem dX12_feed_11 : decode cX12_feed 11 = .ok (.bipush (-2), 2) := by decide +kernel
theorem dX12_feed_13 : decode cX12_feed 13 = .ok (.ireturn, 1) := by decide +kernel
theorem dX12_feed_14 : decode cX12_feed 14 = .ok (.aload_n 0, 1) := by decide +kernel
theorem dX12_feed_15 : decode cX12_feed 15 = .ok (.getfield 47, 3) := by decide +kernel
theorem dX12_feed_18 : decode cX12_feed 18 = .ok (.bipush 100, 2) := by decide +kernel
theorem dX12_feed_20 : decode cX12_feed 20 = .ok (.if_icmp .ne 6, 3) := by decide +kernel
theorem dX12_feed_23 : decode cX12_feed 23 = .ok (.bipush (-4), 2) := by decide +kernel
theorem dX12_feed_25 : decode cX12_feed 25 = .ok (.ireturn, 1) := by decide +kernel
theorem dX12_feed_26 : decode cX12_feed 26 = .ok (.aload_n 0, 1) := by decide +kernel
theorem dX12_feed_27 : decode cX12_feed 27 = .ok (.getfield 56, 3) := by decide +kernel
theorem dX12_feed_30 : decode cX12_feed 30 = .ok (.aload_n 0, 1) := by decide +kernel
theorem dX12_feed_31 : decode cX12_feed 31 = .ok (.getfield 47, 3) := by decide +kernel
theorem dX12_feed_34 : decode cX12_feed 34 = .ok (.iload_n 1, 1) := by decide +kernel
theorem dX12_feed_35 : decode cX12_feed 35 = .ok (.iastore, 1) := by decide +kernel
theorem dX12_feed_36 : decode cX12_feed 36 = .ok (.aload_n 0, 1) := by decide +kernel
theorem dX12_feed_37 : decode cX12_feed 37 = .ok (.dup, 1) := by decide +kernel
theorem dX12_feed_38 : decode cX12_feed 38 = .ok (.getfield 47, 3) := by decide +kernel
theorem dX12_feed_41 : decode cX12_feed 41 = .ok (.iconst 1, 1) := by decide +kernel
theorem dX12_feed_42 : decode cX12_feed 42 = .ok (.iadd, 1) := by decide +kernel
theorem dX12_feed_43 : decode cX12_feed 43 = .ok (.putfield 47, 3) := by decide +kernel
theorem dX12_feed_46 : decode cX12_feed 46 = .ok (.aload_n 0, 1) := by decide +kernel
theorem dX12_feed_47 : decode cX12_feed 47 = .ok (.getfield 47, 3) := by decide +kernel
theorem dX12_feed_50 : decode cX12_feed 50 = .ok (.ireturn, 1) := by decide +kernel
theorem dX12_next_0 : decode cX12_next 0 = .ok (.aload_n 0, 1) := by decide +kernel
theorem dX12_next_1 : decode cX12_next 1 = .ok (.getfield 50, 3) := by decide +kernel
theorem dX12_next_4 : decode cX12_next 4 = .ok (.aload_n 0, 1) := by decide +kernel
theorem dX12_next_5 : decode cX12_next 5 = .ok (.getfield 47, 3) := by decide +kernel
theorem dX12_next_8 : decode cX12_next 8 = .ok (.if_icmp .ge 15, 3) := by decide +kernel
theorem dX12_next_11 : decode cX12_next 11 = .ok (.aload_n 0, 1) := by decide +kernel
theorem dX12_next_12 : decode cX12_next 12 = .ok (.getfield 56, 3) := by decide +kernel
theorem dX12_next_15 : decode cX12_next 15 = .ok (.aload_n 0, 1) := by decide +kernel
theorem dX12_next_16 : decode cX12_next 16 = .ok (.getfield 50, 3) := by decide +kernel
theorem dX12_next_19 : decode cX12_next 19 = .ok (.iaload, 1) := by decide +kernel
theorem dX12_next_20 : decode cX12_next 20 = .ok (.goto 4, 3) := by decide +kernel
theorem dX12_next_23 : decode cX12_next 23 = .ok (.iconst (-1), 1) := by decide +kernel
theorem dX12_next_24 : decode cX12_next 24 = .ok (.ireturn, 1) := by decide +kernel
theorem dX12_second_0 : decode cX12_second 0 = .ok (.aload_n 0, 1) := by decide +kernel
theorem dX12_second_1 : decode cX12_second 1 = .ok (.getfield 50, 3) := by decide +kernel
theorem dX12_second_4 : decode cX12_second 4 = .ok (.iconst 1, 1) := by decide +kernel
theorem dX12_second_5 : decode cX12_second 5 = .ok (.iadd, 1) := by decide +kernel
theorem dX12_second_6 : decode cX12_second 6 = .ok (.aload_n 0, 1) := by decide +kernel
theorem dX12_second_7 : decode cX12_second 7 = .ok (.getfield 47, 3) := by decide +kernel
theorem dX12_second_10 : decode cX12_second 10 = .ok (.if_icmp .ge 17, 3) := by decide +kernel
theorem dX12_second_13 : decode cX12_second 13 = .ok (.aload_n 0, 1) := by decide +kernel
theorem dX12_second_14 : decode cX12_second 14 = .ok (.getfield 56, 3) := by decide +kernel
theorem dX12_second_17 : decode cX12_second 17 = .ok (.aload_n 0, 1) := by decide +kernel
theorem dX12_second_18 : decode cX12_second 18 = .ok (.getfield 50, 3) := by decide +kernel
theorem dX12_second_21 : decode cX12_second 21 = .ok (.iconst 1, 1) := by decide +kernel
theorem dX12_second_22 : decode cX12_second 22 = .ok (.iadd, 1) := by decide +kernel
theorem dX12_second_23 : decode cX12_second 23 = .ok (.iaload, 1) := by decide +kernel
theorem dX12_second_24 : decode cX12_second 24 = .ok (.goto 4, 3) := by decide +kernel
theorem dX12_second_27 : decode cX12_second 27 = .ok (.iconst (-1), 1) := by decide +kernel
theorem dX12_second_28 : decode cX12_second 28 = .ok (.ireturn, 1) := by decide +kernel
theorem dX12_takes_0 : decode cX12_takes 0 = .ok (.aload_n 0, 1) := by decide +kernel
theorem dX12_takes_1 : decode cX12_takes 1 = .ok (.invokevirtual 248, 3) := by decide +kernel
theorem dX12_takes_4 : decode cX12_takes 4 = .ok (.iload_n 1, 1) := by decide +kernel
theorem dX12_takes_5 : decode cX12_takes 5 = .ok (.if_icmp .eq 5, 3) := by decide +kernel
theorem dX12_takes_8 : decode cX12_takes 8 = .ok (.iconst 0, 1) := by decide +kernel
theorem dX12_takes_9 : decode cX12_takes 9 = .ok (.ireturn, 1) := by decide +kernel
theorem dX12_takes_10 : decode cX12_takes 10 = .ok (.aload_n 0, 1) := by decide +kernel
theorem dX12_takes_11 : decode cX12_takes 11 = .ok (.dup, 1) := by decide +kernel
theorem dX12_takes_12 : decode cX12_takes 12 = .ok (.getfield 50, 3) := by decide +kernel
theorem dX12_takes_15 : decode cX12_takes 15 = .ok (.iconst 1, 1) := by decide +kernel
theorem dX12_takes_16 : decode cX12_takes 16 = .ok (.iadd, 1) := by decide +kernel
theorem dX12_takes_17 : decode cX12_takes 17 = .ok (.putfield 50, 3) := by decide +kernel
theorem dX12_takes_20 : decode cX12_takes 20 = .ok (.iconst 1, 1) := by decide +kernel
theorem dX12_takes_21 : decode cX12_takes 21 = .ok (.ireturn, 1) := by decide +kernel
theorem dX12_takesWord_0 : decode cX12_takesWord 0 = .ok (.iconst 0, 1) := by decide +kernel
theorem dX12_takesWord_1 : decode cX12_takesWord 1 = .ok (.istore_n 3, 1) := by decide +kernel
theorem dX12_takesWord_2 : decode cX12_takesWord 2 = .ok (.iload_n 3, 1) := by decide +kernel
theorem dX12_takesWord_3 : decode cX12_takesWord 3 = .ok (.iload_n 2, 1) := by decide +kernel
theorem dX12_takesWord_4 : decode cX12_takesWord 4 = .ok (.if_icmp .ge 26, 3) := by decide +kernel
theorem dX12_takesWord_7 : decode cX12_takesWord 7 = .ok (.aload_n 0, 1) := by decide +kernel
theorem dX12_takesWord_8 : decode cX12_takesWord 8 = .ok (.aload_n 0, 1) := by decide +kernel
theorem dX12_takesWord_9 : decode cX12_takesWord 9 = .ok (.getfield 89, 3) := by decide +kernel
theorem dX12_takesWord_12 : decode cX12_takesWord 12 = .ok (.iload_n 1, 1) := by decide +kernel
theorem dX12_takesWord_13 : decode cX12_takesWord 13 = .ok (.iload_n 3, 1) := by decide +kernel
theorem dX12_takesWord_14 : decode cX12_takesWord 14 = .ok (.iadd, 1) := by decide +kernel
theorem dX12_takesWord_15 : decode cX12_takesWord 15 = .ok (.iaload, 1) := by decide +kernel
theorem dX12_takesWord_16 : decode cX12_takesWord 16 = .ok (.invokevirtual 251, 3) := by decide +kernel
theorem dX12_takesWord_19 : decode cX12_takesWord 19 = .ok (.ifCond .ne 5, 3) := by decide +kernel
theorem dX12_takesWord_22 : decode cX12_takesWord 22 = .ok (.iconst 0, 1) := by decide +kernel
theorem dX12_takesWord_23 : decode cX12_takesWord 23 = .ok (.ireturn, 1) := by decide +kernel
theorem dX12_takesWord_24 : decode cX12_takesWord 24 = .ok (.iinc 3 1, 3) := by decide +kernel
theorem dX12_takesWord_27 : decode cX12_takesWord 27 = .ok (.goto (-25), 3) := by decide +kernel
theorem dX12_takesWord_30 : decode cX12_takesWord 30 = .ok (.aload_n 0, 1) := by decide +kernel
theorem dX12_takesWord_31 : decode cX12_takesWord 31 = .ok (.bipush 32, 2) := by decide +kernel
theorem dX12_takesWord_33 : decode cX12_takesWord 33 = .ok (.invokevirtual 251, 3) := by decide +kernel
theorem dX12_takesWord_36 : decode cX12_takesWord 36 = .ok (.ireturn, 1) := by decide +kernel
theorem dX12_isDigit_0 : decode cX12_isDigit 0 = .ok (.aload_n 0, 1) := by decide +kernel
theorem dX12_isDigit_1 : decode cX12_isDigit 1 = .ok (.aload_n 0, 1) := by decide +kernel
theorem dX12_isDigit_2 : decode cX12_isDigit 2 = .ok (.invokevirtual 248, 3) := by decide +kernel
theorem dX12_isDigit_5 : decode cX12_isDigit 5 = .ok (.bipush 48, 2) := by decide +kernel
theorem dX12_isDigit_7 : decode cX12_isDigit 7 = .ok (.bipush 57, 2) := by decide +kernel
theorem dX12_isDigit_9 : decode cX12_isDigit 9 = .ok (.invokevirtual 236, 3) := by decide +kernel
theorem dX12_isDigit_12 : decode cX12_isDigit 12 = .ok (.ireturn, 1) := by decide +kernel
theorem dX12_takesNumber_0 : decode cX12_takesNumber 0 = .ok (.aload_n 0, 1) := by decide +kernel
theorem dX12_takesNumber_1 : decode cX12_takesNumber 1 = .ok (.invokevirtual 254, 3) := by decide +kernel
theorem dX12_takesNumber_4 : decode cX12_takesNumber 4 = .ok (.ifCond .ne 5, 3) := by decide +kernel
theorem dX12_takesNumber_7 : decode cX12_takesNumber 7 = .ok (.iconst 0, 1) := by decide +kernel
theorem dX12_takesNumber_8 : decode cX12_takesNumber 8 = .ok (.ireturn, 1) := by decide +kernel
theorem dX12_takesNumber_9 : decode cX12_takesNumber 9 = .ok (.aload_n 0, 1) := by decide +kernel
theorem dX12_takesNumber_10 : decode cX12_takesNumber 10 = .ok (.iconst 0, 1) := by decide +kernel
theorem dX12_takesNumber_11 : decode cX12_takesNumber 11 = .ok (.putfield 53, 3) := by decide +kernel
theorem dX12_takesNumber_14 : decode cX12_takesNumber 14 = .ok (.iconst 0, 1) := by decide +kernel
theorem dX12_takesNumber_15 : decode cX12_takesNumber 15 = .ok (.istore_n 1, 1) := by decide +kernel
theorem dX12_takesNumber_16 : decode cX12_takesNumber 16 = .ok (.iload_n 1, 1) := by decide +kernel
theorem dX12_takesNumber_17 : decode cX12_takesNumber 17 = .ok (.iconst 2, 1) := by decide +kernel
theorem dX12_takesNumber_18 : decode cX12_takesNumber 18 = .ok (.if_icmp .ge 45, 3) := by decide +kernel
theorem dX12_takesNumber_21 : decode cX12_takesNumber 21 = .ok (.aload_n 0, 1) := by decide +kernel
theorem dX12_takesNumber_22 : decode cX12_takesNumber 22 = .ok (.invokevirtual 254, 3) := by decide +kernel
theorem dX12_takesNumber_25 : decode cX12_takesNumber 25 = .ok (.ifCond .eq 38, 3) := by decide +kernel
theorem dX12_takesNumber_28 : decode cX12_takesNumber 28 = .ok (.aload_n 0, 1) := by decide +kernel
theorem dX12_takesNumber_29 : decode cX12_takesNumber 29 = .ok (.bipush 10, 2) := by decide +kernel
theorem dX12_takesNumber_31 : decode cX12_takesNumber 31 = .ok (.aload_n 0, 1) := by decide +kernel
theorem dX12_takesNumber_32 : decode cX12_takesNumber 32 = .ok (.getfield 53, 3) := by decide +kernel
theorem dX12_takesNumber_35 : decode cX12_takesNumber 35 = .ok (.imul, 1) := by decide +kernel
theorem dX12_takesNumber_36 : decode cX12_takesNumber 36 = .ok (.aload_n 0, 1) := by decide +kernel
theorem dX12_takesNumber_37 : decode cX12_takesNumber 37 = .ok (.invokevirtual 248, 3) := by decide +kernel
theorem dX12_takesNumber_40 : decode cX12_takesNumber 40 = .ok (.iadd, 1) := by decide +kernel
theorem dX12_takesNumber_41 : decode cX12_takesNumber 41 = .ok (.bipush 48, 2) := by decide +kernel
theorem dX12_takesNumber_43 : decode cX12_takesNumber 43 = .ok (.isub, 1) := by decide +kernel
theorem dX12_takesNumber_44 : decode cX12_takesNumber 44 = .ok (.putfield 53, 3) := by decide +kernel
theorem dX12_takesNumber_47 : decode cX12_takesNumber 47 = .ok (.aload_n 0, 1) := by decide +kernel
theorem dX12_takesNumber_48 : decode cX12_takesNumber 48 = .ok (.dup, 1) := by decide +kernel
theorem dX12_takesNumber_49 : decode cX12_takesNumber 49 = .ok (.getfield 50, 3) := by decide +kernel
theorem dX12_takesNumber_52 : decode cX12_takesNumber 52 = .ok (.iconst 1, 1) := by decide +kernel
theorem dX12_takesNumber_53 : decode cX12_takesNumber 53 = .ok (.iadd, 1) := by decide +kernel
theorem dX12_takesNumber_54 : decode cX12_takesNumber 54 = .ok (.putfield 50, 3) := by decide +kernel
theorem dX12_takesNumber_57 : decode cX12_takesNumber 57 = .ok (.iinc 1 1, 3) := by decide +kernel
theorem dX12_takesNumber_60 : decode cX12_takesNumber 60 = .ok (.goto (-44), 3) := by decide +kernel
theorem dX12_takesNumber_63 : decode cX12_takesNumber 63 = .ok (.iconst 1, 1) := by decide +kernel
theorem dX12_takesNumber_64 : decode cX12_takesNumber 64 = .ok (.ireturn, 1) := by decide +kernel
theorem dX12_emits_0 : decode cX12_emits 0 = .ok (.aload_n 0, 1) := by decide +kernel
theorem dX12_emits_1 : decode cX12_emits 1 = .ok (.getfield 74, 3) := by decide +kernel
theorem dX12_emits_4 : decode cX12_emits 4 = .ok (.aload_n 0, 1) := by decide +kernel
theorem dX12_emits_5 : decode cX12_emits 5 = .ok (.getfield 80, 3) := by decide +kernel
theorem dX12_emits_8 : decode cX12_emits 8 = .ok (.iload_n 1, 1) := by decide +kernel
theorem dX12_emits_9 : decode cX12_emits 9 = .ok (.iastore, 1) := by decide +kernel
theorem dX12_emits_10 : decode cX12_emits 10 = .ok (.aload_n 0, 1) := by decide +kernel
theorem dX12_emits_11 : decode cX12_emits 11 = .ok (.dup, 1) := by decide +kernel
theorem dX12_emits_12 : decode cX12_emits 12 = .ok (.getfield 80, 3) := by decide +kernel
theorem dX12_emits_15 : decode cX12_emits 15 = .ok (.iconst 1, 1) := by decide +kernel
theorem dX12_emits_16 : decode cX12_emits 16 = .ok (.iadd, 1) := by decide +kernel
theorem dX12_emits_17 : decode cX12_emits 17 = .ok (.putfield 80, 3) := by decide +kernel
theorem dX12_emits_20 : decode cX12_emits 20 = .ok (.return_, 1) := by decide +kernel
theorem dX12_whole_0 : decode cX12_whole 0 = .ok (.aload_n 0, 1) := by decide +kernel
theorem dX12_whole_1 : decode cX12_whole 1 = .ok (.getfield 83, 3) := by decide +kernel
theorem dX12_whole_4 : decode cX12_whole 4 = .ok (.ifCond .le 48, 3) := by decide +kernel
theorem dX12_whole_7 : decode cX12_whole 7 = .ok (.aload_n 0, 1) := by decide +kernel
theorem dX12_whole_8 : decode cX12_whole 8 = .ok (.getfield 77, 3) := by decide +kernel
theorem dX12_whole_11 : decode cX12_whole 11 = .ok (.aload_n 0, 1) := by decide +kernel
theorem dX12_whole_12 : decode cX12_whole 12 = .ok (.getfield 83, 3) := by decide +kernel
theorem dX12_whole_15 : decode cX12_whole 15 = .ok (.iconst 1, 1) := by decide +kernel
theorem dX12_whole_16 : decode cX12_whole 16 = .ok (.isub, 1) := by decide +kernel
theorem dX12_whole_17 : decode cX12_whole 17 = .ok (.iaload, 1) := by decide +kernel
theorem dX12_whole_18 : decode cX12_whole 18 = .ok (.bipush 33, 2) := by decide +kernel
theorem dX12_whole_20 : decode cX12_whole 20 = .ok (.if_icmp .ne 32, 3) := by decide +kernel
theorem dX12_whole_23 : decode cX12_whole 23 = .ok (.aload_n 0, 1) := by decide +kernel
theorem dX12_whole_24 : decode cX12_whole 24 = .ok (.bipush (-33), 2) := by decide +kernel
theorem dX12_whole_26 : decode cX12_whole 26 = .ok (.invokevirtual 258, 3) := by decide +kernel
theorem dX12_whole_29 : decode cX12_whole 29 = .ok (.aload_n 0, 1) := by decide +kernel
theorem dX12_whole_30 : decode cX12_whole 30 = .ok (.dup, 1) := by decide +kernel
theorem dX12_whole_31 : decode cX12_whole 31 = .ok (.getfield 83, 3) := by decide +kernel
theorem dX12_whole_34 : decode cX12_whole 34 = .ok (.iconst 1, 1) := by decide +kernel
theorem dX12_whole_35 : decode cX12_whole 35 = .ok (.isub, 1) := by decide +kernel
theorem dX12_whole_36 : decode cX12_whole 36 = .ok (.putfield 83, 3) := by decide +kernel
theorem dX12_whole_39 : decode cX12_whole 39 = .ok (.aload_n 0, 1) := by decide +kernel
theorem dX12_whole_40 : decode cX12_whole 40 = .ok (.dup, 1) := by decide +kernel
theorem dX12_whole_41 : decode cX12_whole 41 = .ok (.getfield 86, 3) := by decide +kernel
theorem dX12_whole_44 : decode cX12_whole 44 = .ok (.iconst 1, 1) := by decide +kernel
theorem dX12_whole_45 : decode cX12_whole 45 = .ok (.isub, 1) := by decide +kernel
theorem dX12_whole_46 : decode cX12_whole 46 = .ok (.putfield 86, 3) := by decide +kernel
theorem dX12_whole_49 : decode cX12_whole 49 = .ok (.goto (-49), 3) := by decide +kernel
theorem dX12_whole_52 : decode cX12_whole 52 = .ok (.return_, 1) := by decide +kernel
theorem dX12_settle_0 : decode cX12_settle 0 = .ok (.aload_n 0, 1) := by decide +kernel
theorem dX12_settle_1 : decode cX12_settle 1 = .ok (.getfield 83, 3) := by decide +kernel
theorem dX12_settle_4 : decode cX12_settle 4 = .ok (.ifCond .le 68, 3) := by decide +kernel
theorem dX12_settle_7 : decode cX12_settle 7 = .ok (.aload_n 0, 1) := by decide +kernel
theorem dX12_settle_8 : decode cX12_settle 8 = .ok (.getfield 77, 3) := by decide +kernel
theorem dX12_settle_11 : decode cX12_settle 11 = .ok (.aload_n 0, 1) := by decide +kernel
theorem dX12_settle_12 : decode cX12_settle 12 = .ok (.getfield 83, 3) := by decide +kernel
theorem dX12_settle_15 : decode cX12_settle 15 = .ok (.iconst 1, 1) := by decide +kernel
theorem dX12_settle_16 : decode cX12_settle 16 = .ok (.isub, 1) := by decide +kernel
theorem dX12_settle_17 : decode cX12_settle 17 = .ok (.iaload, 1) := by decide +kernel
theorem dX12_settle_18 : decode cX12_settle 18 = .ok (.bipush 38, 2) := by decide +kernel
theorem dX12_settle_20 : decode cX12_settle 20 = .ok (.if_icmp .eq 25, 3) := by decide +kernel
theorem dX12_settle_23 : decode cX12_settle 23 = .ok (.aload_n 0, 1) := by decide +kernel
theorem dX12_settle_24 : decode cX12_settle 24 = .ok (.getfield 77, 3) := by decide +kernel
theorem dX12_settle_27 : decode cX12_settle 27 = .ok (.aload_n 0, 1) := by decide +kernel
theorem dX12_settle_28 : decode cX12_settle 28 = .ok (.getfield 83, 3) := by decide +kernel
theorem dX12_settle_31 : decode cX12_settle 31 = .ok (.iconst 1, 1) := by decide +kernel
theorem dX12_settle_32 : decode cX12_settle 32 = .ok (.isub, 1) := by decide +kernel
theorem dX12_settle_33 : decode cX12_settle 33 = .ok (.iaload, 1) := by decide +kernel
theorem dX12_settle_34 : decode cX12_settle 34 = .ok (.bipush 124, 2) := by decide +kernel
theorem dX12_settle_36 : decode cX12_settle 36 = .ok (.if_icmp .ne 36, 3) := by decide +kernel
theorem dX12_settle_39 : decode cX12_settle 39 = .ok (.iload_n 1, 1) := by decide +kernel
theorem dX12_settle_40 : decode cX12_settle 40 = .ok (.bipush 38, 2) := by decide +kernel
theorem dX12_settle_42 : decode cX12_settle 42 = .ok (.if_icmp .eq 30, 3) := by decide +kernel
theorem dX12_settle_45 : decode cX12_settle 45 = .ok (.aload_n 0, 1) := by decide +kernel
theorem dX12_settle_46 : decode cX12_settle 46 = .ok (.dup, 1) := by decide +kernel
theorem dX12_settle_47 : decode cX12_settle 47 = .ok (.getfield 83, 3) := by decide +kernel
theorem dX12_settle_50 : decode cX12_settle 50 = .ok (.iconst 1, 1) := by decide +kernel
theorem dX12_settle_51 : decode cX12_settle 51 = .ok (.isub, 1) := by decide +kernel
theorem dX12_settle_52 : decode cX12_settle 52 = .ok (.putfield 83, 3) := by decide +kernel
theorem dX12_settle_55 : decode cX12_settle 55 = .ok (.aload_n 0, 1) := by decide +kernel
theorem dX12_settle_56 : decode cX12_settle 56 = .ok (.aload_n 0, 1) := by decide +kernel
theorem dX12_settle_57 : decode cX12_settle 57 = .ok (.getfield 77, 3) := by decide +kernel
theorem dX12_settle_60 : decode cX12_settle 60 = .ok (.aload_n 0, 1) := by decide +kernel
theorem dX12_settle_61 : decode cX12_settle 61 = .ok (.getfield 83, 3) := by decide +kernel
theorem dX12_settle_64 : decode cX12_settle 64 = .ok (.iaload, 1) := by decide +kernel
theorem dX12_settle_65 : decode cX12_settle 65 = .ok (.ineg, 1) := by decide +kernel
theorem dX12_settle_66 : decode cX12_settle 66 = .ok (.invokevirtual 258, 3) := by decide +kernel
theorem dX12_settle_69 : decode cX12_settle 69 = .ok (.goto (-69), 3) := by decide +kernel
theorem dX12_settle_72 : decode cX12_settle 72 = .ok (.return_, 1) := by decide +kernel
theorem dX12_place_0 : decode cX12_place 0 = .ok (.iload_n 1, 1) := by decide +kernel
theorem dX12_place_1 : decode cX12_place 1 = .ok (.tableswitch 107 97 116 #[103, 101, 95, 107, 99, 107, 107, 107, 107, 107, 97, 107, 107, 107, 107, 107, 107, 107, 107, 105], 95) := by decide +kernel
theorem dX12_place_96 : decode cX12_place 96 = .ok (.iconst 0, 1) := by decide +kernel
theorem dX12_place_97 : decode cX12_place 97 = .ok (.ireturn, 1) := by decide +kernel
theorem dX12_place_98 : decode cX12_place 98 = .ok (.iconst 1, 1) := by decide +kernel
theorem dX12_place_99 : decode cX12_place 99 = .ok (.ireturn, 1) := by decide +kernel
theorem dX12_place_100 : decode cX12_place 100 = .ok (.iconst 2, 1) := by decide +kernel
theorem dX12_place_101 : decode cX12_place 101 = .ok (.ireturn, 1) := by decide +kernel
theorem dX12_place_102 : decode cX12_place 102 = .ok (.iconst 3, 1) := by decide +kernel
theorem dX12_place_103 : decode cX12_place 103 = .ok (.ireturn, 1) := by decide +kernel
theorem dX12_place_104 : decode cX12_place 104 = .ok (.iconst 4, 1) := by decide +kernel
theorem dX12_place_105 : decode cX12_place 105 = .ok (.ireturn, 1) := by decide +kernel
theorem dX12_place_106 : decode cX12_place 106 = .ok (.iconst 5, 1) := by decide +kernel
theorem dX12_place_107 : decode cX12_place 107 = .ok (.ireturn, 1) := by decide +kernel
theorem dX12_place_108 : decode cX12_place 108 = .ok (.iconst (-1), 1) := by decide +kernel
theorem dX12_place_109 : decode cX12_place 109 = .ok (.ireturn, 1) := by decide +kernel
theorem dX12_takesTest_0 : decode cX12_takesTest 0 = .ok (.aload_n 0, 1) := by decide +kernel
theorem dX12_takesTest_1 : decode cX12_takesTest 1 = .ok (.aload_n 0, 1) := by decide +kernel
theorem dX12_takesTest_2 : decode cX12_takesTest 2 = .ok (.invokevirtual 248, 3) := by decide +kernel
theorem dX12_takesTest_5 : decode cX12_takesTest 5 = .ok (.invokevirtual 262, 3) := by decide +kernel
theorem dX12_takesTest_8 : decode cX12_takesTest 8 = .ok (.istore_n 1, 1) := by decide +kernel
theorem dX12_takesTest_9 : decode cX12_takesTest 9 = .ok (.iload_n 1, 1) := by decide +kernel
theorem dX12_takesTest_10 : decode cX12_takesTest 10 = .ok (.ifCond .ge 5, 3) := by decide +kernel
theorem dX12_takesTest_13 : decode cX12_takesTest 13 = .ok (.iconst 0, 1) := by decide +kernel
theorem dX12_takesTest_14 : decode cX12_takesTest 14 = .ok (.ireturn, 1) := by decide +kernel
theorem dX12_takesTest_15 : decode cX12_takesTest 15 = .ok (.aload_n 0, 1) := by decide +kernel
theorem dX12_takesTest_16 : decode cX12_takesTest 16 = .ok (.dup, 1) := by decide +kernel
theorem dX12_takesTest_17 : decode cX12_takesTest 17 = .ok (.getfield 50, 3) := by decide +kernel
theorem dX12_takesTest_20 : decode cX12_takesTest 20 = .ok (.iconst 1, 1) := by decide +kernel
theorem dX12_takesTest_21 : decode cX12_takesTest 21 = .ok (.iadd, 1) := by decide +kernel
theorem dX12_takesTest_22 : decode cX12_takesTest 22 = .ok (.putfield 50, 3) := by decide +kernel
theorem dX12_takesTest_25 : decode cX12_takesTest 25 = .ok (.aload_n 0, 1) := by decide +kernel
theorem dX12_takesTest_26 : decode cX12_takesTest 26 = .ok (.invokevirtual 248, 3) := by decide +kernel
theorem dX12_takesTest_29 : decode cX12_takesTest 29 = .ok (.istore_n 2, 1) := by decide +kernel
theorem dX12_takesTest_30 : decode cX12_takesTest 30 = .ok (.aload_n 0, 1) := by decide +kernel
theorem dX12_takesTest_31 : decode cX12_takesTest 31 = .ok (.iload_n 2, 1) := by decide +kernel
theorem dX12_takesTest_32 : decode cX12_takesTest 32 = .ok (.bipush 60, 2) := by decide +kernel
theorem dX12_takesTest_34 : decode cX12_takesTest 34 = .ok (.bipush 62, 2) := by decide +kernel
theorem dX12_takesTest_36 : decode cX12_takesTest 36 = .ok (.invokevirtual 236, 3) := by decide +kernel
theorem dX12_takesTest_39 : decode cX12_takesTest 39 = .ok (.ifCond .ne 5, 3) := by decide +kernel
theorem dX12_takesTest_42 : decode cX12_takesTest 42 = .ok (.iconst 0, 1) := by decide +kernel
theorem dX12_takesTest_43 : decode cX12_takesTest 43 = .ok (.ireturn, 1) := by decide +kernel
theorem dX12_takesTest_44 : decode cX12_takesTest 44 = .ok (.aload_n 0, 1) := by decide +kernel
theorem dX12_takesTest_45 : decode cX12_takesTest 45 = .ok (.dup, 1) := by decide +kernel
theorem dX12_takesTest_46 : decode cX12_takesTest 46 = .ok (.getfield 50, 3) := by decide +kernel
theorem dX12_takesTest_49 : decode cX12_takesTest 49 = .ok (.iconst 1, 1) := by decide +kernel
theorem dX12_takesTest_50 : decode cX12_takesTest 50 = .ok (.iadd, 1) := by decide +kernel
theorem dX12_takesTest_51 : decode cX12_takesTest 51 = .ok (.putfield 50, 3) := by decide +kernel
theorem dX12_takesTest_54 : decode cX12_takesTest 54 = .ok (.aload_n 0, 1) := by decide +kernel
theorem dX12_takesTest_55 : decode cX12_takesTest 55 = .ok (.invokevirtual 266, 3) := by decide +kernel
theorem dX12_takesTest_58 : decode cX12_takesTest 58 = .ok (.ifCond .ne 5, 3) := by decide +kernel
theorem dX12_takesTest_61 : decode cX12_takesTest 61 = .ok (.iconst 0, 1) := by decide +kernel
theorem dX12_takesTest_62 : decode cX12_takesTest 62 = .ok (.ireturn, 1) := by decide +kernel
theorem dX12_takesTest_63 : decode cX12_takesTest 63 = .ok (.aload_n 0, 1) := by decide +kernel
theorem dX12_takesTest_64 : decode cX12_takesTest 64 = .ok (.sipush 1000, 3) := by decide +kernel
theorem dX12_takesTest_67 : decode cX12_takesTest 67 = .ok (.iload_n 1, 1) := by decide +kernel
theorem dX12_takesTest_68 : decode cX12_takesTest 68 = .ok (.imul, 1) := by decide +kernel
theorem dX12_takesTest_69 : decode cX12_takesTest 69 = .ok (.bipush 100, 2) := by decide +kernel
theorem dX12_takesTest_71 : decode cX12_takesTest 71 = .ok (.iload_n 2, 1) := by decide +kernel
theorem dX12_takesTest_72 : decode cX12_takesTest 72 = .ok (.bipush 60, 2) := by decide +kernel
theorem dX12_takesTest_74 : decode cX12_takesTest 74 = .ok (.isub, 1) := by decide +kernel
theorem dX12_takesTest_75 : decode cX12_takesTest 75 = .ok (.imul, 1) := by decide +kernel
theorem dX12_takesTest_76 : decode cX12_takesTest 76 = .ok (.iadd, 1) := by decide +kernel
theorem dX12_takesTest_77 : decode cX12_takesTest 77 = .ok (.aload_n 0, 1) := by decide +kernel
theorem dX12_takesTest_78 : decode cX12_takesTest 78 = .ok (.getfield 53, 3) := by decide +kernel
theorem dX12_takesTest_81 : decode cX12_takesTest 81 = .ok (.iadd, 1) := by decide +kernel
theorem dX12_takesTest_82 : decode cX12_takesTest 82 = .ok (.invokevirtual 258, 3) := by decide +kernel
theorem dX12_takesTest_85 : decode cX12_takesTest 85 = .ok (.aload_n 0, 1) := by decide +kernel
theorem dX12_takesTest_86 : decode cX12_takesTest 86 = .ok (.invokevirtual 269, 3) := by decide +kernel
theorem dX12_takesTest_89 : decode cX12_takesTest 89 = .ok (.iconst 1, 1) := by decide +kernel
theorem dX12_takesTest_90 : decode cX12_takesTest 90 = .ok (.ireturn, 1) := by decide +kernel
theorem dX12_takesE_0 : decode cX12_takesE 0 = .ok (.aload_n 0, 1) := by decide +kernel
theorem dX12_takesE_1 : decode cX12_takesE 1 = .ok (.iconst 0, 1) := by decide +kernel
theorem dX12_takesE_2 : decode cX12_takesE 2 = .ok (.putfield 83, 3) := by decide +kernel
theorem dX12_takesE_5 : decode cX12_takesE 5 = .ok (.aload_n 0, 1) := by decide +kernel
theorem dX12_takesE_6 : decode cX12_takesE 6 = .ok (.iconst 0, 1) := by decide +kernel
theorem dX12_takesE_7 : decode cX12_takesE 7 = .ok (.putfield 86, 3) := by decide +kernel
theorem dX12_takesE_10 : decode cX12_takesE 10 = .ok (.aload_n 0, 1) := by decide +kernel
theorem dX12_takesE_11 : decode cX12_takesE 11 = .ok (.getfield 68, 3) := by decide +kernel
theorem dX12_takesE_14 : decode cX12_takesE 14 = .ok (.iload_n 1, 1) := by decide +kernel
theorem dX12_takesE_15 : decode cX12_takesE 15 = .ok (.aload_n 0, 1) := by decide +kernel
theorem dX12_takesE_16 : decode cX12_takesE 16 = .ok (.getfield 80, 3) := by decide +kernel
theorem dX12_takesE_19 : decode cX12_takesE 19 = .ok (.iastore, 1) := by decide +kernel
theorem dX12_takesE_20 : decode cX12_takesE 20 = .ok (.iconst 1, 1) := by decide +kernel
theorem dX12_takesE_21 : decode cX12_takesE 21 = .ok (.istore_n 2, 1) := by decide +kernel
theorem dX12_takesE_22 : decode cX12_takesE 22 = .ok (.aload_n 0, 1) := by decide +kernel
theorem dX12_takesE_23 : decode cX12_takesE 23 = .ok (.invokevirtual 248, 3) := by decide +kernel
theorem dX12_takesE_26 : decode cX12_takesE 26 = .ok (.istore_n 3, 1) := by decide +kernel
theorem dX12_takesE_27 : decode cX12_takesE 27 = .ok (.iload_n 2, 1) := by decide +kernel
theorem dX12_takesE_28 : decode cX12_takesE 28 = .ok (.ifCond .eq 82, 3) := by decide +kernel
theorem dX12_takesE_31 : decode cX12_takesE 31 = .ok (.iload_n 3, 1) := by decide +kernel
theorem dX12_takesE_32 : decode cX12_takesE 32 = .ok (.bipush 33, 2) := by decide +kernel
theorem dX12_takesE_34 : decode cX12_takesE 34 = .ok (.if_icmp .eq 9, 3) := by decide +kernel
theorem dX12_takesE_37 : decode cX12_takesE 37 = .ok (.iload_n 3, 1) := by decide +kernel
theorem dX12_takesE_38 : decode cX12_takesE 38 = .ok (.bipush 40, 2) := by decide +kernel
theorem dX12_takesE_40 : decode cX12_takesE 40 = .ok (.if_icmp .ne 56, 3) := by decide +kernel
theorem dX12_takesE_43 : decode cX12_takesE 43 = .ok (.aload_n 0, 1) := by decide +kernel
theorem dX12_takesE_44 : decode cX12_takesE 44 = .ok (.getfield 86, 3) := by decide +kernel
theorem dX12_takesE_47 : decode cX12_takesE 47 = .ok (.iconst 4, 1) := by decide +kernel
theorem dX12_takesE_48 : decode cX12_takesE 48 = .ok (.if_icmp .ne 5, 3) := by decide +kernel
theorem dX12_takesE_51 : decode cX12_takesE 51 = .ok (.iconst 0, 1) := by decide +kernel
theorem dX12_takesE_52 : decode cX12_takesE 52 = .ok (.ireturn, 1) := by decide +kernel
theorem dX12_takesE_53 : decode cX12_takesE 53 = .ok (.aload_n 0, 1) := by decide +kernel
theorem dX12_takesE_54 : decode cX12_takesE 54 = .ok (.dup, 1) := by decide +kernel
theorem dX12_takesE_55 : decode cX12_takesE 55 = .ok (.getfield 86, 3) := by decide +kernel
theorem dX12_takesE_58 : decode cX12_takesE 58 = .ok (.iconst 1, 1) := by decide +kernel
theorem dX12_takesE_59 : decode cX12_takesE 59 = .ok (.iadd, 1) := by decide +kernel
theorem dX12_takesE_60 : decode cX12_takesE 60 = .ok (.putfield 86, 3) := by decide +kernel
theorem dX12_takesE_63 : decode cX12_takesE 63 = .ok (.aload_n 0, 1) := by decide +kernel
theorem dX12_takesE_64 : decode cX12_takesE 64 = .ok (.getfield 77, 3) := by decide +kernel
theorem dX12_takesE_67 : decode cX12_takesE 67 = .ok (.aload_n 0, 1) := by decide +kernel
theorem dX12_takesE_68 : decode cX12_takesE 68 = .ok (.getfield 83, 3) := by decide +kernel
theorem dX12_takesE_71 : decode cX12_takesE 71 = .ok (.iload_n 3, 1) := by decide +kernel
theorem dX12_takesE_72 : decode cX12_takesE 72 = .ok (.iastore, 1) := by decide +kernel
theorem dX12_takesE_73 : decode cX12_takesE 73 = .ok (.aload_n 0, 1) := by decide +kernel
theorem dX12_takesE_74 : decode cX12_takesE 74 = .ok (.dup, 1) := by decide +kernel
theorem dX12_takesE_75 : decode cX12_takesE 75 = .ok (.getfield 83, 3) := by decide +kernel
theorem dX12_takesE_78 : decode cX12_takesE 78 = .ok (.iconst 1, 1) := by decide +kernel
theorem dX12_takesE_79 : decode cX12_takesE 79 = .ok (.iadd, 1) := by decide +kernel
theorem dX12_takesE_80 : decode cX12_takesE 80 = .ok (.putfield 83, 3) := by decide +kernel
theorem dX12_takesE_83 : decode cX12_takesE 83 = .ok (.aload_n 0, 1) := by decide +kernel
theorem dX12_takesE_84 : decode cX12_takesE 84 = .ok (.dup, 1) := by decide +kernel
theorem dX12_takesE_85 : decode cX12_takesE 85 = .ok (.getfield 50, 3) := by decide +kernel
theorem dX12_takesE_88 : decode cX12_takesE 88 = .ok (.iconst 1, 1) := by decide +kernel
theorem dX12_takesE_89 : decode cX12_takesE 89 = .ok (.iadd, 1) := by decide +kernel
theorem dX12_takesE_90 : decode cX12_takesE 90 = .ok (.putfield 50, 3) := by decide +kernel
theorem dX12_takesE_93 : decode cX12_takesE 93 = .ok (.goto (-71), 3) := by decide +kernel
theorem dX12_takesE_96 : decode cX12_takesE 96 = .ok (.aload_n 0, 1) := by decide +kernel
theorem dX12_takesE_97 : decode cX12_takesE 97 = .ok (.invokevirtual 272, 3) := by decide +kernel
theorem dX12_takesE_100 : decode cX12_takesE 100 = .ok (.ifCond .eq 8, 3) := by decide +kernel
theorem dX12_takesE_103 : decode cX12_takesE 103 = .ok (.iconst 0, 1) := by decide +kernel
theorem dX12_takesE_104 : decode cX12_takesE 104 = .ok (.istore_n 2, 1) := by decide +kernel
theorem dX12_takesE_105 : decode cX12_takesE 105 = .ok (.goto (-83), 3) := by decide +kernel
theorem dX12_takesE_108 : decode cX12_takesE 108 = .ok (.iconst 0, 1) := by decide +kernel
theorem dX12_takesE_109 : decode cX12_takesE 109 = .ok (.ireturn, 1) := by decide +kernel
theorem dX12_takesE_110 : decode cX12_takesE 110 = .ok (.iload_n 3, 1) := by decide +kernel
theorem dX12_takesE_111 : decode cX12_takesE 111 = .ok (.bipush 38, 2) := by decide +kernel
theorem dX12_takesE_113 : decode cX12_takesE 113 = .ok (.if_icmp .eq 9, 3) := by decide +kernel
theorem dX12_takesE_116 : decode cX12_takesE 116 = .ok (.iload_n 3, 1) := by decide +kernel
theorem dX12_takesE_117 : decode cX12_takesE 117 = .ok (.bipush 124, 2) := by decide +kernel
theorem dX12_takesE_119 : decode cX12_takesE 119 = .ok (.if_icmp .ne 43, 3) := by decide +kernel
theorem dX12_takesE_122 : decode cX12_takesE 122 = .ok (.aload_n 0, 1) := by decide +kernel
theorem dX12_takesE_123 : decode cX12_takesE 123 = .ok (.iload_n 3, 1) := by decide +kernel
theorem dX12_takesE_124 : decode cX12_takesE 124 = .ok (.invokevirtual 275, 3) := by decide +kernel
theorem dX12_takesE_127 : decode cX12_takesE 127 = .ok (.aload_n 0, 1) := by decide +kernel
theorem dX12_takesE_128 : decode cX12_takesE 128 = .ok (.getfield 77, 3) := by decide +kernel
theorem dX12_takesE_131 : decode cX12_takesE 131 = .ok (.aload_n 0, 1) := by decide +kernel
theorem dX12_takesE_132 : decode cX12_takesE 132 = .ok (.getfield 83, 3) := by decide +kernel
theorem dX12_takesE_135 : decode cX12_takesE 135 = .ok (.iload_n 3, 1) := by decide +kernel
theorem dX12_takesE_136 : decode cX12_takesE 136 = .ok (.iastore, 1) := by decide +kernel
theorem dX12_takesE_137 : decode cX12_takesE 137 = .ok (.aload_n 0, 1) := by decide +kernel
theorem dX12_takesE_138 : decode cX12_takesE 138 = .ok (.dup, 1) := by decide +kernel
theorem dX12_takesE_139 : decode cX12_takesE 139 = .ok (.getfield 83, 3) := by decide +kernel
theorem dX12_takesE_142 : decode cX12_takesE 142 = .ok (.iconst 1, 1) := by decide +kernel
theorem dX12_takesE_143 : decode cX12_takesE 143 = .ok (.iadd, 1) := by decide +kernel
theorem dX12_takesE_144 : decode cX12_takesE 144 = .ok (.putfield 83, 3) := by decide +kernel
theorem dX12_takesE_147 : decode cX12_takesE 147 = .ok (.iconst 1, 1) := by decide +kernel
theorem dX12_takesE_148 : decode cX12_takesE 148 = .ok (.istore_n 2, 1) := by decide +kernel
theorem dX12_takesE_149 : decode cX12_takesE 149 = .ok (.aload_n 0, 1) := by decide +kernel
theorem dX12_takesE_150 : decode cX12_takesE 150 = .ok (.dup, 1) := by decide +kernel
theorem dX12_takesE_151 : decode cX12_takesE 151 = .ok (.getfield 50, 3) := by decide +kernel
theorem dX12_takesE_154 : decode cX12_takesE 154 = .ok (.iconst 1, 1) := by decide +kernel
theorem dX12_takesE_155 : decode cX12_takesE 155 = .ok (.iadd, 1) := by decide +kernel
theorem dX12_takesE_156 : decode cX12_takesE 156 = .ok (.putfield 50, 3) := by decide +kernel
theorem dX12_takesE_159 : decode cX12_takesE 159 = .ok (.goto (-137), 3) := by decide +kernel
theorem dX12_takesE_162 : decode cX12_takesE 162 = .ok (.aload_n 0, 1) := by decide +kernel
theorem dX12_takesE_163 : decode cX12_takesE 163 = .ok (.bipush 124, 2) := by decide +kernel
theorem dX12_takesE_165 : decode cX12_takesE 165 = .ok (.invokevirtual 275, 3) := by decide +kernel
theorem dX12_takesE_168 : decode cX12_takesE 168 = .ok (.aload_n 0, 1) := by decide +kernel
theorem dX12_takesE_169 : decode cX12_takesE 169 = .ok (.getfield 71, 3) := by decide +kernel
theorem dX12_takesE_172 : decode cX12_takesE 172 = .ok (.iload_n 1, 1) := by decide +kernel
theorem dX12_takesE_173 : decode cX12_takesE 173 = .ok (.aload_n 0, 1) := by decide +kernel
theorem dX12_takesE_174 : decode cX12_takesE 174 = .ok (.getfield 80, 3) := by decide +kernel
theorem dX12_takesE_177 : decode cX12_takesE 177 = .ok (.iastore, 1) := by decide +kernel
theorem dX12_takesE_178 : decode cX12_takesE 178 = .ok (.aload_n 0, 1) := by decide +kernel
theorem dX12_takesE_179 : decode cX12_takesE 179 = .ok (.getfield 83, 3) := by decide +kernel
theorem dX12_takesE_182 : decode cX12_takesE 182 = .ok (.ifCond .ne 5, 3) := by decide +kernel
theorem dX12_takesE_185 : decode cX12_takesE 185 = .ok (.iconst 1, 1) := by decide +kernel
theorem dX12_takesE_186 : decode cX12_takesE 186 = .ok (.ireturn, 1) := by decide +kernel
theorem dX12_takesE_187 : decode cX12_takesE 187 = .ok (.iload_n 3, 1) := by decide +kernel
theorem dX12_takesE_188 : decode cX12_takesE 188 = .ok (.bipush 41, 2) := by decide +kernel
theorem dX12_takesE_190 : decode cX12_takesE 190 = .ok (.if_icmp .eq 5, 3) := by decide +kernel
theorem dX12_takesE_193 : decode cX12_takesE 193 = .ok (.iconst 0, 1) := by decide +kernel
theorem dX12_takesE_194 : decode cX12_takesE 194 = .ok (.ireturn, 1) := by decide +kernel
theorem dX12_takesE_195 : decode cX12_takesE 195 = .ok (.aload_n 0, 1) := by decide +kernel
theorem dX12_takesE_196 : decode cX12_takesE 196 = .ok (.dup, 1) := by decide +kernel
theorem dX12_takesE_197 : decode cX12_takesE 197 = .ok (.getfield 83, 3) := by decide +kernel
theorem dX12_takesE_200 : decode cX12_takesE 200 = .ok (.iconst 1, 1) := by decide +kernel
theorem dX12_takesE_201 : decode cX12_takesE 201 = .ok (.isub, 1) := by decide +kernel
theorem dX12_takesE_202 : decode cX12_takesE 202 = .ok (.putfield 83, 3) := by decide +kernel
theorem dX12_takesE_205 : decode cX12_takesE 205 = .ok (.aload_n 0, 1) := by decide +kernel
theorem dX12_takesE_206 : decode cX12_takesE 206 = .ok (.dup, 1) := by decide +kernel
theorem dX12_takesE_207 : decode cX12_takesE 207 = .ok (.getfield 86, 3) := by decide +kernel
theorem dX12_takesE_210 : decode cX12_takesE 210 = .ok (.iconst 1, 1) := by decide +kernel
theorem dX12_takesE_211 : decode cX12_takesE 211 = .ok (.isub, 1) := by decide +kernel
theorem dX12_takesE_212 : decode cX12_takesE 212 = .ok (.putfield 86, 3) := by decide +kernel
theorem dX12_takesE_215 : decode cX12_takesE 215 = .ok (.aload_n 0, 1) := by decide +kernel
theorem dX12_takesE_216 : decode cX12_takesE 216 = .ok (.dup, 1) := by decide +kernel
theorem dX12_takesE_217 : decode cX12_takesE 217 = .ok (.getfield 50, 3) := by decide +kernel
theorem dX12_takesE_220 : decode cX12_takesE 220 = .ok (.iconst 1, 1) := by decide +kernel
theorem dX12_takesE_221 : decode cX12_takesE 221 = .ok (.iadd, 1) := by decide +kernel
theorem dX12_takesE_222 : decode cX12_takesE 222 = .ok (.putfield 50, 3) := by decide +kernel
theorem dX12_takesE_225 : decode cX12_takesE 225 = .ok (.aload_n 0, 1) := by decide +kernel
theorem dX12_takesE_226 : decode cX12_takesE 226 = .ok (.invokevirtual 269, 3) := by decide +kernel
theorem dX12_takesE_229 : decode cX12_takesE 229 = .ok (.goto (-207), 3) := by decide +kernel
theorem dX12_takesHead_0 : decode cX12_takesHead 0 = .ok (.aload_n 0, 1) := by decide +kernel
theorem dX12_takesHead_1 : decode cX12_takesHead 1 = .ok (.invokevirtual 248, 3) := by decide +kernel
theorem dX12_takesHead_4 : decode cX12_takesHead 4 = .ok (.lookupswitch 58 #[(102, 43), (119, 28)], 28) := by decide +kernel
theorem dX12_takesHead_32 : decode cX12_takesHead 32 = .ok (.aload_n 0, 1) := by decide +kernel
theorem dX12_takesHead_33 : decode cX12_takesHead 33 = .ok (.getfield 62, 3) := by decide +kernel
theorem dX12_takesHead_36 : decode cX12_takesHead 36 = .ok (.iload_n 1, 1) := by decide +kernel
theorem dX12_takesHead_37 : decode cX12_takesHead 37 = .ok (.iconst 0, 1) := by decide +kernel
theorem dX12_takesHead_38 : decode cX12_takesHead 38 = .ok (.iastore, 1) := by decide +kernel
theorem dX12_takesHead_39 : decode cX12_takesHead 39 = .ok (.aload_n 0, 1) := by decide +kernel
theorem dX12_takesHead_40 : decode cX12_takesHead 40 = .ok (.iconst 0, 1) := by decide +kernel
theorem dX12_takesHead_41 : decode cX12_takesHead 41 = .ok (.bipush 6, 2) := by decide +kernel
theorem dX12_takesHead_43 : decode cX12_takesHead 43 = .ok (.invokevirtual 278, 3) := by decide +kernel
theorem dX12_takesHead_46 : decode cX12_takesHead 46 = .ok (.ireturn, 1) := by decide +kernel
theorem dX12_takesHead_47 : decode cX12_takesHead 47 = .ok (.aload_n 0, 1) := by decide +kernel
theorem dX12_takesHead_48 : decode cX12_takesHead 48 = .ok (.getfield 62, 3) := by decide +kernel
theorem dX12_takesHead_51 : decode cX12_takesHead 51 = .ok (.iload_n 1, 1) := by decide +kernel
theorem dX12_takesHead_52 : decode cX12_takesHead 52 = .ok (.iconst 2, 1) := by decide +kernel
theorem dX12_takesHead_53 : decode cX12_takesHead 53 = .ok (.iastore, 1) := by decide +kernel
theorem dX12_takesHead_54 : decode cX12_takesHead 54 = .ok (.aload_n 0, 1) := by decide +kernel
theorem dX12_takesHead_55 : decode cX12_takesHead 55 = .ok (.bipush 11, 2) := by decide +kernel
theorem dX12_takesHead_57 : decode cX12_takesHead 57 = .ok (.iconst 3, 1) := by decide +kernel
theorem dX12_takesHead_58 : decode cX12_takesHead 58 = .ok (.invokevirtual 278, 3) := by decide +kernel
theorem dX12_takesHead_61 : decode cX12_takesHead 61 = .ok (.ireturn, 1) := by decide +kernel
theorem dX12_takesHead_62 : decode cX12_takesHead 62 = .ok (.aload_n 0, 1) := by decide +kernel
theorem dX12_takesHead_63 : decode cX12_takesHead 63 = .ok (.getfield 62, 3) := by decide +kernel
theorem dX12_takesHead_66 : decode cX12_takesHead 66 = .ok (.iload_n 1, 1) := by decide +kernel
theorem dX12_takesHead_67 : decode cX12_takesHead 67 = .ok (.aload_n 0, 1) := by decide +kernel
theorem dX12_takesHead_68 : decode cX12_takesHead 68 = .ok (.invokevirtual 282, 3) := by decide +kernel
theorem dX12_takesHead_71 : decode cX12_takesHead 71 = .ok (.bipush 116, 2) := by decide +kernel
theorem dX12_takesHead_73 : decode cX12_takesHead 73 = .ok (.if_icmp .ne 7, 3) := by decide +kernel
theorem dX12_takesHead_76 : decode cX12_takesHead 76 = .ok (.iconst 1, 1) := by decide +kernel
theorem dX12_takesHead_77 : decode cX12_takesHead 77 = .ok (.goto 17, 3) := by decide +kernel
theorem dX12_takesHead_80 : decode cX12_takesHead 80 = .ok (.aload_n 0, 1) := by decide +kernel
theorem dX12_takesHead_81 : decode cX12_takesHead 81 = .ok (.invokevirtual 282, 3) := by decide +kernel
theorem dX12_takesHead_84 : decode cX12_takesHead 84 = .ok (.bipush 104, 2) := by decide +kernel
theorem dX12_takesHead_86 : decode cX12_takesHead 86 = .ok (.if_icmp .ne 7, 3) := by decide +kernel
theorem dX12_takesHead_89 : decode cX12_takesHead 89 = .ok (.iconst 3, 1) := by decide +kernel
theorem dX12_takesHead_90 : decode cX12_takesHead 90 = .ok (.goto 4, 3) := by decide +kernel
theorem dX12_takesHead_93 : decode cX12_takesHead 93 = .ok (.iconst 4, 1) := by decide +kernel
theorem dX12_takesHead_94 : decode cX12_takesHead 94 = .ok (.iastore, 1) := by decide +kernel
theorem dX12_takesHead_95 : decode cX12_takesHead 95 = .ok (.aload_n 0, 1) := by decide +kernel
theorem dX12_takesHead_96 : decode cX12_takesHead 96 = .ok (.getfield 62, 3) := by decide +kernel
theorem dX12_takesHead_99 : decode cX12_takesHead 99 = .ok (.iload_n 1, 1) := by decide +kernel
theorem dX12_takesHead_100 : decode cX12_takesHead 100 = .ok (.iaload, 1) := by decide +kernel
theorem dX12_takesHead_101 : decode cX12_takesHead 101 = .ok (.iconst 1, 1) := by decide +kernel
theorem dX12_takesHead_102 : decode cX12_takesHead 102 = .ok (.if_icmp .ne 13, 3) := by decide +kernel
theorem dX12_takesHead_105 : decode cX12_takesHead 105 = .ok (.aload_n 0, 1) := by decide +kernel
theorem dX12_takesHead_106 : decode cX12_takesHead 106 = .ok (.bipush 6, 2) := by decide +kernel
theorem dX12_takesHead_108 : decode cX12_takesHead 108 = .ok (.iconst 5, 1) := by decide +kernel
theorem dX12_takesHead_109 : decode cX12_takesHead 109 = .ok (.invokevirtual 278, 3) := by decide +kernel
theorem dX12_takesHead_112 : decode cX12_takesHead 112 = .ok (.goto 30, 3) := by decide +kernel
theorem dX12_takesHead_115 : decode cX12_takesHead 115 = .ok (.aload_n 0, 1) := by decide +kernel
theorem dX12_takesHead_116 : decode cX12_takesHead 116 = .ok (.getfield 62, 3) := by decide +kernel
theorem dX12_takesHead_119 : decode cX12_takesHead 119 = .ok (.iload_n 1, 1) := by decide +kernel
theorem dX12_takesHead_120 : decode cX12_takesHead 120 = .ok (.iaload, 1) := by decide +kernel
theorem dX12_takesHead_121 : decode cX12_takesHead 121 = .ok (.iconst 3, 1) := by decide +kernel
theorem dX12_takesHead_122 : decode cX12_takesHead 122 = .ok (.if_icmp .ne 13, 3) := by decide +kernel
theorem dX12_takesHead_125 : decode cX12_takesHead 125 = .ok (.aload_n 0, 1) := by decide +kernel
theorem dX12_takesHead_126 : decode cX12_takesHead 126 = .ok (.bipush 14, 2) := by decide +kernel
theorem dX12_takesHead_128 : decode cX12_takesHead 128 = .ok (.iconst 5, 1) := by decide +kernel
theorem dX12_takesHead_129 : decode cX12_takesHead 129 = .ok (.invokevirtual 278, 3) := by decide +kernel
theorem dX12_takesHead_132 : decode cX12_takesHead 132 = .ok (.goto 10, 3) := by decide +kernel
theorem dX12_takesHead_135 : decode cX12_takesHead 135 = .ok (.aload_n 0, 1) := by decide +kernel
theorem dX12_takesHead_136 : decode cX12_takesHead 136 = .ok (.bipush 19, 2) := by decide +kernel
theorem dX12_takesHead_138 : decode cX12_takesHead 138 = .ok (.iconst 4, 1) := by decide +kernel
theorem dX12_takesHead_139 : decode cX12_takesHead 139 = .ok (.invokevirtual 278, 3) := by decide +kernel
theorem dX12_takesHead_142 : decode cX12_takesHead 142 = .ok (.ireturn, 1) := by decide +kernel
theorem dX12_takesClause_0 : decode cX12_takesClause 0 = .ok (.aload_n 0, 1) := by decide +kernel
theorem dX12_takesClause_1 : decode cX12_takesClause 1 = .ok (.iload_n 1, 1) := by decide +kernel
theorem dX12_takesClause_2 : decode cX12_takesClause 2 = .ok (.invokevirtual 285, 3) := by decide +kernel
theorem dX12_takesClause_5 : decode cX12_takesClause 5 = .ok (.ifCond .eq 10, 3) := by decide +kernel
theorem dX12_takesClause_8 : decode cX12_takesClause 8 = .ok (.aload_n 0, 1) := by decide +kernel
theorem dX12_takesClause_9 : decode cX12_takesClause 9 = .ok (.invokevirtual 266, 3) := by decide +kernel
theorem dX12_takesClause_12 : decode cX12_takesClause 12 = .ok (.ifCond .ne 5, 3) := by decide +kernel
theorem dX12_takesClause_15 : decode cX12_takesClause 15 = .ok (.iconst 0, 1) := by decide +kernel
theorem dX12_takesClause_16 : decode cX12_takesClause 16 = .ok (.ireturn, 1) := by decide +kernel
theorem dX12_takesClause_17 : decode cX12_takesClause 17 = .ok (.aload_n 0, 1) := by decide +kernel
theorem dX12_takesClause_18 : decode cX12_takesClause 18 = .ok (.getfield 65, 3) := by decide +kernel
theorem dX12_takesClause_21 : decode cX12_takesClause 21 = .ok (.iload_n 1, 1) := by decide +kernel
theorem dX12_takesClause_22 : decode cX12_takesClause 22 = .ok (.aload_n 0, 1) := by decide +kernel
theorem dX12_takesClause_23 : decode cX12_takesClause 23 = .ok (.getfield 53, 3) := by decide +kernel
theorem dX12_takesClause_26 : decode cX12_takesClause 26 = .ok (.iastore, 1) := by decide +kernel
theorem dX12_takesClause_27 : decode cX12_takesClause 27 = .ok (.aload_n 0, 1) := by decide +kernel
theorem dX12_takesClause_28 : decode cX12_takesClause 28 = .ok (.getfield 62, 3) := by decide +kernel
theorem dX12_takesClause_31 : decode cX12_takesClause 31 = .ok (.iload_n 1, 1) := by decide +kernel
theorem dX12_takesClause_32 : decode cX12_takesClause 32 = .ok (.iaload, 1) := by decide +kernel
theorem dX12_takesClause_33 : decode cX12_takesClause 33 = .ok (.iconst 2, 1) := by decide +kernel
theorem dX12_takesClause_34 : decode cX12_takesClause 34 = .ok (.if_icmp .ge 20, 3) := by decide +kernel
theorem dX12_takesClause_37 : decode cX12_takesClause 37 = .ok (.aload_n 0, 1) := by decide +kernel
theorem dX12_takesClause_38 : decode cX12_takesClause 38 = .ok (.bipush 32, 2) := by decide +kernel
theorem dX12_takesClause_40 : decode cX12_takesClause 40 = .ok (.invokevirtual 251, 3) := by decide +kernel
theorem dX12_takesClause_43 : decode cX12_takesClause 43 = .ok (.ifCond .eq 15, 3) := by decide +kernel
theorem dX12_takesClause_46 : decode cX12_takesClause 46 = .ok (.aload_n 0, 1) := by decide +kernel
theorem dX12_takesClause_47 : decode cX12_takesClause 47 = .ok (.iload_n 1, 1) := by decide +kernel
theorem dX12_takesClause_48 : decode cX12_takesClause 48 = .ok (.invokevirtual 288, 3) := by decide +kernel
theorem dX12_takesClause_51 : decode cX12_takesClause 51 = .ok (.ifCond .eq 7, 3) := by decide +kernel
theorem dX12_takesClause_54 : decode cX12_takesClause 54 = .ok (.iconst 1, 1) := by decide +kernel
theorem dX12_takesClause_55 : decode cX12_takesClause 55 = .ok (.goto 4, 3) := by decide +kernel
theorem dX12_takesClause_58 : decode cX12_takesClause 58 = .ok (.iconst 0, 1) := by decide +kernel
theorem dX12_takesClause_59 : decode cX12_takesClause 59 = .ok (.ireturn, 1) := by decide +kernel
theorem dX12_goesText_0 : decode cX12_goesText 0 = .ok (.aload_n 0, 1) := by decide +kernel
theorem dX12_goesText_1 : decode cX12_goesText 1 = .ok (.iconst 0, 1) := by decide +kernel
theorem dX12_goesText_2 : decode cX12_goesText 2 = .ok (.putfield 50, 3) := by decide +kernel
theorem dX12_goesText_5 : decode cX12_goesText 5 = .ok (.aload_n 0, 1) := by decide +kernel
theorem dX12_goesText_6 : decode cX12_goesText 6 = .ok (.bipush 100, 2) := by decide +kernel
theorem dX12_goesText_8 : decode cX12_goesText 8 = .ok (.iload_n 1, 1) := by decide +kernel
theorem dX12_goesText_9 : decode cX12_goesText 9 = .ok (.imul, 1) := by decide +kernel
theorem dX12_goesText_10 : decode cX12_goesText 10 = .ok (.putfield 80, 3) := by decide +kernel
theorem dX12_goesText_13 : decode cX12_goesText 13 = .ok (.iconst 0, 1) := by decide +kernel
theorem dX12_goesText_14 : decode cX12_goesText 14 = .ok (.istore_n 2, 1) := by decide +kernel
theorem dX12_goesText_15 : decode cX12_goesText 15 = .ok (.aload_n 0, 1) := by decide +kernel
theorem dX12_goesText_16 : decode cX12_goesText 16 = .ok (.bipush 10, 2) := by decide +kernel
theorem dX12_goesText_18 : decode cX12_goesText 18 = .ok (.iload_n 1, 1) := by decide +kernel
theorem dX12_goesText_19 : decode cX12_goesText 19 = .ok (.imul, 1) := by decide +kernel
theorem dX12_goesText_20 : decode cX12_goesText 20 = .ok (.iload_n 2, 1) := by decide +kernel
theorem dX12_goesText_21 : decode cX12_goesText 21 = .ok (.iadd, 1) := by decide +kernel
theorem dX12_goesText_22 : decode cX12_goesText 22 = .ok (.invokevirtual 291, 3) := by decide +kernel
theorem dX12_goesText_25 : decode cX12_goesText 25 = .ok (.ifCond .ne 5, 3) := by decide +kernel
theorem dX12_goesText_28 : decode cX12_goesText 28 = .ok (.iconst 0, 1) := by decide +kernel
theorem dX12_goesText_29 : decode cX12_goesText 29 = .ok (.ireturn, 1) := by decide +kernel
theorem dX12_goesText_30 : decode cX12_goesText 30 = .ok (.iinc 2 1, 3) := by decide +kernel
theorem dX12_goesText_33 : decode cX12_goesText 33 = .ok (.aload_n 0, 1) := by decide +kernel
theorem dX12_goesText_34 : decode cX12_goesText 34 = .ok (.getfield 59, 3) := by decide +kernel
theorem dX12_goesText_37 : decode cX12_goesText 37 = .ok (.iload_n 1, 1) := by decide +kernel
theorem dX12_goesText_38 : decode cX12_goesText 38 = .ok (.iload_n 2, 1) := by decide +kernel
theorem dX12_goesText_39 : decode cX12_goesText 39 = .ok (.iastore, 1) := by decide +kernel
theorem dX12_goesText_40 : decode cX12_goesText 40 = .ok (.aload_n 0, 1) := by decide +kernel
theorem dX12_goesText_41 : decode cX12_goesText 41 = .ok (.getfield 50, 3) := by decide +kernel
theorem dX12_goesText_44 : decode cX12_goesText 44 = .ok (.aload_n 0, 1) := by decide +kernel
theorem dX12_goesText_45 : decode cX12_goesText 45 = .ok (.getfield 47, 3) := by decide +kernel
theorem dX12_goesText_48 : decode cX12_goesText 48 = .ok (.if_icmp .ne 5, 3) := by decide +kernel
theorem dX12_goesText_51 : decode cX12_goesText 51 = .ok (.iconst 1, 1) := by decide +kernel
theorem dX12_goesText_52 : decode cX12_goesText 52 = .ok (.ireturn, 1) := by decide +kernel
theorem dX12_goesText_53 : decode cX12_goesText 53 = .ok (.iload_n 2, 1) := by decide +kernel
theorem dX12_goesText_54 : decode cX12_goesText 54 = .ok (.bipush 10, 2) := by decide +kernel
theorem dX12_goesText_56 : decode cX12_goesText 56 = .ok (.if_icmp .eq 12, 3) := by decide +kernel
theorem dX12_goesText_59 : decode cX12_goesText 59 = .ok (.aload_n 0, 1) := by decide +kernel
theorem dX12_goesText_60 : decode cX12_goesText 60 = .ok (.bipush 59, 2) := by decide +kernel
theorem dX12_goesText_62 : decode cX12_goesText 62 = .ok (.invokevirtual 251, 3) := by decide +kernel
theorem dX12_goesText_65 : decode cX12_goesText 65 = .ok (.ifCond .ne (-50), 3) := by decide +kernel
theorem dX12_goesText_68 : decode cX12_goesText 68 = .ok (.iconst 0, 1) := by decide +kernel
theorem dX12_goesText_69 : decode cX12_goesText 69 = .ok (.ireturn, 1) := by decide +kernel
theorem dX12_yard_0 : decode cX12_yard 0 = .ok (.aload_n 0, 1) := by decide +kernel
theorem dX12_yard_1 : decode cX12_yard 1 = .ok (.getfield 41, 3) := by decide +kernel
theorem dX12_yard_4 : decode cX12_yard 4 = .ok (.bipush 6, 2) := by decide +kernel
theorem dX12_yard_6 : decode cX12_yard 6 = .ok (.if_icmp .ne 6, 3) := by decide +kernel
theorem dX12_yard_9 : decode cX12_yard 9 = .ok (.bipush (-4), 2) := by decide +kernel
theorem dX12_yard_11 : decode cX12_yard 11 = .ok (.ireturn, 1) := by decide +kernel
theorem dX12_yard_12 : decode cX12_yard 12 = .ok (.aload_n 0, 1) := by decide +kernel
theorem dX12_yard_13 : decode cX12_yard 13 = .ok (.aload_n 0, 1) := by decide +kernel
theorem dX12_yard_14 : decode cX12_yard 14 = .ok (.getfield 41, 3) := by decide +kernel
theorem dX12_yard_17 : decode cX12_yard 17 = .ok (.invokevirtual 294, 3) := by decide +kernel
theorem dX12_yard_20 : decode cX12_yard 20 = .ok (.istore_n 1, 1) := by decide +kernel
theorem dX12_yard_21 : decode cX12_yard 21 = .ok (.aload_n 0, 1) := by decide +kernel
theorem dX12_yard_22 : decode cX12_yard 22 = .ok (.iconst 0, 1) := by decide +kernel
theorem dX12_yard_23 : decode cX12_yard 23 = .ok (.putfield 47, 3) := by decide +kernel
theorem dX12_yard_26 : decode cX12_yard 26 = .ok (.iload_n 1, 1) := by decide +kernel
theorem dX12_yard_27 : decode cX12_yard 27 = .ok (.ifCond .ne 11, 3) := by decide +kernel
theorem dX12_yard_30 : decode cX12_yard 30 = .ok (.bipush (-10), 2) := by decide +kernel
theorem dX12_yard_32 : decode cX12_yard 32 = .ok (.aload_n 0, 1) := by decide +kernel
theorem dX12_yard_33 : decode cX12_yard 33 = .ok (.getfield 50, 3) := by decide +kernel
theorem dX12_yard_36 : decode cX12_yard 36 = .ok (.isub, 1) := by decide +kernel
theorem dX12_yard_37 : decode cX12_yard 37 = .ok (.ireturn, 1) := by decide +kernel
theorem dX12_yard_38 : decode cX12_yard 38 = .ok (.aload_n 0, 1) := by decide +kernel
theorem dX12_yard_39 : decode cX12_yard 39 = .ok (.aload_n 0, 1) := by decide +kernel
theorem dX12_yard_40 : decode cX12_yard 40 = .ok (.getfield 41, 3) := by decide +kernel
theorem dX12_yard_43 : decode cX12_yard 43 = .ok (.putfield 44, 3) := by decide +kernel
theorem dX12_yard_46 : decode cX12_yard 46 = .ok (.aload_n 0, 1) := by decide +kernel
theorem dX12_yard_47 : decode cX12_yard 47 = .ok (.dup, 1) := by decide +kernel
theorem dX12_yard_48 : decode cX12_yard 48 = .ok (.getfield 41, 3) := by decide +kernel
theorem dX12_yard_51 : decode cX12_yard 51 = .ok (.iconst 1, 1) := by decide +kernel
theorem dX12_yard_52 : decode cX12_yard 52 = .ok (.iadd, 1) := by decide +kernel
theorem dX12_yard_53 : decode cX12_yard 53 = .ok (.putfield 41, 3) := by decide +kernel
theorem dX12_yard_56 : decode cX12_yard 56 = .ok (.aload_n 0, 1) := by decide +kernel
theorem dX12_yard_57 : decode cX12_yard 57 = .ok (.getfield 44, 3) := by decide +kernel
theorem dX12_yard_60 : decode cX12_yard 60 = .ok (.ireturn, 1) := by decide +kernel
theorem dX12_begin_0 : decode cX12_begin 0 = .ok (.aload_n 0, 1) := by decide +kernel
theorem dX12_begin_1 : decode cX12_begin 1 = .ok (.getfield 44, 3) := by decide +kernel
theorem dX12_begin_4 : decode cX12_begin 4 = .ok (.ifCond .ge 7, 3) := by decide +kernel
theorem dX12_begin_7 : decode cX12_begin 7 = .ok (.iconst 0, 1) := by decide +kernel
theorem dX12_begin_8 : decode cX12_begin 8 = .ok (.goto 10, 3) := by decide +kernel
theorem dX12_begin_11 : decode cX12_begin 11 = .ok (.bipush 10, 2) := by decide +kernel
theorem dX12_begin_13 : decode cX12_begin 13 = .ok (.aload_n 0, 1) := by decide +kernel
theorem dX12_begin_14 : decode cX12_begin 14 = .ok (.getfield 44, 3) := by decide +kernel
theorem dX12_begin_17 : decode cX12_begin 17 = .ok (.imul, 1) := by decide +kernel
theorem dX12_begin_18 : decode cX12_begin 18 = .ok (.ireturn, 1) := by decide +kernel
theorem dX12_behind_0 : decode cX12_behind 0 = .ok (.aload_n 0, 1) := by decide +kernel
theorem dX12_behind_1 : decode cX12_behind 1 = .ok (.getfield 44, 3) := by decide +kernel
theorem dX12_behind_4 : decode cX12_behind 4 = .ok (.ifCond .ge 7, 3) := by decide +kernel
theorem dX12_behind_7 : decode cX12_behind 7 = .ok (.iconst 0, 1) := by decide +kernel
theorem dX12_behind_8 : decode cX12_behind 8 = .ok (.goto 20, 3) := by decide +kernel
theorem dX12_behind_11 : decode cX12_behind 11 = .ok (.bipush 10, 2) := by decide +kernel
theorem dX12_behind_13 : decode cX12_behind 13 = .ok (.aload_n 0, 1) := by decide +kernel
theorem dX12_behind_14 : decode cX12_behind 14 = .ok (.getfield 44, 3) := by decide +kernel
theorem dX12_behind_17 : decode cX12_behind 17 = .ok (.imul, 1) := by decide +kernel
theorem dX12_behind_18 : decode cX12_behind 18 = .ok (.aload_n 0, 1) := by decide +kernel
theorem dX12_behind_19 : decode cX12_behind 19 = .ok (.getfield 59, 3) := by decide +kernel
theorem dX12_behind_22 : decode cX12_behind 22 = .ok (.aload_n 0, 1) := by decide +kernel
theorem dX12_behind_23 : decode cX12_behind 23 = .ok (.getfield 44, 3) := by decide +kernel
theorem dX12_behind_26 : decode cX12_behind 26 = .ok (.iaload, 1) := by decide +kernel
theorem dX12_behind_27 : decode cX12_behind 27 = .ok (.iadd, 1) := by decide +kernel
theorem dX12_behind_28 : decode cX12_behind 28 = .ok (.ireturn, 1) := by decide +kernel
theorem dX12_lastOf_0 : decode cX12_lastOf 0 = .ok (.iload_n 2, 1) := by decide +kernel
theorem dX12_lastOf_1 : decode cX12_lastOf 1 = .ok (.istore_n 3, 1) := by decide +kernel
theorem dX12_lastOf_2 : decode cX12_lastOf 2 = .ok (.aload_n 0, 1) := by decide +kernel
theorem dX12_lastOf_3 : decode cX12_lastOf 3 = .ok (.invokevirtual 297, 3) := by decide +kernel
theorem dX12_lastOf_6 : decode cX12_lastOf 6 = .ok (.istore 4, 2) := by decide +kernel
theorem dX12_lastOf_8 : decode cX12_lastOf 8 = .ok (.iload 4, 2) := by decide +kernel
theorem dX12_lastOf_10 : decode cX12_lastOf 10 = .ok (.aload_n 0, 1) := by decide +kernel
theorem dX12_lastOf_11 : decode cX12_lastOf 11 = .ok (.invokevirtual 300, 3) := by decide +kernel
theorem dX12_lastOf_14 : decode cX12_lastOf 14 = .ok (.if_icmp .ge 32, 3) := by decide +kernel
theorem dX12_lastOf_17 : decode cX12_lastOf 17 = .ok (.aload_n 0, 1) := by decide +kernel
theorem dX12_lastOf_18 : decode cX12_lastOf 18 = .ok (.getfield 62, 3) := by decide +kernel
theorem dX12_lastOf_21 : decode cX12_lastOf 21 = .ok (.iload 4, 2) := by decide +kernel
theorem dX12_lastOf_23 : decode cX12_lastOf 23 = .ok (.iaload, 1) := by decide +kernel
theorem dX12_lastOf_24 : decode cX12_lastOf 24 = .ok (.iload_n 1, 1) := by decide +kernel
theorem dX12_lastOf_25 : decode cX12_lastOf 25 = .ok (.if_icmp .ne 13, 3) := by decide +kernel
theorem dX12_lastOf_28 : decode cX12_lastOf 28 = .ok (.aload_n 0, 1) := by decide +kernel
theorem dX12_lastOf_29 : decode cX12_lastOf 29 = .ok (.getfield 65, 3) := by decide +kernel
theorem dX12_lastOf_32 : decode cX12_lastOf 32 = .ok (.iload 4, 2) := by decide +kernel
theorem dX12_lastOf_34 : decode cX12_lastOf 34 = .ok (.iaload, 1) := by decide +kernel
theorem dX12_lastOf_35 : decode cX12_lastOf 35 = .ok (.goto 4, 3) := by decide +kernel
theorem dX12_lastOf_38 : decode cX12_lastOf 38 = .ok (.iload_n 3, 1) := by decide +kernel
theorem dX12_lastOf_39 : decode cX12_lastOf 39 = .ok (.istore_n 3, 1) := by decide +kernel
theorem dX12_lastOf_40 : decode cX12_lastOf 40 = .ok (.iinc 4 1, 3) := by decide +kernel
theorem dX12_lastOf_43 : decode cX12_lastOf 43 = .ok (.goto (-35), 3) := by decide +kernel
theorem dX12_lastOf_46 : decode cX12_lastOf 46 = .ok (.iload_n 3, 1) := by decide +kernel
theorem dX12_lastOf_47 : decode cX12_lastOf 47 = .ok (.ireturn, 1) := by decide +kernel
theorem dX12_far_0 : decode cX12_far 0 = .ok (.aload_n 0, 1) := by decide +kernel
theorem dX12_far_1 : decode cX12_far 1 = .ok (.iconst 2, 1) := by decide +kernel
theorem dX12_far_2 : decode cX12_far 2 = .ok (.bipush 40, 2) := by decide +kernel
theorem dX12_far_4 : decode cX12_far 4 = .ok (.invokevirtual 303, 3) := by decide +kernel
theorem dX12_far_7 : decode cX12_far 7 = .ok (.istore_n 1, 1) := by decide +kernel
theorem dX12_far_8 : decode cX12_far 8 = .ok (.iload_n 1, 1) := by decide +kernel
theorem dX12_far_9 : decode cX12_far 9 = .ok (.iconst 1, 1) := by decide +kernel
theorem dX12_far_10 : decode cX12_far 10 = .ok (.if_icmp .ge 7, 3) := by decide +kernel
theorem dX12_far_13 : decode cX12_far 13 = .ok (.iconst 1, 1) := by decide +kernel
theorem dX12_far_14 : decode cX12_far 14 = .ok (.goto 4, 3) := by decide +kernel
theorem dX12_far_17 : decode cX12_far 17 = .ok (.iload_n 1, 1) := by decide +kernel
theorem dX12_far_18 : decode cX12_far 18 = .ok (.ireturn, 1) := by decide +kernel
theorem dX12_sharp_0 : decode cX12_sharp 0 = .ok (.aload_n 0, 1) := by decide +kernel
theorem dX12_sharp_1 : decode cX12_sharp 1 = .ok (.iconst 3, 1) := by decide +kernel
theorem dX12_sharp_2 : decode cX12_sharp 2 = .ok (.iconst 3, 1) := by decide +kernel
theorem dX12_sharp_3 : decode cX12_sharp 3 = .ok (.invokevirtual 303, 3) := by decide +kernel
theorem dX12_sharp_6 : decode cX12_sharp 6 = .ok (.ireturn, 1) := by decide +kernel
theorem dX12_sees_0 : decode cX12_sees 0 = .ok (.aload_n 0, 1) := by decide +kernel
theorem dX12_sees_1 : decode cX12_sees 1 = .ok (.getfield 92, 3) := by decide +kernel
theorem dX12_sees_4 : decode cX12_sees 4 = .ok (.ifCond .lt 10, 3) := by decide +kernel
theorem dX12_sees_7 : decode cX12_sees 7 = .ok (.aload_n 0, 1) := by decide +kernel
theorem dX12_sees_8 : decode cX12_sees 8 = .ok (.getfield 92, 3) := by decide +kernel
theorem dX12_sees_11 : decode cX12_sees 11 = .ok (.goto 10, 3) := by decide +kernel
theorem dX12_sees_14 : decode cX12_sees 14 = .ok (.aload_n 0, 1) := by decide +kernel
theorem dX12_sees_15 : decode cX12_sees 15 = .ok (.iconst 4, 1) := by decide +kernel
theorem dX12_sees_16 : decode cX12_sees 16 = .ok (.bipush 9, 2) := by decide +kernel
theorem dX12_sees_18 : decode cX12_sees 18 = .ok (.invokevirtual 303, 3) := by decide +kernel
theorem dX12_sees_21 : decode cX12_sees 21 = .ok (.ireturn, 1) := by decide +kernel
theorem dX12_countNow_0 : decode cX12_countNow 0 = .ok (.aload_n 0, 1) := by decide +kernel
theorem dX12_countNow_1 : decode cX12_countNow 1 = .ok (.getfield 38, 3) := by decide +kernel
theorem dX12_countNow_4 : decode cX12_countNow 4 = .ok (.aload_n 0, 1) := by decide +kernel
theorem dX12_countNow_5 : decode cX12_countNow 5 = .ok (.getfield 13, 3) := by decide +kernel
theorem dX12_countNow_8 : decode cX12_countNow 8 = .ok (.iconst 4, 1) := by decide +kernel
theorem dX12_countNow_9 : decode cX12_countNow 9 = .ok (.irem, 1) := by decide +kernel
theorem dX12_countNow_10 : decode cX12_countNow 10 = .ok (.iaload, 1) := by decide +kernel
theorem dX12_countNow_11 : decode cX12_countNow 11 = .ok (.ireturn, 1) := by decide +kernel
theorem dX12_factOf_0 : decode cX12_factOf 0 = .ok (.iload_n 1, 1) := by decide +kernel
theorem dX12_factOf_1 : decode cX12_factOf 1 = .ok (.tableswitch 65 0 4 #[35, 37, 44, 51, 56], 35) := by decide +kernel
theorem dX12_factOf_36 : decode cX12_factOf 36 = .ok (.iload_n 2, 1) := by decide +kernel
theorem dX12_factOf_37 : decode cX12_factOf 37 = .ok (.ireturn, 1) := by decide +kernel
theorem dX12_factOf_38 : decode cX12_factOf 38 = .ok (.aload_n 0, 1) := by decide +kernel
theorem dX12_factOf_39 : decode cX12_factOf 39 = .ok (.getfield 19, 3) := by decide +kernel
theorem dX12_factOf_42 : decode cX12_factOf 42 = .ok (.iload_n 2, 1) := by decide +kernel
theorem dX12_factOf_43 : decode cX12_factOf 43 = .ok (.iaload, 1) := by decide +kernel
theorem dX12_factOf_44 : decode cX12_factOf 44 = .ok (.ireturn, 1) := by decide +kernel
theorem dX12_factOf_45 : decode cX12_factOf 45 = .ok (.aload_n 0, 1) := by decide +kernel
theorem dX12_factOf_46 : decode cX12_factOf 46 = .ok (.getfield 29, 3) := by decide +kernel
theorem dX12_factOf_49 : decode cX12_factOf 49 = .ok (.iload_n 2, 1) := by decide +kernel
theorem dX12_factOf_50 : decode cX12_factOf 50 = .ok (.iaload, 1) := by decide +kernel
theorem dX12_factOf_51 : decode cX12_factOf 51 = .ok (.ireturn, 1) := by decide +kernel
theorem dX12_factOf_52 : decode cX12_factOf 52 = .ok (.aload_n 0, 1) := by decide +kernel
theorem dX12_factOf_53 : decode cX12_factOf 53 = .ok (.invokevirtual 307, 3) := by decide +kernel
theorem dX12_factOf_56 : decode cX12_factOf 56 = .ok (.ireturn, 1) := by decide +kernel
theorem dX12_factOf_57 : decode cX12_factOf 57 = .ok (.aload_n 0, 1) := by decide +kernel
theorem dX12_factOf_58 : decode cX12_factOf 58 = .ok (.getfield 26, 3) := by decide +kernel
theorem dX12_factOf_61 : decode cX12_factOf 61 = .ok (.iload_n 2, 1) := by decide +kernel
theorem dX12_factOf_62 : decode cX12_factOf 62 = .ok (.iaload, 1) := by decide +kernel
theorem dX12_factOf_63 : decode cX12_factOf 63 = .ok (.iconst 5, 1) := by decide +kernel
theorem dX12_factOf_64 : decode cX12_factOf 64 = .ok (.idiv, 1) := by decide +kernel
theorem dX12_factOf_65 : decode cX12_factOf 65 = .ok (.ireturn, 1) := by decide +kernel
theorem dX12_factOf_66 : decode cX12_factOf 66 = .ok (.aload_n 0, 1) := by decide +kernel
theorem dX12_factOf_67 : decode cX12_factOf 67 = .ok (.getfield 13, 3) := by decide +kernel
theorem dX12_factOf_70 : decode cX12_factOf 70 = .ok (.bipush 10, 2) := by decide +kernel
theorem dX12_factOf_72 : decode cX12_factOf 72 = .ok (.irem, 1) := by decide +kernel
theorem dX12_factOf_73 : decode cX12_factOf 73 = .ok (.ireturn, 1) := by decide +kernel
theorem dX12_holds_0 : decode cX12_holds 0 = .ok (.iconst 0, 1) := by decide +kernel
theorem dX12_holds_1 : decode cX12_holds 1 = .ok (.istore_n 3, 1) := by decide +kernel
theorem dX12_holds_2 : decode cX12_holds 2 = .ok (.aload_n 0, 1) := by decide +kernel
theorem dX12_holds_3 : decode cX12_holds 3 = .ok (.getfield 68, 3) := by decide +kernel
theorem dX12_holds_6 : decode cX12_holds 6 = .ok (.iload_n 1, 1) := by decide +kernel
theorem dX12_holds_7 : decode cX12_holds 7 = .ok (.iaload, 1) := by decide +kernel
theorem dX12_holds_8 : decode cX12_holds 8 = .ok (.istore 4, 2) := by decide +kernel
theorem dX12_holds_10 : decode cX12_holds 10 = .ok (.iload 4, 2) := by decide +kernel
theorem dX12_holds_12 : decode cX12_holds 12 = .ok (.aload_n 0, 1) := by decide +kernel
theorem dX12_holds_13 : decode cX12_holds 13 = .ok (.getfield 71, 3) := by decide +kernel
theorem dX12_holds_16 : decode cX12_holds 16 = .ok (.iload_n 1, 1) := by decide +kernel
theorem dX12_holds_17 : decode cX12_holds 17 = .ok (.iaload, 1) := by decide +kernel
theorem dX12_holds_18 : decode cX12_holds 18 = .ok (.if_icmp .ge 225, 3) := by decide +kernel
theorem dX12_holds_21 : decode cX12_holds 21 = .ok (.aload_n 0, 1) := by decide +kernel
theorem dX12_holds_22 : decode cX12_holds 22 = .ok (.getfield 74, 3) := by decide +kernel
theorem dX12_holds_25 : decode cX12_holds 25 = .ok (.iload 4, 2) := by decide +kernel
theorem dX12_holds_27 : decode cX12_holds 27 = .ok (.iaload, 1) := by decide +kernel
theorem dX12_holds_28 : decode cX12_holds 28 = .ok (.istore 5, 2) := by decide +kernel
theorem dX12_holds_30 : decode cX12_holds 30 = .ok (.iload 5, 2) := by decide +kernel
theorem dX12_holds_32 : decode cX12_holds 32 = .ok (.bipush (-33), 2) := by decide +kernel
theorem dX12_holds_34 : decode cX12_holds 34 = .ok (.if_icmp .ne 30, 3) := by decide +kernel
theorem dX12_holds_37 : decode cX12_holds 37 = .ok (.aload_n 0, 1) := by decide +kernel
theorem dX12_holds_38 : decode cX12_holds 38 = .ok (.getfield 95, 3) := by decide +kernel
theorem dX12_holds_41 : decode cX12_holds 41 = .ok (.iload_n 3, 1) := by decide +kernel
theorem dX12_holds_42 : decode cX12_holds 42 = .ok (.iconst 1, 1) := by decide +kernel
theorem dX12_holds_43 : decode cX12_holds 43 = .ok (.isub, 1) := by decide +kernel
theorem dX12_holds_44 : decode cX12_holds 44 = .ok (.aload_n 0, 1) := by decide +kernel
theorem dX12_holds_45 : decode cX12_holds 45 = .ok (.getfield 95, 3) := by decide +kernel
theorem dX12_holds_48 : decode cX12_holds 48 = .ok (.iload_n 3, 1) := by decide +kernel
theorem dX12_holds_49 : decode cX12_holds 49 = .ok (.iconst 1, 1) := by decide +kernel
theorem dX12_holds_50 : decode cX12_holds 50 = .ok (.isub, 1) := by decide +kernel
theorem dX12_holds_51 : decode cX12_holds 51 = .ok (.baload, 1) := by decide +kernel
theorem dX12_holds_52 : decode cX12_holds 52 = .ok (.ifCond .ne 7, 3) := by decide +kernel
theorem dX12_holds_55 : decode cX12_holds 55 = .ok (.iconst 1, 1) := by decide +kernel
theorem dX12_holds_56 : decode cX12_holds 56 = .ok (.goto 4, 3) := by decide +kernel
theorem dX12_holds_59 : decode cX12_holds 59 = .ok (.iconst 0, 1) := by decide +kernel
theorem dX12_holds_60 : decode cX12_holds 60 = .ok (.bastore, 1) := by decide +kernel
theorem dX12_holds_61 : decode cX12_holds 61 = .ok (.goto 176, 3) := by decide +kernel
theorem dX12_holds_64 : decode cX12_holds 64 = .ok (.iload 5, 2) := by decide +kernel
theorem dX12_holds_66 : decode cX12_holds 66 = .ok (.ifCond .ge 77, 3) := by decide +kernel
theorem dX12_holds_69 : decode cX12_holds 69 = .ok (.iinc 3 (-1), 3) := by decide +kernel
theorem dX12_holds_72 : decode cX12_holds 72 = .ok (.aload_n 0, 1) := by decide +kernel
theorem dX12_holds_73 : decode cX12_holds 73 = .ok (.getfield 95, 3) := by decide +kernel
theorem dX12_holds_76 : decode cX12_holds 76 = .ok (.iload_n 3, 1) := by decide +kernel
theorem dX12_holds_77 : decode cX12_holds 77 = .ok (.iconst 1, 1) := by decide +kernel
theorem dX12_holds_78 : decode cX12_holds 78 = .ok (.isub, 1) := by decide +kernel
theorem dX12_holds_79 : decode cX12_holds 79 = .ok (.iload 5, 2) := by decide +kernel
theorem dX12_holds_81 : decode cX12_holds 81 = .ok (.bipush (-38), 2) := by decide +kernel
theorem dX12_holds_83 : decode cX12_holds 83 = .ok (.if_icmp .ne 31, 3) := by decide +kernel
theorem dX12_holds_86 : decode cX12_holds 86 = .ok (.aload_n 0, 1) := by decide +kernel
theorem dX12_holds_87 : decode cX12_holds 87 = .ok (.getfield 95, 3) := by decide +kernel
theorem dX12_holds_90 : decode cX12_holds 90 = .ok (.iload_n 3, 1) := by decide +kernel
theorem dX12_holds_91 : decode cX12_holds 91 = .ok (.iconst 1, 1) := by decide +kernel
theorem dX12_holds_92 : decode cX12_holds 92 = .ok (.isub, 1) := by decide +kernel
theorem dX12_holds_93 : decode cX12_holds 93 = .ok (.baload, 1) := by decide +kernel
theorem dX12_holds_94 : decode cX12_holds 94 = .ok (.ifCond .eq 16, 3) := by decide +kernel
theorem dX12_holds_97 : decode cX12_holds 97 = .ok (.aload_n 0, 1) := by decide +kernel
theorem dX12_holds_98 : decode cX12_holds 98 = .ok (.getfield 95, 3) := by decide +kernel
theorem dX12_holds_101 : decode cX12_holds 101 = .ok (.iload_n 3, 1) := by decide +kernel
theorem dX12_holds_102 : decode cX12_holds 102 = .ok (.baload, 1) := by decide +kernel
theorem dX12_holds_103 : decode cX12_holds 103 = .ok (.ifCond .eq 7, 3) := by decide +kernel
theorem dX12_holds_106 : decode cX12_holds 106 = .ok (.iconst 1, 1) := by decide +kernel
theorem dX12_holds_107 : decode cX12_holds 107 = .ok (.goto 32, 3) := by decide +kernel
theorem dX12_holds_110 : decode cX12_holds 110 = .ok (.iconst 0, 1) := by decide +kernel
theorem dX12_holds_111 : decode cX12_holds 111 = .ok (.goto 28, 3) := by decide +kernel
theorem dX12_holds_114 : decode cX12_holds 114 = .ok (.aload_n 0, 1) := by decide +kernel
theorem dX12_holds_115 : decode cX12_holds 115 = .ok (.getfield 95, 3) := by decide +kernel
theorem dX12_holds_118 : decode cX12_holds 118 = .ok (.iload_n 3, 1) := by decide +kernel
theorem dX12_holds_119 : decode cX12_holds 119 = .ok (.iconst 1, 1) := by decide +kernel
theorem dX12_holds_120 : decode cX12_holds 120 = .ok (.isub, 1) := by decide +kernel
theorem dX12_holds_121 : decode cX12_holds 121 = .ok (.baload, 1) := by decide +kernel
theorem dX12_holds_122 : decode cX12_holds 122 = .ok (.ifCond .ne 12, 3) := by decide +kernel
theorem dX12_holds_125 : decode cX12_holds 125 = .ok (.aload_n 0, 1) := by decide +kernel
theorem dX12_holds_126 : decode cX12_holds 126 = .ok (.getfield 95, 3) := by decide +kernel
theorem dX12_holds_129 : decode cX12_holds 129 = .ok (.iload_n 3, 1) := by decide +kernel
theorem dX12_holds_130 : decode cX12_holds 130 = .ok (.baload, 1) := by decide +kernel
theorem dX12_holds_131 : decode cX12_holds 131 = .ok (.ifCond .eq 7, 3) := by decide +kernel
theorem dX12_holds_134 : decode cX12_holds 134 = .ok (.iconst 1, 1) := by decide +kernel
theorem dX12_holds_135 : decode cX12_holds 135 = .ok (.goto 4, 3) := by decide +kernel
theorem dX12_holds_138 : decode cX12_holds 138 = .ok (.iconst 0, 1) := by decide +kernel
theorem dX12_holds_139 : decode cX12_holds 139 = .ok (.bastore, 1) := by decide +kernel
theorem dX12_holds_140 : decode cX12_holds 140 = .ok (.goto 97, 3) := by decide +kernel
theorem dX12_holds_143 : decode cX12_holds 143 = .ok (.aload_n 0, 1) := by decide +kernel
theorem dX12_holds_144 : decode cX12_holds 144 = .ok (.iload 5, 2) := by decide +kernel
theorem dX12_holds_146 : decode cX12_holds 146 = .ok (.sipush 1000, 3) := by decide +kernel
theorem dX12_holds_149 : decode cX12_holds 149 = .ok (.idiv, 1) := by decide +kernel
theorem dX12_holds_150 : decode cX12_holds 150 = .ok (.iload_n 2, 1) := by decide +kernel
theorem dX12_holds_151 : decode cX12_holds 151 = .ok (.invokevirtual 310, 3) := by decide +kernel
theorem dX12_holds_154 : decode cX12_holds 154 = .ok (.istore 6, 2) := by decide +kernel
theorem dX12_holds_156 : decode cX12_holds 156 = .ok (.iload 5, 2) := by decide +kernel
theorem dX12_holds_158 : decode cX12_holds 158 = .ok (.bipush 100, 2) := by decide +kernel
theorem dX12_holds_160 : decode cX12_holds 160 = .ok (.idiv, 1) := by decide +kernel
theorem dX12_holds_161 : decode cX12_holds 161 = .ok (.bipush 10, 2) := by decide +kernel
theorem dX12_holds_163 : decode cX12_holds 163 = .ok (.irem, 1) := by decide +kernel
theorem dX12_holds_164 : decode cX12_holds 164 = .ok (.istore 7, 2) := by decide +kernel
theorem dX12_holds_166 : decode cX12_holds 166 = .ok (.aload_n 0, 1) := by decide +kernel
theorem dX12_holds_167 : decode cX12_holds 167 = .ok (.getfield 95, 3) := by decide +kernel
theorem dX12_holds_170 : decode cX12_holds 170 = .ok (.iload_n 3, 1) := by decide +kernel
theorem dX12_holds_171 : decode cX12_holds 171 = .ok (.iload 7, 2) := by decide +kernel
theorem dX12_holds_173 : decode cX12_holds 173 = .ok (.ifCond .ne 21, 3) := by decide +kernel
theorem dX12_holds_176 : decode cX12_holds 176 = .ok (.iload 6, 2) := by decide +kernel
theorem dX12_holds_178 : decode cX12_holds 178 = .ok (.iload 5, 2) := by decide +kernel
theorem dX12_holds_180 : decode cX12_holds 180 = .ok (.bipush 100, 2) := by decide +kernel
theorem dX12_holds_182 : decode cX12_holds 182 = .ok (.irem, 1) := by decide +kernel
theorem dX12_holds_183 : decode cX12_holds 183 = .ok (.if_icmp .ge 7, 3) := by decide +kernel
theorem dX12_holds_186 : decode cX12_holds 186 = .ok (.iconst 1, 1) := by decide +kernel
theorem dX12_holds_187 : decode cX12_holds 187 = .ok (.goto 46, 3) := by decide +kernel
theorem dX12_holds_190 : decode cX12_holds 190 = .ok (.iconst 0, 1) := by decide +kernel
theorem dX12_holds_191 : decode cX12_holds 191 = .ok (.goto 42, 3) := by decide +kernel
theorem dX12_holds_194 : decode cX12_holds 194 = .ok (.iload 7, 2) := by decide +kernel
theorem dX12_holds_196 : decode cX12_holds 196 = .ok (.iconst 1, 1) := by decide +kernel
theorem dX12_holds_197 : decode cX12_holds 197 = .ok (.if_icmp .ne 21, 3) := by decide +kernel
theorem dX12_holds_200 : decode cX12_holds 200 = .ok (.iload 6, 2) := by decide +kernel
theorem dX12_holds_202 : decode cX12_holds 202 = .ok (.iload 5, 2) := by decide +kernel
theorem dX12_holds_204 : decode cX12_holds 204 = .ok (.bipush 100, 2) := by decide +kernel
theorem dX12_holds_206 : decode cX12_holds 206 = .ok (.irem, 1) := by decide +kernel
theorem dX12_holds_207 : decode cX12_holds 207 = .ok (.if_icmp .ne 7, 3) := by decide +kernel
theorem dX12_holds_210 : decode cX12_holds 210 = .ok (.iconst 1, 1) := by decide +kernel
theorem dX12_holds_211 : decode cX12_holds 211 = .ok (.goto 22, 3) := by decide +kernel
theorem dX12_holds_214 : decode cX12_holds 214 = .ok (.iconst 0, 1) := by decide +kernel
theorem dX12_holds_215 : decode cX12_holds 215 = .ok (.goto 18, 3) := by decide +kernel
theorem dX12_holds_218 : decode cX12_holds 218 = .ok (.iload 6, 2) := by decide +kernel
theorem dX12_holds_220 : decode cX12_holds 220 = .ok (.iload 5, 2) := by decide +kernel
theorem dX12_holds_222 : decode cX12_holds 222 = .ok (.bipush 100, 2) := by decide +kernel
theorem dX12_holds_224 : decode cX12_holds 224 = .ok (.irem, 1) := by decide +kernel
theorem dX12_holds_225 : decode cX12_holds 225 = .ok (.if_icmp .le 7, 3) := by decide +kernel
theorem dX12_holds_228 : decode cX12_holds 228 = .ok (.iconst 1, 1) := by decide +kernel
theorem dX12_holds_229 : decode cX12_holds 229 = .ok (.goto 4, 3) := by decide +kernel
theorem dX12_holds_232 : decode cX12_holds 232 = .ok (.iconst 0, 1) := by decide +kernel
theorem dX12_holds_233 : decode cX12_holds 233 = .ok (.bastore, 1) := by decide +kernel
theorem dX12_holds_234 : decode cX12_holds 234 = .ok (.iinc 3 1, 3) := by decide +kernel
theorem dX12_holds_237 : decode cX12_holds 237 = .ok (.iinc 4 1, 3) := by decide +kernel
theorem dX12_holds_240 : decode cX12_holds 240 = .ok (.goto (-230), 3) := by decide +kernel
theorem dX12_holds_243 : decode cX12_holds 243 = .ok (.aload_n 0, 1) := by decide +kernel
theorem dX12_holds_244 : decode cX12_holds 244 = .ok (.getfield 95, 3) := by decide +kernel
theorem dX12_holds_247 : decode cX12_holds 247 = .ok (.iconst 0, 1) := by decide +kernel
theorem dX12_holds_248 : decode cX12_holds 248 = .ok (.baload, 1) := by decide +kernel
theorem dX12_holds_249 : decode cX12_holds 249 = .ok (.ireturn, 1) := by decide +kernel
theorem dX12_shake_0 : decode cX12_shake 0 = .ok (.iconst 0, 1) := by decide +kernel
theorem dX12_shake_1 : decode cX12_shake 1 = .ok (.istore_n 2, 1) := by decide +kernel
theorem dX12_shake_2 : decode cX12_shake 2 = .ok (.aload_n 0, 1) := by decide +kernel
theorem dX12_shake_3 : decode cX12_shake 3 = .ok (.invokevirtual 297, 3) := by decide +kernel
theorem dX12_shake_6 : decode cX12_shake 6 = .ok (.istore_n 3, 1) := by decide +kernel
theorem dX12_shake_7 : decode cX12_shake 7 = .ok (.iload_n 3, 1) := by decide +kernel
theorem dX12_shake_8 : decode cX12_shake 8 = .ok (.aload_n 0, 1) := by decide +kernel
theorem dX12_shake_9 : decode cX12_shake 9 = .ok (.invokevirtual 300, 3) := by decide +kernel
theorem dX12_shake_12 : decode cX12_shake 12 = .ok (.if_icmp .ge 59, 3) := by decide +kernel
theorem dX12_shake_15 : decode cX12_shake 15 = .ok (.aload_n 0, 1) := by decide +kernel
theorem dX12_shake_16 : decode cX12_shake 16 = .ok (.getfield 62, 3) := by decide +kernel
theorem dX12_shake_19 : decode cX12_shake 19 = .ok (.iload_n 3, 1) := by decide +kernel
theorem dX12_shake_20 : decode cX12_shake 20 = .ok (.iaload, 1) := by decide +kernel
theorem dX12_shake_21 : decode cX12_shake 21 = .ok (.iconst 1, 1) := by decide +kernel
theorem dX12_shake_22 : decode cX12_shake 22 = .ok (.if_icmp .gt 43, 3) := by decide +kernel
theorem dX12_shake_25 : decode cX12_shake 25 = .ok (.aload_n 0, 1) := by decide +kernel
theorem dX12_shake_26 : decode cX12_shake 26 = .ok (.iload_n 3, 1) := by decide +kernel
theorem dX12_shake_27 : decode cX12_shake 27 = .ok (.iload_n 1, 1) := by decide +kernel
theorem dX12_shake_28 : decode cX12_shake 28 = .ok (.invokevirtual 313, 3) := by decide +kernel
theorem dX12_shake_31 : decode cX12_shake 31 = .ok (.ifCond .ne 6, 3) := by decide +kernel
theorem dX12_shake_34 : decode cX12_shake 34 = .ok (.goto 31, 3) := by decide +kernel
theorem dX12_shake_37 : decode cX12_shake 37 = .ok (.iload_n 2, 1) := by decide +kernel
theorem dX12_shake_38 : decode cX12_shake 38 = .ok (.aload_n 0, 1) := by decide +kernel
theorem dX12_shake_39 : decode cX12_shake 39 = .ok (.getfield 62, 3) := by decide +kernel
theorem dX12_shake_42 : decode cX12_shake 42 = .ok (.iload_n 3, 1) := by decide +kernel
theorem dX12_shake_43 : decode cX12_shake 43 = .ok (.iaload, 1) := by decide +kernel
theorem dX12_shake_44 : decode cX12_shake 44 = .ok (.ifCond .ne 12, 3) := by decide +kernel
theorem dX12_shake_47 : decode cX12_shake 47 = .ok (.aload_n 0, 1) := by decide +kernel
theorem dX12_shake_48 : decode cX12_shake 48 = .ok (.getfield 65, 3) := by decide +kernel
theorem dX12_shake_51 : decode cX12_shake 51 = .ok (.iload_n 3, 1) := by decide +kernel
theorem dX12_shake_52 : decode cX12_shake 52 = .ok (.iaload, 1) := by decide +kernel
theorem dX12_shake_53 : decode cX12_shake 53 = .ok (.goto 10, 3) := by decide +kernel
theorem dX12_shake_56 : decode cX12_shake 56 = .ok (.aload_n 0, 1) := by decide +kernel
theorem dX12_shake_57 : decode cX12_shake 57 = .ok (.getfield 65, 3) := by decide +kernel
theorem dX12_shake_60 : decode cX12_shake 60 = .ok (.iload_n 3, 1) := by decide +kernel
theorem dX12_shake_61 : decode cX12_shake 61 = .ok (.iaload, 1) := by decide +kernel
theorem dX12_shake_62 : decode cX12_shake 62 = .ok (.ineg, 1) := by decide +kernel
theorem dX12_shake_63 : decode cX12_shake 63 = .ok (.iadd, 1) := by decide +kernel
theorem dX12_shake_64 : decode cX12_shake 64 = .ok (.istore_n 2, 1) := by decide +kernel
theorem dX12_shake_65 : decode cX12_shake 65 = .ok (.iinc 3 1, 3) := by decide +kernel
theorem dX12_shake_68 : decode cX12_shake 68 = .ok (.goto (-61), 3) := by decide +kernel
theorem dX12_shake_71 : decode cX12_shake 71 = .ok (.iload_n 2, 1) := by decide +kernel
theorem dX12_shake_72 : decode cX12_shake 72 = .ok (.ireturn, 1) := by decide +kernel
theorem dX12_pace_0 : decode cX12_pace 0 = .ok (.iconst 2, 1) := by decide +kernel
theorem dX12_pace_1 : decode cX12_pace 1 = .ok (.aload_n 0, 1) := by decide +kernel
theorem dX12_pace_2 : decode cX12_pace 2 = .ok (.getfield 23, 3) := by decide +kernel
theorem dX12_pace_5 : decode cX12_pace 5 = .ok (.iload_n 1, 1) := by decide +kernel
theorem dX12_pace_6 : decode cX12_pace 6 = .ok (.iaload, 1) := by decide +kernel
theorem dX12_pace_7 : decode cX12_pace 7 = .ok (.iconst 3, 1) := by decide +kernel
theorem dX12_pace_8 : decode cX12_pace 8 = .ok (.idiv, 1) := by decide +kernel
theorem dX12_pace_9 : decode cX12_pace 9 = .ok (.iadd, 1) := by decide +kernel
theorem dX12_pace_10 : decode cX12_pace 10 = .ok (.istore_n 2, 1) := by decide +kernel
theorem dX12_pace_11 : decode cX12_pace 11 = .ok (.aload_n 0, 1) := by decide +kernel
theorem dX12_pace_12 : decode cX12_pace 12 = .ok (.getfield 19, 3) := by decide +kernel
theorem dX12_pace_15 : decode cX12_pace 15 = .ok (.iload_n 1, 1) := by decide +kernel
theorem dX12_pace_16 : decode cX12_pace 16 = .ok (.iaload, 1) := by decide +kernel
theorem dX12_pace_17 : decode cX12_pace 17 = .ok (.tableswitch 91 1 6 #[39, 91, 43, 54, 60, 64], 39) := by decide +kernel
theorem dX12_pace_56 : decode cX12_pace 56 = .ok (.iload_n 2, 1) := by decide +kernel
theorem dX12_pace_57 : decode cX12_pace 57 = .ok (.iconst 2, 1) := by decide +kernel
theorem dX12_pace_58 : decode cX12_pace 58 = .ok (.iadd, 1) := by decide +kernel
theorem dX12_pace_59 : decode cX12_pace 59 = .ok (.ireturn, 1) := by decide +kernel
theorem dX12_pace_60 : decode cX12_pace 60 = .ok (.iconst 1, 1) := by decide +kernel
theorem dX12_pace_61 : decode cX12_pace 61 = .ok (.aload_n 0, 1) := by decide +kernel
theorem dX12_pace_62 : decode cX12_pace 62 = .ok (.getfield 23, 3) := by decide +kernel
theorem dX12_pace_65 : decode cX12_pace 65 = .ok (.iload_n 1, 1) := by decide +kernel
theorem dX12_pace_66 : decode cX12_pace 66 = .ok (.iaload, 1) := by decide +kernel
theorem dX12_pace_67 : decode cX12_pace 67 = .ok (.iconst 4, 1) := by decide +kernel
theorem dX12_pace_68 : decode cX12_pace 68 = .ok (.idiv, 1) := by decide +kernel
theorem dX12_pace_69 : decode cX12_pace 69 = .ok (.iadd, 1) := by decide +kernel
theorem dX12_pace_70 : decode cX12_pace 70 = .ok (.ireturn, 1) := by decide +kernel
theorem dX12_pace_71 : decode cX12_pace 71 = .ok (.iconst 2, 1) := by decide +kernel
theorem dX12_pace_72 : decode cX12_pace 72 = .ok (.iload_n 2, 1) := by decide +kernel
theorem dX12_pace_73 : decode cX12_pace 73 = .ok (.iconst 2, 1) := by decide +kernel
theorem dX12_pace_74 : decode cX12_pace 74 = .ok (.iadd, 1) := by decide +kernel
theorem dX12_pace_75 : decode cX12_pace 75 = .ok (.imul, 1) := by decide +kernel
theorem dX12_pace_76 : decode cX12_pace 76 = .ok (.ireturn, 1) := by decide +kernel
theorem dX12_pace_77 : decode cX12_pace 77 = .ok (.iload_n 2, 1) := by decide +kernel
theorem dX12_pace_78 : decode cX12_pace 78 = .ok (.iconst 1, 1) := by decide +kernel
theorem dX12_pace_79 : decode cX12_pace 79 = .ok (.isub, 1) := by decide +kernel
theorem dX12_pace_80 : decode cX12_pace 80 = .ok (.ireturn, 1) := by decide +kernel
theorem dX12_pace_81 : decode cX12_pace 81 = .ok (.iconst 1, 1) := by decide +kernel
theorem dX12_pace_82 : decode cX12_pace 82 = .ok (.aload_n 0, 1) := by decide +kernel
theorem dX12_pace_83 : decode cX12_pace 83 = .ok (.getfield 23, 3) := by decide +kernel
theorem dX12_pace_86 : decode cX12_pace 86 = .ok (.iload_n 1, 1) := by decide +kernel
theorem dX12_pace_87 : decode cX12_pace 87 = .ok (.iaload, 1) := by decide +kernel
theorem dX12_pace_88 : decode cX12_pace 88 = .ok (.iconst 4, 1) := by decide +kernel
theorem dX12_pace_89 : decode cX12_pace 89 = .ok (.idiv, 1) := by decide +kernel
theorem dX12_pace_90 : decode cX12_pace 90 = .ok (.iadd, 1) := by decide +kernel
theorem dX12_pace_91 : decode cX12_pace 91 = .ok (.aload_n 0, 1) := by decide +kernel
theorem dX12_pace_92 : decode cX12_pace 92 = .ok (.getfield 35, 3) := by decide +kernel
theorem dX12_pace_95 : decode cX12_pace 95 = .ok (.iconst 4, 1) := by decide +kernel
theorem dX12_pace_96 : decode cX12_pace 96 = .ok (.iload_n 1, 1) := by decide +kernel
theorem dX12_pace_97 : decode cX12_pace 97 = .ok (.imul, 1) := by decide +kernel
theorem dX12_pace_98 : decode cX12_pace 98 = .ok (.aload_n 0, 1) := by decide +kernel
theorem dX12_pace_99 : decode cX12_pace 99 = .ok (.getfield 13, 3) := by decide +kernel
theorem dX12_pace_102 : decode cX12_pace 102 = .ok (.iconst 4, 1) := by decide +kernel
theorem dX12_pace_103 : decode cX12_pace 103 = .ok (.irem, 1) := by decide +kernel
theorem dX12_pace_104 : decode cX12_pace 104 = .ok (.iadd, 1) := by decide +kernel
theorem dX12_pace_105 : decode cX12_pace 105 = .ok (.iaload, 1) := by decide +kernel
theorem dX12_pace_106 : decode cX12_pace 106 = .ok (.iadd, 1) := by decide +kernel
theorem dX12_pace_107 : decode cX12_pace 107 = .ok (.ireturn, 1) := by decide +kernel
theorem dX12_pace_108 : decode cX12_pace 108 = .ok (.iload_n 2, 1) := by decide +kernel
theorem dX12_pace_109 : decode cX12_pace 109 = .ok (.ireturn, 1) := by decide +kernel
theorem dX12_goes_0 : decode cX12_goes 0 = .ok (.aload_n 0, 1) := by decide +kernel
theorem dX12_goes_1 : decode cX12_goes 1 = .ok (.invokevirtual 307, 3) := by decide +kernel
theorem dX12_goes_4 : decode cX12_goes 4 = .ok (.aload_n 0, 1) := by decide +kernel
theorem dX12_goes_5 : decode cX12_goes 5 = .ok (.getfield 29, 3) := by decide +kernel
theorem dX12_goes_8 : decode cX12_goes 8 = .ok (.iload_n 1, 1) := by decide +kernel
theorem dX12_goes_9 : decode cX12_goes 9 = .ok (.iaload, 1) := by decide +kernel
theorem dX12_goes_10 : decode cX12_goes 10 = .ok (.if_icmp .le 23, 3) := by decide +kernel
theorem dX12_goes_13 : decode cX12_goes 13 = .ok (.aload_n 0, 1) := by decide +kernel
theorem dX12_goes_14 : decode cX12_goes 14 = .ok (.iload_n 1, 1) := by decide +kernel
theorem dX12_goes_15 : decode cX12_goes 15 = .ok (.invokevirtual 316, 3) := by decide +kernel
theorem dX12_goes_18 : decode cX12_goes 18 = .ok (.aload_n 0, 1) := by decide +kernel
theorem dX12_goes_19 : decode cX12_goes 19 = .ok (.invokevirtual 307, 3) := by decide +kernel
theorem dX12_goes_22 : decode cX12_goes 22 = .ok (.aload_n 0, 1) := by decide +kernel
theorem dX12_goes_23 : decode cX12_goes 23 = .ok (.getfield 29, 3) := by decide +kernel
theorem dX12_goes_26 : decode cX12_goes 26 = .ok (.iload_n 1, 1) := by decide +kernel
theorem dX12_goes_27 : decode cX12_goes 27 = .ok (.iaload, 1) := by decide +kernel
theorem dX12_goes_28 : decode cX12_goes 28 = .ok (.isub, 1) := by decide +kernel
theorem dX12_goes_29 : decode cX12_goes 29 = .ok (.imul, 1) := by decide +kernel
theorem dX12_goes_30 : decode cX12_goes 30 = .ok (.goto 4, 3) := by decide +kernel
theorem dX12_goes_33 : decode cX12_goes 33 = .ok (.iconst 0, 1) := by decide +kernel
theorem dX12_goes_34 : decode cX12_goes 34 = .ok (.ireturn, 1) := by decide +kernel
theorem dX12_least0_0 : decode cX12_least0 0 = .ok (.iload_n 1, 1) := by decide +kernel
theorem dX12_least0_1 : decode cX12_least0 1 = .ok (.ifCond .ge 7, 3) := by decide +kernel
theorem dX12_least0_4 : decode cX12_least0 4 = .ok (.iconst 0, 1) := by decide +kernel
theorem dX12_least0_5 : decode cX12_least0 5 = .ok (.goto 4, 3) := by decide +kernel
theorem dX12_least0_8 : decode cX12_least0 8 = .ok (.iload_n 1, 1) := by decide +kernel
theorem dX12_least0_9 : decode cX12_least0 9 = .ok (.ireturn, 1) := by decide +kernel
theorem dX12_wobbles_0 : decode cX12_wobbles 0 = .ok (.aload_n 0, 1) := by decide +kernel
theorem dX12_wobbles_1 : decode cX12_wobbles 1 = .ok (.iload_n 1, 1) := by decide +kernel
theorem dX12_wobbles_2 : decode cX12_wobbles 2 = .ok (.invokevirtual 319, 3) := by decide +kernel
theorem dX12_wobbles_5 : decode cX12_wobbles 5 = .ok (.ifCond .ne 7, 3) := by decide +kernel
theorem dX12_wobbles_8 : decode cX12_wobbles 8 = .ok (.iconst 0, 1) := by decide +kernel
theorem dX12_wobbles_9 : decode cX12_wobbles 9 = .ok (.goto 27, 3) := by decide +kernel
theorem dX12_wobbles_12 : decode cX12_wobbles 12 = .ok (.aload_n 0, 1) := by decide +kernel
theorem dX12_wobbles_13 : decode cX12_wobbles 13 = .ok (.aload_n 0, 1) := by decide +kernel
theorem dX12_wobbles_14 : decode cX12_wobbles 14 = .ok (.iload_n 1, 1) := by decide +kernel
theorem dX12_wobbles_15 : decode cX12_wobbles 15 = .ok (.invokevirtual 316, 3) := by decide +kernel
theorem dX12_wobbles_18 : decode cX12_wobbles 18 = .ok (.aload_n 0, 1) := by decide +kernel
theorem dX12_wobbles_19 : decode cX12_wobbles 19 = .ok (.iload_n 1, 1) := by decide +kernel
theorem dX12_wobbles_20 : decode cX12_wobbles 20 = .ok (.invokevirtual 322, 3) := by decide +kernel
theorem dX12_wobbles_23 : decode cX12_wobbles 23 = .ok (.iadd, 1) := by decide +kernel
theorem dX12_wobbles_24 : decode cX12_wobbles 24 = .ok (.iconst 2, 1) := by decide +kernel
theorem dX12_wobbles_25 : decode cX12_wobbles 25 = .ok (.aload_n 0, 1) := by decide +kernel
theorem dX12_wobbles_26 : decode cX12_wobbles 26 = .ok (.getfield 29, 3) := by decide +kernel
theorem dX12_wobbles_29 : decode cX12_wobbles 29 = .ok (.iload_n 1, 1) := by decide +kernel
theorem dX12_wobbles_30 : decode cX12_wobbles 30 = .ok (.iaload, 1) := by decide +kernel
theorem dX12_wobbles_31 : decode cX12_wobbles 31 = .ok (.imul, 1) := by decide +kernel
theorem dX12_wobbles_32 : decode cX12_wobbles 32 = .ok (.isub, 1) := by decide +kernel
theorem dX12_wobbles_33 : decode cX12_wobbles 33 = .ok (.invokevirtual 325, 3) := by decide +kernel
theorem dX12_wobbles_36 : decode cX12_wobbles 36 = .ok (.istore_n 2, 1) := by decide +kernel
theorem dX12_wobbles_37 : decode cX12_wobbles 37 = .ok (.aload_n 0, 1) := by decide +kernel
theorem dX12_wobbles_38 : decode cX12_wobbles 38 = .ok (.getfield 19, 3) := by decide +kernel
theorem dX12_wobbles_41 : decode cX12_wobbles 41 = .ok (.iload_n 1, 1) := by decide +kernel
theorem dX12_wobbles_42 : decode cX12_wobbles 42 = .ok (.iaload, 1) := by decide +kernel
theorem dX12_wobbles_43 : decode cX12_wobbles 43 = .ok (.tableswitch 88 2 6 #[33, 46, 57, 61, 46], 33) := by decide +kernel
theorem dX12_wobbles_76 : decode cX12_wobbles 76 = .ok (.aload_n 0, 1) := by decide +kernel
theorem dX12_wobbles_77 : decode cX12_wobbles 77 = .ok (.iload_n 2, 1) := by decide +kernel
theorem dX12_wobbles_78 : decode cX12_wobbles 78 = .ok (.aload_n 0, 1) := by decide +kernel
theorem dX12_wobbles_79 : decode cX12_wobbles 79 = .ok (.getfield 23, 3) := by decide +kernel
theorem dX12_wobbles_82 : decode cX12_wobbles 82 = .ok (.iload_n 1, 1) := by decide +kernel
theorem dX12_wobbles_83 : decode cX12_wobbles 83 = .ok (.iaload, 1) := by decide +kernel
theorem dX12_wobbles_84 : decode cX12_wobbles 84 = .ok (.isub, 1) := by decide +kernel
theorem dX12_wobbles_85 : decode cX12_wobbles 85 = .ok (.invokevirtual 325, 3) := by decide +kernel
theorem dX12_wobbles_88 : decode cX12_wobbles 88 = .ok (.ireturn, 1) := by decide +kernel
theorem dX12_wobbles_89 : decode cX12_wobbles 89 = .ok (.iload_n 2, 1) := by decide +kernel
theorem dX12_wobbles_90 : decode cX12_wobbles 90 = .ok (.iconst 3, 1) := by decide +kernel
theorem dX12_wobbles_91 : decode cX12_wobbles 91 = .ok (.if_icmp .le 7, 3) := by decide +kernel
theorem dX12_wobbles_94 : decode cX12_wobbles 94 = .ok (.iconst 3, 1) := by decide +kernel
theorem dX12_wobbles_95 : decode cX12_wobbles 95 = .ok (.goto 4, 3) := by decide +kernel
theorem dX12_wobbles_98 : decode cX12_wobbles 98 = .ok (.iload_n 2, 1) := by decide +kernel
theorem dX12_wobbles_99 : decode cX12_wobbles 99 = .ok (.ireturn, 1) := by decide +kernel
theorem dX12_wobbles_100 : decode cX12_wobbles 100 = .ok (.iload_n 2, 1) := by decide +kernel
theorem dX12_wobbles_101 : decode cX12_wobbles 101 = .ok (.iconst 1, 1) := by decide +kernel
theorem dX12_wobbles_102 : decode cX12_wobbles 102 = .ok (.iadd, 1) := by decide +kernel
theorem dX12_wobbles_103 : decode cX12_wobbles 103 = .ok (.ireturn, 1) := by decide +kernel
theorem dX12_wobbles_104 : decode cX12_wobbles 104 = .ok (.aload_n 0, 1) := by decide +kernel
theorem dX12_wobbles_105 : decode cX12_wobbles 105 = .ok (.getfield 29, 3) := by decide +kernel
theorem dX12_wobbles_108 : decode cX12_wobbles 108 = .ok (.iload_n 1, 1) := by decide +kernel
theorem dX12_wobbles_109 : decode cX12_wobbles 109 = .ok (.iaload, 1) := by decide +kernel
theorem dX12_wobbles_110 : decode cX12_wobbles 110 = .ok (.iconst 2, 1) := by decide +kernel
theorem dX12_wobbles_111 : decode cX12_wobbles 111 = .ok (.if_icmp .lt 7, 3) := by decide +kernel
theorem dX12_wobbles_114 : decode cX12_wobbles 114 = .ok (.iconst 0, 1) := by decide +kernel
theorem dX12_wobbles_115 : decode cX12_wobbles 115 = .ok (.goto 15, 3) := by decide +kernel
theorem dX12_wobbles_118 : decode cX12_wobbles 118 = .ok (.aload_n 0, 1) := by decide +kernel
theorem dX12_wobbles_119 : decode cX12_wobbles 119 = .ok (.iload_n 2, 1) := by decide +kernel
theorem dX12_wobbles_120 : decode cX12_wobbles 120 = .ok (.aload_n 0, 1) := by decide +kernel
theorem dX12_wobbles_121 : decode cX12_wobbles 121 = .ok (.getfield 23, 3) := by decide +kernel
theorem dX12_wobbles_124 : decode cX12_wobbles 124 = .ok (.iload_n 1, 1) := by decide +kernel
theorem dX12_wobbles_125 : decode cX12_wobbles 125 = .ok (.iaload, 1) := by decide +kernel
theorem dX12_wobbles_126 : decode cX12_wobbles 126 = .ok (.isub, 1) := by decide +kernel
theorem dX12_wobbles_127 : decode cX12_wobbles 127 = .ok (.invokevirtual 325, 3) := by decide +kernel
theorem dX12_wobbles_130 : decode cX12_wobbles 130 = .ok (.ireturn, 1) := by decide +kernel
theorem dX12_wobbles_131 : decode cX12_wobbles 131 = .ok (.iload_n 2, 1) := by decide +kernel
theorem dX12_wobbles_132 : decode cX12_wobbles 132 = .ok (.ireturn, 1) := by decide +kernel
theorem dX12_of_0 : decode cX12_of 0 = .ok (.aload_n 0, 1) := by decide +kernel
theorem dX12_of_1 : decode cX12_of 1 = .ok (.iload_n 1, 1) := by decide +kernel
theorem dX12_of_2 : decode cX12_of 2 = .ok (.invokevirtual 240, 3) := by decide +kernel
theorem dX12_of_5 : decode cX12_of 5 = .ok (.ifCond .ne 5, 3) := by decide +kernel
theorem dX12_of_8 : decode cX12_of 8 = .ok (.iconst (-1), 1) := by decide +kernel
theorem dX12_of_9 : decode cX12_of 9 = .ok (.ireturn, 1) := by decide +kernel
theorem dX12_of_10 : decode cX12_of 10 = .ok (.iload_n 2, 1) := by decide +kernel
theorem dX12_of_11 : decode cX12_of 11 = .ok (.tableswitch 120 0 8 #[49, 56, 63, 70, 77, 84, 102, 108, 114], 49) := by decide +kernel
theorem dX12_of_60 : decode cX12_of 60 = .ok (.aload_n 0, 1) := by decide +kernel
theorem dX12_of_61 : decode cX12_of 61 = .ok (.getfield 19, 3) := by decide +kernel
theorem dX12_of_64 : decode cX12_of 64 = .ok (.iload_n 1, 1) := by decide +kernel
theorem dX12_of_65 : decode cX12_of 65 = .ok (.iaload, 1) := by decide +kernel
theorem dX12_of_66 : decode cX12_of 66 = .ok (.ireturn, 1) := by decide +kernel
theorem dX12_of_67 : decode cX12_of 67 = .ok (.aload_n 0, 1) := by decide +kernel
theorem dX12_of_68 : decode cX12_of 68 = .ok (.getfield 23, 3) := by decide +kernel
theorem dX12_of_71 : decode cX12_of 71 = .ok (.iload_n 1, 1) := by decide +kernel
theorem dX12_of_72 : decode cX12_of 72 = .ok (.iaload, 1) := by decide +kernel
theorem dX12_of_73 : decode cX12_of 73 = .ok (.ireturn, 1) := by decide +kernel
theorem dX12_of_74 : decode cX12_of 74 = .ok (.aload_n 0, 1) := by decide +kernel
theorem dX12_of_75 : decode cX12_of 75 = .ok (.getfield 26, 3) := by decide +kernel
theorem dX12_of_78 : decode cX12_of 78 = .ok (.iload_n 1, 1) := by decide +kernel
theorem dX12_of_79 : decode cX12_of 79 = .ok (.iaload, 1) := by decide +kernel
theorem dX12_of_80 : decode cX12_of 80 = .ok (.ireturn, 1) := by decide +kernel
theorem dX12_of_81 : decode cX12_of 81 = .ok (.aload_n 0, 1) := by decide +kernel
theorem dX12_of_82 : decode cX12_of 82 = .ok (.getfield 29, 3) := by decide +kernel
theorem dX12_of_85 : decode cX12_of 85 = .ok (.iload_n 1, 1) := by decide +kernel
theorem dX12_of_86 : decode cX12_of 86 = .ok (.iaload, 1) := by decide +kernel
theorem dX12_of_87 : decode cX12_of 87 = .ok (.ireturn, 1) := by decide +kernel
theorem dX12_of_88 : decode cX12_of 88 = .ok (.aload_n 0, 1) := by decide +kernel
theorem dX12_of_89 : decode cX12_of 89 = .ok (.getfield 32, 3) := by decide +kernel
theorem dX12_of_92 : decode cX12_of 92 = .ok (.iload_n 1, 1) := by decide +kernel
theorem dX12_of_93 : decode cX12_of 93 = .ok (.iaload, 1) := by decide +kernel
theorem dX12_of_94 : decode cX12_of 94 = .ok (.ireturn, 1) := by decide +kernel
theorem dX12_of_95 : decode cX12_of 95 = .ok (.aload_n 0, 1) := by decide +kernel
theorem dX12_of_96 : decode cX12_of 96 = .ok (.aload_n 0, 1) := by decide +kernel
theorem dX12_of_97 : decode cX12_of 97 = .ok (.getfield 16, 3) := by decide +kernel
theorem dX12_of_100 : decode cX12_of 100 = .ok (.iload_n 1, 1) := by decide +kernel
theorem dX12_of_101 : decode cX12_of 101 = .ok (.invokevirtual 328, 3) := by decide +kernel
theorem dX12_of_104 : decode cX12_of 104 = .ok (.ifCond .eq 7, 3) := by decide +kernel
theorem dX12_of_107 : decode cX12_of 107 = .ok (.iconst 1, 1) := by decide +kernel
theorem dX12_of_108 : decode cX12_of 108 = .ok (.goto 4, 3) := by decide +kernel
theorem dX12_of_111 : decode cX12_of 111 = .ok (.iconst 0, 1) := by decide +kernel
theorem dX12_of_112 : decode cX12_of 112 = .ok (.ireturn, 1) := by decide +kernel
theorem dX12_of_113 : decode cX12_of 113 = .ok (.aload_n 0, 1) := by decide +kernel
theorem dX12_of_114 : decode cX12_of 114 = .ok (.iload_n 1, 1) := by decide +kernel
theorem dX12_of_115 : decode cX12_of 115 = .ok (.invokevirtual 316, 3) := by decide +kernel
theorem dX12_of_118 : decode cX12_of 118 = .ok (.ireturn, 1) := by decide +kernel
theorem dX12_of_119 : decode cX12_of 119 = .ok (.aload_n 0, 1) := by decide +kernel
theorem dX12_of_120 : decode cX12_of 120 = .ok (.iload_n 1, 1) := by decide +kernel
theorem dX12_of_121 : decode cX12_of 121 = .ok (.invokevirtual 319, 3) := by decide +kernel
theorem dX12_of_124 : decode cX12_of 124 = .ok (.ireturn, 1) := by decide +kernel
theorem dX12_of_125 : decode cX12_of 125 = .ok (.aload_n 0, 1) := by decide +kernel
theorem dX12_of_126 : decode cX12_of 126 = .ok (.iload_n 1, 1) := by decide +kernel
theorem dX12_of_127 : decode cX12_of 127 = .ok (.invokevirtual 331, 3) := by decide +kernel
theorem dX12_of_130 : decode cX12_of 130 = .ok (.ireturn, 1) := by decide +kernel
theorem dX12_of_131 : decode cX12_of 131 = .ok (.iconst (-1), 1) := by decide +kernel
theorem dX12_of_132 : decode cX12_of 132 = .ok (.ireturn, 1) := by decide +kernel
theorem dX12_told_0 : decode cX12_told 0 = .ok (.aload_n 0, 1) := by decide +kernel
theorem dX12_told_1 : decode cX12_told 1 = .ok (.iload_n 1, 1) := by decide +kernel
theorem dX12_told_2 : decode cX12_told 2 = .ok (.bipush 10, 2) := by decide +kernel
theorem dX12_told_4 : decode cX12_told 4 = .ok (.bipush 13, 2) := by decide +kernel
theorem dX12_told_6 : decode cX12_told 6 = .ok (.invokevirtual 236, 3) := by decide +kernel
theorem dX12_told_9 : decode cX12_told 9 = .ok (.ifCond .eq 13, 3) := by decide +kernel
theorem dX12_told_12 : decode cX12_told 12 = .ok (.aload_n 0, 1) := by decide +kernel
theorem dX12_told_13 : decode cX12_told 13 = .ok (.getfield 38, 3) := by decide +kernel
theorem dX12_told_16 : decode cX12_told 16 = .ok (.iload_n 1, 1) := by decide +kernel
theorem dX12_told_17 : decode cX12_told 17 = .ok (.bipush 10, 2) := by decide +kernel
theorem dX12_told_19 : decode cX12_told 19 = .ok (.isub, 1) := by decide +kernel
theorem dX12_told_20 : decode cX12_told 20 = .ok (.iaload, 1) := by decide +kernel
theorem dX12_told_21 : decode cX12_told 21 = .ok (.ireturn, 1) := by decide +kernel
theorem dX12_told_22 : decode cX12_told 22 = .ok (.iload_n 1, 1) := by decide +kernel
theorem dX12_told_23 : decode cX12_told 23 = .ok (.tableswitch 58 0 4 #[33, 38, 43, 48, 53], 33) := by decide +kernel
theorem dX12_told_56 : decode cX12_told 56 = .ok (.aload_n 0, 1) := by decide +kernel
theorem dX12_told_57 : decode cX12_told 57 = .ok (.getfield 13, 3) := by decide +kernel
theorem dX12_told_60 : decode cX12_told 60 = .ok (.ireturn, 1) := by decide +kernel
theorem dX12_told_61 : decode cX12_told 61 = .ok (.aload_n 0, 1) := by decide +kernel
theorem dX12_told_62 : decode cX12_told 62 = .ok (.invokevirtual 244, 3) := by decide +kernel
theorem dX12_told_65 : decode cX12_told 65 = .ok (.ireturn, 1) := by decide +kernel
theorem dX12_told_66 : decode cX12_told 66 = .ok (.aload_n 0, 1) := by decide +kernel
theorem dX12_told_67 : decode cX12_told 67 = .ok (.invokevirtual 334, 3) := by decide +kernel
theorem dX12_told_70 : decode cX12_told 70 = .ok (.ireturn, 1) := by decide +kernel
theorem dX12_told_71 : decode cX12_told 71 = .ok (.aload_n 0, 1) := by decide +kernel
theorem dX12_told_72 : decode cX12_told 72 = .ok (.invokevirtual 337, 3) := by decide +kernel
theorem dX12_told_75 : decode cX12_told 75 = .ok (.ireturn, 1) := by decide +kernel
theorem dX12_told_76 : decode cX12_told 76 = .ok (.aload_n 0, 1) := by decide +kernel
theorem dX12_told_77 : decode cX12_told 77 = .ok (.getfield 16, 3) := by decide +kernel
theorem dX12_told_80 : decode cX12_told 80 = .ok (.ireturn, 1) := by decide +kernel
theorem dX12_told_81 : decode cX12_told 81 = .ok (.iconst (-1), 1) := by decide +kernel
theorem dX12_told_82 : decode cX12_told 82 = .ok (.ireturn, 1) := by decide +kernel
theorem dX12_ahead_0 : decode cX12_ahead 0 = .ok (.iconst 0, 1) := by decide +kernel
theorem dX12_ahead_1 : decode cX12_ahead 1 = .ok (.istore_n 2, 1) := by decide +kernel
theorem dX12_ahead_2 : decode cX12_ahead 2 = .ok (.iconst 0, 1) := by decide +kernel
theorem dX12_ahead_3 : decode cX12_ahead 3 = .ok (.istore_n 3, 1) := by decide +kernel
theorem dX12_ahead_4 : decode cX12_ahead 4 = .ok (.iload_n 3, 1) := by decide +kernel
theorem dX12_ahead_5 : decode cX12_ahead 5 = .ok (.aload_n 0, 1) := by decide +kernel
theorem dX12_ahead_6 : decode cX12_ahead 6 = .ok (.getfield 7, 3) := by decide +kernel
theorem dX12_ahead_9 : decode cX12_ahead 9 = .ok (.if_icmp .ge 64, 3) := by decide +kernel
theorem dX12_ahead_12 : decode cX12_ahead 12 = .ok (.iload_n 2, 1) := by decide +kernel
theorem dX12_ahead_13 : decode cX12_ahead 13 = .ok (.aload_n 0, 1) := by decide +kernel
theorem dX12_ahead_14 : decode cX12_ahead 14 = .ok (.aload_n 0, 1) := by decide +kernel
theorem dX12_ahead_15 : decode cX12_ahead 15 = .ok (.getfield 16, 3) := by decide +kernel
theorem dX12_ahead_18 : decode cX12_ahead 18 = .ok (.iload_n 3, 1) := by decide +kernel
theorem dX12_ahead_19 : decode cX12_ahead 19 = .ok (.invokevirtual 328, 3) := by decide +kernel
theorem dX12_ahead_22 : decode cX12_ahead 22 = .ok (.ifCond .ne 42, 3) := by decide +kernel
theorem dX12_ahead_25 : decode cX12_ahead 25 = .ok (.aload_n 0, 1) := by decide +kernel
theorem dX12_ahead_26 : decode cX12_ahead 26 = .ok (.getfield 26, 3) := by decide +kernel
theorem dX12_ahead_29 : decode cX12_ahead 29 = .ok (.iload_n 3, 1) := by decide +kernel
theorem dX12_ahead_30 : decode cX12_ahead 30 = .ok (.iaload, 1) := by decide +kernel
theorem dX12_ahead_31 : decode cX12_ahead 31 = .ok (.aload_n 0, 1) := by decide +kernel
theorem dX12_ahead_32 : decode cX12_ahead 32 = .ok (.getfield 26, 3) := by decide +kernel
theorem dX12_ahead_35 : decode cX12_ahead 35 = .ok (.iload_n 1, 1) := by decide +kernel
theorem dX12_ahead_36 : decode cX12_ahead 36 = .ok (.iaload, 1) := by decide +kernel
theorem dX12_ahead_37 : decode cX12_ahead 37 = .ok (.if_icmp .gt 23, 3) := by decide +kernel
theorem dX12_ahead_40 : decode cX12_ahead 40 = .ok (.aload_n 0, 1) := by decide +kernel
theorem dX12_ahead_41 : decode cX12_ahead 41 = .ok (.getfield 26, 3) := by decide +kernel
theorem dX12_ahead_44 : decode cX12_ahead 44 = .ok (.iload_n 3, 1) := by decide +kernel
theorem dX12_ahead_45 : decode cX12_ahead 45 = .ok (.iaload, 1) := by decide +kernel
theorem dX12_ahead_46 : decode cX12_ahead 46 = .ok (.aload_n 0, 1) := by decide +kernel
theorem dX12_ahead_47 : decode cX12_ahead 47 = .ok (.getfield 26, 3) := by decide +kernel
theorem dX12_ahead_50 : decode cX12_ahead 50 = .ok (.iload_n 1, 1) := by decide +kernel
theorem dX12_ahead_51 : decode cX12_ahead 51 = .ok (.iaload, 1) := by decide +kernel
theorem dX12_ahead_52 : decode cX12_ahead 52 = .ok (.if_icmp .ne 12, 3) := by decide +kernel
theorem dX12_ahead_55 : decode cX12_ahead 55 = .ok (.iload_n 3, 1) := by decide +kernel
theorem dX12_ahead_56 : decode cX12_ahead 56 = .ok (.iload_n 1, 1) := by decide +kernel
theorem dX12_ahead_57 : decode cX12_ahead 57 = .ok (.if_icmp .ge 7, 3) := by decide +kernel
theorem dX12_ahead_60 : decode cX12_ahead 60 = .ok (.iconst 1, 1) := by decide +kernel
theorem dX12_ahead_61 : decode cX12_ahead 61 = .ok (.goto 4, 3) := by decide +kernel
theorem dX12_ahead_64 : decode cX12_ahead 64 = .ok (.iconst 0, 1) := by decide +kernel
theorem dX12_ahead_65 : decode cX12_ahead 65 = .ok (.iadd, 1) := by decide +kernel
theorem dX12_ahead_66 : decode cX12_ahead 66 = .ok (.istore_n 2, 1) := by decide +kernel
theorem dX12_ahead_67 : decode cX12_ahead 67 = .ok (.iinc 3 1, 3) := by decide +kernel
theorem dX12_ahead_70 : decode cX12_ahead 70 = .ok (.goto (-66), 3) := by decide +kernel
theorem dX12_ahead_73 : decode cX12_ahead 73 = .ok (.iload_n 2, 1) := by decide +kernel
theorem dX12_ahead_74 : decode cX12_ahead 74 = .ok (.ireturn, 1) := by decide +kernel
theorem dX12_goTurn_0 : decode cX12_goTurn 0 = .ok (.iconst 0, 1) := by decide +kernel
theorem dX12_goTurn_1 : decode cX12_goTurn 1 = .ok (.istore_n 1, 1) := by decide +kernel
theorem dX12_goTurn_2 : decode cX12_goTurn 2 = .ok (.iload_n 1, 1) := by decide +kernel
theorem dX12_goTurn_3 : decode cX12_goTurn 3 = .ok (.aload_n 0, 1) := by decide +kernel
theorem dX12_goTurn_4 : decode cX12_goTurn 4 = .ok (.getfield 7, 3) := by decide +kernel
theorem dX12_goTurn_7 : decode cX12_goTurn 7 = .ok (.if_icmp .ge 55, 3) := by decide +kernel
theorem dX12_goTurn_10 : decode cX12_goTurn 10 = .ok (.aload_n 0, 1) := by decide +kernel
theorem dX12_goTurn_11 : decode cX12_goTurn 11 = .ok (.getfield 105, 3) := by decide +kernel
theorem dX12_goTurn_14 : decode cX12_goTurn 14 = .ok (.iload_n 1, 1) := by decide +kernel
theorem dX12_goTurn_15 : decode cX12_goTurn 15 = .ok (.iload_n 1, 1) := by decide +kernel
theorem dX12_goTurn_16 : decode cX12_goTurn 16 = .ok (.aload_n 0, 1) := by decide +kernel
theorem dX12_goTurn_17 : decode cX12_goTurn 17 = .ok (.getfield 102, 3) := by decide +kernel
theorem dX12_goTurn_20 : decode cX12_goTurn 20 = .ok (.if_icmp .ne 7, 3) := by decide +kernel
theorem dX12_goTurn_23 : decode cX12_goTurn 23 = .ok (.iconst 0, 1) := by decide +kernel
theorem dX12_goTurn_24 : decode cX12_goTurn 24 = .ok (.goto 8, 3) := by decide +kernel
theorem dX12_goTurn_27 : decode cX12_goTurn 27 = .ok (.aload_n 0, 1) := by decide +kernel
theorem dX12_goTurn_28 : decode cX12_goTurn 28 = .ok (.iload_n 1, 1) := by decide +kernel
theorem dX12_goTurn_29 : decode cX12_goTurn 29 = .ok (.invokevirtual 319, 3) := by decide +kernel
theorem dX12_goTurn_32 : decode cX12_goTurn 32 = .ok (.iastore, 1) := by decide +kernel
theorem dX12_goTurn_33 : decode cX12_goTurn 33 = .ok (.aload_n 0, 1) := by decide +kernel
theorem dX12_goTurn_34 : decode cX12_goTurn 34 = .ok (.getfield 108, 3) := by decide +kernel
theorem dX12_goTurn_37 : decode cX12_goTurn 37 = .ok (.iload_n 1, 1) := by decide +kernel
theorem dX12_goTurn_38 : decode cX12_goTurn 38 = .ok (.iload_n 1, 1) := by decide +kernel
theorem dX12_goTurn_39 : decode cX12_goTurn 39 = .ok (.aload_n 0, 1) := by decide +kernel
theorem dX12_goTurn_40 : decode cX12_goTurn 40 = .ok (.getfield 102, 3) := by decide +kernel
theorem dX12_goTurn_43 : decode cX12_goTurn 43 = .ok (.if_icmp .ne 7, 3) := by decide +kernel
theorem dX12_goTurn_46 : decode cX12_goTurn 46 = .ok (.iconst 0, 1) := by decide +kernel
theorem dX12_goTurn_47 : decode cX12_goTurn 47 = .ok (.goto 8, 3) := by decide +kernel
theorem dX12_goTurn_50 : decode cX12_goTurn 50 = .ok (.aload_n 0, 1) := by decide +kernel
theorem dX12_goTurn_51 : decode cX12_goTurn 51 = .ok (.iload_n 1, 1) := by decide +kernel
theorem dX12_goTurn_52 : decode cX12_goTurn 52 = .ok (.invokevirtual 331, 3) := by decide +kernel
theorem dX12_goTurn_55 : decode cX12_goTurn 55 = .ok (.iastore, 1) := by decide +kernel
theorem dX12_goTurn_56 : decode cX12_goTurn 56 = .ok (.iinc 1 1, 3) := by decide +kernel
theorem dX12_goTurn_59 : decode cX12_goTurn 59 = .ok (.goto (-57), 3) := by decide +kernel
theorem dX12_goTurn_62 : decode cX12_goTurn 62 = .ok (.iconst 0, 1) := by decide +kernel
theorem dX12_goTurn_63 : decode cX12_goTurn 63 = .ok (.istore_n 1, 1) := by decide +kernel
theorem dX12_goTurn_64 : decode cX12_goTurn 64 = .ok (.iload_n 1, 1) := by decide +kernel
theorem dX12_goTurn_65 : decode cX12_goTurn 65 = .ok (.aload_n 0, 1) := by decide +kernel
theorem dX12_goTurn_66 : decode cX12_goTurn 66 = .ok (.getfield 7, 3) := by decide +kernel
theorem dX12_goTurn_69 : decode cX12_goTurn 69 = .ok (.if_icmp .ge 77, 3) := by decide +kernel
theorem dX12_goTurn_72 : decode cX12_goTurn 72 = .ok (.aload_n 0, 1) := by decide +kernel
theorem dX12_goTurn_73 : decode cX12_goTurn 73 = .ok (.aload_n 0, 1) := by decide +kernel
theorem dX12_goTurn_74 : decode cX12_goTurn 74 = .ok (.getfield 16, 3) := by decide +kernel
theorem dX12_goTurn_77 : decode cX12_goTurn 77 = .ok (.iload_n 1, 1) := by decide +kernel
theorem dX12_goTurn_78 : decode cX12_goTurn 78 = .ok (.invokevirtual 328, 3) := by decide +kernel
theorem dX12_goTurn_81 : decode cX12_goTurn 81 = .ok (.ifCond .eq 6, 3) := by decide +kernel
theorem dX12_goTurn_84 : decode cX12_goTurn 84 = .ok (.goto 56, 3) := by decide +kernel
theorem dX12_goTurn_87 : decode cX12_goTurn 87 = .ok (.aload_n 0, 1) := by decide +kernel
theorem dX12_goTurn_88 : decode cX12_goTurn 88 = .ok (.getfield 26, 3) := by decide +kernel
theorem dX12_goTurn_91 : decode cX12_goTurn 91 = .ok (.iload_n 1, 1) := by decide +kernel
theorem dX12_goTurn_92 : decode cX12_goTurn 92 = .ok (.dup2, 1) := by decide +kernel
theorem dX12_goTurn_93 : decode cX12_goTurn 93 = .ok (.iaload, 1) := by decide +kernel
theorem dX12_goTurn_94 : decode cX12_goTurn 94 = .ok (.aload_n 0, 1) := by decide +kernel
theorem dX12_goTurn_95 : decode cX12_goTurn 95 = .ok (.getfield 105, 3) := by decide +kernel
theorem dX12_goTurn_98 : decode cX12_goTurn 98 = .ok (.iload_n 1, 1) := by decide +kernel
theorem dX12_goTurn_99 : decode cX12_goTurn 99 = .ok (.iaload, 1) := by decide +kernel
theorem dX12_goTurn_100 : decode cX12_goTurn 100 = .ok (.iadd, 1) := by decide +kernel
theorem dX12_goTurn_101 : decode cX12_goTurn 101 = .ok (.iastore, 1) := by decide +kernel
theorem dX12_goTurn_102 : decode cX12_goTurn 102 = .ok (.aload_n 0, 1) := by decide +kernel
theorem dX12_goTurn_103 : decode cX12_goTurn 103 = .ok (.getfield 26, 3) := by decide +kernel
theorem dX12_goTurn_106 : decode cX12_goTurn 106 = .ok (.iload_n 1, 1) := by decide +kernel
theorem dX12_goTurn_107 : decode cX12_goTurn 107 = .ok (.iaload, 1) := by decide +kernel
theorem dX12_goTurn_108 : decode cX12_goTurn 108 = .ok (.aload_n 0, 1) := by decide +kernel
theorem dX12_goTurn_109 : decode cX12_goTurn 109 = .ok (.invokevirtual 244, 3) := by decide +kernel
theorem dX12_goTurn_112 : decode cX12_goTurn 112 = .ok (.if_icmp .ge 6, 3) := by decide +kernel
theorem dX12_goTurn_115 : decode cX12_goTurn 115 = .ok (.goto 25, 3) := by decide +kernel
theorem dX12_goTurn_118 : decode cX12_goTurn 118 = .ok (.aload_n 0, 1) := by decide +kernel
theorem dX12_goTurn_119 : decode cX12_goTurn 119 = .ok (.getfield 26, 3) := by decide +kernel
theorem dX12_goTurn_122 : decode cX12_goTurn 122 = .ok (.iload_n 1, 1) := by decide +kernel
theorem dX12_goTurn_123 : decode cX12_goTurn 123 = .ok (.aload_n 0, 1) := by decide +kernel
theorem dX12_goTurn_124 : decode cX12_goTurn 124 = .ok (.invokevirtual 244, 3) := by decide +kernel
theorem dX12_goTurn_127 : decode cX12_goTurn 127 = .ok (.iastore, 1) := by decide +kernel
theorem dX12_goTurn_128 : decode cX12_goTurn 128 = .ok (.aload_n 0, 1) := by decide +kernel
theorem dX12_goTurn_129 : decode cX12_goTurn 129 = .ok (.dup, 1) := by decide +kernel
theorem dX12_goTurn_130 : decode cX12_goTurn 130 = .ok (.getfield 16, 3) := by decide +kernel
theorem dX12_goTurn_133 : decode cX12_goTurn 133 = .ok (.iconst 1, 1) := by decide +kernel
theorem dX12_goTurn_134 : decode cX12_goTurn 134 = .ok (.iload_n 1, 1) := by decide +kernel
theorem dX12_goTurn_135 : decode cX12_goTurn 135 = .ok (.ishl, 1) := by decide +kernel
theorem dX12_goTurn_136 : decode cX12_goTurn 136 = .ok (.ior, 1) := by decide +kernel
theorem dX12_goTurn_137 : decode cX12_goTurn 137 = .ok (.putfield 16, 3) := by decide +kernel
theorem dX12_goTurn_140 : decode cX12_goTurn 140 = .ok (.iinc 1 1, 3) := by decide +kernel
theorem dX12_goTurn_143 : decode cX12_goTurn 143 = .ok (.goto (-79), 3) := by decide +kernel
theorem dX12_goTurn_146 : decode cX12_goTurn 146 = .ok (.iconst 0, 1) := by decide +kernel
theorem dX12_goTurn_147 : decode cX12_goTurn 147 = .ok (.istore_n 1, 1) := by decide +kernel
theorem dX12_goTurn_148 : decode cX12_goTurn 148 = .ok (.iconst 0, 1) := by decide +kernel
theorem dX12_goTurn_149 : decode cX12_goTurn 149 = .ok (.istore_n 2, 1) := by decide +kernel
theorem dX12_goTurn_150 : decode cX12_goTurn 150 = .ok (.iload_n 2, 1) := by decide +kernel
theorem dX12_goTurn_151 : decode cX12_goTurn 151 = .ok (.aload_n 0, 1) := by decide +kernel
theorem dX12_goTurn_152 : decode cX12_goTurn 152 = .ok (.getfield 7, 3) := by decide +kernel
theorem dX12_goTurn_155 : decode cX12_goTurn 155 = .ok (.if_icmp .ge 56, 3) := by decide +kernel
theorem dX12_goTurn_158 : decode cX12_goTurn 158 = .ok (.iload_n 1, 1) := by decide +kernel
theorem dX12_goTurn_159 : decode cX12_goTurn 159 = .ok (.aload_n 0, 1) := by decide +kernel
theorem dX12_goTurn_160 : decode cX12_goTurn 160 = .ok (.aload_n 0, 1) := by decide +kernel
theorem dX12_goTurn_161 : decode cX12_goTurn 161 = .ok (.getfield 16, 3) := by decide +kernel
theorem dX12_goTurn_164 : decode cX12_goTurn 164 = .ok (.iload_n 2, 1) := by decide +kernel
theorem dX12_goTurn_165 : decode cX12_goTurn 165 = .ok (.invokevirtual 328, 3) := by decide +kernel
theorem dX12_goTurn_168 : decode cX12_goTurn 168 = .ok (.ifCond .ne 34, 3) := by decide +kernel
theorem dX12_goTurn_171 : decode cX12_goTurn 171 = .ok (.aload_n 0, 1) := by decide +kernel
theorem dX12_goTurn_172 : decode cX12_goTurn 172 = .ok (.iload_n 2, 1) := by decide +kernel
theorem dX12_goTurn_173 : decode cX12_goTurn 173 = .ok (.invokevirtual 340, 3) := by decide +kernel
theorem dX12_goTurn_176 : decode cX12_goTurn 176 = .ok (.aload_n 0, 1) := by decide +kernel
theorem dX12_goTurn_177 : decode cX12_goTurn 177 = .ok (.invokevirtual 337, 3) := by decide +kernel
theorem dX12_goTurn_180 : decode cX12_goTurn 180 = .ok (.if_icmp .ge 22, 3) := by decide +kernel
theorem dX12_goTurn_183 : decode cX12_goTurn 183 = .ok (.aload_n 0, 1) := by decide +kernel
theorem dX12_goTurn_184 : decode cX12_goTurn 184 = .ok (.getfield 108, 3) := by decide +kernel
theorem dX12_goTurn_187 : decode cX12_goTurn 187 = .ok (.iload_n 2, 1) := by decide +kernel
theorem dX12_goTurn_188 : decode cX12_goTurn 188 = .ok (.iaload, 1) := by decide +kernel
theorem dX12_goTurn_189 : decode cX12_goTurn 189 = .ok (.aload_n 0, 1) := by decide +kernel
theorem dX12_goTurn_190 : decode cX12_goTurn 190 = .ok (.invokevirtual 334, 3) := by decide +kernel
theorem dX12_goTurn_193 : decode cX12_goTurn 193 = .ok (.if_icmp .le 9, 3) := by decide +kernel
theorem dX12_goTurn_196 : decode cX12_goTurn 196 = .ok (.iconst 1, 1) := by decide +kernel
theorem dX12_goTurn_197 : decode cX12_goTurn 197 = .ok (.iload_n 2, 1) := by decide +kernel
theorem dX12_goTurn_198 : decode cX12_goTurn 198 = .ok (.ishl, 1) := by decide +kernel
theorem dX12_goTurn_199 : decode cX12_goTurn 199 = .ok (.goto 4, 3) := by decide +kernel
theorem dX12_goTurn_202 : decode cX12_goTurn 202 = .ok (.iconst 0, 1) := by decide +kernel
theorem dX12_goTurn_203 : decode cX12_goTurn 203 = .ok (.ior, 1) := by decide +kernel
theorem dX12_goTurn_204 : decode cX12_goTurn 204 = .ok (.istore_n 1, 1) := by decide +kernel
theorem dX12_goTurn_205 : decode cX12_goTurn 205 = .ok (.iinc 2 1, 3) := by decide +kernel
theorem dX12_goTurn_208 : decode cX12_goTurn 208 = .ok (.goto (-58), 3) := by decide +kernel
theorem dX12_goTurn_211 : decode cX12_goTurn 211 = .ok (.iconst 0, 1) := by decide +kernel
theorem dX12_goTurn_212 : decode cX12_goTurn 212 = .ok (.istore_n 2, 1) := by decide +kernel
theorem dX12_goTurn_213 : decode cX12_goTurn 213 = .ok (.iload_n 2, 1) := by decide +kernel
theorem dX12_goTurn_214 : decode cX12_goTurn 214 = .ok (.aload_n 0, 1) := by decide +kernel
theorem dX12_goTurn_215 : decode cX12_goTurn 215 = .ok (.getfield 7, 3) := by decide +kernel
theorem dX12_goTurn_218 : decode cX12_goTurn 218 = .ok (.if_icmp .ge 62, 3) := by decide +kernel
theorem dX12_goTurn_221 : decode cX12_goTurn 221 = .ok (.aload_n 0, 1) := by decide +kernel
theorem dX12_goTurn_222 : decode cX12_goTurn 222 = .ok (.iload_n 1, 1) := by decide +kernel
theorem dX12_goTurn_223 : decode cX12_goTurn 223 = .ok (.iload_n 2, 1) := by decide +kernel
theorem dX12_goTurn_224 : decode cX12_goTurn 224 = .ok (.invokevirtual 328, 3) := by decide +kernel
theorem dX12_goTurn_227 : decode cX12_goTurn 227 = .ok (.ifCond .ne 6, 3) := by decide +kernel
theorem dX12_goTurn_230 : decode cX12_goTurn 230 = .ok (.goto 44, 3) := by decide +kernel
theorem dX12_goTurn_233 : decode cX12_goTurn 233 = .ok (.aload_n 0, 1) := by decide +kernel
theorem dX12_goTurn_234 : decode cX12_goTurn 234 = .ok (.getfield 26, 3) := by decide +kernel
theorem dX12_goTurn_237 : decode cX12_goTurn 237 = .ok (.iload_n 2, 1) := by decide +kernel
theorem dX12_goTurn_238 : decode cX12_goTurn 238 = .ok (.iconst 0, 1) := by decide +kernel
theorem dX12_goTurn_239 : decode cX12_goTurn 239 = .ok (.iastore, 1) := by decide +kernel
theorem dX12_goTurn_240 : decode cX12_goTurn 240 = .ok (.aload_n 0, 1) := by decide +kernel
theorem dX12_goTurn_241 : decode cX12_goTurn 241 = .ok (.getfield 32, 3) := by decide +kernel
theorem dX12_goTurn_244 : decode cX12_goTurn 244 = .ok (.iload_n 2, 1) := by decide +kernel
theorem dX12_goTurn_245 : decode cX12_goTurn 245 = .ok (.aload_n 0, 1) := by decide +kernel
theorem dX12_goTurn_246 : decode cX12_goTurn 246 = .ok (.getfield 32, 3) := by decide +kernel
theorem dX12_goTurn_249 : decode cX12_goTurn 249 = .ok (.iload_n 2, 1) := by decide +kernel
theorem dX12_goTurn_250 : decode cX12_goTurn 250 = .ok (.iaload, 1) := by decide +kernel
theorem dX12_goTurn_251 : decode cX12_goTurn 251 = .ok (.aload_n 0, 1) := by decide +kernel
theorem dX12_goTurn_252 : decode cX12_goTurn 252 = .ok (.getfield 99, 3) := by decide +kernel
theorem dX12_goTurn_255 : decode cX12_goTurn 255 = .ok (.if_icmp .ge 14, 3) := by decide +kernel
theorem dX12_goTurn_258 : decode cX12_goTurn 258 = .ok (.aload_n 0, 1) := by decide +kernel
theorem dX12_goTurn_259 : decode cX12_goTurn 259 = .ok (.getfield 32, 3) := by decide +kernel
theorem dX12_goTurn_262 : decode cX12_goTurn 262 = .ok (.iload_n 2, 1) := by decide +kernel
theorem dX12_goTurn_263 : decode cX12_goTurn 263 = .ok (.iaload, 1) := by decide +kernel
theorem dX12_goTurn_264 : decode cX12_goTurn 264 = .ok (.iconst 1, 1) := by decide +kernel
theorem dX12_goTurn_265 : decode cX12_goTurn 265 = .ok (.iadd, 1) := by decide +kernel
theorem dX12_goTurn_266 : decode cX12_goTurn 266 = .ok (.goto 7, 3) := by decide +kernel
theorem dX12_goTurn_269 : decode cX12_goTurn 269 = .ok (.aload_n 0, 1) := by decide +kernel
theorem dX12_goTurn_270 : decode cX12_goTurn 270 = .ok (.getfield 99, 3) := by decide +kernel
theorem dX12_goTurn_273 : decode cX12_goTurn 273 = .ok (.iastore, 1) := by decide +kernel
theorem dX12_goTurn_274 : decode cX12_goTurn 274 = .ok (.iinc 2 1, 3) := by decide +kernel
theorem dX12_goTurn_277 : decode cX12_goTurn 277 = .ok (.goto (-64), 3) := by decide +kernel
theorem dX12_goTurn_280 : decode cX12_goTurn 280 = .ok (.aload_n 0, 1) := by decide +kernel
theorem dX12_goTurn_281 : decode cX12_goTurn 281 = .ok (.dup, 1) := by decide +kernel
theorem dX12_goTurn_282 : decode cX12_goTurn 282 = .ok (.getfield 13, 3) := by decide +kernel
theorem dX12_goTurn_285 : decode cX12_goTurn 285 = .ok (.iconst 1, 1) := by decide +kernel
theorem dX12_goTurn_286 : decode cX12_goTurn 286 = .ok (.iadd, 1) := by decide +kernel
theorem dX12_goTurn_287 : decode cX12_goTurn 287 = .ok (.putfield 13, 3) := by decide +kernel
theorem dX12_goTurn_290 : decode cX12_goTurn 290 = .ok (.iload_n 1, 1) := by decide +kernel
theorem dX12_goTurn_291 : decode cX12_goTurn 291 = .ok (.ireturn, 1) := by decide +kernel
theorem dX12_turn_0 : decode cX12_turn 0 = .ok (.aload_n 0, 1) := by decide +kernel
theorem dX12_turn_1 : decode cX12_turn 1 = .ok (.getfield 13, 3) := by decide +kernel
theorem dX12_turn_4 : decode cX12_turn 4 = .ok (.sipush 9999, 3) := by decide +kernel
theorem dX12_turn_7 : decode cX12_turn 7 = .ok (.if_icmp .ne 8, 3) := by decide +kernel
theorem dX12_turn_10 : decode cX12_turn 10 = .ok (.bipush (-3), 2) := by decide +kernel
theorem dX12_turn_12 : decode cX12_turn 12 = .ok (.goto 7, 3) := by decide +kernel
theorem dX12_turn_15 : decode cX12_turn 15 = .ok (.aload_n 0, 1) := by decide +kernel
theorem dX12_turn_16 : decode cX12_turn 16 = .ok (.invokevirtual 343, 3) := by decide +kernel
theorem dX12_turn_19 : decode cX12_turn 19 = .ok (.ireturn, 1) := by decide +kernel
theorem dX12_save_0 : decode cX12_save 0 = .ok (.aload_n 0, 1) := by decide +kernel
theorem dX12_save_1 : decode cX12_save 1 = .ok (.ldc_w 346, 3) := by decide +kernel
theorem dX12_save_4 : decode cX12_save 4 = .ok (.putfield 99, 3) := by decide +kernel
theorem dX12_save_7 : decode cX12_save 7 = .ok (.aload_n 0, 1) := by decide +kernel
theorem dX12_save_8 : decode cX12_save 8 = .ok (.aload_n 0, 1) := by decide +kernel
theorem dX12_save_9 : decode cX12_save 9 = .ok (.getfield 13, 3) := by decide +kernel
theorem dX12_save_12 : decode cX12_save 12 = .ok (.putfield 111, 3) := by decide +kernel
theorem dX12_save_15 : decode cX12_save 15 = .ok (.aload_n 0, 1) := by decide +kernel
theorem dX12_save_16 : decode cX12_save 16 = .ok (.aload_n 0, 1) := by decide +kernel
theorem dX12_save_17 : decode cX12_save 17 = .ok (.getfield 16, 3) := by decide +kernel
theorem dX12_save_20 : decode cX12_save 20 = .ok (.putfield 114, 3) := by decide +kernel
theorem dX12_save_23 : decode cX12_save 23 = .ok (.iconst 0, 1) := by decide +kernel
theorem dX12_save_24 : decode cX12_save 24 = .ok (.istore_n 1, 1) := by decide +kernel
theorem dX12_save_25 : decode cX12_save 25 = .ok (.iload_n 1, 1) := by decide +kernel
theorem dX12_save_26 : decode cX12_save 26 = .ok (.bipush 7, 2) := by decide +kernel
theorem dX12_save_28 : decode cX12_save 28 = .ok (.if_icmp .ge 33, 3) := by decide +kernel
theorem dX12_save_31 : decode cX12_save 31 = .ok (.aload_n 0, 1) := by decide +kernel
theorem dX12_save_32 : decode cX12_save 32 = .ok (.getfield 117, 3) := by decide +kernel
theorem dX12_save_35 : decode cX12_save 35 = .ok (.iload_n 1, 1) := by decide +kernel
theorem dX12_save_36 : decode cX12_save 36 = .ok (.aload_n 0, 1) := by decide +kernel
theorem dX12_save_37 : decode cX12_save 37 = .ok (.getfield 26, 3) := by decide +kernel
theorem dX12_save_40 : decode cX12_save 40 = .ok (.iload_n 1, 1) := by decide +kernel
theorem dX12_save_41 : decode cX12_save 41 = .ok (.iaload, 1) := by decide +kernel
theorem dX12_save_42 : decode cX12_save 42 = .ok (.iastore, 1) := by decide +kernel
theorem dX12_save_43 : decode cX12_save 43 = .ok (.aload_n 0, 1) := by decide +kernel
theorem dX12_save_44 : decode cX12_save 44 = .ok (.getfield 120, 3) := by decide +kernel
theorem dX12_save_47 : decode cX12_save 47 = .ok (.iload_n 1, 1) := by decide +kernel
theorem dX12_save_48 : decode cX12_save 48 = .ok (.aload_n 0, 1) := by decide +kernel
theorem dX12_save_49 : decode cX12_save 49 = .ok (.getfield 32, 3) := by decide +kernel
theorem dX12_save_52 : decode cX12_save 52 = .ok (.iload_n 1, 1) := by decide +kernel
theorem dX12_save_53 : decode cX12_save 53 = .ok (.iaload, 1) := by decide +kernel
theorem dX12_save_54 : decode cX12_save 54 = .ok (.iastore, 1) := by decide +kernel
theorem dX12_save_55 : decode cX12_save 55 = .ok (.iinc 1 1, 3) := by decide +kernel
theorem dX12_save_58 : decode cX12_save 58 = .ok (.goto (-33), 3) := by decide +kernel
theorem dX12_save_61 : decode cX12_save 61 = .ok (.return_, 1) := by decide +kernel
theorem dX12_putBack_0 : decode cX12_putBack 0 = .ok (.aload_n 0, 1) := by decide +kernel
theorem dX12_putBack_1 : decode cX12_putBack 1 = .ok (.sipush 9999, 3) := by decide +kernel
theorem dX12_putBack_4 : decode cX12_putBack 4 = .ok (.putfield 99, 3) := by decide +kernel
theorem dX12_putBack_7 : decode cX12_putBack 7 = .ok (.aload_n 0, 1) := by decide +kernel
theorem dX12_putBack_8 : decode cX12_putBack 8 = .ok (.aload_n 0, 1) := by decide +kernel
theorem dX12_putBack_9 : decode cX12_putBack 9 = .ok (.getfield 111, 3) := by decide +kernel
theorem dX12_putBack_12 : decode cX12_putBack 12 = .ok (.putfield 13, 3) := by decide +kernel
theorem dX12_putBack_15 : decode cX12_putBack 15 = .ok (.aload_n 0, 1) := by decide +kernel
theorem dX12_putBack_16 : decode cX12_putBack 16 = .ok (.aload_n 0, 1) := by decide +kernel
theorem dX12_putBack_17 : decode cX12_putBack 17 = .ok (.getfield 114, 3) := by decide +kernel
theorem dX12_putBack_20 : decode cX12_putBack 20 = .ok (.putfield 16, 3) := by decide +kernel
theorem dX12_putBack_23 : decode cX12_putBack 23 = .ok (.iconst 0, 1) := by decide +kernel
theorem dX12_putBack_24 : decode cX12_putBack 24 = .ok (.istore_n 1, 1) := by decide +kernel
theorem dX12_putBack_25 : decode cX12_putBack 25 = .ok (.iload_n 1, 1) := by decide +kernel
theorem dX12_putBack_26 : decode cX12_putBack 26 = .ok (.bipush 7, 2) := by decide +kernel
theorem dX12_putBack_28 : decode cX12_putBack 28 = .ok (.if_icmp .ge 33, 3) := by decide +kernel
theorem dX12_putBack_31 : decode cX12_putBack 31 = .ok (.aload_n 0, 1) := by decide +kernel
theorem dX12_putBack_32 : decode cX12_putBack 32 = .ok (.getfield 26, 3) := by decide +kernel
theorem dX12_putBack_35 : decode cX12_putBack 35 = .ok (.iload_n 1, 1) := by decide +kernel
theorem dX12_putBack_36 : decode cX12_putBack 36 = .ok (.aload_n 0, 1) := by decide +kernel
theorem dX12_putBack_37 : decode cX12_putBack 37 = .ok (.getfield 117, 3) := by decide +kernel
theorem dX12_putBack_40 : decode cX12_putBack 40 = .ok (.iload_n 1, 1) := by decide +kernel
theorem dX12_putBack_41 : decode cX12_putBack 41 = .ok (.iaload, 1) := by decide +kernel
theorem dX12_putBack_42 : decode cX12_putBack 42 = .ok (.iastore, 1) := by decide +kernel
theorem dX12_putBack_43 : decode cX12_putBack 43 = .ok (.aload_n 0, 1) := by decide +kernel
theorem dX12_putBack_44 : decode cX12_putBack 44 = .ok (.getfield 32, 3) := by decide +kernel
theorem dX12_putBack_47 : decode cX12_putBack 47 = .ok (.iload_n 1, 1) := by decide +kernel
theorem dX12_putBack_48 : decode cX12_putBack 48 = .ok (.aload_n 0, 1) := by decide +kernel
theorem dX12_putBack_49 : decode cX12_putBack 49 = .ok (.getfield 120, 3) := by decide +kernel
theorem dX12_putBack_52 : decode cX12_putBack 52 = .ok (.iload_n 1, 1) := by decide +kernel
theorem dX12_putBack_53 : decode cX12_putBack 53 = .ok (.iaload, 1) := by decide +kernel
theorem dX12_putBack_54 : decode cX12_putBack 54 = .ok (.iastore, 1) := by decide +kernel
theorem dX12_putBack_55 : decode cX12_putBack 55 = .ok (.iinc 1 1, 3) := by decide +kernel
theorem dX12_putBack_58 : decode cX12_putBack 58 = .ok (.goto (-33), 3) := by decide +kernel
theorem dX12_putBack_61 : decode cX12_putBack 61 = .ok (.return_, 1) := by decide +kernel
theorem dX12_lay_0 : decode cX12_lay 0 = .ok (.aload_n 0, 1) := by decide +kernel
theorem dX12_lay_1 : decode cX12_lay 1 = .ok (.invokevirtual 347, 3) := by decide +kernel
theorem dX12_lay_4 : decode cX12_lay 4 = .ok (.aload_n 0, 1) := by decide +kernel
theorem dX12_lay_5 : decode cX12_lay 5 = .ok (.iconst 0, 1) := by decide +kernel
theorem dX12_lay_6 : decode cX12_lay 6 = .ok (.putfield 129, 3) := by decide +kernel
theorem dX12_lay_9 : decode cX12_lay 9 = .ok (.iconst 0, 1) := by decide +kernel
theorem dX12_lay_10 : decode cX12_lay 10 = .ok (.istore_n 2, 1) := by decide +kernel
theorem dX12_lay_11 : decode cX12_lay 11 = .ok (.iload_n 2, 1) := by decide +kernel
theorem dX12_lay_12 : decode cX12_lay 12 = .ok (.iload_n 1, 1) := by decide +kernel
theorem dX12_lay_13 : decode cX12_lay 13 = .ok (.if_icmp .ge 22, 3) := by decide +kernel
theorem dX12_lay_16 : decode cX12_lay 16 = .ok (.aload_n 0, 1) := by decide +kernel
theorem dX12_lay_17 : decode cX12_lay 17 = .ok (.dup, 1) := by decide +kernel
theorem dX12_lay_18 : decode cX12_lay 18 = .ok (.getfield 129, 3) := by decide +kernel
theorem dX12_lay_21 : decode cX12_lay 21 = .ok (.aload_n 0, 1) := by decide +kernel
theorem dX12_lay_22 : decode cX12_lay 22 = .ok (.invokevirtual 343, 3) := by decide +kernel
theorem dX12_lay_25 : decode cX12_lay 25 = .ok (.ior, 1) := by decide +kernel
theorem dX12_lay_26 : decode cX12_lay 26 = .ok (.putfield 129, 3) := by decide +kernel
theorem dX12_lay_29 : decode cX12_lay 29 = .ok (.iinc 2 1, 3) := by decide +kernel
theorem dX12_lay_32 : decode cX12_lay 32 = .ok (.goto (-21), 3) := by decide +kernel
theorem dX12_lay_35 : decode cX12_lay 35 = .ok (.iconst 0, 1) := by decide +kernel
theorem dX12_lay_36 : decode cX12_lay 36 = .ok (.istore_n 2, 1) := by decide +kernel
theorem dX12_lay_37 : decode cX12_lay 37 = .ok (.iload_n 2, 1) := by decide +kernel
theorem dX12_lay_38 : decode cX12_lay 38 = .ok (.bipush 7, 2) := by decide +kernel
theorem dX12_lay_40 : decode cX12_lay 40 = .ok (.if_icmp .ge 21, 3) := by decide +kernel
theorem dX12_lay_43 : decode cX12_lay 43 = .ok (.aload_n 0, 1) := by decide +kernel
theorem dX12_lay_44 : decode cX12_lay 44 = .ok (.getfield 123, 3) := by decide +kernel
theorem dX12_lay_47 : decode cX12_lay 47 = .ok (.iload_n 2, 1) := by decide +kernel
theorem dX12_lay_48 : decode cX12_lay 48 = .ok (.aload_n 0, 1) := by decide +kernel
theorem dX12_lay_49 : decode cX12_lay 49 = .ok (.getfield 26, 3) := by decide +kernel
theorem dX12_lay_52 : decode cX12_lay 52 = .ok (.iload_n 2, 1) := by decide +kernel
theorem dX12_lay_53 : decode cX12_lay 53 = .ok (.iaload, 1) := by decide +kernel
theorem dX12_lay_54 : decode cX12_lay 54 = .ok (.iastore, 1) := by decide +kernel
theorem dX12_lay_55 : decode cX12_lay 55 = .ok (.iinc 2 1, 3) := by decide +kernel
theorem dX12_lay_58 : decode cX12_lay 58 = .ok (.goto (-21), 3) := by decide +kernel
theorem dX12_lay_61 : decode cX12_lay 61 = .ok (.aload_n 0, 1) := by decide +kernel
theorem dX12_lay_62 : decode cX12_lay 62 = .ok (.aload_n 0, 1) := by decide +kernel
theorem dX12_lay_63 : decode cX12_lay 63 = .ok (.getfield 16, 3) := by decide +kernel
theorem dX12_lay_66 : decode cX12_lay 66 = .ok (.putfield 126, 3) := by decide +kernel
theorem dX12_lay_69 : decode cX12_lay 69 = .ok (.aload_n 0, 1) := by decide +kernel
theorem dX12_lay_70 : decode cX12_lay 70 = .ok (.invokevirtual 350, 3) := by decide +kernel
theorem dX12_lay_73 : decode cX12_lay 73 = .ok (.return_, 1) := by decide +kernel
theorem dX12_on_0 : decode cX12_on 0 = .ok (.aload_n 0, 1) := by decide +kernel
theorem dX12_on_1 : decode cX12_on 1 = .ok (.iload_n 2, 1) := by decide +kernel
theorem dX12_on_2 : decode cX12_on 2 = .ok (.iconst 0, 1) := by decide +kernel
theorem dX12_on_3 : decode cX12_on 3 = .ok (.iconst 1, 1) := by decide +kernel
theorem dX12_on_4 : decode cX12_on 4 = .ok (.invokevirtual 236, 3) := by decide +kernel
theorem dX12_on_7 : decode cX12_on 7 = .ok (.ifCond .ne 22, 3) := by decide +kernel
theorem dX12_on_10 : decode cX12_on 10 = .ok (.aload_n 0, 1) := by decide +kernel
theorem dX12_on_11 : decode cX12_on 11 = .ok (.iload_n 2, 1) := by decide +kernel
theorem dX12_on_12 : decode cX12_on 12 = .ok (.bipush 10, 2) := by decide +kernel
theorem dX12_on_14 : decode cX12_on 14 = .ok (.bipush 9, 2) := by decide +kernel
theorem dX12_on_16 : decode cX12_on 16 = .ok (.aload_n 0, 1) := by decide +kernel
theorem dX12_on_17 : decode cX12_on 17 = .ok (.getfield 7, 3) := by decide +kernel
theorem dX12_on_20 : decode cX12_on 20 = .ok (.iadd, 1) := by decide +kernel
theorem dX12_on_21 : decode cX12_on 21 = .ok (.invokevirtual 236, 3) := by decide +kernel
theorem dX12_on_24 : decode cX12_on 24 = .ok (.ifCond .ne 5, 3) := by decide +kernel
theorem dX12_on_27 : decode cX12_on 27 = .ok (.iconst (-1), 1) := by decide +kernel
theorem dX12_on_28 : decode cX12_on 28 = .ok (.ireturn, 1) := by decide +kernel
theorem dX12_on_29 : decode cX12_on 29 = .ok (.aload_n 0, 1) := by decide +kernel
theorem dX12_on_30 : decode cX12_on 30 = .ok (.iload_n 1, 1) := by decide +kernel
theorem dX12_on_31 : decode cX12_on 31 = .ok (.iconst 0, 1) := by decide +kernel
theorem dX12_on_32 : decode cX12_on 32 = .ok (.bipush 40, 2) := by decide +kernel
theorem dX12_on_34 : decode cX12_on 34 = .ok (.invokevirtual 236, 3) := by decide +kernel
theorem dX12_on_37 : decode cX12_on 37 = .ok (.ifCond .ne 6, 3) := by decide +kernel
theorem dX12_on_40 : decode cX12_on 40 = .ok (.bipush (-2), 2) := by decide +kernel
theorem dX12_on_42 : decode cX12_on 42 = .ok (.ireturn, 1) := by decide +kernel
theorem dX12_on_43 : decode cX12_on 43 = .ok (.aload_n 0, 1) := by decide +kernel
theorem dX12_on_44 : decode cX12_on 44 = .ok (.iload_n 1, 1) := by decide +kernel
theorem dX12_on_45 : decode cX12_on 45 = .ok (.invokevirtual 353, 3) := by decide +kernel
theorem dX12_on_48 : decode cX12_on 48 = .ok (.iload_n 2, 1) := by decide +kernel
theorem dX12_on_49 : decode cX12_on 49 = .ok (.ifCond .ne 14, 3) := by decide +kernel
theorem dX12_on_52 : decode cX12_on 52 = .ok (.aload_n 0, 1) := by decide +kernel
theorem dX12_on_53 : decode cX12_on 53 = .ok (.aload_n 0, 1) := by decide +kernel
theorem dX12_on_54 : decode cX12_on 54 = .ok (.getfield 126, 3) := by decide +kernel
theorem dX12_on_57 : decode cX12_on 57 = .ok (.invokevirtual 356, 3) := by decide +kernel
theorem dX12_on_60 : decode cX12_on 60 = .ok (.goto 24, 3) := by decide +kernel
theorem dX12_on_63 : decode cX12_on 63 = .ok (.iload_n 2, 1) := by decide +kernel
theorem dX12_on_64 : decode cX12_on 64 = .ok (.iconst 1, 1) := by decide +kernel
theorem dX12_on_65 : decode cX12_on 65 = .ok (.if_icmp .ne 10, 3) := by decide +kernel
theorem dX12_on_68 : decode cX12_on 68 = .ok (.aload_n 0, 1) := by decide +kernel
theorem dX12_on_69 : decode cX12_on 69 = .ok (.getfield 129, 3) := by decide +kernel
theorem dX12_on_72 : decode cX12_on 72 = .ok (.goto 12, 3) := by decide +kernel
theorem dX12_on_75 : decode cX12_on 75 = .ok (.aload_n 0, 1) := by decide +kernel
theorem dX12_on_76 : decode cX12_on 76 = .ok (.getfield 123, 3) := by decide +kernel
theorem dX12_on_79 : decode cX12_on 79 = .ok (.iload_n 2, 1) := by decide +kernel
theorem dX12_on_80 : decode cX12_on 80 = .ok (.bipush 10, 2) := by decide +kernel
theorem dX12_on_82 : decode cX12_on 82 = .ok (.isub, 1) := by decide +kernel
theorem dX12_on_83 : decode cX12_on 83 = .ok (.iaload, 1) := by decide +kernel
theorem dX12_on_84 : decode cX12_on 84 = .ok (.ireturn, 1) := by decide +kernel
theorem dX12_touchesOf_0 : decode cX12_touchesOf 0 = .ok (.aload_n 0, 1) := by decide +kernel
theorem dX12_touchesOf_1 : decode cX12_touchesOf 1 = .ok (.invokevirtual 347, 3) := by decide +kernel
theorem dX12_touchesOf_4 : decode cX12_touchesOf 4 = .ok (.iconst 0, 1) := by decide +kernel
theorem dX12_touchesOf_5 : decode cX12_touchesOf 5 = .ok (.istore_n 2, 1) := by decide +kernel
theorem dX12_touchesOf_6 : decode cX12_touchesOf 6 = .ok (.iload_n 2, 1) := by decide +kernel
theorem dX12_touchesOf_7 : decode cX12_touchesOf 7 = .ok (.bipush 61, 2) := by decide +kernel
theorem dX12_touchesOf_9 : decode cX12_touchesOf 9 = .ok (.if_icmp .ge 26, 3) := by decide +kernel
theorem dX12_touchesOf_12 : decode cX12_touchesOf 12 = .ok (.aload_n 0, 1) := by decide +kernel
theorem dX12_touchesOf_13 : decode cX12_touchesOf 13 = .ok (.aload_n 0, 1) := by decide +kernel
theorem dX12_touchesOf_14 : decode cX12_touchesOf 14 = .ok (.getfield 16, 3) := by decide +kernel
theorem dX12_touchesOf_17 : decode cX12_touchesOf 17 = .ok (.iload_n 1, 1) := by decide +kernel
theorem dX12_touchesOf_18 : decode cX12_touchesOf 18 = .ok (.invokevirtual 328, 3) := by decide +kernel
theorem dX12_touchesOf_21 : decode cX12_touchesOf 21 = .ok (.ifCond .ne 14, 3) := by decide +kernel
theorem dX12_touchesOf_24 : decode cX12_touchesOf 24 = .ok (.aload_n 0, 1) := by decide +kernel
theorem dX12_touchesOf_25 : decode cX12_touchesOf 25 = .ok (.invokevirtual 343, 3) := by decide +kernel
theorem dX12_touchesOf_28 : decode cX12_touchesOf 28 = .ok (.istore_n 3, 1) := by decide +kernel
theorem dX12_touchesOf_29 : decode cX12_touchesOf 29 = .ok (.iinc 2 1, 3) := by decide +kernel
theorem dX12_touchesOf_32 : decode cX12_touchesOf 32 = .ok (.goto (-26), 3) := by decide +kernel
theorem dX12_touchesOf_35 : decode cX12_touchesOf 35 = .ok (.aload_n 0, 1) := by decide +kernel
theorem dX12_touchesOf_36 : decode cX12_touchesOf 36 = .ok (.invokevirtual 350, 3) := by decide +kernel
theorem dX12_touchesOf_39 : decode cX12_touchesOf 39 = .ok (.iload_n 2, 1) := by decide +kernel
theorem dX12_touchesOf_40 : decode cX12_touchesOf 40 = .ok (.bipush 61, 2) := by decide +kernel
theorem dX12_touchesOf_42 : decode cX12_touchesOf 42 = .ok (.if_icmp .ge 7, 3) := by decide +kernel
theorem dX12_touchesOf_45 : decode cX12_touchesOf 45 = .ok (.iload_n 2, 1) := by decide +kernel
theorem dX12_touchesOf_46 : decode cX12_touchesOf 46 = .ok (.goto 5, 3) := by decide +kernel
theorem dX12_touchesOf_49 : decode cX12_touchesOf 49 = .ok (.bipush (-5), 2) := by decide +kernel
theorem dX12_touchesOf_51 : decode cX12_touchesOf 51 = .ok (.ireturn, 1) := by decide +kernel
theorem dX12_touches_0 : decode cX12_touches 0 = .ok (.aload_n 0, 1) := by decide +kernel
theorem dX12_touches_1 : decode cX12_touches 1 = .ok (.iload_n 1, 1) := by decide +kernel
theorem dX12_touches_2 : decode cX12_touches 2 = .ok (.invokevirtual 240, 3) := by decide +kernel
theorem dX12_touches_5 : decode cX12_touches 5 = .ok (.ifCond .eq 11, 3) := by decide +kernel
theorem dX12_touches_8 : decode cX12_touches 8 = .ok (.aload_n 0, 1) := by decide +kernel
theorem dX12_touches_9 : decode cX12_touches 9 = .ok (.iload_n 1, 1) := by decide +kernel
theorem dX12_touches_10 : decode cX12_touches 10 = .ok (.invokevirtual 359, 3) := by decide +kernel
theorem dX12_touches_13 : decode cX12_touches 13 = .ok (.goto 4, 3) := by decide +kernel
theorem dX12_touches_16 : decode cX12_touches 16 = .ok (.iconst (-1), 1) := by decide +kernel
theorem dX12_touches_17 : decode cX12_touches 17 = .ok (.ireturn, 1) := by decide +kernel
theorem dX12_first_0 : decode cX12_first 0 = .ok (.bipush (-5), 2) := by decide +kernel
theorem dX12_first_2 : decode cX12_first 2 = .ok (.istore_n 1, 1) := by decide +kernel
theorem dX12_first_3 : decode cX12_first 3 = .ok (.iconst 0, 1) := by decide +kernel
theorem dX12_first_4 : decode cX12_first 4 = .ok (.istore_n 2, 1) := by decide +kernel
theorem dX12_first_5 : decode cX12_first 5 = .ok (.iconst 0, 1) := by decide +kernel
theorem dX12_first_6 : decode cX12_first 6 = .ok (.istore_n 3, 1) := by decide +kernel
theorem dX12_first_7 : decode cX12_first 7 = .ok (.iload_n 3, 1) := by decide +kernel
theorem dX12_first_8 : decode cX12_first 8 = .ok (.aload_n 0, 1) := by decide +kernel
theorem dX12_first_9 : decode cX12_first 9 = .ok (.getfield 7, 3) := by decide +kernel
theorem dX12_first_12 : decode cX12_first 12 = .ok (.if_icmp .ge 56, 3) := by decide +kernel
theorem dX12_first_15 : decode cX12_first 15 = .ok (.aload_n 0, 1) := by decide +kernel
theorem dX12_first_16 : decode cX12_first 16 = .ok (.aload_n 0, 1) := by decide +kernel
theorem dX12_first_17 : decode cX12_first 17 = .ok (.getfield 16, 3) := by decide +kernel
theorem dX12_first_20 : decode cX12_first 20 = .ok (.iload_n 3, 1) := by decide +kernel
theorem dX12_first_21 : decode cX12_first 21 = .ok (.invokevirtual 328, 3) := by decide +kernel
theorem dX12_first_24 : decode cX12_first 24 = .ok (.ifCond .eq 8, 3) := by decide +kernel
theorem dX12_first_27 : decode cX12_first 27 = .ok (.bipush (-5), 2) := by decide +kernel
theorem dX12_first_29 : decode cX12_first 29 = .ok (.goto 8, 3) := by decide +kernel
theorem dX12_first_32 : decode cX12_first 32 = .ok (.aload_n 0, 1) := by decide +kernel
theorem dX12_first_33 : decode cX12_first 33 = .ok (.iload_n 3, 1) := by decide +kernel
theorem dX12_first_34 : decode cX12_first 34 = .ok (.invokevirtual 359, 3) := by decide +kernel
theorem dX12_first_37 : decode cX12_first 37 = .ok (.istore 4, 2) := by decide +kernel
theorem dX12_first_39 : decode cX12_first 39 = .ok (.iload 4, 2) := by decide +kernel
theorem dX12_first_41 : decode cX12_first 41 = .ok (.ifCond .lt 21, 3) := by decide +kernel
theorem dX12_first_44 : decode cX12_first 44 = .ok (.iload_n 1, 1) := by decide +kernel
theorem dX12_first_45 : decode cX12_first 45 = .ok (.ifCond .lt 12, 3) := by decide +kernel
theorem dX12_first_48 : decode cX12_first 48 = .ok (.iload 4, 2) := by decide +kernel
theorem dX12_first_50 : decode cX12_first 50 = .ok (.iload_n 2, 1) := by decide +kernel
theorem dX12_first_51 : decode cX12_first 51 = .ok (.if_icmp .lt 6, 3) := by decide +kernel
theorem dX12_first_54 : decode cX12_first 54 = .ok (.goto 8, 3) := by decide +kernel
theorem dX12_first_57 : decode cX12_first 57 = .ok (.iload_n 3, 1) := by decide +kernel
theorem dX12_first_58 : decode cX12_first 58 = .ok (.istore_n 1, 1) := by decide +kernel
theorem dX12_first_59 : decode cX12_first 59 = .ok (.iload 4, 2) := by decide +kernel
theorem dX12_first_61 : decode cX12_first 61 = .ok (.istore_n 2, 1) := by decide +kernel
theorem dX12_first_62 : decode cX12_first 62 = .ok (.iinc 3 1, 3) := by decide +kernel
theorem dX12_first_65 : decode cX12_first 65 = .ok (.goto (-58), 3) := by decide +kernel
theorem dX12_first_68 : decode cX12_first 68 = .ok (.iload_n 1, 1) := by decide +kernel
theorem dX12_first_69 : decode cX12_first 69 = .ok (.ireturn, 1) := by decide +kernel
theorem dX12_risks_0 : decode cX12_risks 0 = .ok (.iconst 0, 1) := by decide +kernel
theorem dX12_risks_1 : decode cX12_risks 1 = .ok (.istore_n 1, 1) := by decide +kernel
theorem dX12_risks_2 : decode cX12_risks 2 = .ok (.iconst 0, 1) := by decide +kernel
theorem dX12_risks_3 : decode cX12_risks 3 = .ok (.istore_n 2, 1) := by decide +kernel
theorem dX12_risks_4 : decode cX12_risks 4 = .ok (.iload_n 2, 1) := by decide +kernel
theorem dX12_risks_5 : decode cX12_risks 5 = .ok (.aload_n 0, 1) := by decide +kernel
theorem dX12_risks_6 : decode cX12_risks 6 = .ok (.getfield 7, 3) := by decide +kernel
theorem dX12_risks_9 : decode cX12_risks 9 = .ok (.if_icmp .ge 43, 3) := by decide +kernel
theorem dX12_risks_12 : decode cX12_risks 12 = .ok (.iload_n 1, 1) := by decide +kernel
theorem dX12_risks_13 : decode cX12_risks 13 = .ok (.aload_n 0, 1) := by decide +kernel
theorem dX12_risks_14 : decode cX12_risks 14 = .ok (.aload_n 0, 1) := by decide +kernel
theorem dX12_risks_15 : decode cX12_risks 15 = .ok (.getfield 16, 3) := by decide +kernel
theorem dX12_risks_18 : decode cX12_risks 18 = .ok (.iload_n 2, 1) := by decide +kernel
theorem dX12_risks_19 : decode cX12_risks 19 = .ok (.invokevirtual 328, 3) := by decide +kernel
theorem dX12_risks_22 : decode cX12_risks 22 = .ok (.ifCond .ne 21, 3) := by decide +kernel
theorem dX12_risks_25 : decode cX12_risks 25 = .ok (.aload_n 0, 1) := by decide +kernel
theorem dX12_risks_26 : decode cX12_risks 26 = .ok (.iload_n 2, 1) := by decide +kernel
theorem dX12_risks_27 : decode cX12_risks 27 = .ok (.invokevirtual 331, 3) := by decide +kernel
theorem dX12_risks_30 : decode cX12_risks 30 = .ok (.aload_n 0, 1) := by decide +kernel
theorem dX12_risks_31 : decode cX12_risks 31 = .ok (.invokevirtual 334, 3) := by decide +kernel
theorem dX12_risks_34 : decode cX12_risks 34 = .ok (.if_icmp .le 9, 3) := by decide +kernel
theorem dX12_risks_37 : decode cX12_risks 37 = .ok (.iconst 1, 1) := by decide +kernel
theorem dX12_risks_38 : decode cX12_risks 38 = .ok (.iload_n 2, 1) := by decide +kernel
theorem dX12_risks_39 : decode cX12_risks 39 = .ok (.ishl, 1) := by decide +kernel
theorem dX12_risks_40 : decode cX12_risks 40 = .ok (.goto 4, 3) := by decide +kernel
theorem dX12_risks_43 : decode cX12_risks 43 = .ok (.iconst 0, 1) := by decide +kernel
theorem dX12_risks_44 : decode cX12_risks 44 = .ok (.ior, 1) := by decide +kernel
theorem dX12_risks_45 : decode cX12_risks 45 = .ok (.istore_n 1, 1) := by decide +kernel
theorem dX12_risks_46 : decode cX12_risks 46 = .ok (.iinc 2 1, 3) := by decide +kernel
theorem dX12_risks_49 : decode cX12_risks 49 = .ok (.goto (-45), 3) := by decide +kernel
theorem dX12_risks_52 : decode cX12_risks 52 = .ok (.iload_n 1, 1) := by decide +kernel
theorem dX12_risks_53 : decode cX12_risks 53 = .ok (.ireturn, 1) := by decide +kernel
theorem dX12_stands_0 : decode cX12_stands 0 = .ok (.aload_n 0, 1) := by decide +kernel
theorem dX12_stands_1 : decode cX12_stands 1 = .ok (.iload_n 1, 1) := by decide +kernel
theorem dX12_stands_2 : decode cX12_stands 2 = .ok (.invokevirtual 240, 3) := by decide +kernel
theorem dX12_stands_5 : decode cX12_stands 5 = .ok (.ifCond .ne 5, 3) := by decide +kernel
theorem dX12_stands_8 : decode cX12_stands 8 = .ok (.iconst (-1), 1) := by decide +kernel
theorem dX12_stands_9 : decode cX12_stands 9 = .ok (.ireturn, 1) := by decide +kernel
theorem dX12_stands_10 : decode cX12_stands 10 = .ok (.aload_n 0, 1) := by decide +kernel
theorem dX12_stands_11 : decode cX12_stands 11 = .ok (.getfield 29, 3) := by decide +kernel
theorem dX12_stands_14 : decode cX12_stands 14 = .ok (.iload_n 1, 1) := by decide +kernel
theorem dX12_stands_15 : decode cX12_stands 15 = .ok (.iaload, 1) := by decide +kernel
theorem dX12_stands_16 : decode cX12_stands 16 = .ok (.istore_n 2, 1) := by decide +kernel
theorem dX12_stands_17 : decode cX12_stands 17 = .ok (.bipush (-5), 2) := by decide +kernel
theorem dX12_stands_19 : decode cX12_stands 19 = .ok (.istore_n 3, 1) := by decide +kernel
theorem dX12_stands_20 : decode cX12_stands 20 = .ok (.iconst 0, 1) := by decide +kernel
theorem dX12_stands_21 : decode cX12_stands 21 = .ok (.istore 4, 2) := by decide +kernel
theorem dX12_stands_23 : decode cX12_stands 23 = .ok (.bipush 9, 2) := by decide +kernel
theorem dX12_stands_25 : decode cX12_stands 25 = .ok (.istore 5, 2) := by decide +kernel
theorem dX12_stands_27 : decode cX12_stands 27 = .ok (.iload 5, 2) := by decide +kernel
theorem dX12_stands_29 : decode cX12_stands 29 = .ok (.ifCond .lt 50, 3) := by decide +kernel
theorem dX12_stands_32 : decode cX12_stands 32 = .ok (.aload_n 0, 1) := by decide +kernel
theorem dX12_stands_33 : decode cX12_stands 33 = .ok (.getfield 29, 3) := by decide +kernel
theorem dX12_stands_36 : decode cX12_stands 36 = .ok (.iload_n 1, 1) := by decide +kernel
theorem dX12_stands_37 : decode cX12_stands 37 = .ok (.iload 5, 2) := by decide +kernel
theorem dX12_stands_39 : decode cX12_stands 39 = .ok (.iastore, 1) := by decide +kernel
theorem dX12_stands_40 : decode cX12_stands 40 = .ok (.aload_n 0, 1) := by decide +kernel
theorem dX12_stands_41 : decode cX12_stands 41 = .ok (.iload_n 1, 1) := by decide +kernel
theorem dX12_stands_42 : decode cX12_stands 42 = .ok (.invokevirtual 359, 3) := by decide +kernel
theorem dX12_stands_45 : decode cX12_stands 45 = .ok (.istore 6, 2) := by decide +kernel
theorem dX12_stands_47 : decode cX12_stands 47 = .ok (.iload 6, 2) := by decide +kernel
theorem dX12_stands_49 : decode cX12_stands 49 = .ok (.ifCond .lt 24, 3) := by decide +kernel
theorem dX12_stands_52 : decode cX12_stands 52 = .ok (.iload_n 3, 1) := by decide +kernel
theorem dX12_stands_53 : decode cX12_stands 53 = .ok (.ifCond .lt 13, 3) := by decide +kernel
theorem dX12_stands_56 : decode cX12_stands 56 = .ok (.iload 6, 2) := by decide +kernel
theorem dX12_stands_58 : decode cX12_stands 58 = .ok (.iload 4, 2) := by decide +kernel
theorem dX12_stands_60 : decode cX12_stands 60 = .ok (.if_icmp .lt 6, 3) := by decide +kernel
theorem dX12_stands_63 : decode cX12_stands 63 = .ok (.goto 10, 3) := by decide +kernel
theorem dX12_stands_66 : decode cX12_stands 66 = .ok (.iload 5, 2) := by decide +kernel
theorem dX12_stands_68 : decode cX12_stands 68 = .ok (.istore_n 3, 1) := by decide +kernel
theorem dX12_stands_69 : decode cX12_stands 69 = .ok (.iload 6, 2) := by decide +kernel
theorem dX12_stands_71 : decode cX12_stands 71 = .ok (.istore 4, 2) := by decide +kernel
theorem dX12_stands_73 : decode cX12_stands 73 = .ok (.iinc 5 (-1), 3) := by decide +kernel
theorem dX12_stands_76 : decode cX12_stands 76 = .ok (.goto (-49), 3) := by decide +kernel
theorem dX12_stands_79 : decode cX12_stands 79 = .ok (.aload_n 0, 1) := by decide +kernel
theorem dX12_stands_80 : decode cX12_stands 80 = .ok (.getfield 29, 3) := by decide +kernel
theorem dX12_stands_83 : decode cX12_stands 83 = .ok (.iload_n 1, 1) := by decide +kernel
theorem dX12_stands_84 : decode cX12_stands 84 = .ok (.iload_n 2, 1) := by decide +kernel
theorem dX12_stands_85 : decode cX12_stands 85 = .ok (.iastore, 1) := by decide +kernel
theorem dX12_stands_86 : decode cX12_stands 86 = .ok (.iload_n 3, 1) := by decide +kernel
theorem dX12_stands_87 : decode cX12_stands 87 = .ok (.ireturn, 1) := by decide +kernel
theorem dX12_keepCounts_0 : decode cX12_keepCounts 0 = .ok (.iconst 0, 1) := by decide +kernel
theorem dX12_keepCounts_1 : decode cX12_keepCounts 1 = .ok (.istore_n 1, 1) := by decide +kernel
theorem dX12_keepCounts_2 : decode cX12_keepCounts 2 = .ok (.iload_n 1, 1) := by decide +kernel
theorem dX12_keepCounts_3 : decode cX12_keepCounts 3 = .ok (.iconst 4, 1) := by decide +kernel
theorem dX12_keepCounts_4 : decode cX12_keepCounts 4 = .ok (.if_icmp .ge 21, 3) := by decide +kernel
theorem dX12_keepCounts_7 : decode cX12_keepCounts 7 = .ok (.aload_n 0, 1) := by decide +kernel
theorem dX12_keepCounts_8 : decode cX12_keepCounts 8 = .ok (.getfield 132, 3) := by decide +kernel
theorem dX12_keepCounts_11 : decode cX12_keepCounts 11 = .ok (.iload_n 1, 1) := by decide +kernel
theorem dX12_keepCounts_12 : decode cX12_keepCounts 12 = .ok (.aload_n 0, 1) := by decide +kernel
theorem dX12_keepCounts_13 : decode cX12_keepCounts 13 = .ok (.getfield 38, 3) := by decide +kernel
theorem dX12_keepCounts_16 : decode cX12_keepCounts 16 = .ok (.iload_n 1, 1) := by decide +kernel
theorem dX12_keepCounts_17 : decode cX12_keepCounts 17 = .ok (.iaload, 1) := by decide +kernel
theorem dX12_keepCounts_18 : decode cX12_keepCounts 18 = .ok (.iastore, 1) := by decide +kernel
theorem dX12_keepCounts_19 : decode cX12_keepCounts 19 = .ok (.iinc 1 1, 3) := by decide +kernel
theorem dX12_keepCounts_22 : decode cX12_keepCounts 22 = .ok (.goto (-20), 3) := by decide +kernel
theorem dX12_keepCounts_25 : decode cX12_keepCounts 25 = .ok (.return_, 1) := by decide +kernel
theorem dX12_putCounts_0 : decode cX12_putCounts 0 = .ok (.iconst 0, 1) := by decide +kernel
theorem dX12_putCounts_1 : decode cX12_putCounts 1 = .ok (.istore_n 1, 1) := by decide +kernel
theorem dX12_putCounts_2 : decode cX12_putCounts 2 = .ok (.iload_n 1, 1) := by decide +kernel
theorem dX12_putCounts_3 : decode cX12_putCounts 3 = .ok (.iconst 4, 1) := by decide +kernel
theorem dX12_putCounts_4 : decode cX12_putCounts 4 = .ok (.if_icmp .ge 21, 3) := by decide +kernel
theorem dX12_putCounts_7 : decode cX12_putCounts 7 = .ok (.aload_n 0, 1) := by decide +kernel
theorem dX12_putCounts_8 : decode cX12_putCounts 8 = .ok (.getfield 38, 3) := by decide +kernel
theorem dX12_putCounts_11 : decode cX12_putCounts 11 = .ok (.iload_n 1, 1) := by decide +kernel
theorem dX12_putCounts_12 : decode cX12_putCounts 12 = .ok (.aload_n 0, 1) := by decide +kernel
theorem dX12_putCounts_13 : decode cX12_putCounts 13 = .ok (.getfield 132, 3) := by decide +kernel
theorem dX12_putCounts_16 : decode cX12_putCounts 16 = .ok (.iload_n 1, 1) := by decide +kernel
theorem dX12_putCounts_17 : decode cX12_putCounts 17 = .ok (.iaload, 1) := by decide +kernel
theorem dX12_putCounts_18 : decode cX12_putCounts 18 = .ok (.iastore, 1) := by decide +kernel
theorem dX12_putCounts_19 : decode cX12_putCounts 19 = .ok (.iinc 1 1, 3) := by decide +kernel
theorem dX12_putCounts_22 : decode cX12_putCounts 22 = .ok (.goto (-20), 3) := by decide +kernel
theorem dX12_putCounts_25 : decode cX12_putCounts 25 = .ok (.return_, 1) := by decide +kernel
theorem dX12_wallBehind_0 : decode cX12_wallBehind 0 = .ok (.aload_n 0, 1) := by decide +kernel
theorem dX12_wallBehind_1 : decode cX12_wallBehind 1 = .ok (.iload_n 1, 1) := by decide +kernel
theorem dX12_wallBehind_2 : decode cX12_wallBehind 2 = .ok (.invokevirtual 353, 3) := by decide +kernel
theorem dX12_wallBehind_5 : decode cX12_wallBehind 5 = .ok (.aload_n 0, 1) := by decide +kernel
theorem dX12_wallBehind_6 : decode cX12_wallBehind 6 = .ok (.aload_n 0, 1) := by decide +kernel
theorem dX12_wallBehind_7 : decode cX12_wallBehind 7 = .ok (.getfield 126, 3) := by decide +kernel
theorem dX12_wallBehind_10 : decode cX12_wallBehind 10 = .ok (.invokevirtual 356, 3) := by decide +kernel
theorem dX12_wallBehind_13 : decode cX12_wallBehind 13 = .ok (.ireturn, 1) := by decide +kernel
theorem dX12_slow_0 : decode cX12_slow 0 = .ok (.aload_n 0, 1) := by decide +kernel
theorem dX12_slow_1 : decode cX12_slow 1 = .ok (.iload_n 2, 1) := by decide +kernel
theorem dX12_slow_2 : decode cX12_slow 2 = .ok (.iconst 0, 1) := by decide +kernel
theorem dX12_slow_3 : decode cX12_slow 3 = .ok (.iconst 1, 1) := by decide +kernel
theorem dX12_slow_4 : decode cX12_slow 4 = .ok (.invokevirtual 236, 3) := by decide +kernel
theorem dX12_slow_7 : decode cX12_slow 7 = .ok (.ifCond .ne 5, 3) := by decide +kernel
theorem dX12_slow_10 : decode cX12_slow 10 = .ok (.iconst (-1), 1) := by decide +kernel
theorem dX12_slow_11 : decode cX12_slow 11 = .ok (.ireturn, 1) := by decide +kernel
theorem dX12_slow_12 : decode cX12_slow 12 = .ok (.aload_n 0, 1) := by decide +kernel
theorem dX12_slow_13 : decode cX12_slow 13 = .ok (.iload_n 1, 1) := by decide +kernel
theorem dX12_slow_14 : decode cX12_slow 14 = .ok (.iconst 1, 1) := by decide +kernel
theorem dX12_slow_15 : decode cX12_slow 15 = .ok (.bipush 20, 2) := by decide +kernel
theorem dX12_slow_17 : decode cX12_slow 17 = .ok (.invokevirtual 236, 3) := by decide +kernel
theorem dX12_slow_20 : decode cX12_slow 20 = .ok (.ifCond .ne 6, 3) := by decide +kernel
theorem dX12_slow_23 : decode cX12_slow 23 = .ok (.bipush (-2), 2) := by decide +kernel
theorem dX12_slow_25 : decode cX12_slow 25 = .ok (.ireturn, 1) := by decide +kernel
theorem dX12_slow_26 : decode cX12_slow 26 = .ok (.aload_n 0, 1) := by decide +kernel
theorem dX12_slow_27 : decode cX12_slow 27 = .ok (.invokevirtual 362, 3) := by decide +kernel
theorem dX12_slow_30 : decode cX12_slow 30 = .ok (.iconst 0, 1) := by decide +kernel
theorem dX12_slow_31 : decode cX12_slow 31 = .ok (.istore_n 3, 1) := by decide +kernel
theorem dX12_slow_32 : decode cX12_slow 32 = .ok (.bipush 99, 2) := by decide +kernel
theorem dX12_slow_34 : decode cX12_slow 34 = .ok (.istore 4, 2) := by decide +kernel
theorem dX12_slow_36 : decode cX12_slow 36 = .ok (.bipush 9, 2) := by decide +kernel
theorem dX12_slow_38 : decode cX12_slow 38 = .ok (.istore 5, 2) := by decide +kernel
theorem dX12_slow_40 : decode cX12_slow 40 = .ok (.iload 5, 2) := by decide +kernel
theorem dX12_slow_42 : decode cX12_slow 42 = .ok (.ifCond .le 57, 3) := by decide +kernel
theorem dX12_slow_45 : decode cX12_slow 45 = .ok (.iconst 0, 1) := by decide +kernel
theorem dX12_slow_46 : decode cX12_slow 46 = .ok (.istore 6, 2) := by decide +kernel
theorem dX12_slow_48 : decode cX12_slow 48 = .ok (.iload 6, 2) := by decide +kernel
theorem dX12_slow_50 : decode cX12_slow 50 = .ok (.iconst 4, 1) := by decide +kernel
theorem dX12_slow_51 : decode cX12_slow 51 = .ok (.if_icmp .ge 18, 3) := by decide +kernel
theorem dX12_slow_54 : decode cX12_slow 54 = .ok (.aload_n 0, 1) := by decide +kernel
theorem dX12_slow_55 : decode cX12_slow 55 = .ok (.getfield 38, 3) := by decide +kernel
theorem dX12_slow_58 : decode cX12_slow 58 = .ok (.iload 6, 2) := by decide +kernel
theorem dX12_slow_60 : decode cX12_slow 60 = .ok (.iload 5, 2) := by decide +kernel
theorem dX12_slow_62 : decode cX12_slow 62 = .ok (.iastore, 1) := by decide +kernel
theorem dX12_slow_63 : decode cX12_slow 63 = .ok (.iinc 6 1, 3) := by decide +kernel
theorem dX12_slow_66 : decode cX12_slow 66 = .ok (.goto (-18), 3) := by decide +kernel
theorem dX12_slow_69 : decode cX12_slow 69 = .ok (.aload_n 0, 1) := by decide +kernel
theorem dX12_slow_70 : decode cX12_slow 70 = .ok (.iload_n 1, 1) := by decide +kernel
theorem dX12_slow_71 : decode cX12_slow 71 = .ok (.invokevirtual 365, 3) := by decide +kernel
theorem dX12_slow_74 : decode cX12_slow 74 = .ok (.istore 6, 2) := by decide +kernel
theorem dX12_slow_76 : decode cX12_slow 76 = .ok (.iload 6, 2) := by decide +kernel
theorem dX12_slow_78 : decode cX12_slow 78 = .ok (.iload 4, 2) := by decide +kernel
theorem dX12_slow_80 : decode cX12_slow 80 = .ok (.if_icmp .lt 6, 3) := by decide +kernel
theorem dX12_slow_83 : decode cX12_slow 83 = .ok (.goto 10, 3) := by decide +kernel
theorem dX12_slow_86 : decode cX12_slow 86 = .ok (.iload 5, 2) := by decide +kernel
theorem dX12_slow_88 : decode cX12_slow 88 = .ok (.istore_n 3, 1) := by decide +kernel
theorem dX12_slow_89 : decode cX12_slow 89 = .ok (.iload 6, 2) := by decide +kernel
theorem dX12_slow_91 : decode cX12_slow 91 = .ok (.istore 4, 2) := by decide +kernel
theorem dX12_slow_93 : decode cX12_slow 93 = .ok (.iinc 5 (-1), 3) := by decide +kernel
theorem dX12_slow_96 : decode cX12_slow 96 = .ok (.goto (-56), 3) := by decide +kernel
theorem dX12_slow_99 : decode cX12_slow 99 = .ok (.aload_n 0, 1) := by decide +kernel
theorem dX12_slow_100 : decode cX12_slow 100 = .ok (.invokevirtual 368, 3) := by decide +kernel
theorem dX12_slow_103 : decode cX12_slow 103 = .ok (.iload_n 2, 1) := by decide +kernel
theorem dX12_slow_104 : decode cX12_slow 104 = .ok (.ifCond .ne 7, 3) := by decide +kernel
theorem dX12_slow_107 : decode cX12_slow 107 = .ok (.iload_n 3, 1) := by decide +kernel
theorem dX12_slow_108 : decode cX12_slow 108 = .ok (.goto 5, 3) := by decide +kernel
theorem dX12_slow_111 : decode cX12_slow 111 = .ok (.iload 4, 2) := by decide +kernel
theorem dX12_slow_113 : decode cX12_slow 113 = .ok (.ireturn, 1) := by decide +kernel
theorem dX12_order_0 : decode cX12_order 0 = .ok (.aload_n 0, 1) := by decide +kernel
theorem dX12_order_1 : decode cX12_order 1 = .ok (.iload_n 2, 1) := by decide +kernel
theorem dX12_order_2 : decode cX12_order 2 = .ok (.iconst (-1), 1) := by decide +kernel
theorem dX12_order_3 : decode cX12_order 3 = .ok (.iconst 3, 1) := by decide +kernel
theorem dX12_order_4 : decode cX12_order 4 = .ok (.invokevirtual 236, 3) := by decide +kernel
theorem dX12_order_7 : decode cX12_order 7 = .ok (.ifCond .ne 5, 3) := by decide +kernel
theorem dX12_order_10 : decode cX12_order 10 = .ok (.iconst (-1), 1) := by decide +kernel
theorem dX12_order_11 : decode cX12_order 11 = .ok (.ireturn, 1) := by decide +kernel
theorem dX12_order_12 : decode cX12_order 12 = .ok (.aload_n 0, 1) := by decide +kernel
theorem dX12_order_13 : decode cX12_order 13 = .ok (.iload_n 1, 1) := by decide +kernel
theorem dX12_order_14 : decode cX12_order 14 = .ok (.iconst 1, 1) := by decide +kernel
theorem dX12_order_15 : decode cX12_order 15 = .ok (.bipush 20, 2) := by decide +kernel
theorem dX12_order_17 : decode cX12_order 17 = .ok (.invokevirtual 236, 3) := by decide +kernel
theorem dX12_order_20 : decode cX12_order 20 = .ok (.ifCond .ne 6, 3) := by decide +kernel
theorem dX12_order_23 : decode cX12_order 23 = .ok (.bipush (-2), 2) := by decide +kernel
theorem dX12_order_25 : decode cX12_order 25 = .ok (.ireturn, 1) := by decide +kernel
theorem dX12_order_26 : decode cX12_order 26 = .ok (.aload_n 0, 1) := by decide +kernel
theorem dX12_order_27 : decode cX12_order 27 = .ok (.invokevirtual 362, 3) := by decide +kernel
theorem dX12_order_30 : decode cX12_order 30 = .ok (.bipush 99, 2) := by decide +kernel
theorem dX12_order_32 : decode cX12_order 32 = .ok (.istore_n 3, 1) := by decide +kernel
theorem dX12_order_33 : decode cX12_order 33 = .ok (.iconst 0, 1) := by decide +kernel
theorem dX12_order_34 : decode cX12_order 34 = .ok (.istore 4, 2) := by decide +kernel
theorem dX12_order_36 : decode cX12_order 36 = .ok (.iload 4, 2) := by decide +kernel
theorem dX12_order_38 : decode cX12_order 38 = .ok (.sipush 256, 3) := by decide +kernel
theorem dX12_order_41 : decode cX12_order 41 = .ok (.if_icmp .ge 165, 3) := by decide +kernel
theorem dX12_order_44 : decode cX12_order 44 = .ok (.iload 4, 2) := by decide +kernel
theorem dX12_order_46 : decode cX12_order 46 = .ok (.bipush 6, 2) := by decide +kernel
theorem dX12_order_48 : decode cX12_order 48 = .ok (.ishr, 1) := by decide +kernel
theorem dX12_order_49 : decode cX12_order 49 = .ok (.istore 5, 2) := by decide +kernel
theorem dX12_order_51 : decode cX12_order 51 = .ok (.iload 4, 2) := by decide +kernel
theorem dX12_order_53 : decode cX12_order 53 = .ok (.iconst 4, 1) := by decide +kernel
theorem dX12_order_54 : decode cX12_order 54 = .ok (.ishr, 1) := by decide +kernel
theorem dX12_order_55 : decode cX12_order 55 = .ok (.iconst 3, 1) := by decide +kernel
theorem dX12_order_56 : decode cX12_order 56 = .ok (.iand, 1) := by decide +kernel
theorem dX12_order_57 : decode cX12_order 57 = .ok (.istore 6, 2) := by decide +kernel
theorem dX12_order_59 : decode cX12_order 59 = .ok (.iload 4, 2) := by decide +kernel
theorem dX12_order_61 : decode cX12_order 61 = .ok (.iconst 2, 1) := by decide +kernel
theorem dX12_order_62 : decode cX12_order 62 = .ok (.ishr, 1) := by decide +kernel
theorem dX12_order_63 : decode cX12_order 63 = .ok (.iconst 3, 1) := by decide +kernel
theorem dX12_order_64 : decode cX12_order 64 = .ok (.iand, 1) := by decide +kernel
theorem dX12_order_65 : decode cX12_order 65 = .ok (.istore 7, 2) := by decide +kernel
theorem dX12_order_67 : decode cX12_order 67 = .ok (.iload 4, 2) := by decide +kernel
theorem dX12_order_69 : decode cX12_order 69 = .ok (.iconst 3, 1) := by decide +kernel
theorem dX12_order_70 : decode cX12_order 70 = .ok (.iand, 1) := by decide +kernel
theorem dX12_order_71 : decode cX12_order 71 = .ok (.istore 8, 2) := by decide +kernel
theorem dX12_order_73 : decode cX12_order 73 = .ok (.iconst 1, 1) := by decide +kernel
theorem dX12_order_74 : decode cX12_order 74 = .ok (.iload 5, 2) := by decide +kernel
theorem dX12_order_76 : decode cX12_order 76 = .ok (.ishl, 1) := by decide +kernel
theorem dX12_order_77 : decode cX12_order 77 = .ok (.iconst 1, 1) := by decide +kernel
theorem dX12_order_78 : decode cX12_order 78 = .ok (.iload 6, 2) := by decide +kernel
theorem dX12_order_80 : decode cX12_order 80 = .ok (.ishl, 1) := by decide +kernel
theorem dX12_order_81 : decode cX12_order 81 = .ok (.ior, 1) := by decide +kernel
theorem dX12_order_82 : decode cX12_order 82 = .ok (.iconst 1, 1) := by decide +kernel
theorem dX12_order_83 : decode cX12_order 83 = .ok (.iload 7, 2) := by decide +kernel
theorem dX12_order_85 : decode cX12_order 85 = .ok (.ishl, 1) := by decide +kernel
theorem dX12_order_86 : decode cX12_order 86 = .ok (.ior, 1) := by decide +kernel
theorem dX12_order_87 : decode cX12_order 87 = .ok (.iconst 1, 1) := by decide +kernel
theorem dX12_order_88 : decode cX12_order 88 = .ok (.iload 8, 2) := by decide +kernel
theorem dX12_order_90 : decode cX12_order 90 = .ok (.ishl, 1) := by decide +kernel
theorem dX12_order_91 : decode cX12_order 91 = .ok (.ior, 1) := by decide +kernel
theorem dX12_order_92 : decode cX12_order 92 = .ok (.bipush 15, 2) := by decide +kernel
theorem dX12_order_94 : decode cX12_order 94 = .ok (.if_icmp .eq 6, 3) := by decide +kernel
theorem dX12_order_97 : decode cX12_order 97 = .ok (.goto 103, 3) := by decide +kernel
theorem dX12_order_100 : decode cX12_order 100 = .ok (.aload_n 0, 1) := by decide +kernel
theorem dX12_order_101 : decode cX12_order 101 = .ok (.getfield 38, 3) := by decide +kernel
theorem dX12_order_104 : decode cX12_order 104 = .ok (.iconst 0, 1) := by decide +kernel
theorem dX12_order_105 : decode cX12_order 105 = .ok (.aload_n 0, 1) := by decide +kernel
theorem dX12_order_106 : decode cX12_order 106 = .ok (.getfield 132, 3) := by decide +kernel
theorem dX12_order_109 : decode cX12_order 109 = .ok (.iload 5, 2) := by decide +kernel
theorem dX12_order_111 : decode cX12_order 111 = .ok (.iaload, 1) := by decide +kernel
theorem dX12_order_112 : decode cX12_order 112 = .ok (.iastore, 1) := by decide +kernel
theorem dX12_order_113 : decode cX12_order 113 = .ok (.aload_n 0, 1) := by decide +kernel
theorem dX12_order_114 : decode cX12_order 114 = .ok (.getfield 38, 3) := by decide +kernel
theorem dX12_order_117 : decode cX12_order 117 = .ok (.iconst 1, 1) := by decide +kernel
theorem dX12_order_118 : decode cX12_order 118 = .ok (.aload_n 0, 1) := by decide +kernel
theorem dX12_order_119 : decode cX12_order 119 = .ok (.getfield 132, 3) := by decide +kernel
theorem dX12_order_122 : decode cX12_order 122 = .ok (.iload 6, 2) := by decide +kernel
theorem dX12_order_124 : decode cX12_order 124 = .ok (.iaload, 1) := by decide +kernel
theorem dX12_order_125 : decode cX12_order 125 = .ok (.iastore, 1) := by decide +kernel
theorem dX12_order_126 : decode cX12_order 126 = .ok (.aload_n 0, 1) := by decide +kernel
theorem dX12_order_127 : decode cX12_order 127 = .ok (.getfield 38, 3) := by decide +kernel
theorem dX12_order_130 : decode cX12_order 130 = .ok (.iconst 2, 1) := by decide +kernel
theorem dX12_order_131 : decode cX12_order 131 = .ok (.aload_n 0, 1) := by decide +kernel
theorem dX12_order_132 : decode cX12_order 132 = .ok (.getfield 132, 3) := by decide +kernel
theorem dX12_order_135 : decode cX12_order 135 = .ok (.iload 7, 2) := by decide +kernel
theorem dX12_order_137 : decode cX12_order 137 = .ok (.iaload, 1) := by decide +kernel
theorem dX12_order_138 : decode cX12_order 138 = .ok (.iastore, 1) := by decide +kernel
theorem dX12_order_139 : decode cX12_order 139 = .ok (.aload_n 0, 1) := by decide +kernel
theorem dX12_order_140 : decode cX12_order 140 = .ok (.getfield 38, 3) := by decide +kernel
theorem dX12_order_143 : decode cX12_order 143 = .ok (.iconst 3, 1) := by decide +kernel
theorem dX12_order_144 : decode cX12_order 144 = .ok (.aload_n 0, 1) := by decide +kernel
theorem dX12_order_145 : decode cX12_order 145 = .ok (.getfield 132, 3) := by decide +kernel
theorem dX12_order_148 : decode cX12_order 148 = .ok (.iload 8, 2) := by decide +kernel
theorem dX12_order_150 : decode cX12_order 150 = .ok (.iaload, 1) := by decide +kernel
theorem dX12_order_151 : decode cX12_order 151 = .ok (.iastore, 1) := by decide +kernel
theorem dX12_order_152 : decode cX12_order 152 = .ok (.aload_n 0, 1) := by decide +kernel
theorem dX12_order_153 : decode cX12_order 153 = .ok (.iload_n 1, 1) := by decide +kernel
theorem dX12_order_154 : decode cX12_order 154 = .ok (.invokevirtual 365, 3) := by decide +kernel
theorem dX12_order_157 : decode cX12_order 157 = .ok (.istore 9, 2) := by decide +kernel
theorem dX12_order_159 : decode cX12_order 159 = .ok (.iload 9, 2) := by decide +kernel
theorem dX12_order_161 : decode cX12_order 161 = .ok (.iload_n 3, 1) := by decide +kernel
theorem dX12_order_162 : decode cX12_order 162 = .ok (.if_icmp .lt 6, 3) := by decide +kernel
theorem dX12_order_165 : decode cX12_order 165 = .ok (.goto 35, 3) := by decide +kernel
theorem dX12_order_168 : decode cX12_order 168 = .ok (.iload 9, 2) := by decide +kernel
theorem dX12_order_170 : decode cX12_order 170 = .ok (.istore_n 3, 1) := by decide +kernel
theorem dX12_order_171 : decode cX12_order 171 = .ok (.iconst 0, 1) := by decide +kernel
theorem dX12_order_172 : decode cX12_order 172 = .ok (.istore 10, 2) := by decide +kernel
theorem dX12_order_174 : decode cX12_order 174 = .ok (.iload 10, 2) := by decide +kernel
theorem dX12_order_176 : decode cX12_order 176 = .ok (.iconst 4, 1) := by decide +kernel
theorem dX12_order_177 : decode cX12_order 177 = .ok (.if_icmp .ge 23, 3) := by decide +kernel
theorem dX12_order_180 : decode cX12_order 180 = .ok (.aload_n 0, 1) := by decide +kernel
theorem dX12_order_181 : decode cX12_order 181 = .ok (.getfield 135, 3) := by decide +kernel
theorem dX12_order_184 : decode cX12_order 184 = .ok (.iload 10, 2) := by decide +kernel
theorem dX12_order_186 : decode cX12_order 186 = .ok (.aload_n 0, 1) := by decide +kernel
theorem dX12_order_187 : decode cX12_order 187 = .ok (.getfield 38, 3) := by decide +kernel
theorem dX12_order_190 : decode cX12_order 190 = .ok (.iload 10, 2) := by decide +kernel
theorem dX12_order_192 : decode cX12_order 192 = .ok (.iaload, 1) := by decide +kernel
theorem dX12_order_193 : decode cX12_order 193 = .ok (.iastore, 1) := by decide +kernel
theorem dX12_order_194 : decode cX12_order 194 = .ok (.iinc 10 1, 3) := by decide +kernel
theorem dX12_order_197 : decode cX12_order 197 = .ok (.goto (-23), 3) := by decide +kernel
theorem dX12_order_200 : decode cX12_order 200 = .ok (.iinc 4 1, 3) := by decide +kernel
theorem dX12_order_203 : decode cX12_order 203 = .ok (.goto (-167), 3) := by decide +kernel
theorem dX12_order_206 : decode cX12_order 206 = .ok (.aload_n 0, 1) := by decide +kernel
theorem dX12_order_207 : decode cX12_order 207 = .ok (.invokevirtual 368, 3) := by decide +kernel
theorem dX12_order_210 : decode cX12_order 210 = .ok (.iload_n 2, 1) := by decide +kernel
theorem dX12_order_211 : decode cX12_order 211 = .ok (.ifCond .ge 7, 3) := by decide +kernel
theorem dX12_order_214 : decode cX12_order 214 = .ok (.iload_n 3, 1) := by decide +kernel
theorem dX12_order_215 : decode cX12_order 215 = .ok (.goto 9, 3) := by decide +kernel
theorem dX12_order_218 : decode cX12_order 218 = .ok (.aload_n 0, 1) := by decide +kernel
theorem dX12_order_219 : decode cX12_order 219 = .ok (.getfield 135, 3) := by decide +kernel
theorem dX12_order_222 : decode cX12_order 222 = .ok (.iload_n 2, 1) := by decide +kernel
theorem dX12_order_223 : decode cX12_order 223 = .ok (.iaload, 1) := by decide +kernel
theorem dX12_order_224 : decode cX12_order 224 = .ok (.ireturn, 1) := by decide +kernel
theorem dX12_look_0 : decode cX12_look 0 = .ok (.aload_n 0, 1) := by decide +kernel
theorem dX12_look_1 : decode cX12_look 1 = .ok (.iload_n 1, 1) := by decide +kernel
theorem dX12_look_2 : decode cX12_look 2 = .ok (.iconst 1, 1) := by decide +kernel
theorem dX12_look_3 : decode cX12_look 3 = .ok (.bipush 20, 2) := by decide +kernel
theorem dX12_look_5 : decode cX12_look 5 = .ok (.invokevirtual 236, 3) := by decide +kernel
theorem dX12_look_8 : decode cX12_look 8 = .ok (.ifCond .ne 6, 3) := by decide +kernel
theorem dX12_look_11 : decode cX12_look 11 = .ok (.bipush (-2), 2) := by decide +kernel
theorem dX12_look_13 : decode cX12_look 13 = .ok (.ireturn, 1) := by decide +kernel
theorem dX12_look_14 : decode cX12_look 14 = .ok (.bipush (-5), 2) := by decide +kernel
theorem dX12_look_16 : decode cX12_look 16 = .ok (.istore_n 2, 1) := by decide +kernel
theorem dX12_look_17 : decode cX12_look 17 = .ok (.iconst 0, 1) := by decide +kernel
theorem dX12_look_18 : decode cX12_look 18 = .ok (.istore_n 3, 1) := by decide +kernel
theorem dX12_look_19 : decode cX12_look 19 = .ok (.iload_n 3, 1) := by decide +kernel
theorem dX12_look_20 : decode cX12_look 20 = .ok (.bipush 10, 2) := by decide +kernel
theorem dX12_look_22 : decode cX12_look 22 = .ok (.if_icmp .ge 41, 3) := by decide +kernel
theorem dX12_look_25 : decode cX12_look 25 = .ok (.iload_n 2, 1) := by decide +kernel
theorem dX12_look_26 : decode cX12_look 26 = .ok (.ifCond .ge 37, 3) := by decide +kernel
theorem dX12_look_29 : decode cX12_look 29 = .ok (.aload_n 0, 1) := by decide +kernel
theorem dX12_look_30 : decode cX12_look 30 = .ok (.iload_n 3, 1) := by decide +kernel
theorem dX12_look_31 : decode cX12_look 31 = .ok (.putfield 92, 3) := by decide +kernel
theorem dX12_look_34 : decode cX12_look 34 = .ok (.aload_n 0, 1) := by decide +kernel
theorem dX12_look_35 : decode cX12_look 35 = .ok (.iload_n 1, 1) := by decide +kernel
theorem dX12_look_36 : decode cX12_look 36 = .ok (.invokevirtual 365, 3) := by decide +kernel
theorem dX12_look_39 : decode cX12_look 39 = .ok (.aload_n 0, 1) := by decide +kernel
theorem dX12_look_40 : decode cX12_look 40 = .ok (.aload_n 0, 1) := by decide +kernel
theorem dX12_look_41 : decode cX12_look 41 = .ok (.getfield 16, 3) := by decide +kernel
theorem dX12_look_44 : decode cX12_look 44 = .ok (.invokevirtual 356, 3) := by decide +kernel
theorem dX12_look_47 : decode cX12_look 47 = .ok (.if_icmp .ne 7, 3) := by decide +kernel
theorem dX12_look_50 : decode cX12_look 50 = .ok (.iload_n 3, 1) := by decide +kernel
theorem dX12_look_51 : decode cX12_look 51 = .ok (.goto 5, 3) := by decide +kernel
theorem dX12_look_54 : decode cX12_look 54 = .ok (.bipush (-5), 2) := by decide +kernel
theorem dX12_look_56 : decode cX12_look 56 = .ok (.istore_n 2, 1) := by decide +kernel
theorem dX12_look_57 : decode cX12_look 57 = .ok (.iinc 3 1, 3) := by decide +kernel
theorem dX12_look_60 : decode cX12_look 60 = .ok (.goto (-41), 3) := by decide +kernel
theorem dX12_look_63 : decode cX12_look 63 = .ok (.aload_n 0, 1) := by decide +kernel
theorem dX12_look_64 : decode cX12_look 64 = .ok (.iconst (-1), 1) := by decide +kernel
theorem dX12_look_65 : decode cX12_look 65 = .ok (.putfield 92, 3) := by decide +kernel
theorem dX12_look_68 : decode cX12_look 68 = .ok (.iload_n 2, 1) := by decide +kernel
theorem dX12_look_69 : decode cX12_look 69 = .ok (.ireturn, 1) := by decide +kernel
theorem dX12_needs_0 : decode cX12_needs 0 = .ok (.aload_n 0, 1) := by decide +kernel
theorem dX12_needs_1 : decode cX12_needs 1 = .ok (.iload_n 1, 1) := by decide +kernel
theorem dX12_needs_2 : decode cX12_needs 2 = .ok (.invokevirtual 240, 3) := by decide +kernel
theorem dX12_needs_5 : decode cX12_needs 5 = .ok (.ifCond .ne 5, 3) := by decide +kernel
theorem dX12_needs_8 : decode cX12_needs 8 = .ok (.iconst (-1), 1) := by decide +kernel
theorem dX12_needs_9 : decode cX12_needs 9 = .ok (.ireturn, 1) := by decide +kernel
theorem dX12_needs_10 : decode cX12_needs 10 = .ok (.aload_n 0, 1) := by decide +kernel
theorem dX12_needs_11 : decode cX12_needs 11 = .ok (.iload_n 2, 1) := by decide +kernel
theorem dX12_needs_12 : decode cX12_needs 12 = .ok (.iconst 1, 1) := by decide +kernel
theorem dX12_needs_13 : decode cX12_needs 13 = .ok (.bipush 8, 2) := by decide +kernel
theorem dX12_needs_15 : decode cX12_needs 15 = .ok (.invokevirtual 236, 3) := by decide +kernel
theorem dX12_needs_18 : decode cX12_needs 18 = .ok (.ifCond .ne 6, 3) := by decide +kernel
theorem dX12_needs_21 : decode cX12_needs 21 = .ok (.bipush (-2), 2) := by decide +kernel
theorem dX12_needs_23 : decode cX12_needs 23 = .ok (.ireturn, 1) := by decide +kernel
theorem dX12_needs_24 : decode cX12_needs 24 = .ok (.aload_n 0, 1) := by decide +kernel
theorem dX12_needs_25 : decode cX12_needs 25 = .ok (.getfield 26, 3) := by decide +kernel
theorem dX12_needs_28 : decode cX12_needs 28 = .ok (.iload_n 1, 1) := by decide +kernel
theorem dX12_needs_29 : decode cX12_needs 29 = .ok (.iaload, 1) := by decide +kernel
theorem dX12_needs_30 : decode cX12_needs 30 = .ok (.istore_n 3, 1) := by decide +kernel
theorem dX12_needs_31 : decode cX12_needs 31 = .ok (.aload_n 0, 1) := by decide +kernel
theorem dX12_needs_32 : decode cX12_needs 32 = .ok (.getfield 16, 3) := by decide +kernel
theorem dX12_needs_35 : decode cX12_needs 35 = .ok (.istore 4, 2) := by decide +kernel
theorem dX12_needs_37 : decode cX12_needs 37 = .ok (.bipush (-5), 2) := by decide +kernel
theorem dX12_needs_39 : decode cX12_needs 39 = .ok (.istore 5, 2) := by decide +kernel
theorem dX12_needs_41 : decode cX12_needs 41 = .ok (.aload_n 0, 1) := by decide +kernel
theorem dX12_needs_42 : decode cX12_needs 42 = .ok (.dup, 1) := by decide +kernel
theorem dX12_needs_43 : decode cX12_needs 43 = .ok (.getfield 16, 3) := by decide +kernel
theorem dX12_needs_46 : decode cX12_needs 46 = .ok (.iconst 1, 1) := by decide +kernel
theorem dX12_needs_47 : decode cX12_needs 47 = .ok (.iload_n 1, 1) := by decide +kernel
theorem dX12_needs_48 : decode cX12_needs 48 = .ok (.ishl, 1) := by decide +kernel
theorem dX12_needs_49 : decode cX12_needs 49 = .ok (.iconst (-1), 1) := by decide +kernel
theorem dX12_needs_50 : decode cX12_needs 50 = .ok (.ixor, 1) := by decide +kernel
theorem dX12_needs_51 : decode cX12_needs 51 = .ok (.iand, 1) := by decide +kernel
theorem dX12_needs_52 : decode cX12_needs 52 = .ok (.putfield 16, 3) := by decide +kernel
theorem dX12_needs_55 : decode cX12_needs 55 = .ok (.iconst 0, 1) := by decide +kernel
theorem dX12_needs_56 : decode cX12_needs 56 = .ok (.istore 6, 2) := by decide +kernel
theorem dX12_needs_58 : decode cX12_needs 58 = .ok (.iload 6, 2) := by decide +kernel
theorem dX12_needs_60 : decode cX12_needs 60 = .ok (.aload_n 0, 1) := by decide +kernel
theorem dX12_needs_61 : decode cX12_needs 61 = .ok (.invokevirtual 244, 3) := by decide +kernel
theorem dX12_needs_64 : decode cX12_needs 64 = .ok (.if_icmp .ge 48, 3) := by decide +kernel
theorem dX12_needs_67 : decode cX12_needs 67 = .ok (.iload 5, 2) := by decide +kernel
theorem dX12_needs_69 : decode cX12_needs 69 = .ok (.ifCond .ge 43, 3) := by decide +kernel
theorem dX12_needs_72 : decode cX12_needs 72 = .ok (.aload_n 0, 1) := by decide +kernel
theorem dX12_needs_73 : decode cX12_needs 73 = .ok (.getfield 26, 3) := by decide +kernel
theorem dX12_needs_76 : decode cX12_needs 76 = .ok (.iload_n 1, 1) := by decide +kernel
theorem dX12_needs_77 : decode cX12_needs 77 = .ok (.iload 6, 2) := by decide +kernel
theorem dX12_needs_79 : decode cX12_needs 79 = .ok (.iastore, 1) := by decide +kernel
theorem dX12_needs_80 : decode cX12_needs 80 = .ok (.aload_n 0, 1) := by decide +kernel
theorem dX12_needs_81 : decode cX12_needs 81 = .ok (.iload_n 2, 1) := by decide +kernel
theorem dX12_needs_82 : decode cX12_needs 82 = .ok (.invokevirtual 353, 3) := by decide +kernel
theorem dX12_needs_85 : decode cX12_needs 85 = .ok (.aload_n 0, 1) := by decide +kernel
theorem dX12_needs_86 : decode cX12_needs 86 = .ok (.aload_n 0, 1) := by decide +kernel
theorem dX12_needs_87 : decode cX12_needs 87 = .ok (.getfield 126, 3) := by decide +kernel
theorem dX12_needs_90 : decode cX12_needs 90 = .ok (.iload_n 1, 1) := by decide +kernel
theorem dX12_needs_91 : decode cX12_needs 91 = .ok (.invokevirtual 328, 3) := by decide +kernel
theorem dX12_needs_94 : decode cX12_needs 94 = .ok (.ifCond .eq 8, 3) := by decide +kernel
theorem dX12_needs_97 : decode cX12_needs 97 = .ok (.iload 6, 2) := by decide +kernel
theorem dX12_needs_99 : decode cX12_needs 99 = .ok (.goto 5, 3) := by decide +kernel
theorem dX12_needs_102 : decode cX12_needs 102 = .ok (.bipush (-5), 2) := by decide +kernel
theorem dX12_needs_104 : decode cX12_needs 104 = .ok (.istore 5, 2) := by decide +kernel
theorem dX12_needs_106 : decode cX12_needs 106 = .ok (.iinc 6 1, 3) := by decide +kernel
theorem dX12_needs_109 : decode cX12_needs 109 = .ok (.goto (-51), 3) := by decide +kernel
theorem dX12_needs_112 : decode cX12_needs 112 = .ok (.aload_n 0, 1) := by decide +kernel
theorem dX12_needs_113 : decode cX12_needs 113 = .ok (.getfield 26, 3) := by decide +kernel
theorem dX12_needs_116 : decode cX12_needs 116 = .ok (.iload_n 1, 1) := by decide +kernel
theorem dX12_needs_117 : decode cX12_needs 117 = .ok (.iload_n 3, 1) := by decide +kernel
theorem dX12_needs_118 : decode cX12_needs 118 = .ok (.iastore, 1) := by decide +kernel
theorem dX12_needs_119 : decode cX12_needs 119 = .ok (.aload_n 0, 1) := by decide +kernel
theorem dX12_needs_120 : decode cX12_needs 120 = .ok (.iload 4, 2) := by decide +kernel
theorem dX12_needs_122 : decode cX12_needs 122 = .ok (.putfield 16, 3) := by decide +kernel
theorem dX12_needs_125 : decode cX12_needs 125 = .ok (.iload 5, 2) := by decide +kernel
theorem dX12_needs_127 : decode cX12_needs 127 = .ok (.ireturn, 1) := by decide +kernel
theorem dX12_comeBy_0 : decode cX12_comeBy 0 = .ok (.aload_n 0, 1) := by decide +kernel
theorem dX12_comeBy_1 : decode cX12_comeBy 1 = .ok (.invokevirtual 347, 3) := by decide +kernel
theorem dX12_comeBy_4 : decode cX12_comeBy 4 = .ok (.iconst 0, 1) := by decide +kernel
theorem dX12_comeBy_5 : decode cX12_comeBy 5 = .ok (.istore 4, 2) := by decide +kernel
theorem dX12_comeBy_7 : decode cX12_comeBy 7 = .ok (.iload 4, 2) := by decide +kernel
theorem dX12_comeBy_9 : decode cX12_comeBy 9 = .ok (.iload_n 2, 1) := by decide +kernel
theorem dX12_comeBy_10 : decode cX12_comeBy 10 = .ok (.if_icmp .ge 30, 3) := by decide +kernel
theorem dX12_comeBy_13 : decode cX12_comeBy 13 = .ok (.aload_n 0, 1) := by decide +kernel
theorem dX12_comeBy_14 : decode cX12_comeBy 14 = .ok (.iload 4, 2) := by decide +kernel
theorem dX12_comeBy_16 : decode cX12_comeBy 16 = .ok (.iload_n 3, 1) := by decide +kernel
theorem dX12_comeBy_17 : decode cX12_comeBy 17 = .ok (.if_icmp .ge 7, 3) := by decide +kernel
theorem dX12_comeBy_20 : decode cX12_comeBy 20 = .ok (.iload_n 1, 1) := by decide +kernel
theorem dX12_comeBy_21 : decode cX12_comeBy 21 = .ok (.goto 4, 3) := by decide +kernel
theorem dX12_comeBy_24 : decode cX12_comeBy 24 = .ok (.iconst (-1), 1) := by decide +kernel
theorem dX12_comeBy_25 : decode cX12_comeBy 25 = .ok (.putfield 102, 3) := by decide +kernel
theorem dX12_comeBy_28 : decode cX12_comeBy 28 = .ok (.aload_n 0, 1) := by decide +kernel
theorem dX12_comeBy_29 : decode cX12_comeBy 29 = .ok (.invokevirtual 343, 3) := by decide +kernel
theorem dX12_comeBy_32 : decode cX12_comeBy 32 = .ok (.istore 5, 2) := by decide +kernel
theorem dX12_comeBy_34 : decode cX12_comeBy 34 = .ok (.iinc 4 1, 3) := by decide +kernel
theorem dX12_comeBy_37 : decode cX12_comeBy 37 = .ok (.goto (-30), 3) := by decide +kernel
theorem dX12_comeBy_40 : decode cX12_comeBy 40 = .ok (.aload_n 0, 1) := by decide +kernel
theorem dX12_comeBy_41 : decode cX12_comeBy 41 = .ok (.iconst (-1), 1) := by decide +kernel
theorem dX12_comeBy_42 : decode cX12_comeBy 42 = .ok (.putfield 102, 3) := by decide +kernel
theorem dX12_comeBy_45 : decode cX12_comeBy 45 = .ok (.aload_n 0, 1) := by decide +kernel
theorem dX12_comeBy_46 : decode cX12_comeBy 46 = .ok (.getfield 26, 3) := by decide +kernel
theorem dX12_comeBy_49 : decode cX12_comeBy 49 = .ok (.iload_n 1, 1) := by decide +kernel
theorem dX12_comeBy_50 : decode cX12_comeBy 50 = .ok (.iaload, 1) := by decide +kernel
theorem dX12_comeBy_51 : decode cX12_comeBy 51 = .ok (.istore 4, 2) := by decide +kernel
theorem dX12_comeBy_53 : decode cX12_comeBy 53 = .ok (.aload_n 0, 1) := by decide +kernel
theorem dX12_comeBy_54 : decode cX12_comeBy 54 = .ok (.invokevirtual 350, 3) := by decide +kernel
theorem dX12_comeBy_57 : decode cX12_comeBy 57 = .ok (.iload 4, 2) := by decide +kernel
theorem dX12_comeBy_59 : decode cX12_comeBy 59 = .ok (.ireturn, 1) := by decide +kernel
theorem dX12_held_0 : decode cX12_held 0 = .ok (.aload_n 0, 1) := by decide +kernel
theorem dX12_held_1 : decode cX12_held 1 = .ok (.iload_n 1, 1) := by decide +kernel
theorem dX12_held_2 : decode cX12_held 2 = .ok (.invokevirtual 240, 3) := by decide +kernel
theorem dX12_held_5 : decode cX12_held 5 = .ok (.ifCond .ne 5, 3) := by decide +kernel
theorem dX12_held_8 : decode cX12_held 8 = .ok (.iconst (-1), 1) := by decide +kernel
theorem dX12_held_9 : decode cX12_held 9 = .ok (.ireturn, 1) := by decide +kernel
theorem dX12_held_10 : decode cX12_held 10 = .ok (.aload_n 0, 1) := by decide +kernel
theorem dX12_held_11 : decode cX12_held 11 = .ok (.iload_n 2, 1) := by decide +kernel
theorem dX12_held_12 : decode cX12_held 12 = .ok (.iconst 1, 1) := by decide +kernel
theorem dX12_held_13 : decode cX12_held 13 = .ok (.bipush 20, 2) := by decide +kernel
theorem dX12_held_15 : decode cX12_held 15 = .ok (.invokevirtual 236, 3) := by decide +kernel
theorem dX12_held_18 : decode cX12_held 18 = .ok (.ifCond .ne 6, 3) := by decide +kernel
theorem dX12_held_21 : decode cX12_held 21 = .ok (.bipush (-2), 2) := by decide +kernel
theorem dX12_held_23 : decode cX12_held 23 = .ok (.ireturn, 1) := by decide +kernel
theorem dX12_held_24 : decode cX12_held 24 = .ok (.iconst 0, 1) := by decide +kernel
theorem dX12_held_25 : decode cX12_held 25 = .ok (.istore_n 3, 1) := by decide +kernel
theorem dX12_held_26 : decode cX12_held 26 = .ok (.iconst (-1), 1) := by decide +kernel
theorem dX12_held_27 : decode cX12_held 27 = .ok (.istore 4, 2) := by decide +kernel
theorem dX12_held_29 : decode cX12_held 29 = .ok (.iconst 0, 1) := by decide +kernel
theorem dX12_held_30 : decode cX12_held 30 = .ok (.istore 5, 2) := by decide +kernel
theorem dX12_held_32 : decode cX12_held 32 = .ok (.iload 5, 2) := by decide +kernel
theorem dX12_held_34 : decode cX12_held 34 = .ok (.iload_n 2, 1) := by decide +kernel
theorem dX12_held_35 : decode cX12_held 35 = .ok (.if_icmp .gt 36, 3) := by decide +kernel
theorem dX12_held_38 : decode cX12_held 38 = .ok (.aload_n 0, 1) := by decide +kernel
theorem dX12_held_39 : decode cX12_held 39 = .ok (.iload_n 1, 1) := by decide +kernel
theorem dX12_held_40 : decode cX12_held 40 = .ok (.iload_n 2, 1) := by decide +kernel
theorem dX12_held_41 : decode cX12_held 41 = .ok (.iload 5, 2) := by decide +kernel
theorem dX12_held_43 : decode cX12_held 43 = .ok (.invokevirtual 371, 3) := by decide +kernel
theorem dX12_held_46 : decode cX12_held 46 = .ok (.istore 6, 2) := by decide +kernel
theorem dX12_held_48 : decode cX12_held 48 = .ok (.iload 6, 2) := by decide +kernel
theorem dX12_held_50 : decode cX12_held 50 = .ok (.iload 4, 2) := by decide +kernel
theorem dX12_held_52 : decode cX12_held 52 = .ok (.if_icmp .gt 6, 3) := by decide +kernel
theorem dX12_held_55 : decode cX12_held 55 = .ok (.goto 10, 3) := by decide +kernel
theorem dX12_held_58 : decode cX12_held 58 = .ok (.iload 5, 2) := by decide +kernel
theorem dX12_held_60 : decode cX12_held 60 = .ok (.istore_n 3, 1) := by decide +kernel
theorem dX12_held_61 : decode cX12_held 61 = .ok (.iload 6, 2) := by decide +kernel
theorem dX12_held_63 : decode cX12_held 63 = .ok (.istore 4, 2) := by decide +kernel
theorem dX12_held_65 : decode cX12_held 65 = .ok (.iinc 5 1, 3) := by decide +kernel
theorem dX12_held_68 : decode cX12_held 68 = .ok (.goto (-36), 3) := by decide +kernel
theorem dX12_held_71 : decode cX12_held 71 = .ok (.iload_n 3, 1) := by decide +kernel
theorem dX12_held_72 : decode cX12_held 72 = .ok (.ireturn, 1) := by decide +kernel
theorem dX12_shield_0 : decode cX12_shield 0 = .ok (.aload_n 0, 1) := by decide +kernel
theorem dX12_shield_1 : decode cX12_shield 1 = .ok (.iload_n 1, 1) := by decide +kernel
theorem dX12_shield_2 : decode cX12_shield 2 = .ok (.invokevirtual 240, 3) := by decide +kernel
theorem dX12_shield_5 : decode cX12_shield 5 = .ok (.ifCond .eq 11, 3) := by decide +kernel
theorem dX12_shield_8 : decode cX12_shield 8 = .ok (.aload_n 0, 1) := by decide +kernel
theorem dX12_shield_9 : decode cX12_shield 9 = .ok (.iload_n 2, 1) := by decide +kernel
theorem dX12_shield_10 : decode cX12_shield 10 = .ok (.invokevirtual 240, 3) := by decide +kernel
theorem dX12_shield_13 : decode cX12_shield 13 = .ok (.ifCond .ne 7, 3) := by decide +kernel
theorem dX12_shield_16 : decode cX12_shield 16 = .ok (.sipush (-1001), 3) := by decide +kernel
theorem dX12_shield_19 : decode cX12_shield 19 = .ok (.ireturn, 1) := by decide +kernel
theorem dX12_shield_20 : decode cX12_shield 20 = .ok (.iload_n 1, 1) := by decide +kernel
theorem dX12_shield_21 : decode cX12_shield 21 = .ok (.iload_n 2, 1) := by decide +kernel
theorem dX12_shield_22 : decode cX12_shield 22 = .ok (.if_icmp .eq 14, 3) := by decide +kernel
theorem dX12_shield_25 : decode cX12_shield 25 = .ok (.aload_n 0, 1) := by decide +kernel
theorem dX12_shield_26 : decode cX12_shield 26 = .ok (.iload_n 3, 1) := by decide +kernel
theorem dX12_shield_27 : decode cX12_shield 27 = .ok (.iconst 1, 1) := by decide +kernel
theorem dX12_shield_28 : decode cX12_shield 28 = .ok (.bipush 20, 2) := by decide +kernel
theorem dX12_shield_30 : decode cX12_shield 30 = .ok (.invokevirtual 236, 3) := by decide +kernel
theorem dX12_shield_33 : decode cX12_shield 33 = .ok (.ifCond .ne 7, 3) := by decide +kernel
theorem dX12_shield_36 : decode cX12_shield 36 = .ok (.sipush (-1002), 3) := by decide +kernel
theorem dX12_shield_39 : decode cX12_shield 39 = .ok (.ireturn, 1) := by decide +kernel
theorem dX12_shield_40 : decode cX12_shield 40 = .ok (.aload_n 0, 1) := by decide +kernel
theorem dX12_shield_41 : decode cX12_shield 41 = .ok (.iload_n 3, 1) := by decide +kernel
theorem dX12_shield_42 : decode cX12_shield 42 = .ok (.invokevirtual 353, 3) := by decide +kernel
theorem dX12_shield_45 : decode cX12_shield 45 = .ok (.aload_n 0, 1) := by decide +kernel
theorem dX12_shield_46 : decode cX12_shield 46 = .ok (.getfield 123, 3) := by decide +kernel
theorem dX12_shield_49 : decode cX12_shield 49 = .ok (.iload_n 1, 1) := by decide +kernel
theorem dX12_shield_50 : decode cX12_shield 50 = .ok (.iaload, 1) := by decide +kernel
theorem dX12_shield_51 : decode cX12_shield 51 = .ok (.istore 4, 2) := by decide +kernel
theorem dX12_shield_53 : decode cX12_shield 53 = .ok (.aload_n 0, 1) := by decide +kernel
theorem dX12_shield_54 : decode cX12_shield 54 = .ok (.getfield 16, 3) := by decide +kernel
theorem dX12_shield_57 : decode cX12_shield 57 = .ok (.istore 5, 2) := by decide +kernel
theorem dX12_shield_59 : decode cX12_shield 59 = .ok (.aload_n 0, 1) := by decide +kernel
theorem dX12_shield_60 : decode cX12_shield 60 = .ok (.dup, 1) := by decide +kernel
theorem dX12_shield_61 : decode cX12_shield 61 = .ok (.getfield 16, 3) := by decide +kernel
theorem dX12_shield_64 : decode cX12_shield 64 = .ok (.iconst 1, 1) := by decide +kernel
theorem dX12_shield_65 : decode cX12_shield 65 = .ok (.iload_n 2, 1) := by decide +kernel
theorem dX12_shield_66 : decode cX12_shield 66 = .ok (.ishl, 1) := by decide +kernel
theorem dX12_shield_67 : decode cX12_shield 67 = .ok (.ior, 1) := by decide +kernel
theorem dX12_shield_68 : decode cX12_shield 68 = .ok (.putfield 16, 3) := by decide +kernel
theorem dX12_shield_71 : decode cX12_shield 71 = .ok (.aload_n 0, 1) := by decide +kernel
theorem dX12_shield_72 : decode cX12_shield 72 = .ok (.iload_n 3, 1) := by decide +kernel
theorem dX12_shield_73 : decode cX12_shield 73 = .ok (.invokevirtual 353, 3) := by decide +kernel
theorem dX12_shield_76 : decode cX12_shield 76 = .ok (.aload_n 0, 1) := by decide +kernel
theorem dX12_shield_77 : decode cX12_shield 77 = .ok (.iload 5, 2) := by decide +kernel
theorem dX12_shield_79 : decode cX12_shield 79 = .ok (.putfield 16, 3) := by decide +kernel
theorem dX12_shield_82 : decode cX12_shield 82 = .ok (.iload 4, 2) := by decide +kernel
theorem dX12_shield_84 : decode cX12_shield 84 = .ok (.aload_n 0, 1) := by decide +kernel
theorem dX12_shield_85 : decode cX12_shield 85 = .ok (.getfield 123, 3) := by decide +kernel
theorem dX12_shield_88 : decode cX12_shield 88 = .ok (.iload_n 1, 1) := by decide +kernel
theorem dX12_shield_89 : decode cX12_shield 89 = .ok (.iaload, 1) := by decide +kernel
theorem dX12_shield_90 : decode cX12_shield 90 = .ok (.isub, 1) := by decide +kernel
theorem dX12_shield_91 : decode cX12_shield 91 = .ok (.ireturn, 1) := by decide +kernel
theorem dX12_see_0 : decode cX12_see 0 = .ok (.iload_n 1, 1) := by decide +kernel
theorem dX12_see_1 : decode cX12_see 1 = .ok (.iconst (-1), 1) := by decide +kernel
theorem dX12_see_2 : decode cX12_see 2 = .ok (.if_icmp .ne 10, 3) := by decide +kernel
theorem dX12_see_5 : decode cX12_see 5 = .ok (.aload_n 0, 1) := by decide +kernel
theorem dX12_see_6 : decode cX12_see 6 = .ok (.iconst 0, 1) := by decide +kernel
theorem dX12_see_7 : decode cX12_see 7 = .ok (.putfield 138, 3) := by decide +kernel
theorem dX12_see_10 : decode cX12_see 10 = .ok (.iconst 0, 1) := by decide +kernel
theorem dX12_see_11 : decode cX12_see 11 = .ok (.ireturn, 1) := by decide +kernel
theorem dX12_see_12 : decode cX12_see 12 = .ok (.aload_n 0, 1) := by decide +kernel
theorem dX12_see_13 : decode cX12_see 13 = .ok (.iload_n 1, 1) := by decide +kernel
theorem dX12_see_14 : decode cX12_see 14 = .ok (.invokevirtual 240, 3) := by decide +kernel
theorem dX12_see_17 : decode cX12_see 17 = .ok (.ifCond .ne 5, 3) := by decide +kernel
theorem dX12_see_20 : decode cX12_see 20 = .ok (.iconst (-1), 1) := by decide +kernel
theorem dX12_see_21 : decode cX12_see 21 = .ok (.ireturn, 1) := by decide +kernel
theorem dX12_see_22 : decode cX12_see 22 = .ok (.aload_n 0, 1) := by decide +kernel
theorem dX12_see_23 : decode cX12_see 23 = .ok (.iload_n 2, 1) := by decide +kernel
theorem dX12_see_24 : decode cX12_see 24 = .ok (.iconst 0, 1) := by decide +kernel
theorem dX12_see_25 : decode cX12_see 25 = .ok (.bipush 20, 2) := by decide +kernel
theorem dX12_see_27 : decode cX12_see 27 = .ok (.invokevirtual 236, 3) := by decide +kernel
theorem dX12_see_30 : decode cX12_see 30 = .ok (.ifCond .eq 14, 3) := by decide +kernel
theorem dX12_see_33 : decode cX12_see 33 = .ok (.aload_n 0, 1) := by decide +kernel
theorem dX12_see_34 : decode cX12_see 34 = .ok (.iload_n 3, 1) := by decide +kernel
theorem dX12_see_35 : decode cX12_see 35 = .ok (.iconst 0, 1) := by decide +kernel
theorem dX12_see_36 : decode cX12_see 36 = .ok (.bipush 99, 2) := by decide +kernel
theorem dX12_see_38 : decode cX12_see 38 = .ok (.invokevirtual 236, 3) := by decide +kernel
theorem dX12_see_41 : decode cX12_see 41 = .ok (.ifCond .ne 6, 3) := by decide +kernel
theorem dX12_see_44 : decode cX12_see 44 = .ok (.bipush (-2), 2) := by decide +kernel
theorem dX12_see_46 : decode cX12_see 46 = .ok (.ireturn, 1) := by decide +kernel
theorem dX12_see_47 : decode cX12_see 47 = .ok (.aload_n 0, 1) := by decide +kernel
theorem dX12_see_48 : decode cX12_see 48 = .ok (.getfield 138, 3) := by decide +kernel
theorem dX12_see_51 : decode cX12_see 51 = .ok (.iconst 4, 1) := by decide +kernel
theorem dX12_see_52 : decode cX12_see 52 = .ok (.if_icmp .ne 6, 3) := by decide +kernel
theorem dX12_see_55 : decode cX12_see 55 = .ok (.bipush (-4), 2) := by decide +kernel
theorem dX12_see_57 : decode cX12_see 57 = .ok (.ireturn, 1) := by decide +kernel
theorem dX12_see_58 : decode cX12_see 58 = .ok (.aload_n 0, 1) := by decide +kernel
theorem dX12_see_59 : decode cX12_see 59 = .ok (.getfield 141, 3) := by decide +kernel
theorem dX12_see_62 : decode cX12_see 62 = .ok (.aload_n 0, 1) := by decide +kernel
theorem dX12_see_63 : decode cX12_see 63 = .ok (.getfield 138, 3) := by decide +kernel
theorem dX12_see_66 : decode cX12_see 66 = .ok (.iload_n 1, 1) := by decide +kernel
theorem dX12_see_67 : decode cX12_see 67 = .ok (.iastore, 1) := by decide +kernel
theorem dX12_see_68 : decode cX12_see 68 = .ok (.aload_n 0, 1) := by decide +kernel
theorem dX12_see_69 : decode cX12_see 69 = .ok (.getfield 144, 3) := by decide +kernel
theorem dX12_see_72 : decode cX12_see 72 = .ok (.aload_n 0, 1) := by decide +kernel
theorem dX12_see_73 : decode cX12_see 73 = .ok (.getfield 138, 3) := by decide +kernel
theorem dX12_see_76 : decode cX12_see 76 = .ok (.iload_n 2, 1) := by decide +kernel
theorem dX12_see_77 : decode cX12_see 77 = .ok (.iastore, 1) := by decide +kernel
theorem dX12_see_78 : decode cX12_see 78 = .ok (.aload_n 0, 1) := by decide +kernel
theorem dX12_see_79 : decode cX12_see 79 = .ok (.getfield 147, 3) := by decide +kernel
theorem dX12_see_82 : decode cX12_see 82 = .ok (.aload_n 0, 1) := by decide +kernel
theorem dX12_see_83 : decode cX12_see 83 = .ok (.getfield 138, 3) := by decide +kernel
theorem dX12_see_86 : decode cX12_see 86 = .ok (.iload_n 3, 1) := by decide +kernel
theorem dX12_see_87 : decode cX12_see 87 = .ok (.iastore, 1) := by decide +kernel
theorem dX12_see_88 : decode cX12_see 88 = .ok (.aload_n 0, 1) := by decide +kernel
theorem dX12_see_89 : decode cX12_see 89 = .ok (.dup, 1) := by decide +kernel
theorem dX12_see_90 : decode cX12_see 90 = .ok (.getfield 138, 3) := by decide +kernel
theorem dX12_see_93 : decode cX12_see 93 = .ok (.iconst 1, 1) := by decide +kernel
theorem dX12_see_94 : decode cX12_see 94 = .ok (.iadd, 1) := by decide +kernel
theorem dX12_see_95 : decode cX12_see 95 = .ok (.putfield 138, 3) := by decide +kernel
theorem dX12_see_98 : decode cX12_see 98 = .ok (.aload_n 0, 1) := by decide +kernel
theorem dX12_see_99 : decode cX12_see 99 = .ok (.getfield 138, 3) := by decide +kernel
theorem dX12_see_102 : decode cX12_see 102 = .ok (.ireturn, 1) := by decide +kernel
theorem dX12_isSeen_0 : decode cX12_isSeen 0 = .ok (.iconst 0, 1) := by decide +kernel
theorem dX12_isSeen_1 : decode cX12_isSeen 1 = .ok (.istore_n 1, 1) := by decide +kernel
theorem dX12_isSeen_2 : decode cX12_isSeen 2 = .ok (.iload_n 1, 1) := by decide +kernel
theorem dX12_isSeen_3 : decode cX12_isSeen 3 = .ok (.aload_n 0, 1) := by decide +kernel
theorem dX12_isSeen_4 : decode cX12_isSeen 4 = .ok (.getfield 138, 3) := by decide +kernel
theorem dX12_isSeen_7 : decode cX12_isSeen 7 = .ok (.if_icmp .ge 41, 3) := by decide +kernel
theorem dX12_isSeen_10 : decode cX12_isSeen 10 = .ok (.aload_n 0, 1) := by decide +kernel
theorem dX12_isSeen_11 : decode cX12_isSeen 11 = .ok (.aload_n 0, 1) := by decide +kernel
theorem dX12_isSeen_12 : decode cX12_isSeen 12 = .ok (.getfield 144, 3) := by decide +kernel
theorem dX12_isSeen_15 : decode cX12_isSeen 15 = .ok (.iload_n 1, 1) := by decide +kernel
theorem dX12_isSeen_16 : decode cX12_isSeen 16 = .ok (.iaload, 1) := by decide +kernel
theorem dX12_isSeen_17 : decode cX12_isSeen 17 = .ok (.invokevirtual 353, 3) := by decide +kernel
theorem dX12_isSeen_20 : decode cX12_isSeen 20 = .ok (.aload_n 0, 1) := by decide +kernel
theorem dX12_isSeen_21 : decode cX12_isSeen 21 = .ok (.getfield 123, 3) := by decide +kernel
theorem dX12_isSeen_24 : decode cX12_isSeen 24 = .ok (.aload_n 0, 1) := by decide +kernel
theorem dX12_isSeen_25 : decode cX12_isSeen 25 = .ok (.getfield 141, 3) := by decide +kernel
theorem dX12_isSeen_28 : decode cX12_isSeen 28 = .ok (.iload_n 1, 1) := by decide +kernel
theorem dX12_isSeen_29 : decode cX12_isSeen 29 = .ok (.iaload, 1) := by decide +kernel
theorem dX12_isSeen_30 : decode cX12_isSeen 30 = .ok (.iaload, 1) := by decide +kernel
theorem dX12_isSeen_31 : decode cX12_isSeen 31 = .ok (.aload_n 0, 1) := by decide +kernel
theorem dX12_isSeen_32 : decode cX12_isSeen 32 = .ok (.getfield 147, 3) := by decide +kernel
theorem dX12_isSeen_35 : decode cX12_isSeen 35 = .ok (.iload_n 1, 1) := by decide +kernel
theorem dX12_isSeen_36 : decode cX12_isSeen 36 = .ok (.iaload, 1) := by decide +kernel
theorem dX12_isSeen_37 : decode cX12_isSeen 37 = .ok (.if_icmp .eq 5, 3) := by decide +kernel
theorem dX12_isSeen_40 : decode cX12_isSeen 40 = .ok (.iconst 0, 1) := by decide +kernel
theorem dX12_isSeen_41 : decode cX12_isSeen 41 = .ok (.ireturn, 1) := by decide +kernel
theorem dX12_isSeen_42 : decode cX12_isSeen 42 = .ok (.iinc 1 1, 3) := by decide +kernel
theorem dX12_isSeen_45 : decode cX12_isSeen 45 = .ok (.goto (-43), 3) := by decide +kernel
theorem dX12_isSeen_48 : decode cX12_isSeen 48 = .ok (.iconst 1, 1) := by decide +kernel
theorem dX12_isSeen_49 : decode cX12_isSeen 49 = .ok (.ireturn, 1) := by decide +kernel
theorem dX12_since_0 : decode cX12_since 0 = .ok (.aload_n 0, 1) := by decide +kernel
theorem dX12_since_1 : decode cX12_since 1 = .ok (.getfield 13, 3) := by decide +kernel
theorem dX12_since_4 : decode cX12_since 4 = .ok (.istore_n 1, 1) := by decide +kernel
theorem dX12_since_5 : decode cX12_since 5 = .ok (.iconst 0, 1) := by decide +kernel
theorem dX12_since_6 : decode cX12_since 6 = .ok (.istore_n 2, 1) := by decide +kernel
theorem dX12_since_7 : decode cX12_since 7 = .ok (.iconst 0, 1) := by decide +kernel
theorem dX12_since_8 : decode cX12_since 8 = .ok (.istore_n 3, 1) := by decide +kernel
theorem dX12_since_9 : decode cX12_since 9 = .ok (.iload_n 3, 1) := by decide +kernel
theorem dX12_since_10 : decode cX12_since 10 = .ok (.iconst 4, 1) := by decide +kernel
theorem dX12_since_11 : decode cX12_since 11 = .ok (.if_icmp .ge 33, 3) := by decide +kernel
theorem dX12_since_14 : decode cX12_since 14 = .ok (.aload_n 0, 1) := by decide +kernel
theorem dX12_since_15 : decode cX12_since 15 = .ok (.iload_n 1, 1) := by decide +kernel
theorem dX12_since_16 : decode cX12_since 16 = .ok (.iload_n 3, 1) := by decide +kernel
theorem dX12_since_17 : decode cX12_since 17 = .ok (.iadd, 1) := by decide +kernel
theorem dX12_since_18 : decode cX12_since 18 = .ok (.putfield 13, 3) := by decide +kernel
theorem dX12_since_21 : decode cX12_since 21 = .ok (.iload_n 2, 1) := by decide +kernel
theorem dX12_since_22 : decode cX12_since 22 = .ok (.aload_n 0, 1) := by decide +kernel
theorem dX12_since_23 : decode cX12_since 23 = .ok (.invokevirtual 375, 3) := by decide +kernel
theorem dX12_since_26 : decode cX12_since 26 = .ok (.ifCond .eq 9, 3) := by decide +kernel
theorem dX12_since_29 : decode cX12_since 29 = .ok (.iconst 1, 1) := by decide +kernel
theorem dX12_since_30 : decode cX12_since 30 = .ok (.iload_n 3, 1) := by decide +kernel
theorem dX12_since_31 : decode cX12_since 31 = .ok (.ishl, 1) := by decide +kernel
theorem dX12_since_32 : decode cX12_since 32 = .ok (.goto 4, 3) := by decide +kernel
theorem dX12_since_35 : decode cX12_since 35 = .ok (.iconst 0, 1) := by decide +kernel
theorem dX12_since_36 : decode cX12_since 36 = .ok (.ior, 1) := by decide +kernel
theorem dX12_since_37 : decode cX12_since 37 = .ok (.istore_n 2, 1) := by decide +kernel
theorem dX12_since_38 : decode cX12_since 38 = .ok (.iinc 3 1, 3) := by decide +kernel
theorem dX12_since_41 : decode cX12_since 41 = .ok (.goto (-32), 3) := by decide +kernel
theorem dX12_since_44 : decode cX12_since 44 = .ok (.aload_n 0, 1) := by decide +kernel
theorem dX12_since_45 : decode cX12_since 45 = .ok (.iload_n 1, 1) := by decide +kernel
theorem dX12_since_46 : decode cX12_since 46 = .ok (.putfield 13, 3) := by decide +kernel
theorem dX12_since_49 : decode cX12_since 49 = .ok (.iload_n 2, 1) := by decide +kernel
theorem dX12_since_50 : decode cX12_since 50 = .ok (.ireturn, 1) := by decide +kernel
theorem dX12_who_0 : decode cX12_who 0 = .ok (.aload_n 0, 1) := by decide +kernel
theorem dX12_who_1 : decode cX12_who 1 = .ok (.iload_n 1, 1) := by decide +kernel
theorem dX12_who_2 : decode cX12_who 2 = .ok (.iconst 0, 1) := by decide +kernel
theorem dX12_who_3 : decode cX12_who 3 = .ok (.bipush 20, 2) := by decide +kernel
theorem dX12_who_5 : decode cX12_who 5 = .ok (.invokevirtual 236, 3) := by decide +kernel
theorem dX12_who_8 : decode cX12_who 8 = .ok (.ifCond .eq 14, 3) := by decide +kernel
theorem dX12_who_11 : decode cX12_who 11 = .ok (.aload_n 0, 1) := by decide +kernel
theorem dX12_who_12 : decode cX12_who 12 = .ok (.iload_n 2, 1) := by decide +kernel
theorem dX12_who_13 : decode cX12_who 13 = .ok (.iconst 0, 1) := by decide +kernel
theorem dX12_who_14 : decode cX12_who 14 = .ok (.bipush 99, 2) := by decide +kernel
theorem dX12_who_16 : decode cX12_who 16 = .ok (.invokevirtual 236, 3) := by decide +kernel
theorem dX12_who_19 : decode cX12_who 19 = .ok (.ifCond .ne 6, 3) := by decide +kernel
theorem dX12_who_22 : decode cX12_who 22 = .ok (.bipush (-2), 2) := by decide +kernel
theorem dX12_who_24 : decode cX12_who 24 = .ok (.ireturn, 1) := by decide +kernel
theorem dX12_who_25 : decode cX12_who 25 = .ok (.aload_n 0, 1) := by decide +kernel
theorem dX12_who_26 : decode cX12_who 26 = .ok (.iload_n 1, 1) := by decide +kernel
theorem dX12_who_27 : decode cX12_who 27 = .ok (.invokevirtual 353, 3) := by decide +kernel
theorem dX12_who_30 : decode cX12_who 30 = .ok (.iconst 0, 1) := by decide +kernel
theorem dX12_who_31 : decode cX12_who 31 = .ok (.istore_n 3, 1) := by decide +kernel
theorem dX12_who_32 : decode cX12_who 32 = .ok (.iconst 0, 1) := by decide +kernel
theorem dX12_who_33 : decode cX12_who 33 = .ok (.istore 4, 2) := by decide +kernel
theorem dX12_who_35 : decode cX12_who 35 = .ok (.iload 4, 2) := by decide +kernel
theorem dX12_who_37 : decode cX12_who 37 = .ok (.aload_n 0, 1) := by decide +kernel
theorem dX12_who_38 : decode cX12_who 38 = .ok (.getfield 7, 3) := by decide +kernel
theorem dX12_who_41 : decode cX12_who 41 = .ok (.if_icmp .ge 31, 3) := by decide +kernel
theorem dX12_who_44 : decode cX12_who 44 = .ok (.iload_n 3, 1) := by decide +kernel
theorem dX12_who_45 : decode cX12_who 45 = .ok (.aload_n 0, 1) := by decide +kernel
theorem dX12_who_46 : decode cX12_who 46 = .ok (.getfield 123, 3) := by decide +kernel
theorem dX12_who_49 : decode cX12_who 49 = .ok (.iload 4, 2) := by decide +kernel
theorem dX12_who_51 : decode cX12_who 51 = .ok (.iaload, 1) := by decide +kernel
theorem dX12_who_52 : decode cX12_who 52 = .ok (.iload_n 2, 1) := by decide +kernel
theorem dX12_who_53 : decode cX12_who 53 = .ok (.if_icmp .ne 10, 3) := by decide +kernel
theorem dX12_who_56 : decode cX12_who 56 = .ok (.iconst 1, 1) := by decide +kernel
theorem dX12_who_57 : decode cX12_who 57 = .ok (.iload 4, 2) := by decide +kernel
theorem dX12_who_59 : decode cX12_who 59 = .ok (.ishl, 1) := by decide +kernel
theorem dX12_who_60 : decode cX12_who 60 = .ok (.goto 4, 3) := by decide +kernel
theorem dX12_who_63 : decode cX12_who 63 = .ok (.iconst 0, 1) := by decide +kernel
theorem dX12_who_64 : decode cX12_who 64 = .ok (.ior, 1) := by decide +kernel
theorem dX12_who_65 : decode cX12_who 65 = .ok (.istore_n 3, 1) := by decide +kernel
theorem dX12_who_66 : decode cX12_who 66 = .ok (.iinc 4 1, 3) := by decide +kernel
theorem dX12_who_69 : decode cX12_who 69 = .ok (.goto (-34), 3) := by decide +kernel
theorem dX12_who_72 : decode cX12_who 72 = .ok (.iload_n 3, 1) := by decide +kernel
theorem dX12_who_73 : decode cX12_who 73 = .ok (.ireturn, 1) := by decide +kernel
theorem dX12_divisor_0 : decode cX12_divisor 0 = .ok (.iload_n 1, 1) := by decide +kernel
theorem dX12_divisor_1 : decode cX12_divisor 1 = .ok (.istore_n 3, 1) := by decide +kernel
theorem dX12_divisor_2 : decode cX12_divisor 2 = .ok (.iload_n 2, 1) := by decide +kernel
theorem dX12_divisor_3 : decode cX12_divisor 3 = .ok (.istore 4, 2) := by decide +kernel
theorem dX12_divisor_5 : decode cX12_divisor 5 = .ok (.iload 4, 2) := by decide +kernel
theorem dX12_divisor_7 : decode cX12_divisor 7 = .ok (.ifCond .eq 19, 3) := by decide +kernel
theorem dX12_divisor_10 : decode cX12_divisor 10 = .ok (.iload_n 3, 1) := by decide +kernel
theorem dX12_divisor_11 : decode cX12_divisor 11 = .ok (.iload 4, 2) := by decide +kernel
theorem dX12_divisor_13 : decode cX12_divisor 13 = .ok (.irem, 1) := by decide +kernel
theorem dX12_divisor_14 : decode cX12_divisor 14 = .ok (.istore 5, 2) := by decide +kernel
theorem dX12_divisor_16 : decode cX12_divisor 16 = .ok (.iload 4, 2) := by decide +kernel
theorem dX12_divisor_18 : decode cX12_divisor 18 = .ok (.istore_n 3, 1) := by decide +kernel
theorem dX12_divisor_19 : decode cX12_divisor 19 = .ok (.iload 5, 2) := by decide +kernel
theorem dX12_divisor_21 : decode cX12_divisor 21 = .ok (.istore 4, 2) := by decide +kernel
theorem dX12_divisor_23 : decode cX12_divisor 23 = .ok (.goto (-18), 3) := by decide +kernel
theorem dX12_divisor_26 : decode cX12_divisor 26 = .ok (.iload_n 3, 1) := by decide +kernel
theorem dX12_divisor_27 : decode cX12_divisor 27 = .ok (.ireturn, 1) := by decide +kernel
theorem dX12_lowest_0 : decode cX12_lowest 0 = .ok (.aload_n 0, 1) := by decide +kernel
theorem dX12_lowest_1 : decode cX12_lowest 1 = .ok (.iload_n 1, 1) := by decide +kernel
theorem dX12_lowest_2 : decode cX12_lowest 2 = .ok (.iload_n 2, 1) := by decide +kernel
theorem dX12_lowest_3 : decode cX12_lowest 3 = .ok (.invokevirtual 378, 3) := by decide +kernel
theorem dX12_lowest_6 : decode cX12_lowest 6 = .ok (.istore 4, 2) := by decide +kernel
theorem dX12_lowest_8 : decode cX12_lowest 8 = .ok (.iload_n 3, 1) := by decide +kernel
theorem dX12_lowest_9 : decode cX12_lowest 9 = .ok (.ifCond .ne 11, 3) := by decide +kernel
theorem dX12_lowest_12 : decode cX12_lowest 12 = .ok (.iload_n 1, 1) := by decide +kernel
theorem dX12_lowest_13 : decode cX12_lowest 13 = .ok (.iload 4, 2) := by decide +kernel
theorem dX12_lowest_15 : decode cX12_lowest 15 = .ok (.idiv, 1) := by decide +kernel
theorem dX12_lowest_16 : decode cX12_lowest 16 = .ok (.i2l, 1) := by decide +kernel
theorem dX12_lowest_17 : decode cX12_lowest 17 = .ok (.goto 8, 3) := by decide +kernel
theorem dX12_lowest_20 : decode cX12_lowest 20 = .ok (.iload_n 2, 1) := by decide +kernel
theorem dX12_lowest_21 : decode cX12_lowest 21 = .ok (.iload 4, 2) := by decide +kernel
theorem dX12_lowest_23 : decode cX12_lowest 23 = .ok (.idiv, 1) := by decide +kernel
theorem dX12_lowest_24 : decode cX12_lowest 24 = .ok (.i2l, 1) := by decide +kernel
theorem dX12_lowest_25 : decode cX12_lowest 25 = .ok (.lreturn, 1) := by decide +kernel
theorem dX12_odds_0 : decode cX12_odds 0 = .ok (.aload_n 0, 1) := by decide +kernel
theorem dX12_odds_1 : decode cX12_odds 1 = .ok (.iload_n 1, 1) := by decide +kernel
theorem dX12_odds_2 : decode cX12_odds 2 = .ok (.iconst 1, 1) := by decide +kernel
theorem dX12_odds_3 : decode cX12_odds 3 = .ok (.bipush 20, 2) := by decide +kernel
theorem dX12_odds_5 : decode cX12_odds 5 = .ok (.invokevirtual 236, 3) := by decide +kernel
theorem dX12_odds_8 : decode cX12_odds 8 = .ok (.ifCond .eq 13, 3) := by decide +kernel
theorem dX12_odds_11 : decode cX12_odds 11 = .ok (.aload_n 0, 1) := by decide +kernel
theorem dX12_odds_12 : decode cX12_odds 12 = .ok (.iload_n 2, 1) := by decide +kernel
theorem dX12_odds_13 : decode cX12_odds 13 = .ok (.iconst 0, 1) := by decide +kernel
theorem dX12_odds_14 : decode cX12_odds 14 = .ok (.iconst 1, 1) := by decide +kernel
theorem dX12_odds_15 : decode cX12_odds 15 = .ok (.invokevirtual 236, 3) := by decide +kernel
theorem dX12_odds_18 : decode cX12_odds 18 = .ok (.ifCond .ne 7, 3) := by decide +kernel
theorem dX12_odds_21 : decode cX12_odds 21 = .ok (.ldc2_w 381, 3) := by decide +kernel
theorem dX12_odds_24 : decode cX12_odds 24 = .ok (.lreturn, 1) := by decide +kernel
theorem dX12_odds_25 : decode cX12_odds 25 = .ok (.aload_n 0, 1) := by decide +kernel
theorem dX12_odds_26 : decode cX12_odds 26 = .ok (.getfield 13, 3) := by decide +kernel
theorem dX12_odds_29 : decode cX12_odds 29 = .ok (.istore_n 3, 1) := by decide +kernel
theorem dX12_odds_30 : decode cX12_odds 30 = .ok (.iconst 0, 1) := by decide +kernel
theorem dX12_odds_31 : decode cX12_odds 31 = .ok (.istore 4, 2) := by decide +kernel
theorem dX12_odds_33 : decode cX12_odds 33 = .ok (.iconst 0, 1) := by decide +kernel
theorem dX12_odds_34 : decode cX12_odds 34 = .ok (.istore 5, 2) := by decide +kernel
theorem dX12_odds_36 : decode cX12_odds 36 = .ok (.iload 5, 2) := by decide +kernel
theorem dX12_odds_38 : decode cX12_odds 38 = .ok (.iconst 4, 1) := by decide +kernel
theorem dX12_odds_39 : decode cX12_odds 39 = .ok (.if_icmp .ge 39, 3) := by decide +kernel
theorem dX12_odds_42 : decode cX12_odds 42 = .ok (.aload_n 0, 1) := by decide +kernel
theorem dX12_odds_43 : decode cX12_odds 43 = .ok (.iload_n 3, 1) := by decide +kernel
theorem dX12_odds_44 : decode cX12_odds 44 = .ok (.iload 5, 2) := by decide +kernel
theorem dX12_odds_46 : decode cX12_odds 46 = .ok (.iadd, 1) := by decide +kernel
theorem dX12_odds_47 : decode cX12_odds 47 = .ok (.putfield 13, 3) := by decide +kernel
theorem dX12_odds_50 : decode cX12_odds 50 = .ok (.aload_n 0, 1) := by decide +kernel
theorem dX12_odds_51 : decode cX12_odds 51 = .ok (.iload_n 1, 1) := by decide +kernel
theorem dX12_odds_52 : decode cX12_odds 52 = .ok (.invokevirtual 353, 3) := by decide +kernel
theorem dX12_odds_55 : decode cX12_odds 55 = .ok (.iload 4, 2) := by decide +kernel
theorem dX12_odds_57 : decode cX12_odds 57 = .ok (.aload_n 0, 1) := by decide +kernel
theorem dX12_odds_58 : decode cX12_odds 58 = .ok (.getfield 129, 3) := by decide +kernel
theorem dX12_odds_61 : decode cX12_odds 61 = .ok (.ifCond .ne 7, 3) := by decide +kernel
theorem dX12_odds_64 : decode cX12_odds 64 = .ok (.iconst 1, 1) := by decide +kernel
theorem dX12_odds_65 : decode cX12_odds 65 = .ok (.goto 4, 3) := by decide +kernel
theorem dX12_odds_68 : decode cX12_odds 68 = .ok (.iconst 0, 1) := by decide +kernel
theorem dX12_odds_69 : decode cX12_odds 69 = .ok (.iadd, 1) := by decide +kernel
theorem dX12_odds_70 : decode cX12_odds 70 = .ok (.istore 4, 2) := by decide +kernel
theorem dX12_odds_72 : decode cX12_odds 72 = .ok (.iinc 5 1, 3) := by decide +kernel
theorem dX12_odds_75 : decode cX12_odds 75 = .ok (.goto (-39), 3) := by decide +kernel
theorem dX12_odds_78 : decode cX12_odds 78 = .ok (.aload_n 0, 1) := by decide +kernel
theorem dX12_odds_79 : decode cX12_odds 79 = .ok (.iload_n 3, 1) := by decide +kernel
theorem dX12_odds_80 : decode cX12_odds 80 = .ok (.putfield 13, 3) := by decide +kernel
theorem dX12_odds_83 : decode cX12_odds 83 = .ok (.aload_n 0, 1) := by decide +kernel
theorem dX12_odds_84 : decode cX12_odds 84 = .ok (.iload 4, 2) := by decide +kernel
theorem dX12_odds_86 : decode cX12_odds 86 = .ok (.iconst 4, 1) := by decide +kernel
theorem dX12_odds_87 : decode cX12_odds 87 = .ok (.iload_n 2, 1) := by decide +kernel
theorem dX12_odds_88 : decode cX12_odds 88 = .ok (.invokevirtual 383, 3) := by decide +kernel
theorem dX12_odds_91 : decode cX12_odds 91 = .ok (.lreturn, 1) := by decide +kernel
theorem dX12_mean_0 : decode cX12_mean 0 = .ok (.aload_n 0, 1) := by decide +kernel
theorem dX12_mean_1 : decode cX12_mean 1 = .ok (.iload_n 1, 1) := by decide +kernel
theorem dX12_mean_2 : decode cX12_mean 2 = .ok (.iconst 0, 1) := by decide +kernel
theorem dX12_mean_3 : decode cX12_mean 3 = .ok (.bipush 40, 2) := by decide +kernel
theorem dX12_mean_5 : decode cX12_mean 5 = .ok (.invokevirtual 236, 3) := by decide +kernel
theorem dX12_mean_8 : decode cX12_mean 8 = .ok (.ifCond .eq 20, 3) := by decide +kernel
theorem dX12_mean_11 : decode cX12_mean 11 = .ok (.aload_n 0, 1) := by decide +kernel
theorem dX12_mean_12 : decode cX12_mean 12 = .ok (.iload_n 2, 1) := by decide +kernel
theorem dX12_mean_13 : decode cX12_mean 13 = .ok (.iconst 0, 1) := by decide +kernel
theorem dX12_mean_14 : decode cX12_mean 14 = .ok (.iconst 1, 1) := by decide +kernel
theorem dX12_mean_15 : decode cX12_mean 15 = .ok (.invokevirtual 236, 3) := by decide +kernel
theorem dX12_mean_18 : decode cX12_mean 18 = .ok (.ifCond .eq 10, 3) := by decide +kernel
theorem dX12_mean_21 : decode cX12_mean 21 = .ok (.aload_n 0, 1) := by decide +kernel
theorem dX12_mean_22 : decode cX12_mean 22 = .ok (.getfield 7, 3) := by decide +kernel
theorem dX12_mean_25 : decode cX12_mean 25 = .ok (.ifCond .ne 7, 3) := by decide +kernel
theorem dX12_mean_28 : decode cX12_mean 28 = .ok (.ldc2_w 381, 3) := by decide +kernel
theorem dX12_mean_31 : decode cX12_mean 31 = .ok (.lreturn, 1) := by decide +kernel
theorem dX12_mean_32 : decode cX12_mean 32 = .ok (.aload_n 0, 1) := by decide +kernel
theorem dX12_mean_33 : decode cX12_mean 33 = .ok (.iload_n 1, 1) := by decide +kernel
theorem dX12_mean_34 : decode cX12_mean 34 = .ok (.invokevirtual 353, 3) := by decide +kernel
theorem dX12_mean_37 : decode cX12_mean 37 = .ok (.iconst 0, 1) := by decide +kernel
theorem dX12_mean_38 : decode cX12_mean 38 = .ok (.istore_n 3, 1) := by decide +kernel
theorem dX12_mean_39 : decode cX12_mean 39 = .ok (.iconst 0, 1) := by decide +kernel
theorem dX12_mean_40 : decode cX12_mean 40 = .ok (.istore 4, 2) := by decide +kernel
theorem dX12_mean_42 : decode cX12_mean 42 = .ok (.iload 4, 2) := by decide +kernel
theorem dX12_mean_44 : decode cX12_mean 44 = .ok (.aload_n 0, 1) := by decide +kernel
theorem dX12_mean_45 : decode cX12_mean 45 = .ok (.getfield 7, 3) := by decide +kernel
theorem dX12_mean_48 : decode cX12_mean 48 = .ok (.if_icmp .ge 19, 3) := by decide +kernel
theorem dX12_mean_51 : decode cX12_mean 51 = .ok (.iload_n 3, 1) := by decide +kernel
theorem dX12_mean_52 : decode cX12_mean 52 = .ok (.aload_n 0, 1) := by decide +kernel
theorem dX12_mean_53 : decode cX12_mean 53 = .ok (.getfield 123, 3) := by decide +kernel
theorem dX12_mean_56 : decode cX12_mean 56 = .ok (.iload 4, 2) := by decide +kernel
theorem dX12_mean_58 : decode cX12_mean 58 = .ok (.iaload, 1) := by decide +kernel
theorem dX12_mean_59 : decode cX12_mean 59 = .ok (.iadd, 1) := by decide +kernel
theorem dX12_mean_60 : decode cX12_mean 60 = .ok (.istore_n 3, 1) := by decide +kernel
theorem dX12_mean_61 : decode cX12_mean 61 = .ok (.iinc 4 1, 3) := by decide +kernel
theorem dX12_mean_64 : decode cX12_mean 64 = .ok (.goto (-22), 3) := by decide +kernel
theorem dX12_mean_67 : decode cX12_mean 67 = .ok (.aload_n 0, 1) := by decide +kernel
theorem dX12_mean_68 : decode cX12_mean 68 = .ok (.iload_n 3, 1) := by decide +kernel
theorem dX12_mean_69 : decode cX12_mean 69 = .ok (.aload_n 0, 1) := by decide +kernel
theorem dX12_mean_70 : decode cX12_mean 70 = .ok (.getfield 7, 3) := by decide +kernel
theorem dX12_mean_73 : decode cX12_mean 73 = .ok (.iload_n 2, 1) := by decide +kernel
theorem dX12_mean_74 : decode cX12_mean 74 = .ok (.invokevirtual 383, 3) := by decide +kernel
theorem dX12_mean_77 : decode cX12_mean 77 = .ok (.lreturn, 1) := by decide +kernel
theorem dX12_book_0 : decode cX12_book 0 = .ok (.iload_n 1, 1) := by decide +kernel
theorem dX12_book_1 : decode cX12_book 1 = .ok (.iconst (-1), 1) := by decide +kernel
theorem dX12_book_2 : decode cX12_book 2 = .ok (.if_icmp .ne 10, 3) := by decide +kernel
theorem dX12_book_5 : decode cX12_book 5 = .ok (.aload_n 0, 1) := by decide +kernel
theorem dX12_book_6 : decode cX12_book 6 = .ok (.iconst 0, 1) := by decide +kernel
theorem dX12_book_7 : decode cX12_book 7 = .ok (.putfield 150, 3) := by decide +kernel
theorem dX12_book_10 : decode cX12_book 10 = .ok (.iconst 0, 1) := by decide +kernel
theorem dX12_book_11 : decode cX12_book 11 = .ok (.ireturn, 1) := by decide +kernel
theorem dX12_book_12 : decode cX12_book 12 = .ok (.aload_n 0, 1) := by decide +kernel
theorem dX12_book_13 : decode cX12_book 13 = .ok (.iload_n 1, 1) := by decide +kernel
theorem dX12_book_14 : decode cX12_book 14 = .ok (.invokevirtual 240, 3) := by decide +kernel
theorem dX12_book_17 : decode cX12_book 17 = .ok (.ifCond .ne 5, 3) := by decide +kernel
theorem dX12_book_20 : decode cX12_book 20 = .ok (.iconst (-1), 1) := by decide +kernel
theorem dX12_book_21 : decode cX12_book 21 = .ok (.ireturn, 1) := by decide +kernel
theorem dX12_book_22 : decode cX12_book 22 = .ok (.aload_n 0, 1) := by decide +kernel
theorem dX12_book_23 : decode cX12_book 23 = .ok (.iload_n 2, 1) := by decide +kernel
theorem dX12_book_24 : decode cX12_book 24 = .ok (.iconst 0, 1) := by decide +kernel
theorem dX12_book_25 : decode cX12_book 25 = .ok (.bipush 99, 2) := by decide +kernel
theorem dX12_book_27 : decode cX12_book 27 = .ok (.invokevirtual 236, 3) := by decide +kernel
theorem dX12_book_30 : decode cX12_book 30 = .ok (.ifCond .ne 6, 3) := by decide +kernel
theorem dX12_book_33 : decode cX12_book 33 = .ok (.bipush (-2), 2) := by decide +kernel
theorem dX12_book_35 : decode cX12_book 35 = .ok (.ireturn, 1) := by decide +kernel
theorem dX12_book_36 : decode cX12_book 36 = .ok (.aload_n 0, 1) := by decide +kernel
theorem dX12_book_37 : decode cX12_book 37 = .ok (.getfield 150, 3) := by decide +kernel
theorem dX12_book_40 : decode cX12_book 40 = .ok (.bipush 8, 2) := by decide +kernel
theorem dX12_book_42 : decode cX12_book 42 = .ok (.if_icmp .ne 6, 3) := by decide +kernel
theorem dX12_book_45 : decode cX12_book 45 = .ok (.bipush (-4), 2) := by decide +kernel
theorem dX12_book_47 : decode cX12_book 47 = .ok (.ireturn, 1) := by decide +kernel
theorem dX12_book_48 : decode cX12_book 48 = .ok (.aload_n 0, 1) := by decide +kernel
theorem dX12_book_49 : decode cX12_book 49 = .ok (.getfield 153, 3) := by decide +kernel
theorem dX12_book_52 : decode cX12_book 52 = .ok (.aload_n 0, 1) := by decide +kernel
theorem dX12_book_53 : decode cX12_book 53 = .ok (.getfield 150, 3) := by decide +kernel
theorem dX12_book_56 : decode cX12_book 56 = .ok (.iload_n 1, 1) := by decide +kernel
theorem dX12_book_57 : decode cX12_book 57 = .ok (.iastore, 1) := by decide +kernel
theorem dX12_book_58 : decode cX12_book 58 = .ok (.aload_n 0, 1) := by decide +kernel
theorem dX12_book_59 : decode cX12_book 59 = .ok (.getfield 156, 3) := by decide +kernel
theorem dX12_book_62 : decode cX12_book 62 = .ok (.aload_n 0, 1) := by decide +kernel
theorem dX12_book_63 : decode cX12_book 63 = .ok (.getfield 150, 3) := by decide +kernel
theorem dX12_book_66 : decode cX12_book 66 = .ok (.iload_n 2, 1) := by decide +kernel
theorem dX12_book_67 : decode cX12_book 67 = .ok (.iastore, 1) := by decide +kernel
theorem dX12_book_68 : decode cX12_book 68 = .ok (.aload_n 0, 1) := by decide +kernel
theorem dX12_book_69 : decode cX12_book 69 = .ok (.dup, 1) := by decide +kernel
theorem dX12_book_70 : decode cX12_book 70 = .ok (.getfield 150, 3) := by decide +kernel
theorem dX12_book_73 : decode cX12_book 73 = .ok (.iconst 1, 1) := by decide +kernel
theorem dX12_book_74 : decode cX12_book 74 = .ok (.iadd, 1) := by decide +kernel
theorem dX12_book_75 : decode cX12_book 75 = .ok (.putfield 150, 3) := by decide +kernel
theorem dX12_book_78 : decode cX12_book 78 = .ok (.aload_n 0, 1) := by decide +kernel
theorem dX12_book_79 : decode cX12_book 79 = .ok (.getfield 150, 3) := by decide +kernel
theorem dX12_book_82 : decode cX12_book 82 = .ok (.ireturn, 1) := by decide +kernel
theorem dX12_looked_0 : decode cX12_looked 0 = .ok (.iconst 0, 1) := by decide +kernel
theorem dX12_looked_1 : decode cX12_looked 1 = .ok (.istore_n 1, 1) := by decide +kernel
theorem dX12_looked_2 : decode cX12_looked 2 = .ok (.iload_n 1, 1) := by decide +kernel
theorem dX12_looked_3 : decode cX12_looked 3 = .ok (.aload_n 0, 1) := by decide +kernel
theorem dX12_looked_4 : decode cX12_looked 4 = .ok (.getfield 150, 3) := by decide +kernel
theorem dX12_looked_7 : decode cX12_looked 7 = .ok (.if_icmp .ge 31, 3) := by decide +kernel
theorem dX12_looked_10 : decode cX12_looked 10 = .ok (.aload_n 0, 1) := by decide +kernel
theorem dX12_looked_11 : decode cX12_looked 11 = .ok (.getfield 26, 3) := by decide +kernel
theorem dX12_looked_14 : decode cX12_looked 14 = .ok (.aload_n 0, 1) := by decide +kernel
theorem dX12_looked_15 : decode cX12_looked 15 = .ok (.getfield 153, 3) := by decide +kernel
theorem dX12_looked_18 : decode cX12_looked 18 = .ok (.iload_n 1, 1) := by decide +kernel
theorem dX12_looked_19 : decode cX12_looked 19 = .ok (.iaload, 1) := by decide +kernel
theorem dX12_looked_20 : decode cX12_looked 20 = .ok (.iaload, 1) := by decide +kernel
theorem dX12_looked_21 : decode cX12_looked 21 = .ok (.aload_n 0, 1) := by decide +kernel
theorem dX12_looked_22 : decode cX12_looked 22 = .ok (.getfield 156, 3) := by decide +kernel
theorem dX12_looked_25 : decode cX12_looked 25 = .ok (.iload_n 1, 1) := by decide +kernel
theorem dX12_looked_26 : decode cX12_looked 26 = .ok (.iaload, 1) := by decide +kernel
theorem dX12_looked_27 : decode cX12_looked 27 = .ok (.if_icmp .eq 5, 3) := by decide +kernel
theorem dX12_looked_30 : decode cX12_looked 30 = .ok (.iload_n 1, 1) := by decide +kernel
theorem dX12_looked_31 : decode cX12_looked 31 = .ok (.ireturn, 1) := by decide +kernel
theorem dX12_looked_32 : decode cX12_looked 32 = .ok (.iinc 1 1, 3) := by decide +kernel
theorem dX12_looked_35 : decode cX12_looked 35 = .ok (.goto (-33), 3) := by decide +kernel
theorem dX12_looked_38 : decode cX12_looked 38 = .ok (.bipush (-5), 2) := by decide +kernel
theorem dX12_looked_40 : decode cX12_looked 40 = .ok (.ireturn, 1) := by decide +kernel
theorem dX12_judge_0 : decode cX12_judge 0 = .ok (.aload_n 0, 1) := by decide +kernel
theorem dX12_judge_1 : decode cX12_judge 1 = .ok (.iload_n 1, 1) := by decide +kernel
theorem dX12_judge_2 : decode cX12_judge 2 = .ok (.invokevirtual 387, 3) := by decide +kernel
theorem dX12_judge_5 : decode cX12_judge 5 = .ok (.ifCond .ne 5, 3) := by decide +kernel
theorem dX12_judge_8 : decode cX12_judge 8 = .ok (.iconst (-1), 1) := by decide +kernel
theorem dX12_judge_9 : decode cX12_judge 9 = .ok (.ireturn, 1) := by decide +kernel
theorem dX12_judge_10 : decode cX12_judge 10 = .ok (.aload_n 0, 1) := by decide +kernel
theorem dX12_judge_11 : decode cX12_judge 11 = .ok (.getfield 223, 3) := by decide +kernel
theorem dX12_judge_14 : decode cX12_judge 14 = .ok (.iload_n 1, 1) := by decide +kernel
theorem dX12_judge_15 : decode cX12_judge 15 = .ok (.iaload, 1) := by decide +kernel
theorem dX12_judge_16 : decode cX12_judge 16 = .ok (.ifCond .lt 16, 3) := by decide +kernel
theorem dX12_judge_19 : decode cX12_judge 19 = .ok (.aload_n 0, 1) := by decide +kernel
theorem dX12_judge_20 : decode cX12_judge 20 = .ok (.getfield 223, 3) := by decide +kernel
theorem dX12_judge_23 : decode cX12_judge 23 = .ok (.iload_n 1, 1) := by decide +kernel
theorem dX12_judge_24 : decode cX12_judge 24 = .ok (.iaload, 1) := by decide +kernel
theorem dX12_judge_25 : decode cX12_judge 25 = .ok (.iconst 1, 1) := by decide +kernel
theorem dX12_judge_26 : decode cX12_judge 26 = .ok (.if_icmp .eq 6, 3) := by decide +kernel
theorem dX12_judge_29 : decode cX12_judge 29 = .ok (.bipush (-12), 2) := by decide +kernel
theorem dX12_judge_31 : decode cX12_judge 31 = .ok (.ireturn, 1) := by decide +kernel
theorem dX12_judge_32 : decode cX12_judge 32 = .ok (.iconst 0, 1) := by decide +kernel
theorem dX12_judge_33 : decode cX12_judge 33 = .ok (.istore_n 3, 1) := by decide +kernel
theorem dX12_judge_34 : decode cX12_judge 34 = .ok (.iload_n 3, 1) := by decide +kernel
theorem dX12_judge_35 : decode cX12_judge 35 = .ok (.aload_n 0, 1) := by decide +kernel
theorem dX12_judge_36 : decode cX12_judge 36 = .ok (.getfield 7, 3) := by decide +kernel
theorem dX12_judge_39 : decode cX12_judge 39 = .ok (.if_icmp .ge 67, 3) := by decide +kernel
theorem dX12_judge_42 : decode cX12_judge 42 = .ok (.aload_n 0, 1) := by decide +kernel
theorem dX12_judge_43 : decode cX12_judge 43 = .ok (.getfield 223, 3) := by decide +kernel
theorem dX12_judge_46 : decode cX12_judge 46 = .ok (.iload_n 1, 1) := by decide +kernel
theorem dX12_judge_47 : decode cX12_judge 47 = .ok (.iaload, 1) := by decide +kernel
theorem dX12_judge_48 : decode cX12_judge 48 = .ok (.ifCond .lt 21, 3) := by decide +kernel
theorem dX12_judge_51 : decode cX12_judge 51 = .ok (.iload_n 2, 1) := by decide +kernel
theorem dX12_judge_52 : decode cX12_judge 52 = .ok (.ifCond .lt 17, 3) := by decide +kernel
theorem dX12_judge_55 : decode cX12_judge 55 = .ok (.iload_n 2, 1) := by decide +kernel
theorem dX12_judge_56 : decode cX12_judge 56 = .ok (.aload_n 0, 1) := by decide +kernel
theorem dX12_judge_57 : decode cX12_judge 57 = .ok (.getfield 226, 3) := by decide +kernel
theorem dX12_judge_60 : decode cX12_judge 60 = .ok (.iload_n 1, 1) := by decide +kernel
theorem dX12_judge_61 : decode cX12_judge 61 = .ok (.iaload, 1) := by decide +kernel
theorem dX12_judge_62 : decode cX12_judge 62 = .ok (.iload_n 3, 1) := by decide +kernel
theorem dX12_judge_63 : decode cX12_judge 63 = .ok (.isub, 1) := by decide +kernel
theorem dX12_judge_64 : decode cX12_judge 64 = .ok (.iconst 1, 1) := by decide +kernel
theorem dX12_judge_65 : decode cX12_judge 65 = .ok (.isub, 1) := by decide +kernel
theorem dX12_judge_66 : decode cX12_judge 66 = .ok (.if_icmp .le 8, 3) := by decide +kernel
theorem dX12_judge_69 : decode cX12_judge 69 = .ok (.bipush 100, 2) := by decide +kernel
theorem dX12_judge_71 : decode cX12_judge 71 = .ok (.iload_n 3, 1) := by decide +kernel
theorem dX12_judge_72 : decode cX12_judge 72 = .ok (.iadd, 1) := by decide +kernel
theorem dX12_judge_73 : decode cX12_judge 73 = .ok (.ireturn, 1) := by decide +kernel
theorem dX12_judge_74 : decode cX12_judge 74 = .ok (.aload_n 0, 1) := by decide +kernel
theorem dX12_judge_75 : decode cX12_judge 75 = .ok (.getfield 229, 3) := by decide +kernel
theorem dX12_judge_78 : decode cX12_judge 78 = .ok (.bipush 60, 2) := by decide +kernel
theorem dX12_judge_80 : decode cX12_judge 80 = .ok (.iload_n 1, 1) := by decide +kernel
theorem dX12_judge_81 : decode cX12_judge 81 = .ok (.imul, 1) := by decide +kernel
theorem dX12_judge_82 : decode cX12_judge 82 = .ok (.iload_n 2, 1) := by decide +kernel
theorem dX12_judge_83 : decode cX12_judge 83 = .ok (.iadd, 1) := by decide +kernel
theorem dX12_judge_84 : decode cX12_judge 84 = .ok (.iload_n 3, 1) := by decide +kernel
theorem dX12_judge_85 : decode cX12_judge 85 = .ok (.iadd, 1) := by decide +kernel
theorem dX12_judge_86 : decode cX12_judge 86 = .ok (.laload, 1) := by decide +kernel
theorem dX12_judge_87 : decode cX12_judge 87 = .ok (.aload_n 0, 1) := by decide +kernel
theorem dX12_judge_88 : decode cX12_judge 88 = .ok (.getfield 26, 3) := by decide +kernel
theorem dX12_judge_91 : decode cX12_judge 91 = .ok (.iload_n 3, 1) := by decide +kernel
theorem dX12_judge_92 : decode cX12_judge 92 = .ok (.iaload, 1) := by decide +kernel
theorem dX12_judge_93 : decode cX12_judge 93 = .ok (.i2l, 1) := by decide +kernel
theorem dX12_judge_94 : decode cX12_judge 94 = .ok (.lcmp, 1) := by decide +kernel
theorem dX12_judge_95 : decode cX12_judge 95 = .ok (.ifCond .eq 5, 3) := by decide +kernel
theorem dX12_judge_98 : decode cX12_judge 98 = .ok (.iload_n 3, 1) := by decide +kernel
theorem dX12_judge_99 : decode cX12_judge 99 = .ok (.ireturn, 1) := by decide +kernel
theorem dX12_judge_100 : decode cX12_judge 100 = .ok (.iinc 3 1, 3) := by decide +kernel
theorem dX12_judge_103 : decode cX12_judge 103 = .ok (.goto (-69), 3) := by decide +kernel
theorem dX12_judge_106 : decode cX12_judge 106 = .ok (.bipush (-5), 2) := by decide +kernel
theorem dX12_judge_108 : decode cX12_judge 108 = .ok (.ireturn, 1) := by decide +kernel
theorem dX12_image_0 : decode cX12_image 0 = .ok (.aload_n 0, 1) := by decide +kernel
theorem dX12_image_1 : decode cX12_image 1 = .ok (.iconst 1, 1) := by decide +kernel
theorem dX12_image_2 : decode cX12_image 2 = .ok (.putfield 159, 3) := by decide +kernel
theorem dX12_image_5 : decode cX12_image 5 = .ok (.aload_n 0, 1) := by decide +kernel
theorem dX12_image_6 : decode cX12_image 6 = .ok (.aload_n 0, 1) := by decide +kernel
theorem dX12_image_7 : decode cX12_image 7 = .ok (.getfield 44, 3) := by decide +kernel
theorem dX12_image_10 : decode cX12_image 10 = .ok (.putfield 163, 3) := by decide +kernel
theorem dX12_image_13 : decode cX12_image 13 = .ok (.aload_n 0, 1) := by decide +kernel
theorem dX12_image_14 : decode cX12_image 14 = .ok (.aload_n 0, 1) := by decide +kernel
theorem dX12_image_15 : decode cX12_image 15 = .ok (.getfield 7, 3) := by decide +kernel
theorem dX12_image_18 : decode cX12_image 18 = .ok (.putfield 166, 3) := by decide +kernel
theorem dX12_image_21 : decode cX12_image 21 = .ok (.aload_n 0, 1) := by decide +kernel
theorem dX12_image_22 : decode cX12_image 22 = .ok (.aload_n 0, 1) := by decide +kernel
theorem dX12_image_23 : decode cX12_image 23 = .ok (.getfield 13, 3) := by decide +kernel
theorem dX12_image_26 : decode cX12_image 26 = .ok (.putfield 169, 3) := by decide +kernel
theorem dX12_image_29 : decode cX12_image 29 = .ok (.aload_n 0, 1) := by decide +kernel
theorem dX12_image_30 : decode cX12_image 30 = .ok (.aload_n 0, 1) := by decide +kernel
theorem dX12_image_31 : decode cX12_image 31 = .ok (.getfield 16, 3) := by decide +kernel
theorem dX12_image_34 : decode cX12_image 34 = .ok (.putfield 172, 3) := by decide +kernel
theorem dX12_image_37 : decode cX12_image 37 = .ok (.aload_n 0, 1) := by decide +kernel
theorem dX12_image_38 : decode cX12_image 38 = .ok (.aload_n 0, 1) := by decide +kernel
theorem dX12_image_39 : decode cX12_image 39 = .ok (.getfield 138, 3) := by decide +kernel
theorem dX12_image_42 : decode cX12_image 42 = .ok (.putfield 175, 3) := by decide +kernel
theorem dX12_image_45 : decode cX12_image 45 = .ok (.aload_n 0, 1) := by decide +kernel
theorem dX12_image_46 : decode cX12_image 46 = .ok (.aload_n 0, 1) := by decide +kernel
theorem dX12_image_47 : decode cX12_image 47 = .ok (.getfield 150, 3) := by decide +kernel
theorem dX12_image_50 : decode cX12_image 50 = .ok (.putfield 178, 3) := by decide +kernel
theorem dX12_image_53 : decode cX12_image 53 = .ok (.iconst 0, 1) := by decide +kernel
theorem dX12_image_54 : decode cX12_image 54 = .ok (.istore_n 1, 1) := by decide +kernel
theorem dX12_image_55 : decode cX12_image 55 = .ok (.iload_n 1, 1) := by decide +kernel
theorem dX12_image_56 : decode cX12_image 56 = .ok (.bipush 7, 2) := by decide +kernel
theorem dX12_image_58 : decode cX12_image 58 = .ok (.if_icmp .ge 69, 3) := by decide +kernel
theorem dX12_image_61 : decode cX12_image 61 = .ok (.aload_n 0, 1) := by decide +kernel
theorem dX12_image_62 : decode cX12_image 62 = .ok (.getfield 181, 3) := by decide +kernel
theorem dX12_image_65 : decode cX12_image 65 = .ok (.iload_n 1, 1) := by decide +kernel
theorem dX12_image_66 : decode cX12_image 66 = .ok (.aload_n 0, 1) := by decide +kernel
theorem dX12_image_67 : decode cX12_image 67 = .ok (.getfield 19, 3) := by decide +kernel
theorem dX12_image_70 : decode cX12_image 70 = .ok (.iload_n 1, 1) := by decide +kernel
theorem dX12_image_71 : decode cX12_image 71 = .ok (.iaload, 1) := by decide +kernel
theorem dX12_image_72 : decode cX12_image 72 = .ok (.iastore, 1) := by decide +kernel
theorem dX12_image_73 : decode cX12_image 73 = .ok (.aload_n 0, 1) := by decide +kernel
theorem dX12_image_74 : decode cX12_image 74 = .ok (.getfield 184, 3) := by decide +kernel
theorem dX12_image_77 : decode cX12_image 77 = .ok (.iload_n 1, 1) := by decide +kernel
theorem dX12_image_78 : decode cX12_image 78 = .ok (.aload_n 0, 1) := by decide +kernel
theorem dX12_image_79 : decode cX12_image 79 = .ok (.getfield 23, 3) := by decide +kernel
theorem dX12_image_82 : decode cX12_image 82 = .ok (.iload_n 1, 1) := by decide +kernel
theorem dX12_image_83 : decode cX12_image 83 = .ok (.iaload, 1) := by decide +kernel
theorem dX12_image_84 : decode cX12_image 84 = .ok (.iastore, 1) := by decide +kernel
theorem dX12_image_85 : decode cX12_image 85 = .ok (.aload_n 0, 1) := by decide +kernel
theorem dX12_image_86 : decode cX12_image 86 = .ok (.getfield 187, 3) := by decide +kernel
theorem dX12_image_89 : decode cX12_image 89 = .ok (.iload_n 1, 1) := by decide +kernel
theorem dX12_image_90 : decode cX12_image 90 = .ok (.aload_n 0, 1) := by decide +kernel
theorem dX12_image_91 : decode cX12_image 91 = .ok (.getfield 26, 3) := by decide +kernel
theorem dX12_image_94 : decode cX12_image 94 = .ok (.iload_n 1, 1) := by decide +kernel
theorem dX12_image_95 : decode cX12_image 95 = .ok (.iaload, 1) := by decide +kernel
theorem dX12_image_96 : decode cX12_image 96 = .ok (.iastore, 1) := by decide +kernel
theorem dX12_image_97 : decode cX12_image 97 = .ok (.aload_n 0, 1) := by decide +kernel
theorem dX12_image_98 : decode cX12_image 98 = .ok (.getfield 190, 3) := by decide +kernel
theorem dX12_image_101 : decode cX12_image 101 = .ok (.iload_n 1, 1) := by decide +kernel
theorem dX12_image_102 : decode cX12_image 102 = .ok (.aload_n 0, 1) := by decide +kernel
theorem dX12_image_103 : decode cX12_image 103 = .ok (.getfield 29, 3) := by decide +kernel
theorem dX12_image_106 : decode cX12_image 106 = .ok (.iload_n 1, 1) := by decide +kernel
theorem dX12_image_107 : decode cX12_image 107 = .ok (.iaload, 1) := by decide +kernel
theorem dX12_image_108 : decode cX12_image 108 = .ok (.iastore, 1) := by decide +kernel
theorem dX12_image_109 : decode cX12_image 109 = .ok (.aload_n 0, 1) := by decide +kernel
theorem dX12_image_110 : decode cX12_image 110 = .ok (.getfield 193, 3) := by decide +kernel
theorem dX12_image_113 : decode cX12_image 113 = .ok (.iload_n 1, 1) := by decide +kernel
theorem dX12_image_114 : decode cX12_image 114 = .ok (.aload_n 0, 1) := by decide +kernel
theorem dX12_image_115 : decode cX12_image 115 = .ok (.getfield 32, 3) := by decide +kernel
theorem dX12_image_118 : decode cX12_image 118 = .ok (.iload_n 1, 1) := by decide +kernel
theorem dX12_image_119 : decode cX12_image 119 = .ok (.iaload, 1) := by decide +kernel
theorem dX12_image_120 : decode cX12_image 120 = .ok (.iastore, 1) := by decide +kernel
theorem dX12_image_121 : decode cX12_image 121 = .ok (.iinc 1 1, 3) := by decide +kernel
theorem dX12_image_124 : decode cX12_image 124 = .ok (.goto (-69), 3) := by decide +kernel
theorem dX12_image_127 : decode cX12_image 127 = .ok (.iconst 0, 1) := by decide +kernel
theorem dX12_image_128 : decode cX12_image 128 = .ok (.istore_n 1, 1) := by decide +kernel
theorem dX12_image_129 : decode cX12_image 129 = .ok (.iload_n 1, 1) := by decide +kernel
theorem dX12_image_130 : decode cX12_image 130 = .ok (.bipush 28, 2) := by decide +kernel
theorem dX12_image_132 : decode cX12_image 132 = .ok (.if_icmp .ge 21, 3) := by decide +kernel
theorem dX12_image_135 : decode cX12_image 135 = .ok (.aload_n 0, 1) := by decide +kernel
theorem dX12_image_136 : decode cX12_image 136 = .ok (.getfield 196, 3) := by decide +kernel
theorem dX12_image_139 : decode cX12_image 139 = .ok (.iload_n 1, 1) := by decide +kernel
theorem dX12_image_140 : decode cX12_image 140 = .ok (.aload_n 0, 1) := by decide +kernel
theorem dX12_image_141 : decode cX12_image 141 = .ok (.getfield 35, 3) := by decide +kernel
theorem dX12_image_144 : decode cX12_image 144 = .ok (.iload_n 1, 1) := by decide +kernel
theorem dX12_image_145 : decode cX12_image 145 = .ok (.iaload, 1) := by decide +kernel
theorem dX12_image_146 : decode cX12_image 146 = .ok (.iastore, 1) := by decide +kernel
theorem dX12_image_147 : decode cX12_image 147 = .ok (.iinc 1 1, 3) := by decide +kernel
theorem dX12_image_150 : decode cX12_image 150 = .ok (.goto (-21), 3) := by decide +kernel
theorem dX12_image_153 : decode cX12_image 153 = .ok (.iconst 0, 1) := by decide +kernel
theorem dX12_image_154 : decode cX12_image 154 = .ok (.istore_n 1, 1) := by decide +kernel
theorem dX12_image_155 : decode cX12_image 155 = .ok (.iload_n 1, 1) := by decide +kernel
theorem dX12_image_156 : decode cX12_image 156 = .ok (.iconst 4, 1) := by decide +kernel
theorem dX12_image_157 : decode cX12_image 157 = .ok (.if_icmp .ge 57, 3) := by decide +kernel
theorem dX12_image_160 : decode cX12_image 160 = .ok (.aload_n 0, 1) := by decide +kernel
theorem dX12_image_161 : decode cX12_image 161 = .ok (.getfield 199, 3) := by decide +kernel
theorem dX12_image_164 : decode cX12_image 164 = .ok (.iload_n 1, 1) := by decide +kernel
theorem dX12_image_165 : decode cX12_image 165 = .ok (.aload_n 0, 1) := by decide +kernel
theorem dX12_image_166 : decode cX12_image 166 = .ok (.getfield 38, 3) := by decide +kernel
theorem dX12_image_169 : decode cX12_image 169 = .ok (.iload_n 1, 1) := by decide +kernel
theorem dX12_image_170 : decode cX12_image 170 = .ok (.iaload, 1) := by decide +kernel
theorem dX12_image_171 : decode cX12_image 171 = .ok (.iastore, 1) := by decide +kernel
theorem dX12_image_172 : decode cX12_image 172 = .ok (.aload_n 0, 1) := by decide +kernel
theorem dX12_image_173 : decode cX12_image 173 = .ok (.getfield 202, 3) := by decide +kernel
theorem dX12_image_176 : decode cX12_image 176 = .ok (.iload_n 1, 1) := by decide +kernel
theorem dX12_image_177 : decode cX12_image 177 = .ok (.aload_n 0, 1) := by decide +kernel
theorem dX12_image_178 : decode cX12_image 178 = .ok (.getfield 141, 3) := by decide +kernel
theorem dX12_image_181 : decode cX12_image 181 = .ok (.iload_n 1, 1) := by decide +kernel
theorem dX12_image_182 : decode cX12_image 182 = .ok (.iaload, 1) := by decide +kernel
theorem dX12_image_183 : decode cX12_image 183 = .ok (.iastore, 1) := by decide +kernel
theorem dX12_image_184 : decode cX12_image 184 = .ok (.aload_n 0, 1) := by decide +kernel
theorem dX12_image_185 : decode cX12_image 185 = .ok (.getfield 205, 3) := by decide +kernel
theorem dX12_image_188 : decode cX12_image 188 = .ok (.iload_n 1, 1) := by decide +kernel
theorem dX12_image_189 : decode cX12_image 189 = .ok (.aload_n 0, 1) := by decide +kernel
theorem dX12_image_190 : decode cX12_image 190 = .ok (.getfield 144, 3) := by decide +kernel
theorem dX12_image_193 : decode cX12_image 193 = .ok (.iload_n 1, 1) := by decide +kernel
theorem dX12_image_194 : decode cX12_image 194 = .ok (.iaload, 1) := by decide +kernel
theorem dX12_image_195 : decode cX12_image 195 = .ok (.iastore, 1) := by decide +kernel
theorem dX12_image_196 : decode cX12_image 196 = .ok (.aload_n 0, 1) := by decide +kernel
theorem dX12_image_197 : decode cX12_image 197 = .ok (.getfield 208, 3) := by decide +kernel
theorem dX12_image_200 : decode cX12_image 200 = .ok (.iload_n 1, 1) := by decide +kernel
theorem dX12_image_201 : decode cX12_image 201 = .ok (.aload_n 0, 1) := by decide +kernel
theorem dX12_image_202 : decode cX12_image 202 = .ok (.getfield 147, 3) := by decide +kernel
theorem dX12_image_205 : decode cX12_image 205 = .ok (.iload_n 1, 1) := by decide +kernel
theorem dX12_image_206 : decode cX12_image 206 = .ok (.iaload, 1) := by decide +kernel
theorem dX12_image_207 : decode cX12_image 207 = .ok (.iastore, 1) := by decide +kernel
theorem dX12_image_208 : decode cX12_image 208 = .ok (.iinc 1 1, 3) := by decide +kernel
theorem dX12_image_211 : decode cX12_image 211 = .ok (.goto (-56), 3) := by decide +kernel
theorem dX12_image_214 : decode cX12_image 214 = .ok (.iconst 0, 1) := by decide +kernel
theorem dX12_image_215 : decode cX12_image 215 = .ok (.istore_n 1, 1) := by decide +kernel
theorem dX12_image_216 : decode cX12_image 216 = .ok (.iload_n 1, 1) := by decide +kernel
theorem dX12_image_217 : decode cX12_image 217 = .ok (.bipush 8, 2) := by decide +kernel
theorem dX12_image_219 : decode cX12_image 219 = .ok (.if_icmp .ge 33, 3) := by decide +kernel
theorem dX12_image_222 : decode cX12_image 222 = .ok (.aload_n 0, 1) := by decide +kernel
theorem dX12_image_223 : decode cX12_image 223 = .ok (.getfield 211, 3) := by decide +kernel
theorem dX12_image_226 : decode cX12_image 226 = .ok (.iload_n 1, 1) := by decide +kernel
theorem dX12_image_227 : decode cX12_image 227 = .ok (.aload_n 0, 1) := by decide +kernel
theorem dX12_image_228 : decode cX12_image 228 = .ok (.getfield 153, 3) := by decide +kernel
theorem dX12_image_231 : decode cX12_image 231 = .ok (.iload_n 1, 1) := by decide +kernel
theorem dX12_image_232 : decode cX12_image 232 = .ok (.iaload, 1) := by decide +kernel
theorem dX12_image_233 : decode cX12_image 233 = .ok (.iastore, 1) := by decide +kernel
theorem dX12_image_234 : decode cX12_image 234 = .ok (.aload_n 0, 1) := by decide +kernel
theorem dX12_image_235 : decode cX12_image 235 = .ok (.getfield 214, 3) := by decide +kernel
theorem dX12_image_238 : decode cX12_image 238 = .ok (.iload_n 1, 1) := by decide +kernel
theorem dX12_image_239 : decode cX12_image 239 = .ok (.aload_n 0, 1) := by decide +kernel
theorem dX12_image_240 : decode cX12_image 240 = .ok (.getfield 156, 3) := by decide +kernel
theorem dX12_image_243 : decode cX12_image 243 = .ok (.iload_n 1, 1) := by decide +kernel
theorem dX12_image_244 : decode cX12_image 244 = .ok (.iaload, 1) := by decide +kernel
theorem dX12_image_245 : decode cX12_image 245 = .ok (.iastore, 1) := by decide +kernel
theorem dX12_image_246 : decode cX12_image 246 = .ok (.iinc 1 1, 3) := by decide +kernel
theorem dX12_image_249 : decode cX12_image 249 = .ok (.goto (-33), 3) := by decide +kernel
theorem dX12_image_252 : decode cX12_image 252 = .ok (.aload_n 0, 1) := by decide +kernel
theorem dX12_image_253 : decode cX12_image 253 = .ok (.getfield 7, 3) := by decide +kernel
theorem dX12_image_256 : decode cX12_image 256 = .ok (.ireturn, 1) := by decide +kernel
theorem dX12_undo_0 : decode cX12_undo 0 = .ok (.aload_n 0, 1) := by decide +kernel
theorem dX12_undo_1 : decode cX12_undo 1 = .ok (.getfield 159, 3) := by decide +kernel
theorem dX12_undo_4 : decode cX12_undo 4 = .ok (.ifCond .ne 6, 3) := by decide +kernel
theorem dX12_undo_7 : decode cX12_undo 7 = .ok (.bipush (-3), 2) := by decide +kernel
theorem dX12_undo_9 : decode cX12_undo 9 = .ok (.ireturn, 1) := by decide +kernel
theorem dX12_undo_10 : decode cX12_undo 10 = .ok (.aload_n 0, 1) := by decide +kernel
theorem dX12_undo_11 : decode cX12_undo 11 = .ok (.aload_n 0, 1) := by decide +kernel
theorem dX12_undo_12 : decode cX12_undo 12 = .ok (.getfield 163, 3) := by decide +kernel
theorem dX12_undo_15 : decode cX12_undo 15 = .ok (.putfield 44, 3) := by decide +kernel
theorem dX12_undo_18 : decode cX12_undo 18 = .ok (.aload_n 0, 1) := by decide +kernel
theorem dX12_undo_19 : decode cX12_undo 19 = .ok (.aload_n 0, 1) := by decide +kernel
theorem dX12_undo_20 : decode cX12_undo 20 = .ok (.getfield 166, 3) := by decide +kernel
theorem dX12_undo_23 : decode cX12_undo 23 = .ok (.putfield 7, 3) := by decide +kernel
theorem dX12_undo_26 : decode cX12_undo 26 = .ok (.aload_n 0, 1) := by decide +kernel
theorem dX12_undo_27 : decode cX12_undo 27 = .ok (.aload_n 0, 1) := by decide +kernel
theorem dX12_undo_28 : decode cX12_undo 28 = .ok (.getfield 169, 3) := by decide +kernel
theorem dX12_undo_31 : decode cX12_undo 31 = .ok (.putfield 13, 3) := by decide +kernel
theorem dX12_undo_34 : decode cX12_undo 34 = .ok (.aload_n 0, 1) := by decide +kernel
theorem dX12_undo_35 : decode cX12_undo 35 = .ok (.aload_n 0, 1) := by decide +kernel
theorem dX12_undo_36 : decode cX12_undo 36 = .ok (.getfield 172, 3) := by decide +kernel
theorem dX12_undo_39 : decode cX12_undo 39 = .ok (.putfield 16, 3) := by decide +kernel
theorem dX12_undo_42 : decode cX12_undo 42 = .ok (.aload_n 0, 1) := by decide +kernel
theorem dX12_undo_43 : decode cX12_undo 43 = .ok (.aload_n 0, 1) := by decide +kernel
theorem dX12_undo_44 : decode cX12_undo 44 = .ok (.getfield 175, 3) := by decide +kernel
theorem dX12_undo_47 : decode cX12_undo 47 = .ok (.putfield 138, 3) := by decide +kernel
theorem dX12_undo_50 : decode cX12_undo 50 = .ok (.aload_n 0, 1) := by decide +kernel
theorem dX12_undo_51 : decode cX12_undo 51 = .ok (.aload_n 0, 1) := by decide +kernel
theorem dX12_undo_52 : decode cX12_undo 52 = .ok (.getfield 178, 3) := by decide +kernel
theorem dX12_undo_55 : decode cX12_undo 55 = .ok (.putfield 150, 3) := by decide +kernel
theorem dX12_undo_58 : decode cX12_undo 58 = .ok (.iconst 0, 1) := by decide +kernel
theorem dX12_undo_59 : decode cX12_undo 59 = .ok (.istore_n 1, 1) := by decide +kernel
theorem dX12_undo_60 : decode cX12_undo 60 = .ok (.iload_n 1, 1) := by decide +kernel
theorem dX12_undo_61 : decode cX12_undo 61 = .ok (.bipush 7, 2) := by decide +kernel
theorem dX12_undo_63 : decode cX12_undo 63 = .ok (.if_icmp .ge 69, 3) := by decide +kernel
theorem dX12_undo_66 : decode cX12_undo 66 = .ok (.aload_n 0, 1) := by decide +kernel
theorem dX12_undo_67 : decode cX12_undo 67 = .ok (.getfield 19, 3) := by decide +kernel
theorem dX12_undo_70 : decode cX12_undo 70 = .ok (.iload_n 1, 1) := by decide +kernel
theorem dX12_undo_71 : decode cX12_undo 71 = .ok (.aload_n 0, 1) := by decide +kernel
theorem dX12_undo_72 : decode cX12_undo 72 = .ok (.getfield 181, 3) := by decide +kernel
theorem dX12_undo_75 : decode cX12_undo 75 = .ok (.iload_n 1, 1) := by decide +kernel
theorem dX12_undo_76 : decode cX12_undo 76 = .ok (.iaload, 1) := by decide +kernel
theorem dX12_undo_77 : decode cX12_undo 77 = .ok (.iastore, 1) := by decide +kernel
theorem dX12_undo_78 : decode cX12_undo 78 = .ok (.aload_n 0, 1) := by decide +kernel
theorem dX12_undo_79 : decode cX12_undo 79 = .ok (.getfield 23, 3) := by decide +kernel
theorem dX12_undo_82 : decode cX12_undo 82 = .ok (.iload_n 1, 1) := by decide +kernel
theorem dX12_undo_83 : decode cX12_undo 83 = .ok (.aload_n 0, 1) := by decide +kernel
theorem dX12_undo_84 : decode cX12_undo 84 = .ok (.getfield 184, 3) := by decide +kernel
theorem dX12_undo_87 : decode cX12_undo 87 = .ok (.iload_n 1, 1) := by decide +kernel
theorem dX12_undo_88 : decode cX12_undo 88 = .ok (.iaload, 1) := by decide +kernel
theorem dX12_undo_89 : decode cX12_undo 89 = .ok (.iastore, 1) := by decide +kernel
theorem dX12_undo_90 : decode cX12_undo 90 = .ok (.aload_n 0, 1) := by decide +kernel
theorem dX12_undo_91 : decode cX12_undo 91 = .ok (.getfield 26, 3) := by decide +kernel
theorem dX12_undo_94 : decode cX12_undo 94 = .ok (.iload_n 1, 1) := by decide +kernel
theorem dX12_undo_95 : decode cX12_undo 95 = .ok (.aload_n 0, 1) := by decide +kernel
theorem dX12_undo_96 : decode cX12_undo 96 = .ok (.getfield 187, 3) := by decide +kernel
theorem dX12_undo_99 : decode cX12_undo 99 = .ok (.iload_n 1, 1) := by decide +kernel
theorem dX12_undo_100 : decode cX12_undo 100 = .ok (.iaload, 1) := by decide +kernel
theorem dX12_undo_101 : decode cX12_undo 101 = .ok (.iastore, 1) := by decide +kernel
theorem dX12_undo_102 : decode cX12_undo 102 = .ok (.aload_n 0, 1) := by decide +kernel
theorem dX12_undo_103 : decode cX12_undo 103 = .ok (.getfield 29, 3) := by decide +kernel
theorem dX12_undo_106 : decode cX12_undo 106 = .ok (.iload_n 1, 1) := by decide +kernel
theorem dX12_undo_107 : decode cX12_undo 107 = .ok (.aload_n 0, 1) := by decide +kernel
theorem dX12_undo_108 : decode cX12_undo 108 = .ok (.getfield 190, 3) := by decide +kernel
theorem dX12_undo_111 : decode cX12_undo 111 = .ok (.iload_n 1, 1) := by decide +kernel
theorem dX12_undo_112 : decode cX12_undo 112 = .ok (.iaload, 1) := by decide +kernel
theorem dX12_undo_113 : decode cX12_undo 113 = .ok (.iastore, 1) := by decide +kernel
theorem dX12_undo_114 : decode cX12_undo 114 = .ok (.aload_n 0, 1) := by decide +kernel
theorem dX12_undo_115 : decode cX12_undo 115 = .ok (.getfield 32, 3) := by decide +kernel
theorem dX12_undo_118 : decode cX12_undo 118 = .ok (.iload_n 1, 1) := by decide +kernel
theorem dX12_undo_119 : decode cX12_undo 119 = .ok (.aload_n 0, 1) := by decide +kernel
theorem dX12_undo_120 : decode cX12_undo 120 = .ok (.getfield 193, 3) := by decide +kernel
theorem dX12_undo_123 : decode cX12_undo 123 = .ok (.iload_n 1, 1) := by decide +kernel
theorem dX12_undo_124 : decode cX12_undo 124 = .ok (.iaload, 1) := by decide +kernel
theorem dX12_undo_125 : decode cX12_undo 125 = .ok (.iastore, 1) := by decide +kernel
theorem dX12_undo_126 : decode cX12_undo 126 = .ok (.iinc 1 1, 3) := by decide +kernel
theorem dX12_undo_129 : decode cX12_undo 129 = .ok (.goto (-69), 3) := by decide +kernel
theorem dX12_undo_132 : decode cX12_undo 132 = .ok (.iconst 0, 1) := by decide +kernel
theorem dX12_undo_133 : decode cX12_undo 133 = .ok (.istore_n 1, 1) := by decide +kernel
theorem dX12_undo_134 : decode cX12_undo 134 = .ok (.iload_n 1, 1) := by decide +kernel
theorem dX12_undo_135 : decode cX12_undo 135 = .ok (.bipush 28, 2) := by decide +kernel
theorem dX12_undo_137 : decode cX12_undo 137 = .ok (.if_icmp .ge 21, 3) := by decide +kernel
theorem dX12_undo_140 : decode cX12_undo 140 = .ok (.aload_n 0, 1) := by decide +kernel
theorem dX12_undo_141 : decode cX12_undo 141 = .ok (.getfield 35, 3) := by decide +kernel
theorem dX12_undo_144 : decode cX12_undo 144 = .ok (.iload_n 1, 1) := by decide +kernel
theorem dX12_undo_145 : decode cX12_undo 145 = .ok (.aload_n 0, 1) := by decide +kernel
theorem dX12_undo_146 : decode cX12_undo 146 = .ok (.getfield 196, 3) := by decide +kernel
theorem dX12_undo_149 : decode cX12_undo 149 = .ok (.iload_n 1, 1) := by decide +kernel
theorem dX12_undo_150 : decode cX12_undo 150 = .ok (.iaload, 1) := by decide +kernel
theorem dX12_undo_151 : decode cX12_undo 151 = .ok (.iastore, 1) := by decide +kernel
theorem dX12_undo_152 : decode cX12_undo 152 = .ok (.iinc 1 1, 3) := by decide +kernel
theorem dX12_undo_155 : decode cX12_undo 155 = .ok (.goto (-21), 3) := by decide +kernel
theorem dX12_undo_158 : decode cX12_undo 158 = .ok (.iconst 0, 1) := by decide +kernel
theorem dX12_undo_159 : decode cX12_undo 159 = .ok (.istore_n 1, 1) := by decide +kernel
theorem dX12_undo_160 : decode cX12_undo 160 = .ok (.iload_n 1, 1) := by decide +kernel
theorem dX12_undo_161 : decode cX12_undo 161 = .ok (.iconst 4, 1) := by decide +kernel
theorem dX12_undo_162 : decode cX12_undo 162 = .ok (.if_icmp .ge 57, 3) := by decide +kernel
theorem dX12_undo_165 : decode cX12_undo 165 = .ok (.aload_n 0, 1) := by decide +kernel
theorem dX12_undo_166 : decode cX12_undo 166 = .ok (.getfield 38, 3) := by decide +kernel
theorem dX12_undo_169 : decode cX12_undo 169 = .ok (.iload_n 1, 1) := by decide +kernel
theorem dX12_undo_170 : decode cX12_undo 170 = .ok (.aload_n 0, 1) := by decide +kernel
theorem dX12_undo_171 : decode cX12_undo 171 = .ok (.getfield 199, 3) := by decide +kernel
theorem dX12_undo_174 : decode cX12_undo 174 = .ok (.iload_n 1, 1) := by decide +kernel
theorem dX12_undo_175 : decode cX12_undo 175 = .ok (.iaload, 1) := by decide +kernel
theorem dX12_undo_176 : decode cX12_undo 176 = .ok (.iastore, 1) := by decide +kernel
theorem dX12_undo_177 : decode cX12_undo 177 = .ok (.aload_n 0, 1) := by decide +kernel
theorem dX12_undo_178 : decode cX12_undo 178 = .ok (.getfield 141, 3) := by decide +kernel
theorem dX12_undo_181 : decode cX12_undo 181 = .ok (.iload_n 1, 1) := by decide +kernel
theorem dX12_undo_182 : decode cX12_undo 182 = .ok (.aload_n 0, 1) := by decide +kernel
theorem dX12_undo_183 : decode cX12_undo 183 = .ok (.getfield 202, 3) := by decide +kernel
theorem dX12_undo_186 : decode cX12_undo 186 = .ok (.iload_n 1, 1) := by decide +kernel
theorem dX12_undo_187 : decode cX12_undo 187 = .ok (.iaload, 1) := by decide +kernel
theorem dX12_undo_188 : decode cX12_undo 188 = .ok (.iastore, 1) := by decide +kernel
theorem dX12_undo_189 : decode cX12_undo 189 = .ok (.aload_n 0, 1) := by decide +kernel
theorem dX12_undo_190 : decode cX12_undo 190 = .ok (.getfield 144, 3) := by decide +kernel
theorem dX12_undo_193 : decode cX12_undo 193 = .ok (.iload_n 1, 1) := by decide +kernel
theorem dX12_undo_194 : decode cX12_undo 194 = .ok (.aload_n 0, 1) := by decide +kernel
theorem dX12_undo_195 : decode cX12_undo 195 = .ok (.getfield 205, 3) := by decide +kernel
theorem dX12_undo_198 : decode cX12_undo 198 = .ok (.iload_n 1, 1) := by decide +kernel
theorem dX12_undo_199 : decode cX12_undo 199 = .ok (.iaload, 1) := by decide +kernel
theorem dX12_undo_200 : decode cX12_undo 200 = .ok (.iastore, 1) := by decide +kernel
theorem dX12_undo_201 : decode cX12_undo 201 = .ok (.aload_n 0, 1) := by decide +kernel
theorem dX12_undo_202 : decode cX12_undo 202 = .ok (.getfield 147, 3) := by decide +kernel
theorem dX12_undo_205 : decode cX12_undo 205 = .ok (.iload_n 1, 1) := by decide +kernel
theorem dX12_undo_206 : decode cX12_undo 206 = .ok (.aload_n 0, 1) := by decide +kernel
theorem dX12_undo_207 : decode cX12_undo 207 = .ok (.getfield 208, 3) := by decide +kernel
theorem dX12_undo_210 : decode cX12_undo 210 = .ok (.iload_n 1, 1) := by decide +kernel
theorem dX12_undo_211 : decode cX12_undo 211 = .ok (.iaload, 1) := by decide +kernel
theorem dX12_undo_212 : decode cX12_undo 212 = .ok (.iastore, 1) := by decide +kernel
theorem dX12_undo_213 : decode cX12_undo 213 = .ok (.iinc 1 1, 3) := by decide +kernel
theorem dX12_undo_216 : decode cX12_undo 216 = .ok (.goto (-56), 3) := by decide +kernel
theorem dX12_undo_219 : decode cX12_undo 219 = .ok (.iconst 0, 1) := by decide +kernel
theorem dX12_undo_220 : decode cX12_undo 220 = .ok (.istore_n 1, 1) := by decide +kernel
theorem dX12_undo_221 : decode cX12_undo 221 = .ok (.iload_n 1, 1) := by decide +kernel
theorem dX12_undo_222 : decode cX12_undo 222 = .ok (.bipush 8, 2) := by decide +kernel
theorem dX12_undo_224 : decode cX12_undo 224 = .ok (.if_icmp .ge 33, 3) := by decide +kernel
theorem dX12_undo_227 : decode cX12_undo 227 = .ok (.aload_n 0, 1) := by decide +kernel
theorem dX12_undo_228 : decode cX12_undo 228 = .ok (.getfield 153, 3) := by decide +kernel
theorem dX12_undo_231 : decode cX12_undo 231 = .ok (.iload_n 1, 1) := by decide +kernel
theorem dX12_undo_232 : decode cX12_undo 232 = .ok (.aload_n 0, 1) := by decide +kernel
theorem dX12_undo_233 : decode cX12_undo 233 = .ok (.getfield 211, 3) := by decide +kernel
theorem dX12_undo_236 : decode cX12_undo 236 = .ok (.iload_n 1, 1) := by decide +kernel
theorem dX12_undo_237 : decode cX12_undo 237 = .ok (.iaload, 1) := by decide +kernel
theorem dX12_undo_238 : decode cX12_undo 238 = .ok (.iastore, 1) := by decide +kernel
theorem dX12_undo_239 : decode cX12_undo 239 = .ok (.aload_n 0, 1) := by decide +kernel
theorem dX12_undo_240 : decode cX12_undo 240 = .ok (.getfield 156, 3) := by decide +kernel
theorem dX12_undo_243 : decode cX12_undo 243 = .ok (.iload_n 1, 1) := by decide +kernel
theorem dX12_undo_244 : decode cX12_undo 244 = .ok (.aload_n 0, 1) := by decide +kernel
theorem dX12_undo_245 : decode cX12_undo 245 = .ok (.getfield 214, 3) := by decide +kernel
theorem dX12_undo_248 : decode cX12_undo 248 = .ok (.iload_n 1, 1) := by decide +kernel
theorem dX12_undo_249 : decode cX12_undo 249 = .ok (.iaload, 1) := by decide +kernel
theorem dX12_undo_250 : decode cX12_undo 250 = .ok (.iastore, 1) := by decide +kernel
theorem dX12_undo_251 : decode cX12_undo 251 = .ok (.iinc 1 1, 3) := by decide +kernel
theorem dX12_undo_254 : decode cX12_undo 254 = .ok (.goto (-33), 3) := by decide +kernel
theorem dX12_undo_257 : decode cX12_undo 257 = .ok (.aload_n 0, 1) := by decide +kernel
theorem dX12_undo_258 : decode cX12_undo 258 = .ok (.getfield 7, 3) := by decide +kernel
theorem dX12_undo_261 : decode cX12_undo 261 = .ok (.ireturn, 1) := by decide +kernel
theorem dX12_body_0 : decode cX12_body 0 = .ok (.aload_n 0, 1) := by decide +kernel
theorem dX12_body_1 : decode cX12_body 1 = .ok (.getfield 217, 3) := by decide +kernel
theorem dX12_body_4 : decode cX12_body 4 = .ok (.bipush 20, 2) := by decide +kernel
theorem dX12_body_6 : decode cX12_body 6 = .ok (.if_icmp .ge 13, 3) := by decide +kernel
theorem dX12_body_9 : decode cX12_body 9 = .ok (.aload_n 0, 1) := by decide +kernel
theorem dX12_body_10 : decode cX12_body 10 = .ok (.getfield 220, 3) := by decide +kernel
theorem dX12_body_13 : decode cX12_body 13 = .ok (.aload_n 0, 1) := by decide +kernel
theorem dX12_body_14 : decode cX12_body 14 = .ok (.getfield 217, 3) := by decide +kernel
theorem dX12_body_17 : decode cX12_body 17 = .ok (.iload_n 1, 1) := by decide +kernel
theorem dX12_body_18 : decode cX12_body 18 = .ok (.iastore, 1) := by decide +kernel
theorem dX12_body_19 : decode cX12_body 19 = .ok (.aload_n 0, 1) := by decide +kernel
theorem dX12_body_20 : decode cX12_body 20 = .ok (.dup, 1) := by decide +kernel
theorem dX12_body_21 : decode cX12_body 21 = .ok (.getfield 217, 3) := by decide +kernel
theorem dX12_body_24 : decode cX12_body 24 = .ok (.iconst 1, 1) := by decide +kernel
theorem dX12_body_25 : decode cX12_body 25 = .ok (.iadd, 1) := by decide +kernel
theorem dX12_body_26 : decode cX12_body 26 = .ok (.putfield 217, 3) := by decide +kernel
theorem dX12_body_29 : decode cX12_body 29 = .ok (.return_, 1) := by decide +kernel
theorem dX12_childRuns_0 : decode cX12_childRuns 0 = .ok (.aload_n 0, 1) := by decide +kernel
theorem dX12_childRuns_1 : decode cX12_childRuns 1 = .ok (.bipush 10, 2) := by decide +kernel
theorem dX12_childRuns_3 : decode cX12_childRuns 3 = .ok (.invokevirtual 390, 3) := by decide +kernel
theorem dX12_childRuns_6 : decode cX12_childRuns 6 = .ok (.iload_n 2, 1) := by decide +kernel
theorem dX12_childRuns_7 : decode cX12_childRuns 7 = .ok (.iload_n 1, 1) := by decide +kernel
theorem dX12_childRuns_8 : decode cX12_childRuns 8 = .ok (.iadd, 1) := by decide +kernel
theorem dX12_childRuns_9 : decode cX12_childRuns 9 = .ok (.ireturn, 1) := by decide +kernel
theorem dX12_runsAct_0 : decode cX12_runsAct 0 = .ok (.aload_n 0, 1) := by decide +kernel
theorem dX12_runsAct_1 : decode cX12_runsAct 1 = .ok (.getfield 19, 3) := by decide +kernel
theorem dX12_runsAct_4 : decode cX12_runsAct 4 = .ok (.iload_n 1, 1) := by decide +kernel
theorem dX12_runsAct_5 : decode cX12_runsAct 5 = .ok (.iaload, 1) := by decide +kernel
theorem dX12_runsAct_6 : decode cX12_runsAct 6 = .ok (.tableswitch 83 2 6 #[34, 83, 49, 34, 63], 34) := by decide +kernel
theorem dX12_runsAct_40 : decode cX12_runsAct 40 = .ok (.aload_n 0, 1) := by decide +kernel
theorem dX12_runsAct_41 : decode cX12_runsAct 41 = .ok (.bipush 30, 2) := by decide +kernel
theorem dX12_runsAct_43 : decode cX12_runsAct 43 = .ok (.invokevirtual 390, 3) := by decide +kernel
theorem dX12_runsAct_46 : decode cX12_runsAct 46 = .ok (.aload_n 0, 1) := by decide +kernel
theorem dX12_runsAct_47 : decode cX12_runsAct 47 = .ok (.iload_n 1, 1) := by decide +kernel
theorem dX12_runsAct_48 : decode cX12_runsAct 48 = .ok (.iload_n 2, 1) := by decide +kernel
theorem dX12_runsAct_49 : decode cX12_runsAct 49 = .ok (.iconst 3, 1) := by decide +kernel
theorem dX12_runsAct_50 : decode cX12_runsAct 50 = .ok (.imul, 1) := by decide +kernel
theorem dX12_runsAct_51 : decode cX12_runsAct 51 = .ok (.invokevirtual 393, 3) := by decide +kernel
theorem dX12_runsAct_54 : decode cX12_runsAct 54 = .ok (.ireturn, 1) := by decide +kernel
theorem dX12_runsAct_55 : decode cX12_runsAct 55 = .ok (.aload_n 0, 1) := by decide +kernel
theorem dX12_runsAct_56 : decode cX12_runsAct 56 = .ok (.bipush 50, 2) := by decide +kernel
theorem dX12_runsAct_58 : decode cX12_runsAct 58 = .ok (.invokevirtual 390, 3) := by decide +kernel
theorem dX12_runsAct_61 : decode cX12_runsAct 61 = .ok (.aload_n 0, 1) := by decide +kernel
theorem dX12_runsAct_62 : decode cX12_runsAct 62 = .ok (.iload_n 1, 1) := by decide +kernel
theorem dX12_runsAct_63 : decode cX12_runsAct 63 = .ok (.iload_n 2, 1) := by decide +kernel
theorem dX12_runsAct_64 : decode cX12_runsAct 64 = .ok (.invokevirtual 393, 3) := by decide +kernel
theorem dX12_runsAct_67 : decode cX12_runsAct 67 = .ok (.ineg, 1) := by decide +kernel
theorem dX12_runsAct_68 : decode cX12_runsAct 68 = .ok (.ireturn, 1) := by decide +kernel
theorem dX12_runsAct_69 : decode cX12_runsAct 69 = .ok (.aload_n 0, 1) := by decide +kernel
theorem dX12_runsAct_70 : decode cX12_runsAct 70 = .ok (.bipush 71, 2) := by decide +kernel
theorem dX12_runsAct_72 : decode cX12_runsAct 72 = .ok (.invokevirtual 390, 3) := by decide +kernel
theorem dX12_runsAct_75 : decode cX12_runsAct 75 = .ok (.aload_n 0, 1) := by decide +kernel
theorem dX12_runsAct_76 : decode cX12_runsAct 76 = .ok (.iload_n 1, 1) := by decide +kernel
theorem dX12_runsAct_77 : decode cX12_runsAct 77 = .ok (.iload_n 2, 1) := by decide +kernel
theorem dX12_runsAct_78 : decode cX12_runsAct 78 = .ok (.invokevirtual 393, 3) := by decide +kernel
theorem dX12_runsAct_81 : decode cX12_runsAct 81 = .ok (.aload_n 0, 1) := by decide +kernel
theorem dX12_runsAct_82 : decode cX12_runsAct 82 = .ok (.getfield 23, 3) := by decide +kernel
theorem dX12_runsAct_85 : decode cX12_runsAct 85 = .ok (.iload_n 1, 1) := by decide +kernel
theorem dX12_runsAct_86 : decode cX12_runsAct 86 = .ok (.iaload, 1) := by decide +kernel
theorem dX12_runsAct_87 : decode cX12_runsAct 87 = .ok (.ixor, 1) := by decide +kernel
theorem dX12_runsAct_88 : decode cX12_runsAct 88 = .ok (.ireturn, 1) := by decide +kernel
theorem dX12_runsAct_89 : decode cX12_runsAct 89 = .ok (.aload_n 0, 1) := by decide +kernel
theorem dX12_runsAct_90 : decode cX12_runsAct 90 = .ok (.iload_n 1, 1) := by decide +kernel
theorem dX12_runsAct_91 : decode cX12_runsAct 91 = .ok (.iload_n 2, 1) := by decide +kernel
theorem dX12_runsAct_92 : decode cX12_runsAct 92 = .ok (.invokevirtual 393, 3) := by decide +kernel
theorem dX12_runsAct_95 : decode cX12_runsAct 95 = .ok (.ireturn, 1) := by decide +kernel
theorem dX12_childStands_0 : decode cX12_childStands 0 = .ok (.aload_n 0, 1) := by decide +kernel
theorem dX12_childStands_1 : decode cX12_childStands 1 = .ok (.bipush 11, 2) := by decide +kernel
theorem dX12_childStands_3 : decode cX12_childStands 3 = .ok (.invokevirtual 390, 3) := by decide +kernel
theorem dX12_childStands_6 : decode cX12_childStands 6 = .ok (.aload_n 0, 1) := by decide +kernel
theorem dX12_childStands_7 : decode cX12_childStands 7 = .ok (.iload_n 1, 1) := by decide +kernel
theorem dX12_childStands_8 : decode cX12_childStands 8 = .ok (.iload_n 2, 1) := by decide +kernel
theorem dX12_childStands_9 : decode cX12_childStands 9 = .ok (.invokevirtual 396, 3) := by decide +kernel
theorem dX12_childStands_12 : decode cX12_childStands 12 = .ok (.aload_n 0, 1) := by decide +kernel
theorem dX12_childStands_13 : decode cX12_childStands 13 = .ok (.getfield 23, 3) := by decide +kernel
theorem dX12_childStands_16 : decode cX12_childStands 16 = .ok (.iload_n 1, 1) := by decide +kernel
theorem dX12_childStands_17 : decode cX12_childStands 17 = .ok (.iaload, 1) := by decide +kernel
theorem dX12_childStands_18 : decode cX12_childStands 18 = .ok (.isub, 1) := by decide +kernel
theorem dX12_childStands_19 : decode cX12_childStands 19 = .ok (.ireturn, 1) := by decide +kernel
theorem dX12_quickStands_0 : decode cX12_quickStands 0 = .ok (.aload_n 0, 1) := by decide +kernel
theorem dX12_quickStands_1 : decode cX12_quickStands 1 = .ok (.bipush 20, 2) := by decide +kernel
theorem dX12_quickStands_3 : decode cX12_quickStands 3 = .ok (.invokevirtual 390, 3) := by decide +kernel
theorem dX12_quickStands_6 : decode cX12_quickStands 6 = .ok (.aload_n 0, 1) := by decide +kernel
theorem dX12_quickStands_7 : decode cX12_quickStands 7 = .ok (.iload_n 1, 1) := by decide +kernel
theorem dX12_quickStands_8 : decode cX12_quickStands 8 = .ok (.iload_n 2, 1) := by decide +kernel
theorem dX12_quickStands_9 : decode cX12_quickStands 9 = .ok (.invokevirtual 399, 3) := by decide +kernel
theorem dX12_quickStands_12 : decode cX12_quickStands 12 = .ok (.bipush 6, 2) := by decide +kernel
theorem dX12_quickStands_14 : decode cX12_quickStands 14 = .ok (.ixor, 1) := by decide +kernel
theorem dX12_quickStands_15 : decode cX12_quickStands 15 = .ok (.ireturn, 1) := by decide +kernel
theorem dX12_standsAct_0 : decode cX12_standsAct 0 = .ok (.aload_n 0, 1) := by decide +kernel
theorem dX12_standsAct_1 : decode cX12_standsAct 1 = .ok (.getfield 19, 3) := by decide +kernel
theorem dX12_standsAct_4 : decode cX12_standsAct 4 = .ok (.iload_n 1, 1) := by decide +kernel
theorem dX12_standsAct_5 : decode cX12_standsAct 5 = .ok (.iaload, 1) := by decide +kernel
theorem dX12_standsAct_6 : decode cX12_standsAct 6 = .ok (.lookupswitch 78 #[(1, 34), (4, 41), (6, 56)], 34) := by decide +kernel
theorem dX12_standsAct_40 : decode cX12_standsAct 40 = .ok (.aload_n 0, 1) := by decide +kernel
theorem dX12_standsAct_41 : decode cX12_standsAct 41 = .ok (.iload_n 1, 1) := by decide +kernel
theorem dX12_standsAct_42 : decode cX12_standsAct 42 = .ok (.iload_n 2, 1) := by decide +kernel
theorem dX12_standsAct_43 : decode cX12_standsAct 43 = .ok (.invokevirtual 402, 3) := by decide +kernel
theorem dX12_standsAct_46 : decode cX12_standsAct 46 = .ok (.ireturn, 1) := by decide +kernel
theorem dX12_standsAct_47 : decode cX12_standsAct 47 = .ok (.aload_n 0, 1) := by decide +kernel
theorem dX12_standsAct_48 : decode cX12_standsAct 48 = .ok (.bipush 51, 2) := by decide +kernel
theorem dX12_standsAct_50 : decode cX12_standsAct 50 = .ok (.invokevirtual 390, 3) := by decide +kernel
theorem dX12_standsAct_53 : decode cX12_standsAct 53 = .ok (.aload_n 0, 1) := by decide +kernel
theorem dX12_standsAct_54 : decode cX12_standsAct 54 = .ok (.iload_n 1, 1) := by decide +kernel
theorem dX12_standsAct_55 : decode cX12_standsAct 55 = .ok (.iload_n 2, 1) := by decide +kernel
theorem dX12_standsAct_56 : decode cX12_standsAct 56 = .ok (.iconst 1, 1) := by decide +kernel
theorem dX12_standsAct_57 : decode cX12_standsAct 57 = .ok (.iadd, 1) := by decide +kernel
theorem dX12_standsAct_58 : decode cX12_standsAct 58 = .ok (.invokevirtual 402, 3) := by decide +kernel
theorem dX12_standsAct_61 : decode cX12_standsAct 61 = .ok (.ireturn, 1) := by decide +kernel
theorem dX12_standsAct_62 : decode cX12_standsAct 62 = .ok (.aload_n 0, 1) := by decide +kernel
theorem dX12_standsAct_63 : decode cX12_standsAct 63 = .ok (.bipush 70, 2) := by decide +kernel
theorem dX12_standsAct_65 : decode cX12_standsAct 65 = .ok (.invokevirtual 390, 3) := by decide +kernel
theorem dX12_standsAct_68 : decode cX12_standsAct 68 = .ok (.aload_n 0, 1) := by decide +kernel
theorem dX12_standsAct_69 : decode cX12_standsAct 69 = .ok (.iload_n 1, 1) := by decide +kernel
theorem dX12_standsAct_70 : decode cX12_standsAct 70 = .ok (.iload_n 2, 1) := by decide +kernel
theorem dX12_standsAct_71 : decode cX12_standsAct 71 = .ok (.invokevirtual 399, 3) := by decide +kernel
theorem dX12_standsAct_74 : decode cX12_standsAct 74 = .ok (.istore_n 3, 1) := by decide +kernel
theorem dX12_standsAct_75 : decode cX12_standsAct 75 = .ok (.iload_n 3, 1) := by decide +kernel
theorem dX12_standsAct_76 : decode cX12_standsAct 76 = .ok (.aload_n 0, 1) := by decide +kernel
theorem dX12_standsAct_77 : decode cX12_standsAct 77 = .ok (.iload_n 1, 1) := by decide +kernel
theorem dX12_standsAct_78 : decode cX12_standsAct 78 = .ok (.iconst 2, 1) := by decide +kernel
theorem dX12_standsAct_79 : decode cX12_standsAct 79 = .ok (.invokevirtual 393, 3) := by decide +kernel
theorem dX12_standsAct_82 : decode cX12_standsAct 82 = .ok (.iadd, 1) := by decide +kernel
theorem dX12_standsAct_83 : decode cX12_standsAct 83 = .ok (.ireturn, 1) := by decide +kernel
theorem dX12_standsAct_84 : decode cX12_standsAct 84 = .ok (.aload_n 0, 1) := by decide +kernel
theorem dX12_standsAct_85 : decode cX12_standsAct 85 = .ok (.iload_n 1, 1) := by decide +kernel
theorem dX12_standsAct_86 : decode cX12_standsAct 86 = .ok (.iload_n 2, 1) := by decide +kernel
theorem dX12_standsAct_87 : decode cX12_standsAct 87 = .ok (.invokevirtual 399, 3) := by decide +kernel
theorem dX12_standsAct_90 : decode cX12_standsAct 90 = .ok (.ireturn, 1) := by decide +kernel
theorem dX12_childTells_0 : decode cX12_childTells 0 = .ok (.aload_n 0, 1) := by decide +kernel
theorem dX12_childTells_1 : decode cX12_childTells 1 = .ok (.bipush 12, 2) := by decide +kernel
theorem dX12_childTells_3 : decode cX12_childTells 3 = .ok (.invokevirtual 390, 3) := by decide +kernel
theorem dX12_childTells_6 : decode cX12_childTells 6 = .ok (.aload_n 0, 1) := by decide +kernel
theorem dX12_childTells_7 : decode cX12_childTells 7 = .ok (.iload_n 1, 1) := by decide +kernel
theorem dX12_childTells_8 : decode cX12_childTells 8 = .ok (.iload_n 2, 1) := by decide +kernel
theorem dX12_childTells_9 : decode cX12_childTells 9 = .ok (.invokevirtual 405, 3) := by decide +kernel
theorem dX12_childTells_12 : decode cX12_childTells 12 = .ok (.iconst 2, 1) := by decide +kernel
theorem dX12_childTells_13 : decode cX12_childTells 13 = .ok (.imul, 1) := by decide +kernel
theorem dX12_childTells_14 : decode cX12_childTells 14 = .ok (.ireturn, 1) := by decide +kernel
theorem dX12_tellsAct_0 : decode cX12_tellsAct 0 = .ok (.aload_n 0, 1) := by decide +kernel
theorem dX12_tellsAct_1 : decode cX12_tellsAct 1 = .ok (.getfield 19, 3) := by decide +kernel
theorem dX12_tellsAct_4 : decode cX12_tellsAct 4 = .ok (.iload_n 1, 1) := by decide +kernel
theorem dX12_tellsAct_5 : decode cX12_tellsAct 5 = .ok (.iaload, 1) := by decide +kernel
theorem dX12_tellsAct_6 : decode cX12_tellsAct 6 = .ok (.tableswitch 67 3 6 #[30, 67, 52, 30], 30) := by decide +kernel
theorem dX12_tellsAct_36 : decode cX12_tellsAct 36 = .ok (.aload_n 0, 1) := by decide +kernel
theorem dX12_tellsAct_37 : decode cX12_tellsAct 37 = .ok (.bipush 40, 2) := by decide +kernel
theorem dX12_tellsAct_39 : decode cX12_tellsAct 39 = .ok (.invokevirtual 390, 3) := by decide +kernel
theorem dX12_tellsAct_42 : decode cX12_tellsAct 42 = .ok (.aload_n 0, 1) := by decide +kernel
theorem dX12_tellsAct_43 : decode cX12_tellsAct 43 = .ok (.iload_n 1, 1) := by decide +kernel
theorem dX12_tellsAct_44 : decode cX12_tellsAct 44 = .ok (.iload_n 2, 1) := by decide +kernel
theorem dX12_tellsAct_45 : decode cX12_tellsAct 45 = .ok (.invokevirtual 408, 3) := by decide +kernel
theorem dX12_tellsAct_48 : decode cX12_tellsAct 48 = .ok (.istore_n 3, 1) := by decide +kernel
theorem dX12_tellsAct_49 : decode cX12_tellsAct 49 = .ok (.iload_n 3, 1) := by decide +kernel
theorem dX12_tellsAct_50 : decode cX12_tellsAct 50 = .ok (.aload_n 0, 1) := by decide +kernel
theorem dX12_tellsAct_51 : decode cX12_tellsAct 51 = .ok (.iload_n 1, 1) := by decide +kernel
theorem dX12_tellsAct_52 : decode cX12_tellsAct 52 = .ok (.iconst 1, 1) := by decide +kernel
theorem dX12_tellsAct_53 : decode cX12_tellsAct 53 = .ok (.invokevirtual 405, 3) := by decide +kernel
theorem dX12_tellsAct_56 : decode cX12_tellsAct 56 = .ok (.iadd, 1) := by decide +kernel
theorem dX12_tellsAct_57 : decode cX12_tellsAct 57 = .ok (.ireturn, 1) := by decide +kernel
theorem dX12_tellsAct_58 : decode cX12_tellsAct 58 = .ok (.aload_n 0, 1) := by decide +kernel
theorem dX12_tellsAct_59 : decode cX12_tellsAct 59 = .ok (.bipush 60, 2) := by decide +kernel
theorem dX12_tellsAct_61 : decode cX12_tellsAct 61 = .ok (.invokevirtual 390, 3) := by decide +kernel
theorem dX12_tellsAct_64 : decode cX12_tellsAct 64 = .ok (.aload_n 0, 1) := by decide +kernel
theorem dX12_tellsAct_65 : decode cX12_tellsAct 65 = .ok (.iload_n 1, 1) := by decide +kernel
theorem dX12_tellsAct_66 : decode cX12_tellsAct 66 = .ok (.iload_n 2, 1) := by decide +kernel
theorem dX12_tellsAct_67 : decode cX12_tellsAct 67 = .ok (.iload_n 1, 1) := by decide +kernel
theorem dX12_tellsAct_68 : decode cX12_tellsAct 68 = .ok (.isub, 1) := by decide +kernel
theorem dX12_tellsAct_69 : decode cX12_tellsAct 69 = .ok (.invokevirtual 408, 3) := by decide +kernel
theorem dX12_tellsAct_72 : decode cX12_tellsAct 72 = .ok (.ireturn, 1) := by decide +kernel
theorem dX12_tellsAct_73 : decode cX12_tellsAct 73 = .ok (.aload_n 0, 1) := by decide +kernel
theorem dX12_tellsAct_74 : decode cX12_tellsAct 74 = .ok (.iload_n 1, 1) := by decide +kernel
theorem dX12_tellsAct_75 : decode cX12_tellsAct 75 = .ok (.iload_n 2, 1) := by decide +kernel
theorem dX12_tellsAct_76 : decode cX12_tellsAct 76 = .ok (.invokevirtual 408, 3) := by decide +kernel
theorem dX12_tellsAct_79 : decode cX12_tellsAct 79 = .ok (.ireturn, 1) := by decide +kernel
theorem dX12_act_0 : decode cX12_act 0 = .ok (.aload_n 0, 1) := by decide +kernel
theorem dX12_act_1 : decode cX12_act 1 = .ok (.iconst 0, 1) := by decide +kernel
theorem dX12_act_2 : decode cX12_act 2 = .ok (.putfield 217, 3) := by decide +kernel
theorem dX12_act_5 : decode cX12_act 5 = .ok (.aload_n 0, 1) := by decide +kernel
theorem dX12_act_6 : decode cX12_act 6 = .ok (.iload_n 1, 1) := by decide +kernel
theorem dX12_act_7 : decode cX12_act 7 = .ok (.invokevirtual 240, 3) := by decide +kernel
theorem dX12_act_10 : decode cX12_act 10 = .ok (.ifCond .eq 13, 3) := by decide +kernel
theorem dX12_act_13 : decode cX12_act 13 = .ok (.aload_n 0, 1) := by decide +kernel
theorem dX12_act_14 : decode cX12_act 14 = .ok (.iload_n 2, 1) := by decide +kernel
theorem dX12_act_15 : decode cX12_act 15 = .ok (.iconst 0, 1) := by decide +kernel
theorem dX12_act_16 : decode cX12_act 16 = .ok (.iconst 2, 1) := by decide +kernel
theorem dX12_act_17 : decode cX12_act 17 = .ok (.invokevirtual 236, 3) := by decide +kernel
theorem dX12_act_20 : decode cX12_act 20 = .ok (.ifCond .ne 5, 3) := by decide +kernel
theorem dX12_act_23 : decode cX12_act 23 = .ok (.iconst 0, 1) := by decide +kernel
theorem dX12_act_24 : decode cX12_act 24 = .ok (.ireturn, 1) := by decide +kernel
theorem dX12_act_25 : decode cX12_act 25 = .ok (.iload_n 2, 1) := by decide +kernel
theorem dX12_act_26 : decode cX12_act 26 = .ok (.ifCond .ne 12, 3) := by decide +kernel
theorem dX12_act_29 : decode cX12_act 29 = .ok (.aload_n 0, 1) := by decide +kernel
theorem dX12_act_30 : decode cX12_act 30 = .ok (.iload_n 1, 1) := by decide +kernel
theorem dX12_act_31 : decode cX12_act 31 = .ok (.iload_n 3, 1) := by decide +kernel
theorem dX12_act_32 : decode cX12_act 32 = .ok (.invokevirtual 396, 3) := by decide +kernel
theorem dX12_act_35 : decode cX12_act 35 = .ok (.goto 23, 3) := by decide +kernel
theorem dX12_act_38 : decode cX12_act 38 = .ok (.iload_n 2, 1) := by decide +kernel
theorem dX12_act_39 : decode cX12_act 39 = .ok (.iconst 1, 1) := by decide +kernel
theorem dX12_act_40 : decode cX12_act 40 = .ok (.if_icmp .ne 12, 3) := by decide +kernel
theorem dX12_act_43 : decode cX12_act 43 = .ok (.aload_n 0, 1) := by decide +kernel
theorem dX12_act_44 : decode cX12_act 44 = .ok (.iload_n 1, 1) := by decide +kernel
theorem dX12_act_45 : decode cX12_act 45 = .ok (.iload_n 3, 1) := by decide +kernel
theorem dX12_act_46 : decode cX12_act 46 = .ok (.invokevirtual 405, 3) := by decide +kernel
theorem dX12_act_49 : decode cX12_act 49 = .ok (.goto 9, 3) := by decide +kernel
theorem dX12_act_52 : decode cX12_act 52 = .ok (.aload_n 0, 1) := by decide +kernel
theorem dX12_act_53 : decode cX12_act 53 = .ok (.iload_n 1, 1) := by decide +kernel
theorem dX12_act_54 : decode cX12_act 54 = .ok (.iload_n 3, 1) := by decide +kernel
theorem dX12_act_55 : decode cX12_act 55 = .ok (.invokevirtual 411, 3) := by decide +kernel
theorem dX12_act_58 : decode cX12_act 58 = .ok (.ireturn, 1) := by decide +kernel
theorem dX12_trace_0 : decode cX12_trace 0 = .ok (.aload_n 0, 1) := by decide +kernel
theorem dX12_trace_1 : decode cX12_trace 1 = .ok (.iload_n 1, 1) := by decide +kernel
theorem dX12_trace_2 : decode cX12_trace 2 = .ok (.iconst 0, 1) := by decide +kernel
theorem dX12_trace_3 : decode cX12_trace 3 = .ok (.bipush 19, 2) := by decide +kernel
theorem dX12_trace_5 : decode cX12_trace 5 = .ok (.invokevirtual 236, 3) := by decide +kernel
theorem dX12_trace_8 : decode cX12_trace 8 = .ok (.ifCond .eq 20, 3) := by decide +kernel
theorem dX12_trace_11 : decode cX12_trace 11 = .ok (.iload_n 1, 1) := by decide +kernel
theorem dX12_trace_12 : decode cX12_trace 12 = .ok (.aload_n 0, 1) := by decide +kernel
theorem dX12_trace_13 : decode cX12_trace 13 = .ok (.getfield 217, 3) := by decide +kernel
theorem dX12_trace_16 : decode cX12_trace 16 = .ok (.if_icmp .ge 12, 3) := by decide +kernel
theorem dX12_trace_19 : decode cX12_trace 19 = .ok (.aload_n 0, 1) := by decide +kernel
theorem dX12_trace_20 : decode cX12_trace 20 = .ok (.getfield 220, 3) := by decide +kernel
theorem dX12_trace_23 : decode cX12_trace 23 = .ok (.iload_n 1, 1) := by decide +kernel
theorem dX12_trace_24 : decode cX12_trace 24 = .ok (.iaload, 1) := by decide +kernel
theorem dX12_trace_25 : decode cX12_trace 25 = .ok (.goto 4, 3) := by decide +kernel
theorem dX12_trace_28 : decode cX12_trace 28 = .ok (.iconst (-1), 1) := by decide +kernel
theorem dX12_trace_29 : decode cX12_trace 29 = .ok (.ireturn, 1) := by decide +kernel
theorem dX12_taken_0 : decode cX12_taken 0 = .ok (.aload_n 0, 1) := by decide +kernel
theorem dX12_taken_1 : decode cX12_taken 1 = .ok (.iload_n 2, 1) := by decide +kernel
theorem dX12_taken_2 : decode cX12_taken 2 = .ok (.iconst 0, 1) := by decide +kernel
theorem dX12_taken_3 : decode cX12_taken 3 = .ok (.bipush 6, 2) := by decide +kernel
theorem dX12_taken_5 : decode cX12_taken 5 = .ok (.invokevirtual 236, 3) := by decide +kernel
theorem dX12_taken_8 : decode cX12_taken 8 = .ok (.ifCond .ne 6, 3) := by decide +kernel
theorem dX12_taken_11 : decode cX12_taken 11 = .ok (.bipush (-2), 2) := by decide +kernel
theorem dX12_taken_13 : decode cX12_taken 13 = .ok (.ireturn, 1) := by decide +kernel
theorem dX12_taken_14 : decode cX12_taken 14 = .ok (.aload_n 0, 1) := by decide +kernel
theorem dX12_taken_15 : decode cX12_taken 15 = .ok (.iload_n 1, 1) := by decide +kernel
theorem dX12_taken_16 : decode cX12_taken 16 = .ok (.invokevirtual 240, 3) := by decide +kernel
theorem dX12_taken_19 : decode cX12_taken 19 = .ok (.ifCond .ne 6, 3) := by decide +kernel
theorem dX12_taken_22 : decode cX12_taken 22 = .ok (.bipush (-11), 2) := by decide +kernel
theorem dX12_taken_24 : decode cX12_taken 24 = .ok (.ireturn, 1) := by decide +kernel
theorem dX12_taken_25 : decode cX12_taken 25 = .ok (.aload_n 0, 1) := by decide +kernel
theorem dX12_taken_26 : decode cX12_taken 26 = .ok (.getfield 19, 3) := by decide +kernel
theorem dX12_taken_29 : decode cX12_taken 29 = .ok (.iload_n 1, 1) := by decide +kernel
theorem dX12_taken_30 : decode cX12_taken 30 = .ok (.iaload, 1) := by decide +kernel
theorem dX12_taken_31 : decode cX12_taken 31 = .ok (.istore_n 3, 1) := by decide +kernel
theorem dX12_taken_32 : decode cX12_taken 32 = .ok (.iload_n 2, 1) := by decide +kernel
theorem dX12_taken_33 : decode cX12_taken 33 = .ok (.ifCond .eq 39, 3) := by decide +kernel
theorem dX12_taken_36 : decode cX12_taken 36 = .ok (.iload_n 3, 1) := by decide +kernel
theorem dX12_taken_37 : decode cX12_taken 37 = .ok (.iload_n 2, 1) := by decide +kernel
theorem dX12_taken_38 : decode cX12_taken 38 = .ok (.if_icmp .eq 34, 3) := by decide +kernel
theorem dX12_taken_41 : decode cX12_taken 41 = .ok (.iload_n 2, 1) := by decide +kernel
theorem dX12_taken_42 : decode cX12_taken 42 = .ok (.iconst 1, 1) := by decide +kernel
theorem dX12_taken_43 : decode cX12_taken 43 = .ok (.if_icmp .ne 8, 3) := by decide +kernel
theorem dX12_taken_46 : decode cX12_taken 46 = .ok (.iload_n 3, 1) := by decide +kernel
theorem dX12_taken_47 : decode cX12_taken 47 = .ok (.iconst 4, 1) := by decide +kernel
theorem dX12_taken_48 : decode cX12_taken 48 = .ok (.if_icmp .eq 24, 3) := by decide +kernel
theorem dX12_taken_51 : decode cX12_taken 51 = .ok (.iload_n 2, 1) := by decide +kernel
theorem dX12_taken_52 : decode cX12_taken 52 = .ok (.iconst 2, 1) := by decide +kernel
theorem dX12_taken_53 : decode cX12_taken 53 = .ok (.if_icmp .ne 8, 3) := by decide +kernel
theorem dX12_taken_56 : decode cX12_taken 56 = .ok (.iload_n 3, 1) := by decide +kernel
theorem dX12_taken_57 : decode cX12_taken 57 = .ok (.iconst 5, 1) := by decide +kernel
theorem dX12_taken_58 : decode cX12_taken 58 = .ok (.if_icmp .eq 14, 3) := by decide +kernel
theorem dX12_taken_61 : decode cX12_taken 61 = .ok (.iload_n 2, 1) := by decide +kernel
theorem dX12_taken_62 : decode cX12_taken 62 = .ok (.iconst 3, 1) := by decide +kernel
theorem dX12_taken_63 : decode cX12_taken 63 = .ok (.if_icmp .ne 13, 3) := by decide +kernel
theorem dX12_taken_66 : decode cX12_taken 66 = .ok (.iload_n 3, 1) := by decide +kernel
theorem dX12_taken_67 : decode cX12_taken 67 = .ok (.bipush 6, 2) := by decide +kernel
theorem dX12_taken_69 : decode cX12_taken 69 = .ok (.if_icmp .ne 7, 3) := by decide +kernel
theorem dX12_taken_72 : decode cX12_taken 72 = .ok (.iload_n 3, 1) := by decide +kernel
theorem dX12_taken_73 : decode cX12_taken 73 = .ok (.goto 5, 3) := by decide +kernel
theorem dX12_taken_76 : decode cX12_taken 76 = .ok (.bipush (-12), 2) := by decide +kernel
theorem dX12_taken_78 : decode cX12_taken 78 = .ok (.ireturn, 1) := by decide +kernel
theorem dX12_count_0 : decode cX12_count 0 = .ok (.iload_n 1, 1) := by decide +kernel
theorem dX12_count_1 : decode cX12_count 1 = .ok (.tableswitch 69 0 5 #[39, 44, 49, 54, 59, 64], 39) := by decide +kernel
theorem dX12_count_40 : decode cX12_count 40 = .ok (.aload_n 0, 1) := by decide +kernel
theorem dX12_count_41 : decode cX12_count 41 = .ok (.getfield 7, 3) := by decide +kernel
theorem dX12_count_44 : decode cX12_count 44 = .ok (.ireturn, 1) := by decide +kernel
theorem dX12_count_45 : decode cX12_count 45 = .ok (.aload_n 0, 1) := by decide +kernel
theorem dX12_count_46 : decode cX12_count 46 = .ok (.getfield 41, 3) := by decide +kernel
theorem dX12_count_49 : decode cX12_count 49 = .ok (.ireturn, 1) := by decide +kernel
theorem dX12_count_50 : decode cX12_count 50 = .ok (.aload_n 0, 1) := by decide +kernel
theorem dX12_count_51 : decode cX12_count 51 = .ok (.getfield 138, 3) := by decide +kernel
theorem dX12_count_54 : decode cX12_count 54 = .ok (.ireturn, 1) := by decide +kernel
theorem dX12_count_55 : decode cX12_count 55 = .ok (.aload_n 0, 1) := by decide +kernel
theorem dX12_count_56 : decode cX12_count 56 = .ok (.getfield 150, 3) := by decide +kernel
theorem dX12_count_59 : decode cX12_count 59 = .ok (.ireturn, 1) := by decide +kernel
theorem dX12_count_60 : decode cX12_count 60 = .ok (.aload_n 0, 1) := by decide +kernel
theorem dX12_count_61 : decode cX12_count 61 = .ok (.getfield 47, 3) := by decide +kernel
theorem dX12_count_64 : decode cX12_count 64 = .ok (.ireturn, 1) := by decide +kernel
theorem dX12_count_65 : decode cX12_count 65 = .ok (.aload_n 0, 1) := by decide +kernel
theorem dX12_count_66 : decode cX12_count 66 = .ok (.getfield 217, 3) := by decide +kernel
theorem dX12_count_69 : decode cX12_count 69 = .ok (.ireturn, 1) := by decide +kernel
theorem dX12_count_70 : decode cX12_count 70 = .ok (.bipush (-2), 2) := by decide +kernel
theorem dX12_count_72 : decode cX12_count 72 = .ok (.ireturn, 1) := by decide +kernel
theorem dX12_isTape_0 : decode cX12_isTape 0 = .ok (.aload_n 0, 1) := by decide +kernel
theorem dX12_isTape_1 : decode cX12_isTape 1 = .ok (.iload_n 1, 1) := by decide +kernel
theorem dX12_isTape_2 : decode cX12_isTape 2 = .ok (.iconst 0, 1) := by decide +kernel
theorem dX12_isTape_3 : decode cX12_isTape 3 = .ok (.iconst 5, 1) := by decide +kernel
theorem dX12_isTape_4 : decode cX12_isTape 4 = .ok (.invokevirtual 236, 3) := by decide +kernel
theorem dX12_isTape_7 : decode cX12_isTape 7 = .ok (.ireturn, 1) := by decide +kernel
theorem dX12_tape_0 : decode cX12_tape 0 = .ok (.aload_n 0, 1) := by decide +kernel
theorem dX12_tape_1 : decode cX12_tape 1 = .ok (.iload_n 1, 1) := by decide +kernel
theorem dX12_tape_2 : decode cX12_tape 2 = .ok (.invokevirtual 387, 3) := by decide +kernel
theorem dX12_tape_5 : decode cX12_tape 5 = .ok (.ifCond .ne 5, 3) := by decide +kernel
theorem dX12_tape_8 : decode cX12_tape 8 = .ok (.iconst (-1), 1) := by decide +kernel
theorem dX12_tape_9 : decode cX12_tape 9 = .ok (.ireturn, 1) := by decide +kernel
theorem dX12_tape_10 : decode cX12_tape 10 = .ok (.aload_n 0, 1) := by decide +kernel
theorem dX12_tape_11 : decode cX12_tape 11 = .ok (.iload_n 2, 1) := by decide +kernel
theorem dX12_tape_12 : decode cX12_tape 12 = .ok (.iconst (-1), 1) := by decide +kernel
theorem dX12_tape_13 : decode cX12_tape 13 = .ok (.iconst 4, 1) := by decide +kernel
theorem dX12_tape_14 : decode cX12_tape 14 = .ok (.invokevirtual 236, 3) := by decide +kernel
theorem dX12_tape_17 : decode cX12_tape 17 = .ok (.ifCond .eq 13, 3) := by decide +kernel
theorem dX12_tape_20 : decode cX12_tape 20 = .ok (.iload_n 2, 1) := by decide +kernel
theorem dX12_tape_21 : decode cX12_tape 21 = .ok (.ifCond .lt 12, 3) := by decide +kernel
theorem dX12_tape_24 : decode cX12_tape 24 = .ok (.iload_n 3, 1) := by decide +kernel
theorem dX12_tape_25 : decode cX12_tape 25 = .ok (.bipush 60, 2) := by decide +kernel
theorem dX12_tape_27 : decode cX12_tape 27 = .ok (.if_icmp .le 6, 3) := by decide +kernel
theorem dX12_tape_30 : decode cX12_tape 30 = .ok (.bipush (-2), 2) := by decide +kernel
theorem dX12_tape_32 : decode cX12_tape 32 = .ok (.ireturn, 1) := by decide +kernel
theorem dX12_tape_33 : decode cX12_tape 33 = .ok (.iload_n 2, 1) := by decide +kernel
theorem dX12_tape_34 : decode cX12_tape 34 = .ok (.ifCond .lt 10, 3) := by decide +kernel
theorem dX12_tape_37 : decode cX12_tape 37 = .ok (.iload_n 3, 1) := by decide +kernel
theorem dX12_tape_38 : decode cX12_tape 38 = .ok (.ifCond .ge 6, 3) := by decide +kernel
theorem dX12_tape_41 : decode cX12_tape 41 = .ok (.bipush (-14), 2) := by decide +kernel
theorem dX12_tape_43 : decode cX12_tape 43 = .ok (.ireturn, 1) := by decide +kernel
theorem dX12_tape_44 : decode cX12_tape 44 = .ok (.aload_n 0, 1) := by decide +kernel
theorem dX12_tape_45 : decode cX12_tape 45 = .ok (.getfield 223, 3) := by decide +kernel
theorem dX12_tape_48 : decode cX12_tape 48 = .ok (.iload_n 1, 1) := by decide +kernel
theorem dX12_tape_49 : decode cX12_tape 49 = .ok (.iload_n 2, 1) := by decide +kernel
theorem dX12_tape_50 : decode cX12_tape 50 = .ok (.iastore, 1) := by decide +kernel
theorem dX12_tape_51 : decode cX12_tape 51 = .ok (.aload_n 0, 1) := by decide +kernel
theorem dX12_tape_52 : decode cX12_tape 52 = .ok (.getfield 226, 3) := by decide +kernel
theorem dX12_tape_55 : decode cX12_tape 55 = .ok (.iload_n 1, 1) := by decide +kernel
theorem dX12_tape_56 : decode cX12_tape 56 = .ok (.iload_n 2, 1) := by decide +kernel
theorem dX12_tape_57 : decode cX12_tape 57 = .ok (.ifCond .ge 7, 3) := by decide +kernel
theorem dX12_tape_60 : decode cX12_tape 60 = .ok (.iconst 0, 1) := by decide +kernel
theorem dX12_tape_61 : decode cX12_tape 61 = .ok (.goto 4, 3) := by decide +kernel
theorem dX12_tape_64 : decode cX12_tape 64 = .ok (.iload_n 3, 1) := by decide +kernel
theorem dX12_tape_65 : decode cX12_tape 65 = .ok (.iastore, 1) := by decide +kernel
theorem dX12_tape_66 : decode cX12_tape 66 = .ok (.iconst 0, 1) := by decide +kernel
theorem dX12_tape_67 : decode cX12_tape 67 = .ok (.istore 4, 2) := by decide +kernel
theorem dX12_tape_69 : decode cX12_tape 69 = .ok (.iload 4, 2) := by decide +kernel
theorem dX12_tape_71 : decode cX12_tape 71 = .ok (.bipush 60, 2) := by decide +kernel
theorem dX12_tape_73 : decode cX12_tape 73 = .ok (.if_icmp .ge 22, 3) := by decide +kernel
theorem dX12_tape_76 : decode cX12_tape 76 = .ok (.aload_n 0, 1) := by decide +kernel
theorem dX12_tape_77 : decode cX12_tape 77 = .ok (.getfield 229, 3) := by decide +kernel
theorem dX12_tape_80 : decode cX12_tape 80 = .ok (.bipush 60, 2) := by decide +kernel
theorem dX12_tape_82 : decode cX12_tape 82 = .ok (.iload_n 1, 1) := by decide +kernel
theorem dX12_tape_83 : decode cX12_tape 83 = .ok (.imul, 1) := by decide +kernel
theorem dX12_tape_84 : decode cX12_tape 84 = .ok (.iload 4, 2) := by decide +kernel
theorem dX12_tape_86 : decode cX12_tape 86 = .ok (.iadd, 1) := by decide +kernel
theorem dX12_tape_87 : decode cX12_tape 87 = .ok (.lconst 0, 1) := by decide +kernel
theorem dX12_tape_88 : decode cX12_tape 88 = .ok (.lastore, 1) := by decide +kernel
theorem dX12_tape_89 : decode cX12_tape 89 = .ok (.iinc 4 1, 3) := by decide +kernel
theorem dX12_tape_92 : decode cX12_tape 92 = .ok (.goto (-23), 3) := by decide +kernel
theorem dX12_tape_95 : decode cX12_tape 95 = .ok (.iconst 1, 1) := by decide +kernel
theorem dX12_tape_96 : decode cX12_tape 96 = .ok (.ireturn, 1) := by decide +kernel
theorem dX12_narrow_0 : decode cX12_narrow 0 = .ok (.iload_n 1, 1) := by decide +kernel
theorem dX12_narrow_1 : decode cX12_narrow 1 = .ok (.ifCond .ne 10, 3) := by decide +kernel
theorem dX12_narrow_4 : decode cX12_narrow 4 = .ok (.lload_n 2, 1) := by decide +kernel
theorem dX12_narrow_5 : decode cX12_narrow 5 = .ok (.l2i, 1) := by decide +kernel
theorem dX12_narrow_6 : decode cX12_narrow 6 = .ok (.i2b, 1) := by decide +kernel
theorem dX12_narrow_7 : decode cX12_narrow 7 = .ok (.i2l, 1) := by decide +kernel
theorem dX12_narrow_8 : decode cX12_narrow 8 = .ok (.goto 46, 3) := by decide +kernel
theorem dX12_narrow_11 : decode cX12_narrow 11 = .ok (.iload_n 1, 1) := by decide +kernel
theorem dX12_narrow_12 : decode cX12_narrow 12 = .ok (.iconst 1, 1) := by decide +kernel
theorem dX12_narrow_13 : decode cX12_narrow 13 = .ok (.if_icmp .ne 10, 3) := by decide +kernel
theorem dX12_narrow_16 : decode cX12_narrow 16 = .ok (.lload_n 2, 1) := by decide +kernel
theorem dX12_narrow_17 : decode cX12_narrow 17 = .ok (.l2i, 1) := by decide +kernel
theorem dX12_narrow_18 : decode cX12_narrow 18 = .ok (.i2s, 1) := by decide +kernel
theorem dX12_narrow_19 : decode cX12_narrow 19 = .ok (.i2l, 1) := by decide +kernel
theorem dX12_narrow_20 : decode cX12_narrow 20 = .ok (.goto 34, 3) := by decide +kernel
theorem dX12_narrow_23 : decode cX12_narrow 23 = .ok (.iload_n 1, 1) := by decide +kernel
theorem dX12_narrow_24 : decode cX12_narrow 24 = .ok (.iconst 2, 1) := by decide +kernel
theorem dX12_narrow_25 : decode cX12_narrow 25 = .ok (.if_icmp .ne 9, 3) := by decide +kernel
theorem dX12_narrow_28 : decode cX12_narrow 28 = .ok (.lload_n 2, 1) := by decide +kernel
theorem dX12_narrow_29 : decode cX12_narrow 29 = .ok (.l2i, 1) := by decide +kernel
theorem dX12_narrow_30 : decode cX12_narrow 30 = .ok (.i2l, 1) := by decide +kernel
theorem dX12_narrow_31 : decode cX12_narrow 31 = .ok (.goto 23, 3) := by decide +kernel
theorem dX12_narrow_34 : decode cX12_narrow 34 = .ok (.iload_n 1, 1) := by decide +kernel
theorem dX12_narrow_35 : decode cX12_narrow 35 = .ok (.iconst 4, 1) := by decide +kernel
theorem dX12_narrow_36 : decode cX12_narrow 36 = .ok (.if_icmp .ne 17, 3) := by decide +kernel
theorem dX12_narrow_39 : decode cX12_narrow 39 = .ok (.lload_n 2, 1) := by decide +kernel
theorem dX12_narrow_40 : decode cX12_narrow 40 = .ok (.lconst 0, 1) := by decide +kernel
theorem dX12_narrow_41 : decode cX12_narrow 41 = .ok (.lcmp, 1) := by decide +kernel
theorem dX12_narrow_42 : decode cX12_narrow 42 = .ok (.ifCond .eq 7, 3) := by decide +kernel
theorem dX12_narrow_45 : decode cX12_narrow 45 = .ok (.lconst 1, 1) := by decide +kernel
theorem dX12_narrow_46 : decode cX12_narrow 46 = .ok (.goto 8, 3) := by decide +kernel
theorem dX12_narrow_49 : decode cX12_narrow 49 = .ok (.lconst 0, 1) := by decide +kernel
theorem dX12_narrow_50 : decode cX12_narrow 50 = .ok (.goto 4, 3) := by decide +kernel
theorem dX12_narrow_53 : decode cX12_narrow 53 = .ok (.lload_n 2, 1) := by decide +kernel
theorem dX12_narrow_54 : decode cX12_narrow 54 = .ok (.lreturn, 1) := by decide +kernel
theorem dX12_item_0 : decode cX12_item 0 = .ok (.aload_n 0, 1) := by decide +kernel
theorem dX12_item_1 : decode cX12_item 1 = .ok (.iload_n 1, 1) := by decide +kernel
theorem dX12_item_2 : decode cX12_item 2 = .ok (.invokevirtual 387, 3) := by decide +kernel
theorem dX12_item_5 : decode cX12_item 5 = .ok (.ifCond .ne 5, 3) := by decide +kernel
theorem dX12_item_8 : decode cX12_item 8 = .ok (.iconst (-1), 1) := by decide +kernel
theorem dX12_item_9 : decode cX12_item 9 = .ok (.ireturn, 1) := by decide +kernel
theorem dX12_item_10 : decode cX12_item 10 = .ok (.aload_n 0, 1) := by decide +kernel
theorem dX12_item_11 : decode cX12_item 11 = .ok (.getfield 223, 3) := by decide +kernel
theorem dX12_item_14 : decode cX12_item 14 = .ok (.iload_n 1, 1) := by decide +kernel
theorem dX12_item_15 : decode cX12_item 15 = .ok (.iaload, 1) := by decide +kernel
theorem dX12_item_16 : decode cX12_item 16 = .ok (.ifCond .ge 6, 3) := by decide +kernel
theorem dX12_item_19 : decode cX12_item 19 = .ok (.bipush (-11), 2) := by decide +kernel
theorem dX12_item_21 : decode cX12_item 21 = .ok (.ireturn, 1) := by decide +kernel
theorem dX12_item_22 : decode cX12_item 22 = .ok (.aload_n 0, 1) := by decide +kernel
theorem dX12_item_23 : decode cX12_item 23 = .ok (.iload_n 2, 1) := by decide +kernel
theorem dX12_item_24 : decode cX12_item 24 = .ok (.iconst 0, 1) := by decide +kernel
theorem dX12_item_25 : decode cX12_item 25 = .ok (.aload_n 0, 1) := by decide +kernel
theorem dX12_item_26 : decode cX12_item 26 = .ok (.getfield 226, 3) := by decide +kernel
theorem dX12_item_29 : decode cX12_item 29 = .ok (.iload_n 1, 1) := by decide +kernel
theorem dX12_item_30 : decode cX12_item 30 = .ok (.iaload, 1) := by decide +kernel
theorem dX12_item_31 : decode cX12_item 31 = .ok (.iconst 1, 1) := by decide +kernel
theorem dX12_item_32 : decode cX12_item 32 = .ok (.isub, 1) := by decide +kernel
theorem dX12_item_33 : decode cX12_item 33 = .ok (.invokevirtual 236, 3) := by decide +kernel
theorem dX12_item_36 : decode cX12_item 36 = .ok (.ifCond .ne 6, 3) := by decide +kernel
theorem dX12_item_39 : decode cX12_item 39 = .ok (.bipush (-13), 2) := by decide +kernel
theorem dX12_item_41 : decode cX12_item 41 = .ok (.ireturn, 1) := by decide +kernel
theorem dX12_item_42 : decode cX12_item 42 = .ok (.aload_n 0, 1) := by decide +kernel
theorem dX12_item_43 : decode cX12_item 43 = .ok (.getfield 229, 3) := by decide +kernel
theorem dX12_item_46 : decode cX12_item 46 = .ok (.bipush 60, 2) := by decide +kernel
theorem dX12_item_48 : decode cX12_item 48 = .ok (.iload_n 1, 1) := by decide +kernel
theorem dX12_item_49 : decode cX12_item 49 = .ok (.imul, 1) := by decide +kernel
theorem dX12_item_50 : decode cX12_item 50 = .ok (.iload_n 2, 1) := by decide +kernel
theorem dX12_item_51 : decode cX12_item 51 = .ok (.iadd, 1) := by decide +kernel
theorem dX12_item_52 : decode cX12_item 52 = .ok (.aload_n 0, 1) := by decide +kernel
theorem dX12_item_53 : decode cX12_item 53 = .ok (.aload_n 0, 1) := by decide +kernel
theorem dX12_item_54 : decode cX12_item 54 = .ok (.getfield 223, 3) := by decide +kernel
theorem dX12_item_57 : decode cX12_item 57 = .ok (.iload_n 1, 1) := by decide +kernel
theorem dX12_item_58 : decode cX12_item 58 = .ok (.iaload, 1) := by decide +kernel
theorem dX12_item_59 : decode cX12_item 59 = .ok (.lload_n 3, 1) := by decide +kernel
theorem dX12_item_60 : decode cX12_item 60 = .ok (.invokevirtual 414, 3) := by decide +kernel
theorem dX12_item_63 : decode cX12_item 63 = .ok (.lastore, 1) := by decide +kernel
theorem dX12_item_64 : decode cX12_item 64 = .ok (.iconst 1, 1) := by decide +kernel
theorem dX12_item_65 : decode cX12_item 65 = .ok (.ireturn, 1) := by decide +kernel
theorem dX12_read_0 : decode cX12_read 0 = .ok (.aload_n 0, 1) := by decide +kernel
theorem dX12_read_1 : decode cX12_read 1 = .ok (.iload_n 1, 1) := by decide +kernel
theorem dX12_read_2 : decode cX12_read 2 = .ok (.invokevirtual 387, 3) := by decide +kernel
theorem dX12_read_5 : decode cX12_read 5 = .ok (.ifCond .eq 29, 3) := by decide +kernel
theorem dX12_read_8 : decode cX12_read 8 = .ok (.aload_n 0, 1) := by decide +kernel
theorem dX12_read_9 : decode cX12_read 9 = .ok (.getfield 223, 3) := by decide +kernel
theorem dX12_read_12 : decode cX12_read 12 = .ok (.iload_n 1, 1) := by decide +kernel
theorem dX12_read_13 : decode cX12_read 13 = .ok (.iaload, 1) := by decide +kernel
theorem dX12_read_14 : decode cX12_read 14 = .ok (.ifCond .lt 20, 3) := by decide +kernel
theorem dX12_read_17 : decode cX12_read 17 = .ok (.aload_n 0, 1) := by decide +kernel
theorem dX12_read_18 : decode cX12_read 18 = .ok (.iload_n 2, 1) := by decide +kernel
theorem dX12_read_19 : decode cX12_read 19 = .ok (.iconst 0, 1) := by decide +kernel
theorem dX12_read_20 : decode cX12_read 20 = .ok (.aload_n 0, 1) := by decide +kernel
theorem dX12_read_21 : decode cX12_read 21 = .ok (.getfield 226, 3) := by decide +kernel
theorem dX12_read_24 : decode cX12_read 24 = .ok (.iload_n 1, 1) := by decide +kernel
theorem dX12_read_25 : decode cX12_read 25 = .ok (.iaload, 1) := by decide +kernel
theorem dX12_read_26 : decode cX12_read 26 = .ok (.iconst 1, 1) := by decide +kernel
theorem dX12_read_27 : decode cX12_read 27 = .ok (.isub, 1) := by decide +kernel
theorem dX12_read_28 : decode cX12_read 28 = .ok (.invokevirtual 236, 3) := by decide +kernel
theorem dX12_read_31 : decode cX12_read 31 = .ok (.ifCond .ne 9, 3) := by decide +kernel
theorem dX12_read_34 : decode cX12_read 34 = .ok (.ldc2_w 381, 3) := by decide +kernel
theorem dX12_read_37 : decode cX12_read 37 = .ok (.goto 14, 3) := by decide +kernel
theorem dX12_read_40 : decode cX12_read 40 = .ok (.aload_n 0, 1) := by decide +kernel
theorem dX12_read_41 : decode cX12_read 41 = .ok (.getfield 229, 3) := by decide +kernel
theorem dX12_read_44 : decode cX12_read 44 = .ok (.bipush 60, 2) := by decide +kernel
theorem dX12_read_46 : decode cX12_read 46 = .ok (.iload_n 1, 1) := by decide +kernel
theorem dX12_read_47 : decode cX12_read 47 = .ok (.imul, 1) := by decide +kernel
theorem dX12_read_48 : decode cX12_read 48 = .ok (.iload_n 2, 1) := by decide +kernel
theorem dX12_read_49 : decode cX12_read 49 = .ok (.iadd, 1) := by decide +kernel
theorem dX12_read_50 : decode cX12_read 50 = .ok (.laload, 1) := by decide +kernel
theorem dX12_read_51 : decode cX12_read 51 = .ok (.lreturn, 1) := by decide +kernel
theorem dX12_shift_0 : decode cX12_shift 0 = .ok (.aload_n 0, 1) := by decide +kernel
theorem dX12_shift_1 : decode cX12_shift 1 = .ok (.iload_n 1, 1) := by decide +kernel
theorem dX12_shift_2 : decode cX12_shift 2 = .ok (.invokevirtual 387, 3) := by decide +kernel
theorem dX12_shift_5 : decode cX12_shift 5 = .ok (.ifCond .eq 11, 3) := by decide +kernel
theorem dX12_shift_8 : decode cX12_shift 8 = .ok (.aload_n 0, 1) := by decide +kernel
theorem dX12_shift_9 : decode cX12_shift 9 = .ok (.iload_n 3, 1) := by decide +kernel
theorem dX12_shift_10 : decode cX12_shift 10 = .ok (.invokevirtual 387, 3) := by decide +kernel
theorem dX12_shift_13 : decode cX12_shift 13 = .ok (.ifCond .ne 5, 3) := by decide +kernel
theorem dX12_shift_16 : decode cX12_shift 16 = .ok (.iconst (-1), 1) := by decide +kernel
theorem dX12_shift_17 : decode cX12_shift 17 = .ok (.ireturn, 1) := by decide +kernel
theorem dX12_shift_18 : decode cX12_shift 18 = .ok (.aload_n 0, 1) := by decide +kernel
theorem dX12_shift_19 : decode cX12_shift 19 = .ok (.getfield 223, 3) := by decide +kernel
theorem dX12_shift_22 : decode cX12_shift 22 = .ok (.iload_n 1, 1) := by decide +kernel
theorem dX12_shift_23 : decode cX12_shift 23 = .ok (.iaload, 1) := by decide +kernel
theorem dX12_shift_24 : decode cX12_shift 24 = .ok (.ifCond .lt 12, 3) := by decide +kernel
theorem dX12_shift_27 : decode cX12_shift 27 = .ok (.aload_n 0, 1) := by decide +kernel
theorem dX12_shift_28 : decode cX12_shift 28 = .ok (.getfield 223, 3) := by decide +kernel
theorem dX12_shift_31 : decode cX12_shift 31 = .ok (.iload_n 3, 1) := by decide +kernel
theorem dX12_shift_32 : decode cX12_shift 32 = .ok (.iaload, 1) := by decide +kernel
theorem dX12_shift_33 : decode cX12_shift 33 = .ok (.ifCond .ge 6, 3) := by decide +kernel
theorem dX12_shift_36 : decode cX12_shift 36 = .ok (.bipush (-11), 2) := by decide +kernel
theorem dX12_shift_38 : decode cX12_shift 38 = .ok (.ireturn, 1) := by decide +kernel
theorem dX12_shift_39 : decode cX12_shift 39 = .ok (.aload_n 0, 1) := by decide +kernel
theorem dX12_shift_40 : decode cX12_shift 40 = .ok (.getfield 223, 3) := by decide +kernel
theorem dX12_shift_43 : decode cX12_shift 43 = .ok (.iload_n 1, 1) := by decide +kernel
theorem dX12_shift_44 : decode cX12_shift 44 = .ok (.iaload, 1) := by decide +kernel
theorem dX12_shift_45 : decode cX12_shift 45 = .ok (.aload_n 0, 1) := by decide +kernel
theorem dX12_shift_46 : decode cX12_shift 46 = .ok (.getfield 223, 3) := by decide +kernel
theorem dX12_shift_49 : decode cX12_shift 49 = .ok (.iload_n 3, 1) := by decide +kernel
theorem dX12_shift_50 : decode cX12_shift 50 = .ok (.iaload, 1) := by decide +kernel
theorem dX12_shift_51 : decode cX12_shift 51 = .ok (.if_icmp .eq 6, 3) := by decide +kernel
theorem dX12_shift_54 : decode cX12_shift 54 = .ok (.bipush (-12), 2) := by decide +kernel
theorem dX12_shift_56 : decode cX12_shift 56 = .ok (.ireturn, 1) := by decide +kernel
theorem dX12_shift_57 : decode cX12_shift 57 = .ok (.iload 5, 2) := by decide +kernel
theorem dX12_shift_59 : decode cX12_shift 59 = .ok (.ifCond .lt 39, 3) := by decide +kernel
theorem dX12_shift_62 : decode cX12_shift 62 = .ok (.iload_n 2, 1) := by decide +kernel
theorem dX12_shift_63 : decode cX12_shift 63 = .ok (.ifCond .lt 35, 3) := by decide +kernel
theorem dX12_shift_66 : decode cX12_shift 66 = .ok (.iload 4, 2) := by decide +kernel
theorem dX12_shift_68 : decode cX12_shift 68 = .ok (.ifCond .lt 30, 3) := by decide +kernel
theorem dX12_shift_71 : decode cX12_shift 71 = .ok (.iload_n 2, 1) := by decide +kernel
theorem dX12_shift_72 : decode cX12_shift 72 = .ok (.aload_n 0, 1) := by decide +kernel
theorem dX12_shift_73 : decode cX12_shift 73 = .ok (.getfield 226, 3) := by decide +kernel
theorem dX12_shift_76 : decode cX12_shift 76 = .ok (.iload_n 1, 1) := by decide +kernel
theorem dX12_shift_77 : decode cX12_shift 77 = .ok (.iaload, 1) := by decide +kernel
theorem dX12_shift_78 : decode cX12_shift 78 = .ok (.iload 5, 2) := by decide +kernel
theorem dX12_shift_80 : decode cX12_shift 80 = .ok (.isub, 1) := by decide +kernel
theorem dX12_shift_81 : decode cX12_shift 81 = .ok (.if_icmp .gt 17, 3) := by decide +kernel
theorem dX12_shift_84 : decode cX12_shift 84 = .ok (.iload 4, 2) := by decide +kernel
theorem dX12_shift_86 : decode cX12_shift 86 = .ok (.aload_n 0, 1) := by decide +kernel
theorem dX12_shift_87 : decode cX12_shift 87 = .ok (.getfield 226, 3) := by decide +kernel
theorem dX12_shift_90 : decode cX12_shift 90 = .ok (.iload_n 3, 1) := by decide +kernel
theorem dX12_shift_91 : decode cX12_shift 91 = .ok (.iaload, 1) := by decide +kernel
theorem dX12_shift_92 : decode cX12_shift 92 = .ok (.iload 5, 2) := by decide +kernel
theorem dX12_shift_94 : decode cX12_shift 94 = .ok (.isub, 1) := by decide +kernel
theorem dX12_shift_95 : decode cX12_shift 95 = .ok (.if_icmp .le 6, 3) := by decide +kernel
theorem dX12_shift_98 : decode cX12_shift 98 = .ok (.bipush (-13), 2) := by decide +kernel
theorem dX12_shift_100 : decode cX12_shift 100 = .ok (.ireturn, 1) := by decide +kernel
theorem dX12_shift_101 : decode cX12_shift 101 = .ok (.iconst 0, 1) := by decide +kernel
theorem dX12_shift_102 : decode cX12_shift 102 = .ok (.istore 6, 2) := by decide +kernel
theorem dX12_shift_104 : decode cX12_shift 104 = .ok (.iload 6, 2) := by decide +kernel
theorem dX12_shift_106 : decode cX12_shift 106 = .ok (.iload 5, 2) := by decide +kernel
theorem dX12_shift_108 : decode cX12_shift 108 = .ok (.if_icmp .ge 30, 3) := by decide +kernel
theorem dX12_shift_111 : decode cX12_shift 111 = .ok (.aload_n 0, 1) := by decide +kernel
theorem dX12_shift_112 : decode cX12_shift 112 = .ok (.getfield 233, 3) := by decide +kernel
theorem dX12_shift_115 : decode cX12_shift 115 = .ok (.iload 6, 2) := by decide +kernel
theorem dX12_shift_117 : decode cX12_shift 117 = .ok (.aload_n 0, 1) := by decide +kernel
theorem dX12_shift_118 : decode cX12_shift 118 = .ok (.getfield 229, 3) := by decide +kernel
theorem dX12_shift_121 : decode cX12_shift 121 = .ok (.bipush 60, 2) := by decide +kernel
theorem dX12_shift_123 : decode cX12_shift 123 = .ok (.iload_n 1, 1) := by decide +kernel
theorem dX12_shift_124 : decode cX12_shift 124 = .ok (.imul, 1) := by decide +kernel
theorem dX12_shift_125 : decode cX12_shift 125 = .ok (.iload_n 2, 1) := by decide +kernel
theorem dX12_shift_126 : decode cX12_shift 126 = .ok (.iadd, 1) := by decide +kernel
theorem dX12_shift_127 : decode cX12_shift 127 = .ok (.iload 6, 2) := by decide +kernel
theorem dX12_shift_129 : decode cX12_shift 129 = .ok (.iadd, 1) := by decide +kernel
theorem dX12_shift_130 : decode cX12_shift 130 = .ok (.laload, 1) := by decide +kernel
theorem dX12_shift_131 : decode cX12_shift 131 = .ok (.lastore, 1) := by decide +kernel
theorem dX12_shift_132 : decode cX12_shift 132 = .ok (.iinc 6 1, 3) := by decide +kernel
theorem dX12_shift_135 : decode cX12_shift 135 = .ok (.goto (-31), 3) := by decide +kernel
theorem dX12_shift_138 : decode cX12_shift 138 = .ok (.iconst 0, 1) := by decide +kernel
theorem dX12_shift_139 : decode cX12_shift 139 = .ok (.istore 6, 2) := by decide +kernel
theorem dX12_shift_141 : decode cX12_shift 141 = .ok (.iload 6, 2) := by decide +kernel
theorem dX12_shift_143 : decode cX12_shift 143 = .ok (.iload 5, 2) := by decide +kernel
theorem dX12_shift_145 : decode cX12_shift 145 = .ok (.if_icmp .ge 31, 3) := by decide +kernel
theorem dX12_shift_148 : decode cX12_shift 148 = .ok (.aload_n 0, 1) := by decide +kernel
theorem dX12_shift_149 : decode cX12_shift 149 = .ok (.getfield 229, 3) := by decide +kernel
theorem dX12_shift_152 : decode cX12_shift 152 = .ok (.bipush 60, 2) := by decide +kernel
theorem dX12_shift_154 : decode cX12_shift 154 = .ok (.iload_n 3, 1) := by decide +kernel
theorem dX12_shift_155 : decode cX12_shift 155 = .ok (.imul, 1) := by decide +kernel
theorem dX12_shift_156 : decode cX12_shift 156 = .ok (.iload 4, 2) := by decide +kernel
theorem dX12_shift_158 : decode cX12_shift 158 = .ok (.iadd, 1) := by decide +kernel
theorem dX12_shift_159 : decode cX12_shift 159 = .ok (.iload 6, 2) := by decide +kernel
theorem dX12_shift_161 : decode cX12_shift 161 = .ok (.iadd, 1) := by decide +kernel
theorem dX12_shift_162 : decode cX12_shift 162 = .ok (.aload_n 0, 1) := by decide +kernel
theorem dX12_shift_163 : decode cX12_shift 163 = .ok (.getfield 233, 3) := by decide +kernel
theorem dX12_shift_166 : decode cX12_shift 166 = .ok (.iload 6, 2) := by decide +kernel
theorem dX12_shift_168 : decode cX12_shift 168 = .ok (.laload, 1) := by decide +kernel
theorem dX12_shift_169 : decode cX12_shift 169 = .ok (.lastore, 1) := by decide +kernel
theorem dX12_shift_170 : decode cX12_shift 170 = .ok (.iinc 6 1, 3) := by decide +kernel
theorem dX12_shift_173 : decode cX12_shift 173 = .ok (.goto (-32), 3) := by decide +kernel
theorem dX12_shift_176 : decode cX12_shift 176 = .ok (.iload 5, 2) := by decide +kernel
theorem dX12_shift_178 : decode cX12_shift 178 = .ok (.ireturn, 1) := by decide +kernel
