theorem dX13_init_0 : decode cX13_init 0 = .ok (.aload_n 0, 1) := by decide +kernel
theorem dX13_init_1 : decode cX13_init 1 = .ok (.invokespecial 1, 3) := by decide +kernel
theorem dX13_init_4 : decode cX13_init 4 = .ok (.aload_n 0, 1) := by decide +kernel
theorem dX13_init_5 : decode cX13_init 5 = .ok (.iconst (-1), 1) := by decide +kernel
theorem dX13_init_6 : decode cX13_init 6 = .ok (.putfield 7, 3) := by decide +kernel
theorem dX13_init_9 : decode cX13_init 9 = .ok (.aload_n 0, 1) := by decide +kernel
theorem dX13_init_10 : decode cX13_init 10 = .ok (.iconst (-1), 1) := by decide +kernel
theorem dX13_init_11 : decode cX13_init 11 = .ok (.putfield 13, 3) := by decide +kernel
theorem dX13_init_14 : decode cX13_init 14 = .ok (.aload_n 0, 1) := by decide +kernel
theorem dX13_init_15 : decode cX13_init 15 = .ok (.bipush 62, 2) := by decide +kernel
theorem dX13_init_17 : decode cX13_init 17 = .ok (.newarray .int, 2) := by decide +kernel
theorem dX13_init_19 : decode cX13_init 19 = .ok (.putfield 16, 3) := by decide +kernel
theorem dX13_init_22 : decode cX13_init 22 = .ok (.aload_n 0, 1) := by decide +kernel
theorem dX13_init_23 : decode cX13_init 23 = .ok (.bipush 62, 2) := by decide +kernel
theorem dX13_init_25 : decode cX13_init 25 = .ok (.newarray .int, 2) := by decide +kernel
theorem dX13_init_27 : decode cX13_init 27 = .ok (.putfield 20, 3) := by decide +kernel
theorem dX13_init_30 : decode cX13_init 30 = .ok (.aload_n 0, 1) := by decide +kernel
theorem dX13_init_31 : decode cX13_init 31 = .ok (.bipush 62, 2) := by decide +kernel
theorem dX13_init_33 : decode cX13_init 33 = .ok (.newarray .int, 2) := by decide +kernel
theorem dX13_init_35 : decode cX13_init 35 = .ok (.putfield 23, 3) := by decide +kernel
theorem dX13_init_38 : decode cX13_init 38 = .ok (.aload_n 0, 1) := by decide +kernel
theorem dX13_init_39 : decode cX13_init 39 = .ok (.sipush 496, 3) := by decide +kernel
theorem dX13_init_42 : decode cX13_init 42 = .ok (.newarray .int, 2) := by decide +kernel
theorem dX13_init_44 : decode cX13_init 44 = .ok (.putfield 26, 3) := by decide +kernel
theorem dX13_init_47 : decode cX13_init 47 = .ok (.aload_n 0, 1) := by decide +kernel
theorem dX13_init_48 : decode cX13_init 48 = .ok (.bipush 36, 2) := by decide +kernel
theorem dX13_init_50 : decode cX13_init 50 = .ok (.newarray .int, 2) := by decide +kernel
theorem dX13_init_52 : decode cX13_init 52 = .ok (.putfield 29, 3) := by decide +kernel
theorem dX13_init_55 : decode cX13_init 55 = .ok (.aload_n 0, 1) := by decide +kernel
theorem dX13_init_56 : decode cX13_init 56 = .ok (.bipush 64, 2) := by decide +kernel
theorem dX13_init_58 : decode cX13_init 58 = .ok (.newarray .int, 2) := by decide +kernel
theorem dX13_init_60 : decode cX13_init 60 = .ok (.putfield 32, 3) := by decide +kernel
theorem dX13_init_63 : decode cX13_init 63 = .ok (.aload_n 0, 1) := by decide +kernel
theorem dX13_init_64 : decode cX13_init 64 = .ok (.bipush 64, 2) := by decide +kernel
theorem dX13_init_66 : decode cX13_init 66 = .ok (.newarray .int, 2) := by decide +kernel
theorem dX13_init_68 : decode cX13_init 68 = .ok (.putfield 35, 3) := by decide +kernel
theorem dX13_init_71 : decode cX13_init 71 = .ok (.aload_n 0, 1) := by decide +kernel
theorem dX13_init_72 : decode cX13_init 72 = .ok (.bipush 31, 2) := by decide +kernel
theorem dX13_init_74 : decode cX13_init 74 = .ok (.newarray .int, 2) := by decide +kernel
theorem dX13_init_76 : decode cX13_init 76 = .ok (.putfield 38, 3) := by decide +kernel
theorem dX13_init_79 : decode cX13_init 79 = .ok (.aload_n 0, 1) := by decide +kernel
theorem dX13_init_80 : decode cX13_init 80 = .ok (.bipush 31, 2) := by decide +kernel
theorem dX13_init_82 : decode cX13_init 82 = .ok (.newarray .int, 2) := by decide +kernel
theorem dX13_init_84 : decode cX13_init 84 = .ok (.putfield 41, 3) := by decide +kernel
theorem dX13_init_87 : decode cX13_init 87 = .ok (.aload_n 0, 1) := by decide +kernel
theorem dX13_init_88 : decode cX13_init 88 = .ok (.bipush 60, 2) := by decide +kernel
theorem dX13_init_90 : decode cX13_init 90 = .ok (.newarray .int, 2) := by decide +kernel
theorem dX13_init_92 : decode cX13_init 92 = .ok (.putfield 44, 3) := by decide +kernel
theorem dX13_init_95 : decode cX13_init 95 = .ok (.aload_n 0, 1) := by decide +kernel
theorem dX13_init_96 : decode cX13_init 96 = .ok (.bipush 20, 2) := by decide +kernel
theorem dX13_init_98 : decode cX13_init 98 = .ok (.newarray .int, 2) := by decide +kernel
theorem dX13_init_100 : decode cX13_init 100 = .ok (.putfield 47, 3) := by decide +kernel
theorem dX13_init_103 : decode cX13_init 103 = .ok (.aload_n 0, 1) := by decide +kernel
theorem dX13_init_104 : decode cX13_init 104 = .ok (.bipush 7, 2) := by decide +kernel
theorem dX13_init_106 : decode cX13_init 106 = .ok (.newarray .int, 2) := by decide +kernel
theorem dX13_init_108 : decode cX13_init 108 = .ok (.putfield 50, 3) := by decide +kernel
theorem dX13_init_111 : decode cX13_init 111 = .ok (.aload_n 0, 1) := by decide +kernel
theorem dX13_init_112 : decode cX13_init 112 = .ok (.bipush 34, 2) := by decide +kernel
theorem dX13_init_114 : decode cX13_init 114 = .ok (.newarray .int, 2) := by decide +kernel
theorem dX13_init_116 : decode cX13_init 116 = .ok (.dup, 1) := by decide +kernel
theorem dX13_init_117 : decode cX13_init 117 = .ok (.iconst 0, 1) := by decide +kernel
theorem dX13_init_118 : decode cX13_init 118 = .ok (.bipush 114, 2) := by decide +kernel
theorem dX13_init_120 : decode cX13_init 120 = .ok (.iastore, 1) := by decide +kernel
theorem dX13_init_121 : decode cX13_init 121 = .ok (.dup, 1) := by decide +kernel
theorem dX13_init_122 : decode cX13_init 122 = .ok (.iconst 1, 1) := by decide +kernel
theorem dX13_init_123 : decode cX13_init 123 = .ok (.bipush 111, 2) := by decide +kernel
theorem dX13_init_125 : decode cX13_init 125 = .ok (.iastore, 1) := by decide +kernel
theorem dX13_init_126 : decode cX13_init 126 = .ok (.dup, 1) := by decide +kernel
theorem dX13_init_127 : decode cX13_init 127 = .ok (.iconst 2, 1) := by decide +kernel
theorem dX13_init_128 : decode cX13_init 128 = .ok (.bipush 99, 2) := by decide +kernel
theorem dX13_init_130 : decode cX13_init 130 = .ok (.iastore, 1) := by decide +kernel
theorem dX13_init_131 : decode cX13_init 131 = .ok (.dup, 1) := by decide +kernel
theorem dX13_init_132 : decode cX13_init 132 = .ok (.iconst 3, 1) := by decide +kernel
theorem dX13_init_133 : decode cX13_init 133 = .ok (.bipush 107, 2) := by decide +kernel
theorem dX13_init_135 : decode cX13_init 135 = .ok (.iastore, 1) := by decide +kernel
theorem dX13_init_136 : decode cX13_init 136 = .ok (.dup, 1) := by decide +kernel
theorem dX13_init_137 : decode cX13_init 137 = .ok (.iconst 4, 1) := by decide +kernel
theorem dX13_init_138 : decode cX13_init 138 = .ok (.bipush 99, 2) := by decide +kernel
theorem dX13_init_140 : decode cX13_init 140 = .ok (.iastore, 1) := by decide +kernel
theorem dX13_init_141 : decode cX13_init 141 = .ok (.dup, 1) := by decide +kernel
theorem dX13_init_142 : decode cX13_init 142 = .ok (.iconst 5, 1) := by decide +kernel
theorem dX13_init_143 : decode cX13_init 143 = .ok (.bipush 104, 2) := by decide +kernel
theorem dX13_init_145 : decode cX13_init 145 = .ok (.iastore, 1) := by decide +kernel
theorem dX13_init_146 : decode cX13_init 146 = .ok (.dup, 1) := by decide +kernel
theorem dX13_init_147 : decode cX13_init 147 = .ok (.bipush 6, 2) := by decide +kernel
theorem dX13_init_149 : decode cX13_init 149 = .ok (.bipush 97, 2) := by decide +kernel
theorem dX13_init_151 : decode cX13_init 151 = .ok (.iastore, 1) := by decide +kernel
theorem dX13_init_152 : decode cX13_init 152 = .ok (.dup, 1) := by decide +kernel
theorem dX13_init_153 : decode cX13_init 153 = .ok (.bipush 7, 2) := by decide +kernel
theorem dX13_init_155 : decode cX13_init 155 = .ok (.bipush 114, 2) := by decide +kernel
theorem dX13_init_157 : decode cX13_init 157 = .ok (.iastore, 1) := by decide +kernel
theorem dX13_init_158 : decode cX13_init 158 = .ok (.dup, 1) := by decide +kernel
theorem dX13_init_159 : decode cX13_init 159 = .ok (.bipush 8, 2) := by decide +kernel
theorem dX13_init_161 : decode cX13_init 161 = .ok (.bipush 103, 2) := by decide +kernel
theorem dX13_init_163 : decode cX13_init 163 = .ok (.iastore, 1) := by decide +kernel
theorem dX13_init_164 : decode cX13_init 164 = .ok (.dup, 1) := by decide +kernel
theorem dX13_init_165 : decode cX13_init 165 = .ok (.bipush 9, 2) := by decide +kernel
theorem dX13_init_167 : decode cX13_init 167 = .ok (.bipush 101, 2) := by decide +kernel
theorem dX13_init_169 : decode cX13_init 169 = .ok (.iastore, 1) := by decide +kernel
theorem dX13_init_170 : decode cX13_init 170 = .ok (.dup, 1) := by decide +kernel
theorem dX13_init_171 : decode cX13_init 171 = .ok (.bipush 10, 2) := by decide +kernel
theorem dX13_init_173 : decode cX13_init 173 = .ok (.bipush 114, 2) := by decide +kernel
theorem dX13_init_175 : decode cX13_init 175 = .ok (.iastore, 1) := by decide +kernel
theorem dX13_init_176 : decode cX13_init 176 = .ok (.dup, 1) := by decide +kernel
theorem dX13_init_177 : decode cX13_init 177 = .ok (.bipush 11, 2) := by decide +kernel
theorem dX13_init_179 : decode cX13_init 179 = .ok (.bipush 101, 2) := by decide +kernel
theorem dX13_init_181 : decode cX13_init 181 = .ok (.iastore, 1) := by decide +kernel
theorem dX13_init_182 : decode cX13_init 182 = .ok (.dup, 1) := by decide +kernel
theorem dX13_init_183 : decode cX13_init 183 = .ok (.bipush 12, 2) := by decide +kernel
theorem dX13_init_185 : decode cX13_init 185 = .ok (.bipush 109, 2) := by decide +kernel
theorem dX13_init_187 : decode cX13_init 187 = .ok (.iastore, 1) := by decide +kernel
theorem dX13_init_188 : decode cX13_init 188 = .ok (.dup, 1) := by decide +kernel
theorem dX13_init_189 : decode cX13_init 189 = .ok (.bipush 13, 2) := by decide +kernel
theorem dX13_init_191 : decode cX13_init 191 = .ok (.bipush 111, 2) := by decide +kernel
theorem dX13_init_193 : decode cX13_init 193 = .ok (.iastore, 1) := by decide +kernel
theorem dX13_init_194 : decode cX13_init 194 = .ok (.dup, 1) := by decide +kernel
theorem dX13_init_195 : decode cX13_init 195 = .ok (.bipush 14, 2) := by decide +kernel
theorem dX13_init_197 : decode cX13_init 197 = .ok (.bipush 118, 2) := by decide +kernel
theorem dX13_init_199 : decode cX13_init 199 = .ok (.iastore, 1) := by decide +kernel
theorem dX13_init_200 : decode cX13_init 200 = .ok (.dup, 1) := by decide +kernel
theorem dX13_init_201 : decode cX13_init 201 = .ok (.bipush 15, 2) := by decide +kernel
theorem dX13_init_203 : decode cX13_init 203 = .ok (.bipush 101, 2) := by decide +kernel
theorem dX13_init_205 : decode cX13_init 205 = .ok (.iastore, 1) := by decide +kernel
theorem dX13_init_206 : decode cX13_init 206 = .ok (.dup, 1) := by decide +kernel
theorem dX13_init_207 : decode cX13_init 207 = .ok (.bipush 16, 2) := by decide +kernel
theorem dX13_init_209 : decode cX13_init 209 = .ok (.bipush 105, 2) := by decide +kernel
theorem dX13_init_211 : decode cX13_init 211 = .ok (.iastore, 1) := by decide +kernel
theorem dX13_init_212 : decode cX13_init 212 = .ok (.dup, 1) := by decide +kernel
theorem dX13_init_213 : decode cX13_init 213 = .ok (.bipush 17, 2) := by decide +kernel
theorem dX13_init_215 : decode cX13_init 215 = .ok (.bipush 103, 2) := by decide +kernel
theorem dX13_init_217 : decode cX13_init 217 = .ok (.iastore, 1) := by decide +kernel
theorem dX13_init_218 : decode cX13_init 218 = .ok (.dup, 1) := by decide +kernel
theorem dX13_init_219 : decode cX13_init 219 = .ok (.bipush 18, 2) := by decide +kernel
theorem dX13_init_221 : decode cX13_init 221 = .ok (.bipush 110, 2) := by decide +kernel
theorem dX13_init_223 : decode cX13_init 223 = .ok (.iastore, 1) := by decide +kernel
theorem dX13_init_224 : decode cX13_init 224 = .ok (.dup, 1) := by decide +kernel
theorem dX13_init_225 : decode cX13_init 225 = .ok (.bipush 19, 2) := by decide +kernel
theorem dX13_init_227 : decode cX13_init 227 = .ok (.bipush 105, 2) := by decide +kernel
theorem dX13_init_229 : decode cX13_init 229 = .ok (.iastore, 1) := by decide +kernel
theorem dX13_init_230 : decode cX13_init 230 = .ok (.dup, 1) := by decide +kernel
theorem dX13_init_231 : decode cX13_init 231 = .ok (.bipush 20, 2) := by decide +kernel
theorem dX13_init_233 : decode cX13_init 233 = .ok (.bipush 116, 2) := by decide +kernel
theorem dX13_init_235 : decode cX13_init 235 = .ok (.iastore, 1) := by decide +kernel
theorem dX13_init_236 : decode cX13_init 236 = .ok (.dup, 1) := by decide +kernel
theorem dX13_init_237 : decode cX13_init 237 = .ok (.bipush 21, 2) := by decide +kernel
theorem dX13_init_239 : decode cX13_init 239 = .ok (.bipush 101, 2) := by decide +kernel
theorem dX13_init_241 : decode cX13_init 241 = .ok (.iastore, 1) := by decide +kernel
theorem dX13_init_242 : decode cX13_init 242 = .ok (.dup, 1) := by decide +kernel
theorem dX13_init_243 : decode cX13_init 243 = .ok (.bipush 22, 2) := by decide +kernel
theorem dX13_init_245 : decode cX13_init 245 = .ok (.bipush 100, 2) := by decide +kernel
theorem dX13_init_247 : decode cX13_init 247 = .ok (.iastore, 1) := by decide +kernel
theorem dX13_init_248 : decode cX13_init 248 = .ok (.dup, 1) := by decide +kernel
theorem dX13_init_249 : decode cX13_init 249 = .ok (.bipush 23, 2) := by decide +kernel
theorem dX13_init_251 : decode cX13_init 251 = .ok (.bipush 105, 2) := by decide +kernel
theorem dX13_init_253 : decode cX13_init 253 = .ok (.iastore, 1) := by decide +kernel
theorem dX13_init_254 : decode cX13_init 254 = .ok (.dup, 1) := by decide +kernel
theorem dX13_init_255 : decode cX13_init 255 = .ok (.bipush 24, 2) := by decide +kernel
theorem dX13_init_257 : decode cX13_init 257 = .ok (.bipush 103, 2) := by decide +kernel
theorem dX13_init_259 : decode cX13_init 259 = .ok (.iastore, 1) := by decide +kernel
theorem dX13_init_260 : decode cX13_init 260 = .ok (.dup, 1) := by decide +kernel
theorem dX13_init_261 : decode cX13_init 261 = .ok (.bipush 25, 2) := by decide +kernel
theorem dX13_init_263 : decode cX13_init 263 = .ok (.bipush 112, 2) := by decide +kernel
theorem dX13_init_265 : decode cX13_init 265 = .ok (.iastore, 1) := by decide +kernel
theorem dX13_init_266 : decode cX13_init 266 = .ok (.dup, 1) := by decide +kernel
theorem dX13_init_267 : decode cX13_init 267 = .ok (.bipush 26, 2) := by decide +kernel
theorem dX13_init_269 : decode cX13_init 269 = .ok (.bipush 114, 2) := by decide +kernel
theorem dX13_init_271 : decode cX13_init 271 = .ok (.iastore, 1) := by decide +kernel
theorem dX13_init_272 : decode cX13_init 272 = .ok (.dup, 1) := by decide +kernel
theorem dX13_init_273 : decode cX13_init 273 = .ok (.bipush 27, 2) := by decide +kernel
theorem dX13_init_275 : decode cX13_init 275 = .ok (.bipush 105, 2) := by decide +kernel
theorem dX13_init_277 : decode cX13_init 277 = .ok (.iastore, 1) := by decide +kernel
theorem dX13_init_278 : decode cX13_init 278 = .ok (.dup, 1) := by decide +kernel
theorem dX13_init_279 : decode cX13_init 279 = .ok (.bipush 28, 2) := by decide +kernel
theorem dX13_init_281 : decode cX13_init 281 = .ok (.bipush 99, 2) := by decide +kernel
theorem dX13_init_283 : decode cX13_init 283 = .ok (.iastore, 1) := by decide +kernel
theorem dX13_init_284 : decode cX13_init 284 = .ok (.dup, 1) := by decide +kernel
theorem dX13_init_285 : decode cX13_init 285 = .ok (.bipush 29, 2) := by decide +kernel
theorem dX13_init_287 : decode cX13_init 287 = .ok (.bipush 101, 2) := by decide +kernel
theorem dX13_init_289 : decode cX13_init 289 = .ok (.iastore, 1) := by decide +kernel
theorem dX13_init_290 : decode cX13_init 290 = .ok (.dup, 1) := by decide +kernel
theorem dX13_init_291 : decode cX13_init 291 = .ok (.bipush 30, 2) := by decide +kernel
theorem dX13_init_293 : decode cX13_init 293 = .ok (.bipush 115, 2) := by decide +kernel
theorem dX13_init_295 : decode cX13_init 295 = .ok (.iastore, 1) := by decide +kernel
theorem dX13_init_296 : decode cX13_init 296 = .ok (.dup, 1) := by decide +kernel
theorem dX13_init_297 : decode cX13_init 297 = .ok (.bipush 31, 2) := by decide +kernel
theorem dX13_init_299 : decode cX13_init 299 = .ok (.bipush 101, 2) := by decide +kernel
theorem dX13_init_301 : decode cX13_init 301 = .ok (.iastore, 1) := by decide +kernel
theorem dX13_init_302 : decode cX13_init 302 = .ok (.dup, 1) := by decide +kernel
theorem dX13_init_303 : decode cX13_init 303 = .ok (.bipush 32, 2) := by decide +kernel
theorem dX13_init_305 : decode cX13_init 305 = .ok (.bipush 108, 2) := by decide +kernel
theorem dX13_init_307 : decode cX13_init 307 = .ok (.iastore, 1) := by decide +kernel
theorem dX13_init_308 : decode cX13_init 308 = .ok (.dup, 1) := by decide +kernel
theorem dX13_init_309 : decode cX13_init 309 = .ok (.bipush 33, 2) := by decide +kernel
theorem dX13_init_311 : decode cX13_init 311 = .ok (.bipush 108, 2) := by decide +kernel
theorem dX13_init_313 : decode cX13_init 313 = .ok (.iastore, 1) := by decide +kernel
theorem dX13_init_314 : decode cX13_init 314 = .ok (.putfield 53, 3) := by decide +kernel
theorem dX13_init_317 : decode cX13_init 317 = .ok (.aload_n 0, 1) := by decide +kernel
theorem dX13_init_318 : decode cX13_init 318 = .ok (.bipush 8, 2) := by decide +kernel
theorem dX13_init_320 : decode cX13_init 320 = .ok (.newarray .int, 2) := by decide +kernel
theorem dX13_init_322 : decode cX13_init 322 = .ok (.dup, 1) := by decide +kernel
theorem dX13_init_323 : decode cX13_init 323 = .ok (.iconst 0, 1) := by decide +kernel
theorem dX13_init_324 : decode cX13_init 324 = .ok (.iconst 0, 1) := by decide +kernel
theorem dX13_init_325 : decode cX13_init 325 = .ok (.iastore, 1) := by decide +kernel
theorem dX13_init_326 : decode cX13_init 326 = .ok (.dup, 1) := by decide +kernel
theorem dX13_init_327 : decode cX13_init 327 = .ok (.iconst 1, 1) := by decide +kernel
theorem dX13_init_328 : decode cX13_init 328 = .ok (.iconst 4, 1) := by decide +kernel
theorem dX13_init_329 : decode cX13_init 329 = .ok (.iastore, 1) := by decide +kernel
theorem dX13_init_330 : decode cX13_init 330 = .ok (.dup, 1) := by decide +kernel
theorem dX13_init_331 : decode cX13_init 331 = .ok (.iconst 2, 1) := by decide +kernel
theorem dX13_init_332 : decode cX13_init 332 = .ok (.bipush 10, 2) := by decide +kernel
theorem dX13_init_334 : decode cX13_init 334 = .ok (.iastore, 1) := by decide +kernel
theorem dX13_init_335 : decode cX13_init 335 = .ok (.dup, 1) := by decide +kernel
theorem dX13_init_336 : decode cX13_init 336 = .ok (.iconst 3, 1) := by decide +kernel
theorem dX13_init_337 : decode cX13_init 337 = .ok (.bipush 16, 2) := by decide +kernel
theorem dX13_init_339 : decode cX13_init 339 = .ok (.iastore, 1) := by decide +kernel
theorem dX13_init_340 : decode cX13_init 340 = .ok (.dup, 1) := by decide +kernel
theorem dX13_init_341 : decode cX13_init 341 = .ok (.iconst 4, 1) := by decide +kernel
theorem dX13_init_342 : decode cX13_init 342 = .ok (.bipush 22, 2) := by decide +kernel
theorem dX13_init_344 : decode cX13_init 344 = .ok (.iastore, 1) := by decide +kernel
theorem dX13_init_345 : decode cX13_init 345 = .ok (.dup, 1) := by decide +kernel
theorem dX13_init_346 : decode cX13_init 346 = .ok (.iconst 5, 1) := by decide +kernel
theorem dX13_init_347 : decode cX13_init 347 = .ok (.bipush 25, 2) := by decide +kernel
theorem dX13_init_349 : decode cX13_init 349 = .ok (.iastore, 1) := by decide +kernel
theorem dX13_init_350 : decode cX13_init 350 = .ok (.dup, 1) := by decide +kernel
theorem dX13_init_351 : decode cX13_init 351 = .ok (.bipush 6, 2) := by decide +kernel
theorem dX13_init_353 : decode cX13_init 353 = .ok (.bipush 30, 2) := by decide +kernel
theorem dX13_init_355 : decode cX13_init 355 = .ok (.iastore, 1) := by decide +kernel
theorem dX13_init_356 : decode cX13_init 356 = .ok (.dup, 1) := by decide +kernel
theorem dX13_init_357 : decode cX13_init 357 = .ok (.bipush 7, 2) := by decide +kernel
theorem dX13_init_359 : decode cX13_init 359 = .ok (.bipush 34, 2) := by decide +kernel
theorem dX13_init_361 : decode cX13_init 361 = .ok (.iastore, 1) := by decide +kernel
theorem dX13_init_362 : decode cX13_init 362 = .ok (.putfield 56, 3) := by decide +kernel
theorem dX13_init_365 : decode cX13_init 365 = .ok (.iconst 0, 1) := by decide +kernel
theorem dX13_init_366 : decode cX13_init 366 = .ok (.istore_n 1, 1) := by decide +kernel
theorem dX13_init_367 : decode cX13_init 367 = .ok (.iload_n 1, 1) := by decide +kernel
theorem dX13_init_368 : decode cX13_init 368 = .ok (.bipush 36, 2) := by decide +kernel
theorem dX13_init_370 : decode cX13_init 370 = .ok (.if_icmp .ge 18, 3) := by decide +kernel
theorem dX13_init_373 : decode cX13_init 373 = .ok (.aload_n 0, 1) := by decide +kernel
theorem dX13_init_374 : decode cX13_init 374 = .ok (.getfield 16, 3) := by decide +kernel
theorem dX13_init_377 : decode cX13_init 377 = .ok (.iconst 4, 1) := by decide +kernel
theorem dX13_init_378 : decode cX13_init 378 = .ok (.iload_n 1, 1) := by decide +kernel
theorem dX13_init_379 : decode cX13_init 379 = .ok (.iadd, 1) := by decide +kernel
theorem dX13_init_380 : decode cX13_init 380 = .ok (.iconst 5, 1) := by decide +kernel
theorem dX13_init_381 : decode cX13_init 381 = .ok (.iastore, 1) := by decide +kernel
theorem dX13_init_382 : decode cX13_init 382 = .ok (.iinc 1 1, 3) := by decide +kernel
theorem dX13_init_385 : decode cX13_init 385 = .ok (.goto (-18), 3) := by decide +kernel
theorem dX13_init_388 : decode cX13_init 388 = .ok (.return_, 1) := by decide +kernel
theorem dX13_thrown_0 : decode cX13_thrown 0 = .ok (.aload_n 0, 1) := by decide +kernel
theorem dX13_thrown_1 : decode cX13_thrown 1 = .ok (.getfield 59, 3) := by decide +kernel
theorem dX13_thrown_4 : decode cX13_thrown 4 = .ok (.ireturn, 1) := by decide +kernel
theorem dX13_fail_0 : decode cX13_fail 0 = .ok (.aload_n 0, 1) := by decide +kernel
theorem dX13_fail_1 : decode cX13_fail 1 = .ok (.iload_n 1, 1) := by decide +kernel
theorem dX13_fail_2 : decode cX13_fail 2 = .ok (.putfield 59, 3) := by decide +kernel
theorem dX13_fail_5 : decode cX13_fail 5 = .ok (.iconst 0, 1) := by decide +kernel
theorem dX13_fail_6 : decode cX13_fail 6 = .ok (.ireturn, 1) := by decide +kernel
theorem dX13_isIn_0 : decode cX13_isIn 0 = .ok (.iload_n 0, 1) := by decide +kernel
theorem dX13_isIn_1 : decode cX13_isIn 1 = .ok (.iload_n 1, 1) := by decide +kernel
theorem dX13_isIn_2 : decode cX13_isIn 2 = .ok (.if_icmp .lt 12, 3) := by decide +kernel
theorem dX13_isIn_5 : decode cX13_isIn 5 = .ok (.iload_n 0, 1) := by decide +kernel
theorem dX13_isIn_6 : decode cX13_isIn 6 = .ok (.iload_n 2, 1) := by decide +kernel
theorem dX13_isIn_7 : decode cX13_isIn 7 = .ok (.if_icmp .gt 7, 3) := by decide +kernel
theorem dX13_isIn_10 : decode cX13_isIn 10 = .ok (.iconst 1, 1) := by decide +kernel
theorem dX13_isIn_11 : decode cX13_isIn 11 = .ok (.goto 4, 3) := by decide +kernel
theorem dX13_isIn_14 : decode cX13_isIn 14 = .ok (.iconst 0, 1) := by decide +kernel
theorem dX13_isIn_15 : decode cX13_isIn 15 = .ok (.ireturn, 1) := by decide +kernel
theorem dX13_lays_0 : decode cX13_lays 0 = .ok (.iconst 0, 1) := by decide +kernel
theorem dX13_lays_1 : decode cX13_lays 1 = .ok (.istore_n 2, 1) := by decide +kernel
theorem dX13_lays_2 : decode cX13_lays 2 = .ok (.iload_n 2, 1) := by decide +kernel
theorem dX13_lays_3 : decode cX13_lays 3 = .ok (.bipush 62, 2) := by decide +kernel
theorem dX13_lays_5 : decode cX13_lays 5 = .ok (.if_icmp .ge 15, 3) := by decide +kernel
theorem dX13_lays_8 : decode cX13_lays 8 = .ok (.aload_n 0, 1) := by decide +kernel
theorem dX13_lays_9 : decode cX13_lays 9 = .ok (.iload_n 2, 1) := by decide +kernel
theorem dX13_lays_10 : decode cX13_lays 10 = .ok (.aload_n 1, 1) := by decide +kernel
theorem dX13_lays_11 : decode cX13_lays 11 = .ok (.iload_n 2, 1) := by decide +kernel
theorem dX13_lays_12 : decode cX13_lays 12 = .ok (.iaload, 1) := by decide +kernel
theorem dX13_lays_13 : decode cX13_lays 13 = .ok (.iastore, 1) := by decide +kernel
theorem dX13_lays_14 : decode cX13_lays 14 = .ok (.iinc 2 1, 3) := by decide +kernel
theorem dX13_lays_17 : decode cX13_lays 17 = .ok (.goto (-15), 3) := by decide +kernel
theorem dX13_lays_20 : decode cX13_lays 20 = .ok (.return_, 1) := by decide +kernel
theorem dX13_begins_0 : decode cX13_begins 0 = .ok (.aload_n 0, 1) := by decide +kernel
theorem dX13_begins_1 : decode cX13_begins 1 = .ok (.iconst 0, 1) := by decide +kernel
theorem dX13_begins_2 : decode cX13_begins 2 = .ok (.putfield 59, 3) := by decide +kernel
theorem dX13_begins_5 : decode cX13_begins 5 = .ok (.aload_n 0, 1) := by decide +kernel
theorem dX13_begins_6 : decode cX13_begins 6 = .ok (.getfield 20, 3) := by decide +kernel
theorem dX13_begins_9 : decode cX13_begins 9 = .ok (.aload_n 0, 1) := by decide +kernel
theorem dX13_begins_10 : decode cX13_begins 10 = .ok (.getfield 16, 3) := by decide +kernel
theorem dX13_begins_13 : decode cX13_begins 13 = .ok (.invokestatic 62, 3) := by decide +kernel
theorem dX13_begins_16 : decode cX13_begins 16 = .ok (.return_, 1) := by decide +kernel
theorem dX13_ends_0 : decode cX13_ends 0 = .ok (.aload_n 0, 1) := by decide +kernel
theorem dX13_ends_1 : decode cX13_ends 1 = .ok (.getfield 59, 3) := by decide +kernel
theorem dX13_ends_4 : decode cX13_ends 4 = .ok (.ifCond .eq 16, 3) := by decide +kernel
theorem dX13_ends_7 : decode cX13_ends 7 = .ok (.aload_n 0, 1) := by decide +kernel
theorem dX13_ends_8 : decode cX13_ends 8 = .ok (.getfield 16, 3) := by decide +kernel
theorem dX13_ends_11 : decode cX13_ends 11 = .ok (.aload_n 0, 1) := by decide +kernel
theorem dX13_ends_12 : decode cX13_ends 12 = .ok (.getfield 20, 3) := by decide +kernel
theorem dX13_ends_15 : decode cX13_ends 15 = .ok (.invokestatic 62, 3) := by decide +kernel
theorem dX13_ends_18 : decode cX13_ends 18 = .ok (.iconst 0, 1) := by decide +kernel
theorem dX13_ends_19 : decode cX13_ends 19 = .ok (.ireturn, 1) := by decide +kernel
theorem dX13_ends_20 : decode cX13_ends 20 = .ok (.aload_n 0, 1) := by decide +kernel
theorem dX13_ends_21 : decode cX13_ends 21 = .ok (.getfield 66, 3) := by decide +kernel
theorem dX13_ends_24 : decode cX13_ends 24 = .ok (.bipush 8, 2) := by decide +kernel
theorem dX13_ends_26 : decode cX13_ends 26 = .ok (.if_icmp .ne 43, 3) := by decide +kernel
theorem dX13_ends_29 : decode cX13_ends 29 = .ok (.iconst 0, 1) := by decide +kernel
theorem dX13_ends_30 : decode cX13_ends 30 = .ok (.istore_n 2, 1) := by decide +kernel
theorem dX13_ends_31 : decode cX13_ends 31 = .ok (.iload_n 2, 1) := by decide +kernel
theorem dX13_ends_32 : decode cX13_ends 32 = .ok (.sipush 434, 3) := by decide +kernel
theorem dX13_ends_35 : decode cX13_ends 35 = .ok (.if_icmp .ge 24, 3) := by decide +kernel
theorem dX13_ends_38 : decode cX13_ends 38 = .ok (.aload_n 0, 1) := by decide +kernel
theorem dX13_ends_39 : decode cX13_ends 39 = .ok (.getfield 26, 3) := by decide +kernel
theorem dX13_ends_42 : decode cX13_ends 42 = .ok (.iload_n 2, 1) := by decide +kernel
theorem dX13_ends_43 : decode cX13_ends 43 = .ok (.aload_n 0, 1) := by decide +kernel
theorem dX13_ends_44 : decode cX13_ends 44 = .ok (.getfield 26, 3) := by decide +kernel
theorem dX13_ends_47 : decode cX13_ends 47 = .ok (.iload_n 2, 1) := by decide +kernel
theorem dX13_ends_48 : decode cX13_ends 48 = .ok (.bipush 62, 2) := by decide +kernel
theorem dX13_ends_50 : decode cX13_ends 50 = .ok (.iadd, 1) := by decide +kernel
theorem dX13_ends_51 : decode cX13_ends 51 = .ok (.iaload, 1) := by decide +kernel
theorem dX13_ends_52 : decode cX13_ends 52 = .ok (.iastore, 1) := by decide +kernel
theorem dX13_ends_53 : decode cX13_ends 53 = .ok (.iinc 2 1, 3) := by decide +kernel
theorem dX13_ends_56 : decode cX13_ends 56 = .ok (.goto (-25), 3) := by decide +kernel
theorem dX13_ends_59 : decode cX13_ends 59 = .ok (.aload_n 0, 1) := by decide +kernel
theorem dX13_ends_60 : decode cX13_ends 60 = .ok (.dup, 1) := by decide +kernel
theorem dX13_ends_61 : decode cX13_ends 61 = .ok (.getfield 66, 3) := by decide +kernel
theorem dX13_ends_64 : decode cX13_ends 64 = .ok (.iconst 1, 1) := by decide +kernel
theorem dX13_ends_65 : decode cX13_ends 65 = .ok (.isub, 1) := by decide +kernel
theorem dX13_ends_66 : decode cX13_ends 66 = .ok (.putfield 66, 3) := by decide +kernel
theorem dX13_ends_69 : decode cX13_ends 69 = .ok (.iconst 0, 1) := by decide +kernel
theorem dX13_ends_70 : decode cX13_ends 70 = .ok (.istore_n 2, 1) := by decide +kernel
theorem dX13_ends_71 : decode cX13_ends 71 = .ok (.iload_n 2, 1) := by decide +kernel
theorem dX13_ends_72 : decode cX13_ends 72 = .ok (.bipush 62, 2) := by decide +kernel
theorem dX13_ends_74 : decode cX13_ends 74 = .ok (.if_icmp .ge 29, 3) := by decide +kernel
theorem dX13_ends_77 : decode cX13_ends 77 = .ok (.aload_n 0, 1) := by decide +kernel
theorem dX13_ends_78 : decode cX13_ends 78 = .ok (.getfield 26, 3) := by decide +kernel
theorem dX13_ends_81 : decode cX13_ends 81 = .ok (.aload_n 0, 1) := by decide +kernel
theorem dX13_ends_82 : decode cX13_ends 82 = .ok (.getfield 66, 3) := by decide +kernel
theorem dX13_ends_85 : decode cX13_ends 85 = .ok (.bipush 62, 2) := by decide +kernel
theorem dX13_ends_87 : decode cX13_ends 87 = .ok (.imul, 1) := by decide +kernel
theorem dX13_ends_88 : decode cX13_ends 88 = .ok (.iload_n 2, 1) := by decide +kernel
theorem dX13_ends_89 : decode cX13_ends 89 = .ok (.iadd, 1) := by decide +kernel
theorem dX13_ends_90 : decode cX13_ends 90 = .ok (.aload_n 0, 1) := by decide +kernel
theorem dX13_ends_91 : decode cX13_ends 91 = .ok (.getfield 20, 3) := by decide +kernel
theorem dX13_ends_94 : decode cX13_ends 94 = .ok (.iload_n 2, 1) := by decide +kernel
theorem dX13_ends_95 : decode cX13_ends 95 = .ok (.iaload, 1) := by decide +kernel
theorem dX13_ends_96 : decode cX13_ends 96 = .ok (.iastore, 1) := by decide +kernel
theorem dX13_ends_97 : decode cX13_ends 97 = .ok (.iinc 2 1, 3) := by decide +kernel
theorem dX13_ends_100 : decode cX13_ends 100 = .ok (.goto (-29), 3) := by decide +kernel
theorem dX13_ends_103 : decode cX13_ends 103 = .ok (.aload_n 0, 1) := by decide +kernel
theorem dX13_ends_104 : decode cX13_ends 104 = .ok (.dup, 1) := by decide +kernel
theorem dX13_ends_105 : decode cX13_ends 105 = .ok (.getfield 66, 3) := by decide +kernel
theorem dX13_ends_108 : decode cX13_ends 108 = .ok (.iconst 1, 1) := by decide +kernel
theorem dX13_ends_109 : decode cX13_ends 109 = .ok (.iadd, 1) := by decide +kernel
theorem dX13_ends_110 : decode cX13_ends 110 = .ok (.putfield 66, 3) := by decide +kernel
theorem dX13_ends_113 : decode cX13_ends 113 = .ok (.iload_n 1, 1) := by decide +kernel
theorem dX13_ends_114 : decode cX13_ends 114 = .ok (.ireturn, 1) := by decide +kernel
theorem dX13_isCell_0 : decode cX13_isCell 0 = .ok (.iload_n 0, 1) := by decide +kernel
theorem dX13_isCell_1 : decode cX13_isCell 1 = .ok (.iconst 0, 1) := by decide +kernel
theorem dX13_isCell_2 : decode cX13_isCell 2 = .ok (.iconst 5, 1) := by decide +kernel
theorem dX13_isCell_3 : decode cX13_isCell 3 = .ok (.invokestatic 69, 3) := by decide +kernel
theorem dX13_isCell_6 : decode cX13_isCell 6 = .ok (.ifCond .eq 16, 3) := by decide +kernel
theorem dX13_isCell_9 : decode cX13_isCell 9 = .ok (.iload_n 1, 1) := by decide +kernel
theorem dX13_isCell_10 : decode cX13_isCell 10 = .ok (.iconst 0, 1) := by decide +kernel
theorem dX13_isCell_11 : decode cX13_isCell 11 = .ok (.iconst 5, 1) := by decide +kernel
theorem dX13_isCell_12 : decode cX13_isCell 12 = .ok (.invokestatic 69, 3) := by decide +kernel
theorem dX13_isCell_15 : decode cX13_isCell 15 = .ok (.ifCond .eq 7, 3) := by decide +kernel
theorem dX13_isCell_18 : decode cX13_isCell 18 = .ok (.iconst 1, 1) := by decide +kernel
theorem dX13_isCell_19 : decode cX13_isCell 19 = .ok (.goto 4, 3) := by decide +kernel
theorem dX13_isCell_22 : decode cX13_isCell 22 = .ok (.iconst 0, 1) := by decide +kernel
theorem dX13_isCell_23 : decode cX13_isCell 23 = .ok (.ireturn, 1) := by decide +kernel
theorem dX13_cell_0 : decode cX13_cell 0 = .ok (.bipush 6, 2) := by decide +kernel
theorem dX13_cell_2 : decode cX13_cell 2 = .ok (.iload_n 0, 1) := by decide +kernel
theorem dX13_cell_3 : decode cX13_cell 3 = .ok (.imul, 1) := by decide +kernel
theorem dX13_cell_4 : decode cX13_cell 4 = .ok (.iload_n 1, 1) := by decide +kernel
theorem dX13_cell_5 : decode cX13_cell 5 = .ok (.iadd, 1) := by decide +kernel
theorem dX13_cell_6 : decode cX13_cell 6 = .ok (.ireturn, 1) := by decide +kernel
theorem dX13_hard_0 : decode cX13_hard 0 = .ok (.aload_n 0, 1) := by decide +kernel
theorem dX13_hard_1 : decode cX13_hard 1 = .ok (.getfield 16, 3) := by decide +kernel
theorem dX13_hard_4 : decode cX13_hard 4 = .ok (.iconst 4, 1) := by decide +kernel
theorem dX13_hard_5 : decode cX13_hard 5 = .ok (.iload_n 1, 1) := by decide +kernel
theorem dX13_hard_6 : decode cX13_hard 6 = .ok (.iadd, 1) := by decide +kernel
theorem dX13_hard_7 : decode cX13_hard 7 = .ok (.iaload, 1) := by decide +kernel
theorem dX13_hard_8 : decode cX13_hard 8 = .ok (.ireturn, 1) := by decide +kernel
theorem dX13_beside_0 : decode cX13_beside 0 = .ok (.iload_n 1, 1) := by decide +kernel
theorem dX13_beside_1 : decode cX13_beside 1 = .ok (.ifCond .ne 8, 3) := by decide +kernel
theorem dX13_beside_4 : decode cX13_beside 4 = .ok (.iload_n 0, 1) := by decide +kernel
theorem dX13_beside_5 : decode cX13_beside 5 = .ok (.bipush 6, 2) := by decide +kernel
theorem dX13_beside_7 : decode cX13_beside 7 = .ok (.isub, 1) := by decide +kernel
theorem dX13_beside_8 : decode cX13_beside 8 = .ok (.ireturn, 1) := by decide +kernel
theorem dX13_beside_9 : decode cX13_beside 9 = .ok (.iload_n 1, 1) := by decide +kernel
theorem dX13_beside_10 : decode cX13_beside 10 = .ok (.iconst 1, 1) := by decide +kernel
theorem dX13_beside_11 : decode cX13_beside 11 = .ok (.if_icmp .ne 21, 3) := by decide +kernel
theorem dX13_beside_14 : decode cX13_beside 14 = .ok (.iload_n 0, 1) := by decide +kernel
theorem dX13_beside_15 : decode cX13_beside 15 = .ok (.bipush 6, 2) := by decide +kernel
theorem dX13_beside_17 : decode cX13_beside 17 = .ok (.iadd, 1) := by decide +kernel
theorem dX13_beside_18 : decode cX13_beside 18 = .ok (.bipush 36, 2) := by decide +kernel
theorem dX13_beside_20 : decode cX13_beside 20 = .ok (.if_icmp .ge 10, 3) := by decide +kernel
theorem dX13_beside_23 : decode cX13_beside 23 = .ok (.iload_n 0, 1) := by decide +kernel
theorem dX13_beside_24 : decode cX13_beside 24 = .ok (.bipush 6, 2) := by decide +kernel
theorem dX13_beside_26 : decode cX13_beside 26 = .ok (.iadd, 1) := by decide +kernel
theorem dX13_beside_27 : decode cX13_beside 27 = .ok (.goto 4, 3) := by decide +kernel
theorem dX13_beside_30 : decode cX13_beside 30 = .ok (.iconst (-1), 1) := by decide +kernel
theorem dX13_beside_31 : decode cX13_beside 31 = .ok (.ireturn, 1) := by decide +kernel
theorem dX13_beside_32 : decode cX13_beside 32 = .ok (.iload_n 1, 1) := by decide +kernel
theorem dX13_beside_33 : decode cX13_beside 33 = .ok (.iconst 2, 1) := by decide +kernel
theorem dX13_beside_34 : decode cX13_beside 34 = .ok (.if_icmp .ne 18, 3) := by decide +kernel
theorem dX13_beside_37 : decode cX13_beside 37 = .ok (.iload_n 0, 1) := by decide +kernel
theorem dX13_beside_38 : decode cX13_beside 38 = .ok (.bipush 6, 2) := by decide +kernel
theorem dX13_beside_40 : decode cX13_beside 40 = .ok (.irem, 1) := by decide +kernel
theorem dX13_beside_41 : decode cX13_beside 41 = .ok (.ifCond .le 9, 3) := by decide +kernel
theorem dX13_beside_44 : decode cX13_beside 44 = .ok (.iload_n 0, 1) := by decide +kernel
theorem dX13_beside_45 : decode cX13_beside 45 = .ok (.iconst 1, 1) := by decide +kernel
theorem dX13_beside_46 : decode cX13_beside 46 = .ok (.isub, 1) := by decide +kernel
theorem dX13_beside_47 : decode cX13_beside 47 = .ok (.goto 4, 3) := by decide +kernel
theorem dX13_beside_50 : decode cX13_beside 50 = .ok (.iconst (-1), 1) := by decide +kernel
theorem dX13_beside_51 : decode cX13_beside 51 = .ok (.ireturn, 1) := by decide +kernel
theorem dX13_beside_52 : decode cX13_beside 52 = .ok (.iload_n 0, 1) := by decide +kernel
theorem dX13_beside_53 : decode cX13_beside 53 = .ok (.bipush 6, 2) := by decide +kernel
theorem dX13_beside_55 : decode cX13_beside 55 = .ok (.irem, 1) := by decide +kernel
theorem dX13_beside_56 : decode cX13_beside 56 = .ok (.iconst 5, 1) := by decide +kernel
theorem dX13_beside_57 : decode cX13_beside 57 = .ok (.if_icmp .ge 9, 3) := by decide +kernel
theorem dX13_beside_60 : decode cX13_beside 60 = .ok (.iload_n 0, 1) := by decide +kernel
theorem dX13_beside_61 : decode cX13_beside 61 = .ok (.iconst 1, 1) := by decide +kernel
theorem dX13_beside_62 : decode cX13_beside 62 = .ok (.iadd, 1) := by decide +kernel
theorem dX13_beside_63 : decode cX13_beside 63 = .ok (.goto 4, 3) := by decide +kernel
theorem dX13_beside_66 : decode cX13_beside 66 = .ok (.iconst (-1), 1) := by decide +kernel
theorem dX13_beside_67 : decode cX13_beside 67 = .ok (.ireturn, 1) := by decide +kernel
theorem dX13_apart_0 : decode cX13_apart 0 = .ok (.iload_n 0, 1) := by decide +kernel
theorem dX13_apart_1 : decode cX13_apart 1 = .ok (.bipush 6, 2) := by decide +kernel
theorem dX13_apart_3 : decode cX13_apart 3 = .ok (.idiv, 1) := by decide +kernel
theorem dX13_apart_4 : decode cX13_apart 4 = .ok (.iload_n 1, 1) := by decide +kernel
theorem dX13_apart_5 : decode cX13_apart 5 = .ok (.bipush 6, 2) := by decide +kernel
theorem dX13_apart_7 : decode cX13_apart 7 = .ok (.idiv, 1) := by decide +kernel
theorem dX13_apart_8 : decode cX13_apart 8 = .ok (.isub, 1) := by decide +kernel
theorem dX13_apart_9 : decode cX13_apart 9 = .ok (.istore_n 2, 1) := by decide +kernel
theorem dX13_apart_10 : decode cX13_apart 10 = .ok (.iload_n 0, 1) := by decide +kernel
theorem dX13_apart_11 : decode cX13_apart 11 = .ok (.bipush 6, 2) := by decide +kernel
theorem dX13_apart_13 : decode cX13_apart 13 = .ok (.irem, 1) := by decide +kernel
theorem dX13_apart_14 : decode cX13_apart 14 = .ok (.iload_n 1, 1) := by decide +kernel
theorem dX13_apart_15 : decode cX13_apart 15 = .ok (.bipush 6, 2) := by decide +kernel
theorem dX13_apart_17 : decode cX13_apart 17 = .ok (.irem, 1) := by decide +kernel
theorem dX13_apart_18 : decode cX13_apart 18 = .ok (.isub, 1) := by decide +kernel
theorem dX13_apart_19 : decode cX13_apart 19 = .ok (.istore_n 3, 1) := by decide +kernel
theorem dX13_apart_20 : decode cX13_apart 20 = .ok (.iload_n 2, 1) := by decide +kernel
theorem dX13_apart_21 : decode cX13_apart 21 = .ok (.ifCond .ge 8, 3) := by decide +kernel
theorem dX13_apart_24 : decode cX13_apart 24 = .ok (.iload_n 2, 1) := by decide +kernel
theorem dX13_apart_25 : decode cX13_apart 25 = .ok (.ineg, 1) := by decide +kernel
theorem dX13_apart_26 : decode cX13_apart 26 = .ok (.goto 4, 3) := by decide +kernel
theorem dX13_apart_29 : decode cX13_apart 29 = .ok (.iload_n 2, 1) := by decide +kernel
theorem dX13_apart_30 : decode cX13_apart 30 = .ok (.iload_n 3, 1) := by decide +kernel
theorem dX13_apart_31 : decode cX13_apart 31 = .ok (.ifCond .ge 8, 3) := by decide +kernel
theorem dX13_apart_34 : decode cX13_apart 34 = .ok (.iload_n 3, 1) := by decide +kernel
theorem dX13_apart_35 : decode cX13_apart 35 = .ok (.ineg, 1) := by decide +kernel
theorem dX13_apart_36 : decode cX13_apart 36 = .ok (.goto 4, 3) := by decide +kernel
theorem dX13_apart_39 : decode cX13_apart 39 = .ok (.iload_n 3, 1) := by decide +kernel
theorem dX13_apart_40 : decode cX13_apart 40 = .ok (.iadd, 1) := by decide +kernel
theorem dX13_apart_41 : decode cX13_apart 41 = .ok (.ireturn, 1) := by decide +kernel
theorem dX13_placeOf_0 : decode cX13_placeOf 0 = .ok (.aload_n 0, 1) := by decide +kernel
theorem dX13_placeOf_1 : decode cX13_placeOf 1 = .ok (.getfield 16, 3) := by decide +kernel
theorem dX13_placeOf_4 : decode cX13_placeOf 4 = .ok (.bipush 40, 2) := by decide +kernel
theorem dX13_placeOf_6 : decode cX13_placeOf 6 = .ok (.iconst 2, 1) := by decide +kernel
theorem dX13_placeOf_7 : decode cX13_placeOf 7 = .ok (.iload_n 1, 1) := by decide +kernel
theorem dX13_placeOf_8 : decode cX13_placeOf 8 = .ok (.imul, 1) := by decide +kernel
theorem dX13_placeOf_9 : decode cX13_placeOf 9 = .ok (.iadd, 1) := by decide +kernel
theorem dX13_placeOf_10 : decode cX13_placeOf 10 = .ok (.iaload, 1) := by decide +kernel
theorem dX13_placeOf_11 : decode cX13_placeOf 11 = .ok (.ireturn, 1) := by decide +kernel
theorem dX13_strength_0 : decode cX13_strength 0 = .ok (.aload_n 0, 1) := by decide +kernel
theorem dX13_strength_1 : decode cX13_strength 1 = .ok (.getfield 16, 3) := by decide +kernel
theorem dX13_strength_4 : decode cX13_strength 4 = .ok (.bipush 40, 2) := by decide +kernel
theorem dX13_strength_6 : decode cX13_strength 6 = .ok (.iconst 2, 1) := by decide +kernel
theorem dX13_strength_7 : decode cX13_strength 7 = .ok (.iload_n 1, 1) := by decide +kernel
theorem dX13_strength_8 : decode cX13_strength 8 = .ok (.imul, 1) := by decide +kernel
theorem dX13_strength_9 : decode cX13_strength 9 = .ok (.iadd, 1) := by decide +kernel
theorem dX13_strength_10 : decode cX13_strength 10 = .ok (.iconst 1, 1) := by decide +kernel
theorem dX13_strength_11 : decode cX13_strength 11 = .ok (.iadd, 1) := by decide +kernel
theorem dX13_strength_12 : decode cX13_strength 12 = .ok (.iaload, 1) := by decide +kernel
theorem dX13_strength_13 : decode cX13_strength 13 = .ok (.ireturn, 1) := by decide +kernel
theorem dX13_chargeIn_0 : decode cX13_chargeIn 0 = .ok (.iconst 0, 1) := by decide +kernel
theorem dX13_chargeIn_1 : decode cX13_chargeIn 1 = .ok (.istore_n 2, 1) := by decide +kernel
theorem dX13_chargeIn_2 : decode cX13_chargeIn 2 = .ok (.iload_n 2, 1) := by decide +kernel
theorem dX13_chargeIn_3 : decode cX13_chargeIn 3 = .ok (.aload_n 0, 1) := by decide +kernel
theorem dX13_chargeIn_4 : decode cX13_chargeIn 4 = .ok (.getfield 16, 3) := by decide +kernel
theorem dX13_chargeIn_7 : decode cX13_chargeIn 7 = .ok (.iconst 3, 1) := by decide +kernel
theorem dX13_chargeIn_8 : decode cX13_chargeIn 8 = .ok (.iaload, 1) := by decide +kernel
theorem dX13_chargeIn_9 : decode cX13_chargeIn 9 = .ok (.if_icmp .ge 20, 3) := by decide +kernel
theorem dX13_chargeIn_12 : decode cX13_chargeIn 12 = .ok (.aload_n 0, 1) := by decide +kernel
theorem dX13_chargeIn_13 : decode cX13_chargeIn 13 = .ok (.iload_n 2, 1) := by decide +kernel
theorem dX13_chargeIn_14 : decode cX13_chargeIn 14 = .ok (.invokevirtual 73, 3) := by decide +kernel
theorem dX13_chargeIn_17 : decode cX13_chargeIn 17 = .ok (.iload_n 1, 1) := by decide +kernel
theorem dX13_chargeIn_18 : decode cX13_chargeIn 18 = .ok (.if_icmp .ne 5, 3) := by decide +kernel
theorem dX13_chargeIn_21 : decode cX13_chargeIn 21 = .ok (.iload_n 2, 1) := by decide +kernel
theorem dX13_chargeIn_22 : decode cX13_chargeIn 22 = .ok (.ireturn, 1) := by decide +kernel
theorem dX13_chargeIn_23 : decode cX13_chargeIn 23 = .ok (.iinc 2 1, 3) := by decide +kernel
theorem dX13_chargeIn_26 : decode cX13_chargeIn 26 = .ok (.goto (-24), 3) := by decide +kernel
theorem dX13_chargeIn_29 : decode cX13_chargeIn 29 = .ok (.iconst (-1), 1) := by decide +kernel
theorem dX13_chargeIn_30 : decode cX13_chargeIn 30 = .ok (.ireturn, 1) := by decide +kernel
theorem dX13_hardens_0 : decode cX13_hardens 0 = .ok (.iload_n 1, 1) := by decide +kernel
theorem dX13_hardens_1 : decode cX13_hardens 1 = .ok (.iload_n 2, 1) := by decide +kernel
theorem dX13_hardens_2 : decode cX13_hardens 2 = .ok (.invokestatic 77, 3) := by decide +kernel
theorem dX13_hardens_5 : decode cX13_hardens 5 = .ok (.ifCond .eq 13, 3) := by decide +kernel
theorem dX13_hardens_8 : decode cX13_hardens 8 = .ok (.iload_n 3, 1) := by decide +kernel
theorem dX13_hardens_9 : decode cX13_hardens 9 = .ok (.iconst 1, 1) := by decide +kernel
theorem dX13_hardens_10 : decode cX13_hardens 10 = .ok (.bipush 9, 2) := by decide +kernel
theorem dX13_hardens_12 : decode cX13_hardens 12 = .ok (.invokestatic 69, 3) := by decide +kernel
theorem dX13_hardens_15 : decode cX13_hardens 15 = .ok (.ifCond .ne 9, 3) := by decide +kernel
theorem dX13_hardens_18 : decode cX13_hardens 18 = .ok (.aload_n 0, 1) := by decide +kernel
theorem dX13_hardens_19 : decode cX13_hardens 19 = .ok (.iconst 1, 1) := by decide +kernel
theorem dX13_hardens_20 : decode cX13_hardens 20 = .ok (.invokevirtual 81, 3) := by decide +kernel
theorem dX13_hardens_23 : decode cX13_hardens 23 = .ok (.ireturn, 1) := by decide +kernel
theorem dX13_hardens_24 : decode cX13_hardens 24 = .ok (.aload_n 0, 1) := by decide +kernel
theorem dX13_hardens_25 : decode cX13_hardens 25 = .ok (.iload_n 1, 1) := by decide +kernel
theorem dX13_hardens_26 : decode cX13_hardens 26 = .ok (.iload_n 2, 1) := by decide +kernel
theorem dX13_hardens_27 : decode cX13_hardens 27 = .ok (.invokestatic 84, 3) := by decide +kernel
theorem dX13_hardens_30 : decode cX13_hardens 30 = .ok (.invokevirtual 88, 3) := by decide +kernel
theorem dX13_hardens_33 : decode cX13_hardens 33 = .ok (.istore 4, 2) := by decide +kernel
theorem dX13_hardens_35 : decode cX13_hardens 35 = .ok (.iload 4, 2) := by decide +kernel
theorem dX13_hardens_37 : decode cX13_hardens 37 = .ok (.ifCond .ne 9, 3) := by decide +kernel
theorem dX13_hardens_40 : decode cX13_hardens 40 = .ok (.aload_n 0, 1) := by decide +kernel
theorem dX13_hardens_41 : decode cX13_hardens 41 = .ok (.iconst 2, 1) := by decide +kernel
theorem dX13_hardens_42 : decode cX13_hardens 42 = .ok (.invokevirtual 81, 3) := by decide +kernel
theorem dX13_hardens_45 : decode cX13_hardens 45 = .ok (.ireturn, 1) := by decide +kernel
theorem dX13_hardens_46 : decode cX13_hardens 46 = .ok (.aload_n 0, 1) := by decide +kernel
theorem dX13_hardens_47 : decode cX13_hardens 47 = .ok (.getfield 16, 3) := by decide +kernel
theorem dX13_hardens_50 : decode cX13_hardens 50 = .ok (.iconst 4, 1) := by decide +kernel
theorem dX13_hardens_51 : decode cX13_hardens 51 = .ok (.iload_n 1, 1) := by decide +kernel
theorem dX13_hardens_52 : decode cX13_hardens 52 = .ok (.iload_n 2, 1) := by decide +kernel
theorem dX13_hardens_53 : decode cX13_hardens 53 = .ok (.invokestatic 84, 3) := by decide +kernel
theorem dX13_hardens_56 : decode cX13_hardens 56 = .ok (.iadd, 1) := by decide +kernel
theorem dX13_hardens_57 : decode cX13_hardens 57 = .ok (.iload_n 3, 1) := by decide +kernel
theorem dX13_hardens_58 : decode cX13_hardens 58 = .ok (.iastore, 1) := by decide +kernel
theorem dX13_hardens_59 : decode cX13_hardens 59 = .ok (.iload 4, 2) := by decide +kernel
theorem dX13_hardens_61 : decode cX13_hardens 61 = .ok (.ireturn, 1) := by decide +kernel
theorem dX13_setHardness_0 : decode cX13_setHardness 0 = .ok (.aload_n 0, 1) := by decide +kernel
theorem dX13_setHardness_1 : decode cX13_setHardness 1 = .ok (.invokevirtual 91, 3) := by decide +kernel
theorem dX13_setHardness_4 : decode cX13_setHardness 4 = .ok (.aload_n 0, 1) := by decide +kernel
theorem dX13_setHardness_5 : decode cX13_setHardness 5 = .ok (.aload_n 0, 1) := by decide +kernel
theorem dX13_setHardness_6 : decode cX13_setHardness 6 = .ok (.iload_n 1, 1) := by decide +kernel
theorem dX13_setHardness_7 : decode cX13_setHardness 7 = .ok (.iload_n 2, 1) := by decide +kernel
theorem dX13_setHardness_8 : decode cX13_setHardness 8 = .ok (.iload_n 3, 1) := by decide +kernel
theorem dX13_setHardness_9 : decode cX13_setHardness 9 = .ok (.invokevirtual 94, 3) := by decide +kernel
theorem dX13_setHardness_12 : decode cX13_setHardness 12 = .ok (.invokevirtual 98, 3) := by decide +kernel
theorem dX13_setHardness_15 : decode cX13_setHardness 15 = .ok (.ireturn, 1) := by decide +kernel
theorem dX13_canReach_0 : decode cX13_canReach 0 = .ok (.iload_n 1, 1) := by decide +kernel
theorem dX13_canReach_1 : decode cX13_canReach 1 = .ok (.bipush 6, 2) := by decide +kernel
theorem dX13_canReach_3 : decode cX13_canReach 3 = .ok (.irem, 1) := by decide +kernel
theorem dX13_canReach_4 : decode cX13_canReach 4 = .ok (.ifCond .ne 5, 3) := by decide +kernel
theorem dX13_canReach_7 : decode cX13_canReach 7 = .ok (.iconst 1, 1) := by decide +kernel
theorem dX13_canReach_8 : decode cX13_canReach 8 = .ok (.ireturn, 1) := by decide +kernel
theorem dX13_canReach_9 : decode cX13_canReach 9 = .ok (.iconst 0, 1) := by decide +kernel
theorem dX13_canReach_10 : decode cX13_canReach 10 = .ok (.istore_n 2, 1) := by decide +kernel
theorem dX13_canReach_11 : decode cX13_canReach 11 = .ok (.iload_n 2, 1) := by decide +kernel
theorem dX13_canReach_12 : decode cX13_canReach 12 = .ok (.iconst 4, 1) := by decide +kernel
theorem dX13_canReach_13 : decode cX13_canReach 13 = .ok (.if_icmp .ge 31, 3) := by decide +kernel
theorem dX13_canReach_16 : decode cX13_canReach 16 = .ok (.iload_n 1, 1) := by decide +kernel
theorem dX13_canReach_17 : decode cX13_canReach 17 = .ok (.iload_n 2, 1) := by decide +kernel
theorem dX13_canReach_18 : decode cX13_canReach 18 = .ok (.invokestatic 101, 3) := by decide +kernel
theorem dX13_canReach_21 : decode cX13_canReach 21 = .ok (.ifCond .lt 17, 3) := by decide +kernel
theorem dX13_canReach_24 : decode cX13_canReach 24 = .ok (.aload_n 0, 1) := by decide +kernel
theorem dX13_canReach_25 : decode cX13_canReach 25 = .ok (.iload_n 1, 1) := by decide +kernel
theorem dX13_canReach_26 : decode cX13_canReach 26 = .ok (.iload_n 2, 1) := by decide +kernel
theorem dX13_canReach_27 : decode cX13_canReach 27 = .ok (.invokestatic 101, 3) := by decide +kernel
theorem dX13_canReach_30 : decode cX13_canReach 30 = .ok (.invokevirtual 88, 3) := by decide +kernel
theorem dX13_canReach_33 : decode cX13_canReach 33 = .ok (.ifCond .ne 5, 3) := by decide +kernel
theorem dX13_canReach_36 : decode cX13_canReach 36 = .ok (.iconst 1, 1) := by decide +kernel
theorem dX13_canReach_37 : decode cX13_canReach 37 = .ok (.ireturn, 1) := by decide +kernel
theorem dX13_canReach_38 : decode cX13_canReach 38 = .ok (.iinc 2 1, 3) := by decide +kernel
theorem dX13_canReach_41 : decode cX13_canReach 41 = .ok (.goto (-30), 3) := by decide +kernel
theorem dX13_canReach_44 : decode cX13_canReach 44 = .ok (.iconst 0, 1) := by decide +kernel
theorem dX13_canReach_45 : decode cX13_canReach 45 = .ok (.ireturn, 1) := by decide +kernel
theorem dX13_digs_0 : decode cX13_digs 0 = .ok (.iload_n 1, 1) := by decide +kernel
theorem dX13_digs_1 : decode cX13_digs 1 = .ok (.iload_n 2, 1) := by decide +kernel
theorem dX13_digs_2 : decode cX13_digs 2 = .ok (.invokestatic 77, 3) := by decide +kernel
theorem dX13_digs_5 : decode cX13_digs 5 = .ok (.ifCond .ne 9, 3) := by decide +kernel
theorem dX13_digs_8 : decode cX13_digs 8 = .ok (.aload_n 0, 1) := by decide +kernel
theorem dX13_digs_9 : decode cX13_digs 9 = .ok (.iconst 1, 1) := by decide +kernel
theorem dX13_digs_10 : decode cX13_digs 10 = .ok (.invokevirtual 81, 3) := by decide +kernel
theorem dX13_digs_13 : decode cX13_digs 13 = .ok (.ireturn, 1) := by decide +kernel
theorem dX13_digs_14 : decode cX13_digs 14 = .ok (.iload_n 1, 1) := by decide +kernel
theorem dX13_digs_15 : decode cX13_digs 15 = .ok (.iload_n 2, 1) := by decide +kernel
theorem dX13_digs_16 : decode cX13_digs 16 = .ok (.invokestatic 84, 3) := by decide +kernel
theorem dX13_digs_19 : decode cX13_digs 19 = .ok (.istore_n 3, 1) := by decide +kernel
theorem dX13_digs_20 : decode cX13_digs 20 = .ok (.aload_n 0, 1) := by decide +kernel
theorem dX13_digs_21 : decode cX13_digs 21 = .ok (.iload_n 3, 1) := by decide +kernel
theorem dX13_digs_22 : decode cX13_digs 22 = .ok (.invokevirtual 88, 3) := by decide +kernel
theorem dX13_digs_25 : decode cX13_digs 25 = .ok (.istore 4, 2) := by decide +kernel
theorem dX13_digs_27 : decode cX13_digs 27 = .ok (.iload 4, 2) := by decide +kernel
theorem dX13_digs_29 : decode cX13_digs 29 = .ok (.ifCond .eq 19, 3) := by decide +kernel
theorem dX13_digs_32 : decode cX13_digs 32 = .ok (.aload_n 0, 1) := by decide +kernel
theorem dX13_digs_33 : decode cX13_digs 33 = .ok (.iload_n 3, 1) := by decide +kernel
theorem dX13_digs_34 : decode cX13_digs 34 = .ok (.invokevirtual 104, 3) := by decide +kernel
theorem dX13_digs_37 : decode cX13_digs 37 = .ok (.ifCond .ge 11, 3) := by decide +kernel
theorem dX13_digs_40 : decode cX13_digs 40 = .ok (.aload_n 0, 1) := by decide +kernel
theorem dX13_digs_41 : decode cX13_digs 41 = .ok (.iload_n 3, 1) := by decide +kernel
theorem dX13_digs_42 : decode cX13_digs 42 = .ok (.invokevirtual 107, 3) := by decide +kernel
theorem dX13_digs_45 : decode cX13_digs 45 = .ok (.ifCond .ne 9, 3) := by decide +kernel
theorem dX13_digs_48 : decode cX13_digs 48 = .ok (.aload_n 0, 1) := by decide +kernel
theorem dX13_digs_49 : decode cX13_digs 49 = .ok (.iconst 2, 1) := by decide +kernel
theorem dX13_digs_50 : decode cX13_digs 50 = .ok (.invokevirtual 81, 3) := by decide +kernel
theorem dX13_digs_53 : decode cX13_digs 53 = .ok (.ireturn, 1) := by decide +kernel
theorem dX13_digs_54 : decode cX13_digs 54 = .ok (.aload_n 0, 1) := by decide +kernel
theorem dX13_digs_55 : decode cX13_digs 55 = .ok (.getfield 16, 3) := by decide +kernel
theorem dX13_digs_58 : decode cX13_digs 58 = .ok (.iconst 0, 1) := by decide +kernel
theorem dX13_digs_59 : decode cX13_digs 59 = .ok (.iaload, 1) := by decide +kernel
theorem dX13_digs_60 : decode cX13_digs 60 = .ok (.iload 4, 2) := by decide +kernel
theorem dX13_digs_62 : decode cX13_digs 62 = .ok (.if_icmp .ge 9, 3) := by decide +kernel
theorem dX13_digs_65 : decode cX13_digs 65 = .ok (.aload_n 0, 1) := by decide +kernel
theorem dX13_digs_66 : decode cX13_digs 66 = .ok (.iconst 3, 1) := by decide +kernel
theorem dX13_digs_67 : decode cX13_digs 67 = .ok (.invokevirtual 81, 3) := by decide +kernel
theorem dX13_digs_70 : decode cX13_digs 70 = .ok (.ireturn, 1) := by decide +kernel
theorem dX13_digs_71 : decode cX13_digs 71 = .ok (.aload_n 0, 1) := by decide +kernel
theorem dX13_digs_72 : decode cX13_digs 72 = .ok (.getfield 16, 3) := by decide +kernel
theorem dX13_digs_75 : decode cX13_digs 75 = .ok (.iconst 0, 1) := by decide +kernel
theorem dX13_digs_76 : decode cX13_digs 76 = .ok (.dup2, 1) := by decide +kernel
theorem dX13_digs_77 : decode cX13_digs 77 = .ok (.iaload, 1) := by decide +kernel
theorem dX13_digs_78 : decode cX13_digs 78 = .ok (.iload 4, 2) := by decide +kernel
theorem dX13_digs_80 : decode cX13_digs 80 = .ok (.isub, 1) := by decide +kernel
theorem dX13_digs_81 : decode cX13_digs 81 = .ok (.iastore, 1) := by decide +kernel
theorem dX13_digs_82 : decode cX13_digs 82 = .ok (.aload_n 0, 1) := by decide +kernel
theorem dX13_digs_83 : decode cX13_digs 83 = .ok (.getfield 16, 3) := by decide +kernel
theorem dX13_digs_86 : decode cX13_digs 86 = .ok (.iconst 1, 1) := by decide +kernel
theorem dX13_digs_87 : decode cX13_digs 87 = .ok (.dup2, 1) := by decide +kernel
theorem dX13_digs_88 : decode cX13_digs 88 = .ok (.iaload, 1) := by decide +kernel
theorem dX13_digs_89 : decode cX13_digs 89 = .ok (.iload 4, 2) := by decide +kernel
theorem dX13_digs_91 : decode cX13_digs 91 = .ok (.iadd, 1) := by decide +kernel
theorem dX13_digs_92 : decode cX13_digs 92 = .ok (.iastore, 1) := by decide +kernel
theorem dX13_digs_93 : decode cX13_digs 93 = .ok (.aload_n 0, 1) := by decide +kernel
theorem dX13_digs_94 : decode cX13_digs 94 = .ok (.getfield 16, 3) := by decide +kernel
theorem dX13_digs_97 : decode cX13_digs 97 = .ok (.iconst 4, 1) := by decide +kernel
theorem dX13_digs_98 : decode cX13_digs 98 = .ok (.iload_n 3, 1) := by decide +kernel
theorem dX13_digs_99 : decode cX13_digs 99 = .ok (.iadd, 1) := by decide +kernel
theorem dX13_digs_100 : decode cX13_digs 100 = .ok (.iconst 0, 1) := by decide +kernel
theorem dX13_digs_101 : decode cX13_digs 101 = .ok (.iastore, 1) := by decide +kernel
theorem dX13_digs_102 : decode cX13_digs 102 = .ok (.aload_n 0, 1) := by decide +kernel
theorem dX13_digs_103 : decode cX13_digs 103 = .ok (.getfield 16, 3) := by decide +kernel
theorem dX13_digs_106 : decode cX13_digs 106 = .ok (.iconst 0, 1) := by decide +kernel
theorem dX13_digs_107 : decode cX13_digs 107 = .ok (.iaload, 1) := by decide +kernel
theorem dX13_digs_108 : decode cX13_digs 108 = .ok (.ireturn, 1) := by decide +kernel
theorem dX13_dig_0 : decode cX13_dig 0 = .ok (.aload_n 0, 1) := by decide +kernel
theorem dX13_dig_1 : decode cX13_dig 1 = .ok (.invokevirtual 91, 3) := by decide +kernel
theorem dX13_dig_4 : decode cX13_dig 4 = .ok (.aload_n 0, 1) := by decide +kernel
theorem dX13_dig_5 : decode cX13_dig 5 = .ok (.aload_n 0, 1) := by decide +kernel
theorem dX13_dig_6 : decode cX13_dig 6 = .ok (.iload_n 1, 1) := by decide +kernel
theorem dX13_dig_7 : decode cX13_dig 7 = .ok (.iload_n 2, 1) := by decide +kernel
theorem dX13_dig_8 : decode cX13_dig 8 = .ok (.invokevirtual 111, 3) := by decide +kernel
theorem dX13_dig_11 : decode cX13_dig 11 = .ok (.invokevirtual 98, 3) := by decide +kernel
theorem dX13_dig_14 : decode cX13_dig 14 = .ok (.i2l, 1) := by decide +kernel
theorem dX13_dig_15 : decode cX13_dig 15 = .ok (.lreturn, 1) := by decide +kernel
theorem dX13_hardnessOf_0 : decode cX13_hardnessOf 0 = .ok (.aload_n 0, 1) := by decide +kernel
theorem dX13_hardnessOf_1 : decode cX13_hardnessOf 1 = .ok (.iload_n 1, 1) := by decide +kernel
theorem dX13_hardnessOf_2 : decode cX13_hardnessOf 2 = .ok (.iload_n 2, 1) := by decide +kernel
theorem dX13_hardnessOf_3 : decode cX13_hardnessOf 3 = .ok (.invokestatic 77, 3) := by decide +kernel
theorem dX13_hardnessOf_6 : decode cX13_hardnessOf 6 = .ok (.ifCond .ne 7, 3) := by decide +kernel
theorem dX13_hardnessOf_9 : decode cX13_hardnessOf 9 = .ok (.iconst 1, 1) := by decide +kernel
theorem dX13_hardnessOf_10 : decode cX13_hardnessOf 10 = .ok (.goto 20, 3) := by decide +kernel
theorem dX13_hardnessOf_13 : decode cX13_hardnessOf 13 = .ok (.aload_n 0, 1) := by decide +kernel
theorem dX13_hardnessOf_14 : decode cX13_hardnessOf 14 = .ok (.iload_n 1, 1) := by decide +kernel
theorem dX13_hardnessOf_15 : decode cX13_hardnessOf 15 = .ok (.iload_n 2, 1) := by decide +kernel
theorem dX13_hardnessOf_16 : decode cX13_hardnessOf 16 = .ok (.invokestatic 84, 3) := by decide +kernel
theorem dX13_hardnessOf_19 : decode cX13_hardnessOf 19 = .ok (.invokevirtual 88, 3) := by decide +kernel
theorem dX13_hardnessOf_22 : decode cX13_hardnessOf 22 = .ok (.ifCond .ne 7, 3) := by decide +kernel
theorem dX13_hardnessOf_25 : decode cX13_hardnessOf 25 = .ok (.iconst 2, 1) := by decide +kernel
theorem dX13_hardnessOf_26 : decode cX13_hardnessOf 26 = .ok (.goto 4, 3) := by decide +kernel
theorem dX13_hardnessOf_29 : decode cX13_hardnessOf 29 = .ok (.iconst 0, 1) := by decide +kernel
theorem dX13_hardnessOf_30 : decode cX13_hardnessOf 30 = .ok (.putfield 59, 3) := by decide +kernel
theorem dX13_hardnessOf_33 : decode cX13_hardnessOf 33 = .ok (.aload_n 0, 1) := by decide +kernel
theorem dX13_hardnessOf_34 : decode cX13_hardnessOf 34 = .ok (.getfield 59, 3) := by decide +kernel
theorem dX13_hardnessOf_37 : decode cX13_hardnessOf 37 = .ok (.ifCond .ne 15, 3) := by decide +kernel
theorem dX13_hardnessOf_40 : decode cX13_hardnessOf 40 = .ok (.aload_n 0, 1) := by decide +kernel
theorem dX13_hardnessOf_41 : decode cX13_hardnessOf 41 = .ok (.iload_n 1, 1) := by decide +kernel
theorem dX13_hardnessOf_42 : decode cX13_hardnessOf 42 = .ok (.iload_n 2, 1) := by decide +kernel
theorem dX13_hardnessOf_43 : decode cX13_hardnessOf 43 = .ok (.invokestatic 84, 3) := by decide +kernel
theorem dX13_hardnessOf_46 : decode cX13_hardnessOf 46 = .ok (.invokevirtual 88, 3) := by decide +kernel
theorem dX13_hardnessOf_49 : decode cX13_hardnessOf 49 = .ok (.goto 4, 3) := by decide +kernel
theorem dX13_hardnessOf_52 : decode cX13_hardnessOf 52 = .ok (.iconst 0, 1) := by decide +kernel
theorem dX13_hardnessOf_53 : decode cX13_hardnessOf 53 = .ok (.ireturn, 1) := by decide +kernel
theorem dX13_isOpen_0 : decode cX13_isOpen 0 = .ok (.aload_n 0, 1) := by decide +kernel
theorem dX13_isOpen_1 : decode cX13_isOpen 1 = .ok (.iload_n 1, 1) := by decide +kernel
theorem dX13_isOpen_2 : decode cX13_isOpen 2 = .ok (.iload_n 2, 1) := by decide +kernel
theorem dX13_isOpen_3 : decode cX13_isOpen 3 = .ok (.invokestatic 77, 3) := by decide +kernel
theorem dX13_isOpen_6 : decode cX13_isOpen 6 = .ok (.ifCond .eq 7, 3) := by decide +kernel
theorem dX13_isOpen_9 : decode cX13_isOpen 9 = .ok (.iconst 0, 1) := by decide +kernel
theorem dX13_isOpen_10 : decode cX13_isOpen 10 = .ok (.goto 4, 3) := by decide +kernel
theorem dX13_isOpen_13 : decode cX13_isOpen 13 = .ok (.iconst 1, 1) := by decide +kernel
theorem dX13_isOpen_14 : decode cX13_isOpen 14 = .ok (.putfield 59, 3) := by decide +kernel
theorem dX13_isOpen_17 : decode cX13_isOpen 17 = .ok (.aload_n 0, 1) := by decide +kernel
theorem dX13_isOpen_18 : decode cX13_isOpen 18 = .ok (.getfield 59, 3) := by decide +kernel
theorem dX13_isOpen_21 : decode cX13_isOpen 21 = .ok (.ifCond .ne 19, 3) := by decide +kernel
theorem dX13_isOpen_24 : decode cX13_isOpen 24 = .ok (.aload_n 0, 1) := by decide +kernel
theorem dX13_isOpen_25 : decode cX13_isOpen 25 = .ok (.iload_n 1, 1) := by decide +kernel
theorem dX13_isOpen_26 : decode cX13_isOpen 26 = .ok (.iload_n 2, 1) := by decide +kernel
theorem dX13_isOpen_27 : decode cX13_isOpen 27 = .ok (.invokestatic 84, 3) := by decide +kernel
theorem dX13_isOpen_30 : decode cX13_isOpen 30 = .ok (.invokevirtual 88, 3) := by decide +kernel
theorem dX13_isOpen_33 : decode cX13_isOpen 33 = .ok (.ifCond .ne 7, 3) := by decide +kernel
theorem dX13_isOpen_36 : decode cX13_isOpen 36 = .ok (.iconst 1, 1) := by decide +kernel
theorem dX13_isOpen_37 : decode cX13_isOpen 37 = .ok (.goto 4, 3) := by decide +kernel
theorem dX13_isOpen_40 : decode cX13_isOpen 40 = .ok (.iconst 0, 1) := by decide +kernel
theorem dX13_isOpen_41 : decode cX13_isOpen 41 = .ok (.ireturn, 1) := by decide +kernel
theorem dX13_opened_0 : decode cX13_opened 0 = .ok (.iconst 0, 1) := by decide +kernel
theorem dX13_opened_1 : decode cX13_opened 1 = .ok (.istore_n 1, 1) := by decide +kernel
theorem dX13_opened_2 : decode cX13_opened 2 = .ok (.iconst 0, 1) := by decide +kernel
theorem dX13_opened_3 : decode cX13_opened 3 = .ok (.istore_n 2, 1) := by decide +kernel
theorem dX13_opened_4 : decode cX13_opened 4 = .ok (.iload_n 2, 1) := by decide +kernel
theorem dX13_opened_5 : decode cX13_opened 5 = .ok (.bipush 36, 2) := by decide +kernel
theorem dX13_opened_7 : decode cX13_opened 7 = .ok (.if_icmp .ge 25, 3) := by decide +kernel
theorem dX13_opened_10 : decode cX13_opened 10 = .ok (.iload_n 1, 1) := by decide +kernel
theorem dX13_opened_11 : decode cX13_opened 11 = .ok (.aload_n 0, 1) := by decide +kernel
theorem dX13_opened_12 : decode cX13_opened 12 = .ok (.iload_n 2, 1) := by decide +kernel
theorem dX13_opened_13 : decode cX13_opened 13 = .ok (.invokevirtual 88, 3) := by decide +kernel
theorem dX13_opened_16 : decode cX13_opened 16 = .ok (.ifCond .ne 7, 3) := by decide +kernel
theorem dX13_opened_19 : decode cX13_opened 19 = .ok (.iconst 1, 1) := by decide +kernel
theorem dX13_opened_20 : decode cX13_opened 20 = .ok (.goto 4, 3) := by decide +kernel
theorem dX13_opened_23 : decode cX13_opened 23 = .ok (.iconst 0, 1) := by decide +kernel
theorem dX13_opened_24 : decode cX13_opened 24 = .ok (.iadd, 1) := by decide +kernel
theorem dX13_opened_25 : decode cX13_opened 25 = .ok (.istore_n 1, 1) := by decide +kernel
theorem dX13_opened_26 : decode cX13_opened 26 = .ok (.iinc 2 1, 3) := by decide +kernel
theorem dX13_opened_29 : decode cX13_opened 29 = .ok (.goto (-25), 3) := by decide +kernel
theorem dX13_opened_32 : decode cX13_opened 32 = .ok (.iload_n 1, 1) := by decide +kernel
theorem dX13_opened_33 : decode cX13_opened 33 = .ok (.ireturn, 1) := by decide +kernel
theorem dX13_openCount_0 : decode cX13_openCount 0 = .ok (.aload_n 0, 1) := by decide +kernel
theorem dX13_openCount_1 : decode cX13_openCount 1 = .ok (.iconst 0, 1) := by decide +kernel
theorem dX13_openCount_2 : decode cX13_openCount 2 = .ok (.putfield 59, 3) := by decide +kernel
theorem dX13_openCount_5 : decode cX13_openCount 5 = .ok (.aload_n 0, 1) := by decide +kernel
theorem dX13_openCount_6 : decode cX13_openCount 6 = .ok (.invokevirtual 114, 3) := by decide +kernel
theorem dX13_openCount_9 : decode cX13_openCount 9 = .ok (.ireturn, 1) := by decide +kernel
theorem dX13_vein_0 : decode cX13_vein 0 = .ok (.iconst 0, 1) := by decide +kernel
theorem dX13_vein_1 : decode cX13_vein 1 = .ok (.istore_n 2, 1) := by decide +kernel
theorem dX13_vein_2 : decode cX13_vein 2 = .ok (.iload_n 2, 1) := by decide +kernel
theorem dX13_vein_3 : decode cX13_vein 3 = .ok (.bipush 36, 2) := by decide +kernel
theorem dX13_vein_5 : decode cX13_vein 5 = .ok (.if_icmp .ge 25, 3) := by decide +kernel
theorem dX13_vein_8 : decode cX13_vein 8 = .ok (.aload_n 0, 1) := by decide +kernel
theorem dX13_vein_9 : decode cX13_vein 9 = .ok (.getfield 29, 3) := by decide +kernel
theorem dX13_vein_12 : decode cX13_vein 12 = .ok (.iload_n 2, 1) := by decide +kernel
theorem dX13_vein_13 : decode cX13_vein 13 = .ok (.iload_n 2, 1) := by decide +kernel
theorem dX13_vein_14 : decode cX13_vein 14 = .ok (.iload_n 1, 1) := by decide +kernel
theorem dX13_vein_15 : decode cX13_vein 15 = .ok (.if_icmp .ne 7, 3) := by decide +kernel
theorem dX13_vein_18 : decode cX13_vein 18 = .ok (.iconst 1, 1) := by decide +kernel
theorem dX13_vein_19 : decode cX13_vein 19 = .ok (.goto 4, 3) := by decide +kernel
theorem dX13_vein_22 : decode cX13_vein 22 = .ok (.iconst 0, 1) := by decide +kernel
theorem dX13_vein_23 : decode cX13_vein 23 = .ok (.iastore, 1) := by decide +kernel
theorem dX13_vein_24 : decode cX13_vein 24 = .ok (.iinc 2 1, 3) := by decide +kernel
theorem dX13_vein_27 : decode cX13_vein 27 = .ok (.goto (-25), 3) := by decide +kernel
theorem dX13_vein_30 : decode cX13_vein 30 = .ok (.iconst 1, 1) := by decide +kernel
theorem dX13_vein_31 : decode cX13_vein 31 = .ok (.istore_n 2, 1) := by decide +kernel
theorem dX13_vein_32 : decode cX13_vein 32 = .ok (.iconst 0, 1) := by decide +kernel
theorem dX13_vein_33 : decode cX13_vein 33 = .ok (.istore_n 3, 1) := by decide +kernel
theorem dX13_vein_34 : decode cX13_vein 34 = .ok (.iload_n 2, 1) := by decide +kernel
theorem dX13_vein_35 : decode cX13_vein 35 = .ok (.iload_n 3, 1) := by decide +kernel
theorem dX13_vein_36 : decode cX13_vein 36 = .ok (.if_icmp .le 101, 3) := by decide +kernel
theorem dX13_vein_39 : decode cX13_vein 39 = .ok (.iload_n 2, 1) := by decide +kernel
theorem dX13_vein_40 : decode cX13_vein 40 = .ok (.istore_n 3, 1) := by decide +kernel
theorem dX13_vein_41 : decode cX13_vein 41 = .ok (.iconst 0, 1) := by decide +kernel
theorem dX13_vein_42 : decode cX13_vein 42 = .ok (.istore 4, 2) := by decide +kernel
theorem dX13_vein_44 : decode cX13_vein 44 = .ok (.iload 4, 2) := by decide +kernel
theorem dX13_vein_46 : decode cX13_vein 46 = .ok (.bipush 36, 2) := by decide +kernel
theorem dX13_vein_48 : decode cX13_vein 48 = .ok (.if_icmp .ge 86, 3) := by decide +kernel
theorem dX13_vein_51 : decode cX13_vein 51 = .ok (.iconst 0, 1) := by decide +kernel
theorem dX13_vein_52 : decode cX13_vein 52 = .ok (.istore 5, 2) := by decide +kernel
theorem dX13_vein_54 : decode cX13_vein 54 = .ok (.iload 5, 2) := by decide +kernel
theorem dX13_vein_56 : decode cX13_vein 56 = .ok (.iconst 4, 1) := by decide +kernel
theorem dX13_vein_57 : decode cX13_vein 57 = .ok (.if_icmp .ge 71, 3) := by decide +kernel
theorem dX13_vein_60 : decode cX13_vein 60 = .ok (.aload_n 0, 1) := by decide +kernel
theorem dX13_vein_61 : decode cX13_vein 61 = .ok (.getfield 29, 3) := by decide +kernel
theorem dX13_vein_64 : decode cX13_vein 64 = .ok (.iload 4, 2) := by decide +kernel
theorem dX13_vein_66 : decode cX13_vein 66 = .ok (.iaload, 1) := by decide +kernel
theorem dX13_vein_67 : decode cX13_vein 67 = .ok (.ifCond .ne 61, 3) := by decide +kernel
theorem dX13_vein_70 : decode cX13_vein 70 = .ok (.aload_n 0, 1) := by decide +kernel
theorem dX13_vein_71 : decode cX13_vein 71 = .ok (.iload 4, 2) := by decide +kernel
theorem dX13_vein_73 : decode cX13_vein 73 = .ok (.invokevirtual 88, 3) := by decide +kernel
theorem dX13_vein_76 : decode cX13_vein 76 = .ok (.aload_n 0, 1) := by decide +kernel
theorem dX13_vein_77 : decode cX13_vein 77 = .ok (.iload_n 1, 1) := by decide +kernel
theorem dX13_vein_78 : decode cX13_vein 78 = .ok (.invokevirtual 88, 3) := by decide +kernel
theorem dX13_vein_81 : decode cX13_vein 81 = .ok (.if_icmp .ne 47, 3) := by decide +kernel
theorem dX13_vein_84 : decode cX13_vein 84 = .ok (.iload 4, 2) := by decide +kernel
theorem dX13_vein_86 : decode cX13_vein 86 = .ok (.iload 5, 2) := by decide +kernel
theorem dX13_vein_88 : decode cX13_vein 88 = .ok (.invokestatic 101, 3) := by decide +kernel
theorem dX13_vein_91 : decode cX13_vein 91 = .ok (.istore 6, 2) := by decide +kernel
theorem dX13_vein_93 : decode cX13_vein 93 = .ok (.iload 6, 2) := by decide +kernel
theorem dX13_vein_95 : decode cX13_vein 95 = .ok (.ifCond .lt 27, 3) := by decide +kernel
theorem dX13_vein_98 : decode cX13_vein 98 = .ok (.aload_n 0, 1) := by decide +kernel
theorem dX13_vein_99 : decode cX13_vein 99 = .ok (.getfield 29, 3) := by decide +kernel
theorem dX13_vein_102 : decode cX13_vein 102 = .ok (.iload 6, 2) := by decide +kernel
theorem dX13_vein_104 : decode cX13_vein 104 = .ok (.iaload, 1) := by decide +kernel
theorem dX13_vein_105 : decode cX13_vein 105 = .ok (.ifCond .ne 6, 3) := by decide +kernel
theorem dX13_vein_108 : decode cX13_vein 108 = .ok (.goto 14, 3) := by decide +kernel
theorem dX13_vein_111 : decode cX13_vein 111 = .ok (.aload_n 0, 1) := by decide +kernel
theorem dX13_vein_112 : decode cX13_vein 112 = .ok (.getfield 29, 3) := by decide +kernel
theorem dX13_vein_115 : decode cX13_vein 115 = .ok (.iload 4, 2) := by decide +kernel
theorem dX13_vein_117 : decode cX13_vein 117 = .ok (.iconst 1, 1) := by decide +kernel
theorem dX13_vein_118 : decode cX13_vein 118 = .ok (.iastore, 1) := by decide +kernel
theorem dX13_vein_119 : decode cX13_vein 119 = .ok (.iinc 2 1, 3) := by decide +kernel
theorem dX13_vein_122 : decode cX13_vein 122 = .ok (.iinc 5 1, 3) := by decide +kernel
theorem dX13_vein_125 : decode cX13_vein 125 = .ok (.goto (-71), 3) := by decide +kernel
theorem dX13_vein_128 : decode cX13_vein 128 = .ok (.iinc 4 1, 3) := by decide +kernel
theorem dX13_vein_131 : decode cX13_vein 131 = .ok (.goto (-87), 3) := by decide +kernel
theorem dX13_vein_134 : decode cX13_vein 134 = .ok (.goto (-100), 3) := by decide +kernel
theorem dX13_vein_137 : decode cX13_vein 137 = .ok (.iload_n 2, 1) := by decide +kernel
theorem dX13_vein_138 : decode cX13_vein 138 = .ok (.ireturn, 1) := by decide +kernel
theorem dX13_veinCount_0 : decode cX13_veinCount 0 = .ok (.aload_n 0, 1) := by decide +kernel
theorem dX13_veinCount_1 : decode cX13_veinCount 1 = .ok (.iload_n 1, 1) := by decide +kernel
theorem dX13_veinCount_2 : decode cX13_veinCount 2 = .ok (.iconst 1, 1) := by decide +kernel
theorem dX13_veinCount_3 : decode cX13_veinCount 3 = .ok (.bipush 9, 2) := by decide +kernel
theorem dX13_veinCount_5 : decode cX13_veinCount 5 = .ok (.invokestatic 69, 3) := by decide +kernel
theorem dX13_veinCount_8 : decode cX13_veinCount 8 = .ok (.ifCond .eq 7, 3) := by decide +kernel
theorem dX13_veinCount_11 : decode cX13_veinCount 11 = .ok (.iconst 0, 1) := by decide +kernel
theorem dX13_veinCount_12 : decode cX13_veinCount 12 = .ok (.goto 4, 3) := by decide +kernel
theorem dX13_veinCount_15 : decode cX13_veinCount 15 = .ok (.iconst 1, 1) := by decide +kernel
theorem dX13_veinCount_16 : decode cX13_veinCount 16 = .ok (.putfield 59, 3) := by decide +kernel
theorem dX13_veinCount_19 : decode cX13_veinCount 19 = .ok (.aload_n 0, 1) := by decide +kernel
theorem dX13_veinCount_20 : decode cX13_veinCount 20 = .ok (.getfield 59, 3) := by decide +kernel
theorem dX13_veinCount_23 : decode cX13_veinCount 23 = .ok (.ifCond .eq 5, 3) := by decide +kernel
theorem dX13_veinCount_26 : decode cX13_veinCount 26 = .ok (.iconst 0, 1) := by decide +kernel
theorem dX13_veinCount_27 : decode cX13_veinCount 27 = .ok (.ireturn, 1) := by decide +kernel
theorem dX13_veinCount_28 : decode cX13_veinCount 28 = .ok (.iconst 0, 1) := by decide +kernel
theorem dX13_veinCount_29 : decode cX13_veinCount 29 = .ok (.istore_n 2, 1) := by decide +kernel
theorem dX13_veinCount_30 : decode cX13_veinCount 30 = .ok (.iconst 0, 1) := by decide +kernel
theorem dX13_veinCount_31 : decode cX13_veinCount 31 = .ok (.istore_n 3, 1) := by decide +kernel
theorem dX13_veinCount_32 : decode cX13_veinCount 32 = .ok (.iload_n 3, 1) := by decide +kernel
theorem dX13_veinCount_33 : decode cX13_veinCount 33 = .ok (.bipush 36, 2) := by decide +kernel
theorem dX13_veinCount_35 : decode cX13_veinCount 35 = .ok (.if_icmp .ge 61, 3) := by decide +kernel
theorem dX13_veinCount_38 : decode cX13_veinCount 38 = .ok (.aload_n 0, 1) := by decide +kernel
theorem dX13_veinCount_39 : decode cX13_veinCount 39 = .ok (.iload_n 3, 1) := by decide +kernel
theorem dX13_veinCount_40 : decode cX13_veinCount 40 = .ok (.invokevirtual 88, 3) := by decide +kernel
theorem dX13_veinCount_43 : decode cX13_veinCount 43 = .ok (.iload_n 1, 1) := by decide +kernel
theorem dX13_veinCount_44 : decode cX13_veinCount 44 = .ok (.if_icmp .eq 6, 3) := by decide +kernel
theorem dX13_veinCount_47 : decode cX13_veinCount 47 = .ok (.goto 43, 3) := by decide +kernel
theorem dX13_veinCount_50 : decode cX13_veinCount 50 = .ok (.aload_n 0, 1) := by decide +kernel
theorem dX13_veinCount_51 : decode cX13_veinCount 51 = .ok (.iload_n 3, 1) := by decide +kernel
theorem dX13_veinCount_52 : decode cX13_veinCount 52 = .ok (.invokevirtual 118, 3) := by decide +kernel
theorem dX13_veinCount_55 : decode cX13_veinCount 55 = .ok (.istore 4, 2) := by decide +kernel
theorem dX13_veinCount_57 : decode cX13_veinCount 57 = .ok (.iconst 0, 1) := by decide +kernel
theorem dX13_veinCount_58 : decode cX13_veinCount 58 = .ok (.istore 5, 2) := by decide +kernel
theorem dX13_veinCount_60 : decode cX13_veinCount 60 = .ok (.aload_n 0, 1) := by decide +kernel
theorem dX13_veinCount_61 : decode cX13_veinCount 61 = .ok (.getfield 29, 3) := by decide +kernel
theorem dX13_veinCount_64 : decode cX13_veinCount 64 = .ok (.iload 5, 2) := by decide +kernel
theorem dX13_veinCount_66 : decode cX13_veinCount 66 = .ok (.iaload, 1) := by decide +kernel
theorem dX13_veinCount_67 : decode cX13_veinCount 67 = .ok (.ifCond .ne 9, 3) := by decide +kernel
theorem dX13_veinCount_70 : decode cX13_veinCount 70 = .ok (.iinc 5 1, 3) := by decide +kernel
theorem dX13_veinCount_73 : decode cX13_veinCount 73 = .ok (.goto (-13), 3) := by decide +kernel
theorem dX13_veinCount_76 : decode cX13_veinCount 76 = .ok (.iload_n 2, 1) := by decide +kernel
theorem dX13_veinCount_77 : decode cX13_veinCount 77 = .ok (.iload 5, 2) := by decide +kernel
theorem dX13_veinCount_79 : decode cX13_veinCount 79 = .ok (.iload_n 3, 1) := by decide +kernel
theorem dX13_veinCount_80 : decode cX13_veinCount 80 = .ok (.if_icmp .ne 7, 3) := by decide +kernel
theorem dX13_veinCount_83 : decode cX13_veinCount 83 = .ok (.iconst 1, 1) := by decide +kernel
theorem dX13_veinCount_84 : decode cX13_veinCount 84 = .ok (.goto 4, 3) := by decide +kernel
theorem dX13_veinCount_87 : decode cX13_veinCount 87 = .ok (.iconst 0, 1) := by decide +kernel
theorem dX13_veinCount_88 : decode cX13_veinCount 88 = .ok (.iadd, 1) := by decide +kernel
theorem dX13_veinCount_89 : decode cX13_veinCount 89 = .ok (.istore_n 2, 1) := by decide +kernel
theorem dX13_veinCount_90 : decode cX13_veinCount 90 = .ok (.iinc 3 1, 3) := by decide +kernel
theorem dX13_veinCount_93 : decode cX13_veinCount 93 = .ok (.goto (-61), 3) := by decide +kernel
theorem dX13_veinCount_96 : decode cX13_veinCount 96 = .ok (.iload_n 2, 1) := by decide +kernel
theorem dX13_veinCount_97 : decode cX13_veinCount 97 = .ok (.ireturn, 1) := by decide +kernel
theorem dX13_veinSize_0 : decode cX13_veinSize 0 = .ok (.aload_n 0, 1) := by decide +kernel
theorem dX13_veinSize_1 : decode cX13_veinSize 1 = .ok (.iload_n 1, 1) := by decide +kernel
theorem dX13_veinSize_2 : decode cX13_veinSize 2 = .ok (.iload_n 2, 1) := by decide +kernel
theorem dX13_veinSize_3 : decode cX13_veinSize 3 = .ok (.invokestatic 77, 3) := by decide +kernel
theorem dX13_veinSize_6 : decode cX13_veinSize 6 = .ok (.ifCond .ne 7, 3) := by decide +kernel
theorem dX13_veinSize_9 : decode cX13_veinSize 9 = .ok (.iconst 1, 1) := by decide +kernel
theorem dX13_veinSize_10 : decode cX13_veinSize 10 = .ok (.goto 20, 3) := by decide +kernel
theorem dX13_veinSize_13 : decode cX13_veinSize 13 = .ok (.aload_n 0, 1) := by decide +kernel
theorem dX13_veinSize_14 : decode cX13_veinSize 14 = .ok (.iload_n 1, 1) := by decide +kernel
theorem dX13_veinSize_15 : decode cX13_veinSize 15 = .ok (.iload_n 2, 1) := by decide +kernel
theorem dX13_veinSize_16 : decode cX13_veinSize 16 = .ok (.invokestatic 84, 3) := by decide +kernel
theorem dX13_veinSize_19 : decode cX13_veinSize 19 = .ok (.invokevirtual 88, 3) := by decide +kernel
theorem dX13_veinSize_22 : decode cX13_veinSize 22 = .ok (.ifCond .ne 7, 3) := by decide +kernel
theorem dX13_veinSize_25 : decode cX13_veinSize 25 = .ok (.iconst 2, 1) := by decide +kernel
theorem dX13_veinSize_26 : decode cX13_veinSize 26 = .ok (.goto 4, 3) := by decide +kernel
theorem dX13_veinSize_29 : decode cX13_veinSize 29 = .ok (.iconst 0, 1) := by decide +kernel
theorem dX13_veinSize_30 : decode cX13_veinSize 30 = .ok (.putfield 59, 3) := by decide +kernel
theorem dX13_veinSize_33 : decode cX13_veinSize 33 = .ok (.aload_n 0, 1) := by decide +kernel
theorem dX13_veinSize_34 : decode cX13_veinSize 34 = .ok (.getfield 59, 3) := by decide +kernel
theorem dX13_veinSize_37 : decode cX13_veinSize 37 = .ok (.ifCond .ne 15, 3) := by decide +kernel
theorem dX13_veinSize_40 : decode cX13_veinSize 40 = .ok (.aload_n 0, 1) := by decide +kernel
theorem dX13_veinSize_41 : decode cX13_veinSize 41 = .ok (.iload_n 1, 1) := by decide +kernel
theorem dX13_veinSize_42 : decode cX13_veinSize 42 = .ok (.iload_n 2, 1) := by decide +kernel
theorem dX13_veinSize_43 : decode cX13_veinSize 43 = .ok (.invokestatic 84, 3) := by decide +kernel
theorem dX13_veinSize_46 : decode cX13_veinSize 46 = .ok (.invokevirtual 118, 3) := by decide +kernel
theorem dX13_veinSize_49 : decode cX13_veinSize 49 = .ok (.goto 4, 3) := by decide +kernel
theorem dX13_veinSize_52 : decode cX13_veinSize 52 = .ok (.iconst 0, 1) := by decide +kernel
theorem dX13_veinSize_53 : decode cX13_veinSize 53 = .ok (.ireturn, 1) := by decide +kernel
theorem dX13_charges_0 : decode cX13_charges 0 = .ok (.iload_n 1, 1) := by decide +kernel
theorem dX13_charges_1 : decode cX13_charges 1 = .ok (.iload_n 2, 1) := by decide +kernel
theorem dX13_charges_2 : decode cX13_charges 2 = .ok (.invokestatic 77, 3) := by decide +kernel
theorem dX13_charges_5 : decode cX13_charges 5 = .ok (.ifCond .eq 13, 3) := by decide +kernel
theorem dX13_charges_8 : decode cX13_charges 8 = .ok (.iload_n 3, 1) := by decide +kernel
theorem dX13_charges_9 : decode cX13_charges 9 = .ok (.iconst 1, 1) := by decide +kernel
theorem dX13_charges_10 : decode cX13_charges 10 = .ok (.bipush 9, 2) := by decide +kernel
theorem dX13_charges_12 : decode cX13_charges 12 = .ok (.invokestatic 69, 3) := by decide +kernel
theorem dX13_charges_15 : decode cX13_charges 15 = .ok (.ifCond .ne 9, 3) := by decide +kernel
theorem dX13_charges_18 : decode cX13_charges 18 = .ok (.aload_n 0, 1) := by decide +kernel
theorem dX13_charges_19 : decode cX13_charges 19 = .ok (.iconst 1, 1) := by decide +kernel
theorem dX13_charges_20 : decode cX13_charges 20 = .ok (.invokevirtual 81, 3) := by decide +kernel
theorem dX13_charges_23 : decode cX13_charges 23 = .ok (.ireturn, 1) := by decide +kernel
theorem dX13_charges_24 : decode cX13_charges 24 = .ok (.aload_n 0, 1) := by decide +kernel
theorem dX13_charges_25 : decode cX13_charges 25 = .ok (.getfield 16, 3) := by decide +kernel
theorem dX13_charges_28 : decode cX13_charges 28 = .ok (.iconst 3, 1) := by decide +kernel
theorem dX13_charges_29 : decode cX13_charges 29 = .ok (.iaload, 1) := by decide +kernel
theorem dX13_charges_30 : decode cX13_charges 30 = .ok (.istore 4, 2) := by decide +kernel
theorem dX13_charges_32 : decode cX13_charges 32 = .ok (.iload_n 1, 1) := by decide +kernel
theorem dX13_charges_33 : decode cX13_charges 33 = .ok (.iload_n 2, 1) := by decide +kernel
theorem dX13_charges_34 : decode cX13_charges 34 = .ok (.invokestatic 84, 3) := by decide +kernel
theorem dX13_charges_37 : decode cX13_charges 37 = .ok (.istore 5, 2) := by decide +kernel
theorem dX13_charges_39 : decode cX13_charges 39 = .ok (.iload 4, 2) := by decide +kernel
theorem dX13_charges_41 : decode cX13_charges 41 = .ok (.bipush 6, 2) := by decide +kernel
theorem dX13_charges_43 : decode cX13_charges 43 = .ok (.if_icmp .eq 21, 3) := by decide +kernel
theorem dX13_charges_46 : decode cX13_charges 46 = .ok (.aload_n 0, 1) := by decide +kernel
theorem dX13_charges_47 : decode cX13_charges 47 = .ok (.iload 5, 2) := by decide +kernel
theorem dX13_charges_49 : decode cX13_charges 49 = .ok (.invokevirtual 88, 3) := by decide +kernel
theorem dX13_charges_52 : decode cX13_charges 52 = .ok (.ifCond .eq 12, 3) := by decide +kernel
theorem dX13_charges_55 : decode cX13_charges 55 = .ok (.aload_n 0, 1) := by decide +kernel
theorem dX13_charges_56 : decode cX13_charges 56 = .ok (.iload 5, 2) := by decide +kernel
theorem dX13_charges_58 : decode cX13_charges 58 = .ok (.invokevirtual 104, 3) := by decide +kernel
theorem dX13_charges_61 : decode cX13_charges 61 = .ok (.ifCond .lt 9, 3) := by decide +kernel
theorem dX13_charges_64 : decode cX13_charges 64 = .ok (.aload_n 0, 1) := by decide +kernel
theorem dX13_charges_65 : decode cX13_charges 65 = .ok (.iconst 2, 1) := by decide +kernel
theorem dX13_charges_66 : decode cX13_charges 66 = .ok (.invokevirtual 81, 3) := by decide +kernel
theorem dX13_charges_69 : decode cX13_charges 69 = .ok (.ireturn, 1) := by decide +kernel
theorem dX13_charges_70 : decode cX13_charges 70 = .ok (.aload_n 0, 1) := by decide +kernel
theorem dX13_charges_71 : decode cX13_charges 71 = .ok (.getfield 16, 3) := by decide +kernel
theorem dX13_charges_74 : decode cX13_charges 74 = .ok (.bipush 40, 2) := by decide +kernel
theorem dX13_charges_76 : decode cX13_charges 76 = .ok (.iconst 2, 1) := by decide +kernel
theorem dX13_charges_77 : decode cX13_charges 77 = .ok (.iload 4, 2) := by decide +kernel
theorem dX13_charges_79 : decode cX13_charges 79 = .ok (.imul, 1) := by decide +kernel
theorem dX13_charges_80 : decode cX13_charges 80 = .ok (.iadd, 1) := by decide +kernel
theorem dX13_charges_81 : decode cX13_charges 81 = .ok (.iload 5, 2) := by decide +kernel
theorem dX13_charges_83 : decode cX13_charges 83 = .ok (.iastore, 1) := by decide +kernel
theorem dX13_charges_84 : decode cX13_charges 84 = .ok (.aload_n 0, 1) := by decide +kernel
theorem dX13_charges_85 : decode cX13_charges 85 = .ok (.getfield 16, 3) := by decide +kernel
theorem dX13_charges_88 : decode cX13_charges 88 = .ok (.bipush 40, 2) := by decide +kernel
theorem dX13_charges_90 : decode cX13_charges 90 = .ok (.iconst 2, 1) := by decide +kernel
theorem dX13_charges_91 : decode cX13_charges 91 = .ok (.iload 4, 2) := by decide +kernel
theorem dX13_charges_93 : decode cX13_charges 93 = .ok (.imul, 1) := by decide +kernel
theorem dX13_charges_94 : decode cX13_charges 94 = .ok (.iadd, 1) := by decide +kernel
theorem dX13_charges_95 : decode cX13_charges 95 = .ok (.iconst 1, 1) := by decide +kernel
theorem dX13_charges_96 : decode cX13_charges 96 = .ok (.iadd, 1) := by decide +kernel
theorem dX13_charges_97 : decode cX13_charges 97 = .ok (.iload_n 3, 1) := by decide +kernel
theorem dX13_charges_98 : decode cX13_charges 98 = .ok (.iastore, 1) := by decide +kernel
theorem dX13_charges_99 : decode cX13_charges 99 = .ok (.aload_n 0, 1) := by decide +kernel
theorem dX13_charges_100 : decode cX13_charges 100 = .ok (.getfield 16, 3) := by decide +kernel
theorem dX13_charges_103 : decode cX13_charges 103 = .ok (.iconst 3, 1) := by decide +kernel
theorem dX13_charges_104 : decode cX13_charges 104 = .ok (.dup2, 1) := by decide +kernel
theorem dX13_charges_105 : decode cX13_charges 105 = .ok (.iaload, 1) := by decide +kernel
theorem dX13_charges_106 : decode cX13_charges 106 = .ok (.iconst 1, 1) := by decide +kernel
theorem dX13_charges_107 : decode cX13_charges 107 = .ok (.iadd, 1) := by decide +kernel
theorem dX13_charges_108 : decode cX13_charges 108 = .ok (.iastore, 1) := by decide +kernel
theorem dX13_charges_109 : decode cX13_charges 109 = .ok (.iload 4, 2) := by decide +kernel
theorem dX13_charges_111 : decode cX13_charges 111 = .ok (.ireturn, 1) := by decide +kernel
theorem dX13_addCharge_0 : decode cX13_addCharge 0 = .ok (.aload_n 0, 1) := by decide +kernel
theorem dX13_addCharge_1 : decode cX13_addCharge 1 = .ok (.invokevirtual 91, 3) := by decide +kernel
theorem dX13_addCharge_4 : decode cX13_addCharge 4 = .ok (.aload_n 0, 1) := by decide +kernel
theorem dX13_addCharge_5 : decode cX13_addCharge 5 = .ok (.aload_n 0, 1) := by decide +kernel
theorem dX13_addCharge_6 : decode cX13_addCharge 6 = .ok (.iload_n 1, 1) := by decide +kernel
theorem dX13_addCharge_7 : decode cX13_addCharge 7 = .ok (.iload_n 2, 1) := by decide +kernel
theorem dX13_addCharge_8 : decode cX13_addCharge 8 = .ok (.iload_n 3, 1) := by decide +kernel
theorem dX13_addCharge_9 : decode cX13_addCharge 9 = .ok (.invokevirtual 121, 3) := by decide +kernel
theorem dX13_addCharge_12 : decode cX13_addCharge 12 = .ok (.invokevirtual 98, 3) := by decide +kernel
theorem dX13_addCharge_15 : decode cX13_addCharge 15 = .ok (.ireturn, 1) := by decide +kernel
theorem dX13_isCharge_0 : decode cX13_isCharge 0 = .ok (.iload_n 1, 1) := by decide +kernel
theorem dX13_isCharge_1 : decode cX13_isCharge 1 = .ok (.iconst 0, 1) := by decide +kernel
theorem dX13_isCharge_2 : decode cX13_isCharge 2 = .ok (.aload_n 0, 1) := by decide +kernel
theorem dX13_isCharge_3 : decode cX13_isCharge 3 = .ok (.getfield 16, 3) := by decide +kernel
theorem dX13_isCharge_6 : decode cX13_isCharge 6 = .ok (.iconst 3, 1) := by decide +kernel
theorem dX13_isCharge_7 : decode cX13_isCharge 7 = .ok (.iaload, 1) := by decide +kernel
theorem dX13_isCharge_8 : decode cX13_isCharge 8 = .ok (.iconst 1, 1) := by decide +kernel
theorem dX13_isCharge_9 : decode cX13_isCharge 9 = .ok (.isub, 1) := by decide +kernel
theorem dX13_isCharge_10 : decode cX13_isCharge 10 = .ok (.invokestatic 69, 3) := by decide +kernel
theorem dX13_isCharge_13 : decode cX13_isCharge 13 = .ok (.ireturn, 1) := by decide +kernel
theorem dX13_goes_0 : decode cX13_goes 0 = .ok (.bipush 40, 2) := by decide +kernel
theorem dX13_goes_2 : decode cX13_goes 2 = .ok (.iconst 2, 1) := by decide +kernel
theorem dX13_goes_3 : decode cX13_goes 3 = .ok (.iload_n 1, 1) := by decide +kernel
theorem dX13_goes_4 : decode cX13_goes 4 = .ok (.imul, 1) := by decide +kernel
theorem dX13_goes_5 : decode cX13_goes 5 = .ok (.iadd, 1) := by decide +kernel
theorem dX13_goes_6 : decode cX13_goes 6 = .ok (.istore_n 2, 1) := by decide +kernel
theorem dX13_goes_7 : decode cX13_goes 7 = .ok (.iload_n 2, 1) := by decide +kernel
theorem dX13_goes_8 : decode cX13_goes 8 = .ok (.bipush 52, 2) := by decide +kernel
theorem dX13_goes_10 : decode cX13_goes 10 = .ok (.if_icmp .ge 35, 3) := by decide +kernel
theorem dX13_goes_13 : decode cX13_goes 13 = .ok (.aload_n 0, 1) := by decide +kernel
theorem dX13_goes_14 : decode cX13_goes 14 = .ok (.getfield 16, 3) := by decide +kernel
theorem dX13_goes_17 : decode cX13_goes 17 = .ok (.iload_n 2, 1) := by decide +kernel
theorem dX13_goes_18 : decode cX13_goes 18 = .ok (.iload_n 2, 1) := by decide +kernel
theorem dX13_goes_19 : decode cX13_goes 19 = .ok (.iconst 2, 1) := by decide +kernel
theorem dX13_goes_20 : decode cX13_goes 20 = .ok (.iadd, 1) := by decide +kernel
theorem dX13_goes_21 : decode cX13_goes 21 = .ok (.bipush 52, 2) := by decide +kernel
theorem dX13_goes_23 : decode cX13_goes 23 = .ok (.if_icmp .ge 14, 3) := by decide +kernel
theorem dX13_goes_26 : decode cX13_goes 26 = .ok (.aload_n 0, 1) := by decide +kernel
theorem dX13_goes_27 : decode cX13_goes 27 = .ok (.getfield 16, 3) := by decide +kernel
theorem dX13_goes_30 : decode cX13_goes 30 = .ok (.iload_n 2, 1) := by decide +kernel
theorem dX13_goes_31 : decode cX13_goes 31 = .ok (.iconst 2, 1) := by decide +kernel
theorem dX13_goes_32 : decode cX13_goes 32 = .ok (.iadd, 1) := by decide +kernel
theorem dX13_goes_33 : decode cX13_goes 33 = .ok (.iaload, 1) := by decide +kernel
theorem dX13_goes_34 : decode cX13_goes 34 = .ok (.goto 4, 3) := by decide +kernel
theorem dX13_goes_37 : decode cX13_goes 37 = .ok (.iconst 0, 1) := by decide +kernel
theorem dX13_goes_38 : decode cX13_goes 38 = .ok (.iastore, 1) := by decide +kernel
theorem dX13_goes_39 : decode cX13_goes 39 = .ok (.iinc 2 1, 3) := by decide +kernel
theorem dX13_goes_42 : decode cX13_goes 42 = .ok (.goto (-35), 3) := by decide +kernel
theorem dX13_goes_45 : decode cX13_goes 45 = .ok (.aload_n 0, 1) := by decide +kernel
theorem dX13_goes_46 : decode cX13_goes 46 = .ok (.getfield 16, 3) := by decide +kernel
theorem dX13_goes_49 : decode cX13_goes 49 = .ok (.iconst 3, 1) := by decide +kernel
theorem dX13_goes_50 : decode cX13_goes 50 = .ok (.dup2, 1) := by decide +kernel
theorem dX13_goes_51 : decode cX13_goes 51 = .ok (.iaload, 1) := by decide +kernel
theorem dX13_goes_52 : decode cX13_goes 52 = .ok (.iconst 1, 1) := by decide +kernel
theorem dX13_goes_53 : decode cX13_goes 53 = .ok (.isub, 1) := by decide +kernel
theorem dX13_goes_54 : decode cX13_goes 54 = .ok (.iastore, 1) := by decide +kernel
theorem dX13_goes_55 : decode cX13_goes 55 = .ok (.return_, 1) := by decide +kernel
theorem dX13_removes_0 : decode cX13_removes 0 = .ok (.aload_n 0, 1) := by decide +kernel
theorem dX13_removes_1 : decode cX13_removes 1 = .ok (.iload_n 1, 1) := by decide +kernel
theorem dX13_removes_2 : decode cX13_removes 2 = .ok (.invokevirtual 124, 3) := by decide +kernel
theorem dX13_removes_5 : decode cX13_removes 5 = .ok (.ifCond .ne 9, 3) := by decide +kernel
theorem dX13_removes_8 : decode cX13_removes 8 = .ok (.aload_n 0, 1) := by decide +kernel
theorem dX13_removes_9 : decode cX13_removes 9 = .ok (.iconst 1, 1) := by decide +kernel
theorem dX13_removes_10 : decode cX13_removes 10 = .ok (.invokevirtual 81, 3) := by decide +kernel
theorem dX13_removes_13 : decode cX13_removes 13 = .ok (.ireturn, 1) := by decide +kernel
theorem dX13_removes_14 : decode cX13_removes 14 = .ok (.aload_n 0, 1) := by decide +kernel
theorem dX13_removes_15 : decode cX13_removes 15 = .ok (.iload_n 1, 1) := by decide +kernel
theorem dX13_removes_16 : decode cX13_removes 16 = .ok (.invokevirtual 127, 3) := by decide +kernel
theorem dX13_removes_19 : decode cX13_removes 19 = .ok (.aload_n 0, 1) := by decide +kernel
theorem dX13_removes_20 : decode cX13_removes 20 = .ok (.getfield 16, 3) := by decide +kernel
theorem dX13_removes_23 : decode cX13_removes 23 = .ok (.iconst 3, 1) := by decide +kernel
theorem dX13_removes_24 : decode cX13_removes 24 = .ok (.iaload, 1) := by decide +kernel
theorem dX13_removes_25 : decode cX13_removes 25 = .ok (.ireturn, 1) := by decide +kernel
theorem dX13_removeCharge_0 : decode cX13_removeCharge 0 = .ok (.aload_n 0, 1) := by decide +kernel
theorem dX13_removeCharge_1 : decode cX13_removeCharge 1 = .ok (.invokevirtual 91, 3) := by decide +kernel
theorem dX13_removeCharge_4 : decode cX13_removeCharge 4 = .ok (.aload_n 0, 1) := by decide +kernel
theorem dX13_removeCharge_5 : decode cX13_removeCharge 5 = .ok (.aload_n 0, 1) := by decide +kernel
theorem dX13_removeCharge_6 : decode cX13_removeCharge 6 = .ok (.iload_n 1, 1) := by decide +kernel
theorem dX13_removeCharge_7 : decode cX13_removeCharge 7 = .ok (.invokevirtual 131, 3) := by decide +kernel
theorem dX13_removeCharge_10 : decode cX13_removeCharge 10 = .ok (.invokevirtual 98, 3) := by decide +kernel
theorem dX13_removeCharge_13 : decode cX13_removeCharge 13 = .ok (.ireturn, 1) := by decide +kernel
theorem dX13_opens_0 : decode cX13_opens 0 = .ok (.aload_n 0, 1) := by decide +kernel
theorem dX13_opens_1 : decode cX13_opens 1 = .ok (.iload_n 2, 1) := by decide +kernel
theorem dX13_opens_2 : decode cX13_opens 2 = .ok (.invokevirtual 88, 3) := by decide +kernel
theorem dX13_opens_5 : decode cX13_opens 5 = .ok (.ifCond .le 30, 3) := by decide +kernel
theorem dX13_opens_8 : decode cX13_opens 8 = .ok (.aload_n 0, 1) := by decide +kernel
theorem dX13_opens_9 : decode cX13_opens 9 = .ok (.iload_n 2, 1) := by decide +kernel
theorem dX13_opens_10 : decode cX13_opens 10 = .ok (.invokevirtual 88, 3) := by decide +kernel
theorem dX13_opens_13 : decode cX13_opens 13 = .ok (.aload_n 0, 1) := by decide +kernel
theorem dX13_opens_14 : decode cX13_opens 14 = .ok (.iload_n 1, 1) := by decide +kernel
theorem dX13_opens_15 : decode cX13_opens 15 = .ok (.invokevirtual 134, 3) := by decide +kernel
theorem dX13_opens_18 : decode cX13_opens 18 = .ok (.aload_n 0, 1) := by decide +kernel
theorem dX13_opens_19 : decode cX13_opens 19 = .ok (.iload_n 1, 1) := by decide +kernel
theorem dX13_opens_20 : decode cX13_opens 20 = .ok (.invokevirtual 73, 3) := by decide +kernel
theorem dX13_opens_23 : decode cX13_opens 23 = .ok (.iload_n 2, 1) := by decide +kernel
theorem dX13_opens_24 : decode cX13_opens 24 = .ok (.invokestatic 137, 3) := by decide +kernel
theorem dX13_opens_27 : decode cX13_opens 27 = .ok (.isub, 1) := by decide +kernel
theorem dX13_opens_28 : decode cX13_opens 28 = .ok (.if_icmp .gt 7, 3) := by decide +kernel
theorem dX13_opens_31 : decode cX13_opens 31 = .ok (.iconst 1, 1) := by decide +kernel
theorem dX13_opens_32 : decode cX13_opens 32 = .ok (.goto 4, 3) := by decide +kernel
theorem dX13_opens_35 : decode cX13_opens 35 = .ok (.iconst 0, 1) := by decide +kernel
theorem dX13_opens_36 : decode cX13_opens 36 = .ok (.ireturn, 1) := by decide +kernel
theorem dX13_chain_0 : decode cX13_chain 0 = .ok (.iconst 1, 1) := by decide +kernel
theorem dX13_chain_1 : decode cX13_chain 1 = .ok (.iload_n 1, 1) := by decide +kernel
theorem dX13_chain_2 : decode cX13_chain 2 = .ok (.ishl, 1) := by decide +kernel
theorem dX13_chain_3 : decode cX13_chain 3 = .ok (.istore_n 2, 1) := by decide +kernel
theorem dX13_chain_4 : decode cX13_chain 4 = .ok (.iconst 0, 1) := by decide +kernel
theorem dX13_chain_5 : decode cX13_chain 5 = .ok (.istore_n 3, 1) := by decide +kernel
theorem dX13_chain_6 : decode cX13_chain 6 = .ok (.iload_n 2, 1) := by decide +kernel
theorem dX13_chain_7 : decode cX13_chain 7 = .ok (.iload_n 3, 1) := by decide +kernel
theorem dX13_chain_8 : decode cX13_chain 8 = .ok (.if_icmp .eq 80, 3) := by decide +kernel
theorem dX13_chain_11 : decode cX13_chain 11 = .ok (.iload_n 2, 1) := by decide +kernel
theorem dX13_chain_12 : decode cX13_chain 12 = .ok (.istore_n 3, 1) := by decide +kernel
theorem dX13_chain_13 : decode cX13_chain 13 = .ok (.iconst 0, 1) := by decide +kernel
theorem dX13_chain_14 : decode cX13_chain 14 = .ok (.istore 4, 2) := by decide +kernel
theorem dX13_chain_16 : decode cX13_chain 16 = .ok (.iload 4, 2) := by decide +kernel
theorem dX13_chain_18 : decode cX13_chain 18 = .ok (.aload_n 0, 1) := by decide +kernel
theorem dX13_chain_19 : decode cX13_chain 19 = .ok (.getfield 16, 3) := by decide +kernel
theorem dX13_chain_22 : decode cX13_chain 22 = .ok (.iconst 3, 1) := by decide +kernel
theorem dX13_chain_23 : decode cX13_chain 23 = .ok (.iaload, 1) := by decide +kernel
theorem dX13_chain_24 : decode cX13_chain 24 = .ok (.if_icmp .ge 61, 3) := by decide +kernel
theorem dX13_chain_27 : decode cX13_chain 27 = .ok (.iconst 0, 1) := by decide +kernel
theorem dX13_chain_28 : decode cX13_chain 28 = .ok (.istore 5, 2) := by decide +kernel
theorem dX13_chain_30 : decode cX13_chain 30 = .ok (.iload 5, 2) := by decide +kernel
theorem dX13_chain_32 : decode cX13_chain 32 = .ok (.aload_n 0, 1) := by decide +kernel
theorem dX13_chain_33 : decode cX13_chain 33 = .ok (.getfield 16, 3) := by decide +kernel
theorem dX13_chain_36 : decode cX13_chain 36 = .ok (.iconst 3, 1) := by decide +kernel
theorem dX13_chain_37 : decode cX13_chain 37 = .ok (.iaload, 1) := by decide +kernel
theorem dX13_chain_38 : decode cX13_chain 38 = .ok (.if_icmp .ge 41, 3) := by decide +kernel
theorem dX13_chain_41 : decode cX13_chain 41 = .ok (.iload_n 3, 1) := by decide +kernel
theorem dX13_chain_42 : decode cX13_chain 42 = .ok (.iload 4, 2) := by decide +kernel
theorem dX13_chain_44 : decode cX13_chain 44 = .ok (.ishr, 1) := by decide +kernel
theorem dX13_chain_45 : decode cX13_chain 45 = .ok (.iconst 1, 1) := by decide +kernel
theorem dX13_chain_46 : decode cX13_chain 46 = .ok (.iand, 1) := by decide +kernel
theorem dX13_chain_47 : decode cX13_chain 47 = .ok (.iconst 1, 1) := by decide +kernel
theorem dX13_chain_48 : decode cX13_chain 48 = .ok (.if_icmp .ne 25, 3) := by decide +kernel
theorem dX13_chain_51 : decode cX13_chain 51 = .ok (.aload_n 0, 1) := by decide +kernel
theorem dX13_chain_52 : decode cX13_chain 52 = .ok (.iload 4, 2) := by decide +kernel
theorem dX13_chain_54 : decode cX13_chain 54 = .ok (.aload_n 0, 1) := by decide +kernel
theorem dX13_chain_55 : decode cX13_chain 55 = .ok (.iload 5, 2) := by decide +kernel
theorem dX13_chain_57 : decode cX13_chain 57 = .ok (.invokevirtual 73, 3) := by decide +kernel
theorem dX13_chain_60 : decode cX13_chain 60 = .ok (.invokevirtual 140, 3) := by decide +kernel
theorem dX13_chain_63 : decode cX13_chain 63 = .ok (.ifCond .eq 10, 3) := by decide +kernel
theorem dX13_chain_66 : decode cX13_chain 66 = .ok (.iload_n 2, 1) := by decide +kernel
theorem dX13_chain_67 : decode cX13_chain 67 = .ok (.iconst 1, 1) := by decide +kernel
theorem dX13_chain_68 : decode cX13_chain 68 = .ok (.iload 5, 2) := by decide +kernel
theorem dX13_chain_70 : decode cX13_chain 70 = .ok (.ishl, 1) := by decide +kernel
theorem dX13_chain_71 : decode cX13_chain 71 = .ok (.ior, 1) := by decide +kernel
theorem dX13_chain_72 : decode cX13_chain 72 = .ok (.istore_n 2, 1) := by decide +kernel
theorem dX13_chain_73 : decode cX13_chain 73 = .ok (.iinc 5 1, 3) := by decide +kernel
theorem dX13_chain_76 : decode cX13_chain 76 = .ok (.goto (-46), 3) := by decide +kernel
theorem dX13_chain_79 : decode cX13_chain 79 = .ok (.iinc 4 1, 3) := by decide +kernel
theorem dX13_chain_82 : decode cX13_chain 82 = .ok (.goto (-66), 3) := by decide +kernel
theorem dX13_chain_85 : decode cX13_chain 85 = .ok (.goto (-79), 3) := by decide +kernel
theorem dX13_chain_88 : decode cX13_chain 88 = .ok (.iload_n 2, 1) := by decide +kernel
theorem dX13_chain_89 : decode cX13_chain 89 = .ok (.ireturn, 1) := by decide +kernel
theorem dX13_falls_0 : decode cX13_falls 0 = .ok (.iconst 0, 1) := by decide +kernel
theorem dX13_falls_1 : decode cX13_falls 1 = .ok (.istore_n 3, 1) := by decide +kernel
theorem dX13_falls_2 : decode cX13_falls 2 = .ok (.iload_n 3, 1) := by decide +kernel
theorem dX13_falls_3 : decode cX13_falls 3 = .ok (.aload_n 0, 1) := by decide +kernel
theorem dX13_falls_4 : decode cX13_falls 4 = .ok (.getfield 16, 3) := by decide +kernel
theorem dX13_falls_7 : decode cX13_falls 7 = .ok (.iconst 3, 1) := by decide +kernel
theorem dX13_falls_8 : decode cX13_falls 8 = .ok (.iaload, 1) := by decide +kernel
theorem dX13_falls_9 : decode cX13_falls 9 = .ok (.if_icmp .ge 29, 3) := by decide +kernel
theorem dX13_falls_12 : decode cX13_falls 12 = .ok (.iload_n 1, 1) := by decide +kernel
theorem dX13_falls_13 : decode cX13_falls 13 = .ok (.iload_n 3, 1) := by decide +kernel
theorem dX13_falls_14 : decode cX13_falls 14 = .ok (.ishr, 1) := by decide +kernel
theorem dX13_falls_15 : decode cX13_falls 15 = .ok (.iconst 1, 1) := by decide +kernel
theorem dX13_falls_16 : decode cX13_falls 16 = .ok (.iand, 1) := by decide +kernel
theorem dX13_falls_17 : decode cX13_falls 17 = .ok (.iconst 1, 1) := by decide +kernel
theorem dX13_falls_18 : decode cX13_falls 18 = .ok (.if_icmp .ne 14, 3) := by decide +kernel
theorem dX13_falls_21 : decode cX13_falls 21 = .ok (.aload_n 0, 1) := by decide +kernel
theorem dX13_falls_22 : decode cX13_falls 22 = .ok (.iload_n 3, 1) := by decide +kernel
theorem dX13_falls_23 : decode cX13_falls 23 = .ok (.iload_n 2, 1) := by decide +kernel
theorem dX13_falls_24 : decode cX13_falls 24 = .ok (.invokevirtual 140, 3) := by decide +kernel
theorem dX13_falls_27 : decode cX13_falls 27 = .ok (.ifCond .eq 5, 3) := by decide +kernel
theorem dX13_falls_30 : decode cX13_falls 30 = .ok (.iconst 1, 1) := by decide +kernel
theorem dX13_falls_31 : decode cX13_falls 31 = .ok (.ireturn, 1) := by decide +kernel
theorem dX13_falls_32 : decode cX13_falls 32 = .ok (.iinc 3 1, 3) := by decide +kernel
theorem dX13_falls_35 : decode cX13_falls 35 = .ok (.goto (-33), 3) := by decide +kernel
theorem dX13_falls_38 : decode cX13_falls 38 = .ok (.iconst 0, 1) := by decide +kernel
theorem dX13_falls_39 : decode cX13_falls 39 = .ok (.ireturn, 1) := by decide +kernel
theorem dX13_fallsOf_0 : decode cX13_fallsOf 0 = .ok (.aload_n 0, 1) := by decide +kernel
theorem dX13_fallsOf_1 : decode cX13_fallsOf 1 = .ok (.iload_n 1, 1) := by decide +kernel
theorem dX13_fallsOf_2 : decode cX13_fallsOf 2 = .ok (.invokevirtual 143, 3) := by decide +kernel
theorem dX13_fallsOf_5 : decode cX13_fallsOf 5 = .ok (.istore_n 2, 1) := by decide +kernel
theorem dX13_fallsOf_6 : decode cX13_fallsOf 6 = .ok (.iconst 0, 1) := by decide +kernel
theorem dX13_fallsOf_7 : decode cX13_fallsOf 7 = .ok (.istore_n 3, 1) := by decide +kernel
theorem dX13_fallsOf_8 : decode cX13_fallsOf 8 = .ok (.iconst 0, 1) := by decide +kernel
theorem dX13_fallsOf_9 : decode cX13_fallsOf 9 = .ok (.istore 4, 2) := by decide +kernel
theorem dX13_fallsOf_11 : decode cX13_fallsOf 11 = .ok (.iload 4, 2) := by decide +kernel
theorem dX13_fallsOf_13 : decode cX13_fallsOf 13 = .ok (.bipush 36, 2) := by decide +kernel
theorem dX13_fallsOf_15 : decode cX13_fallsOf 15 = .ok (.if_icmp .ge 27, 3) := by decide +kernel
theorem dX13_fallsOf_18 : decode cX13_fallsOf 18 = .ok (.iload_n 3, 1) := by decide +kernel
theorem dX13_fallsOf_19 : decode cX13_fallsOf 19 = .ok (.aload_n 0, 1) := by decide +kernel
theorem dX13_fallsOf_20 : decode cX13_fallsOf 20 = .ok (.iload_n 2, 1) := by decide +kernel
theorem dX13_fallsOf_21 : decode cX13_fallsOf 21 = .ok (.iload 4, 2) := by decide +kernel
theorem dX13_fallsOf_23 : decode cX13_fallsOf 23 = .ok (.invokevirtual 146, 3) := by decide +kernel
theorem dX13_fallsOf_26 : decode cX13_fallsOf 26 = .ok (.ifCond .eq 7, 3) := by decide +kernel
theorem dX13_fallsOf_29 : decode cX13_fallsOf 29 = .ok (.iconst 1, 1) := by decide +kernel
theorem dX13_fallsOf_30 : decode cX13_fallsOf 30 = .ok (.goto 4, 3) := by decide +kernel
theorem dX13_fallsOf_33 : decode cX13_fallsOf 33 = .ok (.iconst 0, 1) := by decide +kernel
theorem dX13_fallsOf_34 : decode cX13_fallsOf 34 = .ok (.iadd, 1) := by decide +kernel
theorem dX13_fallsOf_35 : decode cX13_fallsOf 35 = .ok (.istore_n 3, 1) := by decide +kernel
theorem dX13_fallsOf_36 : decode cX13_fallsOf 36 = .ok (.iinc 4 1, 3) := by decide +kernel
theorem dX13_fallsOf_39 : decode cX13_fallsOf 39 = .ok (.goto (-28), 3) := by decide +kernel
theorem dX13_fallsOf_42 : decode cX13_fallsOf 42 = .ok (.iload_n 3, 1) := by decide +kernel
theorem dX13_fallsOf_43 : decode cX13_fallsOf 43 = .ok (.ireturn, 1) := by decide +kernel
theorem dX13_ignites_0 : decode cX13_ignites 0 = .ok (.aload_n 0, 1) := by decide +kernel
theorem dX13_ignites_1 : decode cX13_ignites 1 = .ok (.iload_n 1, 1) := by decide +kernel
theorem dX13_ignites_2 : decode cX13_ignites 2 = .ok (.invokevirtual 124, 3) := by decide +kernel
theorem dX13_ignites_5 : decode cX13_ignites 5 = .ok (.ifCond .ne 9, 3) := by decide +kernel
theorem dX13_ignites_8 : decode cX13_ignites 8 = .ok (.aload_n 0, 1) := by decide +kernel
theorem dX13_ignites_9 : decode cX13_ignites 9 = .ok (.iconst 1, 1) := by decide +kernel
theorem dX13_ignites_10 : decode cX13_ignites 10 = .ok (.invokevirtual 81, 3) := by decide +kernel
theorem dX13_ignites_13 : decode cX13_ignites 13 = .ok (.ireturn, 1) := by decide +kernel
theorem dX13_ignites_14 : decode cX13_ignites 14 = .ok (.aload_n 0, 1) := by decide +kernel
theorem dX13_ignites_15 : decode cX13_ignites 15 = .ok (.iload_n 1, 1) := by decide +kernel
theorem dX13_ignites_16 : decode cX13_ignites 16 = .ok (.invokevirtual 143, 3) := by decide +kernel
theorem dX13_ignites_19 : decode cX13_ignites 19 = .ok (.istore_n 2, 1) := by decide +kernel
theorem dX13_ignites_20 : decode cX13_ignites 20 = .ok (.iconst 0, 1) := by decide +kernel
theorem dX13_ignites_21 : decode cX13_ignites 21 = .ok (.istore_n 3, 1) := by decide +kernel
theorem dX13_ignites_22 : decode cX13_ignites 22 = .ok (.iconst 0, 1) := by decide +kernel
theorem dX13_ignites_23 : decode cX13_ignites 23 = .ok (.istore 4, 2) := by decide +kernel
theorem dX13_ignites_25 : decode cX13_ignites 25 = .ok (.iload 4, 2) := by decide +kernel
theorem dX13_ignites_27 : decode cX13_ignites 27 = .ok (.bipush 36, 2) := by decide +kernel
theorem dX13_ignites_29 : decode cX13_ignites 29 = .ok (.if_icmp .ge 41, 3) := by decide +kernel
theorem dX13_ignites_32 : decode cX13_ignites 32 = .ok (.aload_n 0, 1) := by decide +kernel
theorem dX13_ignites_33 : decode cX13_ignites 33 = .ok (.getfield 29, 3) := by decide +kernel
theorem dX13_ignites_36 : decode cX13_ignites 36 = .ok (.iload 4, 2) := by decide +kernel
theorem dX13_ignites_38 : decode cX13_ignites 38 = .ok (.aload_n 0, 1) := by decide +kernel
theorem dX13_ignites_39 : decode cX13_ignites 39 = .ok (.iload_n 2, 1) := by decide +kernel
theorem dX13_ignites_40 : decode cX13_ignites 40 = .ok (.iload 4, 2) := by decide +kernel
theorem dX13_ignites_42 : decode cX13_ignites 42 = .ok (.invokevirtual 146, 3) := by decide +kernel
theorem dX13_ignites_45 : decode cX13_ignites 45 = .ok (.ifCond .eq 7, 3) := by decide +kernel
theorem dX13_ignites_48 : decode cX13_ignites 48 = .ok (.iconst 1, 1) := by decide +kernel
theorem dX13_ignites_49 : decode cX13_ignites 49 = .ok (.goto 4, 3) := by decide +kernel
theorem dX13_ignites_52 : decode cX13_ignites 52 = .ok (.iconst 0, 1) := by decide +kernel
theorem dX13_ignites_53 : decode cX13_ignites 53 = .ok (.iastore, 1) := by decide +kernel
theorem dX13_ignites_54 : decode cX13_ignites 54 = .ok (.iload_n 3, 1) := by decide +kernel
theorem dX13_ignites_55 : decode cX13_ignites 55 = .ok (.aload_n 0, 1) := by decide +kernel
theorem dX13_ignites_56 : decode cX13_ignites 56 = .ok (.getfield 29, 3) := by decide +kernel
theorem dX13_ignites_59 : decode cX13_ignites 59 = .ok (.iload 4, 2) := by decide +kernel
theorem dX13_ignites_61 : decode cX13_ignites 61 = .ok (.iaload, 1) := by decide +kernel
theorem dX13_ignites_62 : decode cX13_ignites 62 = .ok (.iadd, 1) := by decide +kernel
theorem dX13_ignites_63 : decode cX13_ignites 63 = .ok (.istore_n 3, 1) := by decide +kernel
theorem dX13_ignites_64 : decode cX13_ignites 64 = .ok (.iinc 4 1, 3) := by decide +kernel
theorem dX13_ignites_67 : decode cX13_ignites 67 = .ok (.goto (-42), 3) := by decide +kernel
theorem dX13_ignites_70 : decode cX13_ignites 70 = .ok (.iconst 0, 1) := by decide +kernel
theorem dX13_ignites_71 : decode cX13_ignites 71 = .ok (.istore 4, 2) := by decide +kernel
theorem dX13_ignites_73 : decode cX13_ignites 73 = .ok (.iload 4, 2) := by decide +kernel
theorem dX13_ignites_75 : decode cX13_ignites 75 = .ok (.bipush 36, 2) := by decide +kernel
theorem dX13_ignites_77 : decode cX13_ignites 77 = .ok (.if_icmp .ge 47, 3) := by decide +kernel
theorem dX13_ignites_80 : decode cX13_ignites 80 = .ok (.aload_n 0, 1) := by decide +kernel
theorem dX13_ignites_81 : decode cX13_ignites 81 = .ok (.getfield 29, 3) := by decide +kernel
theorem dX13_ignites_84 : decode cX13_ignites 84 = .ok (.iload 4, 2) := by decide +kernel
theorem dX13_ignites_86 : decode cX13_ignites 86 = .ok (.iaload, 1) := by decide +kernel
theorem dX13_ignites_87 : decode cX13_ignites 87 = .ok (.ifCond .ne 6, 3) := by decide +kernel
theorem dX13_ignites_90 : decode cX13_ignites 90 = .ok (.goto 28, 3) := by decide +kernel
theorem dX13_ignites_93 : decode cX13_ignites 93 = .ok (.aload_n 0, 1) := by decide +kernel
theorem dX13_ignites_94 : decode cX13_ignites 94 = .ok (.getfield 16, 3) := by decide +kernel
theorem dX13_ignites_97 : decode cX13_ignites 97 = .ok (.iconst 1, 1) := by decide +kernel
theorem dX13_ignites_98 : decode cX13_ignites 98 = .ok (.dup2, 1) := by decide +kernel
theorem dX13_ignites_99 : decode cX13_ignites 99 = .ok (.iaload, 1) := by decide +kernel
theorem dX13_ignites_100 : decode cX13_ignites 100 = .ok (.aload_n 0, 1) := by decide +kernel
theorem dX13_ignites_101 : decode cX13_ignites 101 = .ok (.iload 4, 2) := by decide +kernel
theorem dX13_ignites_103 : decode cX13_ignites 103 = .ok (.invokevirtual 88, 3) := by decide +kernel
theorem dX13_ignites_106 : decode cX13_ignites 106 = .ok (.iadd, 1) := by decide +kernel
theorem dX13_ignites_107 : decode cX13_ignites 107 = .ok (.iastore, 1) := by decide +kernel
theorem dX13_ignites_108 : decode cX13_ignites 108 = .ok (.aload_n 0, 1) := by decide +kernel
theorem dX13_ignites_109 : decode cX13_ignites 109 = .ok (.getfield 16, 3) := by decide +kernel
theorem dX13_ignites_112 : decode cX13_ignites 112 = .ok (.iconst 4, 1) := by decide +kernel
theorem dX13_ignites_113 : decode cX13_ignites 113 = .ok (.iload 4, 2) := by decide +kernel
theorem dX13_ignites_115 : decode cX13_ignites 115 = .ok (.iadd, 1) := by decide +kernel
theorem dX13_ignites_116 : decode cX13_ignites 116 = .ok (.iconst 0, 1) := by decide +kernel
theorem dX13_ignites_117 : decode cX13_ignites 117 = .ok (.iastore, 1) := by decide +kernel
theorem dX13_ignites_118 : decode cX13_ignites 118 = .ok (.iinc 4 1, 3) := by decide +kernel
theorem dX13_ignites_121 : decode cX13_ignites 121 = .ok (.goto (-48), 3) := by decide +kernel
theorem dX13_ignites_124 : decode cX13_ignites 124 = .ok (.iconst 5, 1) := by decide +kernel
theorem dX13_ignites_125 : decode cX13_ignites 125 = .ok (.istore 4, 2) := by decide +kernel
theorem dX13_ignites_127 : decode cX13_ignites 127 = .ok (.iload 4, 2) := by decide +kernel
theorem dX13_ignites_129 : decode cX13_ignites 129 = .ok (.ifCond .lt 25, 3) := by decide +kernel
theorem dX13_ignites_132 : decode cX13_ignites 132 = .ok (.iload_n 2, 1) := by decide +kernel
theorem dX13_ignites_133 : decode cX13_ignites 133 = .ok (.iload 4, 2) := by decide +kernel
theorem dX13_ignites_135 : decode cX13_ignites 135 = .ok (.ishr, 1) := by decide +kernel
theorem dX13_ignites_136 : decode cX13_ignites 136 = .ok (.iconst 1, 1) := by decide +kernel
theorem dX13_ignites_137 : decode cX13_ignites 137 = .ok (.iand, 1) := by decide +kernel
theorem dX13_ignites_138 : decode cX13_ignites 138 = .ok (.iconst 1, 1) := by decide +kernel
theorem dX13_ignites_139 : decode cX13_ignites 139 = .ok (.if_icmp .ne 9, 3) := by decide +kernel
theorem dX13_ignites_142 : decode cX13_ignites 142 = .ok (.aload_n 0, 1) := by decide +kernel
theorem dX13_ignites_143 : decode cX13_ignites 143 = .ok (.iload 4, 2) := by decide +kernel
theorem dX13_ignites_145 : decode cX13_ignites 145 = .ok (.invokevirtual 127, 3) := by decide +kernel
theorem dX13_ignites_148 : decode cX13_ignites 148 = .ok (.iinc 4 (-1), 3) := by decide +kernel
theorem dX13_ignites_151 : decode cX13_ignites 151 = .ok (.goto (-24), 3) := by decide +kernel
theorem dX13_ignites_154 : decode cX13_ignites 154 = .ok (.iload_n 3, 1) := by decide +kernel
theorem dX13_ignites_155 : decode cX13_ignites 155 = .ok (.ireturn, 1) := by decide +kernel
theorem dX13_ignite_0 : decode cX13_ignite 0 = .ok (.aload_n 0, 1) := by decide +kernel
theorem dX13_ignite_1 : decode cX13_ignite 1 = .ok (.invokevirtual 91, 3) := by decide +kernel
theorem dX13_ignite_4 : decode cX13_ignite 4 = .ok (.aload_n 0, 1) := by decide +kernel
theorem dX13_ignite_5 : decode cX13_ignite 5 = .ok (.aload_n 0, 1) := by decide +kernel
theorem dX13_ignite_6 : decode cX13_ignite 6 = .ok (.iload_n 1, 1) := by decide +kernel
theorem dX13_ignite_7 : decode cX13_ignite 7 = .ok (.invokevirtual 149, 3) := by decide +kernel
theorem dX13_ignite_10 : decode cX13_ignite 10 = .ok (.invokevirtual 98, 3) := by decide +kernel
theorem dX13_ignite_13 : decode cX13_ignite 13 = .ok (.ireturn, 1) := by decide +kernel
theorem dX13_tells_0 : decode cX13_tells 0 = .ok (.aload_n 0, 1) := by decide +kernel
theorem dX13_tells_1 : decode cX13_tells 1 = .ok (.iconst 0, 1) := by decide +kernel
theorem dX13_tells_2 : decode cX13_tells 2 = .ok (.putfield 59, 3) := by decide +kernel
theorem dX13_tells_5 : decode cX13_tells 5 = .ok (.aload_n 0, 1) := by decide +kernel
theorem dX13_tells_6 : decode cX13_tells 6 = .ok (.getfield 16, 3) := by decide +kernel
theorem dX13_tells_9 : decode cX13_tells 9 = .ok (.iload_n 1, 1) := by decide +kernel
theorem dX13_tells_10 : decode cX13_tells 10 = .ok (.iaload, 1) := by decide +kernel
theorem dX13_tells_11 : decode cX13_tells 11 = .ok (.ireturn, 1) := by decide +kernel
theorem dX13_chargeCount_0 : decode cX13_chargeCount 0 = .ok (.aload_n 0, 1) := by decide +kernel
theorem dX13_chargeCount_1 : decode cX13_chargeCount 1 = .ok (.iconst 3, 1) := by decide +kernel
theorem dX13_chargeCount_2 : decode cX13_chargeCount 2 = .ok (.invokevirtual 152, 3) := by decide +kernel
theorem dX13_chargeCount_5 : decode cX13_chargeCount 5 = .ok (.ireturn, 1) := by decide +kernel
theorem dX13_looks_0 : decode cX13_looks 0 = .ok (.aload_n 0, 1) := by decide +kernel
theorem dX13_looks_1 : decode cX13_looks 1 = .ok (.aload_n 0, 1) := by decide +kernel
theorem dX13_looks_2 : decode cX13_looks 2 = .ok (.iload_n 1, 1) := by decide +kernel
theorem dX13_looks_3 : decode cX13_looks 3 = .ok (.invokevirtual 124, 3) := by decide +kernel
theorem dX13_looks_6 : decode cX13_looks 6 = .ok (.ifCond .eq 7, 3) := by decide +kernel
theorem dX13_looks_9 : decode cX13_looks 9 = .ok (.iconst 0, 1) := by decide +kernel
theorem dX13_looks_10 : decode cX13_looks 10 = .ok (.goto 4, 3) := by decide +kernel
theorem dX13_looks_13 : decode cX13_looks 13 = .ok (.iconst 1, 1) := by decide +kernel
theorem dX13_looks_14 : decode cX13_looks 14 = .ok (.putfield 59, 3) := by decide +kernel
theorem dX13_looks_17 : decode cX13_looks 17 = .ok (.aload_n 0, 1) := by decide +kernel
theorem dX13_looks_18 : decode cX13_looks 18 = .ok (.getfield 59, 3) := by decide +kernel
theorem dX13_looks_21 : decode cX13_looks 21 = .ok (.ifCond .ne 7, 3) := by decide +kernel
theorem dX13_looks_24 : decode cX13_looks 24 = .ok (.iconst 1, 1) := by decide +kernel
theorem dX13_looks_25 : decode cX13_looks 25 = .ok (.goto 4, 3) := by decide +kernel
theorem dX13_looks_28 : decode cX13_looks 28 = .ok (.iconst 0, 1) := by decide +kernel
theorem dX13_looks_29 : decode cX13_looks 29 = .ok (.ireturn, 1) := by decide +kernel
theorem dX13_chargeRow_0 : decode cX13_chargeRow 0 = .ok (.aload_n 0, 1) := by decide +kernel
theorem dX13_chargeRow_1 : decode cX13_chargeRow 1 = .ok (.iload_n 1, 1) := by decide +kernel
theorem dX13_chargeRow_2 : decode cX13_chargeRow 2 = .ok (.invokevirtual 155, 3) := by decide +kernel
theorem dX13_chargeRow_5 : decode cX13_chargeRow 5 = .ok (.ifCond .eq 14, 3) := by decide +kernel
theorem dX13_chargeRow_8 : decode cX13_chargeRow 8 = .ok (.aload_n 0, 1) := by decide +kernel
theorem dX13_chargeRow_9 : decode cX13_chargeRow 9 = .ok (.iload_n 1, 1) := by decide +kernel
theorem dX13_chargeRow_10 : decode cX13_chargeRow 10 = .ok (.invokevirtual 73, 3) := by decide +kernel
theorem dX13_chargeRow_13 : decode cX13_chargeRow 13 = .ok (.bipush 6, 2) := by decide +kernel
theorem dX13_chargeRow_15 : decode cX13_chargeRow 15 = .ok (.idiv, 1) := by decide +kernel
theorem dX13_chargeRow_16 : decode cX13_chargeRow 16 = .ok (.goto 4, 3) := by decide +kernel
theorem dX13_chargeRow_19 : decode cX13_chargeRow 19 = .ok (.iconst 0, 1) := by decide +kernel
theorem dX13_chargeRow_20 : decode cX13_chargeRow 20 = .ok (.ireturn, 1) := by decide +kernel
theorem dX13_chargeColumn_0 : decode cX13_chargeColumn 0 = .ok (.aload_n 0, 1) := by decide +kernel
theorem dX13_chargeColumn_1 : decode cX13_chargeColumn 1 = .ok (.iload_n 1, 1) := by decide +kernel
theorem dX13_chargeColumn_2 : decode cX13_chargeColumn 2 = .ok (.invokevirtual 155, 3) := by decide +kernel
theorem dX13_chargeColumn_5 : decode cX13_chargeColumn 5 = .ok (.ifCond .eq 14, 3) := by decide +kernel
theorem dX13_chargeColumn_8 : decode cX13_chargeColumn 8 = .ok (.aload_n 0, 1) := by decide +kernel
theorem dX13_chargeColumn_9 : decode cX13_chargeColumn 9 = .ok (.iload_n 1, 1) := by decide +kernel
theorem dX13_chargeColumn_10 : decode cX13_chargeColumn 10 = .ok (.invokevirtual 73, 3) := by decide +kernel
theorem dX13_chargeColumn_13 : decode cX13_chargeColumn 13 = .ok (.bipush 6, 2) := by decide +kernel
theorem dX13_chargeColumn_15 : decode cX13_chargeColumn 15 = .ok (.irem, 1) := by decide +kernel
theorem dX13_chargeColumn_16 : decode cX13_chargeColumn 16 = .ok (.goto 4, 3) := by decide +kernel
theorem dX13_chargeColumn_19 : decode cX13_chargeColumn 19 = .ok (.iconst 0, 1) := by decide +kernel
theorem dX13_chargeColumn_20 : decode cX13_chargeColumn 20 = .ok (.ireturn, 1) := by decide +kernel
theorem dX13_chargeStrength_0 : decode cX13_chargeStrength 0 = .ok (.aload_n 0, 1) := by decide +kernel
theorem dX13_chargeStrength_1 : decode cX13_chargeStrength 1 = .ok (.iload_n 1, 1) := by decide +kernel
theorem dX13_chargeStrength_2 : decode cX13_chargeStrength 2 = .ok (.invokevirtual 155, 3) := by decide +kernel
theorem dX13_chargeStrength_5 : decode cX13_chargeStrength 5 = .ok (.ifCond .eq 11, 3) := by decide +kernel
theorem dX13_chargeStrength_8 : decode cX13_chargeStrength 8 = .ok (.aload_n 0, 1) := by decide +kernel
theorem dX13_chargeStrength_9 : decode cX13_chargeStrength 9 = .ok (.iload_n 1, 1) := by decide +kernel
theorem dX13_chargeStrength_10 : decode cX13_chargeStrength 10 = .ok (.invokevirtual 134, 3) := by decide +kernel
theorem dX13_chargeStrength_13 : decode cX13_chargeStrength 13 = .ok (.goto 4, 3) := by decide +kernel
theorem dX13_chargeStrength_16 : decode cX13_chargeStrength 16 = .ok (.iconst 0, 1) := by decide +kernel
theorem dX13_chargeStrength_17 : decode cX13_chargeStrength 17 = .ok (.ireturn, 1) := by decide +kernel
theorem dX13_count_0 : decode cX13_count 0 = .ok (.iconst 0, 1) := by decide +kernel
theorem dX13_count_1 : decode cX13_count 1 = .ok (.istore_n 1, 1) := by decide +kernel
theorem dX13_count_2 : decode cX13_count 2 = .ok (.iload_n 0, 1) := by decide +kernel
theorem dX13_count_3 : decode cX13_count 3 = .ok (.istore_n 2, 1) := by decide +kernel
theorem dX13_count_4 : decode cX13_count 4 = .ok (.iload_n 2, 1) := by decide +kernel
theorem dX13_count_5 : decode cX13_count 5 = .ok (.ifCond .eq 15, 3) := by decide +kernel
theorem dX13_count_8 : decode cX13_count 8 = .ok (.iinc 1 1, 3) := by decide +kernel
theorem dX13_count_11 : decode cX13_count 11 = .ok (.iload_n 2, 1) := by decide +kernel
theorem dX13_count_12 : decode cX13_count 12 = .ok (.iload_n 2, 1) := by decide +kernel
theorem dX13_count_13 : decode cX13_count 13 = .ok (.iconst 1, 1) := by decide +kernel
theorem dX13_count_14 : decode cX13_count 14 = .ok (.isub, 1) := by decide +kernel
theorem dX13_count_15 : decode cX13_count 15 = .ok (.iand, 1) := by decide +kernel
theorem dX13_count_16 : decode cX13_count 16 = .ok (.istore_n 2, 1) := by decide +kernel
theorem dX13_count_17 : decode cX13_count 17 = .ok (.goto (-13), 3) := by decide +kernel
theorem dX13_count_20 : decode cX13_count 20 = .ok (.iload_n 1, 1) := by decide +kernel
theorem dX13_count_21 : decode cX13_count 21 = .ok (.ireturn, 1) := by decide +kernel
theorem dX13_chainOf_0 : decode cX13_chainOf 0 = .ok (.aload_n 0, 1) := by decide +kernel
theorem dX13_chainOf_1 : decode cX13_chainOf 1 = .ok (.iload_n 1, 1) := by decide +kernel
theorem dX13_chainOf_2 : decode cX13_chainOf 2 = .ok (.invokevirtual 155, 3) := by decide +kernel
theorem dX13_chainOf_5 : decode cX13_chainOf 5 = .ok (.ifCond .eq 14, 3) := by decide +kernel
theorem dX13_chainOf_8 : decode cX13_chainOf 8 = .ok (.aload_n 0, 1) := by decide +kernel
theorem dX13_chainOf_9 : decode cX13_chainOf 9 = .ok (.iload_n 1, 1) := by decide +kernel
theorem dX13_chainOf_10 : decode cX13_chainOf 10 = .ok (.invokevirtual 143, 3) := by decide +kernel
theorem dX13_chainOf_13 : decode cX13_chainOf 13 = .ok (.invokestatic 158, 3) := by decide +kernel
theorem dX13_chainOf_16 : decode cX13_chainOf 16 = .ok (.goto 4, 3) := by decide +kernel
theorem dX13_chainOf_19 : decode cX13_chainOf 19 = .ok (.iconst 0, 1) := by decide +kernel
theorem dX13_chainOf_20 : decode cX13_chainOf 20 = .ok (.ireturn, 1) := by decide +kernel
theorem dX13_chainByRounds_0 : decode cX13_chainByRounds 0 = .ok (.aload_n 0, 1) := by decide +kernel
theorem dX13_chainByRounds_1 : decode cX13_chainByRounds 1 = .ok (.iload_n 1, 1) := by decide +kernel
theorem dX13_chainByRounds_2 : decode cX13_chainByRounds 2 = .ok (.invokevirtual 161, 3) := by decide +kernel
theorem dX13_chainByRounds_5 : decode cX13_chainByRounds 5 = .ok (.ireturn, 1) := by decide +kernel
theorem dX13_opensOf_0 : decode cX13_opensOf 0 = .ok (.aload_n 0, 1) := by decide +kernel
theorem dX13_opensOf_1 : decode cX13_opensOf 1 = .ok (.iload_n 1, 1) := by decide +kernel
theorem dX13_opensOf_2 : decode cX13_opensOf 2 = .ok (.invokevirtual 155, 3) := by decide +kernel
theorem dX13_opensOf_5 : decode cX13_opensOf 5 = .ok (.ifCond .eq 11, 3) := by decide +kernel
theorem dX13_opensOf_8 : decode cX13_opensOf 8 = .ok (.aload_n 0, 1) := by decide +kernel
theorem dX13_opensOf_9 : decode cX13_opensOf 9 = .ok (.iload_n 1, 1) := by decide +kernel
theorem dX13_opensOf_10 : decode cX13_opensOf 10 = .ok (.invokevirtual 164, 3) := by decide +kernel
theorem dX13_opensOf_13 : decode cX13_opensOf 13 = .ok (.goto 4, 3) := by decide +kernel
theorem dX13_opensOf_16 : decode cX13_opensOf 16 = .ok (.iconst 0, 1) := by decide +kernel
theorem dX13_opensOf_17 : decode cX13_opensOf 17 = .ok (.ireturn, 1) := by decide +kernel
theorem dX13_bestCharge_0 : decode cX13_bestCharge 0 = .ok (.aload_n 0, 1) := by decide +kernel
theorem dX13_bestCharge_1 : decode cX13_bestCharge 1 = .ok (.aload_n 0, 1) := by decide +kernel
theorem dX13_bestCharge_2 : decode cX13_bestCharge 2 = .ok (.getfield 16, 3) := by decide +kernel
theorem dX13_bestCharge_5 : decode cX13_bestCharge 5 = .ok (.iconst 3, 1) := by decide +kernel
theorem dX13_bestCharge_6 : decode cX13_bestCharge 6 = .ok (.iaload, 1) := by decide +kernel
theorem dX13_bestCharge_7 : decode cX13_bestCharge 7 = .ok (.ifCond .ne 7, 3) := by decide +kernel
theorem dX13_bestCharge_10 : decode cX13_bestCharge 10 = .ok (.iconst 1, 1) := by decide +kernel
theorem dX13_bestCharge_11 : decode cX13_bestCharge 11 = .ok (.goto 4, 3) := by decide +kernel
theorem dX13_bestCharge_14 : decode cX13_bestCharge 14 = .ok (.iconst 0, 1) := by decide +kernel
theorem dX13_bestCharge_15 : decode cX13_bestCharge 15 = .ok (.putfield 59, 3) := by decide +kernel
theorem dX13_bestCharge_18 : decode cX13_bestCharge 18 = .ok (.iconst 0, 1) := by decide +kernel
theorem dX13_bestCharge_19 : decode cX13_bestCharge 19 = .ok (.istore_n 1, 1) := by decide +kernel
theorem dX13_bestCharge_20 : decode cX13_bestCharge 20 = .ok (.iconst 1, 1) := by decide +kernel
theorem dX13_bestCharge_21 : decode cX13_bestCharge 21 = .ok (.istore_n 2, 1) := by decide +kernel
theorem dX13_bestCharge_22 : decode cX13_bestCharge 22 = .ok (.iload_n 2, 1) := by decide +kernel
theorem dX13_bestCharge_23 : decode cX13_bestCharge 23 = .ok (.aload_n 0, 1) := by decide +kernel
theorem dX13_bestCharge_24 : decode cX13_bestCharge 24 = .ok (.getfield 16, 3) := by decide +kernel
theorem dX13_bestCharge_27 : decode cX13_bestCharge 27 = .ok (.iconst 3, 1) := by decide +kernel
theorem dX13_bestCharge_28 : decode cX13_bestCharge 28 = .ok (.iaload, 1) := by decide +kernel
theorem dX13_bestCharge_29 : decode cX13_bestCharge 29 = .ok (.if_icmp .ge 24, 3) := by decide +kernel
theorem dX13_bestCharge_32 : decode cX13_bestCharge 32 = .ok (.aload_n 0, 1) := by decide +kernel
theorem dX13_bestCharge_33 : decode cX13_bestCharge 33 = .ok (.iload_n 2, 1) := by decide +kernel
theorem dX13_bestCharge_34 : decode cX13_bestCharge 34 = .ok (.invokevirtual 164, 3) := by decide +kernel
theorem dX13_bestCharge_37 : decode cX13_bestCharge 37 = .ok (.aload_n 0, 1) := by decide +kernel
theorem dX13_bestCharge_38 : decode cX13_bestCharge 38 = .ok (.iload_n 1, 1) := by decide +kernel
theorem dX13_bestCharge_39 : decode cX13_bestCharge 39 = .ok (.invokevirtual 164, 3) := by decide +kernel
theorem dX13_bestCharge_42 : decode cX13_bestCharge 42 = .ok (.if_icmp .le 5, 3) := by decide +kernel
theorem dX13_bestCharge_45 : decode cX13_bestCharge 45 = .ok (.iload_n 2, 1) := by decide +kernel
theorem dX13_bestCharge_46 : decode cX13_bestCharge 46 = .ok (.istore_n 1, 1) := by decide +kernel
theorem dX13_bestCharge_47 : decode cX13_bestCharge 47 = .ok (.iinc 2 1, 3) := by decide +kernel
theorem dX13_bestCharge_50 : decode cX13_bestCharge 50 = .ok (.goto (-28), 3) := by decide +kernel
theorem dX13_bestCharge_53 : decode cX13_bestCharge 53 = .ok (.iload_n 1, 1) := by decide +kernel
theorem dX13_bestCharge_54 : decode cX13_bestCharge 54 = .ok (.ireturn, 1) := by decide +kernel
theorem dX13_tunnelCost_0 : decode cX13_tunnelCost 0 = .ok (.aload_n 0, 1) := by decide +kernel
theorem dX13_tunnelCost_1 : decode cX13_tunnelCost 1 = .ok (.iconst 0, 1) := by decide +kernel
theorem dX13_tunnelCost_2 : decode cX13_tunnelCost 2 = .ok (.putfield 59, 3) := by decide +kernel
theorem dX13_tunnelCost_5 : decode cX13_tunnelCost 5 = .ok (.iconst 0, 1) := by decide +kernel
theorem dX13_tunnelCost_6 : decode cX13_tunnelCost 6 = .ok (.istore_n 1, 1) := by decide +kernel
theorem dX13_tunnelCost_7 : decode cX13_tunnelCost 7 = .ok (.iload_n 1, 1) := by decide +kernel
theorem dX13_tunnelCost_8 : decode cX13_tunnelCost 8 = .ok (.bipush 36, 2) := by decide +kernel
theorem dX13_tunnelCost_10 : decode cX13_tunnelCost 10 = .ok (.if_icmp .ge 32, 3) := by decide +kernel
theorem dX13_tunnelCost_13 : decode cX13_tunnelCost 13 = .ok (.aload_n 0, 1) := by decide +kernel
theorem dX13_tunnelCost_14 : decode cX13_tunnelCost 14 = .ok (.getfield 29, 3) := by decide +kernel
theorem dX13_tunnelCost_17 : decode cX13_tunnelCost 17 = .ok (.iload_n 1, 1) := by decide +kernel
theorem dX13_tunnelCost_18 : decode cX13_tunnelCost 18 = .ok (.iload_n 1, 1) := by decide +kernel
theorem dX13_tunnelCost_19 : decode cX13_tunnelCost 19 = .ok (.bipush 6, 2) := by decide +kernel
theorem dX13_tunnelCost_21 : decode cX13_tunnelCost 21 = .ok (.irem, 1) := by decide +kernel
theorem dX13_tunnelCost_22 : decode cX13_tunnelCost 22 = .ok (.ifCond .ne 11, 3) := by decide +kernel
theorem dX13_tunnelCost_25 : decode cX13_tunnelCost 25 = .ok (.aload_n 0, 1) := by decide +kernel
theorem dX13_tunnelCost_26 : decode cX13_tunnelCost 26 = .ok (.iload_n 1, 1) := by decide +kernel
theorem dX13_tunnelCost_27 : decode cX13_tunnelCost 27 = .ok (.invokevirtual 88, 3) := by decide +kernel
theorem dX13_tunnelCost_30 : decode cX13_tunnelCost 30 = .ok (.goto 5, 3) := by decide +kernel
theorem dX13_tunnelCost_33 : decode cX13_tunnelCost 33 = .ok (.ldc 167, 2) := by decide +kernel
theorem dX13_tunnelCost_35 : decode cX13_tunnelCost 35 = .ok (.iastore, 1) := by decide +kernel
theorem dX13_tunnelCost_36 : decode cX13_tunnelCost 36 = .ok (.iinc 1 1, 3) := by decide +kernel
theorem dX13_tunnelCost_39 : decode cX13_tunnelCost 39 = .ok (.goto (-32), 3) := by decide +kernel
theorem dX13_tunnelCost_42 : decode cX13_tunnelCost 42 = .ok (.iconst 1, 1) := by decide +kernel
theorem dX13_tunnelCost_43 : decode cX13_tunnelCost 43 = .ok (.istore_n 1, 1) := by decide +kernel
theorem dX13_tunnelCost_44 : decode cX13_tunnelCost 44 = .ok (.iload_n 1, 1) := by decide +kernel
theorem dX13_tunnelCost_45 : decode cX13_tunnelCost 45 = .ok (.ifCond .eq 93, 3) := by decide +kernel
theorem dX13_tunnelCost_48 : decode cX13_tunnelCost 48 = .ok (.iconst 0, 1) := by decide +kernel
theorem dX13_tunnelCost_49 : decode cX13_tunnelCost 49 = .ok (.istore_n 1, 1) := by decide +kernel
theorem dX13_tunnelCost_50 : decode cX13_tunnelCost 50 = .ok (.iconst 0, 1) := by decide +kernel
theorem dX13_tunnelCost_51 : decode cX13_tunnelCost 51 = .ok (.istore_n 2, 1) := by decide +kernel
theorem dX13_tunnelCost_52 : decode cX13_tunnelCost 52 = .ok (.iload_n 2, 1) := by decide +kernel
theorem dX13_tunnelCost_53 : decode cX13_tunnelCost 53 = .ok (.bipush 36, 2) := by decide +kernel
theorem dX13_tunnelCost_55 : decode cX13_tunnelCost 55 = .ok (.if_icmp .ge 80, 3) := by decide +kernel
theorem dX13_tunnelCost_58 : decode cX13_tunnelCost 58 = .ok (.iconst 0, 1) := by decide +kernel
theorem dX13_tunnelCost_59 : decode cX13_tunnelCost 59 = .ok (.istore_n 3, 1) := by decide +kernel
theorem dX13_tunnelCost_60 : decode cX13_tunnelCost 60 = .ok (.iload_n 3, 1) := by decide +kernel
theorem dX13_tunnelCost_61 : decode cX13_tunnelCost 61 = .ok (.iconst 4, 1) := by decide +kernel
theorem dX13_tunnelCost_62 : decode cX13_tunnelCost 62 = .ok (.if_icmp .ge 67, 3) := by decide +kernel
theorem dX13_tunnelCost_65 : decode cX13_tunnelCost 65 = .ok (.iload_n 2, 1) := by decide +kernel
theorem dX13_tunnelCost_66 : decode cX13_tunnelCost 66 = .ok (.iload_n 3, 1) := by decide +kernel
theorem dX13_tunnelCost_67 : decode cX13_tunnelCost 67 = .ok (.invokestatic 101, 3) := by decide +kernel
theorem dX13_tunnelCost_70 : decode cX13_tunnelCost 70 = .ok (.istore 4, 2) := by decide +kernel
theorem dX13_tunnelCost_72 : decode cX13_tunnelCost 72 = .ok (.iload 4, 2) := by decide +kernel
theorem dX13_tunnelCost_74 : decode cX13_tunnelCost 74 = .ok (.ifCond .lt 49, 3) := by decide +kernel
theorem dX13_tunnelCost_77 : decode cX13_tunnelCost 77 = .ok (.aload_n 0, 1) := by decide +kernel
theorem dX13_tunnelCost_78 : decode cX13_tunnelCost 78 = .ok (.getfield 29, 3) := by decide +kernel
theorem dX13_tunnelCost_81 : decode cX13_tunnelCost 81 = .ok (.iload 4, 2) := by decide +kernel
theorem dX13_tunnelCost_83 : decode cX13_tunnelCost 83 = .ok (.iaload, 1) := by decide +kernel
theorem dX13_tunnelCost_84 : decode cX13_tunnelCost 84 = .ok (.aload_n 0, 1) := by decide +kernel
theorem dX13_tunnelCost_85 : decode cX13_tunnelCost 85 = .ok (.iload_n 2, 1) := by decide +kernel
theorem dX13_tunnelCost_86 : decode cX13_tunnelCost 86 = .ok (.invokevirtual 88, 3) := by decide +kernel
theorem dX13_tunnelCost_89 : decode cX13_tunnelCost 89 = .ok (.iadd, 1) := by decide +kernel
theorem dX13_tunnelCost_90 : decode cX13_tunnelCost 90 = .ok (.aload_n 0, 1) := by decide +kernel
theorem dX13_tunnelCost_91 : decode cX13_tunnelCost 91 = .ok (.getfield 29, 3) := by decide +kernel
theorem dX13_tunnelCost_94 : decode cX13_tunnelCost 94 = .ok (.iload_n 2, 1) := by decide +kernel
theorem dX13_tunnelCost_95 : decode cX13_tunnelCost 95 = .ok (.iaload, 1) := by decide +kernel
theorem dX13_tunnelCost_96 : decode cX13_tunnelCost 96 = .ok (.if_icmp .lt 6, 3) := by decide +kernel
theorem dX13_tunnelCost_99 : decode cX13_tunnelCost 99 = .ok (.goto 24, 3) := by decide +kernel
theorem dX13_tunnelCost_102 : decode cX13_tunnelCost 102 = .ok (.aload_n 0, 1) := by decide +kernel
theorem dX13_tunnelCost_103 : decode cX13_tunnelCost 103 = .ok (.getfield 29, 3) := by decide +kernel
theorem dX13_tunnelCost_106 : decode cX13_tunnelCost 106 = .ok (.iload_n 2, 1) := by decide +kernel
theorem dX13_tunnelCost_107 : decode cX13_tunnelCost 107 = .ok (.aload_n 0, 1) := by decide +kernel
theorem dX13_tunnelCost_108 : decode cX13_tunnelCost 108 = .ok (.getfield 29, 3) := by decide +kernel
theorem dX13_tunnelCost_111 : decode cX13_tunnelCost 111 = .ok (.iload 4, 2) := by decide +kernel
theorem dX13_tunnelCost_113 : decode cX13_tunnelCost 113 = .ok (.iaload, 1) := by decide +kernel
theorem dX13_tunnelCost_114 : decode cX13_tunnelCost 114 = .ok (.aload_n 0, 1) := by decide +kernel
theorem dX13_tunnelCost_115 : decode cX13_tunnelCost 115 = .ok (.iload_n 2, 1) := by decide +kernel
theorem dX13_tunnelCost_116 : decode cX13_tunnelCost 116 = .ok (.invokevirtual 88, 3) := by decide +kernel
theorem dX13_tunnelCost_119 : decode cX13_tunnelCost 119 = .ok (.iadd, 1) := by decide +kernel
theorem dX13_tunnelCost_120 : decode cX13_tunnelCost 120 = .ok (.iastore, 1) := by decide +kernel
theorem dX13_tunnelCost_121 : decode cX13_tunnelCost 121 = .ok (.iconst 1, 1) := by decide +kernel
theorem dX13_tunnelCost_122 : decode cX13_tunnelCost 122 = .ok (.istore_n 1, 1) := by decide +kernel
theorem dX13_tunnelCost_123 : decode cX13_tunnelCost 123 = .ok (.iinc 3 1, 3) := by decide +kernel
theorem dX13_tunnelCost_126 : decode cX13_tunnelCost 126 = .ok (.goto (-66), 3) := by decide +kernel
theorem dX13_tunnelCost_129 : decode cX13_tunnelCost 129 = .ok (.iinc 2 1, 3) := by decide +kernel
theorem dX13_tunnelCost_132 : decode cX13_tunnelCost 132 = .ok (.goto (-80), 3) := by decide +kernel
theorem dX13_tunnelCost_135 : decode cX13_tunnelCost 135 = .ok (.goto (-91), 3) := by decide +kernel
theorem dX13_tunnelCost_138 : decode cX13_tunnelCost 138 = .ok (.ldc 167, 2) := by decide +kernel
theorem dX13_tunnelCost_140 : decode cX13_tunnelCost 140 = .ok (.istore_n 2, 1) := by decide +kernel
theorem dX13_tunnelCost_141 : decode cX13_tunnelCost 141 = .ok (.iconst 0, 1) := by decide +kernel
theorem dX13_tunnelCost_142 : decode cX13_tunnelCost 142 = .ok (.istore_n 3, 1) := by decide +kernel
theorem dX13_tunnelCost_143 : decode cX13_tunnelCost 143 = .ok (.iload_n 3, 1) := by decide +kernel
theorem dX13_tunnelCost_144 : decode cX13_tunnelCost 144 = .ok (.bipush 6, 2) := by decide +kernel
theorem dX13_tunnelCost_146 : decode cX13_tunnelCost 146 = .ok (.if_icmp .ge 38, 3) := by decide +kernel
theorem dX13_tunnelCost_149 : decode cX13_tunnelCost 149 = .ok (.aload_n 0, 1) := by decide +kernel
theorem dX13_tunnelCost_150 : decode cX13_tunnelCost 150 = .ok (.getfield 29, 3) := by decide +kernel
theorem dX13_tunnelCost_153 : decode cX13_tunnelCost 153 = .ok (.iload_n 3, 1) := by decide +kernel
theorem dX13_tunnelCost_154 : decode cX13_tunnelCost 154 = .ok (.iconst 5, 1) := by decide +kernel
theorem dX13_tunnelCost_155 : decode cX13_tunnelCost 155 = .ok (.invokestatic 84, 3) := by decide +kernel
theorem dX13_tunnelCost_158 : decode cX13_tunnelCost 158 = .ok (.iaload, 1) := by decide +kernel
theorem dX13_tunnelCost_159 : decode cX13_tunnelCost 159 = .ok (.iload_n 2, 1) := by decide +kernel
theorem dX13_tunnelCost_160 : decode cX13_tunnelCost 160 = .ok (.if_icmp .ge 16, 3) := by decide +kernel
theorem dX13_tunnelCost_163 : decode cX13_tunnelCost 163 = .ok (.aload_n 0, 1) := by decide +kernel
theorem dX13_tunnelCost_164 : decode cX13_tunnelCost 164 = .ok (.getfield 29, 3) := by decide +kernel
theorem dX13_tunnelCost_167 : decode cX13_tunnelCost 167 = .ok (.iload_n 3, 1) := by decide +kernel
theorem dX13_tunnelCost_168 : decode cX13_tunnelCost 168 = .ok (.iconst 5, 1) := by decide +kernel
theorem dX13_tunnelCost_169 : decode cX13_tunnelCost 169 = .ok (.invokestatic 84, 3) := by decide +kernel
theorem dX13_tunnelCost_172 : decode cX13_tunnelCost 172 = .ok (.iaload, 1) := by decide +kernel
theorem dX13_tunnelCost_173 : decode cX13_tunnelCost 173 = .ok (.goto 4, 3) := by decide +kernel
theorem dX13_tunnelCost_176 : decode cX13_tunnelCost 176 = .ok (.iload_n 2, 1) := by decide +kernel
theorem dX13_tunnelCost_177 : decode cX13_tunnelCost 177 = .ok (.istore_n 2, 1) := by decide +kernel
theorem dX13_tunnelCost_178 : decode cX13_tunnelCost 178 = .ok (.iinc 3 1, 3) := by decide +kernel
theorem dX13_tunnelCost_181 : decode cX13_tunnelCost 181 = .ok (.goto (-38), 3) := by decide +kernel
theorem dX13_tunnelCost_184 : decode cX13_tunnelCost 184 = .ok (.iload_n 2, 1) := by decide +kernel
theorem dX13_tunnelCost_185 : decode cX13_tunnelCost 185 = .ok (.ireturn, 1) := by decide +kernel
theorem dX13_tunnelByRounds_0 : decode cX13_tunnelByRounds 0 = .ok (.aload_n 0, 1) := by decide +kernel
theorem dX13_tunnelByRounds_1 : decode cX13_tunnelByRounds 1 = .ok (.invokevirtual 168, 3) := by decide +kernel
theorem dX13_tunnelByRounds_4 : decode cX13_tunnelByRounds 4 = .ok (.ireturn, 1) := by decide +kernel
theorem dX13_better_0 : decode cX13_better 0 = .ok (.iload_n 2, 1) := by decide +kernel
theorem dX13_better_1 : decode cX13_better 1 = .ok (.aload_n 0, 1) := by decide +kernel
theorem dX13_better_2 : decode cX13_better 2 = .ok (.getfield 35, 3) := by decide +kernel
theorem dX13_better_5 : decode cX13_better 5 = .ok (.iload_n 1, 1) := by decide +kernel
theorem dX13_better_6 : decode cX13_better 6 = .ok (.iaload, 1) := by decide +kernel
theorem dX13_better_7 : decode cX13_better 7 = .ok (.if_icmp .le 10, 3) := by decide +kernel
theorem dX13_better_10 : decode cX13_better 10 = .ok (.aload_n 0, 1) := by decide +kernel
theorem dX13_better_11 : decode cX13_better 11 = .ok (.getfield 35, 3) := by decide +kernel
theorem dX13_better_14 : decode cX13_better 14 = .ok (.iload_n 1, 1) := by decide +kernel
theorem dX13_better_15 : decode cX13_better 15 = .ok (.iload_n 2, 1) := by decide +kernel
theorem dX13_better_16 : decode cX13_better 16 = .ok (.iastore, 1) := by decide +kernel
theorem dX13_better_17 : decode cX13_better 17 = .ok (.return_, 1) := by decide +kernel
theorem dX13_covers_0 : decode cX13_covers 0 = .ok (.iconst 0, 1) := by decide +kernel
theorem dX13_covers_1 : decode cX13_covers 1 = .ok (.istore_n 2, 1) := by decide +kernel
theorem dX13_covers_2 : decode cX13_covers 2 = .ok (.iload_n 2, 1) := by decide +kernel
theorem dX13_covers_3 : decode cX13_covers 3 = .ok (.bipush 64, 2) := by decide +kernel
theorem dX13_covers_5 : decode cX13_covers 5 = .ok (.if_icmp .ge 17, 3) := by decide +kernel
theorem dX13_covers_8 : decode cX13_covers 8 = .ok (.aload_n 0, 1) := by decide +kernel
theorem dX13_covers_9 : decode cX13_covers 9 = .ok (.getfield 35, 3) := by decide +kernel
theorem dX13_covers_12 : decode cX13_covers 12 = .ok (.iload_n 2, 1) := by decide +kernel
theorem dX13_covers_13 : decode cX13_covers 13 = .ok (.ldc 171, 2) := by decide +kernel
theorem dX13_covers_15 : decode cX13_covers 15 = .ok (.iastore, 1) := by decide +kernel
theorem dX13_covers_16 : decode cX13_covers 16 = .ok (.iinc 2 1, 3) := by decide +kernel
theorem dX13_covers_19 : decode cX13_covers 19 = .ok (.goto (-17), 3) := by decide +kernel
theorem dX13_covers_22 : decode cX13_covers 22 = .ok (.iconst 0, 1) := by decide +kernel
theorem dX13_covers_23 : decode cX13_covers 23 = .ok (.istore_n 2, 1) := by decide +kernel
theorem dX13_covers_24 : decode cX13_covers 24 = .ok (.iload_n 2, 1) := by decide +kernel
theorem dX13_covers_25 : decode cX13_covers 25 = .ok (.bipush 64, 2) := by decide +kernel
theorem dX13_covers_27 : decode cX13_covers 27 = .ok (.if_icmp .ge 131, 3) := by decide +kernel
theorem dX13_covers_30 : decode cX13_covers 30 = .ok (.aload_n 0, 1) := by decide +kernel
theorem dX13_covers_31 : decode cX13_covers 31 = .ok (.getfield 32, 3) := by decide +kernel
theorem dX13_covers_34 : decode cX13_covers 34 = .ok (.iload_n 2, 1) := by decide +kernel
theorem dX13_covers_35 : decode cX13_covers 35 = .ok (.iaload, 1) := by decide +kernel
theorem dX13_covers_36 : decode cX13_covers 36 = .ok (.ifCond .ge 6, 3) := by decide +kernel
theorem dX13_covers_39 : decode cX13_covers 39 = .ok (.goto 113, 3) := by decide +kernel
theorem dX13_covers_42 : decode cX13_covers 42 = .ok (.aload_n 0, 1) := by decide +kernel
theorem dX13_covers_43 : decode cX13_covers 43 = .ok (.iload_n 2, 1) := by decide +kernel
theorem dX13_covers_44 : decode cX13_covers 44 = .ok (.iconst 1, 1) := by decide +kernel
theorem dX13_covers_45 : decode cX13_covers 45 = .ok (.ishr, 1) := by decide +kernel
theorem dX13_covers_46 : decode cX13_covers 46 = .ok (.aload_n 0, 1) := by decide +kernel
theorem dX13_covers_47 : decode cX13_covers 47 = .ok (.getfield 32, 3) := by decide +kernel
theorem dX13_covers_50 : decode cX13_covers 50 = .ok (.iload_n 2, 1) := by decide +kernel
theorem dX13_covers_51 : decode cX13_covers 51 = .ok (.iaload, 1) := by decide +kernel
theorem dX13_covers_52 : decode cX13_covers 52 = .ok (.invokevirtual 172, 3) := by decide +kernel
theorem dX13_covers_55 : decode cX13_covers 55 = .ok (.iload_n 2, 1) := by decide +kernel
theorem dX13_covers_56 : decode cX13_covers 56 = .ok (.iconst 1, 1) := by decide +kernel
theorem dX13_covers_57 : decode cX13_covers 57 = .ok (.iand, 1) := by decide +kernel
theorem dX13_covers_58 : decode cX13_covers 58 = .ok (.iconst 1, 1) := by decide +kernel
theorem dX13_covers_59 : decode cX13_covers 59 = .ok (.if_icmp .eq 93, 3) := by decide +kernel
theorem dX13_covers_62 : decode cX13_covers 62 = .ok (.aload_n 0, 1) := by decide +kernel
theorem dX13_covers_63 : decode cX13_covers 63 = .ok (.iload_n 1, 1) := by decide +kernel
theorem dX13_covers_64 : decode cX13_covers 64 = .ok (.invokevirtual 88, 3) := by decide +kernel
theorem dX13_covers_67 : decode cX13_covers 67 = .ok (.ifCond .le 6, 3) := by decide +kernel
theorem dX13_covers_70 : decode cX13_covers 70 = .ok (.goto 82, 3) := by decide +kernel
theorem dX13_covers_73 : decode cX13_covers 73 = .ok (.iload_n 1, 1) := by decide +kernel
theorem dX13_covers_74 : decode cX13_covers 74 = .ok (.bipush 6, 2) := by decide +kernel
theorem dX13_covers_76 : decode cX13_covers 76 = .ok (.irem, 1) := by decide +kernel
theorem dX13_covers_77 : decode cX13_covers 77 = .ok (.iconst 5, 1) := by decide +kernel
theorem dX13_covers_78 : decode cX13_covers 78 = .ok (.if_icmp .ge 36, 3) := by decide +kernel
theorem dX13_covers_81 : decode cX13_covers 81 = .ok (.iload_n 2, 1) := by decide +kernel
theorem dX13_covers_82 : decode cX13_covers 82 = .ok (.iconst 2, 1) := by decide +kernel
theorem dX13_covers_83 : decode cX13_covers 83 = .ok (.iand, 1) := by decide +kernel
theorem dX13_covers_84 : decode cX13_covers 84 = .ok (.ifCond .ne 30, 3) := by decide +kernel
theorem dX13_covers_87 : decode cX13_covers 87 = .ok (.aload_n 0, 1) := by decide +kernel
theorem dX13_covers_88 : decode cX13_covers 88 = .ok (.iload_n 1, 1) := by decide +kernel
theorem dX13_covers_89 : decode cX13_covers 89 = .ok (.iconst 1, 1) := by decide +kernel
theorem dX13_covers_90 : decode cX13_covers 90 = .ok (.iadd, 1) := by decide +kernel
theorem dX13_covers_91 : decode cX13_covers 91 = .ok (.invokevirtual 88, 3) := by decide +kernel
theorem dX13_covers_94 : decode cX13_covers 94 = .ok (.ifCond .ne 20, 3) := by decide +kernel
theorem dX13_covers_97 : decode cX13_covers 97 = .ok (.aload_n 0, 1) := by decide +kernel
theorem dX13_covers_98 : decode cX13_covers 98 = .ok (.iload_n 2, 1) := by decide +kernel
theorem dX13_covers_99 : decode cX13_covers 99 = .ok (.iconst 1, 1) := by decide +kernel
theorem dX13_covers_100 : decode cX13_covers 100 = .ok (.ishr, 1) := by decide +kernel
theorem dX13_covers_101 : decode cX13_covers 101 = .ok (.iconst 1, 1) := by decide +kernel
theorem dX13_covers_102 : decode cX13_covers 102 = .ok (.ior, 1) := by decide +kernel
theorem dX13_covers_103 : decode cX13_covers 103 = .ok (.aload_n 0, 1) := by decide +kernel
theorem dX13_covers_104 : decode cX13_covers 104 = .ok (.getfield 32, 3) := by decide +kernel
theorem dX13_covers_107 : decode cX13_covers 107 = .ok (.iload_n 2, 1) := by decide +kernel
theorem dX13_covers_108 : decode cX13_covers 108 = .ok (.iaload, 1) := by decide +kernel
theorem dX13_covers_109 : decode cX13_covers 109 = .ok (.iconst 1, 1) := by decide +kernel
theorem dX13_covers_110 : decode cX13_covers 110 = .ok (.iadd, 1) := by decide +kernel
theorem dX13_covers_111 : decode cX13_covers 111 = .ok (.invokevirtual 172, 3) := by decide +kernel
theorem dX13_covers_114 : decode cX13_covers 114 = .ok (.iload_n 1, 1) := by decide +kernel
theorem dX13_covers_115 : decode cX13_covers 115 = .ok (.bipush 6, 2) := by decide +kernel
theorem dX13_covers_117 : decode cX13_covers 117 = .ok (.iadd, 1) := by decide +kernel
theorem dX13_covers_118 : decode cX13_covers 118 = .ok (.bipush 36, 2) := by decide +kernel
theorem dX13_covers_120 : decode cX13_covers 120 = .ok (.if_icmp .ge 32, 3) := by decide +kernel
theorem dX13_covers_123 : decode cX13_covers 123 = .ok (.aload_n 0, 1) := by decide +kernel
theorem dX13_covers_124 : decode cX13_covers 124 = .ok (.iload_n 1, 1) := by decide +kernel
theorem dX13_covers_125 : decode cX13_covers 125 = .ok (.bipush 6, 2) := by decide +kernel
theorem dX13_covers_127 : decode cX13_covers 127 = .ok (.iadd, 1) := by decide +kernel
theorem dX13_covers_128 : decode cX13_covers 128 = .ok (.invokevirtual 88, 3) := by decide +kernel
theorem dX13_covers_131 : decode cX13_covers 131 = .ok (.ifCond .ne 21, 3) := by decide +kernel
theorem dX13_covers_134 : decode cX13_covers 134 = .ok (.aload_n 0, 1) := by decide +kernel
theorem dX13_covers_135 : decode cX13_covers 135 = .ok (.iload_n 2, 1) := by decide +kernel
theorem dX13_covers_136 : decode cX13_covers 136 = .ok (.iconst 1, 1) := by decide +kernel
theorem dX13_covers_137 : decode cX13_covers 137 = .ok (.ishr, 1) := by decide +kernel
theorem dX13_covers_138 : decode cX13_covers 138 = .ok (.bipush 32, 2) := by decide +kernel
theorem dX13_covers_140 : decode cX13_covers 140 = .ok (.ior, 1) := by decide +kernel
theorem dX13_covers_141 : decode cX13_covers 141 = .ok (.aload_n 0, 1) := by decide +kernel
theorem dX13_covers_142 : decode cX13_covers 142 = .ok (.getfield 32, 3) := by decide +kernel
theorem dX13_covers_145 : decode cX13_covers 145 = .ok (.iload_n 2, 1) := by decide +kernel
theorem dX13_covers_146 : decode cX13_covers 146 = .ok (.iaload, 1) := by decide +kernel
theorem dX13_covers_147 : decode cX13_covers 147 = .ok (.iconst 1, 1) := by decide +kernel
theorem dX13_covers_148 : decode cX13_covers 148 = .ok (.iadd, 1) := by decide +kernel
theorem dX13_covers_149 : decode cX13_covers 149 = .ok (.invokevirtual 172, 3) := by decide +kernel
theorem dX13_covers_152 : decode cX13_covers 152 = .ok (.iinc 2 1, 3) := by decide +kernel
theorem dX13_covers_155 : decode cX13_covers 155 = .ok (.goto (-131), 3) := by decide +kernel
theorem dX13_covers_158 : decode cX13_covers 158 = .ok (.iconst 0, 1) := by decide +kernel
theorem dX13_covers_159 : decode cX13_covers 159 = .ok (.istore_n 2, 1) := by decide +kernel
theorem dX13_covers_160 : decode cX13_covers 160 = .ok (.iload_n 2, 1) := by decide +kernel
theorem dX13_covers_161 : decode cX13_covers 161 = .ok (.bipush 64, 2) := by decide +kernel
theorem dX13_covers_163 : decode cX13_covers 163 = .ok (.if_icmp .ge 21, 3) := by decide +kernel
theorem dX13_covers_166 : decode cX13_covers 166 = .ok (.aload_n 0, 1) := by decide +kernel
theorem dX13_covers_167 : decode cX13_covers 167 = .ok (.getfield 32, 3) := by decide +kernel
theorem dX13_covers_170 : decode cX13_covers 170 = .ok (.iload_n 2, 1) := by decide +kernel
theorem dX13_covers_171 : decode cX13_covers 171 = .ok (.aload_n 0, 1) := by decide +kernel
theorem dX13_covers_172 : decode cX13_covers 172 = .ok (.getfield 35, 3) := by decide +kernel
theorem dX13_covers_175 : decode cX13_covers 175 = .ok (.iload_n 2, 1) := by decide +kernel
theorem dX13_covers_176 : decode cX13_covers 176 = .ok (.iaload, 1) := by decide +kernel
theorem dX13_covers_177 : decode cX13_covers 177 = .ok (.iastore, 1) := by decide +kernel
theorem dX13_covers_178 : decode cX13_covers 178 = .ok (.iinc 2 1, 3) := by decide +kernel
theorem dX13_covers_181 : decode cX13_covers 181 = .ok (.goto (-21), 3) := by decide +kernel
theorem dX13_covers_184 : decode cX13_covers 184 = .ok (.return_, 1) := by decide +kernel
theorem dX13_mostSlabs_0 : decode cX13_mostSlabs 0 = .ok (.aload_n 0, 1) := by decide +kernel
theorem dX13_mostSlabs_1 : decode cX13_mostSlabs 1 = .ok (.iconst 0, 1) := by decide +kernel
theorem dX13_mostSlabs_2 : decode cX13_mostSlabs 2 = .ok (.putfield 59, 3) := by decide +kernel
theorem dX13_mostSlabs_5 : decode cX13_mostSlabs 5 = .ok (.iconst 0, 1) := by decide +kernel
theorem dX13_mostSlabs_6 : decode cX13_mostSlabs 6 = .ok (.istore_n 1, 1) := by decide +kernel
theorem dX13_mostSlabs_7 : decode cX13_mostSlabs 7 = .ok (.iload_n 1, 1) := by decide +kernel
theorem dX13_mostSlabs_8 : decode cX13_mostSlabs 8 = .ok (.bipush 64, 2) := by decide +kernel
theorem dX13_mostSlabs_10 : decode cX13_mostSlabs 10 = .ok (.if_icmp .ge 25, 3) := by decide +kernel
theorem dX13_mostSlabs_13 : decode cX13_mostSlabs 13 = .ok (.aload_n 0, 1) := by decide +kernel
theorem dX13_mostSlabs_14 : decode cX13_mostSlabs 14 = .ok (.getfield 32, 3) := by decide +kernel
theorem dX13_mostSlabs_17 : decode cX13_mostSlabs 17 = .ok (.iload_n 1, 1) := by decide +kernel
theorem dX13_mostSlabs_18 : decode cX13_mostSlabs 18 = .ok (.iload_n 1, 1) := by decide +kernel
theorem dX13_mostSlabs_19 : decode cX13_mostSlabs 19 = .ok (.ifCond .ne 7, 3) := by decide +kernel
theorem dX13_mostSlabs_22 : decode cX13_mostSlabs 22 = .ok (.iconst 0, 1) := by decide +kernel
theorem dX13_mostSlabs_23 : decode cX13_mostSlabs 23 = .ok (.goto 5, 3) := by decide +kernel
theorem dX13_mostSlabs_26 : decode cX13_mostSlabs 26 = .ok (.ldc 171, 2) := by decide +kernel
theorem dX13_mostSlabs_28 : decode cX13_mostSlabs 28 = .ok (.iastore, 1) := by decide +kernel
theorem dX13_mostSlabs_29 : decode cX13_mostSlabs 29 = .ok (.iinc 1 1, 3) := by decide +kernel
theorem dX13_mostSlabs_32 : decode cX13_mostSlabs 32 = .ok (.goto (-25), 3) := by decide +kernel
theorem dX13_mostSlabs_35 : decode cX13_mostSlabs 35 = .ok (.iconst 0, 1) := by decide +kernel
theorem dX13_mostSlabs_36 : decode cX13_mostSlabs 36 = .ok (.istore_n 1, 1) := by decide +kernel
theorem dX13_mostSlabs_37 : decode cX13_mostSlabs 37 = .ok (.iload_n 1, 1) := by decide +kernel
theorem dX13_mostSlabs_38 : decode cX13_mostSlabs 38 = .ok (.bipush 36, 2) := by decide +kernel
theorem dX13_mostSlabs_40 : decode cX13_mostSlabs 40 = .ok (.if_icmp .ge 14, 3) := by decide +kernel
theorem dX13_mostSlabs_43 : decode cX13_mostSlabs 43 = .ok (.aload_n 0, 1) := by decide +kernel
theorem dX13_mostSlabs_44 : decode cX13_mostSlabs 44 = .ok (.iload_n 1, 1) := by decide +kernel
theorem dX13_mostSlabs_45 : decode cX13_mostSlabs 45 = .ok (.invokevirtual 176, 3) := by decide +kernel
theorem dX13_mostSlabs_48 : decode cX13_mostSlabs 48 = .ok (.iinc 1 1, 3) := by decide +kernel
theorem dX13_mostSlabs_51 : decode cX13_mostSlabs 51 = .ok (.goto (-14), 3) := by decide +kernel
theorem dX13_mostSlabs_54 : decode cX13_mostSlabs 54 = .ok (.iconst 0, 1) := by decide +kernel
theorem dX13_mostSlabs_55 : decode cX13_mostSlabs 55 = .ok (.istore_n 1, 1) := by decide +kernel
theorem dX13_mostSlabs_56 : decode cX13_mostSlabs 56 = .ok (.iconst 0, 1) := by decide +kernel
theorem dX13_mostSlabs_57 : decode cX13_mostSlabs 57 = .ok (.istore_n 2, 1) := by decide +kernel
theorem dX13_mostSlabs_58 : decode cX13_mostSlabs 58 = .ok (.iload_n 2, 1) := by decide +kernel
theorem dX13_mostSlabs_59 : decode cX13_mostSlabs 59 = .ok (.bipush 64, 2) := by decide +kernel
theorem dX13_mostSlabs_61 : decode cX13_mostSlabs 61 = .ok (.if_icmp .ge 30, 3) := by decide +kernel
theorem dX13_mostSlabs_64 : decode cX13_mostSlabs 64 = .ok (.aload_n 0, 1) := by decide +kernel
theorem dX13_mostSlabs_65 : decode cX13_mostSlabs 65 = .ok (.getfield 32, 3) := by decide +kernel
theorem dX13_mostSlabs_68 : decode cX13_mostSlabs 68 = .ok (.iload_n 2, 1) := by decide +kernel
theorem dX13_mostSlabs_69 : decode cX13_mostSlabs 69 = .ok (.iaload, 1) := by decide +kernel
theorem dX13_mostSlabs_70 : decode cX13_mostSlabs 70 = .ok (.iload_n 1, 1) := by decide +kernel
theorem dX13_mostSlabs_71 : decode cX13_mostSlabs 71 = .ok (.if_icmp .le 12, 3) := by decide +kernel
theorem dX13_mostSlabs_74 : decode cX13_mostSlabs 74 = .ok (.aload_n 0, 1) := by decide +kernel
theorem dX13_mostSlabs_75 : decode cX13_mostSlabs 75 = .ok (.getfield 32, 3) := by decide +kernel
theorem dX13_mostSlabs_78 : decode cX13_mostSlabs 78 = .ok (.iload_n 2, 1) := by decide +kernel
theorem dX13_mostSlabs_79 : decode cX13_mostSlabs 79 = .ok (.iaload, 1) := by decide +kernel
theorem dX13_mostSlabs_80 : decode cX13_mostSlabs 80 = .ok (.goto 4, 3) := by decide +kernel
theorem dX13_mostSlabs_83 : decode cX13_mostSlabs 83 = .ok (.iload_n 1, 1) := by decide +kernel
theorem dX13_mostSlabs_84 : decode cX13_mostSlabs 84 = .ok (.istore_n 1, 1) := by decide +kernel
theorem dX13_mostSlabs_85 : decode cX13_mostSlabs 85 = .ok (.iinc 2 1, 3) := by decide +kernel
theorem dX13_mostSlabs_88 : decode cX13_mostSlabs 88 = .ok (.goto (-30), 3) := by decide +kernel
theorem dX13_mostSlabs_91 : decode cX13_mostSlabs 91 = .ok (.iload_n 1, 1) := by decide +kernel
theorem dX13_mostSlabs_92 : decode cX13_mostSlabs 92 = .ok (.ireturn, 1) := by decide +kernel
theorem dX13_slabsByCells_0 : decode cX13_slabsByCells 0 = .ok (.aload_n 0, 1) := by decide +kernel
theorem dX13_slabsByCells_1 : decode cX13_slabsByCells 1 = .ok (.invokevirtual 179, 3) := by decide +kernel
theorem dX13_slabsByCells_4 : decode cX13_slabsByCells 4 = .ok (.ireturn, 1) := by decide +kernel
theorem dX13_isWhole_0 : decode cX13_isWhole 0 = .ok (.iload_n 1, 1) := by decide +kernel
theorem dX13_isWhole_1 : decode cX13_isWhole 1 = .ok (.istore 5, 2) := by decide +kernel
theorem dX13_isWhole_3 : decode cX13_isWhole 3 = .ok (.iload 5, 2) := by decide +kernel
theorem dX13_isWhole_5 : decode cX13_isWhole 5 = .ok (.iload_n 3, 1) := by decide +kernel
theorem dX13_isWhole_6 : decode cX13_isWhole 6 = .ok (.if_icmp .gt 41, 3) := by decide +kernel
theorem dX13_isWhole_9 : decode cX13_isWhole 9 = .ok (.iload_n 2, 1) := by decide +kernel
theorem dX13_isWhole_10 : decode cX13_isWhole 10 = .ok (.istore 6, 2) := by decide +kernel
theorem dX13_isWhole_12 : decode cX13_isWhole 12 = .ok (.iload 6, 2) := by decide +kernel
theorem dX13_isWhole_14 : decode cX13_isWhole 14 = .ok (.iload 4, 2) := by decide +kernel
theorem dX13_isWhole_16 : decode cX13_isWhole 16 = .ok (.if_icmp .gt 25, 3) := by decide +kernel
theorem dX13_isWhole_19 : decode cX13_isWhole 19 = .ok (.aload_n 0, 1) := by decide +kernel
theorem dX13_isWhole_20 : decode cX13_isWhole 20 = .ok (.iload 5, 2) := by decide +kernel
theorem dX13_isWhole_22 : decode cX13_isWhole 22 = .ok (.iload 6, 2) := by decide +kernel
theorem dX13_isWhole_24 : decode cX13_isWhole 24 = .ok (.invokestatic 84, 3) := by decide +kernel
theorem dX13_isWhole_27 : decode cX13_isWhole 27 = .ok (.invokevirtual 88, 3) := by decide +kernel
theorem dX13_isWhole_30 : decode cX13_isWhole 30 = .ok (.ifCond .le 5, 3) := by decide +kernel
theorem dX13_isWhole_33 : decode cX13_isWhole 33 = .ok (.iconst 0, 1) := by decide +kernel
theorem dX13_isWhole_34 : decode cX13_isWhole 34 = .ok (.ireturn, 1) := by decide +kernel
theorem dX13_isWhole_35 : decode cX13_isWhole 35 = .ok (.iinc 6 1, 3) := by decide +kernel
theorem dX13_isWhole_38 : decode cX13_isWhole 38 = .ok (.goto (-26), 3) := by decide +kernel
theorem dX13_isWhole_41 : decode cX13_isWhole 41 = .ok (.iinc 5 1, 3) := by decide +kernel
theorem dX13_isWhole_44 : decode cX13_isWhole 44 = .ok (.goto (-41), 3) := by decide +kernel
theorem dX13_isWhole_47 : decode cX13_isWhole 47 = .ok (.iconst 1, 1) := by decide +kernel
theorem dX13_isWhole_48 : decode cX13_isWhole 48 = .ok (.ireturn, 1) := by decide +kernel
theorem dX13_largestBlock_0 : decode cX13_largestBlock 0 = .ok (.aload_n 0, 1) := by decide +kernel
theorem dX13_largestBlock_1 : decode cX13_largestBlock 1 = .ok (.iconst 0, 1) := by decide +kernel
theorem dX13_largestBlock_2 : decode cX13_largestBlock 2 = .ok (.putfield 59, 3) := by decide +kernel
theorem dX13_largestBlock_5 : decode cX13_largestBlock 5 = .ok (.iconst 0, 1) := by decide +kernel
theorem dX13_largestBlock_6 : decode cX13_largestBlock 6 = .ok (.istore_n 1, 1) := by decide +kernel
theorem dX13_largestBlock_7 : decode cX13_largestBlock 7 = .ok (.iconst 0, 1) := by decide +kernel
theorem dX13_largestBlock_8 : decode cX13_largestBlock 8 = .ok (.istore_n 2, 1) := by decide +kernel
theorem dX13_largestBlock_9 : decode cX13_largestBlock 9 = .ok (.iload_n 2, 1) := by decide +kernel
theorem dX13_largestBlock_10 : decode cX13_largestBlock 10 = .ok (.bipush 36, 2) := by decide +kernel
theorem dX13_largestBlock_12 : decode cX13_largestBlock 12 = .ok (.if_icmp .ge 91, 3) := by decide +kernel
theorem dX13_largestBlock_15 : decode cX13_largestBlock 15 = .ok (.iload_n 2, 1) := by decide +kernel
theorem dX13_largestBlock_16 : decode cX13_largestBlock 16 = .ok (.istore_n 3, 1) := by decide +kernel
theorem dX13_largestBlock_17 : decode cX13_largestBlock 17 = .ok (.iload_n 3, 1) := by decide +kernel
theorem dX13_largestBlock_18 : decode cX13_largestBlock 18 = .ok (.bipush 36, 2) := by decide +kernel
theorem dX13_largestBlock_20 : decode cX13_largestBlock 20 = .ok (.if_icmp .ge 77, 3) := by decide +kernel
theorem dX13_largestBlock_23 : decode cX13_largestBlock 23 = .ok (.iload_n 3, 1) := by decide +kernel
theorem dX13_largestBlock_24 : decode cX13_largestBlock 24 = .ok (.bipush 6, 2) := by decide +kernel
theorem dX13_largestBlock_26 : decode cX13_largestBlock 26 = .ok (.idiv, 1) := by decide +kernel
theorem dX13_largestBlock_27 : decode cX13_largestBlock 27 = .ok (.iload_n 2, 1) := by decide +kernel
theorem dX13_largestBlock_28 : decode cX13_largestBlock 28 = .ok (.bipush 6, 2) := by decide +kernel
theorem dX13_largestBlock_30 : decode cX13_largestBlock 30 = .ok (.idiv, 1) := by decide +kernel
theorem dX13_largestBlock_31 : decode cX13_largestBlock 31 = .ok (.isub, 1) := by decide +kernel
theorem dX13_largestBlock_32 : decode cX13_largestBlock 32 = .ok (.iconst 1, 1) := by decide +kernel
theorem dX13_largestBlock_33 : decode cX13_largestBlock 33 = .ok (.iadd, 1) := by decide +kernel
theorem dX13_largestBlock_34 : decode cX13_largestBlock 34 = .ok (.iload_n 3, 1) := by decide +kernel
theorem dX13_largestBlock_35 : decode cX13_largestBlock 35 = .ok (.bipush 6, 2) := by decide +kernel
theorem dX13_largestBlock_37 : decode cX13_largestBlock 37 = .ok (.irem, 1) := by decide +kernel
theorem dX13_largestBlock_38 : decode cX13_largestBlock 38 = .ok (.iload_n 2, 1) := by decide +kernel
theorem dX13_largestBlock_39 : decode cX13_largestBlock 39 = .ok (.bipush 6, 2) := by decide +kernel
theorem dX13_largestBlock_41 : decode cX13_largestBlock 41 = .ok (.irem, 1) := by decide +kernel
theorem dX13_largestBlock_42 : decode cX13_largestBlock 42 = .ok (.isub, 1) := by decide +kernel
theorem dX13_largestBlock_43 : decode cX13_largestBlock 43 = .ok (.iconst 1, 1) := by decide +kernel
theorem dX13_largestBlock_44 : decode cX13_largestBlock 44 = .ok (.iadd, 1) := by decide +kernel
theorem dX13_largestBlock_45 : decode cX13_largestBlock 45 = .ok (.imul, 1) := by decide +kernel
theorem dX13_largestBlock_46 : decode cX13_largestBlock 46 = .ok (.istore 4, 2) := by decide +kernel
theorem dX13_largestBlock_48 : decode cX13_largestBlock 48 = .ok (.iload_n 3, 1) := by decide +kernel
theorem dX13_largestBlock_49 : decode cX13_largestBlock 49 = .ok (.bipush 6, 2) := by decide +kernel
theorem dX13_largestBlock_51 : decode cX13_largestBlock 51 = .ok (.irem, 1) := by decide +kernel
theorem dX13_largestBlock_52 : decode cX13_largestBlock 52 = .ok (.iload_n 2, 1) := by decide +kernel
theorem dX13_largestBlock_53 : decode cX13_largestBlock 53 = .ok (.bipush 6, 2) := by decide +kernel
theorem dX13_largestBlock_55 : decode cX13_largestBlock 55 = .ok (.irem, 1) := by decide +kernel
theorem dX13_largestBlock_56 : decode cX13_largestBlock 56 = .ok (.if_icmp .lt 35, 3) := by decide +kernel
theorem dX13_largestBlock_59 : decode cX13_largestBlock 59 = .ok (.iload 4, 2) := by decide +kernel
theorem dX13_largestBlock_61 : decode cX13_largestBlock 61 = .ok (.iload_n 1, 1) := by decide +kernel
theorem dX13_largestBlock_62 : decode cX13_largestBlock 62 = .ok (.if_icmp .le 29, 3) := by decide +kernel
theorem dX13_largestBlock_65 : decode cX13_largestBlock 65 = .ok (.aload_n 0, 1) := by decide +kernel
theorem dX13_largestBlock_66 : decode cX13_largestBlock 66 = .ok (.iload_n 2, 1) := by decide +kernel
theorem dX13_largestBlock_67 : decode cX13_largestBlock 67 = .ok (.bipush 6, 2) := by decide +kernel
theorem dX13_largestBlock_69 : decode cX13_largestBlock 69 = .ok (.idiv, 1) := by decide +kernel
theorem dX13_largestBlock_70 : decode cX13_largestBlock 70 = .ok (.iload_n 2, 1) := by decide +kernel
theorem dX13_largestBlock_71 : decode cX13_largestBlock 71 = .ok (.bipush 6, 2) := by decide +kernel
theorem dX13_largestBlock_73 : decode cX13_largestBlock 73 = .ok (.irem, 1) := by decide +kernel
theorem dX13_largestBlock_74 : decode cX13_largestBlock 74 = .ok (.iload_n 3, 1) := by decide +kernel
theorem dX13_largestBlock_75 : decode cX13_largestBlock 75 = .ok (.bipush 6, 2) := by decide +kernel
theorem dX13_largestBlock_77 : decode cX13_largestBlock 77 = .ok (.idiv, 1) := by decide +kernel
theorem dX13_largestBlock_78 : decode cX13_largestBlock 78 = .ok (.iload_n 3, 1) := by decide +kernel
theorem dX13_largestBlock_79 : decode cX13_largestBlock 79 = .ok (.bipush 6, 2) := by decide +kernel
theorem dX13_largestBlock_81 : decode cX13_largestBlock 81 = .ok (.irem, 1) := by decide +kernel
theorem dX13_largestBlock_82 : decode cX13_largestBlock 82 = .ok (.invokevirtual 182, 3) := by decide +kernel
theorem dX13_largestBlock_85 : decode cX13_largestBlock 85 = .ok (.ifCond .eq 6, 3) := by decide +kernel
theorem dX13_largestBlock_88 : decode cX13_largestBlock 88 = .ok (.iload 4, 2) := by decide +kernel
theorem dX13_largestBlock_90 : decode cX13_largestBlock 90 = .ok (.istore_n 1, 1) := by decide +kernel
theorem dX13_largestBlock_91 : decode cX13_largestBlock 91 = .ok (.iinc 3 1, 3) := by decide +kernel
theorem dX13_largestBlock_94 : decode cX13_largestBlock 94 = .ok (.goto (-77), 3) := by decide +kernel
theorem dX13_largestBlock_97 : decode cX13_largestBlock 97 = .ok (.iinc 2 1, 3) := by decide +kernel
theorem dX13_largestBlock_100 : decode cX13_largestBlock 100 = .ok (.goto (-91), 3) := by decide +kernel
theorem dX13_largestBlock_103 : decode cX13_largestBlock 103 = .ok (.iload_n 1, 1) := by decide +kernel
theorem dX13_largestBlock_104 : decode cX13_largestBlock 104 = .ok (.ireturn, 1) := by decide +kernel
theorem dX13_blockByHeights_0 : decode cX13_blockByHeights 0 = .ok (.aload_n 0, 1) := by decide +kernel
theorem dX13_blockByHeights_1 : decode cX13_blockByHeights 1 = .ok (.invokevirtual 186, 3) := by decide +kernel
theorem dX13_blockByHeights_4 : decode cX13_blockByHeights 4 = .ok (.ireturn, 1) := by decide +kernel
theorem dX13_prices_0 : decode cX13_prices 0 = .ok (.iload_n 1, 1) := by decide +kernel
theorem dX13_prices_1 : decode cX13_prices 1 = .ok (.iconst 1, 1) := by decide +kernel
theorem dX13_prices_2 : decode cX13_prices 2 = .ok (.bipush 10, 2) := by decide +kernel
theorem dX13_prices_4 : decode cX13_prices 4 = .ok (.invokestatic 69, 3) := by decide +kernel
theorem dX13_prices_7 : decode cX13_prices 7 = .ok (.ifCond .eq 13, 3) := by decide +kernel
theorem dX13_prices_10 : decode cX13_prices 10 = .ok (.iload_n 2, 1) := by decide +kernel
theorem dX13_prices_11 : decode cX13_prices 11 = .ok (.iconst 0, 1) := by decide +kernel
theorem dX13_prices_12 : decode cX13_prices 12 = .ok (.bipush 99, 2) := by decide +kernel
theorem dX13_prices_14 : decode cX13_prices 14 = .ok (.invokestatic 69, 3) := by decide +kernel
theorem dX13_prices_17 : decode cX13_prices 17 = .ok (.ifCond .ne 9, 3) := by decide +kernel
theorem dX13_prices_20 : decode cX13_prices 20 = .ok (.aload_n 0, 1) := by decide +kernel
theorem dX13_prices_21 : decode cX13_prices 21 = .ok (.iconst 1, 1) := by decide +kernel
theorem dX13_prices_22 : decode cX13_prices 22 = .ok (.invokevirtual 81, 3) := by decide +kernel
theorem dX13_prices_25 : decode cX13_prices 25 = .ok (.ireturn, 1) := by decide +kernel
theorem dX13_prices_26 : decode cX13_prices 26 = .ok (.aload_n 0, 1) := by decide +kernel
theorem dX13_prices_27 : decode cX13_prices 27 = .ok (.getfield 16, 3) := by decide +kernel
theorem dX13_prices_30 : decode cX13_prices 30 = .ok (.bipush 52, 2) := by decide +kernel
theorem dX13_prices_32 : decode cX13_prices 32 = .ok (.iload_n 1, 1) := by decide +kernel
theorem dX13_prices_33 : decode cX13_prices 33 = .ok (.iadd, 1) := by decide +kernel
theorem dX13_prices_34 : decode cX13_prices 34 = .ok (.iconst 1, 1) := by decide +kernel
theorem dX13_prices_35 : decode cX13_prices 35 = .ok (.isub, 1) := by decide +kernel
theorem dX13_prices_36 : decode cX13_prices 36 = .ok (.iaload, 1) := by decide +kernel
theorem dX13_prices_37 : decode cX13_prices 37 = .ok (.istore_n 3, 1) := by decide +kernel
theorem dX13_prices_38 : decode cX13_prices 38 = .ok (.aload_n 0, 1) := by decide +kernel
theorem dX13_prices_39 : decode cX13_prices 39 = .ok (.getfield 16, 3) := by decide +kernel
theorem dX13_prices_42 : decode cX13_prices 42 = .ok (.bipush 52, 2) := by decide +kernel
theorem dX13_prices_44 : decode cX13_prices 44 = .ok (.iload_n 1, 1) := by decide +kernel
theorem dX13_prices_45 : decode cX13_prices 45 = .ok (.iadd, 1) := by decide +kernel
theorem dX13_prices_46 : decode cX13_prices 46 = .ok (.iconst 1, 1) := by decide +kernel
theorem dX13_prices_47 : decode cX13_prices 47 = .ok (.isub, 1) := by decide +kernel
theorem dX13_prices_48 : decode cX13_prices 48 = .ok (.iload_n 2, 1) := by decide +kernel
theorem dX13_prices_49 : decode cX13_prices 49 = .ok (.iastore, 1) := by decide +kernel
theorem dX13_prices_50 : decode cX13_prices 50 = .ok (.iload_n 3, 1) := by decide +kernel
theorem dX13_prices_51 : decode cX13_prices 51 = .ok (.ireturn, 1) := by decide +kernel
theorem dX13_setPrice_0 : decode cX13_setPrice 0 = .ok (.aload_n 0, 1) := by decide +kernel
theorem dX13_setPrice_1 : decode cX13_setPrice 1 = .ok (.invokevirtual 91, 3) := by decide +kernel
theorem dX13_setPrice_4 : decode cX13_setPrice 4 = .ok (.aload_n 0, 1) := by decide +kernel
theorem dX13_setPrice_5 : decode cX13_setPrice 5 = .ok (.aload_n 0, 1) := by decide +kernel
theorem dX13_setPrice_6 : decode cX13_setPrice 6 = .ok (.iload_n 1, 1) := by decide +kernel
theorem dX13_setPrice_7 : decode cX13_setPrice 7 = .ok (.iload_n 2, 1) := by decide +kernel
theorem dX13_setPrice_8 : decode cX13_setPrice 8 = .ok (.invokevirtual 189, 3) := by decide +kernel
theorem dX13_setPrice_11 : decode cX13_setPrice 11 = .ok (.invokevirtual 98, 3) := by decide +kernel
theorem dX13_setPrice_14 : decode cX13_setPrice 14 = .ok (.ireturn, 1) := by decide +kernel
theorem dX13_priceOf_0 : decode cX13_priceOf 0 = .ok (.aload_n 0, 1) := by decide +kernel
theorem dX13_priceOf_1 : decode cX13_priceOf 1 = .ok (.iload_n 1, 1) := by decide +kernel
theorem dX13_priceOf_2 : decode cX13_priceOf 2 = .ok (.iconst 1, 1) := by decide +kernel
theorem dX13_priceOf_3 : decode cX13_priceOf 3 = .ok (.bipush 10, 2) := by decide +kernel
theorem dX13_priceOf_5 : decode cX13_priceOf 5 = .ok (.invokestatic 69, 3) := by decide +kernel
theorem dX13_priceOf_8 : decode cX13_priceOf 8 = .ok (.ifCond .eq 7, 3) := by decide +kernel
theorem dX13_priceOf_11 : decode cX13_priceOf 11 = .ok (.iconst 0, 1) := by decide +kernel
theorem dX13_priceOf_12 : decode cX13_priceOf 12 = .ok (.goto 4, 3) := by decide +kernel
theorem dX13_priceOf_15 : decode cX13_priceOf 15 = .ok (.iconst 1, 1) := by decide +kernel
theorem dX13_priceOf_16 : decode cX13_priceOf 16 = .ok (.putfield 59, 3) := by decide +kernel
theorem dX13_priceOf_19 : decode cX13_priceOf 19 = .ok (.aload_n 0, 1) := by decide +kernel
theorem dX13_priceOf_20 : decode cX13_priceOf 20 = .ok (.getfield 59, 3) := by decide +kernel
theorem dX13_priceOf_23 : decode cX13_priceOf 23 = .ok (.ifCond .ne 17, 3) := by decide +kernel
theorem dX13_priceOf_26 : decode cX13_priceOf 26 = .ok (.aload_n 0, 1) := by decide +kernel
theorem dX13_priceOf_27 : decode cX13_priceOf 27 = .ok (.getfield 16, 3) := by decide +kernel
theorem dX13_priceOf_30 : decode cX13_priceOf 30 = .ok (.bipush 52, 2) := by decide +kernel
theorem dX13_priceOf_32 : decode cX13_priceOf 32 = .ok (.iload_n 1, 1) := by decide +kernel
theorem dX13_priceOf_33 : decode cX13_priceOf 33 = .ok (.iadd, 1) := by decide +kernel
theorem dX13_priceOf_34 : decode cX13_priceOf 34 = .ok (.iconst 1, 1) := by decide +kernel
theorem dX13_priceOf_35 : decode cX13_priceOf 35 = .ok (.isub, 1) := by decide +kernel
theorem dX13_priceOf_36 : decode cX13_priceOf 36 = .ok (.iaload, 1) := by decide +kernel
theorem dX13_priceOf_37 : decode cX13_priceOf 37 = .ok (.goto 4, 3) := by decide +kernel
theorem dX13_priceOf_40 : decode cX13_priceOf 40 = .ok (.iconst 0, 1) := by decide +kernel
theorem dX13_priceOf_41 : decode cX13_priceOf 41 = .ok (.ireturn, 1) := by decide +kernel
theorem dX13_cuts_0 : decode cX13_cuts 0 = .ok (.aload_n 0, 1) := by decide +kernel
theorem dX13_cuts_1 : decode cX13_cuts 1 = .ok (.getfield 38, 3) := by decide +kernel
theorem dX13_cuts_4 : decode cX13_cuts 4 = .ok (.iconst 0, 1) := by decide +kernel
theorem dX13_cuts_5 : decode cX13_cuts 5 = .ok (.iconst 0, 1) := by decide +kernel
theorem dX13_cuts_6 : decode cX13_cuts 6 = .ok (.iastore, 1) := by decide +kernel
theorem dX13_cuts_7 : decode cX13_cuts 7 = .ok (.aload_n 0, 1) := by decide +kernel
theorem dX13_cuts_8 : decode cX13_cuts 8 = .ok (.getfield 41, 3) := by decide +kernel
theorem dX13_cuts_11 : decode cX13_cuts 11 = .ok (.iconst 0, 1) := by decide +kernel
theorem dX13_cuts_12 : decode cX13_cuts 12 = .ok (.iconst 0, 1) := by decide +kernel
theorem dX13_cuts_13 : decode cX13_cuts 13 = .ok (.iastore, 1) := by decide +kernel
theorem dX13_cuts_14 : decode cX13_cuts 14 = .ok (.iconst 1, 1) := by decide +kernel
theorem dX13_cuts_15 : decode cX13_cuts 15 = .ok (.istore_n 1, 1) := by decide +kernel
theorem dX13_cuts_16 : decode cX13_cuts 16 = .ok (.iload_n 1, 1) := by decide +kernel
theorem dX13_cuts_17 : decode cX13_cuts 17 = .ok (.bipush 30, 2) := by decide +kernel
theorem dX13_cuts_19 : decode cX13_cuts 19 = .ok (.if_icmp .gt 117, 3) := by decide +kernel
theorem dX13_cuts_22 : decode cX13_cuts 22 = .ok (.aload_n 0, 1) := by decide +kernel
theorem dX13_cuts_23 : decode cX13_cuts 23 = .ok (.getfield 38, 3) := by decide +kernel
theorem dX13_cuts_26 : decode cX13_cuts 26 = .ok (.iload_n 1, 1) := by decide +kernel
theorem dX13_cuts_27 : decode cX13_cuts 27 = .ok (.iconst (-1), 1) := by decide +kernel
theorem dX13_cuts_28 : decode cX13_cuts 28 = .ok (.iastore, 1) := by decide +kernel
theorem dX13_cuts_29 : decode cX13_cuts 29 = .ok (.iconst 1, 1) := by decide +kernel
theorem dX13_cuts_30 : decode cX13_cuts 30 = .ok (.istore_n 2, 1) := by decide +kernel
theorem dX13_cuts_31 : decode cX13_cuts 31 = .ok (.iload_n 2, 1) := by decide +kernel
theorem dX13_cuts_32 : decode cX13_cuts 32 = .ok (.bipush 10, 2) := by decide +kernel
theorem dX13_cuts_34 : decode cX13_cuts 34 = .ok (.if_icmp .gt 96, 3) := by decide +kernel
theorem dX13_cuts_37 : decode cX13_cuts 37 = .ok (.iload_n 2, 1) := by decide +kernel
theorem dX13_cuts_38 : decode cX13_cuts 38 = .ok (.iload_n 1, 1) := by decide +kernel
theorem dX13_cuts_39 : decode cX13_cuts 39 = .ok (.if_icmp .gt 91, 3) := by decide +kernel
theorem dX13_cuts_42 : decode cX13_cuts 42 = .ok (.aload_n 0, 1) := by decide +kernel
theorem dX13_cuts_43 : decode cX13_cuts 43 = .ok (.getfield 16, 3) := by decide +kernel
theorem dX13_cuts_46 : decode cX13_cuts 46 = .ok (.bipush 52, 2) := by decide +kernel
theorem dX13_cuts_48 : decode cX13_cuts 48 = .ok (.iload_n 2, 1) := by decide +kernel
theorem dX13_cuts_49 : decode cX13_cuts 49 = .ok (.iadd, 1) := by decide +kernel
theorem dX13_cuts_50 : decode cX13_cuts 50 = .ok (.iconst 1, 1) := by decide +kernel
theorem dX13_cuts_51 : decode cX13_cuts 51 = .ok (.isub, 1) := by decide +kernel
theorem dX13_cuts_52 : decode cX13_cuts 52 = .ok (.iaload, 1) := by decide +kernel
theorem dX13_cuts_53 : decode cX13_cuts 53 = .ok (.aload_n 0, 1) := by decide +kernel
theorem dX13_cuts_54 : decode cX13_cuts 54 = .ok (.getfield 38, 3) := by decide +kernel
theorem dX13_cuts_57 : decode cX13_cuts 57 = .ok (.iload_n 1, 1) := by decide +kernel
theorem dX13_cuts_58 : decode cX13_cuts 58 = .ok (.iload_n 2, 1) := by decide +kernel
theorem dX13_cuts_59 : decode cX13_cuts 59 = .ok (.isub, 1) := by decide +kernel
theorem dX13_cuts_60 : decode cX13_cuts 60 = .ok (.iaload, 1) := by decide +kernel
theorem dX13_cuts_61 : decode cX13_cuts 61 = .ok (.iadd, 1) := by decide +kernel
theorem dX13_cuts_62 : decode cX13_cuts 62 = .ok (.istore_n 3, 1) := by decide +kernel
theorem dX13_cuts_63 : decode cX13_cuts 63 = .ok (.iconst 1, 1) := by decide +kernel
theorem dX13_cuts_64 : decode cX13_cuts 64 = .ok (.aload_n 0, 1) := by decide +kernel
theorem dX13_cuts_65 : decode cX13_cuts 65 = .ok (.getfield 41, 3) := by decide +kernel
theorem dX13_cuts_68 : decode cX13_cuts 68 = .ok (.iload_n 1, 1) := by decide +kernel
theorem dX13_cuts_69 : decode cX13_cuts 69 = .ok (.iload_n 2, 1) := by decide +kernel
theorem dX13_cuts_70 : decode cX13_cuts 70 = .ok (.isub, 1) := by decide +kernel
theorem dX13_cuts_71 : decode cX13_cuts 71 = .ok (.iaload, 1) := by decide +kernel
theorem dX13_cuts_72 : decode cX13_cuts 72 = .ok (.iadd, 1) := by decide +kernel
theorem dX13_cuts_73 : decode cX13_cuts 73 = .ok (.istore 4, 2) := by decide +kernel
theorem dX13_cuts_75 : decode cX13_cuts 75 = .ok (.iload_n 3, 1) := by decide +kernel
theorem dX13_cuts_76 : decode cX13_cuts 76 = .ok (.aload_n 0, 1) := by decide +kernel
theorem dX13_cuts_77 : decode cX13_cuts 77 = .ok (.getfield 38, 3) := by decide +kernel
theorem dX13_cuts_80 : decode cX13_cuts 80 = .ok (.iload_n 1, 1) := by decide +kernel
theorem dX13_cuts_81 : decode cX13_cuts 81 = .ok (.iaload, 1) := by decide +kernel
theorem dX13_cuts_82 : decode cX13_cuts 82 = .ok (.if_icmp .lt 42, 3) := by decide +kernel
theorem dX13_cuts_85 : decode cX13_cuts 85 = .ok (.iload_n 3, 1) := by decide +kernel
theorem dX13_cuts_86 : decode cX13_cuts 86 = .ok (.aload_n 0, 1) := by decide +kernel
theorem dX13_cuts_87 : decode cX13_cuts 87 = .ok (.getfield 38, 3) := by decide +kernel
theorem dX13_cuts_90 : decode cX13_cuts 90 = .ok (.iload_n 1, 1) := by decide +kernel
theorem dX13_cuts_91 : decode cX13_cuts 91 = .ok (.iaload, 1) := by decide +kernel
theorem dX13_cuts_92 : decode cX13_cuts 92 = .ok (.if_icmp .ne 17, 3) := by decide +kernel
theorem dX13_cuts_95 : decode cX13_cuts 95 = .ok (.iload 4, 2) := by decide +kernel
theorem dX13_cuts_97 : decode cX13_cuts 97 = .ok (.aload_n 0, 1) := by decide +kernel
theorem dX13_cuts_98 : decode cX13_cuts 98 = .ok (.getfield 41, 3) := by decide +kernel
theorem dX13_cuts_101 : decode cX13_cuts 101 = .ok (.iload_n 1, 1) := by decide +kernel
theorem dX13_cuts_102 : decode cX13_cuts 102 = .ok (.iaload, 1) := by decide +kernel
theorem dX13_cuts_103 : decode cX13_cuts 103 = .ok (.if_icmp .lt 6, 3) := by decide +kernel
theorem dX13_cuts_106 : decode cX13_cuts 106 = .ok (.goto 18, 3) := by decide +kernel
theorem dX13_cuts_109 : decode cX13_cuts 109 = .ok (.aload_n 0, 1) := by decide +kernel
theorem dX13_cuts_110 : decode cX13_cuts 110 = .ok (.getfield 38, 3) := by decide +kernel
theorem dX13_cuts_113 : decode cX13_cuts 113 = .ok (.iload_n 1, 1) := by decide +kernel
theorem dX13_cuts_114 : decode cX13_cuts 114 = .ok (.iload_n 3, 1) := by decide +kernel
theorem dX13_cuts_115 : decode cX13_cuts 115 = .ok (.iastore, 1) := by decide +kernel
theorem dX13_cuts_116 : decode cX13_cuts 116 = .ok (.aload_n 0, 1) := by decide +kernel
theorem dX13_cuts_117 : decode cX13_cuts 117 = .ok (.getfield 41, 3) := by decide +kernel
theorem dX13_cuts_120 : decode cX13_cuts 120 = .ok (.iload_n 1, 1) := by decide +kernel
theorem dX13_cuts_121 : decode cX13_cuts 121 = .ok (.iload 4, 2) := by decide +kernel
theorem dX13_cuts_123 : decode cX13_cuts 123 = .ok (.iastore, 1) := by decide +kernel
theorem dX13_cuts_124 : decode cX13_cuts 124 = .ok (.iinc 2 1, 3) := by decide +kernel
theorem dX13_cuts_127 : decode cX13_cuts 127 = .ok (.goto (-96), 3) := by decide +kernel
theorem dX13_cuts_130 : decode cX13_cuts 130 = .ok (.iinc 1 1, 3) := by decide +kernel
theorem dX13_cuts_133 : decode cX13_cuts 133 = .ok (.goto (-117), 3) := by decide +kernel
theorem dX13_cuts_136 : decode cX13_cuts 136 = .ok (.return_, 1) := by decide +kernel
theorem dX13_isBar_0 : decode cX13_isBar 0 = .ok (.aload_n 0, 1) := by decide +kernel
theorem dX13_isBar_1 : decode cX13_isBar 1 = .ok (.iload_n 1, 1) := by decide +kernel
theorem dX13_isBar_2 : decode cX13_isBar 2 = .ok (.iconst 1, 1) := by decide +kernel
theorem dX13_isBar_3 : decode cX13_isBar 3 = .ok (.bipush 30, 2) := by decide +kernel
theorem dX13_isBar_5 : decode cX13_isBar 5 = .ok (.invokestatic 69, 3) := by decide +kernel
theorem dX13_isBar_8 : decode cX13_isBar 8 = .ok (.ifCond .eq 7, 3) := by decide +kernel
theorem dX13_isBar_11 : decode cX13_isBar 11 = .ok (.iconst 0, 1) := by decide +kernel
theorem dX13_isBar_12 : decode cX13_isBar 12 = .ok (.goto 4, 3) := by decide +kernel
theorem dX13_isBar_15 : decode cX13_isBar 15 = .ok (.iconst 1, 1) := by decide +kernel
theorem dX13_isBar_16 : decode cX13_isBar 16 = .ok (.putfield 59, 3) := by decide +kernel
theorem dX13_isBar_19 : decode cX13_isBar 19 = .ok (.aload_n 0, 1) := by decide +kernel
theorem dX13_isBar_20 : decode cX13_isBar 20 = .ok (.invokevirtual 192, 3) := by decide +kernel
theorem dX13_isBar_23 : decode cX13_isBar 23 = .ok (.aload_n 0, 1) := by decide +kernel
theorem dX13_isBar_24 : decode cX13_isBar 24 = .ok (.getfield 59, 3) := by decide +kernel
theorem dX13_isBar_27 : decode cX13_isBar 27 = .ok (.ifCond .ne 7, 3) := by decide +kernel
theorem dX13_isBar_30 : decode cX13_isBar 30 = .ok (.iconst 1, 1) := by decide +kernel
theorem dX13_isBar_31 : decode cX13_isBar 31 = .ok (.goto 4, 3) := by decide +kernel
theorem dX13_isBar_34 : decode cX13_isBar 34 = .ok (.iconst 0, 1) := by decide +kernel
theorem dX13_isBar_35 : decode cX13_isBar 35 = .ok (.ireturn, 1) := by decide +kernel
theorem dX13_bestCut_0 : decode cX13_bestCut 0 = .ok (.aload_n 0, 1) := by decide +kernel
theorem dX13_bestCut_1 : decode cX13_bestCut 1 = .ok (.iload_n 1, 1) := by decide +kernel
theorem dX13_bestCut_2 : decode cX13_bestCut 2 = .ok (.invokevirtual 195, 3) := by decide +kernel
theorem dX13_bestCut_5 : decode cX13_bestCut 5 = .ok (.ifCond .eq 12, 3) := by decide +kernel
theorem dX13_bestCut_8 : decode cX13_bestCut 8 = .ok (.aload_n 0, 1) := by decide +kernel
theorem dX13_bestCut_9 : decode cX13_bestCut 9 = .ok (.getfield 38, 3) := by decide +kernel
theorem dX13_bestCut_12 : decode cX13_bestCut 12 = .ok (.iload_n 1, 1) := by decide +kernel
theorem dX13_bestCut_13 : decode cX13_bestCut 13 = .ok (.iaload, 1) := by decide +kernel
theorem dX13_bestCut_14 : decode cX13_bestCut 14 = .ok (.goto 4, 3) := by decide +kernel
theorem dX13_bestCut_17 : decode cX13_bestCut 17 = .ok (.iconst 0, 1) := by decide +kernel
theorem dX13_bestCut_18 : decode cX13_bestCut 18 = .ok (.ireturn, 1) := by decide +kernel
theorem dX13_bestCutByTrial_0 : decode cX13_bestCutByTrial 0 = .ok (.aload_n 0, 1) := by decide +kernel
theorem dX13_bestCutByTrial_1 : decode cX13_bestCutByTrial 1 = .ok (.iload_n 1, 1) := by decide +kernel
theorem dX13_bestCutByTrial_2 : decode cX13_bestCutByTrial 2 = .ok (.invokevirtual 198, 3) := by decide +kernel
theorem dX13_bestCutByTrial_5 : decode cX13_bestCutByTrial 5 = .ok (.ireturn, 1) := by decide +kernel
theorem dX13_fewestPieces_0 : decode cX13_fewestPieces 0 = .ok (.aload_n 0, 1) := by decide +kernel
theorem dX13_fewestPieces_1 : decode cX13_fewestPieces 1 = .ok (.iload_n 1, 1) := by decide +kernel
theorem dX13_fewestPieces_2 : decode cX13_fewestPieces 2 = .ok (.invokevirtual 195, 3) := by decide +kernel
theorem dX13_fewestPieces_5 : decode cX13_fewestPieces 5 = .ok (.ifCond .eq 12, 3) := by decide +kernel
theorem dX13_fewestPieces_8 : decode cX13_fewestPieces 8 = .ok (.aload_n 0, 1) := by decide +kernel
theorem dX13_fewestPieces_9 : decode cX13_fewestPieces 9 = .ok (.getfield 41, 3) := by decide +kernel
theorem dX13_fewestPieces_12 : decode cX13_fewestPieces 12 = .ok (.iload_n 1, 1) := by decide +kernel
theorem dX13_fewestPieces_13 : decode cX13_fewestPieces 13 = .ok (.iaload, 1) := by decide +kernel
theorem dX13_fewestPieces_14 : decode cX13_fewestPieces 14 = .ok (.goto 4, 3) := by decide +kernel
theorem dX13_fewestPieces_17 : decode cX13_fewestPieces 17 = .ok (.iconst 0, 1) := by decide +kernel
theorem dX13_fewestPieces_18 : decode cX13_fewestPieces 18 = .ok (.ireturn, 1) := by decide +kernel
theorem dX13_sells_0 : decode cX13_sells 0 = .ok (.iload_n 1, 1) := by decide +kernel
theorem dX13_sells_1 : decode cX13_sells 1 = .ok (.iconst 1, 1) := by decide +kernel
theorem dX13_sells_2 : decode cX13_sells 2 = .ok (.bipush 30, 2) := by decide +kernel
theorem dX13_sells_4 : decode cX13_sells 4 = .ok (.invokestatic 69, 3) := by decide +kernel
theorem dX13_sells_7 : decode cX13_sells 7 = .ok (.ifCond .ne 9, 3) := by decide +kernel
theorem dX13_sells_10 : decode cX13_sells 10 = .ok (.aload_n 0, 1) := by decide +kernel
theorem dX13_sells_11 : decode cX13_sells 11 = .ok (.iconst 1, 1) := by decide +kernel
theorem dX13_sells_12 : decode cX13_sells 12 = .ok (.invokevirtual 81, 3) := by decide +kernel
theorem dX13_sells_15 : decode cX13_sells 15 = .ok (.ireturn, 1) := by decide +kernel
theorem dX13_sells_16 : decode cX13_sells 16 = .ok (.aload_n 0, 1) := by decide +kernel
theorem dX13_sells_17 : decode cX13_sells 17 = .ok (.getfield 16, 3) := by decide +kernel
theorem dX13_sells_20 : decode cX13_sells 20 = .ok (.iconst 1, 1) := by decide +kernel
theorem dX13_sells_21 : decode cX13_sells 21 = .ok (.iaload, 1) := by decide +kernel
theorem dX13_sells_22 : decode cX13_sells 22 = .ok (.aload_n 0, 1) := by decide +kernel
theorem dX13_sells_23 : decode cX13_sells 23 = .ok (.getfield 16, 3) := by decide +kernel
theorem dX13_sells_26 : decode cX13_sells 26 = .ok (.iconst 2, 1) := by decide +kernel
theorem dX13_sells_27 : decode cX13_sells 27 = .ok (.iaload, 1) := by decide +kernel
theorem dX13_sells_28 : decode cX13_sells 28 = .ok (.isub, 1) := by decide +kernel
theorem dX13_sells_29 : decode cX13_sells 29 = .ok (.iload_n 1, 1) := by decide +kernel
theorem dX13_sells_30 : decode cX13_sells 30 = .ok (.if_icmp .ge 9, 3) := by decide +kernel
theorem dX13_sells_33 : decode cX13_sells 33 = .ok (.aload_n 0, 1) := by decide +kernel
theorem dX13_sells_34 : decode cX13_sells 34 = .ok (.iconst 2, 1) := by decide +kernel
theorem dX13_sells_35 : decode cX13_sells 35 = .ok (.invokevirtual 81, 3) := by decide +kernel
theorem dX13_sells_38 : decode cX13_sells 38 = .ok (.ireturn, 1) := by decide +kernel
theorem dX13_sells_39 : decode cX13_sells 39 = .ok (.aload_n 0, 1) := by decide +kernel
theorem dX13_sells_40 : decode cX13_sells 40 = .ok (.invokevirtual 192, 3) := by decide +kernel
theorem dX13_sells_43 : decode cX13_sells 43 = .ok (.aload_n 0, 1) := by decide +kernel
theorem dX13_sells_44 : decode cX13_sells 44 = .ok (.getfield 16, 3) := by decide +kernel
theorem dX13_sells_47 : decode cX13_sells 47 = .ok (.iconst 2, 1) := by decide +kernel
theorem dX13_sells_48 : decode cX13_sells 48 = .ok (.dup2, 1) := by decide +kernel
theorem dX13_sells_49 : decode cX13_sells 49 = .ok (.iaload, 1) := by decide +kernel
theorem dX13_sells_50 : decode cX13_sells 50 = .ok (.iload_n 1, 1) := by decide +kernel
theorem dX13_sells_51 : decode cX13_sells 51 = .ok (.iadd, 1) := by decide +kernel
theorem dX13_sells_52 : decode cX13_sells 52 = .ok (.iastore, 1) := by decide +kernel
theorem dX13_sells_53 : decode cX13_sells 53 = .ok (.aload_n 0, 1) := by decide +kernel
theorem dX13_sells_54 : decode cX13_sells 54 = .ok (.getfield 16, 3) := by decide +kernel
theorem dX13_sells_57 : decode cX13_sells 57 = .ok (.iconst 0, 1) := by decide +kernel
theorem dX13_sells_58 : decode cX13_sells 58 = .ok (.dup2, 1) := by decide +kernel
theorem dX13_sells_59 : decode cX13_sells 59 = .ok (.iaload, 1) := by decide +kernel
theorem dX13_sells_60 : decode cX13_sells 60 = .ok (.aload_n 0, 1) := by decide +kernel
theorem dX13_sells_61 : decode cX13_sells 61 = .ok (.getfield 38, 3) := by decide +kernel
theorem dX13_sells_64 : decode cX13_sells 64 = .ok (.iload_n 1, 1) := by decide +kernel
theorem dX13_sells_65 : decode cX13_sells 65 = .ok (.iaload, 1) := by decide +kernel
theorem dX13_sells_66 : decode cX13_sells 66 = .ok (.iadd, 1) := by decide +kernel
theorem dX13_sells_67 : decode cX13_sells 67 = .ok (.iastore, 1) := by decide +kernel
theorem dX13_sells_68 : decode cX13_sells 68 = .ok (.aload_n 0, 1) := by decide +kernel
theorem dX13_sells_69 : decode cX13_sells 69 = .ok (.getfield 38, 3) := by decide +kernel
theorem dX13_sells_72 : decode cX13_sells 72 = .ok (.iload_n 1, 1) := by decide +kernel
theorem dX13_sells_73 : decode cX13_sells 73 = .ok (.iaload, 1) := by decide +kernel
theorem dX13_sells_74 : decode cX13_sells 74 = .ok (.ireturn, 1) := by decide +kernel
theorem dX13_sell_0 : decode cX13_sell 0 = .ok (.aload_n 0, 1) := by decide +kernel
theorem dX13_sell_1 : decode cX13_sell 1 = .ok (.invokevirtual 91, 3) := by decide +kernel
theorem dX13_sell_4 : decode cX13_sell 4 = .ok (.aload_n 0, 1) := by decide +kernel
theorem dX13_sell_5 : decode cX13_sell 5 = .ok (.aload_n 0, 1) := by decide +kernel
theorem dX13_sell_6 : decode cX13_sell 6 = .ok (.iload_n 1, 1) := by decide +kernel
theorem dX13_sell_7 : decode cX13_sell 7 = .ok (.invokevirtual 201, 3) := by decide +kernel
theorem dX13_sell_10 : decode cX13_sell 10 = .ok (.invokevirtual 98, 3) := by decide +kernel
theorem dX13_sell_13 : decode cX13_sell 13 = .ok (.ireturn, 1) := by decide +kernel
theorem dX13_stone_0 : decode cX13_stone 0 = .ok (.aload_n 0, 1) := by decide +kernel
theorem dX13_stone_1 : decode cX13_stone 1 = .ok (.iconst 0, 1) := by decide +kernel
theorem dX13_stone_2 : decode cX13_stone 2 = .ok (.putfield 59, 3) := by decide +kernel
theorem dX13_stone_5 : decode cX13_stone 5 = .ok (.aload_n 0, 1) := by decide +kernel
theorem dX13_stone_6 : decode cX13_stone 6 = .ok (.getfield 16, 3) := by decide +kernel
theorem dX13_stone_9 : decode cX13_stone 9 = .ok (.iconst 1, 1) := by decide +kernel
theorem dX13_stone_10 : decode cX13_stone 10 = .ok (.iaload, 1) := by decide +kernel
theorem dX13_stone_11 : decode cX13_stone 11 = .ok (.aload_n 0, 1) := by decide +kernel
theorem dX13_stone_12 : decode cX13_stone 12 = .ok (.getfield 16, 3) := by decide +kernel
theorem dX13_stone_15 : decode cX13_stone 15 = .ok (.iconst 2, 1) := by decide +kernel
theorem dX13_stone_16 : decode cX13_stone 16 = .ok (.iaload, 1) := by decide +kernel
theorem dX13_stone_17 : decode cX13_stone 17 = .ok (.isub, 1) := by decide +kernel
theorem dX13_stone_18 : decode cX13_stone 18 = .ok (.ireturn, 1) := by decide +kernel
theorem dX13_quarried_0 : decode cX13_quarried 0 = .ok (.aload_n 0, 1) := by decide +kernel
theorem dX13_quarried_1 : decode cX13_quarried 1 = .ok (.iconst 1, 1) := by decide +kernel
theorem dX13_quarried_2 : decode cX13_quarried 2 = .ok (.invokevirtual 152, 3) := by decide +kernel
theorem dX13_quarried_5 : decode cX13_quarried 5 = .ok (.ireturn, 1) := by decide +kernel
theorem dX13_sold_0 : decode cX13_sold 0 = .ok (.aload_n 0, 1) := by decide +kernel
theorem dX13_sold_1 : decode cX13_sold 1 = .ok (.iconst 2, 1) := by decide +kernel
theorem dX13_sold_2 : decode cX13_sold 2 = .ok (.invokevirtual 152, 3) := by decide +kernel
theorem dX13_sold_5 : decode cX13_sold 5 = .ok (.ireturn, 1) := by decide +kernel
theorem dX13_coins_0 : decode cX13_coins 0 = .ok (.aload_n 0, 1) := by decide +kernel
theorem dX13_coins_1 : decode cX13_coins 1 = .ok (.iconst 0, 1) := by decide +kernel
theorem dX13_coins_2 : decode cX13_coins 2 = .ok (.invokevirtual 152, 3) := by decide +kernel
theorem dX13_coins_5 : decode cX13_coins 5 = .ok (.i2l, 1) := by decide +kernel
theorem dX13_coins_6 : decode cX13_coins 6 = .ok (.lreturn, 1) := by decide +kernel
theorem dX13_meanHardness_0 : decode cX13_meanHardness 0 = .ok (.bipush 36, 2) := by decide +kernel
theorem dX13_meanHardness_2 : decode cX13_meanHardness 2 = .ok (.aload_n 0, 1) := by decide +kernel
theorem dX13_meanHardness_3 : decode cX13_meanHardness 3 = .ok (.invokevirtual 114, 3) := by decide +kernel
theorem dX13_meanHardness_6 : decode cX13_meanHardness 6 = .ok (.isub, 1) := by decide +kernel
theorem dX13_meanHardness_7 : decode cX13_meanHardness 7 = .ok (.istore_n 1, 1) := by decide +kernel
theorem dX13_meanHardness_8 : decode cX13_meanHardness 8 = .ok (.iconst 0, 1) := by decide +kernel
theorem dX13_meanHardness_9 : decode cX13_meanHardness 9 = .ok (.istore_n 2, 1) := by decide +kernel
theorem dX13_meanHardness_10 : decode cX13_meanHardness 10 = .ok (.aload_n 0, 1) := by decide +kernel
theorem dX13_meanHardness_11 : decode cX13_meanHardness 11 = .ok (.iload_n 1, 1) := by decide +kernel
theorem dX13_meanHardness_12 : decode cX13_meanHardness 12 = .ok (.ifCond .ne 7, 3) := by decide +kernel
theorem dX13_meanHardness_15 : decode cX13_meanHardness 15 = .ok (.iconst 1, 1) := by decide +kernel
theorem dX13_meanHardness_16 : decode cX13_meanHardness 16 = .ok (.goto 4, 3) := by decide +kernel
theorem dX13_meanHardness_19 : decode cX13_meanHardness 19 = .ok (.iconst 0, 1) := by decide +kernel
theorem dX13_meanHardness_20 : decode cX13_meanHardness 20 = .ok (.putfield 59, 3) := by decide +kernel
theorem dX13_meanHardness_23 : decode cX13_meanHardness 23 = .ok (.iconst 0, 1) := by decide +kernel
theorem dX13_meanHardness_24 : decode cX13_meanHardness 24 = .ok (.istore_n 3, 1) := by decide +kernel
theorem dX13_meanHardness_25 : decode cX13_meanHardness 25 = .ok (.iload_n 3, 1) := by decide +kernel
theorem dX13_meanHardness_26 : decode cX13_meanHardness 26 = .ok (.bipush 36, 2) := by decide +kernel
theorem dX13_meanHardness_28 : decode cX13_meanHardness 28 = .ok (.if_icmp .ge 17, 3) := by decide +kernel
theorem dX13_meanHardness_31 : decode cX13_meanHardness 31 = .ok (.iload_n 2, 1) := by decide +kernel
theorem dX13_meanHardness_32 : decode cX13_meanHardness 32 = .ok (.aload_n 0, 1) := by decide +kernel
theorem dX13_meanHardness_33 : decode cX13_meanHardness 33 = .ok (.iload_n 3, 1) := by decide +kernel
theorem dX13_meanHardness_34 : decode cX13_meanHardness 34 = .ok (.invokevirtual 88, 3) := by decide +kernel
theorem dX13_meanHardness_37 : decode cX13_meanHardness 37 = .ok (.iadd, 1) := by decide +kernel
theorem dX13_meanHardness_38 : decode cX13_meanHardness 38 = .ok (.istore_n 2, 1) := by decide +kernel
theorem dX13_meanHardness_39 : decode cX13_meanHardness 39 = .ok (.iinc 3 1, 3) := by decide +kernel
theorem dX13_meanHardness_42 : decode cX13_meanHardness 42 = .ok (.goto (-17), 3) := by decide +kernel
theorem dX13_meanHardness_45 : decode cX13_meanHardness 45 = .ok (.aload_n 0, 1) := by decide +kernel
theorem dX13_meanHardness_46 : decode cX13_meanHardness 46 = .ok (.getfield 59, 3) := by decide +kernel
theorem dX13_meanHardness_49 : decode cX13_meanHardness 49 = .ok (.ifCond .ne 11, 3) := by decide +kernel
theorem dX13_meanHardness_52 : decode cX13_meanHardness 52 = .ok (.iload_n 2, 1) := by decide +kernel
theorem dX13_meanHardness_53 : decode cX13_meanHardness 53 = .ok (.i2d, 1) := by decide +kernel
theorem dX13_meanHardness_54 : decode cX13_meanHardness 54 = .ok (.iload_n 1, 1) := by decide +kernel
theorem dX13_meanHardness_55 : decode cX13_meanHardness 55 = .ok (.i2d, 1) := by decide +kernel
theorem dX13_meanHardness_56 : decode cX13_meanHardness 56 = .ok (.ddiv, 1) := by decide +kernel
theorem dX13_meanHardness_57 : decode cX13_meanHardness 57 = .ok (.goto 4, 3) := by decide +kernel
theorem dX13_meanHardness_60 : decode cX13_meanHardness 60 = .ok (.dconst 0, 1) := by decide +kernel
theorem dX13_meanHardness_61 : decode cX13_meanHardness 61 = .ok (.dreturn, 1) := by decide +kernel
theorem dX13_openShare_0 : decode cX13_openShare 0 = .ok (.aload_n 0, 1) := by decide +kernel
theorem dX13_openShare_1 : decode cX13_openShare 1 = .ok (.iconst 0, 1) := by decide +kernel
theorem dX13_openShare_2 : decode cX13_openShare 2 = .ok (.putfield 59, 3) := by decide +kernel
theorem dX13_openShare_5 : decode cX13_openShare 5 = .ok (.aload_n 0, 1) := by decide +kernel
theorem dX13_openShare_6 : decode cX13_openShare 6 = .ok (.invokevirtual 114, 3) := by decide +kernel
theorem dX13_openShare_9 : decode cX13_openShare 9 = .ok (.i2f, 1) := by decide +kernel
theorem dX13_openShare_10 : decode cX13_openShare 10 = .ok (.ldc 204, 2) := by decide +kernel
theorem dX13_openShare_12 : decode cX13_openShare 12 = .ok (.fdiv, 1) := by decide +kernel
theorem dX13_openShare_13 : decode cX13_openShare 13 = .ok (.freturn, 1) := by decide +kernel
theorem dX13_writeRow_0 : decode cX13_writeRow 0 = .ok (.aload_n 0, 1) := by decide +kernel
theorem dX13_writeRow_1 : decode cX13_writeRow 1 = .ok (.iload_n 1, 1) := by decide +kernel
theorem dX13_writeRow_2 : decode cX13_writeRow 2 = .ok (.iconst 0, 1) := by decide +kernel
theorem dX13_writeRow_3 : decode cX13_writeRow 3 = .ok (.iconst 5, 1) := by decide +kernel
theorem dX13_writeRow_4 : decode cX13_writeRow 4 = .ok (.invokestatic 69, 3) := by decide +kernel
theorem dX13_writeRow_7 : decode cX13_writeRow 7 = .ok (.ifCond .eq 7, 3) := by decide +kernel
theorem dX13_writeRow_10 : decode cX13_writeRow 10 = .ok (.iconst 0, 1) := by decide +kernel
theorem dX13_writeRow_11 : decode cX13_writeRow 11 = .ok (.goto 4, 3) := by decide +kernel
theorem dX13_writeRow_14 : decode cX13_writeRow 14 = .ok (.iconst 1, 1) := by decide +kernel
theorem dX13_writeRow_15 : decode cX13_writeRow 15 = .ok (.putfield 59, 3) := by decide +kernel
theorem dX13_writeRow_18 : decode cX13_writeRow 18 = .ok (.aload_n 0, 1) := by decide +kernel
theorem dX13_writeRow_19 : decode cX13_writeRow 19 = .ok (.getfield 59, 3) := by decide +kernel
theorem dX13_writeRow_22 : decode cX13_writeRow 22 = .ok (.ifCond .eq 5, 3) := by decide +kernel
theorem dX13_writeRow_25 : decode cX13_writeRow 25 = .ok (.iconst 0, 1) := by decide +kernel
theorem dX13_writeRow_26 : decode cX13_writeRow 26 = .ok (.ireturn, 1) := by decide +kernel
theorem dX13_writeRow_27 : decode cX13_writeRow 27 = .ok (.aload_n 0, 1) := by decide +kernel
theorem dX13_writeRow_28 : decode cX13_writeRow 28 = .ok (.bipush 6, 2) := by decide +kernel
theorem dX13_writeRow_30 : decode cX13_writeRow 30 = .ok (.putfield 205, 3) := by decide +kernel
theorem dX13_writeRow_33 : decode cX13_writeRow 33 = .ok (.iconst 0, 1) := by decide +kernel
theorem dX13_writeRow_34 : decode cX13_writeRow 34 = .ok (.istore_n 2, 1) := by decide +kernel
theorem dX13_writeRow_35 : decode cX13_writeRow 35 = .ok (.iload_n 2, 1) := by decide +kernel
theorem dX13_writeRow_36 : decode cX13_writeRow 36 = .ok (.bipush 6, 2) := by decide +kernel
theorem dX13_writeRow_38 : decode cX13_writeRow 38 = .ok (.if_icmp .ge 55, 3) := by decide +kernel
theorem dX13_writeRow_41 : decode cX13_writeRow 41 = .ok (.iload_n 1, 1) := by decide +kernel
theorem dX13_writeRow_42 : decode cX13_writeRow 42 = .ok (.iload_n 2, 1) := by decide +kernel
theorem dX13_writeRow_43 : decode cX13_writeRow 43 = .ok (.invokestatic 84, 3) := by decide +kernel
theorem dX13_writeRow_46 : decode cX13_writeRow 46 = .ok (.istore_n 3, 1) := by decide +kernel
theorem dX13_writeRow_47 : decode cX13_writeRow 47 = .ok (.aload_n 0, 1) := by decide +kernel
theorem dX13_writeRow_48 : decode cX13_writeRow 48 = .ok (.getfield 47, 3) := by decide +kernel
theorem dX13_writeRow_51 : decode cX13_writeRow 51 = .ok (.iload_n 2, 1) := by decide +kernel
theorem dX13_writeRow_52 : decode cX13_writeRow 52 = .ok (.aload_n 0, 1) := by decide +kernel
theorem dX13_writeRow_53 : decode cX13_writeRow 53 = .ok (.iload_n 3, 1) := by decide +kernel
theorem dX13_writeRow_54 : decode cX13_writeRow 54 = .ok (.invokevirtual 104, 3) := by decide +kernel
theorem dX13_writeRow_57 : decode cX13_writeRow 57 = .ok (.ifCond .lt 8, 3) := by decide +kernel
theorem dX13_writeRow_60 : decode cX13_writeRow 60 = .ok (.bipush 42, 2) := by decide +kernel
theorem dX13_writeRow_62 : decode cX13_writeRow 62 = .ok (.goto 24, 3) := by decide +kernel
theorem dX13_writeRow_65 : decode cX13_writeRow 65 = .ok (.aload_n 0, 1) := by decide +kernel
theorem dX13_writeRow_66 : decode cX13_writeRow 66 = .ok (.iload_n 3, 1) := by decide +kernel
theorem dX13_writeRow_67 : decode cX13_writeRow 67 = .ok (.invokevirtual 88, 3) := by decide +kernel
theorem dX13_writeRow_70 : decode cX13_writeRow 70 = .ok (.ifCond .ne 8, 3) := by decide +kernel
theorem dX13_writeRow_73 : decode cX13_writeRow 73 = .ok (.bipush 46, 2) := by decide +kernel
theorem dX13_writeRow_75 : decode cX13_writeRow 75 = .ok (.goto 11, 3) := by decide +kernel
theorem dX13_writeRow_78 : decode cX13_writeRow 78 = .ok (.bipush 48, 2) := by decide +kernel
theorem dX13_writeRow_80 : decode cX13_writeRow 80 = .ok (.aload_n 0, 1) := by decide +kernel
theorem dX13_writeRow_81 : decode cX13_writeRow 81 = .ok (.iload_n 3, 1) := by decide +kernel
theorem dX13_writeRow_82 : decode cX13_writeRow 82 = .ok (.invokevirtual 88, 3) := by decide +kernel
theorem dX13_writeRow_85 : decode cX13_writeRow 85 = .ok (.iadd, 1) := by decide +kernel
theorem dX13_writeRow_86 : decode cX13_writeRow 86 = .ok (.iastore, 1) := by decide +kernel
theorem dX13_writeRow_87 : decode cX13_writeRow 87 = .ok (.iinc 2 1, 3) := by decide +kernel
theorem dX13_writeRow_90 : decode cX13_writeRow 90 = .ok (.goto (-55), 3) := by decide +kernel
theorem dX13_writeRow_93 : decode cX13_writeRow 93 = .ok (.aload_n 0, 1) := by decide +kernel
theorem dX13_writeRow_94 : decode cX13_writeRow 94 = .ok (.getfield 205, 3) := by decide +kernel
theorem dX13_writeRow_97 : decode cX13_writeRow 97 = .ok (.ireturn, 1) := by decide +kernel
theorem dX13_writeCharge_0 : decode cX13_writeCharge 0 = .ok (.aload_n 0, 1) := by decide +kernel
theorem dX13_writeCharge_1 : decode cX13_writeCharge 1 = .ok (.iload_n 1, 1) := by decide +kernel
theorem dX13_writeCharge_2 : decode cX13_writeCharge 2 = .ok (.invokevirtual 155, 3) := by decide +kernel
theorem dX13_writeCharge_5 : decode cX13_writeCharge 5 = .ok (.ifCond .ne 5, 3) := by decide +kernel
theorem dX13_writeCharge_8 : decode cX13_writeCharge 8 = .ok (.iconst 0, 1) := by decide +kernel
theorem dX13_writeCharge_9 : decode cX13_writeCharge 9 = .ok (.ireturn, 1) := by decide +kernel
theorem dX13_writeCharge_10 : decode cX13_writeCharge 10 = .ok (.aload_n 0, 1) := by decide +kernel
theorem dX13_writeCharge_11 : decode cX13_writeCharge 11 = .ok (.bipush 7, 2) := by decide +kernel
theorem dX13_writeCharge_13 : decode cX13_writeCharge 13 = .ok (.putfield 205, 3) := by decide +kernel
theorem dX13_writeCharge_16 : decode cX13_writeCharge 16 = .ok (.aload_n 0, 1) := by decide +kernel
theorem dX13_writeCharge_17 : decode cX13_writeCharge 17 = .ok (.getfield 47, 3) := by decide +kernel
theorem dX13_writeCharge_20 : decode cX13_writeCharge 20 = .ok (.iconst 0, 1) := by decide +kernel
theorem dX13_writeCharge_21 : decode cX13_writeCharge 21 = .ok (.bipush 48, 2) := by decide +kernel
theorem dX13_writeCharge_23 : decode cX13_writeCharge 23 = .ok (.iload_n 1, 1) := by decide +kernel
theorem dX13_writeCharge_24 : decode cX13_writeCharge 24 = .ok (.iadd, 1) := by decide +kernel
theorem dX13_writeCharge_25 : decode cX13_writeCharge 25 = .ok (.iastore, 1) := by decide +kernel
theorem dX13_writeCharge_26 : decode cX13_writeCharge 26 = .ok (.aload_n 0, 1) := by decide +kernel
theorem dX13_writeCharge_27 : decode cX13_writeCharge 27 = .ok (.getfield 47, 3) := by decide +kernel
theorem dX13_writeCharge_30 : decode cX13_writeCharge 30 = .ok (.iconst 1, 1) := by decide +kernel
theorem dX13_writeCharge_31 : decode cX13_writeCharge 31 = .ok (.bipush 64, 2) := by decide +kernel
theorem dX13_writeCharge_33 : decode cX13_writeCharge 33 = .ok (.iastore, 1) := by decide +kernel
theorem dX13_writeCharge_34 : decode cX13_writeCharge 34 = .ok (.aload_n 0, 1) := by decide +kernel
theorem dX13_writeCharge_35 : decode cX13_writeCharge 35 = .ok (.getfield 47, 3) := by decide +kernel
theorem dX13_writeCharge_38 : decode cX13_writeCharge 38 = .ok (.iconst 2, 1) := by decide +kernel
theorem dX13_writeCharge_39 : decode cX13_writeCharge 39 = .ok (.bipush 48, 2) := by decide +kernel
theorem dX13_writeCharge_41 : decode cX13_writeCharge 41 = .ok (.aload_n 0, 1) := by decide +kernel
theorem dX13_writeCharge_42 : decode cX13_writeCharge 42 = .ok (.iload_n 1, 1) := by decide +kernel
theorem dX13_writeCharge_43 : decode cX13_writeCharge 43 = .ok (.invokevirtual 73, 3) := by decide +kernel
theorem dX13_writeCharge_46 : decode cX13_writeCharge 46 = .ok (.bipush 6, 2) := by decide +kernel
theorem dX13_writeCharge_48 : decode cX13_writeCharge 48 = .ok (.idiv, 1) := by decide +kernel
theorem dX13_writeCharge_49 : decode cX13_writeCharge 49 = .ok (.iadd, 1) := by decide +kernel
theorem dX13_writeCharge_50 : decode cX13_writeCharge 50 = .ok (.iastore, 1) := by decide +kernel
theorem dX13_writeCharge_51 : decode cX13_writeCharge 51 = .ok (.aload_n 0, 1) := by decide +kernel
theorem dX13_writeCharge_52 : decode cX13_writeCharge 52 = .ok (.getfield 47, 3) := by decide +kernel
theorem dX13_writeCharge_55 : decode cX13_writeCharge 55 = .ok (.iconst 3, 1) := by decide +kernel
theorem dX13_writeCharge_56 : decode cX13_writeCharge 56 = .ok (.bipush 44, 2) := by decide +kernel
theorem dX13_writeCharge_58 : decode cX13_writeCharge 58 = .ok (.iastore, 1) := by decide +kernel
theorem dX13_writeCharge_59 : decode cX13_writeCharge 59 = .ok (.aload_n 0, 1) := by decide +kernel
theorem dX13_writeCharge_60 : decode cX13_writeCharge 60 = .ok (.getfield 47, 3) := by decide +kernel
theorem dX13_writeCharge_63 : decode cX13_writeCharge 63 = .ok (.iconst 4, 1) := by decide +kernel
theorem dX13_writeCharge_64 : decode cX13_writeCharge 64 = .ok (.bipush 48, 2) := by decide +kernel
theorem dX13_writeCharge_66 : decode cX13_writeCharge 66 = .ok (.aload_n 0, 1) := by decide +kernel
theorem dX13_writeCharge_67 : decode cX13_writeCharge 67 = .ok (.iload_n 1, 1) := by decide +kernel
theorem dX13_writeCharge_68 : decode cX13_writeCharge 68 = .ok (.invokevirtual 73, 3) := by decide +kernel
theorem dX13_writeCharge_71 : decode cX13_writeCharge 71 = .ok (.bipush 6, 2) := by decide +kernel
theorem dX13_writeCharge_73 : decode cX13_writeCharge 73 = .ok (.irem, 1) := by decide +kernel
theorem dX13_writeCharge_74 : decode cX13_writeCharge 74 = .ok (.iadd, 1) := by decide +kernel
theorem dX13_writeCharge_75 : decode cX13_writeCharge 75 = .ok (.iastore, 1) := by decide +kernel
theorem dX13_writeCharge_76 : decode cX13_writeCharge 76 = .ok (.aload_n 0, 1) := by decide +kernel
theorem dX13_writeCharge_77 : decode cX13_writeCharge 77 = .ok (.getfield 47, 3) := by decide +kernel
theorem dX13_writeCharge_80 : decode cX13_writeCharge 80 = .ok (.iconst 5, 1) := by decide +kernel
theorem dX13_writeCharge_81 : decode cX13_writeCharge 81 = .ok (.bipush 58, 2) := by decide +kernel
theorem dX13_writeCharge_83 : decode cX13_writeCharge 83 = .ok (.iastore, 1) := by decide +kernel
theorem dX13_writeCharge_84 : decode cX13_writeCharge 84 = .ok (.aload_n 0, 1) := by decide +kernel
theorem dX13_writeCharge_85 : decode cX13_writeCharge 85 = .ok (.getfield 47, 3) := by decide +kernel
theorem dX13_writeCharge_88 : decode cX13_writeCharge 88 = .ok (.bipush 6, 2) := by decide +kernel
theorem dX13_writeCharge_90 : decode cX13_writeCharge 90 = .ok (.bipush 48, 2) := by decide +kernel
theorem dX13_writeCharge_92 : decode cX13_writeCharge 92 = .ok (.aload_n 0, 1) := by decide +kernel
theorem dX13_writeCharge_93 : decode cX13_writeCharge 93 = .ok (.iload_n 1, 1) := by decide +kernel
theorem dX13_writeCharge_94 : decode cX13_writeCharge 94 = .ok (.invokevirtual 134, 3) := by decide +kernel
theorem dX13_writeCharge_97 : decode cX13_writeCharge 97 = .ok (.iadd, 1) := by decide +kernel
theorem dX13_writeCharge_98 : decode cX13_writeCharge 98 = .ok (.iastore, 1) := by decide +kernel
theorem dX13_writeCharge_99 : decode cX13_writeCharge 99 = .ok (.aload_n 0, 1) := by decide +kernel
theorem dX13_writeCharge_100 : decode cX13_writeCharge 100 = .ok (.getfield 205, 3) := by decide +kernel
theorem dX13_writeCharge_103 : decode cX13_writeCharge 103 = .ok (.ireturn, 1) := by decide +kernel
theorem dX13_lineAt_0 : decode cX13_lineAt 0 = .ok (.aload_n 0, 1) := by decide +kernel
theorem dX13_lineAt_1 : decode cX13_lineAt 1 = .ok (.iload_n 1, 1) := by decide +kernel
theorem dX13_lineAt_2 : decode cX13_lineAt 2 = .ok (.iconst 0, 1) := by decide +kernel
theorem dX13_lineAt_3 : decode cX13_lineAt 3 = .ok (.aload_n 0, 1) := by decide +kernel
theorem dX13_lineAt_4 : decode cX13_lineAt 4 = .ok (.getfield 205, 3) := by decide +kernel
theorem dX13_lineAt_7 : decode cX13_lineAt 7 = .ok (.iconst 1, 1) := by decide +kernel
theorem dX13_lineAt_8 : decode cX13_lineAt 8 = .ok (.isub, 1) := by decide +kernel
theorem dX13_lineAt_9 : decode cX13_lineAt 9 = .ok (.invokestatic 69, 3) := by decide +kernel
theorem dX13_lineAt_12 : decode cX13_lineAt 12 = .ok (.ifCond .eq 7, 3) := by decide +kernel
theorem dX13_lineAt_15 : decode cX13_lineAt 15 = .ok (.iconst 0, 1) := by decide +kernel
theorem dX13_lineAt_16 : decode cX13_lineAt 16 = .ok (.goto 4, 3) := by decide +kernel
theorem dX13_lineAt_19 : decode cX13_lineAt 19 = .ok (.iconst 1, 1) := by decide +kernel
theorem dX13_lineAt_20 : decode cX13_lineAt 20 = .ok (.putfield 59, 3) := by decide +kernel
theorem dX13_lineAt_23 : decode cX13_lineAt 23 = .ok (.aload_n 0, 1) := by decide +kernel
theorem dX13_lineAt_24 : decode cX13_lineAt 24 = .ok (.getfield 59, 3) := by decide +kernel
theorem dX13_lineAt_27 : decode cX13_lineAt 27 = .ok (.ifCond .ne 13, 3) := by decide +kernel
theorem dX13_lineAt_30 : decode cX13_lineAt 30 = .ok (.aload_n 0, 1) := by decide +kernel
theorem dX13_lineAt_31 : decode cX13_lineAt 31 = .ok (.getfield 47, 3) := by decide +kernel
theorem dX13_lineAt_34 : decode cX13_lineAt 34 = .ok (.iload_n 1, 1) := by decide +kernel
theorem dX13_lineAt_35 : decode cX13_lineAt 35 = .ok (.iaload, 1) := by decide +kernel
theorem dX13_lineAt_36 : decode cX13_lineAt 36 = .ok (.i2c, 1) := by decide +kernel
theorem dX13_lineAt_37 : decode cX13_lineAt 37 = .ok (.goto 5, 3) := by decide +kernel
theorem dX13_lineAt_40 : decode cX13_lineAt 40 = .ok (.bipush 97, 2) := by decide +kernel
theorem dX13_lineAt_42 : decode cX13_lineAt 42 = .ok (.ireturn, 1) := by decide +kernel
theorem dX13_isConsistent_0 : decode cX13_isConsistent 0 = .ok (.aload_n 0, 1) := by decide +kernel
theorem dX13_isConsistent_1 : decode cX13_isConsistent 1 = .ok (.iconst 0, 1) := by decide +kernel
theorem dX13_isConsistent_2 : decode cX13_isConsistent 2 = .ok (.putfield 59, 3) := by decide +kernel
theorem dX13_isConsistent_5 : decode cX13_isConsistent 5 = .ok (.aload_n 0, 1) := by decide +kernel
theorem dX13_isConsistent_6 : decode cX13_isConsistent 6 = .ok (.getfield 16, 3) := by decide +kernel
theorem dX13_isConsistent_9 : decode cX13_isConsistent 9 = .ok (.iconst 1, 1) := by decide +kernel
theorem dX13_isConsistent_10 : decode cX13_isConsistent 10 = .ok (.iaload, 1) := by decide +kernel
theorem dX13_isConsistent_11 : decode cX13_isConsistent 11 = .ok (.aload_n 0, 1) := by decide +kernel
theorem dX13_isConsistent_12 : decode cX13_isConsistent 12 = .ok (.getfield 16, 3) := by decide +kernel
theorem dX13_isConsistent_15 : decode cX13_isConsistent 15 = .ok (.iconst 2, 1) := by decide +kernel
theorem dX13_isConsistent_16 : decode cX13_isConsistent 16 = .ok (.iaload, 1) := by decide +kernel
theorem dX13_isConsistent_17 : decode cX13_isConsistent 17 = .ok (.if_icmp .lt 7, 3) := by decide +kernel
theorem dX13_isConsistent_20 : decode cX13_isConsistent 20 = .ok (.iconst 1, 1) := by decide +kernel
theorem dX13_isConsistent_21 : decode cX13_isConsistent 21 = .ok (.goto 4, 3) := by decide +kernel
theorem dX13_isConsistent_24 : decode cX13_isConsistent 24 = .ok (.iconst 0, 1) := by decide +kernel
theorem dX13_isConsistent_25 : decode cX13_isConsistent 25 = .ok (.ireturn, 1) := by decide +kernel
theorem dX13_type_0 : decode cX13_type 0 = .ok (.aload_n 0, 1) := by decide +kernel
theorem dX13_type_1 : decode cX13_type 1 = .ok (.iload_n 1, 1) := by decide +kernel
theorem dX13_type_2 : decode cX13_type 2 = .ok (.bipush 32, 2) := by decide +kernel
theorem dX13_type_4 : decode cX13_type 4 = .ok (.bipush 126, 2) := by decide +kernel
theorem dX13_type_6 : decode cX13_type 6 = .ok (.invokestatic 69, 3) := by decide +kernel
theorem dX13_type_9 : decode cX13_type 9 = .ok (.ifCond .ne 7, 3) := by decide +kernel
theorem dX13_type_12 : decode cX13_type 12 = .ok (.iconst 1, 1) := by decide +kernel
theorem dX13_type_13 : decode cX13_type 13 = .ok (.goto 17, 3) := by decide +kernel
theorem dX13_type_16 : decode cX13_type 16 = .ok (.aload_n 0, 1) := by decide +kernel
theorem dX13_type_17 : decode cX13_type 17 = .ok (.getfield 208, 3) := by decide +kernel
theorem dX13_type_20 : decode cX13_type 20 = .ok (.bipush 60, 2) := by decide +kernel
theorem dX13_type_22 : decode cX13_type 22 = .ok (.if_icmp .ne 7, 3) := by decide +kernel
theorem dX13_type_25 : decode cX13_type 25 = .ok (.iconst 2, 1) := by decide +kernel
theorem dX13_type_26 : decode cX13_type 26 = .ok (.goto 4, 3) := by decide +kernel
theorem dX13_type_29 : decode cX13_type 29 = .ok (.iconst 0, 1) := by decide +kernel
theorem dX13_type_30 : decode cX13_type 30 = .ok (.putfield 59, 3) := by decide +kernel
theorem dX13_type_33 : decode cX13_type 33 = .ok (.aload_n 0, 1) := by decide +kernel
theorem dX13_type_34 : decode cX13_type 34 = .ok (.getfield 59, 3) := by decide +kernel
theorem dX13_type_37 : decode cX13_type 37 = .ok (.ifCond .eq 5, 3) := by decide +kernel
theorem dX13_type_40 : decode cX13_type 40 = .ok (.iconst 0, 1) := by decide +kernel
theorem dX13_type_41 : decode cX13_type 41 = .ok (.ireturn, 1) := by decide +kernel
theorem dX13_type_42 : decode cX13_type 42 = .ok (.aload_n 0, 1) := by decide +kernel
theorem dX13_type_43 : decode cX13_type 43 = .ok (.getfield 44, 3) := by decide +kernel
theorem dX13_type_46 : decode cX13_type 46 = .ok (.aload_n 0, 1) := by decide +kernel
theorem dX13_type_47 : decode cX13_type 47 = .ok (.getfield 208, 3) := by decide +kernel
theorem dX13_type_50 : decode cX13_type 50 = .ok (.iload_n 1, 1) := by decide +kernel
theorem dX13_type_51 : decode cX13_type 51 = .ok (.iastore, 1) := by decide +kernel
theorem dX13_type_52 : decode cX13_type 52 = .ok (.aload_n 0, 1) := by decide +kernel
theorem dX13_type_53 : decode cX13_type 53 = .ok (.dup, 1) := by decide +kernel
theorem dX13_type_54 : decode cX13_type 54 = .ok (.getfield 208, 3) := by decide +kernel
theorem dX13_type_57 : decode cX13_type 57 = .ok (.iconst 1, 1) := by decide +kernel
theorem dX13_type_58 : decode cX13_type 58 = .ok (.iadd, 1) := by decide +kernel
theorem dX13_type_59 : decode cX13_type 59 = .ok (.putfield 208, 3) := by decide +kernel
theorem dX13_type_62 : decode cX13_type 62 = .ok (.aload_n 0, 1) := by decide +kernel
theorem dX13_type_63 : decode cX13_type 63 = .ok (.getfield 208, 3) := by decide +kernel
theorem dX13_type_66 : decode cX13_type 66 = .ok (.ireturn, 1) := by decide +kernel
theorem dX13_sign_0 : decode cX13_sign 0 = .ok (.aload_n 0, 1) := by decide +kernel
theorem dX13_sign_1 : decode cX13_sign 1 = .ok (.getfield 211, 3) := by decide +kernel
theorem dX13_sign_4 : decode cX13_sign 4 = .ok (.aload_n 0, 1) := by decide +kernel
theorem dX13_sign_5 : decode cX13_sign 5 = .ok (.getfield 214, 3) := by decide +kernel
theorem dX13_sign_8 : decode cX13_sign 8 = .ok (.if_icmp .ge 15, 3) := by decide +kernel
theorem dX13_sign_11 : decode cX13_sign 11 = .ok (.aload_n 0, 1) := by decide +kernel
theorem dX13_sign_12 : decode cX13_sign 12 = .ok (.getfield 44, 3) := by decide +kernel
theorem dX13_sign_15 : decode cX13_sign 15 = .ok (.aload_n 0, 1) := by decide +kernel
theorem dX13_sign_16 : decode cX13_sign 16 = .ok (.getfield 211, 3) := by decide +kernel
theorem dX13_sign_19 : decode cX13_sign 19 = .ok (.iaload, 1) := by decide +kernel
theorem dX13_sign_20 : decode cX13_sign 20 = .ok (.goto 4, 3) := by decide +kernel
theorem dX13_sign_23 : decode cX13_sign 23 = .ok (.iconst (-1), 1) := by decide +kernel
theorem dX13_sign_24 : decode cX13_sign 24 = .ok (.ireturn, 1) := by decide +kernel
theorem dX13_expects_0 : decode cX13_expects 0 = .ok (.aload_n 0, 1) := by decide +kernel
theorem dX13_expects_1 : decode cX13_expects 1 = .ok (.getfield 217, 3) := by decide +kernel
theorem dX13_expects_4 : decode cX13_expects 4 = .ok (.ifCond .eq 4, 3) := by decide +kernel
theorem dX13_expects_7 : decode cX13_expects 7 = .ok (.return_, 1) := by decide +kernel
theorem dX13_expects_8 : decode cX13_expects 8 = .ok (.aload_n 0, 1) := by decide +kernel
theorem dX13_expects_9 : decode cX13_expects 9 = .ok (.aload_n 0, 1) := by decide +kernel
theorem dX13_expects_10 : decode cX13_expects 10 = .ok (.invokevirtual 221, 3) := by decide +kernel
theorem dX13_expects_13 : decode cX13_expects 13 = .ok (.iload_n 1, 1) := by decide +kernel
theorem dX13_expects_14 : decode cX13_expects 14 = .ok (.if_icmp .eq 7, 3) := by decide +kernel
theorem dX13_expects_17 : decode cX13_expects 17 = .ok (.iconst 1, 1) := by decide +kernel
theorem dX13_expects_18 : decode cX13_expects 18 = .ok (.goto 4, 3) := by decide +kernel
theorem dX13_expects_21 : decode cX13_expects 21 = .ok (.iconst 0, 1) := by decide +kernel
theorem dX13_expects_22 : decode cX13_expects 22 = .ok (.putfield 217, 3) := by decide +kernel
theorem dX13_expects_25 : decode cX13_expects 25 = .ok (.aload_n 0, 1) := by decide +kernel
theorem dX13_expects_26 : decode cX13_expects 26 = .ok (.dup, 1) := by decide +kernel
theorem dX13_expects_27 : decode cX13_expects 27 = .ok (.getfield 211, 3) := by decide +kernel
theorem dX13_expects_30 : decode cX13_expects 30 = .ok (.aload_n 0, 1) := by decide +kernel
theorem dX13_expects_31 : decode cX13_expects 31 = .ok (.getfield 217, 3) := by decide +kernel
theorem dX13_expects_34 : decode cX13_expects 34 = .ok (.ifCond .eq 7, 3) := by decide +kernel
theorem dX13_expects_37 : decode cX13_expects 37 = .ok (.iconst 0, 1) := by decide +kernel
theorem dX13_expects_38 : decode cX13_expects 38 = .ok (.goto 4, 3) := by decide +kernel
theorem dX13_expects_41 : decode cX13_expects 41 = .ok (.iconst 1, 1) := by decide +kernel
theorem dX13_expects_42 : decode cX13_expects 42 = .ok (.iadd, 1) := by decide +kernel
theorem dX13_expects_43 : decode cX13_expects 43 = .ok (.putfield 211, 3) := by decide +kernel
theorem dX13_expects_46 : decode cX13_expects 46 = .ok (.return_, 1) := by decide +kernel
theorem dX13_number_0 : decode cX13_number 0 = .ok (.aload_n 0, 1) := by decide +kernel
theorem dX13_number_1 : decode cX13_number 1 = .ok (.bipush 32, 2) := by decide +kernel
theorem dX13_number_3 : decode cX13_number 3 = .ok (.invokevirtual 224, 3) := by decide +kernel
theorem dX13_number_6 : decode cX13_number 6 = .ok (.iconst 0, 1) := by decide +kernel
theorem dX13_number_7 : decode cX13_number 7 = .ok (.istore_n 2, 1) := by decide +kernel
theorem dX13_number_8 : decode cX13_number 8 = .ok (.iconst 0, 1) := by decide +kernel
theorem dX13_number_9 : decode cX13_number 9 = .ok (.istore_n 3, 1) := by decide +kernel
theorem dX13_number_10 : decode cX13_number 10 = .ok (.aload_n 0, 1) := by decide +kernel
theorem dX13_number_11 : decode cX13_number 11 = .ok (.getfield 217, 3) := by decide +kernel
theorem dX13_number_14 : decode cX13_number 14 = .ok (.ifCond .ne 51, 3) := by decide +kernel
theorem dX13_number_17 : decode cX13_number 17 = .ok (.iload_n 3, 1) := by decide +kernel
theorem dX13_number_18 : decode cX13_number 18 = .ok (.iload_n 1, 1) := by decide +kernel
theorem dX13_number_19 : decode cX13_number 19 = .ok (.if_icmp .ge 46, 3) := by decide +kernel
theorem dX13_number_22 : decode cX13_number 22 = .ok (.aload_n 0, 1) := by decide +kernel
theorem dX13_number_23 : decode cX13_number 23 = .ok (.invokevirtual 221, 3) := by decide +kernel
theorem dX13_number_26 : decode cX13_number 26 = .ok (.bipush 48, 2) := by decide +kernel
theorem dX13_number_28 : decode cX13_number 28 = .ok (.bipush 57, 2) := by decide +kernel
theorem dX13_number_30 : decode cX13_number 30 = .ok (.invokestatic 69, 3) := by decide +kernel
theorem dX13_number_33 : decode cX13_number 33 = .ok (.ifCond .eq 32, 3) := by decide +kernel
theorem dX13_number_36 : decode cX13_number 36 = .ok (.bipush 10, 2) := by decide +kernel
theorem dX13_number_38 : decode cX13_number 38 = .ok (.iload_n 2, 1) := by decide +kernel
theorem dX13_number_39 : decode cX13_number 39 = .ok (.imul, 1) := by decide +kernel
theorem dX13_number_40 : decode cX13_number 40 = .ok (.aload_n 0, 1) := by decide +kernel
theorem dX13_number_41 : decode cX13_number 41 = .ok (.invokevirtual 221, 3) := by decide +kernel
theorem dX13_number_44 : decode cX13_number 44 = .ok (.iadd, 1) := by decide +kernel
theorem dX13_number_45 : decode cX13_number 45 = .ok (.bipush 48, 2) := by decide +kernel
theorem dX13_number_47 : decode cX13_number 47 = .ok (.isub, 1) := by decide +kernel
theorem dX13_number_48 : decode cX13_number 48 = .ok (.istore_n 2, 1) := by decide +kernel
theorem dX13_number_49 : decode cX13_number 49 = .ok (.aload_n 0, 1) := by decide +kernel
theorem dX13_number_50 : decode cX13_number 50 = .ok (.dup, 1) := by decide +kernel
theorem dX13_number_51 : decode cX13_number 51 = .ok (.getfield 211, 3) := by decide +kernel
theorem dX13_number_54 : decode cX13_number 54 = .ok (.iconst 1, 1) := by decide +kernel
theorem dX13_number_55 : decode cX13_number 55 = .ok (.iadd, 1) := by decide +kernel
theorem dX13_number_56 : decode cX13_number 56 = .ok (.putfield 211, 3) := by decide +kernel
theorem dX13_number_59 : decode cX13_number 59 = .ok (.iinc 3 1, 3) := by decide +kernel
theorem dX13_number_62 : decode cX13_number 62 = .ok (.goto (-52), 3) := by decide +kernel
theorem dX13_number_65 : decode cX13_number 65 = .ok (.aload_n 0, 1) := by decide +kernel
theorem dX13_number_66 : decode cX13_number 66 = .ok (.dup, 1) := by decide +kernel
theorem dX13_number_67 : decode cX13_number 67 = .ok (.getfield 217, 3) := by decide +kernel
theorem dX13_number_70 : decode cX13_number 70 = .ok (.iload_n 3, 1) := by decide +kernel
theorem dX13_number_71 : decode cX13_number 71 = .ok (.ifCond .ne 7, 3) := by decide +kernel
theorem dX13_number_74 : decode cX13_number 74 = .ok (.iconst 1, 1) := by decide +kernel
theorem dX13_number_75 : decode cX13_number 75 = .ok (.goto 4, 3) := by decide +kernel
theorem dX13_number_78 : decode cX13_number 78 = .ok (.iconst 0, 1) := by decide +kernel
theorem dX13_number_79 : decode cX13_number 79 = .ok (.ior, 1) := by decide +kernel
theorem dX13_number_80 : decode cX13_number 80 = .ok (.putfield 217, 3) := by decide +kernel
theorem dX13_number_83 : decode cX13_number 83 = .ok (.iload_n 2, 1) := by decide +kernel
theorem dX13_number_84 : decode cX13_number 84 = .ok (.ireturn, 1) := by decide +kernel
theorem dX13_word_0 : decode cX13_word 0 = .ok (.iconst 0, 1) := by decide +kernel
theorem dX13_word_1 : decode cX13_word 1 = .ok (.istore_n 1, 1) := by decide +kernel
theorem dX13_word_2 : decode cX13_word 2 = .ok (.iload_n 1, 1) := by decide +kernel
theorem dX13_word_3 : decode cX13_word 3 = .ok (.bipush 7, 2) := by decide +kernel
theorem dX13_word_5 : decode cX13_word 5 = .ok (.if_icmp .ge 16, 3) := by decide +kernel
theorem dX13_word_8 : decode cX13_word 8 = .ok (.aload_n 0, 1) := by decide +kernel
theorem dX13_word_9 : decode cX13_word 9 = .ok (.getfield 50, 3) := by decide +kernel
theorem dX13_word_12 : decode cX13_word 12 = .ok (.iload_n 1, 1) := by decide +kernel
theorem dX13_word_13 : decode cX13_word 13 = .ok (.iconst 1, 1) := by decide +kernel
theorem dX13_word_14 : decode cX13_word 14 = .ok (.iastore, 1) := by decide +kernel
theorem dX13_word_15 : decode cX13_word 15 = .ok (.iinc 1 1, 3) := by decide +kernel
theorem dX13_word_18 : decode cX13_word 18 = .ok (.goto (-16), 3) := by decide +kernel
theorem dX13_word_21 : decode cX13_word 21 = .ok (.iconst 0, 1) := by decide +kernel
theorem dX13_word_22 : decode cX13_word 22 = .ok (.istore_n 1, 1) := by decide +kernel
theorem dX13_word_23 : decode cX13_word 23 = .ok (.iconst (-1), 1) := by decide +kernel
theorem dX13_word_24 : decode cX13_word 24 = .ok (.istore_n 2, 1) := by decide +kernel
theorem dX13_word_25 : decode cX13_word 25 = .ok (.iload_n 2, 1) := by decide +kernel
theorem dX13_word_26 : decode cX13_word 26 = .ok (.ifCond .ge 196, 3) := by decide +kernel
theorem dX13_word_29 : decode cX13_word 29 = .ok (.aload_n 0, 1) := by decide +kernel
theorem dX13_word_30 : decode cX13_word 30 = .ok (.getfield 217, 3) := by decide +kernel
theorem dX13_word_33 : decode cX13_word 33 = .ok (.ifCond .ne 189, 3) := by decide +kernel
theorem dX13_word_36 : decode cX13_word 36 = .ok (.iconst 0, 1) := by decide +kernel
theorem dX13_word_37 : decode cX13_word 37 = .ok (.istore_n 3, 1) := by decide +kernel
theorem dX13_word_38 : decode cX13_word 38 = .ok (.iconst 0, 1) := by decide +kernel
theorem dX13_word_39 : decode cX13_word 39 = .ok (.istore 4, 2) := by decide +kernel
theorem dX13_word_41 : decode cX13_word 41 = .ok (.iload 4, 2) := by decide +kernel
theorem dX13_word_43 : decode cX13_word 43 = .ok (.bipush 7, 2) := by decide +kernel
theorem dX13_word_45 : decode cX13_word 45 = .ok (.if_icmp .ge 85, 3) := by decide +kernel
theorem dX13_word_48 : decode cX13_word 48 = .ok (.aload_n 0, 1) := by decide +kernel
theorem dX13_word_49 : decode cX13_word 49 = .ok (.getfield 50, 3) := by decide +kernel
theorem dX13_word_52 : decode cX13_word 52 = .ok (.iload 4, 2) := by decide +kernel
theorem dX13_word_54 : decode cX13_word 54 = .ok (.dup2, 1) := by decide +kernel
theorem dX13_word_55 : decode cX13_word 55 = .ok (.iaload, 1) := by decide +kernel
theorem dX13_word_56 : decode cX13_word 56 = .ok (.aload_n 0, 1) := by decide +kernel
theorem dX13_word_57 : decode cX13_word 57 = .ok (.getfield 56, 3) := by decide +kernel
theorem dX13_word_60 : decode cX13_word 60 = .ok (.iload 4, 2) := by decide +kernel
theorem dX13_word_62 : decode cX13_word 62 = .ok (.iaload, 1) := by decide +kernel
theorem dX13_word_63 : decode cX13_word 63 = .ok (.iload_n 1, 1) := by decide +kernel
theorem dX13_word_64 : decode cX13_word 64 = .ok (.iadd, 1) := by decide +kernel
theorem dX13_word_65 : decode cX13_word 65 = .ok (.aload_n 0, 1) := by decide +kernel
theorem dX13_word_66 : decode cX13_word 66 = .ok (.getfield 56, 3) := by decide +kernel
theorem dX13_word_69 : decode cX13_word 69 = .ok (.iload 4, 2) := by decide +kernel
theorem dX13_word_71 : decode cX13_word 71 = .ok (.iconst 1, 1) := by decide +kernel
theorem dX13_word_72 : decode cX13_word 72 = .ok (.iadd, 1) := by decide +kernel
theorem dX13_word_73 : decode cX13_word 73 = .ok (.iaload, 1) := by decide +kernel
theorem dX13_word_74 : decode cX13_word 74 = .ok (.if_icmp .ge 28, 3) := by decide +kernel
theorem dX13_word_77 : decode cX13_word 77 = .ok (.aload_n 0, 1) := by decide +kernel
theorem dX13_word_78 : decode cX13_word 78 = .ok (.getfield 53, 3) := by decide +kernel
theorem dX13_word_81 : decode cX13_word 81 = .ok (.aload_n 0, 1) := by decide +kernel
theorem dX13_word_82 : decode cX13_word 82 = .ok (.getfield 56, 3) := by decide +kernel
theorem dX13_word_85 : decode cX13_word 85 = .ok (.iload 4, 2) := by decide +kernel
theorem dX13_word_87 : decode cX13_word 87 = .ok (.iaload, 1) := by decide +kernel
theorem dX13_word_88 : decode cX13_word 88 = .ok (.iload_n 1, 1) := by decide +kernel
theorem dX13_word_89 : decode cX13_word 89 = .ok (.iadd, 1) := by decide +kernel
theorem dX13_word_90 : decode cX13_word 90 = .ok (.iaload, 1) := by decide +kernel
theorem dX13_word_91 : decode cX13_word 91 = .ok (.aload_n 0, 1) := by decide +kernel
theorem dX13_word_92 : decode cX13_word 92 = .ok (.invokevirtual 221, 3) := by decide +kernel
theorem dX13_word_95 : decode cX13_word 95 = .ok (.if_icmp .ne 7, 3) := by decide +kernel
theorem dX13_word_98 : decode cX13_word 98 = .ok (.iconst 1, 1) := by decide +kernel
theorem dX13_word_99 : decode cX13_word 99 = .ok (.goto 4, 3) := by decide +kernel
theorem dX13_word_102 : decode cX13_word 102 = .ok (.iconst 0, 1) := by decide +kernel
theorem dX13_word_103 : decode cX13_word 103 = .ok (.iand, 1) := by decide +kernel
theorem dX13_word_104 : decode cX13_word 104 = .ok (.iastore, 1) := by decide +kernel
theorem dX13_word_105 : decode cX13_word 105 = .ok (.iload_n 3, 1) := by decide +kernel
theorem dX13_word_106 : decode cX13_word 106 = .ok (.aload_n 0, 1) := by decide +kernel
theorem dX13_word_107 : decode cX13_word 107 = .ok (.getfield 50, 3) := by decide +kernel
theorem dX13_word_110 : decode cX13_word 110 = .ok (.iload 4, 2) := by decide +kernel
theorem dX13_word_112 : decode cX13_word 112 = .ok (.iaload, 1) := by decide +kernel
theorem dX13_word_113 : decode cX13_word 113 = .ok (.iconst 1, 1) := by decide +kernel
theorem dX13_word_114 : decode cX13_word 114 = .ok (.if_icmp .ne 7, 3) := by decide +kernel
theorem dX13_word_117 : decode cX13_word 117 = .ok (.iconst 1, 1) := by decide +kernel
theorem dX13_word_118 : decode cX13_word 118 = .ok (.goto 4, 3) := by decide +kernel
theorem dX13_word_121 : decode cX13_word 121 = .ok (.iconst 0, 1) := by decide +kernel
theorem dX13_word_122 : decode cX13_word 122 = .ok (.ior, 1) := by decide +kernel
theorem dX13_word_123 : decode cX13_word 123 = .ok (.istore_n 3, 1) := by decide +kernel
theorem dX13_word_124 : decode cX13_word 124 = .ok (.iinc 4 1, 3) := by decide +kernel
theorem dX13_word_127 : decode cX13_word 127 = .ok (.goto (-86), 3) := by decide +kernel
theorem dX13_word_130 : decode cX13_word 130 = .ok (.aload_n 0, 1) := by decide +kernel
theorem dX13_word_131 : decode cX13_word 131 = .ok (.iload_n 3, 1) := by decide +kernel
theorem dX13_word_132 : decode cX13_word 132 = .ok (.ifCond .ne 7, 3) := by decide +kernel
theorem dX13_word_135 : decode cX13_word 135 = .ok (.iconst 1, 1) := by decide +kernel
theorem dX13_word_136 : decode cX13_word 136 = .ok (.goto 4, 3) := by decide +kernel
theorem dX13_word_139 : decode cX13_word 139 = .ok (.iconst 0, 1) := by decide +kernel
theorem dX13_word_140 : decode cX13_word 140 = .ok (.putfield 217, 3) := by decide +kernel
theorem dX13_word_143 : decode cX13_word 143 = .ok (.aload_n 0, 1) := by decide +kernel
theorem dX13_word_144 : decode cX13_word 144 = .ok (.dup, 1) := by decide +kernel
theorem dX13_word_145 : decode cX13_word 145 = .ok (.getfield 211, 3) := by decide +kernel
theorem dX13_word_148 : decode cX13_word 148 = .ok (.iload_n 3, 1) := by decide +kernel
theorem dX13_word_149 : decode cX13_word 149 = .ok (.ifCond .eq 7, 3) := by decide +kernel
theorem dX13_word_152 : decode cX13_word 152 = .ok (.iconst 1, 1) := by decide +kernel
theorem dX13_word_153 : decode cX13_word 153 = .ok (.goto 4, 3) := by decide +kernel
theorem dX13_word_156 : decode cX13_word 156 = .ok (.iconst 0, 1) := by decide +kernel
theorem dX13_word_157 : decode cX13_word 157 = .ok (.iadd, 1) := by decide +kernel
theorem dX13_word_158 : decode cX13_word 158 = .ok (.putfield 211, 3) := by decide +kernel
theorem dX13_word_161 : decode cX13_word 161 = .ok (.iinc 1 1, 3) := by decide +kernel
theorem dX13_word_164 : decode cX13_word 164 = .ok (.iconst 0, 1) := by decide +kernel
theorem dX13_word_165 : decode cX13_word 165 = .ok (.istore 4, 2) := by decide +kernel
theorem dX13_word_167 : decode cX13_word 167 = .ok (.iload 4, 2) := by decide +kernel
theorem dX13_word_169 : decode cX13_word 169 = .ok (.bipush 7, 2) := by decide +kernel
theorem dX13_word_171 : decode cX13_word 171 = .ok (.if_icmp .ge 48, 3) := by decide +kernel
theorem dX13_word_174 : decode cX13_word 174 = .ok (.aload_n 0, 1) := by decide +kernel
theorem dX13_word_175 : decode cX13_word 175 = .ok (.getfield 50, 3) := by decide +kernel
theorem dX13_word_178 : decode cX13_word 178 = .ok (.iload 4, 2) := by decide +kernel
theorem dX13_word_180 : decode cX13_word 180 = .ok (.iaload, 1) := by decide +kernel
theorem dX13_word_181 : decode cX13_word 181 = .ok (.iconst 1, 1) := by decide +kernel
theorem dX13_word_182 : decode cX13_word 182 = .ok (.if_icmp .ne 29, 3) := by decide +kernel
theorem dX13_word_185 : decode cX13_word 185 = .ok (.aload_n 0, 1) := by decide +kernel
theorem dX13_word_186 : decode cX13_word 186 = .ok (.getfield 56, 3) := by decide +kernel
theorem dX13_word_189 : decode cX13_word 189 = .ok (.iload 4, 2) := by decide +kernel
theorem dX13_word_191 : decode cX13_word 191 = .ok (.iaload, 1) := by decide +kernel
theorem dX13_word_192 : decode cX13_word 192 = .ok (.iload_n 1, 1) := by decide +kernel
theorem dX13_word_193 : decode cX13_word 193 = .ok (.iadd, 1) := by decide +kernel
theorem dX13_word_194 : decode cX13_word 194 = .ok (.aload_n 0, 1) := by decide +kernel
theorem dX13_word_195 : decode cX13_word 195 = .ok (.getfield 56, 3) := by decide +kernel
theorem dX13_word_198 : decode cX13_word 198 = .ok (.iload 4, 2) := by decide +kernel
theorem dX13_word_200 : decode cX13_word 200 = .ok (.iconst 1, 1) := by decide +kernel
theorem dX13_word_201 : decode cX13_word 201 = .ok (.iadd, 1) := by decide +kernel
theorem dX13_word_202 : decode cX13_word 202 = .ok (.iaload, 1) := by decide +kernel
theorem dX13_word_203 : decode cX13_word 203 = .ok (.if_icmp .ne 8, 3) := by decide +kernel
theorem dX13_word_206 : decode cX13_word 206 = .ok (.iload 4, 2) := by decide +kernel
theorem dX13_word_208 : decode cX13_word 208 = .ok (.goto 4, 3) := by decide +kernel
theorem dX13_word_211 : decode cX13_word 211 = .ok (.iload_n 2, 1) := by decide +kernel
theorem dX13_word_212 : decode cX13_word 212 = .ok (.istore_n 2, 1) := by decide +kernel
theorem dX13_word_213 : decode cX13_word 213 = .ok (.iinc 4 1, 3) := by decide +kernel
theorem dX13_word_216 : decode cX13_word 216 = .ok (.goto (-49), 3) := by decide +kernel
theorem dX13_word_219 : decode cX13_word 219 = .ok (.goto (-194), 3) := by decide +kernel
theorem dX13_word_222 : decode cX13_word 222 = .ok (.iload_n 2, 1) := by decide +kernel
theorem dX13_word_223 : decode cX13_word 223 = .ok (.ireturn, 1) := by decide +kernel
theorem dX13_does_0 : decode cX13_does 0 = .ok (.iload_n 1, 1) := by decide +kernel
theorem dX13_does_1 : decode cX13_does 1 = .ok (.tableswitch 83 0 5 #[39, 48, 57, 63, 69, 76], 39) := by decide +kernel
theorem dX13_does_40 : decode cX13_does 40 = .ok (.aload_n 0, 1) := by decide +kernel
theorem dX13_does_41 : decode cX13_does 41 = .ok (.iload_n 2, 1) := by decide +kernel
theorem dX13_does_42 : decode cX13_does 42 = .ok (.iload_n 3, 1) := by decide +kernel
theorem dX13_does_43 : decode cX13_does 43 = .ok (.iload 4, 2) := by decide +kernel
theorem dX13_does_45 : decode cX13_does 45 = .ok (.invokevirtual 94, 3) := by decide +kernel
theorem dX13_does_48 : decode cX13_does 48 = .ok (.ireturn, 1) := by decide +kernel
theorem dX13_does_49 : decode cX13_does 49 = .ok (.aload_n 0, 1) := by decide +kernel
theorem dX13_does_50 : decode cX13_does 50 = .ok (.iload_n 2, 1) := by decide +kernel
theorem dX13_does_51 : decode cX13_does 51 = .ok (.iload_n 3, 1) := by decide +kernel
theorem dX13_does_52 : decode cX13_does 52 = .ok (.iload 4, 2) := by decide +kernel
theorem dX13_does_54 : decode cX13_does 54 = .ok (.invokevirtual 121, 3) := by decide +kernel
theorem dX13_does_57 : decode cX13_does 57 = .ok (.ireturn, 1) := by decide +kernel
theorem dX13_does_58 : decode cX13_does 58 = .ok (.aload_n 0, 1) := by decide +kernel
theorem dX13_does_59 : decode cX13_does 59 = .ok (.iload_n 2, 1) := by decide +kernel
theorem dX13_does_60 : decode cX13_does 60 = .ok (.invokevirtual 131, 3) := by decide +kernel
theorem dX13_does_63 : decode cX13_does 63 = .ok (.ireturn, 1) := by decide +kernel
theorem dX13_does_64 : decode cX13_does 64 = .ok (.aload_n 0, 1) := by decide +kernel
theorem dX13_does_65 : decode cX13_does 65 = .ok (.iload_n 2, 1) := by decide +kernel
theorem dX13_does_66 : decode cX13_does 66 = .ok (.invokevirtual 149, 3) := by decide +kernel
theorem dX13_does_69 : decode cX13_does 69 = .ok (.ireturn, 1) := by decide +kernel
theorem dX13_does_70 : decode cX13_does 70 = .ok (.aload_n 0, 1) := by decide +kernel
theorem dX13_does_71 : decode cX13_does 71 = .ok (.iload_n 2, 1) := by decide +kernel
theorem dX13_does_72 : decode cX13_does 72 = .ok (.iload_n 3, 1) := by decide +kernel
theorem dX13_does_73 : decode cX13_does 73 = .ok (.invokevirtual 111, 3) := by decide +kernel
theorem dX13_does_76 : decode cX13_does 76 = .ok (.ireturn, 1) := by decide +kernel
theorem dX13_does_77 : decode cX13_does 77 = .ok (.aload_n 0, 1) := by decide +kernel
theorem dX13_does_78 : decode cX13_does 78 = .ok (.iload_n 2, 1) := by decide +kernel
theorem dX13_does_79 : decode cX13_does 79 = .ok (.iload_n 3, 1) := by decide +kernel
theorem dX13_does_80 : decode cX13_does 80 = .ok (.invokevirtual 189, 3) := by decide +kernel
theorem dX13_does_83 : decode cX13_does 83 = .ok (.ireturn, 1) := by decide +kernel
theorem dX13_does_84 : decode cX13_does 84 = .ok (.aload_n 0, 1) := by decide +kernel
theorem dX13_does_85 : decode cX13_does 85 = .ok (.iload_n 2, 1) := by decide +kernel
theorem dX13_does_86 : decode cX13_does 86 = .ok (.invokevirtual 201, 3) := by decide +kernel
theorem dX13_does_89 : decode cX13_does 89 = .ok (.ireturn, 1) := by decide +kernel
theorem dX13_command_0 : decode cX13_command 0 = .ok (.aload_n 0, 1) := by decide +kernel
theorem dX13_command_1 : decode cX13_command 1 = .ok (.invokevirtual 227, 3) := by decide +kernel
theorem dX13_command_4 : decode cX13_command 4 = .ok (.istore_n 1, 1) := by decide +kernel
theorem dX13_command_5 : decode cX13_command 5 = .ok (.iconst 0, 1) := by decide +kernel
theorem dX13_command_6 : decode cX13_command 6 = .ok (.istore_n 2, 1) := by decide +kernel
theorem dX13_command_7 : decode cX13_command 7 = .ok (.iconst 0, 1) := by decide +kernel
theorem dX13_command_8 : decode cX13_command 8 = .ok (.istore_n 3, 1) := by decide +kernel
theorem dX13_command_9 : decode cX13_command 9 = .ok (.aload_n 0, 1) := by decide +kernel
theorem dX13_command_10 : decode cX13_command 10 = .ok (.getfield 217, 3) := by decide +kernel
theorem dX13_command_13 : decode cX13_command 13 = .ok (.ifCond .eq 4, 3) := by decide +kernel
theorem dX13_command_16 : decode cX13_command 16 = .ok (.return_, 1) := by decide +kernel
theorem dX13_command_17 : decode cX13_command 17 = .ok (.iload_n 1, 1) := by decide +kernel
theorem dX13_command_18 : decode cX13_command 18 = .ok (.iconst 4, 1) := by decide +kernel
theorem dX13_command_19 : decode cX13_command 19 = .ok (.if_icmp .le 7, 3) := by decide +kernel
theorem dX13_command_22 : decode cX13_command 22 = .ok (.iconst 2, 1) := by decide +kernel
theorem dX13_command_23 : decode cX13_command 23 = .ok (.goto 4, 3) := by decide +kernel
theorem dX13_command_26 : decode cX13_command 26 = .ok (.iconst 1, 1) := by decide +kernel
theorem dX13_command_27 : decode cX13_command 27 = .ok (.istore 4, 2) := by decide +kernel
theorem dX13_command_29 : decode cX13_command 29 = .ok (.aload_n 0, 1) := by decide +kernel
theorem dX13_command_30 : decode cX13_command 30 = .ok (.iload 4, 2) := by decide +kernel
theorem dX13_command_32 : decode cX13_command 32 = .ok (.invokevirtual 230, 3) := by decide +kernel
theorem dX13_command_35 : decode cX13_command 35 = .ok (.istore 5, 2) := by decide +kernel
theorem dX13_command_37 : decode cX13_command 37 = .ok (.iload_n 1, 1) := by decide +kernel
theorem dX13_command_38 : decode cX13_command 38 = .ok (.iconst 2, 1) := by decide +kernel
theorem dX13_command_39 : decode cX13_command 39 = .ok (.if_icmp .lt 13, 3) := by decide +kernel
theorem dX13_command_42 : decode cX13_command 42 = .ok (.iload_n 1, 1) := by decide +kernel
theorem dX13_command_43 : decode cX13_command 43 = .ok (.iconst 4, 1) := by decide +kernel
theorem dX13_command_44 : decode cX13_command 44 = .ok (.if_icmp .eq 8, 3) := by decide +kernel
theorem dX13_command_47 : decode cX13_command 47 = .ok (.iload_n 1, 1) := by decide +kernel
theorem dX13_command_48 : decode cX13_command 48 = .ok (.iconst 5, 1) := by decide +kernel
theorem dX13_command_49 : decode cX13_command 49 = .ok (.if_icmp .ne 17, 3) := by decide +kernel
theorem dX13_command_52 : decode cX13_command 52 = .ok (.aload_n 0, 1) := by decide +kernel
theorem dX13_command_53 : decode cX13_command 53 = .ok (.getfield 217, 3) := by decide +kernel
theorem dX13_command_56 : decode cX13_command 56 = .ok (.ifCond .ne 10, 3) := by decide +kernel
theorem dX13_command_59 : decode cX13_command 59 = .ok (.aload_n 0, 1) := by decide +kernel
theorem dX13_command_60 : decode cX13_command 60 = .ok (.iload 4, 2) := by decide +kernel
theorem dX13_command_62 : decode cX13_command 62 = .ok (.invokevirtual 230, 3) := by decide +kernel
theorem dX13_command_65 : decode cX13_command 65 = .ok (.istore_n 2, 1) := by decide +kernel
theorem dX13_command_66 : decode cX13_command 66 = .ok (.iload_n 1, 1) := by decide +kernel
theorem dX13_command_67 : decode cX13_command 67 = .ok (.iconst 2, 1) := by decide +kernel
theorem dX13_command_68 : decode cX13_command 68 = .ok (.if_icmp .ge 16, 3) := by decide +kernel
theorem dX13_command_71 : decode cX13_command 71 = .ok (.aload_n 0, 1) := by decide +kernel
theorem dX13_command_72 : decode cX13_command 72 = .ok (.getfield 217, 3) := by decide +kernel
theorem dX13_command_75 : decode cX13_command 75 = .ok (.ifCond .ne 9, 3) := by decide +kernel
theorem dX13_command_78 : decode cX13_command 78 = .ok (.aload_n 0, 1) := by decide +kernel
theorem dX13_command_79 : decode cX13_command 79 = .ok (.iconst 1, 1) := by decide +kernel
theorem dX13_command_80 : decode cX13_command 80 = .ok (.invokevirtual 230, 3) := by decide +kernel
theorem dX13_command_83 : decode cX13_command 83 = .ok (.istore_n 3, 1) := by decide +kernel
theorem dX13_command_84 : decode cX13_command 84 = .ok (.aload_n 0, 1) := by decide +kernel
theorem dX13_command_85 : decode cX13_command 85 = .ok (.getfield 217, 3) := by decide +kernel
theorem dX13_command_88 : decode cX13_command 88 = .ok (.ifCond .ne 10, 3) := by decide +kernel
theorem dX13_command_91 : decode cX13_command 91 = .ok (.aload_n 0, 1) := by decide +kernel
theorem dX13_command_92 : decode cX13_command 92 = .ok (.getfield 233, 3) := by decide +kernel
theorem dX13_command_95 : decode cX13_command 95 = .ok (.ifCond .ne 4, 3) := by decide +kernel
theorem dX13_command_98 : decode cX13_command 98 = .ok (.return_, 1) := by decide +kernel
theorem dX13_command_99 : decode cX13_command 99 = .ok (.aload_n 0, 1) := by decide +kernel
theorem dX13_command_100 : decode cX13_command 100 = .ok (.iload_n 1, 1) := by decide +kernel
theorem dX13_command_101 : decode cX13_command 101 = .ok (.iload 5, 2) := by decide +kernel
theorem dX13_command_103 : decode cX13_command 103 = .ok (.iload_n 2, 1) := by decide +kernel
theorem dX13_command_104 : decode cX13_command 104 = .ok (.iload_n 3, 1) := by decide +kernel
theorem dX13_command_105 : decode cX13_command 105 = .ok (.invokevirtual 236, 3) := by decide +kernel
theorem dX13_command_108 : decode cX13_command 108 = .ok (.istore 6, 2) := by decide +kernel
theorem dX13_command_110 : decode cX13_command 110 = .ok (.return_, 1) := by decide +kernel
theorem dX13_commands_0 : decode cX13_commands 0 = .ok (.aload_n 0, 1) := by decide +kernel
theorem dX13_commands_1 : decode cX13_commands 1 = .ok (.iconst 0, 1) := by decide +kernel
theorem dX13_commands_2 : decode cX13_commands 2 = .ok (.putfield 211, 3) := by decide +kernel
theorem dX13_commands_5 : decode cX13_commands 5 = .ok (.aload_n 0, 1) := by decide +kernel
theorem dX13_commands_6 : decode cX13_commands 6 = .ok (.iconst 0, 1) := by decide +kernel
theorem dX13_commands_7 : decode cX13_commands 7 = .ok (.putfield 217, 3) := by decide +kernel
theorem dX13_commands_10 : decode cX13_commands 10 = .ok (.iconst 1, 1) := by decide +kernel
theorem dX13_commands_11 : decode cX13_commands 11 = .ok (.istore_n 1, 1) := by decide +kernel
theorem dX13_commands_12 : decode cX13_commands 12 = .ok (.aload_n 0, 1) := by decide +kernel
theorem dX13_commands_13 : decode cX13_commands 13 = .ok (.invokevirtual 240, 3) := by decide +kernel
theorem dX13_commands_16 : decode cX13_commands 16 = .ok (.aload_n 0, 1) := by decide +kernel
theorem dX13_commands_17 : decode cX13_commands 17 = .ok (.getfield 217, 3) := by decide +kernel
theorem dX13_commands_20 : decode cX13_commands 20 = .ok (.ifCond .ne 44, 3) := by decide +kernel
theorem dX13_commands_23 : decode cX13_commands 23 = .ok (.aload_n 0, 1) := by decide +kernel
theorem dX13_commands_24 : decode cX13_commands 24 = .ok (.getfield 59, 3) := by decide +kernel
theorem dX13_commands_27 : decode cX13_commands 27 = .ok (.ifCond .ne 37, 3) := by decide +kernel
theorem dX13_commands_30 : decode cX13_commands 30 = .ok (.aload_n 0, 1) := by decide +kernel
theorem dX13_commands_31 : decode cX13_commands 31 = .ok (.getfield 211, 3) := by decide +kernel
theorem dX13_commands_34 : decode cX13_commands 34 = .ok (.aload_n 0, 1) := by decide +kernel
theorem dX13_commands_35 : decode cX13_commands 35 = .ok (.getfield 214, 3) := by decide +kernel
theorem dX13_commands_38 : decode cX13_commands 38 = .ok (.if_icmp .ge 26, 3) := by decide +kernel
theorem dX13_commands_41 : decode cX13_commands 41 = .ok (.aload_n 0, 1) := by decide +kernel
theorem dX13_commands_42 : decode cX13_commands 42 = .ok (.bipush 59, 2) := by decide +kernel
theorem dX13_commands_44 : decode cX13_commands 44 = .ok (.invokevirtual 224, 3) := by decide +kernel
theorem dX13_commands_47 : decode cX13_commands 47 = .ok (.aload_n 0, 1) := by decide +kernel
theorem dX13_commands_48 : decode cX13_commands 48 = .ok (.getfield 217, 3) := by decide +kernel
theorem dX13_commands_51 : decode cX13_commands 51 = .ok (.ifCond .ne 7, 3) := by decide +kernel
theorem dX13_commands_54 : decode cX13_commands 54 = .ok (.aload_n 0, 1) := by decide +kernel
theorem dX13_commands_55 : decode cX13_commands 55 = .ok (.invokevirtual 240, 3) := by decide +kernel
theorem dX13_commands_58 : decode cX13_commands 58 = .ok (.iinc 1 1, 3) := by decide +kernel
theorem dX13_commands_61 : decode cX13_commands 61 = .ok (.goto (-45), 3) := by decide +kernel
theorem dX13_commands_64 : decode cX13_commands 64 = .ok (.iload_n 1, 1) := by decide +kernel
theorem dX13_commands_65 : decode cX13_commands 65 = .ok (.ireturn, 1) := by decide +kernel
theorem dX13_execute_0 : decode cX13_execute 0 = .ok (.aload_n 0, 1) := by decide +kernel
theorem dX13_execute_1 : decode cX13_execute 1 = .ok (.invokevirtual 91, 3) := by decide +kernel
theorem dX13_execute_4 : decode cX13_execute 4 = .ok (.aload_n 0, 1) := by decide +kernel
theorem dX13_execute_5 : decode cX13_execute 5 = .ok (.aload_n 0, 1) := by decide +kernel
theorem dX13_execute_6 : decode cX13_execute 6 = .ok (.getfield 208, 3) := by decide +kernel
theorem dX13_execute_9 : decode cX13_execute 9 = .ok (.putfield 214, 3) := by decide +kernel
theorem dX13_execute_12 : decode cX13_execute 12 = .ok (.aload_n 0, 1) := by decide +kernel
theorem dX13_execute_13 : decode cX13_execute 13 = .ok (.iconst 0, 1) := by decide +kernel
theorem dX13_execute_14 : decode cX13_execute 14 = .ok (.putfield 208, 3) := by decide +kernel
theorem dX13_execute_17 : decode cX13_execute 17 = .ok (.aload_n 0, 1) := by decide +kernel
theorem dX13_execute_18 : decode cX13_execute 18 = .ok (.iconst 0, 1) := by decide +kernel
theorem dX13_execute_19 : decode cX13_execute 19 = .ok (.putfield 233, 3) := by decide +kernel
theorem dX13_execute_22 : decode cX13_execute 22 = .ok (.aload_n 0, 1) := by decide +kernel
theorem dX13_execute_23 : decode cX13_execute 23 = .ok (.invokevirtual 243, 3) := by decide +kernel
theorem dX13_execute_26 : decode cX13_execute 26 = .ok (.istore_n 1, 1) := by decide +kernel
theorem dX13_execute_27 : decode cX13_execute 27 = .ok (.aload_n 0, 1) := by decide +kernel
theorem dX13_execute_28 : decode cX13_execute 28 = .ok (.getfield 217, 3) := by decide +kernel
theorem dX13_execute_31 : decode cX13_execute 31 = .ok (.ifCond .eq 17, 3) := by decide +kernel
theorem dX13_execute_34 : decode cX13_execute 34 = .ok (.aload_n 0, 1) := by decide +kernel
theorem dX13_execute_35 : decode cX13_execute 35 = .ok (.aload_n 0, 1) := by decide +kernel
theorem dX13_execute_36 : decode cX13_execute 36 = .ok (.getfield 211, 3) := by decide +kernel
theorem dX13_execute_39 : decode cX13_execute 39 = .ok (.putfield 7, 3) := by decide +kernel
theorem dX13_execute_42 : decode cX13_execute 42 = .ok (.aload_n 0, 1) := by decide +kernel
theorem dX13_execute_43 : decode cX13_execute 43 = .ok (.iconst 1, 1) := by decide +kernel
theorem dX13_execute_44 : decode cX13_execute 44 = .ok (.invokevirtual 81, 3) := by decide +kernel
theorem dX13_execute_47 : decode cX13_execute 47 = .ok (.ireturn, 1) := by decide +kernel
theorem dX13_execute_48 : decode cX13_execute 48 = .ok (.aload_n 0, 1) := by decide +kernel
theorem dX13_execute_49 : decode cX13_execute 49 = .ok (.iconst 1, 1) := by decide +kernel
theorem dX13_execute_50 : decode cX13_execute 50 = .ok (.putfield 233, 3) := by decide +kernel
theorem dX13_execute_53 : decode cX13_execute 53 = .ok (.aload_n 0, 1) := by decide +kernel
theorem dX13_execute_54 : decode cX13_execute 54 = .ok (.invokevirtual 243, 3) := by decide +kernel
theorem dX13_execute_57 : decode cX13_execute 57 = .ok (.istore_n 1, 1) := by decide +kernel
theorem dX13_execute_58 : decode cX13_execute 58 = .ok (.aload_n 0, 1) := by decide +kernel
theorem dX13_execute_59 : decode cX13_execute 59 = .ok (.getfield 59, 3) := by decide +kernel
theorem dX13_execute_62 : decode cX13_execute 62 = .ok (.ifCond .eq 15, 3) := by decide +kernel
theorem dX13_execute_65 : decode cX13_execute 65 = .ok (.aload_n 0, 1) := by decide +kernel
theorem dX13_execute_66 : decode cX13_execute 66 = .ok (.iload_n 1, 1) := by decide +kernel
theorem dX13_execute_67 : decode cX13_execute 67 = .ok (.iconst 1, 1) := by decide +kernel
theorem dX13_execute_68 : decode cX13_execute 68 = .ok (.isub, 1) := by decide +kernel
theorem dX13_execute_69 : decode cX13_execute 69 = .ok (.putfield 13, 3) := by decide +kernel
theorem dX13_execute_72 : decode cX13_execute 72 = .ok (.aload_n 0, 1) := by decide +kernel
theorem dX13_execute_73 : decode cX13_execute 73 = .ok (.iconst 2, 1) := by decide +kernel
theorem dX13_execute_74 : decode cX13_execute 74 = .ok (.putfield 59, 3) := by decide +kernel
theorem dX13_execute_77 : decode cX13_execute 77 = .ok (.aload_n 0, 1) := by decide +kernel
theorem dX13_execute_78 : decode cX13_execute 78 = .ok (.iload_n 1, 1) := by decide +kernel
theorem dX13_execute_79 : decode cX13_execute 79 = .ok (.invokevirtual 98, 3) := by decide +kernel
theorem dX13_execute_82 : decode cX13_execute 82 = .ok (.ireturn, 1) := by decide +kernel
theorem dX13_errorPosition_0 : decode cX13_errorPosition 0 = .ok (.aload_n 0, 1) := by decide +kernel
theorem dX13_errorPosition_1 : decode cX13_errorPosition 1 = .ok (.aload_n 0, 1) := by decide +kernel
theorem dX13_errorPosition_2 : decode cX13_errorPosition 2 = .ok (.getfield 7, 3) := by decide +kernel
theorem dX13_errorPosition_5 : decode cX13_errorPosition 5 = .ok (.ifCond .ge 7, 3) := by decide +kernel
theorem dX13_errorPosition_8 : decode cX13_errorPosition 8 = .ok (.iconst 1, 1) := by decide +kernel
theorem dX13_errorPosition_9 : decode cX13_errorPosition 9 = .ok (.goto 4, 3) := by decide +kernel
theorem dX13_errorPosition_12 : decode cX13_errorPosition 12 = .ok (.iconst 0, 1) := by decide +kernel
theorem dX13_errorPosition_13 : decode cX13_errorPosition 13 = .ok (.putfield 59, 3) := by decide +kernel
theorem dX13_errorPosition_16 : decode cX13_errorPosition 16 = .ok (.aload_n 0, 1) := by decide +kernel
theorem dX13_errorPosition_17 : decode cX13_errorPosition 17 = .ok (.getfield 59, 3) := by decide +kernel
theorem dX13_errorPosition_20 : decode cX13_errorPosition 20 = .ok (.ifCond .ne 10, 3) := by decide +kernel
theorem dX13_errorPosition_23 : decode cX13_errorPosition 23 = .ok (.aload_n 0, 1) := by decide +kernel
theorem dX13_errorPosition_24 : decode cX13_errorPosition 24 = .ok (.getfield 7, 3) := by decide +kernel
theorem dX13_errorPosition_27 : decode cX13_errorPosition 27 = .ok (.goto 4, 3) := by decide +kernel
theorem dX13_errorPosition_30 : decode cX13_errorPosition 30 = .ok (.iconst 0, 1) := by decide +kernel
theorem dX13_errorPosition_31 : decode cX13_errorPosition 31 = .ok (.ireturn, 1) := by decide +kernel
theorem dX13_failedCommand_0 : decode cX13_failedCommand 0 = .ok (.aload_n 0, 1) := by decide +kernel
theorem dX13_failedCommand_1 : decode cX13_failedCommand 1 = .ok (.aload_n 0, 1) := by decide +kernel
theorem dX13_failedCommand_2 : decode cX13_failedCommand 2 = .ok (.getfield 13, 3) := by decide +kernel
theorem dX13_failedCommand_5 : decode cX13_failedCommand 5 = .ok (.ifCond .ge 7, 3) := by decide +kernel
theorem dX13_failedCommand_8 : decode cX13_failedCommand 8 = .ok (.iconst 1, 1) := by decide +kernel
theorem dX13_failedCommand_9 : decode cX13_failedCommand 9 = .ok (.goto 4, 3) := by decide +kernel
theorem dX13_failedCommand_12 : decode cX13_failedCommand 12 = .ok (.iconst 0, 1) := by decide +kernel
theorem dX13_failedCommand_13 : decode cX13_failedCommand 13 = .ok (.putfield 59, 3) := by decide +kernel
theorem dX13_failedCommand_16 : decode cX13_failedCommand 16 = .ok (.aload_n 0, 1) := by decide +kernel
theorem dX13_failedCommand_17 : decode cX13_failedCommand 17 = .ok (.getfield 59, 3) := by decide +kernel
theorem dX13_failedCommand_20 : decode cX13_failedCommand 20 = .ok (.ifCond .ne 10, 3) := by decide +kernel
theorem dX13_failedCommand_23 : decode cX13_failedCommand 23 = .ok (.aload_n 0, 1) := by decide +kernel
theorem dX13_failedCommand_24 : decode cX13_failedCommand 24 = .ok (.getfield 13, 3) := by decide +kernel
theorem dX13_failedCommand_27 : decode cX13_failedCommand 27 = .ok (.goto 4, 3) := by decide +kernel
theorem dX13_failedCommand_30 : decode cX13_failedCommand 30 = .ok (.iconst 0, 1) := by decide +kernel
theorem dX13_failedCommand_31 : decode cX13_failedCommand 31 = .ok (.ireturn, 1) := by decide +kernel
theorem dX13_undo_0 : decode cX13_undo 0 = .ok (.aload_n 0, 1) := by decide +kernel
theorem dX13_undo_1 : decode cX13_undo 1 = .ok (.aload_n 0, 1) := by decide +kernel
theorem dX13_undo_2 : decode cX13_undo 2 = .ok (.getfield 66, 3) := by decide +kernel
theorem dX13_undo_5 : decode cX13_undo 5 = .ok (.ifCond .ne 7, 3) := by decide +kernel
theorem dX13_undo_8 : decode cX13_undo 8 = .ok (.iconst 1, 1) := by decide +kernel
theorem dX13_undo_9 : decode cX13_undo 9 = .ok (.goto 4, 3) := by decide +kernel
theorem dX13_undo_12 : decode cX13_undo 12 = .ok (.iconst 0, 1) := by decide +kernel
theorem dX13_undo_13 : decode cX13_undo 13 = .ok (.putfield 59, 3) := by decide +kernel
theorem dX13_undo_16 : decode cX13_undo 16 = .ok (.aload_n 0, 1) := by decide +kernel
theorem dX13_undo_17 : decode cX13_undo 17 = .ok (.getfield 59, 3) := by decide +kernel
theorem dX13_undo_20 : decode cX13_undo 20 = .ok (.ifCond .eq 5, 3) := by decide +kernel
theorem dX13_undo_23 : decode cX13_undo 23 = .ok (.iconst 0, 1) := by decide +kernel
theorem dX13_undo_24 : decode cX13_undo 24 = .ok (.ireturn, 1) := by decide +kernel
theorem dX13_undo_25 : decode cX13_undo 25 = .ok (.aload_n 0, 1) := by decide +kernel
theorem dX13_undo_26 : decode cX13_undo 26 = .ok (.dup, 1) := by decide +kernel
theorem dX13_undo_27 : decode cX13_undo 27 = .ok (.getfield 66, 3) := by decide +kernel
theorem dX13_undo_30 : decode cX13_undo 30 = .ok (.iconst 1, 1) := by decide +kernel
theorem dX13_undo_31 : decode cX13_undo 31 = .ok (.isub, 1) := by decide +kernel
theorem dX13_undo_32 : decode cX13_undo 32 = .ok (.putfield 66, 3) := by decide +kernel
theorem dX13_undo_35 : decode cX13_undo 35 = .ok (.iconst 0, 1) := by decide +kernel
theorem dX13_undo_36 : decode cX13_undo 36 = .ok (.istore_n 1, 1) := by decide +kernel
theorem dX13_undo_37 : decode cX13_undo 37 = .ok (.iload_n 1, 1) := by decide +kernel
theorem dX13_undo_38 : decode cX13_undo 38 = .ok (.bipush 62, 2) := by decide +kernel
theorem dX13_undo_40 : decode cX13_undo 40 = .ok (.if_icmp .ge 29, 3) := by decide +kernel
theorem dX13_undo_43 : decode cX13_undo 43 = .ok (.aload_n 0, 1) := by decide +kernel
theorem dX13_undo_44 : decode cX13_undo 44 = .ok (.getfield 16, 3) := by decide +kernel
theorem dX13_undo_47 : decode cX13_undo 47 = .ok (.iload_n 1, 1) := by decide +kernel
theorem dX13_undo_48 : decode cX13_undo 48 = .ok (.aload_n 0, 1) := by decide +kernel
theorem dX13_undo_49 : decode cX13_undo 49 = .ok (.getfield 26, 3) := by decide +kernel
theorem dX13_undo_52 : decode cX13_undo 52 = .ok (.aload_n 0, 1) := by decide +kernel
theorem dX13_undo_53 : decode cX13_undo 53 = .ok (.getfield 66, 3) := by decide +kernel
theorem dX13_undo_56 : decode cX13_undo 56 = .ok (.bipush 62, 2) := by decide +kernel
theorem dX13_undo_58 : decode cX13_undo 58 = .ok (.imul, 1) := by decide +kernel
theorem dX13_undo_59 : decode cX13_undo 59 = .ok (.iload_n 1, 1) := by decide +kernel
theorem dX13_undo_60 : decode cX13_undo 60 = .ok (.iadd, 1) := by decide +kernel
theorem dX13_undo_61 : decode cX13_undo 61 = .ok (.iaload, 1) := by decide +kernel
theorem dX13_undo_62 : decode cX13_undo 62 = .ok (.iastore, 1) := by decide +kernel
theorem dX13_undo_63 : decode cX13_undo 63 = .ok (.iinc 1 1, 3) := by decide +kernel
theorem dX13_undo_66 : decode cX13_undo 66 = .ok (.goto (-29), 3) := by decide +kernel
theorem dX13_undo_69 : decode cX13_undo 69 = .ok (.aload_n 0, 1) := by decide +kernel
theorem dX13_undo_70 : decode cX13_undo 70 = .ok (.getfield 66, 3) := by decide +kernel
theorem dX13_undo_73 : decode cX13_undo 73 = .ok (.ireturn, 1) := by decide +kernel
theorem dX13_save_0 : decode cX13_save 0 = .ok (.aload_n 0, 1) := by decide +kernel
theorem dX13_save_1 : decode cX13_save 1 = .ok (.iconst 0, 1) := by decide +kernel
theorem dX13_save_2 : decode cX13_save 2 = .ok (.putfield 59, 3) := by decide +kernel
theorem dX13_save_5 : decode cX13_save 5 = .ok (.aload_n 0, 1) := by decide +kernel
theorem dX13_save_6 : decode cX13_save 6 = .ok (.getfield 23, 3) := by decide +kernel
theorem dX13_save_9 : decode cX13_save 9 = .ok (.aload_n 0, 1) := by decide +kernel
theorem dX13_save_10 : decode cX13_save 10 = .ok (.getfield 16, 3) := by decide +kernel
theorem dX13_save_13 : decode cX13_save 13 = .ok (.invokestatic 62, 3) := by decide +kernel
theorem dX13_save_16 : decode cX13_save 16 = .ok (.aload_n 0, 1) := by decide +kernel
theorem dX13_save_17 : decode cX13_save 17 = .ok (.iconst 1, 1) := by decide +kernel
theorem dX13_save_18 : decode cX13_save 18 = .ok (.putfield 246, 3) := by decide +kernel
theorem dX13_save_21 : decode cX13_save 21 = .ok (.aload_n 0, 1) := by decide +kernel
theorem dX13_save_22 : decode cX13_save 22 = .ok (.getfield 16, 3) := by decide +kernel
theorem dX13_save_25 : decode cX13_save 25 = .ok (.iconst 3, 1) := by decide +kernel
theorem dX13_save_26 : decode cX13_save 26 = .ok (.iaload, 1) := by decide +kernel
theorem dX13_save_27 : decode cX13_save 27 = .ok (.ireturn, 1) := by decide +kernel
theorem dX13_restore_0 : decode cX13_restore 0 = .ok (.aload_n 0, 1) := by decide +kernel
theorem dX13_restore_1 : decode cX13_restore 1 = .ok (.aload_n 0, 1) := by decide +kernel
theorem dX13_restore_2 : decode cX13_restore 2 = .ok (.getfield 246, 3) := by decide +kernel
theorem dX13_restore_5 : decode cX13_restore 5 = .ok (.ifCond .eq 7, 3) := by decide +kernel
theorem dX13_restore_8 : decode cX13_restore 8 = .ok (.iconst 0, 1) := by decide +kernel
theorem dX13_restore_9 : decode cX13_restore 9 = .ok (.goto 4, 3) := by decide +kernel
theorem dX13_restore_12 : decode cX13_restore 12 = .ok (.iconst 1, 1) := by decide +kernel
theorem dX13_restore_13 : decode cX13_restore 13 = .ok (.putfield 59, 3) := by decide +kernel
theorem dX13_restore_16 : decode cX13_restore 16 = .ok (.aload_n 0, 1) := by decide +kernel
theorem dX13_restore_17 : decode cX13_restore 17 = .ok (.getfield 59, 3) := by decide +kernel
theorem dX13_restore_20 : decode cX13_restore 20 = .ok (.ifCond .eq 5, 3) := by decide +kernel
theorem dX13_restore_23 : decode cX13_restore 23 = .ok (.iconst 0, 1) := by decide +kernel
theorem dX13_restore_24 : decode cX13_restore 24 = .ok (.ireturn, 1) := by decide +kernel
theorem dX13_restore_25 : decode cX13_restore 25 = .ok (.aload_n 0, 1) := by decide +kernel
theorem dX13_restore_26 : decode cX13_restore 26 = .ok (.getfield 16, 3) := by decide +kernel
theorem dX13_restore_29 : decode cX13_restore 29 = .ok (.aload_n 0, 1) := by decide +kernel
theorem dX13_restore_30 : decode cX13_restore 30 = .ok (.getfield 23, 3) := by decide +kernel
theorem dX13_restore_33 : decode cX13_restore 33 = .ok (.invokestatic 62, 3) := by decide +kernel
theorem dX13_restore_36 : decode cX13_restore 36 = .ok (.aload_n 0, 1) := by decide +kernel
theorem dX13_restore_37 : decode cX13_restore 37 = .ok (.iconst 0, 1) := by decide +kernel
theorem dX13_restore_38 : decode cX13_restore 38 = .ok (.putfield 66, 3) := by decide +kernel
theorem dX13_restore_41 : decode cX13_restore 41 = .ok (.aload_n 0, 1) := by decide +kernel
theorem dX13_restore_42 : decode cX13_restore 42 = .ok (.getfield 16, 3) := by decide +kernel
theorem dX13_restore_45 : decode cX13_restore 45 = .ok (.iconst 3, 1) := by decide +kernel
theorem dX13_restore_46 : decode cX13_restore 46 = .ok (.iaload, 1) := by decide +kernel
theorem dX13_restore_47 : decode cX13_restore 47 = .ok (.ireturn, 1) := by decide +kernel
