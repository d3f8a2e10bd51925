theorem d_La_law_0 : decode code 0 = .ok (.new 7, 3) := by decide +kernel
theorem d_La_law_3 : decode code 3 = .ok (.dup, 1) := by decide +kernel
theorem d_La_law_4 : decode code 4 = .ok (.invokespecial 9, 3) := by decide +kernel
theorem d_La_law_7 : decode code 7 = .ok (.astore_n 1, 1) := by decide +kernel
theorem d_La_law_8 : decode code 8 = .ok (.new 10, 3) := by decide +kernel
theorem d_La_law_11 : decode code 11 = .ok (.dup, 1) := by decide +kernel
theorem d_La_law_12 : decode code 12 = .ok (.invokespecial 12, 3) := by decide +kernel
theorem d_La_law_15 : decode code 15 = .ok (.astore_n 2, 1) := by decide +kernel
theorem d_La_law_16 : decode code 16 = .ok (.iconst 0, 1) := by decide +kernel
theorem d_La_law_17 : decode code 17 = .ok (.istore_n 3, 1) := by decide +kernel
theorem d_La_law_18 : decode code 18 = .ok (.iload_n 3, 1) := by decide +kernel
theorem d_La_law_19 : decode code 19 = .ok (.aload_n 0, 1) := by decide +kernel
theorem d_La_law_20 : decode code 20 = .ok (.arraylength, 1) := by decide +kernel
theorem d_La_law_21 : decode code 21 = .ok (.bipush 6, 2) := by decide +kernel
theorem d_La_law_23 : decode code 23 = .ok (.isub, 1) := by decide +kernel
theorem d_La_law_24 : decode code 24 = .ok (.if_icmp .gt 484, 3) := by decide +kernel
theorem d_La_law_27 : decode code 27 = .ok (.aload_n 0, 1) := by decide +kernel
theorem d_La_law_28 : decode code 28 = .ok (.iload_n 3, 1) := by decide +kernel
theorem d_La_law_29 : decode code 29 = .ok (.iaload, 1) := by decide +kernel
theorem d_La_law_30 : decode code 30 = .ok (.bipush 15, 2) := by decide +kernel
theorem d_La_law_32 : decode code 32 = .ok (.iand, 1) := by decide +kernel
theorem d_La_law_33 : decode code 33 = .ok (.tableswitch 469 0 11 #[63, 126, 149, 162, 215, 248, 271, 304, 337, 370, 403, 446], 63) := by decide +kernel
theorem d_La_law_96 : decode code 96 = .ok (.aload_n 1, 1) := by decide +kernel
theorem d_La_law_97 : decode code 97 = .ok (.aload_n 0, 1) := by decide +kernel
theorem d_La_law_98 : decode code 98 = .ok (.iload_n 3, 1) := by decide +kernel
theorem d_La_law_99 : decode code 99 = .ok (.iconst 1, 1) := by decide +kernel
theorem d_La_law_100 : decode code 100 = .ok (.iadd, 1) := by decide +kernel
theorem d_La_law_101 : decode code 101 = .ok (.iaload, 1) := by decide +kernel
theorem d_La_law_102 : decode code 102 = .ok (.aload_n 0, 1) := by decide +kernel
theorem d_La_law_103 : decode code 103 = .ok (.iload_n 3, 1) := by decide +kernel
theorem d_La_law_104 : decode code 104 = .ok (.iconst 2, 1) := by decide +kernel
theorem d_La_law_105 : decode code 105 = .ok (.iadd, 1) := by decide +kernel
theorem d_La_law_106 : decode code 106 = .ok (.iaload, 1) := by decide +kernel
theorem d_La_law_107 : decode code 107 = .ok (.aload_n 0, 1) := by decide +kernel
theorem d_La_law_108 : decode code 108 = .ok (.iload_n 3, 1) := by decide +kernel
theorem d_La_law_109 : decode code 109 = .ok (.iconst 3, 1) := by decide +kernel
theorem d_La_law_110 : decode code 110 = .ok (.iadd, 1) := by decide +kernel
theorem d_La_law_111 : decode code 111 = .ok (.iaload, 1) := by decide +kernel
theorem d_La_law_112 : decode code 112 = .ok (.aload_n 0, 1) := by decide +kernel
theorem d_La_law_113 : decode code 113 = .ok (.iload_n 3, 1) := by decide +kernel
theorem d_La_law_114 : decode code 114 = .ok (.iconst 4, 1) := by decide +kernel
theorem d_La_law_115 : decode code 115 = .ok (.iadd, 1) := by decide +kernel
theorem d_La_law_116 : decode code 116 = .ok (.iaload, 1) := by decide +kernel
theorem d_La_law_117 : decode code 117 = .ok (.aload_n 0, 1) := by decide +kernel
theorem d_La_law_118 : decode code 118 = .ok (.iload_n 3, 1) := by decide +kernel
theorem d_La_law_119 : decode code 119 = .ok (.iconst 5, 1) := by decide +kernel
theorem d_La_law_120 : decode code 120 = .ok (.iadd, 1) := by decide +kernel
theorem d_La_law_121 : decode code 121 = .ok (.iaload, 1) := by decide +kernel
theorem d_La_law_122 : decode code 122 = .ok (.invokevirtual 13, 3) := by decide +kernel
theorem d_La_law_125 : decode code 125 = .ok (.aload_n 2, 1) := by decide +kernel
theorem d_La_law_126 : decode code 126 = .ok (.aload_n 0, 1) := by decide +kernel
theorem d_La_law_127 : decode code 127 = .ok (.iload_n 3, 1) := by decide +kernel
theorem d_La_law_128 : decode code 128 = .ok (.iconst 1, 1) := by decide +kernel
theorem d_La_law_129 : decode code 129 = .ok (.iadd, 1) := by decide +kernel
theorem d_La_law_130 : decode code 130 = .ok (.iaload, 1) := by decide +kernel
theorem d_La_law_131 : decode code 131 = .ok (.aload_n 0, 1) := by decide +kernel
theorem d_La_law_132 : decode code 132 = .ok (.iload_n 3, 1) := by decide +kernel
theorem d_La_law_133 : decode code 133 = .ok (.iconst 2, 1) := by decide +kernel
theorem d_La_law_134 : decode code 134 = .ok (.iadd, 1) := by decide +kernel
theorem d_La_law_135 : decode code 135 = .ok (.iaload, 1) := by decide +kernel
theorem d_La_law_136 : decode code 136 = .ok (.aload_n 0, 1) := by decide +kernel
theorem d_La_law_137 : decode code 137 = .ok (.iload_n 3, 1) := by decide +kernel
theorem d_La_law_138 : decode code 138 = .ok (.iconst 3, 1) := by decide +kernel
theorem d_La_law_139 : decode code 139 = .ok (.iadd, 1) := by decide +kernel
theorem d_La_law_140 : decode code 140 = .ok (.iaload, 1) := by decide +kernel
theorem d_La_law_141 : decode code 141 = .ok (.aload_n 0, 1) := by decide +kernel
theorem d_La_law_142 : decode code 142 = .ok (.iload_n 3, 1) := by decide +kernel
theorem d_La_law_143 : decode code 143 = .ok (.iconst 4, 1) := by decide +kernel
theorem d_La_law_144 : decode code 144 = .ok (.iadd, 1) := by decide +kernel
theorem d_La_law_145 : decode code 145 = .ok (.iaload, 1) := by decide +kernel
theorem d_La_law_146 : decode code 146 = .ok (.aload_n 0, 1) := by decide +kernel
theorem d_La_law_147 : decode code 147 = .ok (.iload_n 3, 1) := by decide +kernel
theorem d_La_law_148 : decode code 148 = .ok (.iconst 5, 1) := by decide +kernel
theorem d_La_law_149 : decode code 149 = .ok (.iadd, 1) := by decide +kernel
theorem d_La_law_150 : decode code 150 = .ok (.iaload, 1) := by decide +kernel
theorem d_La_law_151 : decode code 151 = .ok (.invokevirtual 17, 3) := by decide +kernel
theorem d_La_law_154 : decode code 154 = .ok (.if_icmp .eq 348, 3) := by decide +kernel
theorem d_La_law_157 : decode code 157 = .ok (.iconst 0, 1) := by decide +kernel
theorem d_La_law_158 : decode code 158 = .ok (.ireturn, 1) := by decide +kernel
theorem d_La_law_159 : decode code 159 = .ok (.aload_n 1, 1) := by decide +kernel
theorem d_La_law_160 : decode code 160 = .ok (.aload_n 0, 1) := by decide +kernel
theorem d_La_law_161 : decode code 161 = .ok (.iload_n 3, 1) := by decide +kernel
theorem d_La_law_162 : decode code 162 = .ok (.iconst 1, 1) := by decide +kernel
theorem d_La_law_163 : decode code 163 = .ok (.iadd, 1) := by decide +kernel
theorem d_La_law_164 : decode code 164 = .ok (.iaload, 1) := by decide +kernel
theorem d_La_law_165 : decode code 165 = .ok (.invokevirtual 18, 3) := by decide +kernel
theorem d_La_law_168 : decode code 168 = .ok (.aload_n 2, 1) := by decide +kernel
theorem d_La_law_169 : decode code 169 = .ok (.aload_n 0, 1) := by decide +kernel
theorem d_La_law_170 : decode code 170 = .ok (.iload_n 3, 1) := by decide +kernel
theorem d_La_law_171 : decode code 171 = .ok (.iconst 1, 1) := by decide +kernel
theorem d_La_law_172 : decode code 172 = .ok (.iadd, 1) := by decide +kernel
theorem d_La_law_173 : decode code 173 = .ok (.iaload, 1) := by decide +kernel
theorem d_La_law_174 : decode code 174 = .ok (.invokevirtual 22, 3) := by decide +kernel
theorem d_La_law_177 : decode code 177 = .ok (.if_icmp .eq 325, 3) := by decide +kernel
theorem d_La_law_180 : decode code 180 = .ok (.iconst 0, 1) := by decide +kernel
theorem d_La_law_181 : decode code 181 = .ok (.ireturn, 1) := by decide +kernel
theorem d_La_law_182 : decode code 182 = .ok (.aload_n 1, 1) := by decide +kernel
theorem d_La_law_183 : decode code 183 = .ok (.invokevirtual 23, 3) := by decide +kernel
theorem d_La_law_186 : decode code 186 = .ok (.aload_n 2, 1) := by decide +kernel
theorem d_La_law_187 : decode code 187 = .ok (.invokevirtual 27, 3) := by decide +kernel
theorem d_La_law_190 : decode code 190 = .ok (.if_icmp .eq 312, 3) := by decide +kernel
theorem d_La_law_193 : decode code 193 = .ok (.iconst 0, 1) := by decide +kernel
theorem d_La_law_194 : decode code 194 = .ok (.ireturn, 1) := by decide +kernel
theorem d_La_law_195 : decode code 195 = .ok (.aload_n 1, 1) := by decide +kernel
theorem d_La_law_196 : decode code 196 = .ok (.aload_n 0, 1) := by decide +kernel
theorem d_La_law_197 : decode code 197 = .ok (.iload_n 3, 1) := by decide +kernel
theorem d_La_law_198 : decode code 198 = .ok (.iconst 1, 1) := by decide +kernel
theorem d_La_law_199 : decode code 199 = .ok (.iadd, 1) := by decide +kernel
theorem d_La_law_200 : decode code 200 = .ok (.iaload, 1) := by decide +kernel
theorem d_La_law_201 : decode code 201 = .ok (.aload_n 0, 1) := by decide +kernel
theorem d_La_law_202 : decode code 202 = .ok (.iload_n 3, 1) := by decide +kernel
theorem d_La_law_203 : decode code 203 = .ok (.iconst 2, 1) := by decide +kernel
theorem d_La_law_204 : decode code 204 = .ok (.iadd, 1) := by decide +kernel
theorem d_La_law_205 : decode code 205 = .ok (.iaload, 1) := by decide +kernel
theorem d_La_law_206 : decode code 206 = .ok (.aload_n 0, 1) := by decide +kernel
theorem d_La_law_207 : decode code 207 = .ok (.iload_n 3, 1) := by decide +kernel
theorem d_La_law_208 : decode code 208 = .ok (.iconst 3, 1) := by decide +kernel
theorem d_La_law_209 : decode code 209 = .ok (.iadd, 1) := by decide +kernel
theorem d_La_law_210 : decode code 210 = .ok (.iaload, 1) := by decide +kernel
theorem d_La_law_211 : decode code 211 = .ok (.aload_n 0, 1) := by decide +kernel
theorem d_La_law_212 : decode code 212 = .ok (.iload_n 3, 1) := by decide +kernel
theorem d_La_law_213 : decode code 213 = .ok (.iconst 4, 1) := by decide +kernel
theorem d_La_law_214 : decode code 214 = .ok (.iadd, 1) := by decide +kernel
theorem d_La_law_215 : decode code 215 = .ok (.iaload, 1) := by decide +kernel
theorem d_La_law_216 : decode code 216 = .ok (.invokevirtual 28, 3) := by decide +kernel
theorem d_La_law_219 : decode code 219 = .ok (.aload_n 2, 1) := by decide +kernel
theorem d_La_law_220 : decode code 220 = .ok (.aload_n 0, 1) := by decide +kernel
theorem d_La_law_221 : decode code 221 = .ok (.iload_n 3, 1) := by decide +kernel
theorem d_La_law_222 : decode code 222 = .ok (.iconst 1, 1) := by decide +kernel
theorem d_La_law_223 : decode code 223 = .ok (.iadd, 1) := by decide +kernel
theorem d_La_law_224 : decode code 224 = .ok (.iaload, 1) := by decide +kernel
theorem d_La_law_225 : decode code 225 = .ok (.aload_n 0, 1) := by decide +kernel
theorem d_La_law_226 : decode code 226 = .ok (.iload_n 3, 1) := by decide +kernel
theorem d_La_law_227 : decode code 227 = .ok (.iconst 2, 1) := by decide +kernel
theorem d_La_law_228 : decode code 228 = .ok (.iadd, 1) := by decide +kernel
theorem d_La_law_229 : decode code 229 = .ok (.iaload, 1) := by decide +kernel
theorem d_La_law_230 : decode code 230 = .ok (.aload_n 0, 1) := by decide +kernel
theorem d_La_law_231 : decode code 231 = .ok (.iload_n 3, 1) := by decide +kernel
theorem d_La_law_232 : decode code 232 = .ok (.iconst 3, 1) := by decide +kernel
theorem d_La_law_233 : decode code 233 = .ok (.iadd, 1) := by decide +kernel
theorem d_La_law_234 : decode code 234 = .ok (.iaload, 1) := by decide +kernel
theorem d_La_law_235 : decode code 235 = .ok (.aload_n 0, 1) := by decide +kernel
theorem d_La_law_236 : decode code 236 = .ok (.iload_n 3, 1) := by decide +kernel
theorem d_La_law_237 : decode code 237 = .ok (.iconst 4, 1) := by decide +kernel
theorem d_La_law_238 : decode code 238 = .ok (.iadd, 1) := by decide +kernel
theorem d_La_law_239 : decode code 239 = .ok (.iaload, 1) := by decide +kernel
theorem d_La_law_240 : decode code 240 = .ok (.invokevirtual 32, 3) := by decide +kernel
theorem d_La_law_243 : decode code 243 = .ok (.if_icmp .eq 259, 3) := by decide +kernel
theorem d_La_law_246 : decode code 246 = .ok (.iconst 0, 1) := by decide +kernel
theorem d_La_law_247 : decode code 247 = .ok (.ireturn, 1) := by decide +kernel
theorem d_La_law_248 : decode code 248 = .ok (.aload_n 1, 1) := by decide +kernel
theorem d_La_law_249 : decode code 249 = .ok (.aload_n 0, 1) := by decide +kernel
theorem d_La_law_250 : decode code 250 = .ok (.iload_n 3, 1) := by decide +kernel
theorem d_La_law_251 : decode code 251 = .ok (.iconst 1, 1) := by decide +kernel
theorem d_La_law_252 : decode code 252 = .ok (.iadd, 1) := by decide +kernel
theorem d_La_law_253 : decode code 253 = .ok (.iaload, 1) := by decide +kernel
theorem d_La_law_254 : decode code 254 = .ok (.aload_n 0, 1) := by decide +kernel
theorem d_La_law_255 : decode code 255 = .ok (.iload_n 3, 1) := by decide +kernel
theorem d_La_law_256 : decode code 256 = .ok (.iconst 2, 1) := by decide +kernel
theorem d_La_law_257 : decode code 257 = .ok (.iadd, 1) := by decide +kernel
theorem d_La_law_258 : decode code 258 = .ok (.iaload, 1) := by decide +kernel
theorem d_La_law_259 : decode code 259 = .ok (.invokevirtual 33, 3) := by decide +kernel
theorem d_La_law_262 : decode code 262 = .ok (.aload_n 2, 1) := by decide +kernel
theorem d_La_law_263 : decode code 263 = .ok (.aload_n 0, 1) := by decide +kernel
theorem d_La_law_264 : decode code 264 = .ok (.iload_n 3, 1) := by decide +kernel
theorem d_La_law_265 : decode code 265 = .ok (.iconst 1, 1) := by decide +kernel
theorem d_La_law_266 : decode code 266 = .ok (.iadd, 1) := by decide +kernel
theorem d_La_law_267 : decode code 267 = .ok (.iaload, 1) := by decide +kernel
theorem d_La_law_268 : decode code 268 = .ok (.aload_n 0, 1) := by decide +kernel
theorem d_La_law_269 : decode code 269 = .ok (.iload_n 3, 1) := by decide +kernel
theorem d_La_law_270 : decode code 270 = .ok (.iconst 2, 1) := by decide +kernel
theorem d_La_law_271 : decode code 271 = .ok (.iadd, 1) := by decide +kernel
theorem d_La_law_272 : decode code 272 = .ok (.iaload, 1) := by decide +kernel
theorem d_La_law_273 : decode code 273 = .ok (.invokevirtual 37, 3) := by decide +kernel
theorem d_La_law_276 : decode code 276 = .ok (.if_icmp .eq 226, 3) := by decide +kernel
theorem d_La_law_279 : decode code 279 = .ok (.iconst 0, 1) := by decide +kernel
theorem d_La_law_280 : decode code 280 = .ok (.ireturn, 1) := by decide +kernel
theorem d_La_law_281 : decode code 281 = .ok (.aload_n 1, 1) := by decide +kernel
theorem d_La_law_282 : decode code 282 = .ok (.aload_n 0, 1) := by decide +kernel
theorem d_La_law_283 : decode code 283 = .ok (.iload_n 3, 1) := by decide +kernel
theorem d_La_law_284 : decode code 284 = .ok (.iconst 1, 1) := by decide +kernel
theorem d_La_law_285 : decode code 285 = .ok (.iadd, 1) := by decide +kernel
theorem d_La_law_286 : decode code 286 = .ok (.iaload, 1) := by decide +kernel
theorem d_La_law_287 : decode code 287 = .ok (.invokevirtual 38, 3) := by decide +kernel
theorem d_La_law_290 : decode code 290 = .ok (.aload_n 2, 1) := by decide +kernel
theorem d_La_law_291 : decode code 291 = .ok (.aload_n 0, 1) := by decide +kernel
theorem d_La_law_292 : decode code 292 = .ok (.iload_n 3, 1) := by decide +kernel
theorem d_La_law_293 : decode code 293 = .ok (.iconst 1, 1) := by decide +kernel
theorem d_La_law_294 : decode code 294 = .ok (.iadd, 1) := by decide +kernel
theorem d_La_law_295 : decode code 295 = .ok (.iaload, 1) := by decide +kernel
theorem d_La_law_296 : decode code 296 = .ok (.invokevirtual 42, 3) := by decide +kernel
theorem d_La_law_299 : decode code 299 = .ok (.if_icmp .eq 203, 3) := by decide +kernel
theorem d_La_law_302 : decode code 302 = .ok (.iconst 0, 1) := by decide +kernel
theorem d_La_law_303 : decode code 303 = .ok (.ireturn, 1) := by decide +kernel
theorem d_La_law_304 : decode code 304 = .ok (.aload_n 1, 1) := by decide +kernel
theorem d_La_law_305 : decode code 305 = .ok (.aload_n 0, 1) := by decide +kernel
theorem d_La_law_306 : decode code 306 = .ok (.iload_n 3, 1) := by decide +kernel
theorem d_La_law_307 : decode code 307 = .ok (.iconst 1, 1) := by decide +kernel
theorem d_La_law_308 : decode code 308 = .ok (.iadd, 1) := by decide +kernel
theorem d_La_law_309 : decode code 309 = .ok (.iaload, 1) := by decide +kernel
theorem d_La_law_310 : decode code 310 = .ok (.aload_n 0, 1) := by decide +kernel
theorem d_La_law_311 : decode code 311 = .ok (.iload_n 3, 1) := by decide +kernel
theorem d_La_law_312 : decode code 312 = .ok (.iconst 2, 1) := by decide +kernel
theorem d_La_law_313 : decode code 313 = .ok (.iadd, 1) := by decide +kernel
theorem d_La_law_314 : decode code 314 = .ok (.iaload, 1) := by decide +kernel
theorem d_La_law_315 : decode code 315 = .ok (.invokevirtual 43, 3) := by decide +kernel
theorem d_La_law_318 : decode code 318 = .ok (.aload_n 2, 1) := by decide +kernel
theorem d_La_law_319 : decode code 319 = .ok (.aload_n 0, 1) := by decide +kernel
theorem d_La_law_320 : decode code 320 = .ok (.iload_n 3, 1) := by decide +kernel
theorem d_La_law_321 : decode code 321 = .ok (.iconst 1, 1) := by decide +kernel
theorem d_La_law_322 : decode code 322 = .ok (.iadd, 1) := by decide +kernel
theorem d_La_law_323 : decode code 323 = .ok (.iaload, 1) := by decide +kernel
theorem d_La_law_324 : decode code 324 = .ok (.aload_n 0, 1) := by decide +kernel
theorem d_La_law_325 : decode code 325 = .ok (.iload_n 3, 1) := by decide +kernel
theorem d_La_law_326 : decode code 326 = .ok (.iconst 2, 1) := by decide +kernel
theorem d_La_law_327 : decode code 327 = .ok (.iadd, 1) := by decide +kernel
theorem d_La_law_328 : decode code 328 = .ok (.iaload, 1) := by decide +kernel
theorem d_La_law_329 : decode code 329 = .ok (.invokevirtual 46, 3) := by decide +kernel
theorem d_La_law_332 : decode code 332 = .ok (.if_icmp .eq 170, 3) := by decide +kernel
theorem d_La_law_335 : decode code 335 = .ok (.iconst 0, 1) := by decide +kernel
theorem d_La_law_336 : decode code 336 = .ok (.ireturn, 1) := by decide +kernel
theorem d_La_law_337 : decode code 337 = .ok (.aload_n 1, 1) := by decide +kernel
theorem d_La_law_338 : decode code 338 = .ok (.aload_n 0, 1) := by decide +kernel
theorem d_La_law_339 : decode code 339 = .ok (.iload_n 3, 1) := by decide +kernel
theorem d_La_law_340 : decode code 340 = .ok (.iconst 1, 1) := by decide +kernel
theorem d_La_law_341 : decode code 341 = .ok (.iadd, 1) := by decide +kernel
theorem d_La_law_342 : decode code 342 = .ok (.iaload, 1) := by decide +kernel
theorem d_La_law_343 : decode code 343 = .ok (.aload_n 0, 1) := by decide +kernel
theorem d_La_law_344 : decode code 344 = .ok (.iload_n 3, 1) := by decide +kernel
theorem d_La_law_345 : decode code 345 = .ok (.iconst 2, 1) := by decide +kernel
theorem d_La_law_346 : decode code 346 = .ok (.iadd, 1) := by decide +kernel
theorem d_La_law_347 : decode code 347 = .ok (.iaload, 1) := by decide +kernel
theorem d_La_law_348 : decode code 348 = .ok (.invokevirtual 47, 3) := by decide +kernel
theorem d_La_law_351 : decode code 351 = .ok (.aload_n 2, 1) := by decide +kernel
theorem d_La_law_352 : decode code 352 = .ok (.aload_n 0, 1) := by decide +kernel
theorem d_La_law_353 : decode code 353 = .ok (.iload_n 3, 1) := by decide +kernel
theorem d_La_law_354 : decode code 354 = .ok (.iconst 1, 1) := by decide +kernel
theorem d_La_law_355 : decode code 355 = .ok (.iadd, 1) := by decide +kernel
theorem d_La_law_356 : decode code 356 = .ok (.iaload, 1) := by decide +kernel
theorem d_La_law_357 : decode code 357 = .ok (.aload_n 0, 1) := by decide +kernel
theorem d_La_law_358 : decode code 358 = .ok (.iload_n 3, 1) := by decide +kernel
theorem d_La_law_359 : decode code 359 = .ok (.iconst 2, 1) := by decide +kernel
theorem d_La_law_360 : decode code 360 = .ok (.iadd, 1) := by decide +kernel
theorem d_La_law_361 : decode code 361 = .ok (.iaload, 1) := by decide +kernel
theorem d_La_law_362 : decode code 362 = .ok (.invokevirtual 50, 3) := by decide +kernel
theorem d_La_law_365 : decode code 365 = .ok (.if_icmp .eq 137, 3) := by decide +kernel
theorem d_La_law_368 : decode code 368 = .ok (.iconst 0, 1) := by decide +kernel
theorem d_La_law_369 : decode code 369 = .ok (.ireturn, 1) := by decide +kernel
theorem d_La_law_370 : decode code 370 = .ok (.aload_n 1, 1) := by decide +kernel
theorem d_La_law_371 : decode code 371 = .ok (.aload_n 0, 1) := by decide +kernel
theorem d_La_law_372 : decode code 372 = .ok (.iload_n 3, 1) := by decide +kernel
theorem d_La_law_373 : decode code 373 = .ok (.iconst 1, 1) := by decide +kernel
theorem d_La_law_374 : decode code 374 = .ok (.iadd, 1) := by decide +kernel
theorem d_La_law_375 : decode code 375 = .ok (.iaload, 1) := by decide +kernel
theorem d_La_law_376 : decode code 376 = .ok (.aload_n 0, 1) := by decide +kernel
theorem d_La_law_377 : decode code 377 = .ok (.iload_n 3, 1) := by decide +kernel
theorem d_La_law_378 : decode code 378 = .ok (.iconst 2, 1) := by decide +kernel
theorem d_La_law_379 : decode code 379 = .ok (.iadd, 1) := by decide +kernel
theorem d_La_law_380 : decode code 380 = .ok (.iaload, 1) := by decide +kernel
theorem d_La_law_381 : decode code 381 = .ok (.invokevirtual 51, 3) := by decide +kernel
theorem d_La_law_384 : decode code 384 = .ok (.aload_n 2, 1) := by decide +kernel
theorem d_La_law_385 : decode code 385 = .ok (.aload_n 0, 1) := by decide +kernel
theorem d_La_law_386 : decode code 386 = .ok (.iload_n 3, 1) := by decide +kernel
theorem d_La_law_387 : decode code 387 = .ok (.iconst 1, 1) := by decide +kernel
theorem d_La_law_388 : decode code 388 = .ok (.iadd, 1) := by decide +kernel
theorem d_La_law_389 : decode code 389 = .ok (.iaload, 1) := by decide +kernel
theorem d_La_law_390 : decode code 390 = .ok (.aload_n 0, 1) := by decide +kernel
theorem d_La_law_391 : decode code 391 = .ok (.iload_n 3, 1) := by decide +kernel
theorem d_La_law_392 : decode code 392 = .ok (.iconst 2, 1) := by decide +kernel
theorem d_La_law_393 : decode code 393 = .ok (.iadd, 1) := by decide +kernel
theorem d_La_law_394 : decode code 394 = .ok (.iaload, 1) := by decide +kernel
theorem d_La_law_395 : decode code 395 = .ok (.invokevirtual 54, 3) := by decide +kernel
theorem d_La_law_398 : decode code 398 = .ok (.if_icmp .eq 104, 3) := by decide +kernel
theorem d_La_law_401 : decode code 401 = .ok (.iconst 0, 1) := by decide +kernel
theorem d_La_law_402 : decode code 402 = .ok (.ireturn, 1) := by decide +kernel
theorem d_La_law_403 : decode code 403 = .ok (.aload_n 1, 1) := by decide +kernel
theorem d_La_law_404 : decode code 404 = .ok (.aload_n 0, 1) := by decide +kernel
theorem d_La_law_405 : decode code 405 = .ok (.iload_n 3, 1) := by decide +kernel
theorem d_La_law_406 : decode code 406 = .ok (.iconst 1, 1) := by decide +kernel
theorem d_La_law_407 : decode code 407 = .ok (.iadd, 1) := by decide +kernel
theorem d_La_law_408 : decode code 408 = .ok (.iaload, 1) := by decide +kernel
theorem d_La_law_409 : decode code 409 = .ok (.aload_n 0, 1) := by decide +kernel
theorem d_La_law_410 : decode code 410 = .ok (.iload_n 3, 1) := by decide +kernel
theorem d_La_law_411 : decode code 411 = .ok (.iconst 2, 1) := by decide +kernel
theorem d_La_law_412 : decode code 412 = .ok (.iadd, 1) := by decide +kernel
theorem d_La_law_413 : decode code 413 = .ok (.iaload, 1) := by decide +kernel
theorem d_La_law_414 : decode code 414 = .ok (.invokevirtual 55, 3) := by decide +kernel
theorem d_La_law_417 : decode code 417 = .ok (.aload_n 2, 1) := by decide +kernel
theorem d_La_law_418 : decode code 418 = .ok (.aload_n 0, 1) := by decide +kernel
theorem d_La_law_419 : decode code 419 = .ok (.iload_n 3, 1) := by decide +kernel
theorem d_La_law_420 : decode code 420 = .ok (.iconst 1, 1) := by decide +kernel
theorem d_La_law_421 : decode code 421 = .ok (.iadd, 1) := by decide +kernel
theorem d_La_law_422 : decode code 422 = .ok (.iaload, 1) := by decide +kernel
theorem d_La_law_423 : decode code 423 = .ok (.aload_n 0, 1) := by decide +kernel
theorem d_La_law_424 : decode code 424 = .ok (.iload_n 3, 1) := by decide +kernel
theorem d_La_law_425 : decode code 425 = .ok (.iconst 2, 1) := by decide +kernel
theorem d_La_law_426 : decode code 426 = .ok (.iadd, 1) := by decide +kernel
theorem d_La_law_427 : decode code 427 = .ok (.iaload, 1) := by decide +kernel
theorem d_La_law_428 : decode code 428 = .ok (.invokevirtual 58, 3) := by decide +kernel
theorem d_La_law_431 : decode code 431 = .ok (.if_icmp .eq 71, 3) := by decide +kernel
theorem d_La_law_434 : decode code 434 = .ok (.iconst 0, 1) := by decide +kernel
theorem d_La_law_435 : decode code 435 = .ok (.ireturn, 1) := by decide +kernel
theorem d_La_law_436 : decode code 436 = .ok (.aload_n 1, 1) := by decide +kernel
theorem d_La_law_437 : decode code 437 = .ok (.aload_n 0, 1) := by decide +kernel
theorem d_La_law_438 : decode code 438 = .ok (.iload_n 3, 1) := by decide +kernel
theorem d_La_law_439 : decode code 439 = .ok (.iconst 1, 1) := by decide +kernel
theorem d_La_law_440 : decode code 440 = .ok (.iadd, 1) := by decide +kernel
theorem d_La_law_441 : decode code 441 = .ok (.iaload, 1) := by decide +kernel
theorem d_La_law_442 : decode code 442 = .ok (.aload_n 0, 1) := by decide +kernel
theorem d_La_law_443 : decode code 443 = .ok (.iload_n 3, 1) := by decide +kernel
theorem d_La_law_444 : decode code 444 = .ok (.iconst 2, 1) := by decide +kernel
theorem d_La_law_445 : decode code 445 = .ok (.iadd, 1) := by decide +kernel
theorem d_La_law_446 : decode code 446 = .ok (.iaload, 1) := by decide +kernel
theorem d_La_law_447 : decode code 447 = .ok (.aload_n 0, 1) := by decide +kernel
theorem d_La_law_448 : decode code 448 = .ok (.iload_n 3, 1) := by decide +kernel
theorem d_La_law_449 : decode code 449 = .ok (.iconst 3, 1) := by decide +kernel
theorem d_La_law_450 : decode code 450 = .ok (.iadd, 1) := by decide +kernel
theorem d_La_law_451 : decode code 451 = .ok (.iaload, 1) := by decide +kernel
theorem d_La_law_452 : decode code 452 = .ok (.invokevirtual 59, 3) := by decide +kernel
theorem d_La_law_455 : decode code 455 = .ok (.aload_n 2, 1) := by decide +kernel
theorem d_La_law_456 : decode code 456 = .ok (.aload_n 0, 1) := by decide +kernel
theorem d_La_law_457 : decode code 457 = .ok (.iload_n 3, 1) := by decide +kernel
theorem d_La_law_458 : decode code 458 = .ok (.iconst 1, 1) := by decide +kernel
theorem d_La_law_459 : decode code 459 = .ok (.iadd, 1) := by decide +kernel
theorem d_La_law_460 : decode code 460 = .ok (.iaload, 1) := by decide +kernel
theorem d_La_law_461 : decode code 461 = .ok (.aload_n 0, 1) := by decide +kernel
theorem d_La_law_462 : decode code 462 = .ok (.iload_n 3, 1) := by decide +kernel
theorem d_La_law_463 : decode code 463 = .ok (.iconst 2, 1) := by decide +kernel
theorem d_La_law_464 : decode code 464 = .ok (.iadd, 1) := by decide +kernel
theorem d_La_law_465 : decode code 465 = .ok (.iaload, 1) := by decide +kernel
theorem d_La_law_466 : decode code 466 = .ok (.aload_n 0, 1) := by decide +kernel
theorem d_La_law_467 : decode code 467 = .ok (.iload_n 3, 1) := by decide +kernel
theorem d_La_law_468 : decode code 468 = .ok (.iconst 3, 1) := by decide +kernel
theorem d_La_law_469 : decode code 469 = .ok (.iadd, 1) := by decide +kernel
theorem d_La_law_470 : decode code 470 = .ok (.iaload, 1) := by decide +kernel
theorem d_La_law_471 : decode code 471 = .ok (.invokevirtual 63, 3) := by decide +kernel
theorem d_La_law_474 : decode code 474 = .ok (.if_icmp .eq 28, 3) := by decide +kernel
theorem d_La_law_477 : decode code 477 = .ok (.iconst 0, 1) := by decide +kernel
theorem d_La_law_478 : decode code 478 = .ok (.ireturn, 1) := by decide +kernel
theorem d_La_law_479 : decode code 479 = .ok (.aload_n 1, 1) := by decide +kernel
theorem d_La_law_480 : decode code 480 = .ok (.aload_n 0, 1) := by decide +kernel
theorem d_La_law_481 : decode code 481 = .ok (.iload_n 3, 1) := by decide +kernel
theorem d_La_law_482 : decode code 482 = .ok (.iconst 1, 1) := by decide +kernel
theorem d_La_law_483 : decode code 483 = .ok (.iadd, 1) := by decide +kernel
theorem d_La_law_484 : decode code 484 = .ok (.iaload, 1) := by decide +kernel
theorem d_La_law_485 : decode code 485 = .ok (.invokevirtual 64, 3) := by decide +kernel
theorem d_La_law_488 : decode code 488 = .ok (.aload_n 2, 1) := by decide +kernel
theorem d_La_law_489 : decode code 489 = .ok (.aload_n 0, 1) := by decide +kernel
theorem d_La_law_490 : decode code 490 = .ok (.iload_n 3, 1) := by decide +kernel
theorem d_La_law_491 : decode code 491 = .ok (.iconst 1, 1) := by decide +kernel
theorem d_La_law_492 : decode code 492 = .ok (.iadd, 1) := by decide +kernel
theorem d_La_law_493 : decode code 493 = .ok (.iaload, 1) := by decide +kernel
theorem d_La_law_494 : decode code 494 = .ok (.invokevirtual 67, 3) := by decide +kernel
theorem d_La_law_497 : decode code 497 = .ok (.if_icmp .eq 5, 3) := by decide +kernel
theorem d_La_law_500 : decode code 500 = .ok (.iconst 0, 1) := by decide +kernel
theorem d_La_law_501 : decode code 501 = .ok (.ireturn, 1) := by decide +kernel
theorem d_La_law_502 : decode code 502 = .ok (.iinc 3 6, 3) := by decide +kernel
theorem d_La_law_505 : decode code 505 = .ok (.goto (-487), 3) := by decide +kernel
theorem d_La_law_508 : decode code 508 = .ok (.iconst 1, 1) := by decide +kernel
theorem d_La_law_509 : decode code 509 = .ok (.ireturn, 1) := by decide +kernel
