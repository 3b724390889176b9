theorem dXL_law_0 : decode code 0 = .ok (.new 7, 3) := by decide +kernel
theorem dXL_law_3 : decode code 3 = .ok (.dup, 1) := by decide +kernel
theorem dXL_law_4 : decode code 4 = .ok (.invokespecial 9, 3) := by decide +kernel
theorem dXL_law_7 : decode code 7 = .ok (.astore_n 1, 1) := by decide +kernel
theorem dXL_law_8 : decode code 8 = .ok (.new 10, 3) := by decide +kernel
theorem dXL_law_11 : decode code 11 = .ok (.dup, 1) := by decide +kernel
theorem dXL_law_12 : decode code 12 = .ok (.invokespecial 12, 3) := by decide +kernel
theorem dXL_law_15 : decode code 15 = .ok (.astore_n 2, 1) := by decide +kernel
theorem dXL_law_16 : decode code 16 = .ok (.iconst 0, 1) := by decide +kernel
theorem dXL_law_17 : decode code 17 = .ok (.istore_n 3, 1) := by decide +kernel
theorem dXL_law_18 : decode code 18 = .ok (.iload_n 3, 1) := by decide +kernel
theorem dXL_law_19 : decode code 19 = .ok (.aload_n 0, 1) := by decide +kernel
theorem dXL_law_20 : decode code 20 = .ok (.arraylength, 1) := by decide +kernel
theorem dXL_law_21 : decode code 21 = .ok (.bipush 8, 2) := by decide +kernel
theorem dXL_law_23 : decode code 23 = .ok (.isub, 1) := by decide +kernel
theorem dXL_law_24 : decode code 24 = .ok (.if_icmp .gt 1033, 3) := by decide +kernel
theorem dXL_law_27 : decode code 27 = .ok (.aload_n 0, 1) := by decide +kernel
theorem dXL_law_28 : decode code 28 = .ok (.iload_n 3, 1) := by decide +kernel
theorem dXL_law_29 : decode code 29 = .ok (.iaload, 1) := by decide +kernel
theorem dXL_law_30 : decode code 30 = .ok (.bipush 31, 2) := by decide +kernel
theorem dXL_law_32 : decode code 32 = .ok (.iand, 1) := by decide +kernel
theorem dXL_law_33 : decode code 33 = .ok (.tableswitch 1018 0 20 #[99, 186, 239, 272, 305, 358, 433, 446, 459, 482, 505, 528, 551, 574, 607, 650, 703, 746, 779, 858, 949], 99) := by decide +kernel
theorem dXL_law_132 : decode code 132 = .ok (.aload_n 1, 1) := by decide +kernel
theorem dXL_law_133 : decode code 133 = .ok (.aload_n 0, 1) := by decide +kernel
theorem dXL_law_134 : decode code 134 = .ok (.iload_n 3, 1) := by decide +kernel
theorem dXL_law_135 : decode code 135 = .ok (.iconst 1, 1) := by decide +kernel
theorem dXL_law_136 : decode code 136 = .ok (.iadd, 1) := by decide +kernel
theorem dXL_law_137 : decode code 137 = .ok (.iaload, 1) := by decide +kernel
theorem dXL_law_138 : decode code 138 = .ok (.aload_n 0, 1) := by decide +kernel
theorem dXL_law_139 : decode code 139 = .ok (.iload_n 3, 1) := by decide +kernel
theorem dXL_law_140 : decode code 140 = .ok (.iconst 2, 1) := by decide +kernel
theorem dXL_law_141 : decode code 141 = .ok (.iadd, 1) := by decide +kernel
theorem dXL_law_142 : decode code 142 = .ok (.iaload, 1) := by decide +kernel
theorem dXL_law_143 : decode code 143 = .ok (.aload_n 0, 1) := by decide +kernel
theorem dXL_law_144 : decode code 144 = .ok (.iload_n 3, 1) := by decide +kernel
theorem dXL_law_145 : decode code 145 = .ok (.iconst 3, 1) := by decide +kernel
theorem dXL_law_146 : decode code 146 = .ok (.iadd, 1) := by decide +kernel
theorem dXL_law_147 : decode code 147 = .ok (.iaload, 1) := by decide +kernel
theorem dXL_law_148 : decode code 148 = .ok (.aload_n 0, 1) := by decide +kernel
theorem dXL_law_149 : decode code 149 = .ok (.iload_n 3, 1) := by decide +kernel
theorem dXL_law_150 : decode code 150 = .ok (.iconst 4, 1) := by decide +kernel
theorem dXL_law_151 : decode code 151 = .ok (.iadd, 1) := by decide +kernel
theorem dXL_law_152 : decode code 152 = .ok (.iaload, 1) := by decide +kernel
theorem dXL_law_153 : decode code 153 = .ok (.aload_n 0, 1) := by decide +kernel
theorem dXL_law_154 : decode code 154 = .ok (.iload_n 3, 1) := by decide +kernel
theorem dXL_law_155 : decode code 155 = .ok (.iconst 5, 1) := by decide +kernel
theorem dXL_law_156 : decode code 156 = .ok (.iadd, 1) := by decide +kernel
theorem dXL_law_157 : decode code 157 = .ok (.iaload, 1) := by decide +kernel
theorem dXL_law_158 : decode code 158 = .ok (.aload_n 0, 1) := by decide +kernel
theorem dXL_law_159 : decode code 159 = .ok (.iload_n 3, 1) := by decide +kernel
theorem dXL_law_160 : decode code 160 = .ok (.bipush 6, 2) := by decide +kernel
theorem dXL_law_162 : decode code 162 = .ok (.iadd, 1) := by decide +kernel
theorem dXL_law_163 : decode code 163 = .ok (.iaload, 1) := by decide +kernel
theorem dXL_law_164 : decode code 164 = .ok (.aload_n 0, 1) := by decide +kernel
theorem dXL_law_165 : decode code 165 = .ok (.iload_n 3, 1) := by decide +kernel
theorem dXL_law_166 : decode code 166 = .ok (.bipush 7, 2) := by decide +kernel
theorem dXL_law_168 : decode code 168 = .ok (.iadd, 1) := by decide +kernel
theorem dXL_law_169 : decode code 169 = .ok (.iaload, 1) := by decide +kernel
theorem dXL_law_170 : decode code 170 = .ok (.invokevirtual 13, 3) := by decide +kernel
theorem dXL_law_173 : decode code 173 = .ok (.aload_n 2, 1) := by decide +kernel
theorem dXL_law_174 : decode code 174 = .ok (.aload_n 0, 1) := by decide +kernel
theorem dXL_law_175 : decode code 175 = .ok (.iload_n 3, 1) := by decide +kernel
theorem dXL_law_176 : decode code 176 = .ok (.iconst 1, 1) := by decide +kernel
theorem dXL_law_177 : decode code 177 = .ok (.iadd, 1) := by decide +kernel
theorem dXL_law_178 : decode code 178 = .ok (.iaload, 1) := by decide +kernel
theorem dXL_law_179 : decode code 179 = .ok (.aload_n 0, 1) := by decide +kernel
theorem dXL_law_180 : decode code 180 = .ok (.iload_n 3, 1) := by decide +kernel
theorem dXL_law_181 : decode code 181 = .ok (.iconst 2, 1) := by decide +kernel
theorem dXL_law_182 : decode code 182 = .ok (.iadd, 1) := by decide +kernel
theorem dXL_law_183 : decode code 183 = .ok (.iaload, 1) := by decide +kernel
theorem dXL_law_184 : decode code 184 = .ok (.aload_n 0, 1) := by decide +kernel
theorem dXL_law_185 : decode code 185 = .ok (.iload_n 3, 1) := by decide +kernel
theorem dXL_law_186 : decode code 186 = .ok (.iconst 3, 1) := by decide +kernel
theorem dXL_law_187 : decode code 187 = .ok (.iadd, 1) := by decide +kernel
theorem dXL_law_188 : decode code 188 = .ok (.iaload, 1) := by decide +kernel
theorem dXL_law_189 : decode code 189 = .ok (.aload_n 0, 1) := by decide +kernel
theorem dXL_law_190 : decode code 190 = .ok (.iload_n 3, 1) := by decide +kernel
theorem dXL_law_191 : decode code 191 = .ok (.iconst 4, 1) := by decide +kernel
theorem dXL_law_192 : decode code 192 = .ok (.iadd, 1) := by decide +kernel
theorem dXL_law_193 : decode code 193 = .ok (.iaload, 1) := by decide +kernel
theorem dXL_law_194 : decode code 194 = .ok (.aload_n 0, 1) := by decide +kernel
theorem dXL_law_195 : decode code 195 = .ok (.iload_n 3, 1) := by decide +kernel
theorem dXL_law_196 : decode code 196 = .ok (.iconst 5, 1) := by decide +kernel
theorem dXL_law_197 : decode code 197 = .ok (.iadd, 1) := by decide +kernel
theorem dXL_law_198 : decode code 198 = .ok (.iaload, 1) := by decide +kernel
theorem dXL_law_199 : decode code 199 = .ok (.aload_n 0, 1) := by decide +kernel
theorem dXL_law_200 : decode code 200 = .ok (.iload_n 3, 1) := by decide +kernel
theorem dXL_law_201 : decode code 201 = .ok (.bipush 6, 2) := by decide +kernel
theorem dXL_law_203 : decode code 203 = .ok (.iadd, 1) := by decide +kernel
theorem dXL_law_204 : decode code 204 = .ok (.iaload, 1) := by decide +kernel
theorem dXL_law_205 : decode code 205 = .ok (.aload_n 0, 1) := by decide +kernel
theorem dXL_law_206 : decode code 206 = .ok (.iload_n 3, 1) := by decide +kernel
theorem dXL_law_207 : decode code 207 = .ok (.bipush 7, 2) := by decide +kernel
theorem dXL_law_209 : decode code 209 = .ok (.iadd, 1) := by decide +kernel
theorem dXL_law_210 : decode code 210 = .ok (.iaload, 1) := by decide +kernel
theorem dXL_law_211 : decode code 211 = .ok (.invokevirtual 17, 3) := by decide +kernel
theorem dXL_law_214 : decode code 214 = .ok (.if_icmp .eq 837, 3) := by decide +kernel
theorem dXL_law_217 : decode code 217 = .ok (.iconst 0, 1) := by decide +kernel
theorem dXL_law_218 : decode code 218 = .ok (.ireturn, 1) := by decide +kernel
theorem dXL_law_219 : decode code 219 = .ok (.aload_n 1, 1) := by decide +kernel
theorem dXL_law_220 : decode code 220 = .ok (.aload_n 0, 1) := by decide +kernel
theorem dXL_law_221 : decode code 221 = .ok (.iload_n 3, 1) := by decide +kernel
theorem dXL_law_222 : decode code 222 = .ok (.iconst 1, 1) := by decide +kernel
theorem dXL_law_223 : decode code 223 = .ok (.iadd, 1) := by decide +kernel
theorem dXL_law_224 : decode code 224 = .ok (.iaload, 1) := by decide +kernel
theorem dXL_law_225 : decode code 225 = .ok (.aload_n 0, 1) := by decide +kernel
theorem dXL_law_226 : decode code 226 = .ok (.iload_n 3, 1) := by decide +kernel
theorem dXL_law_227 : decode code 227 = .ok (.iconst 2, 1) := by decide +kernel
theorem dXL_law_228 : decode code 228 = .ok (.iadd, 1) := by decide +kernel
theorem dXL_law_229 : decode code 229 = .ok (.iaload, 1) := by decide +kernel
theorem dXL_law_230 : decode code 230 = .ok (.aload_n 0, 1) := by decide +kernel
theorem dXL_law_231 : decode code 231 = .ok (.iload_n 3, 1) := by decide +kernel
theorem dXL_law_232 : decode code 232 = .ok (.iconst 3, 1) := by decide +kernel
theorem dXL_law_233 : decode code 233 = .ok (.iadd, 1) := by decide +kernel
theorem dXL_law_234 : decode code 234 = .ok (.iaload, 1) := by decide +kernel
theorem dXL_law_235 : decode code 235 = .ok (.aload_n 0, 1) := by decide +kernel
theorem dXL_law_236 : decode code 236 = .ok (.iload_n 3, 1) := by decide +kernel
theorem dXL_law_237 : decode code 237 = .ok (.iconst 4, 1) := by decide +kernel
theorem dXL_law_238 : decode code 238 = .ok (.iadd, 1) := by decide +kernel
theorem dXL_law_239 : decode code 239 = .ok (.iaload, 1) := by decide +kernel
theorem dXL_law_240 : decode code 240 = .ok (.invokevirtual 18, 3) := by decide +kernel
theorem dXL_law_243 : decode code 243 = .ok (.aload_n 2, 1) := by decide +kernel
theorem dXL_law_244 : decode code 244 = .ok (.aload_n 0, 1) := by decide +kernel
theorem dXL_law_245 : decode code 245 = .ok (.iload_n 3, 1) := by decide +kernel
theorem dXL_law_246 : decode code 246 = .ok (.iconst 1, 1) := by decide +kernel
theorem dXL_law_247 : decode code 247 = .ok (.iadd, 1) := by decide +kernel
theorem dXL_law_248 : decode code 248 = .ok (.iaload, 1) := by decide +kernel
theorem dXL_law_249 : decode code 249 = .ok (.aload_n 0, 1) := by decide +kernel
theorem dXL_law_250 : decode code 250 = .ok (.iload_n 3, 1) := by decide +kernel
theorem dXL_law_251 : decode code 251 = .ok (.iconst 2, 1) := by decide +kernel
theorem dXL_law_252 : decode code 252 = .ok (.iadd, 1) := by decide +kernel
theorem dXL_law_253 : decode code 253 = .ok (.iaload, 1) := by decide +kernel
theorem dXL_law_254 : decode code 254 = .ok (.aload_n 0, 1) := by decide +kernel
theorem dXL_law_255 : decode code 255 = .ok (.iload_n 3, 1) := by decide +kernel
theorem dXL_law_256 : decode code 256 = .ok (.iconst 3, 1) := by decide +kernel
theorem dXL_law_257 : decode code 257 = .ok (.iadd, 1) := by decide +kernel
theorem dXL_law_258 : decode code 258 = .ok (.iaload, 1) := by decide +kernel
theorem dXL_law_259 : decode code 259 = .ok (.aload_n 0, 1) := by decide +kernel
theorem dXL_law_260 : decode code 260 = .ok (.iload_n 3, 1) := by decide +kernel
theorem dXL_law_261 : decode code 261 = .ok (.iconst 4, 1) := by decide +kernel
theorem dXL_law_262 : decode code 262 = .ok (.iadd, 1) := by decide +kernel
theorem dXL_law_263 : decode code 263 = .ok (.iaload, 1) := by decide +kernel
theorem dXL_law_264 : decode code 264 = .ok (.invokevirtual 22, 3) := by decide +kernel
theorem dXL_law_267 : decode code 267 = .ok (.if_icmp .eq 784, 3) := by decide +kernel
theorem dXL_law_270 : decode code 270 = .ok (.iconst 0, 1) := by decide +kernel
theorem dXL_law_271 : decode code 271 = .ok (.ireturn, 1) := by decide +kernel
theorem dXL_law_272 : decode code 272 = .ok (.aload_n 1, 1) := by decide +kernel
theorem dXL_law_273 : decode code 273 = .ok (.aload_n 0, 1) := by decide +kernel
theorem dXL_law_274 : decode code 274 = .ok (.iload_n 3, 1) := by decide +kernel
theorem dXL_law_275 : decode code 275 = .ok (.iconst 1, 1) := by decide +kernel
theorem dXL_law_276 : decode code 276 = .ok (.iadd, 1) := by decide +kernel
theorem dXL_law_277 : decode code 277 = .ok (.iaload, 1) := by decide +kernel
theorem dXL_law_278 : decode code 278 = .ok (.aload_n 0, 1) := by decide +kernel
theorem dXL_law_279 : decode code 279 = .ok (.iload_n 3, 1) := by decide +kernel
theorem dXL_law_280 : decode code 280 = .ok (.iconst 2, 1) := by decide +kernel
theorem dXL_law_281 : decode code 281 = .ok (.iadd, 1) := by decide +kernel
theorem dXL_law_282 : decode code 282 = .ok (.iaload, 1) := by decide +kernel
theorem dXL_law_283 : decode code 283 = .ok (.invokevirtual 23, 3) := by decide +kernel
theorem dXL_law_286 : decode code 286 = .ok (.aload_n 2, 1) := by decide +kernel
theorem dXL_law_287 : decode code 287 = .ok (.aload_n 0, 1) := by decide +kernel
theorem dXL_law_288 : decode code 288 = .ok (.iload_n 3, 1) := by decide +kernel
theorem dXL_law_289 : decode code 289 = .ok (.iconst 1, 1) := by decide +kernel
theorem dXL_law_290 : decode code 290 = .ok (.iadd, 1) := by decide +kernel
theorem dXL_law_291 : decode code 291 = .ok (.iaload, 1) := by decide +kernel
theorem dXL_law_292 : decode code 292 = .ok (.aload_n 0, 1) := by decide +kernel
theorem dXL_law_293 : decode code 293 = .ok (.iload_n 3, 1) := by decide +kernel
theorem dXL_law_294 : decode code 294 = .ok (.iconst 2, 1) := by decide +kernel
theorem dXL_law_295 : decode code 295 = .ok (.iadd, 1) := by decide +kernel
theorem dXL_law_296 : decode code 296 = .ok (.iaload, 1) := by decide +kernel
theorem dXL_law_297 : decode code 297 = .ok (.invokevirtual 27, 3) := by decide +kernel
theorem dXL_law_300 : decode code 300 = .ok (.if_icmp .eq 751, 3) := by decide +kernel
theorem dXL_law_303 : decode code 303 = .ok (.iconst 0, 1) := by decide +kernel
theorem dXL_law_304 : decode code 304 = .ok (.ireturn, 1) := by decide +kernel
theorem dXL_law_305 : decode code 305 = .ok (.aload_n 1, 1) := by decide +kernel
theorem dXL_law_306 : decode code 306 = .ok (.aload_n 0, 1) := by decide +kernel
theorem dXL_law_307 : decode code 307 = .ok (.iload_n 3, 1) := by decide +kernel
theorem dXL_law_308 : decode code 308 = .ok (.iconst 1, 1) := by decide +kernel
theorem dXL_law_309 : decode code 309 = .ok (.iadd, 1) := by decide +kernel
theorem dXL_law_310 : decode code 310 = .ok (.iaload, 1) := by decide +kernel
theorem dXL_law_311 : decode code 311 = .ok (.aload_n 0, 1) := by decide +kernel
theorem dXL_law_312 : decode code 312 = .ok (.iload_n 3, 1) := by decide +kernel
theorem dXL_law_313 : decode code 313 = .ok (.iconst 2, 1) := by decide +kernel
theorem dXL_law_314 : decode code 314 = .ok (.iadd, 1) := by decide +kernel
theorem dXL_law_315 : decode code 315 = .ok (.iaload, 1) := by decide +kernel
theorem dXL_law_316 : decode code 316 = .ok (.invokevirtual 28, 3) := by decide +kernel
theorem dXL_law_319 : decode code 319 = .ok (.aload_n 2, 1) := by decide +kernel
theorem dXL_law_320 : decode code 320 = .ok (.aload_n 0, 1) := by decide +kernel
theorem dXL_law_321 : decode code 321 = .ok (.iload_n 3, 1) := by decide +kernel
theorem dXL_law_322 : decode code 322 = .ok (.iconst 1, 1) := by decide +kernel
theorem dXL_law_323 : decode code 323 = .ok (.iadd, 1) := by decide +kernel
theorem dXL_law_324 : decode code 324 = .ok (.iaload, 1) := by decide +kernel
theorem dXL_law_325 : decode code 325 = .ok (.aload_n 0, 1) := by decide +kernel
theorem dXL_law_326 : decode code 326 = .ok (.iload_n 3, 1) := by decide +kernel
theorem dXL_law_327 : decode code 327 = .ok (.iconst 2, 1) := by decide +kernel
theorem dXL_law_328 : decode code 328 = .ok (.iadd, 1) := by decide +kernel
theorem dXL_law_329 : decode code 329 = .ok (.iaload, 1) := by decide +kernel
theorem dXL_law_330 : decode code 330 = .ok (.invokevirtual 31, 3) := by decide +kernel
theorem dXL_law_333 : decode code 333 = .ok (.if_icmp .eq 718, 3) := by decide +kernel
theorem dXL_law_336 : decode code 336 = .ok (.iconst 0, 1) := by decide +kernel
theorem dXL_law_337 : decode code 337 = .ok (.ireturn, 1) := by decide +kernel
theorem dXL_law_338 : decode code 338 = .ok (.aload_n 1, 1) := by decide +kernel
theorem dXL_law_339 : decode code 339 = .ok (.aload_n 0, 1) := by decide +kernel
theorem dXL_law_340 : decode code 340 = .ok (.iload_n 3, 1) := by decide +kernel
theorem dXL_law_341 : decode code 341 = .ok (.iconst 1, 1) := by decide +kernel
theorem dXL_law_342 : decode code 342 = .ok (.iadd, 1) := by decide +kernel
theorem dXL_law_343 : decode code 343 = .ok (.iaload, 1) := by decide +kernel
theorem dXL_law_344 : decode code 344 = .ok (.aload_n 0, 1) := by decide +kernel
theorem dXL_law_345 : decode code 345 = .ok (.iload_n 3, 1) := by decide +kernel
theorem dXL_law_346 : decode code 346 = .ok (.iconst 2, 1) := by decide +kernel
theorem dXL_law_347 : decode code 347 = .ok (.iadd, 1) := by decide +kernel
theorem dXL_law_348 : decode code 348 = .ok (.iaload, 1) := by decide +kernel
theorem dXL_law_349 : decode code 349 = .ok (.aload_n 0, 1) := by decide +kernel
theorem dXL_law_350 : decode code 350 = .ok (.iload_n 3, 1) := by decide +kernel
theorem dXL_law_351 : decode code 351 = .ok (.iconst 3, 1) := by decide +kernel
theorem dXL_law_352 : decode code 352 = .ok (.iadd, 1) := by decide +kernel
theorem dXL_law_353 : decode code 353 = .ok (.iaload, 1) := by decide +kernel
theorem dXL_law_354 : decode code 354 = .ok (.aload_n 0, 1) := by decide +kernel
theorem dXL_law_355 : decode code 355 = .ok (.iload_n 3, 1) := by decide +kernel
theorem dXL_law_356 : decode code 356 = .ok (.iconst 4, 1) := by decide +kernel
theorem dXL_law_357 : decode code 357 = .ok (.iadd, 1) := by decide +kernel
theorem dXL_law_358 : decode code 358 = .ok (.iaload, 1) := by decide +kernel
theorem dXL_law_359 : decode code 359 = .ok (.invokevirtual 32, 3) := by decide +kernel
theorem dXL_law_362 : decode code 362 = .ok (.aload_n 2, 1) := by decide +kernel
theorem dXL_law_363 : decode code 363 = .ok (.aload_n 0, 1) := by decide +kernel
theorem dXL_law_364 : decode code 364 = .ok (.iload_n 3, 1) := by decide +kernel
theorem dXL_law_365 : decode code 365 = .ok (.iconst 1, 1) := by decide +kernel
theorem dXL_law_366 : decode code 366 = .ok (.iadd, 1) := by decide +kernel
theorem dXL_law_367 : decode code 367 = .ok (.iaload, 1) := by decide +kernel
theorem dXL_law_368 : decode code 368 = .ok (.aload_n 0, 1) := by decide +kernel
theorem dXL_law_369 : decode code 369 = .ok (.iload_n 3, 1) := by decide +kernel
theorem dXL_law_370 : decode code 370 = .ok (.iconst 2, 1) := by decide +kernel
theorem dXL_law_371 : decode code 371 = .ok (.iadd, 1) := by decide +kernel
theorem dXL_law_372 : decode code 372 = .ok (.iaload, 1) := by decide +kernel
theorem dXL_law_373 : decode code 373 = .ok (.aload_n 0, 1) := by decide +kernel
theorem dXL_law_374 : decode code 374 = .ok (.iload_n 3, 1) := by decide +kernel
theorem dXL_law_375 : decode code 375 = .ok (.iconst 3, 1) := by decide +kernel
theorem dXL_law_376 : decode code 376 = .ok (.iadd, 1) := by decide +kernel
theorem dXL_law_377 : decode code 377 = .ok (.iaload, 1) := by decide +kernel
theorem dXL_law_378 : decode code 378 = .ok (.aload_n 0, 1) := by decide +kernel
theorem dXL_law_379 : decode code 379 = .ok (.iload_n 3, 1) := by decide +kernel
theorem dXL_law_380 : decode code 380 = .ok (.iconst 4, 1) := by decide +kernel
theorem dXL_law_381 : decode code 381 = .ok (.iadd, 1) := by decide +kernel
theorem dXL_law_382 : decode code 382 = .ok (.iaload, 1) := by decide +kernel
theorem dXL_law_383 : decode code 383 = .ok (.invokevirtual 35, 3) := by decide +kernel
theorem dXL_law_386 : decode code 386 = .ok (.if_icmp .eq 665, 3) := by decide +kernel
theorem dXL_law_389 : decode code 389 = .ok (.iconst 0, 1) := by decide +kernel
theorem dXL_law_390 : decode code 390 = .ok (.ireturn, 1) := by decide +kernel
theorem dXL_law_391 : decode code 391 = .ok (.aload_n 1, 1) := by decide +kernel
theorem dXL_law_392 : decode code 392 = .ok (.aload_n 0, 1) := by decide +kernel
theorem dXL_law_393 : decode code 393 = .ok (.iload_n 3, 1) := by decide +kernel
theorem dXL_law_394 : decode code 394 = .ok (.iconst 1, 1) := by decide +kernel
theorem dXL_law_395 : decode code 395 = .ok (.iadd, 1) := by decide +kernel
theorem dXL_law_396 : decode code 396 = .ok (.iaload, 1) := by decide +kernel
theorem dXL_law_397 : decode code 397 = .ok (.aload_n 0, 1) := by decide +kernel
theorem dXL_law_398 : decode code 398 = .ok (.iload_n 3, 1) := by decide +kernel
theorem dXL_law_399 : decode code 399 = .ok (.iconst 2, 1) := by decide +kernel
theorem dXL_law_400 : decode code 400 = .ok (.iadd, 1) := by decide +kernel
theorem dXL_law_401 : decode code 401 = .ok (.iaload, 1) := by decide +kernel
theorem dXL_law_402 : decode code 402 = .ok (.aload_n 0, 1) := by decide +kernel
theorem dXL_law_403 : decode code 403 = .ok (.iload_n 3, 1) := by decide +kernel
theorem dXL_law_404 : decode code 404 = .ok (.iconst 3, 1) := by decide +kernel
theorem dXL_law_405 : decode code 405 = .ok (.iadd, 1) := by decide +kernel
theorem dXL_law_406 : decode code 406 = .ok (.iaload, 1) := by decide +kernel
theorem dXL_law_407 : decode code 407 = .ok (.aload_n 0, 1) := by decide +kernel
theorem dXL_law_408 : decode code 408 = .ok (.iload_n 3, 1) := by decide +kernel
theorem dXL_law_409 : decode code 409 = .ok (.iconst 4, 1) := by decide +kernel
theorem dXL_law_410 : decode code 410 = .ok (.iadd, 1) := by decide +kernel
theorem dXL_law_411 : decode code 411 = .ok (.iaload, 1) := by decide +kernel
theorem dXL_law_412 : decode code 412 = .ok (.aload_n 0, 1) := by decide +kernel
theorem dXL_law_413 : decode code 413 = .ok (.iload_n 3, 1) := by decide +kernel
theorem dXL_law_414 : decode code 414 = .ok (.iconst 5, 1) := by decide +kernel
theorem dXL_law_415 : decode code 415 = .ok (.iadd, 1) := by decide +kernel
theorem dXL_law_416 : decode code 416 = .ok (.iaload, 1) := by decide +kernel
theorem dXL_law_417 : decode code 417 = .ok (.aload_n 0, 1) := by decide +kernel
theorem dXL_law_418 : decode code 418 = .ok (.iload_n 3, 1) := by decide +kernel
theorem dXL_law_419 : decode code 419 = .ok (.bipush 6, 2) := by decide +kernel
theorem dXL_law_421 : decode code 421 = .ok (.iadd, 1) := by decide +kernel
theorem dXL_law_422 : decode code 422 = .ok (.iaload, 1) := by decide +kernel
theorem dXL_law_423 : decode code 423 = .ok (.invokevirtual 36, 3) := by decide +kernel
theorem dXL_law_426 : decode code 426 = .ok (.aload_n 2, 1) := by decide +kernel
theorem dXL_law_427 : decode code 427 = .ok (.aload_n 0, 1) := by decide +kernel
theorem dXL_law_428 : decode code 428 = .ok (.iload_n 3, 1) := by decide +kernel
theorem dXL_law_429 : decode code 429 = .ok (.iconst 1, 1) := by decide +kernel
theorem dXL_law_430 : decode code 430 = .ok (.iadd, 1) := by decide +kernel
theorem dXL_law_431 : decode code 431 = .ok (.iaload, 1) := by decide +kernel
theorem dXL_law_432 : decode code 432 = .ok (.aload_n 0, 1) := by decide +kernel
theorem dXL_law_433 : decode code 433 = .ok (.iload_n 3, 1) := by decide +kernel
theorem dXL_law_434 : decode code 434 = .ok (.iconst 2, 1) := by decide +kernel
theorem dXL_law_435 : decode code 435 = .ok (.iadd, 1) := by decide +kernel
theorem dXL_law_436 : decode code 436 = .ok (.iaload, 1) := by decide +kernel
theorem dXL_law_437 : decode code 437 = .ok (.aload_n 0, 1) := by decide +kernel
theorem dXL_law_438 : decode code 438 = .ok (.iload_n 3, 1) := by decide +kernel
theorem dXL_law_439 : decode code 439 = .ok (.iconst 3, 1) := by decide +kernel
theorem dXL_law_440 : decode code 440 = .ok (.iadd, 1) := by decide +kernel
theorem dXL_law_441 : decode code 441 = .ok (.iaload, 1) := by decide +kernel
theorem dXL_law_442 : decode code 442 = .ok (.aload_n 0, 1) := by decide +kernel
theorem dXL_law_443 : decode code 443 = .ok (.iload_n 3, 1) := by decide +kernel
theorem dXL_law_444 : decode code 444 = .ok (.iconst 4, 1) := by decide +kernel
theorem dXL_law_445 : decode code 445 = .ok (.iadd, 1) := by decide +kernel
theorem dXL_law_446 : decode code 446 = .ok (.iaload, 1) := by decide +kernel
theorem dXL_law_447 : decode code 447 = .ok (.aload_n 0, 1) := by decide +kernel
theorem dXL_law_448 : decode code 448 = .ok (.iload_n 3, 1) := by decide +kernel
theorem dXL_law_449 : decode code 449 = .ok (.iconst 5, 1) := by decide +kernel
theorem dXL_law_450 : decode code 450 = .ok (.iadd, 1) := by decide +kernel
theorem dXL_law_451 : decode code 451 = .ok (.iaload, 1) := by decide +kernel
theorem dXL_law_452 : decode code 452 = .ok (.aload_n 0, 1) := by decide +kernel
theorem dXL_law_453 : decode code 453 = .ok (.iload_n 3, 1) := by decide +kernel
theorem dXL_law_454 : decode code 454 = .ok (.bipush 6, 2) := by decide +kernel
theorem dXL_law_456 : decode code 456 = .ok (.iadd, 1) := by decide +kernel
theorem dXL_law_457 : decode code 457 = .ok (.iaload, 1) := by decide +kernel
theorem dXL_law_458 : decode code 458 = .ok (.invokevirtual 40, 3) := by decide +kernel
theorem dXL_law_461 : decode code 461 = .ok (.if_icmp .eq 590, 3) := by decide +kernel
theorem dXL_law_464 : decode code 464 = .ok (.iconst 0, 1) := by decide +kernel
theorem dXL_law_465 : decode code 465 = .ok (.ireturn, 1) := by decide +kernel
theorem dXL_law_466 : decode code 466 = .ok (.aload_n 1, 1) := by decide +kernel
theorem dXL_law_467 : decode code 467 = .ok (.invokevirtual 41, 3) := by decide +kernel
theorem dXL_law_470 : decode code 470 = .ok (.aload_n 2, 1) := by decide +kernel
theorem dXL_law_471 : decode code 471 = .ok (.invokevirtual 45, 3) := by decide +kernel
theorem dXL_law_474 : decode code 474 = .ok (.if_icmp .eq 577, 3) := by decide +kernel
theorem dXL_law_477 : decode code 477 = .ok (.iconst 0, 1) := by decide +kernel
theorem dXL_law_478 : decode code 478 = .ok (.ireturn, 1) := by decide +kernel
theorem dXL_law_479 : decode code 479 = .ok (.aload_n 1, 1) := by decide +kernel
theorem dXL_law_480 : decode code 480 = .ok (.invokevirtual 46, 3) := by decide +kernel
theorem dXL_law_483 : decode code 483 = .ok (.aload_n 2, 1) := by decide +kernel
theorem dXL_law_484 : decode code 484 = .ok (.invokevirtual 49, 3) := by decide +kernel
theorem dXL_law_487 : decode code 487 = .ok (.if_icmp .eq 564, 3) := by decide +kernel
theorem dXL_law_490 : decode code 490 = .ok (.iconst 0, 1) := by decide +kernel
theorem dXL_law_491 : decode code 491 = .ok (.ireturn, 1) := by decide +kernel
theorem dXL_law_492 : decode code 492 = .ok (.aload_n 1, 1) := by decide +kernel
theorem dXL_law_493 : decode code 493 = .ok (.aload_n 0, 1) := by decide +kernel
theorem dXL_law_494 : decode code 494 = .ok (.iload_n 3, 1) := by decide +kernel
theorem dXL_law_495 : decode code 495 = .ok (.iconst 1, 1) := by decide +kernel
theorem dXL_law_496 : decode code 496 = .ok (.iadd, 1) := by decide +kernel
theorem dXL_law_497 : decode code 497 = .ok (.iaload, 1) := by decide +kernel
theorem dXL_law_498 : decode code 498 = .ok (.invokevirtual 50, 3) := by decide +kernel
theorem dXL_law_501 : decode code 501 = .ok (.aload_n 2, 1) := by decide +kernel
theorem dXL_law_502 : decode code 502 = .ok (.aload_n 0, 1) := by decide +kernel
theorem dXL_law_503 : decode code 503 = .ok (.iload_n 3, 1) := by decide +kernel
theorem dXL_law_504 : decode code 504 = .ok (.iconst 1, 1) := by decide +kernel
theorem dXL_law_505 : decode code 505 = .ok (.iadd, 1) := by decide +kernel
theorem dXL_law_506 : decode code 506 = .ok (.iaload, 1) := by decide +kernel
theorem dXL_law_507 : decode code 507 = .ok (.invokevirtual 54, 3) := by decide +kernel
theorem dXL_law_510 : decode code 510 = .ok (.if_icmp .eq 541, 3) := by decide +kernel
theorem dXL_law_513 : decode code 513 = .ok (.iconst 0, 1) := by decide +kernel
theorem dXL_law_514 : decode code 514 = .ok (.ireturn, 1) := by decide +kernel
theorem dXL_law_515 : decode code 515 = .ok (.aload_n 1, 1) := by decide +kernel
theorem dXL_law_516 : decode code 516 = .ok (.aload_n 0, 1) := by decide +kernel
theorem dXL_law_517 : decode code 517 = .ok (.iload_n 3, 1) := by decide +kernel
theorem dXL_law_518 : decode code 518 = .ok (.iconst 1, 1) := by decide +kernel
theorem dXL_law_519 : decode code 519 = .ok (.iadd, 1) := by decide +kernel
theorem dXL_law_520 : decode code 520 = .ok (.iaload, 1) := by decide +kernel
theorem dXL_law_521 : decode code 521 = .ok (.invokevirtual 55, 3) := by decide +kernel
theorem dXL_law_524 : decode code 524 = .ok (.aload_n 2, 1) := by decide +kernel
theorem dXL_law_525 : decode code 525 = .ok (.aload_n 0, 1) := by decide +kernel
theorem dXL_law_526 : decode code 526 = .ok (.iload_n 3, 1) := by decide +kernel
theorem dXL_law_527 : decode code 527 = .ok (.iconst 1, 1) := by decide +kernel
theorem dXL_law_528 : decode code 528 = .ok (.iadd, 1) := by decide +kernel
theorem dXL_law_529 : decode code 529 = .ok (.iaload, 1) := by decide +kernel
theorem dXL_law_530 : decode code 530 = .ok (.invokevirtual 58, 3) := by decide +kernel
theorem dXL_law_533 : decode code 533 = .ok (.if_icmp .eq 518, 3) := by decide +kernel
theorem dXL_law_536 : decode code 536 = .ok (.iconst 0, 1) := by decide +kernel
theorem dXL_law_537 : decode code 537 = .ok (.ireturn, 1) := by decide +kernel
theorem dXL_law_538 : decode code 538 = .ok (.aload_n 1, 1) := by decide +kernel
theorem dXL_law_539 : decode code 539 = .ok (.aload_n 0, 1) := by decide +kernel
theorem dXL_law_540 : decode code 540 = .ok (.iload_n 3, 1) := by decide +kernel
theorem dXL_law_541 : decode code 541 = .ok (.iconst 1, 1) := by decide +kernel
theorem dXL_law_542 : decode code 542 = .ok (.iadd, 1) := by decide +kernel
theorem dXL_law_543 : decode code 543 = .ok (.iaload, 1) := by decide +kernel
theorem dXL_law_544 : decode code 544 = .ok (.invokevirtual 59, 3) := by decide +kernel
theorem dXL_law_547 : decode code 547 = .ok (.aload_n 2, 1) := by decide +kernel
theorem dXL_law_548 : decode code 548 = .ok (.aload_n 0, 1) := by decide +kernel
theorem dXL_law_549 : decode code 549 = .ok (.iload_n 3, 1) := by decide +kernel
theorem dXL_law_550 : decode code 550 = .ok (.iconst 1, 1) := by decide +kernel
theorem dXL_law_551 : decode code 551 = .ok (.iadd, 1) := by decide +kernel
theorem dXL_law_552 : decode code 552 = .ok (.iaload, 1) := by decide +kernel
theorem dXL_law_553 : decode code 553 = .ok (.invokevirtual 62, 3) := by decide +kernel
theorem dXL_law_556 : decode code 556 = .ok (.if_icmp .eq 495, 3) := by decide +kernel
theorem dXL_law_559 : decode code 559 = .ok (.iconst 0, 1) := by decide +kernel
theorem dXL_law_560 : decode code 560 = .ok (.ireturn, 1) := by decide +kernel
theorem dXL_law_561 : decode code 561 = .ok (.aload_n 1, 1) := by decide +kernel
theorem dXL_law_562 : decode code 562 = .ok (.aload_n 0, 1) := by decide +kernel
theorem dXL_law_563 : decode code 563 = .ok (.iload_n 3, 1) := by decide +kernel
theorem dXL_law_564 : decode code 564 = .ok (.iconst 1, 1) := by decide +kernel
theorem dXL_law_565 : decode code 565 = .ok (.iadd, 1) := by decide +kernel
theorem dXL_law_566 : decode code 566 = .ok (.iaload, 1) := by decide +kernel
theorem dXL_law_567 : decode code 567 = .ok (.invokevirtual 63, 3) := by decide +kernel
theorem dXL_law_570 : decode code 570 = .ok (.aload_n 2, 1) := by decide +kernel
theorem dXL_law_571 : decode code 571 = .ok (.aload_n 0, 1) := by decide +kernel
theorem dXL_law_572 : decode code 572 = .ok (.iload_n 3, 1) := by decide +kernel
theorem dXL_law_573 : decode code 573 = .ok (.iconst 1, 1) := by decide +kernel
theorem dXL_law_574 : decode code 574 = .ok (.iadd, 1) := by decide +kernel
theorem dXL_law_575 : decode code 575 = .ok (.iaload, 1) := by decide +kernel
theorem dXL_law_576 : decode code 576 = .ok (.invokevirtual 66, 3) := by decide +kernel
theorem dXL_law_579 : decode code 579 = .ok (.if_icmp .eq 472, 3) := by decide +kernel
theorem dXL_law_582 : decode code 582 = .ok (.iconst 0, 1) := by decide +kernel
theorem dXL_law_583 : decode code 583 = .ok (.ireturn, 1) := by decide +kernel
theorem dXL_law_584 : decode code 584 = .ok (.aload_n 1, 1) := by decide +kernel
theorem dXL_law_585 : decode code 585 = .ok (.aload_n 0, 1) := by decide +kernel
theorem dXL_law_586 : decode code 586 = .ok (.iload_n 3, 1) := by decide +kernel
theorem dXL_law_587 : decode code 587 = .ok (.iconst 1, 1) := by decide +kernel
theorem dXL_law_588 : decode code 588 = .ok (.iadd, 1) := by decide +kernel
theorem dXL_law_589 : decode code 589 = .ok (.iaload, 1) := by decide +kernel
theorem dXL_law_590 : decode code 590 = .ok (.invokevirtual 67, 3) := by decide +kernel
theorem dXL_law_593 : decode code 593 = .ok (.aload_n 2, 1) := by decide +kernel
theorem dXL_law_594 : decode code 594 = .ok (.aload_n 0, 1) := by decide +kernel
theorem dXL_law_595 : decode code 595 = .ok (.iload_n 3, 1) := by decide +kernel
theorem dXL_law_596 : decode code 596 = .ok (.iconst 1, 1) := by decide +kernel
theorem dXL_law_597 : decode code 597 = .ok (.iadd, 1) := by decide +kernel
theorem dXL_law_598 : decode code 598 = .ok (.iaload, 1) := by decide +kernel
theorem dXL_law_599 : decode code 599 = .ok (.invokevirtual 70, 3) := by decide +kernel
theorem dXL_law_602 : decode code 602 = .ok (.if_icmp .eq 449, 3) := by decide +kernel
theorem dXL_law_605 : decode code 605 = .ok (.iconst 0, 1) := by decide +kernel
theorem dXL_law_606 : decode code 606 = .ok (.ireturn, 1) := by decide +kernel
theorem dXL_law_607 : decode code 607 = .ok (.aload_n 1, 1) := by decide +kernel
theorem dXL_law_608 : decode code 608 = .ok (.aload_n 0, 1) := by decide +kernel
theorem dXL_law_609 : decode code 609 = .ok (.iload_n 3, 1) := by decide +kernel
theorem dXL_law_610 : decode code 610 = .ok (.iconst 1, 1) := by decide +kernel
theorem dXL_law_611 : decode code 611 = .ok (.iadd, 1) := by decide +kernel
theorem dXL_law_612 : decode code 612 = .ok (.iaload, 1) := by decide +kernel
theorem dXL_law_613 : decode code 613 = .ok (.aload_n 0, 1) := by decide +kernel
theorem dXL_law_614 : decode code 614 = .ok (.iload_n 3, 1) := by decide +kernel
theorem dXL_law_615 : decode code 615 = .ok (.iconst 2, 1) := by decide +kernel
theorem dXL_law_616 : decode code 616 = .ok (.iadd, 1) := by decide +kernel
theorem dXL_law_617 : decode code 617 = .ok (.iaload, 1) := by decide +kernel
theorem dXL_law_618 : decode code 618 = .ok (.invokevirtual 71, 3) := by decide +kernel
theorem dXL_law_621 : decode code 621 = .ok (.aload_n 2, 1) := by decide +kernel
theorem dXL_law_622 : decode code 622 = .ok (.aload_n 0, 1) := by decide +kernel
theorem dXL_law_623 : decode code 623 = .ok (.iload_n 3, 1) := by decide +kernel
theorem dXL_law_624 : decode code 624 = .ok (.iconst 1, 1) := by decide +kernel
theorem dXL_law_625 : decode code 625 = .ok (.iadd, 1) := by decide +kernel
theorem dXL_law_626 : decode code 626 = .ok (.iaload, 1) := by decide +kernel
theorem dXL_law_627 : decode code 627 = .ok (.aload_n 0, 1) := by decide +kernel
theorem dXL_law_628 : decode code 628 = .ok (.iload_n 3, 1) := by decide +kernel
theorem dXL_law_629 : decode code 629 = .ok (.iconst 2, 1) := by decide +kernel
theorem dXL_law_630 : decode code 630 = .ok (.iadd, 1) := by decide +kernel
theorem dXL_law_631 : decode code 631 = .ok (.iaload, 1) := by decide +kernel
theorem dXL_law_632 : decode code 632 = .ok (.invokevirtual 74, 3) := by decide +kernel
theorem dXL_law_635 : decode code 635 = .ok (.if_icmp .eq 416, 3) := by decide +kernel
theorem dXL_law_638 : decode code 638 = .ok (.iconst 0, 1) := by decide +kernel
theorem dXL_law_639 : decode code 639 = .ok (.ireturn, 1) := by decide +kernel
theorem dXL_law_640 : decode code 640 = .ok (.aload_n 1, 1) := by decide +kernel
theorem dXL_law_641 : decode code 641 = .ok (.aload_n 0, 1) := by decide +kernel
theorem dXL_law_642 : decode code 642 = .ok (.iload_n 3, 1) := by decide +kernel
theorem dXL_law_643 : decode code 643 = .ok (.iconst 1, 1) := by decide +kernel
theorem dXL_law_644 : decode code 644 = .ok (.iadd, 1) := by decide +kernel
theorem dXL_law_645 : decode code 645 = .ok (.iaload, 1) := by decide +kernel
theorem dXL_law_646 : decode code 646 = .ok (.aload_n 0, 1) := by decide +kernel
theorem dXL_law_647 : decode code 647 = .ok (.iload_n 3, 1) := by decide +kernel
theorem dXL_law_648 : decode code 648 = .ok (.iconst 2, 1) := by decide +kernel
theorem dXL_law_649 : decode code 649 = .ok (.iadd, 1) := by decide +kernel
theorem dXL_law_650 : decode code 650 = .ok (.iaload, 1) := by decide +kernel
theorem dXL_law_651 : decode code 651 = .ok (.aload_n 0, 1) := by decide +kernel
theorem dXL_law_652 : decode code 652 = .ok (.iload_n 3, 1) := by decide +kernel
theorem dXL_law_653 : decode code 653 = .ok (.iconst 3, 1) := by decide +kernel
theorem dXL_law_654 : decode code 654 = .ok (.iadd, 1) := by decide +kernel
theorem dXL_law_655 : decode code 655 = .ok (.iaload, 1) := by decide +kernel
theorem dXL_law_656 : decode code 656 = .ok (.invokevirtual 75, 3) := by decide +kernel
theorem dXL_law_659 : decode code 659 = .ok (.aload_n 2, 1) := by decide +kernel
theorem dXL_law_660 : decode code 660 = .ok (.aload_n 0, 1) := by decide +kernel
theorem dXL_law_661 : decode code 661 = .ok (.iload_n 3, 1) := by decide +kernel
theorem dXL_law_662 : decode code 662 = .ok (.iconst 1, 1) := by decide +kernel
theorem dXL_law_663 : decode code 663 = .ok (.iadd, 1) := by decide +kernel
theorem dXL_law_664 : decode code 664 = .ok (.iaload, 1) := by decide +kernel
theorem dXL_law_665 : decode code 665 = .ok (.aload_n 0, 1) := by decide +kernel
theorem dXL_law_666 : decode code 666 = .ok (.iload_n 3, 1) := by decide +kernel
theorem dXL_law_667 : decode code 667 = .ok (.iconst 2, 1) := by decide +kernel
theorem dXL_law_668 : decode code 668 = .ok (.iadd, 1) := by decide +kernel
theorem dXL_law_669 : decode code 669 = .ok (.iaload, 1) := by decide +kernel
theorem dXL_law_670 : decode code 670 = .ok (.aload_n 0, 1) := by decide +kernel
theorem dXL_law_671 : decode code 671 = .ok (.iload_n 3, 1) := by decide +kernel
theorem dXL_law_672 : decode code 672 = .ok (.iconst 3, 1) := by decide +kernel
theorem dXL_law_673 : decode code 673 = .ok (.iadd, 1) := by decide +kernel
theorem dXL_law_674 : decode code 674 = .ok (.iaload, 1) := by decide +kernel
theorem dXL_law_675 : decode code 675 = .ok (.invokevirtual 79, 3) := by decide +kernel
theorem dXL_law_678 : decode code 678 = .ok (.if_icmp .eq 373, 3) := by decide +kernel
theorem dXL_law_681 : decode code 681 = .ok (.iconst 0, 1) := by decide +kernel
theorem dXL_law_682 : decode code 682 = .ok (.ireturn, 1) := by decide +kernel
theorem dXL_law_683 : decode code 683 = .ok (.aload_n 1, 1) := by decide +kernel
theorem dXL_law_684 : decode code 684 = .ok (.aload_n 0, 1) := by decide +kernel
theorem dXL_law_685 : decode code 685 = .ok (.iload_n 3, 1) := by decide +kernel
theorem dXL_law_686 : decode code 686 = .ok (.iconst 1, 1) := by decide +kernel
theorem dXL_law_687 : decode code 687 = .ok (.iadd, 1) := by decide +kernel
theorem dXL_law_688 : decode code 688 = .ok (.iaload, 1) := by decide +kernel
theorem dXL_law_689 : decode code 689 = .ok (.aload_n 0, 1) := by decide +kernel
theorem dXL_law_690 : decode code 690 = .ok (.iload_n 3, 1) := by decide +kernel
theorem dXL_law_691 : decode code 691 = .ok (.iconst 2, 1) := by decide +kernel
theorem dXL_law_692 : decode code 692 = .ok (.iadd, 1) := by decide +kernel
theorem dXL_law_693 : decode code 693 = .ok (.iaload, 1) := by decide +kernel
theorem dXL_law_694 : decode code 694 = .ok (.aload_n 0, 1) := by decide +kernel
theorem dXL_law_695 : decode code 695 = .ok (.iload_n 3, 1) := by decide +kernel
theorem dXL_law_696 : decode code 696 = .ok (.iconst 3, 1) := by decide +kernel
theorem dXL_law_697 : decode code 697 = .ok (.iadd, 1) := by decide +kernel
theorem dXL_law_698 : decode code 698 = .ok (.iaload, 1) := by decide +kernel
theorem dXL_law_699 : decode code 699 = .ok (.aload_n 0, 1) := by decide +kernel
theorem dXL_law_700 : decode code 700 = .ok (.iload_n 3, 1) := by decide +kernel
theorem dXL_law_701 : decode code 701 = .ok (.iconst 4, 1) := by decide +kernel
theorem dXL_law_702 : decode code 702 = .ok (.iadd, 1) := by decide +kernel
theorem dXL_law_703 : decode code 703 = .ok (.iaload, 1) := by decide +kernel
theorem dXL_law_704 : decode code 704 = .ok (.invokevirtual 80, 3) := by decide +kernel
theorem dXL_law_707 : decode code 707 = .ok (.aload_n 2, 1) := by decide +kernel
theorem dXL_law_708 : decode code 708 = .ok (.aload_n 0, 1) := by decide +kernel
theorem dXL_law_709 : decode code 709 = .ok (.iload_n 3, 1) := by decide +kernel
theorem dXL_law_710 : decode code 710 = .ok (.iconst 1, 1) := by decide +kernel
theorem dXL_law_711 : decode code 711 = .ok (.iadd, 1) := by decide +kernel
theorem dXL_law_712 : decode code 712 = .ok (.iaload, 1) := by decide +kernel
theorem dXL_law_713 : decode code 713 = .ok (.aload_n 0, 1) := by decide +kernel
theorem dXL_law_714 : decode code 714 = .ok (.iload_n 3, 1) := by decide +kernel
theorem dXL_law_715 : decode code 715 = .ok (.iconst 2, 1) := by decide +kernel
theorem dXL_law_716 : decode code 716 = .ok (.iadd, 1) := by decide +kernel
theorem dXL_law_717 : decode code 717 = .ok (.iaload, 1) := by decide +kernel
theorem dXL_law_718 : decode code 718 = .ok (.aload_n 0, 1) := by decide +kernel
theorem dXL_law_719 : decode code 719 = .ok (.iload_n 3, 1) := by decide +kernel
theorem dXL_law_720 : decode code 720 = .ok (.iconst 3, 1) := by decide +kernel
theorem dXL_law_721 : decode code 721 = .ok (.iadd, 1) := by decide +kernel
theorem dXL_law_722 : decode code 722 = .ok (.iaload, 1) := by decide +kernel
theorem dXL_law_723 : decode code 723 = .ok (.aload_n 0, 1) := by decide +kernel
theorem dXL_law_724 : decode code 724 = .ok (.iload_n 3, 1) := by decide +kernel
theorem dXL_law_725 : decode code 725 = .ok (.iconst 4, 1) := by decide +kernel
theorem dXL_law_726 : decode code 726 = .ok (.iadd, 1) := by decide +kernel
theorem dXL_law_727 : decode code 727 = .ok (.iaload, 1) := by decide +kernel
theorem dXL_law_728 : decode code 728 = .ok (.invokevirtual 83, 3) := by decide +kernel
theorem dXL_law_731 : decode code 731 = .ok (.if_icmp .eq 320, 3) := by decide +kernel
theorem dXL_law_734 : decode code 734 = .ok (.iconst 0, 1) := by decide +kernel
theorem dXL_law_735 : decode code 735 = .ok (.ireturn, 1) := by decide +kernel
theorem dXL_law_736 : decode code 736 = .ok (.aload_n 1, 1) := by decide +kernel
theorem dXL_law_737 : decode code 737 = .ok (.aload_n 0, 1) := by decide +kernel
theorem dXL_law_738 : decode code 738 = .ok (.iload_n 3, 1) := by decide +kernel
theorem dXL_law_739 : decode code 739 = .ok (.iconst 1, 1) := by decide +kernel
theorem dXL_law_740 : decode code 740 = .ok (.iadd, 1) := by decide +kernel
theorem dXL_law_741 : decode code 741 = .ok (.iaload, 1) := by decide +kernel
theorem dXL_law_742 : decode code 742 = .ok (.aload_n 0, 1) := by decide +kernel
theorem dXL_law_743 : decode code 743 = .ok (.iload_n 3, 1) := by decide +kernel
theorem dXL_law_744 : decode code 744 = .ok (.iconst 2, 1) := by decide +kernel
theorem dXL_law_745 : decode code 745 = .ok (.iadd, 1) := by decide +kernel
theorem dXL_law_746 : decode code 746 = .ok (.iaload, 1) := by decide +kernel
theorem dXL_law_747 : decode code 747 = .ok (.aload_n 0, 1) := by decide +kernel
theorem dXL_law_748 : decode code 748 = .ok (.iload_n 3, 1) := by decide +kernel
theorem dXL_law_749 : decode code 749 = .ok (.iconst 3, 1) := by decide +kernel
theorem dXL_law_750 : decode code 750 = .ok (.iadd, 1) := by decide +kernel
theorem dXL_law_751 : decode code 751 = .ok (.iaload, 1) := by decide +kernel
theorem dXL_law_752 : decode code 752 = .ok (.invokevirtual 84, 3) := by decide +kernel
theorem dXL_law_755 : decode code 755 = .ok (.aload_n 2, 1) := by decide +kernel
theorem dXL_law_756 : decode code 756 = .ok (.aload_n 0, 1) := by decide +kernel
theorem dXL_law_757 : decode code 757 = .ok (.iload_n 3, 1) := by decide +kernel
theorem dXL_law_758 : decode code 758 = .ok (.iconst 1, 1) := by decide +kernel
theorem dXL_law_759 : decode code 759 = .ok (.iadd, 1) := by decide +kernel
theorem dXL_law_760 : decode code 760 = .ok (.iaload, 1) := by decide +kernel
theorem dXL_law_761 : decode code 761 = .ok (.aload_n 0, 1) := by decide +kernel
theorem dXL_law_762 : decode code 762 = .ok (.iload_n 3, 1) := by decide +kernel
theorem dXL_law_763 : decode code 763 = .ok (.iconst 2, 1) := by decide +kernel
theorem dXL_law_764 : decode code 764 = .ok (.iadd, 1) := by decide +kernel
theorem dXL_law_765 : decode code 765 = .ok (.iaload, 1) := by decide +kernel
theorem dXL_law_766 : decode code 766 = .ok (.aload_n 0, 1) := by decide +kernel
theorem dXL_law_767 : decode code 767 = .ok (.iload_n 3, 1) := by decide +kernel
theorem dXL_law_768 : decode code 768 = .ok (.iconst 3, 1) := by decide +kernel
theorem dXL_law_769 : decode code 769 = .ok (.iadd, 1) := by decide +kernel
theorem dXL_law_770 : decode code 770 = .ok (.iaload, 1) := by decide +kernel
theorem dXL_law_771 : decode code 771 = .ok (.invokevirtual 87, 3) := by decide +kernel
theorem dXL_law_774 : decode code 774 = .ok (.if_icmp .eq 277, 3) := by decide +kernel
theorem dXL_law_777 : decode code 777 = .ok (.iconst 0, 1) := by decide +kernel
theorem dXL_law_778 : decode code 778 = .ok (.ireturn, 1) := by decide +kernel
theorem dXL_law_779 : decode code 779 = .ok (.aload_n 1, 1) := by decide +kernel
theorem dXL_law_780 : decode code 780 = .ok (.aload_n 0, 1) := by decide +kernel
theorem dXL_law_781 : decode code 781 = .ok (.iload_n 3, 1) := by decide +kernel
theorem dXL_law_782 : decode code 782 = .ok (.iconst 1, 1) := by decide +kernel
theorem dXL_law_783 : decode code 783 = .ok (.iadd, 1) := by decide +kernel
theorem dXL_law_784 : decode code 784 = .ok (.iaload, 1) := by decide +kernel
theorem dXL_law_785 : decode code 785 = .ok (.aload_n 0, 1) := by decide +kernel
theorem dXL_law_786 : decode code 786 = .ok (.iload_n 3, 1) := by decide +kernel
theorem dXL_law_787 : decode code 787 = .ok (.iconst 2, 1) := by decide +kernel
theorem dXL_law_788 : decode code 788 = .ok (.iadd, 1) := by decide +kernel
theorem dXL_law_789 : decode code 789 = .ok (.iaload, 1) := by decide +kernel
theorem dXL_law_790 : decode code 790 = .ok (.invokevirtual 88, 3) := by decide +kernel
theorem dXL_law_793 : decode code 793 = .ok (.aload_n 2, 1) := by decide +kernel
theorem dXL_law_794 : decode code 794 = .ok (.aload_n 0, 1) := by decide +kernel
theorem dXL_law_795 : decode code 795 = .ok (.iload_n 3, 1) := by decide +kernel
theorem dXL_law_796 : decode code 796 = .ok (.iconst 1, 1) := by decide +kernel
theorem dXL_law_797 : decode code 797 = .ok (.iadd, 1) := by decide +kernel
theorem dXL_law_798 : decode code 798 = .ok (.iaload, 1) := by decide +kernel
theorem dXL_law_799 : decode code 799 = .ok (.aload_n 0, 1) := by decide +kernel
theorem dXL_law_800 : decode code 800 = .ok (.iload_n 3, 1) := by decide +kernel
theorem dXL_law_801 : decode code 801 = .ok (.iconst 2, 1) := by decide +kernel
theorem dXL_law_802 : decode code 802 = .ok (.iadd, 1) := by decide +kernel
theorem dXL_law_803 : decode code 803 = .ok (.iaload, 1) := by decide +kernel
theorem dXL_law_804 : decode code 804 = .ok (.invokevirtual 92, 3) := by decide +kernel
theorem dXL_law_807 : decode code 807 = .ok (.if_icmp .eq 244, 3) := by decide +kernel
theorem dXL_law_810 : decode code 810 = .ok (.iconst 0, 1) := by decide +kernel
theorem dXL_law_811 : decode code 811 = .ok (.ireturn, 1) := by decide +kernel
theorem dXL_law_812 : decode code 812 = .ok (.aload_n 1, 1) := by decide +kernel
theorem dXL_law_813 : decode code 813 = .ok (.aload_n 0, 1) := by decide +kernel
theorem dXL_law_814 : decode code 814 = .ok (.iload_n 3, 1) := by decide +kernel
theorem dXL_law_815 : decode code 815 = .ok (.iconst 1, 1) := by decide +kernel
theorem dXL_law_816 : decode code 816 = .ok (.iadd, 1) := by decide +kernel
theorem dXL_law_817 : decode code 817 = .ok (.iaload, 1) := by decide +kernel
theorem dXL_law_818 : decode code 818 = .ok (.aload_n 0, 1) := by decide +kernel
theorem dXL_law_819 : decode code 819 = .ok (.iload_n 3, 1) := by decide +kernel
theorem dXL_law_820 : decode code 820 = .ok (.iconst 2, 1) := by decide +kernel
theorem dXL_law_821 : decode code 821 = .ok (.iadd, 1) := by decide +kernel
theorem dXL_law_822 : decode code 822 = .ok (.iaload, 1) := by decide +kernel
theorem dXL_law_823 : decode code 823 = .ok (.aload_n 0, 1) := by decide +kernel
theorem dXL_law_824 : decode code 824 = .ok (.iload_n 3, 1) := by decide +kernel
theorem dXL_law_825 : decode code 825 = .ok (.iconst 3, 1) := by decide +kernel
theorem dXL_law_826 : decode code 826 = .ok (.iadd, 1) := by decide +kernel
theorem dXL_law_827 : decode code 827 = .ok (.iaload, 1) := by decide +kernel
theorem dXL_law_828 : decode code 828 = .ok (.ifCond .eq 7, 3) := by decide +kernel
theorem dXL_law_831 : decode code 831 = .ok (.iconst 1, 1) := by decide +kernel
theorem dXL_law_832 : decode code 832 = .ok (.goto 4, 3) := by decide +kernel
theorem dXL_law_835 : decode code 835 = .ok (.iconst 0, 1) := by decide +kernel
theorem dXL_law_836 : decode code 836 = .ok (.aload_n 0, 1) := by decide +kernel
theorem dXL_law_837 : decode code 837 = .ok (.iload_n 3, 1) := by decide +kernel
theorem dXL_law_838 : decode code 838 = .ok (.iconst 4, 1) := by decide +kernel
theorem dXL_law_839 : decode code 839 = .ok (.iadd, 1) := by decide +kernel
theorem dXL_law_840 : decode code 840 = .ok (.iaload, 1) := by decide +kernel
theorem dXL_law_841 : decode code 841 = .ok (.aload_n 0, 1) := by decide +kernel
theorem dXL_law_842 : decode code 842 = .ok (.iload_n 3, 1) := by decide +kernel
theorem dXL_law_843 : decode code 843 = .ok (.iconst 5, 1) := by decide +kernel
theorem dXL_law_844 : decode code 844 = .ok (.iadd, 1) := by decide +kernel
theorem dXL_law_845 : decode code 845 = .ok (.iaload, 1) := by decide +kernel
theorem dXL_law_846 : decode code 846 = .ok (.invokevirtual 93, 3) := by decide +kernel
theorem dXL_law_849 : decode code 849 = .ok (.aload_n 2, 1) := by decide +kernel
theorem dXL_law_850 : decode code 850 = .ok (.aload_n 0, 1) := by decide +kernel
theorem dXL_law_851 : decode code 851 = .ok (.iload_n 3, 1) := by decide +kernel
theorem dXL_law_852 : decode code 852 = .ok (.iconst 1, 1) := by decide +kernel
theorem dXL_law_853 : decode code 853 = .ok (.iadd, 1) := by decide +kernel
theorem dXL_law_854 : decode code 854 = .ok (.iaload, 1) := by decide +kernel
theorem dXL_law_855 : decode code 855 = .ok (.aload_n 0, 1) := by decide +kernel
theorem dXL_law_856 : decode code 856 = .ok (.iload_n 3, 1) := by decide +kernel
theorem dXL_law_857 : decode code 857 = .ok (.iconst 2, 1) := by decide +kernel
theorem dXL_law_858 : decode code 858 = .ok (.iadd, 1) := by decide +kernel
theorem dXL_law_859 : decode code 859 = .ok (.iaload, 1) := by decide +kernel
theorem dXL_law_860 : decode code 860 = .ok (.aload_n 0, 1) := by decide +kernel
theorem dXL_law_861 : decode code 861 = .ok (.iload_n 3, 1) := by decide +kernel
theorem dXL_law_862 : decode code 862 = .ok (.iconst 3, 1) := by decide +kernel
theorem dXL_law_863 : decode code 863 = .ok (.iadd, 1) := by decide +kernel
theorem dXL_law_864 : decode code 864 = .ok (.iaload, 1) := by decide +kernel
theorem dXL_law_865 : decode code 865 = .ok (.ifCond .eq 7, 3) := by decide +kernel
theorem dXL_law_868 : decode code 868 = .ok (.iconst 1, 1) := by decide +kernel
theorem dXL_law_869 : decode code 869 = .ok (.goto 4, 3) := by decide +kernel
theorem dXL_law_872 : decode code 872 = .ok (.iconst 0, 1) := by decide +kernel
theorem dXL_law_873 : decode code 873 = .ok (.aload_n 0, 1) := by decide +kernel
theorem dXL_law_874 : decode code 874 = .ok (.iload_n 3, 1) := by decide +kernel
theorem dXL_law_875 : decode code 875 = .ok (.iconst 4, 1) := by decide +kernel
theorem dXL_law_876 : decode code 876 = .ok (.iadd, 1) := by decide +kernel
theorem dXL_law_877 : decode code 877 = .ok (.iaload, 1) := by decide +kernel
theorem dXL_law_878 : decode code 878 = .ok (.aload_n 0, 1) := by decide +kernel
theorem dXL_law_879 : decode code 879 = .ok (.iload_n 3, 1) := by decide +kernel
theorem dXL_law_880 : decode code 880 = .ok (.iconst 5, 1) := by decide +kernel
theorem dXL_law_881 : decode code 881 = .ok (.iadd, 1) := by decide +kernel
theorem dXL_law_882 : decode code 882 = .ok (.iaload, 1) := by decide +kernel
theorem dXL_law_883 : decode code 883 = .ok (.invokevirtual 97, 3) := by decide +kernel
theorem dXL_law_886 : decode code 886 = .ok (.if_icmp .eq 165, 3) := by decide +kernel
theorem dXL_law_889 : decode code 889 = .ok (.iconst 0, 1) := by decide +kernel
theorem dXL_law_890 : decode code 890 = .ok (.ireturn, 1) := by decide +kernel
theorem dXL_law_891 : decode code 891 = .ok (.aload_n 1, 1) := by decide +kernel
theorem dXL_law_892 : decode code 892 = .ok (.aload_n 0, 1) := by decide +kernel
theorem dXL_law_893 : decode code 893 = .ok (.iload_n 3, 1) := by decide +kernel
theorem dXL_law_894 : decode code 894 = .ok (.iconst 1, 1) := by decide +kernel
theorem dXL_law_895 : decode code 895 = .ok (.iadd, 1) := by decide +kernel
theorem dXL_law_896 : decode code 896 = .ok (.iaload, 1) := by decide +kernel
theorem dXL_law_897 : decode code 897 = .ok (.aload_n 0, 1) := by decide +kernel
theorem dXL_law_898 : decode code 898 = .ok (.iload_n 3, 1) := by decide +kernel
theorem dXL_law_899 : decode code 899 = .ok (.iconst 2, 1) := by decide +kernel
theorem dXL_law_900 : decode code 900 = .ok (.iadd, 1) := by decide +kernel
theorem dXL_law_901 : decode code 901 = .ok (.iaload, 1) := by decide +kernel
theorem dXL_law_902 : decode code 902 = .ok (.aload_n 0, 1) := by decide +kernel
theorem dXL_law_903 : decode code 903 = .ok (.iload_n 3, 1) := by decide +kernel
theorem dXL_law_904 : decode code 904 = .ok (.iconst 3, 1) := by decide +kernel
theorem dXL_law_905 : decode code 905 = .ok (.iadd, 1) := by decide +kernel
theorem dXL_law_906 : decode code 906 = .ok (.iaload, 1) := by decide +kernel
theorem dXL_law_907 : decode code 907 = .ok (.ifCond .eq 7, 3) := by decide +kernel
theorem dXL_law_910 : decode code 910 = .ok (.iconst 1, 1) := by decide +kernel
theorem dXL_law_911 : decode code 911 = .ok (.goto 4, 3) := by decide +kernel
theorem dXL_law_914 : decode code 914 = .ok (.iconst 0, 1) := by decide +kernel
theorem dXL_law_915 : decode code 915 = .ok (.aload_n 0, 1) := by decide +kernel
theorem dXL_law_916 : decode code 916 = .ok (.iload_n 3, 1) := by decide +kernel
theorem dXL_law_917 : decode code 917 = .ok (.iconst 4, 1) := by decide +kernel
theorem dXL_law_918 : decode code 918 = .ok (.iadd, 1) := by decide +kernel
theorem dXL_law_919 : decode code 919 = .ok (.iaload, 1) := by decide +kernel
theorem dXL_law_920 : decode code 920 = .ok (.aload_n 0, 1) := by decide +kernel
theorem dXL_law_921 : decode code 921 = .ok (.iload_n 3, 1) := by decide +kernel
theorem dXL_law_922 : decode code 922 = .ok (.iconst 5, 1) := by decide +kernel
theorem dXL_law_923 : decode code 923 = .ok (.iadd, 1) := by decide +kernel
theorem dXL_law_924 : decode code 924 = .ok (.iaload, 1) := by decide +kernel
theorem dXL_law_925 : decode code 925 = .ok (.aload_n 0, 1) := by decide +kernel
theorem dXL_law_926 : decode code 926 = .ok (.iload_n 3, 1) := by decide +kernel
theorem dXL_law_927 : decode code 927 = .ok (.bipush 6, 2) := by decide +kernel
theorem dXL_law_929 : decode code 929 = .ok (.iadd, 1) := by decide +kernel
theorem dXL_law_930 : decode code 930 = .ok (.iaload, 1) := by decide +kernel
theorem dXL_law_931 : decode code 931 = .ok (.invokevirtual 98, 3) := by decide +kernel
theorem dXL_law_934 : decode code 934 = .ok (.aload_n 2, 1) := by decide +kernel
theorem dXL_law_935 : decode code 935 = .ok (.aload_n 0, 1) := by decide +kernel
theorem dXL_law_936 : decode code 936 = .ok (.iload_n 3, 1) := by decide +kernel
theorem dXL_law_937 : decode code 937 = .ok (.iconst 1, 1) := by decide +kernel
theorem dXL_law_938 : decode code 938 = .ok (.iadd, 1) := by decide +kernel
theorem dXL_law_939 : decode code 939 = .ok (.iaload, 1) := by decide +kernel
theorem dXL_law_940 : decode code 940 = .ok (.aload_n 0, 1) := by decide +kernel
theorem dXL_law_941 : decode code 941 = .ok (.iload_n 3, 1) := by decide +kernel
theorem dXL_law_942 : decode code 942 = .ok (.iconst 2, 1) := by decide +kernel
theorem dXL_law_943 : decode code 943 = .ok (.iadd, 1) := by decide +kernel
theorem dXL_law_944 : decode code 944 = .ok (.iaload, 1) := by decide +kernel
theorem dXL_law_945 : decode code 945 = .ok (.aload_n 0, 1) := by decide +kernel
theorem dXL_law_946 : decode code 946 = .ok (.iload_n 3, 1) := by decide +kernel
theorem dXL_law_947 : decode code 947 = .ok (.iconst 3, 1) := by decide +kernel
theorem dXL_law_948 : decode code 948 = .ok (.iadd, 1) := by decide +kernel
theorem dXL_law_949 : decode code 949 = .ok (.iaload, 1) := by decide +kernel
theorem dXL_law_950 : decode code 950 = .ok (.ifCond .eq 7, 3) := by decide +kernel
theorem dXL_law_953 : decode code 953 = .ok (.iconst 1, 1) := by decide +kernel
theorem dXL_law_954 : decode code 954 = .ok (.goto 4, 3) := by decide +kernel
theorem dXL_law_957 : decode code 957 = .ok (.iconst 0, 1) := by decide +kernel
theorem dXL_law_958 : decode code 958 = .ok (.aload_n 0, 1) := by decide +kernel
theorem dXL_law_959 : decode code 959 = .ok (.iload_n 3, 1) := by decide +kernel
theorem dXL_law_960 : decode code 960 = .ok (.iconst 4, 1) := by decide +kernel
theorem dXL_law_961 : decode code 961 = .ok (.iadd, 1) := by decide +kernel
theorem dXL_law_962 : decode code 962 = .ok (.iaload, 1) := by decide +kernel
theorem dXL_law_963 : decode code 963 = .ok (.aload_n 0, 1) := by decide +kernel
theorem dXL_law_964 : decode code 964 = .ok (.iload_n 3, 1) := by decide +kernel
theorem dXL_law_965 : decode code 965 = .ok (.iconst 5, 1) := by decide +kernel
theorem dXL_law_966 : decode code 966 = .ok (.iadd, 1) := by decide +kernel
theorem dXL_law_967 : decode code 967 = .ok (.iaload, 1) := by decide +kernel
theorem dXL_law_968 : decode code 968 = .ok (.aload_n 0, 1) := by decide +kernel
theorem dXL_law_969 : decode code 969 = .ok (.iload_n 3, 1) := by decide +kernel
theorem dXL_law_970 : decode code 970 = .ok (.bipush 6, 2) := by decide +kernel
theorem dXL_law_972 : decode code 972 = .ok (.iadd, 1) := by decide +kernel
theorem dXL_law_973 : decode code 973 = .ok (.iaload, 1) := by decide +kernel
theorem dXL_law_974 : decode code 974 = .ok (.invokevirtual 102, 3) := by decide +kernel
theorem dXL_law_977 : decode code 977 = .ok (.if_icmp .eq 74, 3) := by decide +kernel
theorem dXL_law_980 : decode code 980 = .ok (.iconst 0, 1) := by decide +kernel
theorem dXL_law_981 : decode code 981 = .ok (.ireturn, 1) := by decide +kernel
theorem dXL_law_982 : decode code 982 = .ok (.aload_n 1, 1) := by decide +kernel
theorem dXL_law_983 : decode code 983 = .ok (.aload_n 0, 1) := by decide +kernel
theorem dXL_law_984 : decode code 984 = .ok (.iload_n 3, 1) := by decide +kernel
theorem dXL_law_985 : decode code 985 = .ok (.iconst 1, 1) := by decide +kernel
theorem dXL_law_986 : decode code 986 = .ok (.iadd, 1) := by decide +kernel
theorem dXL_law_987 : decode code 987 = .ok (.iaload, 1) := by decide +kernel
theorem dXL_law_988 : decode code 988 = .ok (.aload_n 0, 1) := by decide +kernel
theorem dXL_law_989 : decode code 989 = .ok (.iload_n 3, 1) := by decide +kernel
theorem dXL_law_990 : decode code 990 = .ok (.iconst 2, 1) := by decide +kernel
theorem dXL_law_991 : decode code 991 = .ok (.iadd, 1) := by decide +kernel
theorem dXL_law_992 : decode code 992 = .ok (.iaload, 1) := by decide +kernel
theorem dXL_law_993 : decode code 993 = .ok (.aload_n 0, 1) := by decide +kernel
theorem dXL_law_994 : decode code 994 = .ok (.iload_n 3, 1) := by decide +kernel
theorem dXL_law_995 : decode code 995 = .ok (.iconst 3, 1) := by decide +kernel
theorem dXL_law_996 : decode code 996 = .ok (.iadd, 1) := by decide +kernel
theorem dXL_law_997 : decode code 997 = .ok (.iaload, 1) := by decide +kernel
theorem dXL_law_998 : decode code 998 = .ok (.ifCond .eq 7, 3) := by decide +kernel
theorem dXL_law_1001 : decode code 1001 = .ok (.iconst 1, 1) := by decide +kernel
theorem dXL_law_1002 : decode code 1002 = .ok (.goto 4, 3) := by decide +kernel
theorem dXL_law_1005 : decode code 1005 = .ok (.iconst 0, 1) := by decide +kernel
theorem dXL_law_1006 : decode code 1006 = .ok (.aload_n 0, 1) := by decide +kernel
theorem dXL_law_1007 : decode code 1007 = .ok (.iload_n 3, 1) := by decide +kernel
theorem dXL_law_1008 : decode code 1008 = .ok (.iconst 4, 1) := by decide +kernel
theorem dXL_law_1009 : decode code 1009 = .ok (.iadd, 1) := by decide +kernel
theorem dXL_law_1010 : decode code 1010 = .ok (.iaload, 1) := by decide +kernel
theorem dXL_law_1011 : decode code 1011 = .ok (.invokevirtual 103, 3) := by decide +kernel
theorem dXL_law_1014 : decode code 1014 = .ok (.aload_n 2, 1) := by decide +kernel
theorem dXL_law_1015 : decode code 1015 = .ok (.aload_n 0, 1) := by decide +kernel
theorem dXL_law_1016 : decode code 1016 = .ok (.iload_n 3, 1) := by decide +kernel
theorem dXL_law_1017 : decode code 1017 = .ok (.iconst 1, 1) := by decide +kernel
theorem dXL_law_1018 : decode code 1018 = .ok (.iadd, 1) := by decide +kernel
theorem dXL_law_1019 : decode code 1019 = .ok (.iaload, 1) := by decide +kernel
theorem dXL_law_1020 : decode code 1020 = .ok (.aload_n 0, 1) := by decide +kernel
theorem dXL_law_1021 : decode code 1021 = .ok (.iload_n 3, 1) := by decide +kernel
theorem dXL_law_1022 : decode code 1022 = .ok (.iconst 2, 1) := by decide +kernel
theorem dXL_law_1023 : decode code 1023 = .ok (.iadd, 1) := by decide +kernel
theorem dXL_law_1024 : decode code 1024 = .ok (.iaload, 1) := by decide +kernel
theorem dXL_law_1025 : decode code 1025 = .ok (.aload_n 0, 1) := by decide +kernel
theorem dXL_law_1026 : decode code 1026 = .ok (.iload_n 3, 1) := by decide +kernel
theorem dXL_law_1027 : decode code 1027 = .ok (.iconst 3, 1) := by decide +kernel
theorem dXL_law_1028 : decode code 1028 = .ok (.iadd, 1) := by decide +kernel
theorem dXL_law_1029 : decode code 1029 = .ok (.iaload, 1) := by decide +kernel
theorem dXL_law_1030 : decode code 1030 = .ok (.ifCond .eq 7, 3) := by decide +kernel
theorem dXL_law_1033 : decode code 1033 = .ok (.iconst 1, 1) := by decide +kernel
theorem dXL_law_1034 : decode code 1034 = .ok (.goto 4, 3) := by decide +kernel
theorem dXL_law_1037 : decode code 1037 = .ok (.iconst 0, 1) := by decide +kernel
theorem dXL_law_1038 : decode code 1038 = .ok (.aload_n 0, 1) := by decide +kernel
theorem dXL_law_1039 : decode code 1039 = .ok (.iload_n 3, 1) := by decide +kernel
theorem dXL_law_1040 : decode code 1040 = .ok (.iconst 4, 1) := by decide +kernel
theorem dXL_law_1041 : decode code 1041 = .ok (.iadd, 1) := by decide +kernel
theorem dXL_law_1042 : decode code 1042 = .ok (.iaload, 1) := by decide +kernel
theorem dXL_law_1043 : decode code 1043 = .ok (.invokevirtual 107, 3) := by decide +kernel
theorem dXL_law_1046 : decode code 1046 = .ok (.if_icmp .eq 5, 3) := by decide +kernel
theorem dXL_law_1049 : decode code 1049 = .ok (.iconst 0, 1) := by decide +kernel
theorem dXL_law_1050 : decode code 1050 = .ok (.ireturn, 1) := by decide +kernel
theorem dXL_law_1051 : decode code 1051 = .ok (.iinc 3 8, 3) := by decide +kernel
theorem dXL_law_1054 : decode code 1054 = .ok (.goto (-1036), 3) := by decide +kernel
theorem dXL_law_1057 : decode code 1057 = .ok (.iconst 1, 1) := by decide +kernel
theorem dXL_law_1058 : decode code 1058 = .ok (.ireturn, 1) := by decide +kernel
