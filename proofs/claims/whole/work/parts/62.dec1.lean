theorem dLaw_law_0 : decode code 0 = .ok (.new 7, 3) := by decide +kernel
theorem dLaw_law_3 : decode code 3 = .ok (.dup, 1) := by decide +kernel
theorem dLaw_law_4 : decode code 4 = .ok (.aload_n 0, 1) := by decide +kernel
theorem dLaw_law_5 : decode code 5 = .ok (.iconst 0, 1) := by decide +kernel
theorem dLaw_law_6 : decode code 6 = .ok (.invokestatic 9, 3) := by decide +kernel
theorem dLaw_law_9 : decode code 9 = .ok (.aload_n 0, 1) := by decide +kernel
theorem dLaw_law_10 : decode code 10 = .ok (.iconst 1, 1) := by decide +kernel
theorem dLaw_law_11 : decode code 11 = .ok (.invokestatic 9, 3) := by decide +kernel
theorem dLaw_law_14 : decode code 14 = .ok (.aload_n 0, 1) := by decide +kernel
theorem dLaw_law_15 : decode code 15 = .ok (.iconst 2, 1) := by decide +kernel
theorem dLaw_law_16 : decode code 16 = .ok (.invokestatic 9, 3) := by decide +kernel
theorem dLaw_law_19 : decode code 19 = .ok (.invokespecial 15, 3) := by decide +kernel
theorem dLaw_law_22 : decode code 22 = .ok (.astore_n 1, 1) := by decide +kernel
theorem dLaw_law_23 : decode code 23 = .ok (.new 18, 3) := by decide +kernel
theorem dLaw_law_26 : decode code 26 = .ok (.dup, 1) := by decide +kernel
theorem dLaw_law_27 : decode code 27 = .ok (.aload_n 0, 1) := by decide +kernel
theorem dLaw_law_28 : decode code 28 = .ok (.iconst 0, 1) := by decide +kernel
theorem dLaw_law_29 : decode code 29 = .ok (.invokestatic 9, 3) := by decide +kernel
theorem dLaw_law_32 : decode code 32 = .ok (.aload_n 0, 1) := by decide +kernel
theorem dLaw_law_33 : decode code 33 = .ok (.iconst 1, 1) := by decide +kernel
theorem dLaw_law_34 : decode code 34 = .ok (.invokestatic 9, 3) := by decide +kernel
theorem dLaw_law_37 : decode code 37 = .ok (.aload_n 0, 1) := by decide +kernel
theorem dLaw_law_38 : decode code 38 = .ok (.iconst 2, 1) := by decide +kernel
theorem dLaw_law_39 : decode code 39 = .ok (.invokestatic 9, 3) := by decide +kernel
theorem dLaw_law_42 : decode code 42 = .ok (.invokespecial 20, 3) := by decide +kernel
theorem dLaw_law_45 : decode code 45 = .ok (.astore_n 2, 1) := by decide +kernel
theorem dLaw_law_46 : decode code 46 = .ok (.iconst 3, 1) := by decide +kernel
theorem dLaw_law_47 : decode code 47 = .ok (.istore_n 3, 1) := by decide +kernel
theorem dLaw_law_48 : decode code 48 = .ok (.iload_n 3, 1) := by decide +kernel
theorem dLaw_law_49 : decode code 49 = .ok (.aload_n 0, 1) := by decide +kernel
theorem dLaw_law_50 : decode code 50 = .ok (.arraylength, 1) := by decide +kernel
theorem dLaw_law_51 : decode code 51 = .ok (.iconst 5, 1) := by decide +kernel
theorem dLaw_law_52 : decode code 52 = .ok (.isub, 1) := by decide +kernel
theorem dLaw_law_53 : decode code 53 = .ok (.if_icmp .gt 609, 3) := by decide +kernel
theorem dLaw_law_56 : decode code 56 = .ok (.aload_n 0, 1) := by decide +kernel
theorem dLaw_law_57 : decode code 57 = .ok (.iload_n 3, 1) := by decide +kernel
theorem dLaw_law_58 : decode code 58 = .ok (.iaload, 1) := by decide +kernel
theorem dLaw_law_59 : decode code 59 = .ok (.bipush 31, 2) := by decide +kernel
theorem dLaw_law_61 : decode code 61 = .ok (.iand, 1) := by decide +kernel
theorem dLaw_law_62 : decode code 62 = .ok (.tableswitch 594 0 16 #[82, 135, 158, 181, 204, 227, 250, 273, 306, 339, 382, 425, 468, 501, 524, 547, 571], 82) := by decide +kernel
theorem dLaw_law_144 : decode code 144 = .ok (.aload_n 1, 1) := by decide +kernel
theorem dLaw_law_145 : decode code 145 = .ok (.aload_n 0, 1) := by decide +kernel
theorem dLaw_law_146 : decode code 146 = .ok (.iload_n 3, 1) := by decide +kernel
theorem dLaw_law_147 : decode code 147 = .ok (.iconst 1, 1) := by decide +kernel
theorem dLaw_law_148 : decode code 148 = .ok (.iadd, 1) := by decide +kernel
theorem dLaw_law_149 : decode code 149 = .ok (.iaload, 1) := by decide +kernel
theorem dLaw_law_150 : decode code 150 = .ok (.aload_n 0, 1) := by decide +kernel
theorem dLaw_law_151 : decode code 151 = .ok (.iload_n 3, 1) := by decide +kernel
theorem dLaw_law_152 : decode code 152 = .ok (.iconst 2, 1) := by decide +kernel
theorem dLaw_law_153 : decode code 153 = .ok (.iadd, 1) := by decide +kernel
theorem dLaw_law_154 : decode code 154 = .ok (.iaload, 1) := by decide +kernel
theorem dLaw_law_155 : decode code 155 = .ok (.aload_n 0, 1) := by decide +kernel
theorem dLaw_law_156 : decode code 156 = .ok (.iload_n 3, 1) := by decide +kernel
theorem dLaw_law_157 : decode code 157 = .ok (.iconst 3, 1) := by decide +kernel
theorem dLaw_law_158 : decode code 158 = .ok (.iadd, 1) := by decide +kernel
theorem dLaw_law_159 : decode code 159 = .ok (.iaload, 1) := by decide +kernel
theorem dLaw_law_160 : decode code 160 = .ok (.aload_n 0, 1) := by decide +kernel
theorem dLaw_law_161 : decode code 161 = .ok (.iload_n 3, 1) := by decide +kernel
theorem dLaw_law_162 : decode code 162 = .ok (.iconst 4, 1) := by decide +kernel
theorem dLaw_law_163 : decode code 163 = .ok (.iadd, 1) := by decide +kernel
theorem dLaw_law_164 : decode code 164 = .ok (.iaload, 1) := by decide +kernel
theorem dLaw_law_165 : decode code 165 = .ok (.invokevirtual 21, 3) := by decide +kernel
theorem dLaw_law_168 : decode code 168 = .ok (.aload_n 2, 1) := by decide +kernel
theorem dLaw_law_169 : decode code 169 = .ok (.aload_n 0, 1) := by decide +kernel
theorem dLaw_law_170 : decode code 170 = .ok (.iload_n 3, 1) := by decide +kernel
theorem dLaw_law_171 : decode code 171 = .ok (.iconst 1, 1) := by decide +kernel
theorem dLaw_law_172 : decode code 172 = .ok (.iadd, 1) := by decide +kernel
theorem dLaw_law_173 : decode code 173 = .ok (.iaload, 1) := by decide +kernel
theorem dLaw_law_174 : decode code 174 = .ok (.aload_n 0, 1) := by decide +kernel
theorem dLaw_law_175 : decode code 175 = .ok (.iload_n 3, 1) := by decide +kernel
theorem dLaw_law_176 : decode code 176 = .ok (.iconst 2, 1) := by decide +kernel
theorem dLaw_law_177 : decode code 177 = .ok (.iadd, 1) := by decide +kernel
theorem dLaw_law_178 : decode code 178 = .ok (.iaload, 1) := by decide +kernel
theorem dLaw_law_179 : decode code 179 = .ok (.aload_n 0, 1) := by decide +kernel
theorem dLaw_law_180 : decode code 180 = .ok (.iload_n 3, 1) := by decide +kernel
theorem dLaw_law_181 : decode code 181 = .ok (.iconst 3, 1) := by decide +kernel
theorem dLaw_law_182 : decode code 182 = .ok (.iadd, 1) := by decide +kernel
theorem dLaw_law_183 : decode code 183 = .ok (.iaload, 1) := by decide +kernel
theorem dLaw_law_184 : decode code 184 = .ok (.aload_n 0, 1) := by decide +kernel
theorem dLaw_law_185 : decode code 185 = .ok (.iload_n 3, 1) := by decide +kernel
theorem dLaw_law_186 : decode code 186 = .ok (.iconst 4, 1) := by decide +kernel
theorem dLaw_law_187 : decode code 187 = .ok (.iadd, 1) := by decide +kernel
theorem dLaw_law_188 : decode code 188 = .ok (.iaload, 1) := by decide +kernel
theorem dLaw_law_189 : decode code 189 = .ok (.invokevirtual 25, 3) := by decide +kernel
theorem dLaw_law_192 : decode code 192 = .ok (.if_icmp .eq 464, 3) := by decide +kernel
theorem dLaw_law_195 : decode code 195 = .ok (.iconst 0, 1) := by decide +kernel
theorem dLaw_law_196 : decode code 196 = .ok (.ireturn, 1) := by decide +kernel
theorem dLaw_law_197 : decode code 197 = .ok (.aload_n 1, 1) := by decide +kernel
theorem dLaw_law_198 : decode code 198 = .ok (.aload_n 0, 1) := by decide +kernel
theorem dLaw_law_199 : decode code 199 = .ok (.iload_n 3, 1) := by decide +kernel
theorem dLaw_law_200 : decode code 200 = .ok (.iconst 1, 1) := by decide +kernel
theorem dLaw_law_201 : decode code 201 = .ok (.iadd, 1) := by decide +kernel
theorem dLaw_law_202 : decode code 202 = .ok (.iaload, 1) := by decide +kernel
theorem dLaw_law_203 : decode code 203 = .ok (.invokevirtual 26, 3) := by decide +kernel
theorem dLaw_law_206 : decode code 206 = .ok (.aload_n 2, 1) := by decide +kernel
theorem dLaw_law_207 : decode code 207 = .ok (.aload_n 0, 1) := by decide +kernel
theorem dLaw_law_208 : decode code 208 = .ok (.iload_n 3, 1) := by decide +kernel
theorem dLaw_law_209 : decode code 209 = .ok (.iconst 1, 1) := by decide +kernel
theorem dLaw_law_210 : decode code 210 = .ok (.iadd, 1) := by decide +kernel
theorem dLaw_law_211 : decode code 211 = .ok (.iaload, 1) := by decide +kernel
theorem dLaw_law_212 : decode code 212 = .ok (.invokevirtual 30, 3) := by decide +kernel
theorem dLaw_law_215 : decode code 215 = .ok (.if_icmp .eq 441, 3) := by decide +kernel
theorem dLaw_law_218 : decode code 218 = .ok (.iconst 0, 1) := by decide +kernel
theorem dLaw_law_219 : decode code 219 = .ok (.ireturn, 1) := by decide +kernel
theorem dLaw_law_220 : decode code 220 = .ok (.aload_n 1, 1) := by decide +kernel
theorem dLaw_law_221 : decode code 221 = .ok (.aload_n 0, 1) := by decide +kernel
theorem dLaw_law_222 : decode code 222 = .ok (.iload_n 3, 1) := by decide +kernel
theorem dLaw_law_223 : decode code 223 = .ok (.iconst 1, 1) := by decide +kernel
theorem dLaw_law_224 : decode code 224 = .ok (.iadd, 1) := by decide +kernel
theorem dLaw_law_225 : decode code 225 = .ok (.iaload, 1) := by decide +kernel
theorem dLaw_law_226 : decode code 226 = .ok (.invokevirtual 31, 3) := by decide +kernel
theorem dLaw_law_229 : decode code 229 = .ok (.aload_n 2, 1) := by decide +kernel
theorem dLaw_law_230 : decode code 230 = .ok (.aload_n 0, 1) := by decide +kernel
theorem dLaw_law_231 : decode code 231 = .ok (.iload_n 3, 1) := by decide +kernel
theorem dLaw_law_232 : decode code 232 = .ok (.iconst 1, 1) := by decide +kernel
theorem dLaw_law_233 : decode code 233 = .ok (.iadd, 1) := by decide +kernel
theorem dLaw_law_234 : decode code 234 = .ok (.iaload, 1) := by decide +kernel
theorem dLaw_law_235 : decode code 235 = .ok (.invokevirtual 34, 3) := by decide +kernel
theorem dLaw_law_238 : decode code 238 = .ok (.if_icmp .eq 418, 3) := by decide +kernel
theorem dLaw_law_241 : decode code 241 = .ok (.iconst 0, 1) := by decide +kernel
theorem dLaw_law_242 : decode code 242 = .ok (.ireturn, 1) := by decide +kernel
theorem dLaw_law_243 : decode code 243 = .ok (.aload_n 1, 1) := by decide +kernel
theorem dLaw_law_244 : decode code 244 = .ok (.aload_n 0, 1) := by decide +kernel
theorem dLaw_law_245 : decode code 245 = .ok (.iload_n 3, 1) := by decide +kernel
theorem dLaw_law_246 : decode code 246 = .ok (.iconst 1, 1) := by decide +kernel
theorem dLaw_law_247 : decode code 247 = .ok (.iadd, 1) := by decide +kernel
theorem dLaw_law_248 : decode code 248 = .ok (.iaload, 1) := by decide +kernel
theorem dLaw_law_249 : decode code 249 = .ok (.invokevirtual 35, 3) := by decide +kernel
theorem dLaw_law_252 : decode code 252 = .ok (.aload_n 2, 1) := by decide +kernel
theorem dLaw_law_253 : decode code 253 = .ok (.aload_n 0, 1) := by decide +kernel
theorem dLaw_law_254 : decode code 254 = .ok (.iload_n 3, 1) := by decide +kernel
theorem dLaw_law_255 : decode code 255 = .ok (.iconst 1, 1) := by decide +kernel
theorem dLaw_law_256 : decode code 256 = .ok (.iadd, 1) := by decide +kernel
theorem dLaw_law_257 : decode code 257 = .ok (.iaload, 1) := by decide +kernel
theorem dLaw_law_258 : decode code 258 = .ok (.invokevirtual 38, 3) := by decide +kernel
theorem dLaw_law_261 : decode code 261 = .ok (.if_icmp .eq 395, 3) := by decide +kernel
theorem dLaw_law_264 : decode code 264 = .ok (.iconst 0, 1) := by decide +kernel
theorem dLaw_law_265 : decode code 265 = .ok (.ireturn, 1) := by decide +kernel
theorem dLaw_law_266 : decode code 266 = .ok (.aload_n 1, 1) := by decide +kernel
theorem dLaw_law_267 : decode code 267 = .ok (.aload_n 0, 1) := by decide +kernel
theorem dLaw_law_268 : decode code 268 = .ok (.iload_n 3, 1) := by decide +kernel
theorem dLaw_law_269 : decode code 269 = .ok (.iconst 1, 1) := by decide +kernel
theorem dLaw_law_270 : decode code 270 = .ok (.iadd, 1) := by decide +kernel
theorem dLaw_law_271 : decode code 271 = .ok (.iaload, 1) := by decide +kernel
theorem dLaw_law_272 : decode code 272 = .ok (.invokevirtual 39, 3) := by decide +kernel
theorem dLaw_law_275 : decode code 275 = .ok (.aload_n 2, 1) := by decide +kernel
theorem dLaw_law_276 : decode code 276 = .ok (.aload_n 0, 1) := by decide +kernel
theorem dLaw_law_277 : decode code 277 = .ok (.iload_n 3, 1) := by decide +kernel
theorem dLaw_law_278 : decode code 278 = .ok (.iconst 1, 1) := by decide +kernel
theorem dLaw_law_279 : decode code 279 = .ok (.iadd, 1) := by decide +kernel
theorem dLaw_law_280 : decode code 280 = .ok (.iaload, 1) := by decide +kernel
theorem dLaw_law_281 : decode code 281 = .ok (.invokevirtual 42, 3) := by decide +kernel
theorem dLaw_law_284 : decode code 284 = .ok (.if_icmp .eq 372, 3) := by decide +kernel
theorem dLaw_law_287 : decode code 287 = .ok (.iconst 0, 1) := by decide +kernel
theorem dLaw_law_288 : decode code 288 = .ok (.ireturn, 1) := by decide +kernel
theorem dLaw_law_289 : decode code 289 = .ok (.aload_n 1, 1) := by decide +kernel
theorem dLaw_law_290 : decode code 290 = .ok (.aload_n 0, 1) := by decide +kernel
theorem dLaw_law_291 : decode code 291 = .ok (.iload_n 3, 1) := by decide +kernel
theorem dLaw_law_292 : decode code 292 = .ok (.iconst 1, 1) := by decide +kernel
theorem dLaw_law_293 : decode code 293 = .ok (.iadd, 1) := by decide +kernel
theorem dLaw_law_294 : decode code 294 = .ok (.iaload, 1) := by decide +kernel
theorem dLaw_law_295 : decode code 295 = .ok (.invokevirtual 43, 3) := by decide +kernel
theorem dLaw_law_298 : decode code 298 = .ok (.aload_n 2, 1) := by decide +kernel
theorem dLaw_law_299 : decode code 299 = .ok (.aload_n 0, 1) := by decide +kernel
theorem dLaw_law_300 : decode code 300 = .ok (.iload_n 3, 1) := by decide +kernel
theorem dLaw_law_301 : decode code 301 = .ok (.iconst 1, 1) := by decide +kernel
theorem dLaw_law_302 : decode code 302 = .ok (.iadd, 1) := by decide +kernel
theorem dLaw_law_303 : decode code 303 = .ok (.iaload, 1) := by decide +kernel
theorem dLaw_law_304 : decode code 304 = .ok (.invokevirtual 46, 3) := by decide +kernel
theorem dLaw_law_307 : decode code 307 = .ok (.if_icmp .eq 349, 3) := by decide +kernel
theorem dLaw_law_310 : decode code 310 = .ok (.iconst 0, 1) := by decide +kernel
theorem dLaw_law_311 : decode code 311 = .ok (.ireturn, 1) := by decide +kernel
theorem dLaw_law_312 : decode code 312 = .ok (.aload_n 1, 1) := by decide +kernel
theorem dLaw_law_313 : decode code 313 = .ok (.aload_n 0, 1) := by decide +kernel
theorem dLaw_law_314 : decode code 314 = .ok (.iload_n 3, 1) := by decide +kernel
theorem dLaw_law_315 : decode code 315 = .ok (.iconst 1, 1) := by decide +kernel
theorem dLaw_law_316 : decode code 316 = .ok (.iadd, 1) := by decide +kernel
theorem dLaw_law_317 : decode code 317 = .ok (.iaload, 1) := by decide +kernel
theorem dLaw_law_318 : decode code 318 = .ok (.invokevirtual 47, 3) := by decide +kernel
theorem dLaw_law_321 : decode code 321 = .ok (.aload_n 2, 1) := by decide +kernel
theorem dLaw_law_322 : decode code 322 = .ok (.aload_n 0, 1) := by decide +kernel
theorem dLaw_law_323 : decode code 323 = .ok (.iload_n 3, 1) := by decide +kernel
theorem dLaw_law_324 : decode code 324 = .ok (.iconst 1, 1) := by decide +kernel
theorem dLaw_law_325 : decode code 325 = .ok (.iadd, 1) := by decide +kernel
theorem dLaw_law_326 : decode code 326 = .ok (.iaload, 1) := by decide +kernel
theorem dLaw_law_327 : decode code 327 = .ok (.invokevirtual 50, 3) := by decide +kernel
theorem dLaw_law_330 : decode code 330 = .ok (.if_icmp .eq 326, 3) := by decide +kernel
theorem dLaw_law_333 : decode code 333 = .ok (.iconst 0, 1) := by decide +kernel
theorem dLaw_law_334 : decode code 334 = .ok (.ireturn, 1) := by decide +kernel
theorem dLaw_law_335 : decode code 335 = .ok (.aload_n 1, 1) := by decide +kernel
theorem dLaw_law_336 : decode code 336 = .ok (.aload_n 0, 1) := by decide +kernel
theorem dLaw_law_337 : decode code 337 = .ok (.iload_n 3, 1) := by decide +kernel
theorem dLaw_law_338 : decode code 338 = .ok (.iconst 1, 1) := by decide +kernel
theorem dLaw_law_339 : decode code 339 = .ok (.iadd, 1) := by decide +kernel
theorem dLaw_law_340 : decode code 340 = .ok (.iaload, 1) := by decide +kernel
theorem dLaw_law_341 : decode code 341 = .ok (.aload_n 0, 1) := by decide +kernel
theorem dLaw_law_342 : decode code 342 = .ok (.iload_n 3, 1) := by decide +kernel
theorem dLaw_law_343 : decode code 343 = .ok (.iconst 2, 1) := by decide +kernel
theorem dLaw_law_344 : decode code 344 = .ok (.iadd, 1) := by decide +kernel
theorem dLaw_law_345 : decode code 345 = .ok (.iaload, 1) := by decide +kernel
theorem dLaw_law_346 : decode code 346 = .ok (.invokevirtual 51, 3) := by decide +kernel
theorem dLaw_law_349 : decode code 349 = .ok (.aload_n 2, 1) := by decide +kernel
theorem dLaw_law_350 : decode code 350 = .ok (.aload_n 0, 1) := by decide +kernel
theorem dLaw_law_351 : decode code 351 = .ok (.iload_n 3, 1) := by decide +kernel
theorem dLaw_law_352 : decode code 352 = .ok (.iconst 1, 1) := by decide +kernel
theorem dLaw_law_353 : decode code 353 = .ok (.iadd, 1) := by decide +kernel
theorem dLaw_law_354 : decode code 354 = .ok (.iaload, 1) := by decide +kernel
theorem dLaw_law_355 : decode code 355 = .ok (.aload_n 0, 1) := by decide +kernel
theorem dLaw_law_356 : decode code 356 = .ok (.iload_n 3, 1) := by decide +kernel
theorem dLaw_law_357 : decode code 357 = .ok (.iconst 2, 1) := by decide +kernel
theorem dLaw_law_358 : decode code 358 = .ok (.iadd, 1) := by decide +kernel
theorem dLaw_law_359 : decode code 359 = .ok (.iaload, 1) := by decide +kernel
theorem dLaw_law_360 : decode code 360 = .ok (.invokevirtual 55, 3) := by decide +kernel
theorem dLaw_law_363 : decode code 363 = .ok (.if_icmp .eq 293, 3) := by decide +kernel
theorem dLaw_law_366 : decode code 366 = .ok (.iconst 0, 1) := by decide +kernel
theorem dLaw_law_367 : decode code 367 = .ok (.ireturn, 1) := by decide +kernel
theorem dLaw_law_368 : decode code 368 = .ok (.aload_n 1, 1) := by decide +kernel
theorem dLaw_law_369 : decode code 369 = .ok (.aload_n 0, 1) := by decide +kernel
theorem dLaw_law_370 : decode code 370 = .ok (.iload_n 3, 1) := by decide +kernel
theorem dLaw_law_371 : decode code 371 = .ok (.iconst 1, 1) := by decide +kernel
theorem dLaw_law_372 : decode code 372 = .ok (.iadd, 1) := by decide +kernel
theorem dLaw_law_373 : decode code 373 = .ok (.iaload, 1) := by decide +kernel
theorem dLaw_law_374 : decode code 374 = .ok (.aload_n 0, 1) := by decide +kernel
theorem dLaw_law_375 : decode code 375 = .ok (.iload_n 3, 1) := by decide +kernel
theorem dLaw_law_376 : decode code 376 = .ok (.iconst 2, 1) := by decide +kernel
theorem dLaw_law_377 : decode code 377 = .ok (.iadd, 1) := by decide +kernel
theorem dLaw_law_378 : decode code 378 = .ok (.iaload, 1) := by decide +kernel
