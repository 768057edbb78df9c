/-! the law: names, tables, the two worlds side by side -/
abbrev b_Law_law : ByteArray := code
theorem d_Law_law_0 : decode b_Law_law 0 = .ok (.new 7, 3) := by decide +kernel
theorem d_Law_law_3 : decode b_Law_law 3 = .ok (.dup, 1) := by decide +kernel
theorem d_Law_law_4 : decode b_Law_law 4 = .ok (.aload_n 0, 1) := by decide +kernel
theorem d_Law_law_5 : decode b_Law_law 5 = .ok (.iconst 0, 1) := by decide +kernel
theorem d_Law_law_6 : decode b_Law_law 6 = .ok (.invokestatic 9, 3) := by decide +kernel
theorem d_Law_law_9 : decode b_Law_law 9 = .ok (.aload_n 0, 1) := by decide +kernel
theorem d_Law_law_10 : decode b_Law_law 10 = .ok (.iconst 1, 1) := by decide +kernel
theorem d_Law_law_11 : decode b_Law_law 11 = .ok (.invokestatic 9, 3) := by decide +kernel
theorem d_Law_law_14 : decode b_Law_law 14 = .ok (.invokespecial 15, 3) := by decide +kernel
theorem d_Law_law_17 : decode b_Law_law 17 = .ok (.astore_n 1, 1) := by decide +kernel
theorem d_Law_law_18 : decode b_Law_law 18 = .ok (.new 18, 3) := by decide +kernel
theorem d_Law_law_21 : decode b_Law_law 21 = .ok (.dup, 1) := by decide +kernel
theorem d_Law_law_22 : decode b_Law_law 22 = .ok (.aload_n 0, 1) := by decide +kernel
theorem d_Law_law_23 : decode b_Law_law 23 = .ok (.iconst 0, 1) := by decide +kernel
theorem d_Law_law_24 : decode b_Law_law 24 = .ok (.invokestatic 9, 3) := by decide +kernel
theorem d_Law_law_27 : decode b_Law_law 27 = .ok (.aload_n 0, 1) := by decide +kernel
theorem d_Law_law_28 : decode b_Law_law 28 = .ok (.iconst 1, 1) := by decide +kernel
theorem d_Law_law_29 : decode b_Law_law 29 = .ok (.invokestatic 9, 3) := by decide +kernel
theorem d_Law_law_32 : decode b_Law_law 32 = .ok (.invokespecial 20, 3) := by decide +kernel
theorem d_Law_law_35 : decode b_Law_law 35 = .ok (.astore_n 2, 1) := by decide +kernel
theorem d_Law_law_36 : decode b_Law_law 36 = .ok (.iconst 2, 1) := by decide +kernel
theorem d_Law_law_37 : decode b_Law_law 37 = .ok (.istore_n 3, 1) := by decide +kernel
theorem d_Law_law_38 : decode b_Law_law 38 = .ok (.iload_n 3, 1) := by decide +kernel
theorem d_Law_law_39 : decode b_Law_law 39 = .ok (.aload_n 0, 1) := by decide +kernel
theorem d_Law_law_40 : decode b_Law_law 40 = .ok (.arraylength, 1) := by decide +kernel
theorem d_Law_law_41 : decode b_Law_law 41 = .ok (.iconst 5, 1) := by decide +kernel
theorem d_Law_law_42 : decode b_Law_law 42 = .ok (.isub, 1) := by decide +kernel
theorem d_Law_law_43 : decode b_Law_law 43 = .ok (.if_icmp .gt 591, 3) := by decide +kernel
theorem d_Law_law_46 : decode b_Law_law 46 = .ok (.aload_n 0, 1) := by decide +kernel
theorem d_Law_law_47 : decode b_Law_law 47 = .ok (.iload_n 3, 1) := by decide +kernel
theorem d_Law_law_48 : decode b_Law_law 48 = .ok (.iaload, 1) := by decide +kernel
theorem d_Law_law_49 : decode b_Law_law 49 = .ok (.bipush 31, 2) := by decide +kernel
theorem d_Law_law_51 : decode b_Law_law 51 = .ok (.iand, 1) := by decide +kernel
theorem d_Law_law_52 : decode b_Law_law 52 = .ok (.tableswitch 576 0 19 #[96, 119, 192, 205, 238, 261, 284, 307, 330, 343, 356, 379, 402, 425, 448, 471, 494, 507, 530, 553], 96) := by decide +kernel
theorem d_Law_law_148 : decode b_Law_law 148 = .ok (.aload_n 1, 1) := by decide +kernel
theorem d_Law_law_149 : decode b_Law_law 149 = .ok (.aload_n 0, 1) := by decide +kernel
theorem d_Law_law_150 : decode b_Law_law 150 = .ok (.iload_n 3, 1) := by decide +kernel
theorem d_Law_law_151 : decode b_Law_law 151 = .ok (.iconst 1, 1) := by decide +kernel
theorem d_Law_law_152 : decode b_Law_law 152 = .ok (.iadd, 1) := by decide +kernel
theorem d_Law_law_153 : decode b_Law_law 153 = .ok (.iaload, 1) := by decide +kernel
theorem d_Law_law_154 : decode b_Law_law 154 = .ok (.invokevirtual 21, 3) := by decide +kernel
theorem d_Law_law_157 : decode b_Law_law 157 = .ok (.aload_n 2, 1) := by decide +kernel
theorem d_Law_law_158 : decode b_Law_law 158 = .ok (.aload_n 0, 1) := by decide +kernel
theorem d_Law_law_159 : decode b_Law_law 159 = .ok (.iload_n 3, 1) := by decide +kernel
theorem d_Law_law_160 : decode b_Law_law 160 = .ok (.iconst 1, 1) := by decide +kernel
theorem d_Law_law_161 : decode b_Law_law 161 = .ok (.iadd, 1) := by decide +kernel
theorem d_Law_law_162 : decode b_Law_law 162 = .ok (.iaload, 1) := by decide +kernel
theorem d_Law_law_163 : decode b_Law_law 163 = .ok (.invokevirtual 25, 3) := by decide +kernel
theorem d_Law_law_166 : decode b_Law_law 166 = .ok (.if_icmp .eq 462, 3) := by decide +kernel
theorem d_Law_law_169 : decode b_Law_law 169 = .ok (.iconst 0, 1) := by decide +kernel
theorem d_Law_law_170 : decode b_Law_law 170 = .ok (.ireturn, 1) := by decide +kernel
theorem d_Law_law_171 : decode b_Law_law 171 = .ok (.aload_n 1, 1) := by decide +kernel
theorem d_Law_law_172 : decode b_Law_law 172 = .ok (.aload_n 0, 1) := by decide +kernel
theorem d_Law_law_173 : decode b_Law_law 173 = .ok (.iload_n 3, 1) := by decide +kernel
theorem d_Law_law_174 : decode b_Law_law 174 = .ok (.iconst 1, 1) := by decide +kernel
theorem d_Law_law_175 : decode b_Law_law 175 = .ok (.iadd, 1) := by decide +kernel
theorem d_Law_law_176 : decode b_Law_law 176 = .ok (.iaload, 1) := by decide +kernel
theorem d_Law_law_177 : decode b_Law_law 177 = .ok (.i2l, 1) := by decide +kernel
theorem d_Law_law_178 : decode b_Law_law 178 = .ok (.bipush 32, 2) := by decide +kernel
theorem d_Law_law_180 : decode b_Law_law 180 = .ok (.lshl, 1) := by decide +kernel
theorem d_Law_law_181 : decode b_Law_law 181 = .ok (.aload_n 0, 1) := by decide +kernel
theorem d_Law_law_182 : decode b_Law_law 182 = .ok (.iload_n 3, 1) := by decide +kernel
theorem d_Law_law_183 : decode b_Law_law 183 = .ok (.iconst 2, 1) := by decide +kernel
theorem d_Law_law_184 : decode b_Law_law 184 = .ok (.iadd, 1) := by decide +kernel
theorem d_Law_law_185 : decode b_Law_law 185 = .ok (.iaload, 1) := by decide +kernel
theorem d_Law_law_186 : decode b_Law_law 186 = .ok (.i2l, 1) := by decide +kernel
theorem d_Law_law_187 : decode b_Law_law 187 = .ok (.ldc2_w 26, 3) := by decide +kernel
theorem d_Law_law_190 : decode b_Law_law 190 = .ok (.land, 1) := by decide +kernel
theorem d_Law_law_191 : decode b_Law_law 191 = .ok (.lor, 1) := by decide +kernel
theorem d_Law_law_192 : decode b_Law_law 192 = .ok (.aload_n 0, 1) := by decide +kernel
theorem d_Law_law_193 : decode b_Law_law 193 = .ok (.iload_n 3, 1) := by decide +kernel
theorem d_Law_law_194 : decode b_Law_law 194 = .ok (.iconst 3, 1) := by decide +kernel
theorem d_Law_law_195 : decode b_Law_law 195 = .ok (.iadd, 1) := by decide +kernel
theorem d_Law_law_196 : decode b_Law_law 196 = .ok (.iaload, 1) := by decide +kernel
theorem d_Law_law_197 : decode b_Law_law 197 = .ok (.aload_n 0, 1) := by decide +kernel
theorem d_Law_law_198 : decode b_Law_law 198 = .ok (.iload_n 3, 1) := by decide +kernel
theorem d_Law_law_199 : decode b_Law_law 199 = .ok (.iconst 4, 1) := by decide +kernel
theorem d_Law_law_200 : decode b_Law_law 200 = .ok (.iadd, 1) := by decide +kernel
theorem d_Law_law_201 : decode b_Law_law 201 = .ok (.iaload, 1) := by decide +kernel
theorem d_Law_law_202 : decode b_Law_law 202 = .ok (.invokevirtual 28, 3) := by decide +kernel
theorem d_Law_law_205 : decode b_Law_law 205 = .ok (.aload_n 2, 1) := by decide +kernel
theorem d_Law_law_206 : decode b_Law_law 206 = .ok (.aload_n 0, 1) := by decide +kernel
theorem d_Law_law_207 : decode b_Law_law 207 = .ok (.iload_n 3, 1) := by decide +kernel
theorem d_Law_law_208 : decode b_Law_law 208 = .ok (.iconst 1, 1) := by decide +kernel
theorem d_Law_law_209 : decode b_Law_law 209 = .ok (.iadd, 1) := by decide +kernel
theorem d_Law_law_210 : decode b_Law_law 210 = .ok (.iaload, 1) := by decide +kernel
theorem d_Law_law_211 : decode b_Law_law 211 = .ok (.i2l, 1) := by decide +kernel
theorem d_Law_law_212 : decode b_Law_law 212 = .ok (.bipush 32, 2) := by decide +kernel
theorem d_Law_law_214 : decode b_Law_law 214 = .ok (.lshl, 1) := by decide +kernel
theorem d_Law_law_215 : decode b_Law_law 215 = .ok (.aload_n 0, 1) := by decide +kernel
theorem d_Law_law_216 : decode b_Law_law 216 = .ok (.iload_n 3, 1) := by decide +kernel
theorem d_Law_law_217 : decode b_Law_law 217 = .ok (.iconst 2, 1) := by decide +kernel
theorem d_Law_law_218 : decode b_Law_law 218 = .ok (.iadd, 1) := by decide +kernel
theorem d_Law_law_219 : decode b_Law_law 219 = .ok (.iaload, 1) := by decide +kernel
theorem d_Law_law_220 : decode b_Law_law 220 = .ok (.i2l, 1) := by decide +kernel
theorem d_Law_law_221 : decode b_Law_law 221 = .ok (.ldc2_w 26, 3) := by decide +kernel
theorem d_Law_law_224 : decode b_Law_law 224 = .ok (.land, 1) := by decide +kernel
theorem d_Law_law_225 : decode b_Law_law 225 = .ok (.lor, 1) := by decide +kernel
theorem d_Law_law_226 : decode b_Law_law 226 = .ok (.aload_n 0, 1) := by decide +kernel
theorem d_Law_law_227 : decode b_Law_law 227 = .ok (.iload_n 3, 1) := by decide +kernel
theorem d_Law_law_228 : decode b_Law_law 228 = .ok (.iconst 3, 1) := by decide +kernel
theorem d_Law_law_229 : decode b_Law_law 229 = .ok (.iadd, 1) := by decide +kernel
theorem d_Law_law_230 : decode b_Law_law 230 = .ok (.iaload, 1) := by decide +kernel
theorem d_Law_law_231 : decode b_Law_law 231 = .ok (.aload_n 0, 1) := by decide +kernel
theorem d_Law_law_232 : decode b_Law_law 232 = .ok (.iload_n 3, 1) := by decide +kernel
theorem d_Law_law_233 : decode b_Law_law 233 = .ok (.iconst 4, 1) := by decide +kernel
theorem d_Law_law_234 : decode b_Law_law 234 = .ok (.iadd, 1) := by decide +kernel
theorem d_Law_law_235 : decode b_Law_law 235 = .ok (.iaload, 1) := by decide +kernel
theorem d_Law_law_236 : decode b_Law_law 236 = .ok (.invokevirtual 32, 3) := by decide +kernel
theorem d_Law_law_239 : decode b_Law_law 239 = .ok (.if_icmp .eq 389, 3) := by decide +kernel
theorem d_Law_law_242 : decode b_Law_law 242 = .ok (.iconst 0, 1) := by decide +kernel
theorem d_Law_law_243 : decode b_Law_law 243 = .ok (.ireturn, 1) := by decide +kernel
theorem d_Law_law_244 : decode b_Law_law 244 = .ok (.aload_n 1, 1) := by decide +kernel
theorem d_Law_law_245 : decode b_Law_law 245 = .ok (.invokevirtual 33, 3) := by decide +kernel
theorem d_Law_law_248 : decode b_Law_law 248 = .ok (.aload_n 2, 1) := by decide +kernel
theorem d_Law_law_249 : decode b_Law_law 249 = .ok (.invokevirtual 37, 3) := by decide +kernel
theorem d_Law_law_252 : decode b_Law_law 252 = .ok (.if_icmp .eq 376, 3) := by decide +kernel
theorem d_Law_law_255 : decode b_Law_law 255 = .ok (.iconst 0, 1) := by decide +kernel
theorem d_Law_law_256 : decode b_Law_law 256 = .ok (.ireturn, 1) := by decide +kernel
theorem d_Law_law_257 : decode b_Law_law 257 = .ok (.aload_n 1, 1) := by decide +kernel
theorem d_Law_law_258 : decode b_Law_law 258 = .ok (.aload_n 0, 1) := by decide +kernel
theorem d_Law_law_259 : decode b_Law_law 259 = .ok (.iload_n 3, 1) := by decide +kernel
theorem d_Law_law_260 : decode b_Law_law 260 = .ok (.iconst 1, 1) := by decide +kernel
theorem d_Law_law_261 : decode b_Law_law 261 = .ok (.iadd, 1) := by decide +kernel
theorem d_Law_law_262 : decode b_Law_law 262 = .ok (.iaload, 1) := by decide +kernel
theorem d_Law_law_263 : decode b_Law_law 263 = .ok (.aload_n 0, 1) := by decide +kernel
theorem d_Law_law_264 : decode b_Law_law 264 = .ok (.iload_n 3, 1) := by decide +kernel
theorem d_Law_law_265 : decode b_Law_law 265 = .ok (.iconst 2, 1) := by decide +kernel
theorem d_Law_law_266 : decode b_Law_law 266 = .ok (.iadd, 1) := by decide +kernel
theorem d_Law_law_267 : decode b_Law_law 267 = .ok (.iaload, 1) := by decide +kernel
theorem d_Law_law_268 : decode b_Law_law 268 = .ok (.invokevirtual 38, 3) := by decide +kernel
theorem d_Law_law_271 : decode b_Law_law 271 = .ok (.aload_n 2, 1) := by decide +kernel
theorem d_Law_law_272 : decode b_Law_law 272 = .ok (.aload_n 0, 1) := by decide +kernel
theorem d_Law_law_273 : decode b_Law_law 273 = .ok (.iload_n 3, 1) := by decide +kernel
theorem d_Law_law_274 : decode b_Law_law 274 = .ok (.iconst 1, 1) := by decide +kernel
theorem d_Law_law_275 : decode b_Law_law 275 = .ok (.iadd, 1) := by decide +kernel
theorem d_Law_law_276 : decode b_Law_law 276 = .ok (.iaload, 1) := by decide +kernel
theorem d_Law_law_277 : decode b_Law_law 277 = .ok (.aload_n 0, 1) := by decide +kernel
theorem d_Law_law_278 : decode b_Law_law 278 = .ok (.iload_n 3, 1) := by decide +kernel
theorem d_Law_law_279 : decode b_Law_law 279 = .ok (.iconst 2, 1) := by decide +kernel
theorem d_Law_law_280 : decode b_Law_law 280 = .ok (.iadd, 1) := by decide +kernel
theorem d_Law_law_281 : decode b_Law_law 281 = .ok (.iaload, 1) := by decide +kernel
theorem d_Law_law_282 : decode b_Law_law 282 = .ok (.invokevirtual 42, 3) := by decide +kernel
theorem d_Law_law_285 : decode b_Law_law 285 = .ok (.if_icmp .eq 343, 3) := by decide +kernel
theorem d_Law_law_288 : decode b_Law_law 288 = .ok (.iconst 0, 1) := by decide +kernel
theorem d_Law_law_289 : decode b_Law_law 289 = .ok (.ireturn, 1) := by decide +kernel
theorem d_Law_law_290 : decode b_Law_law 290 = .ok (.aload_n 1, 1) := by decide +kernel
theorem d_Law_law_291 : decode b_Law_law 291 = .ok (.aload_n 0, 1) := by decide +kernel
theorem d_Law_law_292 : decode b_Law_law 292 = .ok (.iload_n 3, 1) := by decide +kernel
theorem d_Law_law_293 : decode b_Law_law 293 = .ok (.iconst 1, 1) := by decide +kernel
theorem d_Law_law_294 : decode b_Law_law 294 = .ok (.iadd, 1) := by decide +kernel
theorem d_Law_law_295 : decode b_Law_law 295 = .ok (.iaload, 1) := by decide +kernel
theorem d_Law_law_296 : decode b_Law_law 296 = .ok (.invokevirtual 43, 3) := by decide +kernel
theorem d_Law_law_299 : decode b_Law_law 299 = .ok (.aload_n 2, 1) := by decide +kernel
theorem d_Law_law_300 : decode b_Law_law 300 = .ok (.aload_n 0, 1) := by decide +kernel
theorem d_Law_law_301 : decode b_Law_law 301 = .ok (.iload_n 3, 1) := by decide +kernel
theorem d_Law_law_302 : decode b_Law_law 302 = .ok (.iconst 1, 1) := by decide +kernel
theorem d_Law_law_303 : decode b_Law_law 303 = .ok (.iadd, 1) := by decide +kernel
theorem d_Law_law_304 : decode b_Law_law 304 = .ok (.iaload, 1) := by decide +kernel
theorem d_Law_law_305 : decode b_Law_law 305 = .ok (.invokevirtual 47, 3) := by decide +kernel
theorem d_Law_law_308 : decode b_Law_law 308 = .ok (.if_icmp .eq 320, 3) := by decide +kernel
theorem d_Law_law_311 : decode b_Law_law 311 = .ok (.iconst 0, 1) := by decide +kernel
theorem d_Law_law_312 : decode b_Law_law 312 = .ok (.ireturn, 1) := by decide +kernel
theorem d_Law_law_313 : decode b_Law_law 313 = .ok (.aload_n 1, 1) := by decide +kernel
theorem d_Law_law_314 : decode b_Law_law 314 = .ok (.aload_n 0, 1) := by decide +kernel
theorem d_Law_law_315 : decode b_Law_law 315 = .ok (.iload_n 3, 1) := by decide +kernel
theorem d_Law_law_316 : decode b_Law_law 316 = .ok (.iconst 1, 1) := by decide +kernel
theorem d_Law_law_317 : decode b_Law_law 317 = .ok (.iadd, 1) := by decide +kernel
theorem d_Law_law_318 : decode b_Law_law 318 = .ok (.iaload, 1) := by decide +kernel
theorem d_Law_law_319 : decode b_Law_law 319 = .ok (.invokevirtual 48, 3) := by decide +kernel
theorem d_Law_law_322 : decode b_Law_law 322 = .ok (.aload_n 2, 1) := by decide +kernel
theorem d_Law_law_323 : decode b_Law_law 323 = .ok (.aload_n 0, 1) := by decide +kernel
theorem d_Law_law_324 : decode b_Law_law 324 = .ok (.iload_n 3, 1) := by decide +kernel
theorem d_Law_law_325 : decode b_Law_law 325 = .ok (.iconst 1, 1) := by decide +kernel
theorem d_Law_law_326 : decode b_Law_law 326 = .ok (.iadd, 1) := by decide +kernel
theorem d_Law_law_327 : decode b_Law_law 327 = .ok (.iaload, 1) := by decide +kernel
theorem d_Law_law_328 : decode b_Law_law 328 = .ok (.invokevirtual 51, 3) := by decide +kernel
theorem d_Law_law_331 : decode b_Law_law 331 = .ok (.if_icmp .eq 297, 3) := by decide +kernel
theorem d_Law_law_334 : decode b_Law_law 334 = .ok (.iconst 0, 1) := by decide +kernel
theorem d_Law_law_335 : decode b_Law_law 335 = .ok (.ireturn, 1) := by decide +kernel
theorem d_Law_law_336 : decode b_Law_law 336 = .ok (.aload_n 1, 1) := by decide +kernel
theorem d_Law_law_337 : decode b_Law_law 337 = .ok (.aload_n 0, 1) := by decide +kernel
theorem d_Law_law_338 : decode b_Law_law 338 = .ok (.iload_n 3, 1) := by decide +kernel
theorem d_Law_law_339 : decode b_Law_law 339 = .ok (.iconst 1, 1) := by decide +kernel
theorem d_Law_law_340 : decode b_Law_law 340 = .ok (.iadd, 1) := by decide +kernel
theorem d_Law_law_341 : decode b_Law_law 341 = .ok (.iaload, 1) := by decide +kernel
theorem d_Law_law_342 : decode b_Law_law 342 = .ok (.invokevirtual 52, 3) := by decide +kernel
theorem d_Law_law_345 : decode b_Law_law 345 = .ok (.aload_n 2, 1) := by decide +kernel
theorem d_Law_law_346 : decode b_Law_law 346 = .ok (.aload_n 0, 1) := by decide +kernel
theorem d_Law_law_347 : decode b_Law_law 347 = .ok (.iload_n 3, 1) := by decide +kernel
theorem d_Law_law_348 : decode b_Law_law 348 = .ok (.iconst 1, 1) := by decide +kernel
theorem d_Law_law_349 : decode b_Law_law 349 = .ok (.iadd, 1) := by decide +kernel
theorem d_Law_law_350 : decode b_Law_law 350 = .ok (.iaload, 1) := by decide +kernel
theorem d_Law_law_351 : decode b_Law_law 351 = .ok (.invokevirtual 55, 3) := by decide +kernel
theorem d_Law_law_354 : decode b_Law_law 354 = .ok (.if_icmp .eq 274, 3) := by decide +kernel
theorem d_Law_law_357 : decode b_Law_law 357 = .ok (.iconst 0, 1) := by decide +kernel
theorem d_Law_law_358 : decode b_Law_law 358 = .ok (.ireturn, 1) := by decide +kernel
theorem d_Law_law_359 : decode b_Law_law 359 = .ok (.aload_n 1, 1) := by decide +kernel
theorem d_Law_law_360 : decode b_Law_law 360 = .ok (.aload_n 0, 1) := by decide +kernel
theorem d_Law_law_361 : decode b_Law_law 361 = .ok (.iload_n 3, 1) := by decide +kernel
theorem d_Law_law_362 : decode b_Law_law 362 = .ok (.iconst 1, 1) := by decide +kernel
theorem d_Law_law_363 : decode b_Law_law 363 = .ok (.iadd, 1) := by decide +kernel
theorem d_Law_law_364 : decode b_Law_law 364 = .ok (.iaload, 1) := by decide +kernel
theorem d_Law_law_365 : decode b_Law_law 365 = .ok (.invokevirtual 56, 3) := by decide +kernel
theorem d_Law_law_368 : decode b_Law_law 368 = .ok (.aload_n 2, 1) := by decide +kernel
theorem d_Law_law_369 : decode b_Law_law 369 = .ok (.aload_n 0, 1) := by decide +kernel
theorem d_Law_law_370 : decode b_Law_law 370 = .ok (.iload_n 3, 1) := by decide +kernel
theorem d_Law_law_371 : decode b_Law_law 371 = .ok (.iconst 1, 1) := by decide +kernel
theorem d_Law_law_372 : decode b_Law_law 372 = .ok (.iadd, 1) := by decide +kernel
theorem d_Law_law_373 : decode b_Law_law 373 = .ok (.iaload, 1) := by decide +kernel
theorem d_Law_law_374 : decode b_Law_law 374 = .ok (.invokevirtual 59, 3) := by decide +kernel
theorem d_Law_law_377 : decode b_Law_law 377 = .ok (.if_icmp .eq 251, 3) := by decide +kernel
theorem d_Law_law_380 : decode b_Law_law 380 = .ok (.iconst 0, 1) := by decide +kernel
theorem d_Law_law_381 : decode b_Law_law 381 = .ok (.ireturn, 1) := by decide +kernel
theorem d_Law_law_382 : decode b_Law_law 382 = .ok (.aload_n 1, 1) := by decide +kernel
theorem d_Law_law_383 : decode b_Law_law 383 = .ok (.invokevirtual 60, 3) := by decide +kernel
theorem d_Law_law_386 : decode b_Law_law 386 = .ok (.aload_n 2, 1) := by decide +kernel
theorem d_Law_law_387 : decode b_Law_law 387 = .ok (.invokevirtual 63, 3) := by decide +kernel
theorem d_Law_law_390 : decode b_Law_law 390 = .ok (.if_icmp .eq 238, 3) := by decide +kernel
theorem d_Law_law_393 : decode b_Law_law 393 = .ok (.iconst 0, 1) := by decide +kernel
theorem d_Law_law_394 : decode b_Law_law 394 = .ok (.ireturn, 1) := by decide +kernel
theorem d_Law_law_395 : decode b_Law_law 395 = .ok (.aload_n 1, 1) := by decide +kernel
theorem d_Law_law_396 : decode b_Law_law 396 = .ok (.invokevirtual 64, 3) := by decide +kernel
theorem d_Law_law_399 : decode b_Law_law 399 = .ok (.aload_n 2, 1) := by decide +kernel
theorem d_Law_law_400 : decode b_Law_law 400 = .ok (.invokevirtual 67, 3) := by decide +kernel
theorem d_Law_law_403 : decode b_Law_law 403 = .ok (.if_icmp .eq 225, 3) := by decide +kernel
theorem d_Law_law_406 : decode b_Law_law 406 = .ok (.iconst 0, 1) := by decide +kernel
theorem d_Law_law_407 : decode b_Law_law 407 = .ok (.ireturn, 1) := by decide +kernel
theorem d_Law_law_408 : decode b_Law_law 408 = .ok (.aload_n 1, 1) := by decide +kernel
theorem d_Law_law_409 : decode b_Law_law 409 = .ok (.aload_n 0, 1) := by decide +kernel
theorem d_Law_law_410 : decode b_Law_law 410 = .ok (.iload_n 3, 1) := by decide +kernel
theorem d_Law_law_411 : decode b_Law_law 411 = .ok (.iconst 1, 1) := by decide +kernel
theorem d_Law_law_412 : decode b_Law_law 412 = .ok (.iadd, 1) := by decide +kernel
theorem d_Law_law_413 : decode b_Law_law 413 = .ok (.iaload, 1) := by decide +kernel
theorem d_Law_law_414 : decode b_Law_law 414 = .ok (.invokevirtual 68, 3) := by decide +kernel
theorem d_Law_law_417 : decode b_Law_law 417 = .ok (.aload_n 2, 1) := by decide +kernel
theorem d_Law_law_418 : decode b_Law_law 418 = .ok (.aload_n 0, 1) := by decide +kernel
theorem d_Law_law_419 : decode b_Law_law 419 = .ok (.iload_n 3, 1) := by decide +kernel
theorem d_Law_law_420 : decode b_Law_law 420 = .ok (.iconst 1, 1) := by decide +kernel
theorem d_Law_law_421 : decode b_Law_law 421 = .ok (.iadd, 1) := by decide +kernel
theorem d_Law_law_422 : decode b_Law_law 422 = .ok (.iaload, 1) := by decide +kernel
theorem d_Law_law_423 : decode b_Law_law 423 = .ok (.invokevirtual 71, 3) := by decide +kernel
theorem d_Law_law_426 : decode b_Law_law 426 = .ok (.if_icmp .eq 202, 3) := by decide +kernel
theorem d_Law_law_429 : decode b_Law_law 429 = .ok (.iconst 0, 1) := by decide +kernel
theorem d_Law_law_430 : decode b_Law_law 430 = .ok (.ireturn, 1) := by decide +kernel
theorem d_Law_law_431 : decode b_Law_law 431 = .ok (.aload_n 1, 1) := by decide +kernel
theorem d_Law_law_432 : decode b_Law_law 432 = .ok (.aload_n 0, 1) := by decide +kernel
theorem d_Law_law_433 : decode b_Law_law 433 = .ok (.iload_n 3, 1) := by decide +kernel
theorem d_Law_law_434 : decode b_Law_law 434 = .ok (.iconst 1, 1) := by decide +kernel
theorem d_Law_law_435 : decode b_Law_law 435 = .ok (.iadd, 1) := by decide +kernel
theorem d_Law_law_436 : decode b_Law_law 436 = .ok (.iaload, 1) := by decide +kernel
theorem d_Law_law_437 : decode b_Law_law 437 = .ok (.invokevirtual 72, 3) := by decide +kernel
theorem d_Law_law_440 : decode b_Law_law 440 = .ok (.aload_n 2, 1) := by decide +kernel
theorem d_Law_law_441 : decode b_Law_law 441 = .ok (.aload_n 0, 1) := by decide +kernel
theorem d_Law_law_442 : decode b_Law_law 442 = .ok (.iload_n 3, 1) := by decide +kernel
theorem d_Law_law_443 : decode b_Law_law 443 = .ok (.iconst 1, 1) := by decide +kernel
theorem d_Law_law_444 : decode b_Law_law 444 = .ok (.iadd, 1) := by decide +kernel
theorem d_Law_law_445 : decode b_Law_law 445 = .ok (.iaload, 1) := by decide +kernel
theorem d_Law_law_446 : decode b_Law_law 446 = .ok (.invokevirtual 75, 3) := by decide +kernel
theorem d_Law_law_449 : decode b_Law_law 449 = .ok (.if_icmp .eq 179, 3) := by decide +kernel
theorem d_Law_law_452 : decode b_Law_law 452 = .ok (.iconst 0, 1) := by decide +kernel
theorem d_Law_law_453 : decode b_Law_law 453 = .ok (.ireturn, 1) := by decide +kernel
theorem d_Law_law_454 : decode b_Law_law 454 = .ok (.aload_n 1, 1) := by decide +kernel
theorem d_Law_law_455 : decode b_Law_law 455 = .ok (.aload_n 0, 1) := by decide +kernel
theorem d_Law_law_456 : decode b_Law_law 456 = .ok (.iload_n 3, 1) := by decide +kernel
theorem d_Law_law_457 : decode b_Law_law 457 = .ok (.iconst 1, 1) := by decide +kernel
theorem d_Law_law_458 : decode b_Law_law 458 = .ok (.iadd, 1) := by decide +kernel
theorem d_Law_law_459 : decode b_Law_law 459 = .ok (.iaload, 1) := by decide +kernel
theorem d_Law_law_460 : decode b_Law_law 460 = .ok (.invokevirtual 76, 3) := by decide +kernel
theorem d_Law_law_463 : decode b_Law_law 463 = .ok (.aload_n 2, 1) := by decide +kernel
theorem d_Law_law_464 : decode b_Law_law 464 = .ok (.aload_n 0, 1) := by decide +kernel
theorem d_Law_law_465 : decode b_Law_law 465 = .ok (.iload_n 3, 1) := by decide +kernel
theorem d_Law_law_466 : decode b_Law_law 466 = .ok (.iconst 1, 1) := by decide +kernel
theorem d_Law_law_467 : decode b_Law_law 467 = .ok (.iadd, 1) := by decide +kernel
theorem d_Law_law_468 : decode b_Law_law 468 = .ok (.iaload, 1) := by decide +kernel
theorem d_Law_law_469 : decode b_Law_law 469 = .ok (.invokevirtual 79, 3) := by decide +kernel
theorem d_Law_law_472 : decode b_Law_law 472 = .ok (.if_icmp .eq 156, 3) := by decide +kernel
theorem d_Law_law_475 : decode b_Law_law 475 = .ok (.iconst 0, 1) := by decide +kernel
theorem d_Law_law_476 : decode b_Law_law 476 = .ok (.ireturn, 1) := by decide +kernel
theorem d_Law_law_477 : decode b_Law_law 477 = .ok (.aload_n 1, 1) := by decide +kernel
theorem d_Law_law_478 : decode b_Law_law 478 = .ok (.aload_n 0, 1) := by decide +kernel
theorem d_Law_law_479 : decode b_Law_law 479 = .ok (.iload_n 3, 1) := by decide +kernel
theorem d_Law_law_480 : decode b_Law_law 480 = .ok (.iconst 1, 1) := by decide +kernel
theorem d_Law_law_481 : decode b_Law_law 481 = .ok (.iadd, 1) := by decide +kernel
theorem d_Law_law_482 : decode b_Law_law 482 = .ok (.iaload, 1) := by decide +kernel
theorem d_Law_law_483 : decode b_Law_law 483 = .ok (.invokevirtual 80, 3) := by decide +kernel
theorem d_Law_law_486 : decode b_Law_law 486 = .ok (.aload_n 2, 1) := by decide +kernel
theorem d_Law_law_487 : decode b_Law_law 487 = .ok (.aload_n 0, 1) := by decide +kernel
theorem d_Law_law_488 : decode b_Law_law 488 = .ok (.iload_n 3, 1) := by decide +kernel
theorem d_Law_law_489 : decode b_Law_law 489 = .ok (.iconst 1, 1) := by decide +kernel
theorem d_Law_law_490 : decode b_Law_law 490 = .ok (.iadd, 1) := by decide +kernel
theorem d_Law_law_491 : decode b_Law_law 491 = .ok (.iaload, 1) := by decide +kernel
theorem d_Law_law_492 : decode b_Law_law 492 = .ok (.invokevirtual 83, 3) := by decide +kernel
theorem d_Law_law_495 : decode b_Law_law 495 = .ok (.if_icmp .eq 133, 3) := by decide +kernel
theorem d_Law_law_498 : decode b_Law_law 498 = .ok (.iconst 0, 1) := by decide +kernel
theorem d_Law_law_499 : decode b_Law_law 499 = .ok (.ireturn, 1) := by decide +kernel
theorem d_Law_law_500 : decode b_Law_law 500 = .ok (.aload_n 1, 1) := by decide +kernel
theorem d_Law_law_501 : decode b_Law_law 501 = .ok (.aload_n 0, 1) := by decide +kernel
theorem d_Law_law_502 : decode b_Law_law 502 = .ok (.iload_n 3, 1) := by decide +kernel
theorem d_Law_law_503 : decode b_Law_law 503 = .ok (.iconst 1, 1) := by decide +kernel
theorem d_Law_law_504 : decode b_Law_law 504 = .ok (.iadd, 1) := by decide +kernel
theorem d_Law_law_505 : decode b_Law_law 505 = .ok (.iaload, 1) := by decide +kernel
theorem d_Law_law_506 : decode b_Law_law 506 = .ok (.invokevirtual 84, 3) := by decide +kernel
theorem d_Law_law_509 : decode b_Law_law 509 = .ok (.aload_n 2, 1) := by decide +kernel
theorem d_Law_law_510 : decode b_Law_law 510 = .ok (.aload_n 0, 1) := by decide +kernel
theorem d_Law_law_511 : decode b_Law_law 511 = .ok (.iload_n 3, 1) := by decide +kernel
theorem d_Law_law_512 : decode b_Law_law 512 = .ok (.iconst 1, 1) := by decide +kernel
theorem d_Law_law_513 : decode b_Law_law 513 = .ok (.iadd, 1) := by decide +kernel
theorem d_Law_law_514 : decode b_Law_law 514 = .ok (.iaload, 1) := by decide +kernel
theorem d_Law_law_515 : decode b_Law_law 515 = .ok (.invokevirtual 87, 3) := by decide +kernel
theorem d_Law_law_518 : decode b_Law_law 518 = .ok (.if_icmp .eq 110, 3) := by decide +kernel
theorem d_Law_law_521 : decode b_Law_law 521 = .ok (.iconst 0, 1) := by decide +kernel
theorem d_Law_law_522 : decode b_Law_law 522 = .ok (.ireturn, 1) := by decide +kernel
theorem d_Law_law_523 : decode b_Law_law 523 = .ok (.aload_n 1, 1) := by decide +kernel
theorem d_Law_law_524 : decode b_Law_law 524 = .ok (.aload_n 0, 1) := by decide +kernel
theorem d_Law_law_525 : decode b_Law_law 525 = .ok (.iload_n 3, 1) := by decide +kernel
theorem d_Law_law_526 : decode b_Law_law 526 = .ok (.iconst 1, 1) := by decide +kernel
theorem d_Law_law_527 : decode b_Law_law 527 = .ok (.iadd, 1) := by decide +kernel
theorem d_Law_law_528 : decode b_Law_law 528 = .ok (.iaload, 1) := by decide +kernel
theorem d_Law_law_529 : decode b_Law_law 529 = .ok (.invokevirtual 88, 3) := by decide +kernel
theorem d_Law_law_532 : decode b_Law_law 532 = .ok (.aload_n 2, 1) := by decide +kernel
theorem d_Law_law_533 : decode b_Law_law 533 = .ok (.aload_n 0, 1) := by decide +kernel
theorem d_Law_law_534 : decode b_Law_law 534 = .ok (.iload_n 3, 1) := by decide +kernel
theorem d_Law_law_535 : decode b_Law_law 535 = .ok (.iconst 1, 1) := by decide +kernel
theorem d_Law_law_536 : decode b_Law_law 536 = .ok (.iadd, 1) := by decide +kernel
theorem d_Law_law_537 : decode b_Law_law 537 = .ok (.iaload, 1) := by decide +kernel
theorem d_Law_law_538 : decode b_Law_law 538 = .ok (.invokevirtual 91, 3) := by decide +kernel
theorem d_Law_law_541 : decode b_Law_law 541 = .ok (.if_icmp .eq 87, 3) := by decide +kernel
theorem d_Law_law_544 : decode b_Law_law 544 = .ok (.iconst 0, 1) := by decide +kernel
theorem d_Law_law_545 : decode b_Law_law 545 = .ok (.ireturn, 1) := by decide +kernel
theorem d_Law_law_546 : decode b_Law_law 546 = .ok (.aload_n 1, 1) := by decide +kernel
theorem d_Law_law_547 : decode b_Law_law 547 = .ok (.invokevirtual 92, 3) := by decide +kernel
theorem d_Law_law_550 : decode b_Law_law 550 = .ok (.aload_n 2, 1) := by decide +kernel
theorem d_Law_law_551 : decode b_Law_law 551 = .ok (.invokevirtual 95, 3) := by decide +kernel
theorem d_Law_law_554 : decode b_Law_law 554 = .ok (.if_icmp .eq 74, 3) := by decide +kernel
theorem d_Law_law_557 : decode b_Law_law 557 = .ok (.iconst 0, 1) := by decide +kernel
theorem d_Law_law_558 : decode b_Law_law 558 = .ok (.ireturn, 1) := by decide +kernel
theorem d_Law_law_559 : decode b_Law_law 559 = .ok (.aload_n 1, 1) := by decide +kernel
theorem d_Law_law_560 : decode b_Law_law 560 = .ok (.aload_n 0, 1) := by decide +kernel
theorem d_Law_law_561 : decode b_Law_law 561 = .ok (.iload_n 3, 1) := by decide +kernel
theorem d_Law_law_562 : decode b_Law_law 562 = .ok (.iconst 1, 1) := by decide +kernel
theorem d_Law_law_563 : decode b_Law_law 563 = .ok (.iadd, 1) := by decide +kernel
theorem d_Law_law_564 : decode b_Law_law 564 = .ok (.iaload, 1) := by decide +kernel
theorem d_Law_law_565 : decode b_Law_law 565 = .ok (.invokevirtual 96, 3) := by decide +kernel
theorem d_Law_law_568 : decode b_Law_law 568 = .ok (.aload_n 2, 1) := by decide +kernel
theorem d_Law_law_569 : decode b_Law_law 569 = .ok (.aload_n 0, 1) := by decide +kernel
theorem d_Law_law_570 : decode b_Law_law 570 = .ok (.iload_n 3, 1) := by decide +kernel
theorem d_Law_law_571 : decode b_Law_law 571 = .ok (.iconst 1, 1) := by decide +kernel
theorem d_Law_law_572 : decode b_Law_law 572 = .ok (.iadd, 1) := by decide +kernel
theorem d_Law_law_573 : decode b_Law_law 573 = .ok (.iaload, 1) := by decide +kernel
theorem d_Law_law_574 : decode b_Law_law 574 = .ok (.invokevirtual 99, 3) := by decide +kernel
theorem d_Law_law_577 : decode b_Law_law 577 = .ok (.if_icmp .eq 51, 3) := by decide +kernel
theorem d_Law_law_580 : decode b_Law_law 580 = .ok (.iconst 0, 1) := by decide +kernel
theorem d_Law_law_581 : decode b_Law_law 581 = .ok (.ireturn, 1) := by decide +kernel
theorem d_Law_law_582 : decode b_Law_law 582 = .ok (.aload_n 1, 1) := by decide +kernel
theorem d_Law_law_583 : decode b_Law_law 583 = .ok (.aload_n 0, 1) := by decide +kernel
theorem d_Law_law_584 : decode b_Law_law 584 = .ok (.iload_n 3, 1) := by decide +kernel
theorem d_Law_law_585 : decode b_Law_law 585 = .ok (.iconst 1, 1) := by decide +kernel
theorem d_Law_law_586 : decode b_Law_law 586 = .ok (.iadd, 1) := by decide +kernel
theorem d_Law_law_587 : decode b_Law_law 587 = .ok (.iaload, 1) := by decide +kernel
theorem d_Law_law_588 : decode b_Law_law 588 = .ok (.invokevirtual 100, 3) := by decide +kernel
theorem d_Law_law_591 : decode b_Law_law 591 = .ok (.aload_n 2, 1) := by decide +kernel
theorem d_Law_law_592 : decode b_Law_law 592 = .ok (.aload_n 0, 1) := by decide +kernel
theorem d_Law_law_593 : decode b_Law_law 593 = .ok (.iload_n 3, 1) := by decide +kernel
theorem d_Law_law_594 : decode b_Law_law 594 = .ok (.iconst 1, 1) := by decide +kernel
theorem d_Law_law_595 : decode b_Law_law 595 = .ok (.iadd, 1) := by decide +kernel
theorem d_Law_law_596 : decode b_Law_law 596 = .ok (.iaload, 1) := by decide +kernel
theorem d_Law_law_597 : decode b_Law_law 597 = .ok (.invokevirtual 103, 3) := by decide +kernel
theorem d_Law_law_600 : decode b_Law_law 600 = .ok (.if_icmp .eq 28, 3) := by decide +kernel
theorem d_Law_law_603 : decode b_Law_law 603 = .ok (.iconst 0, 1) := by decide +kernel
theorem d_Law_law_604 : decode b_Law_law 604 = .ok (.ireturn, 1) := by decide +kernel
theorem d_Law_law_605 : decode b_Law_law 605 = .ok (.aload_n 1, 1) := by decide +kernel
theorem d_Law_law_606 : decode b_Law_law 606 = .ok (.aload_n 0, 1) := by decide +kernel
theorem d_Law_law_607 : decode b_Law_law 607 = .ok (.iload_n 3, 1) := by decide +kernel
theorem d_Law_law_608 : decode b_Law_law 608 = .ok (.iconst 1, 1) := by decide +kernel
theorem d_Law_law_609 : decode b_Law_law 609 = .ok (.iadd, 1) := by decide +kernel
theorem d_Law_law_610 : decode b_Law_law 610 = .ok (.iaload, 1) := by decide +kernel
theorem d_Law_law_611 : decode b_Law_law 611 = .ok (.invokevirtual 104, 3) := by decide +kernel
theorem d_Law_law_614 : decode b_Law_law 614 = .ok (.aload_n 2, 1) := by decide +kernel
theorem d_Law_law_615 : decode b_Law_law 615 = .ok (.aload_n 0, 1) := by decide +kernel
theorem d_Law_law_616 : decode b_Law_law 616 = .ok (.iload_n 3, 1) := by decide +kernel
theorem d_Law_law_617 : decode b_Law_law 617 = .ok (.iconst 1, 1) := by decide +kernel
theorem d_Law_law_618 : decode b_Law_law 618 = .ok (.iadd, 1) := by decide +kernel
theorem d_Law_law_619 : decode b_Law_law 619 = .ok (.iaload, 1) := by decide +kernel
theorem d_Law_law_620 : decode b_Law_law 620 = .ok (.invokevirtual 107, 3) := by decide +kernel
theorem d_Law_law_623 : decode b_Law_law 623 = .ok (.if_icmp .eq 5, 3) := by decide +kernel
theorem d_Law_law_626 : decode b_Law_law 626 = .ok (.iconst 0, 1) := by decide +kernel
theorem d_Law_law_627 : decode b_Law_law 627 = .ok (.ireturn, 1) := by decide +kernel
theorem d_Law_law_628 : decode b_Law_law 628 = .ok (.iinc 3 5, 3) := by decide +kernel
theorem d_Law_law_631 : decode b_Law_law 631 = .ok (.goto (-593), 3) := by decide +kernel
theorem d_Law_law_634 : decode b_Law_law 634 = .ok (.iconst 1, 1) := by decide +kernel
theorem d_Law_law_635 : decode b_Law_law 635 = .ok (.ireturn, 1) := by decide +kernel
abbrev b_Law_cell : ByteArray := method_2_code
def y_Law_cell : MethodName := ⟨"LeasedBuildsLaw", "cell", "([II)I"⟩
def w_Law_cell : List Cond := .code y_Law_cell b_Law_cell 2 (some .int) :: WS
theorem d_Law_cell_0 : decode b_Law_cell 0 = .ok (.iload_n 1, 1) := by decide +kernel
theorem d_Law_cell_1 : decode b_Law_cell 1 = .ok (.aload_n 0, 1) := by decide +kernel
theorem d_Law_cell_2 : decode b_Law_cell 2 = .ok (.arraylength, 1) := by decide +kernel
theorem d_Law_cell_3 : decode b_Law_cell 3 = .ok (.if_icmp .ge 9, 3) := by decide +kernel
theorem d_Law_cell_6 : decode b_Law_cell 6 = .ok (.aload_n 0, 1) := by decide +kernel
theorem d_Law_cell_7 : decode b_Law_cell 7 = .ok (.iload_n 1, 1) := by decide +kernel
theorem d_Law_cell_8 : decode b_Law_cell 8 = .ok (.iaload, 1) := by decide +kernel
theorem d_Law_cell_9 : decode b_Law_cell 9 = .ok (.goto 4, 3) := by decide +kernel
theorem d_Law_cell_12 : decode b_Law_cell 12 = .ok (.iconst 0, 1) := by decide +kernel
theorem d_Law_cell_13 : decode b_Law_cell 13 = .ok (.ireturn, 1) := by decide +kernel
theorem cs_Law_9 : CwS WS "LeasedBuildsLaw" 9 y_Law_cell b_Law_cell 2 (some .int) 2 := ⟨⟨ms (i := 714) (by decide +kernel) rfl, ms (i := 712) (by decide +kernel) rfl, ms (i := 713) (by decide +kernel) rfl, ms (i := 0) (by decide +kernel) rfl⟩, by decide +kernel⟩
theorem cs_Law_21 : CwV WS "LeasedBuildsLaw" 21 "LeasedBuilds" y_LB_file b_LB_file 2 (some .int) 1 := ⟨⟨ms (i := 335) (by decide +kernel) rfl, ms (i := 332) (by decide +kernel) rfl, ms (i := 333) (by decide +kernel) rfl, ms (i := 334) (by decide +kernel) rfl, ms (i := 1) (by decide +kernel) rfl⟩, by decide +kernel⟩
theorem cs_Law_25 : CwV WS "LeasedBuildsLaw" 25 "LeasedBuildsModel" y_Md_file b_Md_file 2 (some .int) 1 := ⟨⟨ms (i := 875) (by decide +kernel) rfl, ms (i := 872) (by decide +kernel) rfl, ms (i := 873) (by decide +kernel) rfl, ms (i := 874) (by decide +kernel) rfl, ms (i := 11) (by decide +kernel) rfl⟩, by decide +kernel⟩
theorem cs_Law_28 : CwV WS "LeasedBuildsLaw" 28 "LeasedBuilds" y_LB_action b_LB_action 5 (some .int) 3 := ⟨⟨ms (i := 347) (by decide +kernel) rfl, ms (i := 344) (by decide +kernel) rfl, ms (i := 345) (by decide +kernel) rfl, ms (i := 346) (by decide +kernel) rfl, ms (i := 1) (by decide +kernel) rfl⟩, by decide +kernel⟩
theorem cs_Law_32 : CwV WS "LeasedBuildsLaw" 32 "LeasedBuildsModel" y_Md_action b_Md_action 5 (some .int) 3 := ⟨⟨ms (i := 879) (by decide +kernel) rfl, ms (i := 876) (by decide +kernel) rfl, ms (i := 877) (by decide +kernel) rfl, ms (i := 878) (by decide +kernel) rfl, ms (i := 11) (by decide +kernel) rfl⟩, by decide +kernel⟩
theorem cs_Law_33 : CwV WS "LeasedBuildsLaw" 33 "LeasedBuilds" y_LB_tick b_LB_tick 3 (some .int) 0 := ⟨⟨ms (i := 359) (by decide +kernel) rfl, ms (i := 356) (by decide +kernel) rfl, ms (i := 357) (by decide +kernel) rfl, ms (i := 358) (by decide +kernel) rfl, ms (i := 1) (by decide +kernel) rfl⟩, by decide +kernel⟩
theorem cs_Law_37 : CwV WS "LeasedBuildsLaw" 37 "LeasedBuildsModel" y_Md_tick b_Md_tick 2 (some .int) 0 := ⟨⟨ms (i := 1007) (by decide +kernel) rfl, ms (i := 1004) (by decide +kernel) rfl, ms (i := 1005) (by decide +kernel) rfl, ms (i := 1006) (by decide +kernel) rfl, ms (i := 11) (by decide +kernel) rfl⟩, by decide +kernel⟩
theorem cs_Law_38 : CwV WS "LeasedBuildsLaw" 38 "LeasedBuilds" y_LB_deliver b_LB_deliver 4 (some .int) 2 := ⟨⟨ms (i := 479) (by decide +kernel) rfl, ms (i := 476) (by decide +kernel) rfl, ms (i := 477) (by decide +kernel) rfl, ms (i := 478) (by decide +kernel) rfl, ms (i := 1) (by decide +kernel) rfl⟩, by decide +kernel⟩
theorem cs_Law_42 : CwV WS "LeasedBuildsLaw" 42 "LeasedBuildsModel" y_Md_deliver b_Md_deliver 11 (some .int) 2 := ⟨⟨ms (i := 955) (by decide +kernel) rfl, ms (i := 952) (by decide +kernel) rfl, ms (i := 953) (by decide +kernel) rfl, ms (i := 954) (by decide +kernel) rfl, ms (i := 11) (by decide +kernel) rfl⟩, by decide +kernel⟩
theorem cs_Law_43 : CwV WS "LeasedBuildsLaw" 43 "LeasedBuilds" y_LB_lose b_LB_lose 2 (some .boolean) 1 := ⟨⟨ms (i := 594) (by decide +kernel) rfl, ms (i := 591) (by decide +kernel) rfl, ms (i := 592) (by decide +kernel) rfl, ms (i := 593) (by decide +kernel) rfl, ms (i := 1) (by decide +kernel) rfl⟩, by decide +kernel⟩
theorem cs_Law_47 : CwV WS "LeasedBuildsLaw" 47 "LeasedBuildsModel" y_Md_lose b_Md_lose 3 (some .boolean) 1 := ⟨⟨ms (i := 922) (by decide +kernel) rfl, ms (i := 919) (by decide +kernel) rfl, ms (i := 920) (by decide +kernel) rfl, ms (i := 921) (by decide +kernel) rfl, ms (i := 11) (by decide +kernel) rfl⟩, by decide +kernel⟩
theorem cs_Law_48 : CwV WS "LeasedBuildsLaw" 48 "LeasedBuilds" y_LB_spoil b_LB_spoil 2 (some .boolean) 1 := ⟨⟨ms (i := 598) (by decide +kernel) rfl, ms (i := 595) (by decide +kernel) rfl, ms (i := 596) (by decide +kernel) rfl, ms (i := 597) (by decide +kernel) rfl, ms (i := 1) (by decide +kernel) rfl⟩, by decide +kernel⟩
theorem cs_Law_51 : CwV WS "LeasedBuildsLaw" 51 "LeasedBuildsModel" y_Md_spoil b_Md_spoil 3 (some .boolean) 1 := ⟨⟨ms (i := 918) (by decide +kernel) rfl, ms (i := 915) (by decide +kernel) rfl, ms (i := 916) (by decide +kernel) rfl, ms (i := 917) (by decide +kernel) rfl, ms (i := 11) (by decide +kernel) rfl⟩, by decide +kernel⟩
theorem cs_Law_52 : CwV WS "LeasedBuildsLaw" 52 "LeasedBuilds" y_LB_crash b_LB_crash 2 (some .boolean) 1 := ⟨⟨ms (i := 607) (by decide +kernel) rfl, ms (i := 604) (by decide +kernel) rfl, ms (i := 605) (by decide +kernel) rfl, ms (i := 606) (by decide +kernel) rfl, ms (i := 1) (by decide +kernel) rfl⟩, by decide +kernel⟩
theorem cs_Law_55 : CwV WS "LeasedBuildsLaw" 55 "LeasedBuildsModel" y_Md_crash b_Md_crash 2 (some .boolean) 1 := ⟨⟨ms (i := 943) (by decide +kernel) rfl, ms (i := 940) (by decide +kernel) rfl, ms (i := 941) (by decide +kernel) rfl, ms (i := 942) (by decide +kernel) rfl, ms (i := 11) (by decide +kernel) rfl⟩, by decide +kernel⟩
theorem cs_Law_56 : CwV WS "LeasedBuildsLaw" 56 "LeasedBuilds" y_LB_restart b_LB_restart 2 (some .boolean) 1 := ⟨⟨ms (i := 620) (by decide +kernel) rfl, ms (i := 617) (by decide +kernel) rfl, ms (i := 618) (by decide +kernel) rfl, ms (i := 619) (by decide +kernel) rfl, ms (i := 1) (by decide +kernel) rfl⟩, by decide +kernel⟩
theorem cs_Law_59 : CwV WS "LeasedBuildsLaw" 59 "LeasedBuildsModel" y_Md_restart b_Md_restart 2 (some .boolean) 1 := ⟨⟨ms (i := 951) (by decide +kernel) rfl, ms (i := 948) (by decide +kernel) rfl, ms (i := 949) (by decide +kernel) rfl, ms (i := 950) (by decide +kernel) rfl, ms (i := 11) (by decide +kernel) rfl⟩, by decide +kernel⟩
theorem cs_Law_60 : CwV WS "LeasedBuildsLaw" 60 "LeasedBuilds" y_LB_collect b_LB_collect 1 (some .int) 0 := ⟨⟨ms (i := 624) (by decide +kernel) rfl, ms (i := 621) (by decide +kernel) rfl, ms (i := 622) (by decide +kernel) rfl, ms (i := 623) (by decide +kernel) rfl, ms (i := 1) (by decide +kernel) rfl⟩, by decide +kernel⟩
theorem cs_Law_63 : CwV WS "LeasedBuildsLaw" 63 "LeasedBuildsModel" y_Md_collect b_Md_collect 5 (some .int) 0 := ⟨⟨ms (i := 935) (by decide +kernel) rfl, ms (i := 932) (by decide +kernel) rfl, ms (i := 933) (by decide +kernel) rfl, ms (i := 934) (by decide +kernel) rfl, ms (i := 11) (by decide +kernel) rfl⟩, by decide +kernel⟩
theorem cs_Law_64 : CwV WS "LeasedBuildsLaw" 64 "LeasedBuilds" y_LB_flying b_LB_flying 1 (some .int) 0 := ⟨⟨ms (i := 657) (by decide +kernel) rfl, ms (i := 654) (by decide +kernel) rfl, ms (i := 655) (by decide +kernel) rfl, ms (i := 656) (by decide +kernel) rfl, ms (i := 1) (by decide +kernel) rfl⟩, by decide +kernel⟩
theorem cs_Law_67 : CwV WS "LeasedBuildsLaw" 67 "LeasedBuildsModel" y_Md_flying b_Md_flying 3 (some .int) 0 := ⟨⟨ms (i := 898) (by decide +kernel) rfl, ms (i := 895) (by decide +kernel) rfl, ms (i := 896) (by decide +kernel) rfl, ms (i := 897) (by decide +kernel) rfl, ms (i := 11) (by decide +kernel) rfl⟩, by decide +kernel⟩
theorem cs_Law_68 : CwV WS "LeasedBuildsLaw" 68 "LeasedBuilds" y_LB_message b_LB_message 3 (some .int) 1 := ⟨⟨ms (i := 661) (by decide +kernel) rfl, ms (i := 658) (by decide +kernel) rfl, ms (i := 659) (by decide +kernel) rfl, ms (i := 660) (by decide +kernel) rfl, ms (i := 1) (by decide +kernel) rfl⟩, by decide +kernel⟩
theorem cs_Law_71 : CwV WS "LeasedBuildsLaw" 71 "LeasedBuildsModel" y_Md_message b_Md_message 3 (some .int) 1 := ⟨⟨ms (i := 902) (by decide +kernel) rfl, ms (i := 899) (by decide +kernel) rfl, ms (i := 900) (by decide +kernel) rfl, ms (i := 901) (by decide +kernel) rfl, ms (i := 11) (by decide +kernel) rfl⟩, by decide +kernel⟩
theorem cs_Law_72 : CwV WS "LeasedBuildsLaw" 72 "LeasedBuilds" y_LB_carried b_LB_carried 2 (some .int) 1 := ⟨⟨ms (i := 665) (by decide +kernel) rfl, ms (i := 662) (by decide +kernel) rfl, ms (i := 663) (by decide +kernel) rfl, ms (i := 664) (by decide +kernel) rfl, ms (i := 1) (by decide +kernel) rfl⟩, by decide +kernel⟩
theorem cs_Law_75 : CwV WS "LeasedBuildsLaw" 75 "LeasedBuildsModel" y_Md_carried b_Md_carried 3 (some .int) 1 := ⟨⟨ms (i := 910) (by decide +kernel) rfl, ms (i := 907) (by decide +kernel) rfl, ms (i := 908) (by decide +kernel) rfl, ms (i := 909) (by decide +kernel) rfl, ms (i := 11) (by decide +kernel) rfl⟩, by decide +kernel⟩
theorem cs_Law_76 : CwV WS "LeasedBuildsLaw" 76 "LeasedBuilds" y_LB_known b_LB_known 2 (some .boolean) 1 := ⟨⟨ms (i := 669) (by decide +kernel) rfl, ms (i := 666) (by decide +kernel) rfl, ms (i := 667) (by decide +kernel) rfl, ms (i := 668) (by decide +kernel) rfl, ms (i := 1) (by decide +kernel) rfl⟩, by decide +kernel⟩
theorem cs_Law_79 : CwV WS "LeasedBuildsLaw" 79 "LeasedBuildsModel" y_Md_known b_Md_known 2 (some .boolean) 1 := ⟨⟨ms (i := 883) (by decide +kernel) rfl, ms (i := 880) (by decide +kernel) rfl, ms (i := 881) (by decide +kernel) rfl, ms (i := 882) (by decide +kernel) rfl, ms (i := 11) (by decide +kernel) rfl⟩, by decide +kernel⟩
theorem cs_Law_80 : CwV WS "LeasedBuildsLaw" 80 "LeasedBuilds" y_LB_content b_LB_content 2 (some .int) 1 := ⟨⟨ms (i := 677) (by decide +kernel) rfl, ms (i := 674) (by decide +kernel) rfl, ms (i := 675) (by decide +kernel) rfl, ms (i := 676) (by decide +kernel) rfl, ms (i := 1) (by decide +kernel) rfl⟩, by decide +kernel⟩
theorem cs_Law_83 : CwV WS "LeasedBuildsLaw" 83 "LeasedBuildsModel" y_Md_content b_Md_content 2 (some .int) 1 := ⟨⟨ms (i := 887) (by decide +kernel) rfl, ms (i := 884) (by decide +kernel) rfl, ms (i := 885) (by decide +kernel) rfl, ms (i := 886) (by decide +kernel) rfl, ms (i := 11) (by decide +kernel) rfl⟩, by decide +kernel⟩
theorem cs_Law_84 : CwV WS "LeasedBuildsLaw" 84 "LeasedBuilds" y_LB_digest b_LB_digest 2 (some .int) 1 := ⟨⟨ms (i := 681) (by decide +kernel) rfl, ms (i := 678) (by decide +kernel) rfl, ms (i := 679) (by decide +kernel) rfl, ms (i := 680) (by decide +kernel) rfl, ms (i := 1) (by decide +kernel) rfl⟩, by decide +kernel⟩
theorem cs_Law_87 : CwV WS "LeasedBuildsLaw" 87 "LeasedBuildsModel" y_Md_digest b_Md_digest 4 (some .int) 1 := ⟨⟨ms (i := 892) (by decide +kernel) rfl, ms (i := 889) (by decide +kernel) rfl, ms (i := 890) (by decide +kernel) rfl, ms (i := 891) (by decide +kernel) rfl, ms (i := 11) (by decide +kernel) rfl⟩, by decide +kernel⟩
theorem cs_Law_88 : CwV WS "LeasedBuildsLaw" 88 "LeasedBuilds" y_LB_stored b_LB_stored 2 (some .boolean) 1 := ⟨⟨ms (i := 686) (by decide +kernel) rfl, ms (i := 683) (by decide +kernel) rfl, ms (i := 684) (by decide +kernel) rfl, ms (i := 685) (by decide +kernel) rfl, ms (i := 1) (by decide +kernel) rfl⟩, by decide +kernel⟩
theorem cs_Law_91 : CwV WS "LeasedBuildsLaw" 91 "LeasedBuildsModel" y_Md_stored b_Md_stored 2 (some .boolean) 1 := ⟨⟨ms (i := 926) (by decide +kernel) rfl, ms (i := 923) (by decide +kernel) rfl, ms (i := 924) (by decide +kernel) rfl, ms (i := 925) (by decide +kernel) rfl, ms (i := 11) (by decide +kernel) rfl⟩, by decide +kernel⟩
theorem cs_Law_92 : CwV WS "LeasedBuildsLaw" 92 "LeasedBuilds" y_LB_waiting b_LB_waiting 1 (some .int) 0 := ⟨⟨ms (i := 691) (by decide +kernel) rfl, ms (i := 688) (by decide +kernel) rfl, ms (i := 689) (by decide +kernel) rfl, ms (i := 690) (by decide +kernel) rfl, ms (i := 1) (by decide +kernel) rfl⟩, by decide +kernel⟩
theorem cs_Law_95 : CwV WS "LeasedBuildsLaw" 95 "LeasedBuildsModel" y_Md_waiting b_Md_waiting 3 (some .int) 0 := ⟨⟨ms (i := 1034) (by decide +kernel) rfl, ms (i := 1031) (by decide +kernel) rfl, ms (i := 1032) (by decide +kernel) rfl, ms (i := 1033) (by decide +kernel) rfl, ms (i := 11) (by decide +kernel) rfl⟩, by decide +kernel⟩
theorem cs_Law_96 : CwV WS "LeasedBuildsLaw" 96 "LeasedBuilds" y_LB_lease b_LB_lease 2 (some .int) 1 := ⟨⟨ms (i := 695) (by decide +kernel) rfl, ms (i := 692) (by decide +kernel) rfl, ms (i := 693) (by decide +kernel) rfl, ms (i := 694) (by decide +kernel) rfl, ms (i := 1) (by decide +kernel) rfl⟩, by decide +kernel⟩
theorem cs_Law_99 : CwV WS "LeasedBuildsLaw" 99 "LeasedBuildsModel" y_Md_lease b_Md_lease 3 (some .int) 1 := ⟨⟨ms (i := 1038) (by decide +kernel) rfl, ms (i := 1035) (by decide +kernel) rfl, ms (i := 1036) (by decide +kernel) rfl, ms (i := 1037) (by decide +kernel) rfl, ms (i := 11) (by decide +kernel) rfl⟩, by decide +kernel⟩
theorem cs_Law_100 : CwV WS "LeasedBuildsLaw" 100 "LeasedBuilds" y_LB_doing b_LB_doing 2 (some .int) 1 := ⟨⟨ms (i := 703) (by decide +kernel) rfl, ms (i := 700) (by decide +kernel) rfl, ms (i := 701) (by decide +kernel) rfl, ms (i := 702) (by decide +kernel) rfl, ms (i := 1) (by decide +kernel) rfl⟩, by decide +kernel⟩
theorem cs_Law_103 : CwV WS "LeasedBuildsLaw" 103 "LeasedBuildsModel" y_Md_doing b_Md_doing 2 (some .int) 1 := ⟨⟨ms (i := 1042) (by decide +kernel) rfl, ms (i := 1039) (by decide +kernel) rfl, ms (i := 1040) (by decide +kernel) rfl, ms (i := 1041) (by decide +kernel) rfl, ms (i := 11) (by decide +kernel) rfl⟩, by decide +kernel⟩
theorem cs_Law_104 : CwV WS "LeasedBuildsLaw" 104 "LeasedBuilds" y_LB_count b_LB_count 2 (some .int) 1 := ⟨⟨ms (i := 707) (by decide +kernel) rfl, ms (i := 704) (by decide +kernel) rfl, ms (i := 705) (by decide +kernel) rfl, ms (i := 706) (by decide +kernel) rfl, ms (i := 1) (by decide +kernel) rfl⟩, by decide +kernel⟩
theorem cs_Law_107 : CwV WS "LeasedBuildsLaw" 107 "LeasedBuildsModel" y_Md_count b_Md_count 2 (some .int) 1 := ⟨⟨ms (i := 1046) (by decide +kernel) rfl, ms (i := 1043) (by decide +kernel) rfl, ms (i := 1044) (by decide +kernel) rfl, ms (i := 1045) (by decide +kernel) rfl, ms (i := 11) (by decide +kernel) rfl⟩, by decide +kernel⟩
theorem cl_Law_26 : Cond.constantLong "LeasedBuildsLaw" 26 4294967295 ∈ WS := ms (i := 1055) (by decide +kernel) rfl
theorem cl_Law_7 : Cond.classLink "LeasedBuildsLaw" 7 "LeasedBuilds" ∈ WS := ms (i := 13) (by decide +kernel) rfl
theorem cl_Law_18 : Cond.classLink "LeasedBuildsLaw" 18 "LeasedBuildsModel" ∈ WS := ms (i := 715) (by decide +kernel) rfl
theorem ci_Law_15 : CwI "LeasedBuildsLaw" 15 y_LB_init b_LB_init 6 2 := ⟨⟨ms (i := 17) (by decide +kernel) rfl, ms (i := 15) (by decide +kernel) rfl, ms (i := 16) (by decide +kernel) rfl, ms (i := 1) (by decide +kernel) rfl⟩, by decide +kernel⟩
theorem ci_Law_20 : CwI "LeasedBuildsLaw" 20 y_Md_init b_Md_init 3 2 := ⟨⟨ms (i := 719) (by decide +kernel) rfl, ms (i := 717) (by decide +kernel) rfl, ms (i := 718) (by decide +kernel) rfl, ms (i := 11) (by decide +kernel) rfl⟩, by decide +kernel⟩
theorem nl_ok : ∀ q ∈ NL, Cond.methodLinkNest q.1 q.2.1 q.2.2.1 q.2.2.2 ∈ tables_1 := by
  intro q hq
  unfold NL at hq
  simp only [List.mem_cons, List.not_mem_nil, or_false] at hq
  rcases hq with rfl | rfl | rfl | rfl | rfl | rfl | rfl | rfl | rfl | rfl | rfl
  · exact List.mem_of_getElem? (i := 30) (by decide +kernel)
  · exact List.mem_of_getElem? (i := 36) (by decide +kernel)
  · exact List.mem_of_getElem? (i := 125) (by decide +kernel)
  · exact List.mem_of_getElem? (i := 172) (by decide +kernel)
  · exact List.mem_of_getElem? (i := 204) (by decide +kernel)
  · exact List.mem_of_getElem? (i := 221) (by decide +kernel)
  · exact List.mem_of_getElem? (i := 282) (by decide +kernel)
  · exact List.mem_of_getElem? (i := 287) (by decide +kernel)
  · exact List.mem_of_getElem? (i := 372) (by decide +kernel)
  · exact List.mem_of_getElem? (i := 474) (by decide +kernel)
  · exact List.mem_of_getElem? (i := 500) (by decide +kernel)
theorem ao_Key : Cond.arrayOver (.object "LeasedBuilds$Key") ∈ tables_1 := List.mem_of_getElem? (i := 171) (by decide +kernel)
theorem ao_Message : Cond.arrayOver (.object "LeasedBuilds$Message") ∈ tables_1 := List.mem_of_getElem? (i := 28) (by decide +kernel)
theorem ao_Worker : Cond.arrayOver (.object "LeasedBuilds$Worker") ∈ tables_1 := List.mem_of_getElem? (i := 280) (by decide +kernel)
