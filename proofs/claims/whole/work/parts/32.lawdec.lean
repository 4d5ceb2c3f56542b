/-! Decode rows of the law, printed by wip/whole/names.py. -/
theorem d_LW_law_0 : decode code 0 = .ok (.new 7, 3) := by decide +kernel
theorem d_LW_law_3 : decode code 3 = .ok (.dup, 1) := by decide +kernel
theorem d_LW_law_4 : decode code 4 = .ok (.invokespecial 9, 3) := by decide +kernel
theorem d_LW_law_7 : decode code 7 = .ok (.astore_n 1, 1) := by decide +kernel
theorem d_LW_law_8 : decode code 8 = .ok (.new 10, 3) := by decide +kernel
theorem d_LW_law_11 : decode code 11 = .ok (.dup, 1) := by decide +kernel
theorem d_LW_law_12 : decode code 12 = .ok (.invokespecial 12, 3) := by decide +kernel
theorem d_LW_law_15 : decode code 15 = .ok (.astore_n 2, 1) := by decide +kernel
theorem d_LW_law_16 : decode code 16 = .ok (.iconst 0, 1) := by decide +kernel
theorem d_LW_law_17 : decode code 17 = .ok (.istore_n 3, 1) := by decide +kernel
theorem d_LW_law_18 : decode code 18 = .ok (.iload_n 3, 1) := by decide +kernel
theorem d_LW_law_19 : decode code 19 = .ok (.aload_n 0, 1) := by decide +kernel
theorem d_LW_law_20 : decode code 20 = .ok (.arraylength, 1) := by decide +kernel
theorem d_LW_law_21 : decode code 21 = .ok (.iconst 4, 1) := by decide +kernel
theorem d_LW_law_22 : decode code 22 = .ok (.isub, 1) := by decide +kernel
theorem d_LW_law_23 : decode code 23 = .ok (.if_icmp .gt 653, 3) := by decide +kernel
theorem d_LW_law_26 : decode code 26 = .ok (.aload_n 0, 1) := by decide +kernel
theorem d_LW_law_27 : decode code 27 = .ok (.iload_n 3, 1) := by decide +kernel
theorem d_LW_law_28 : decode code 28 = .ok (.iaload, 1) := by decide +kernel
theorem d_LW_law_29 : decode code 29 = .ok (.bipush 31, 2) := by decide +kernel
theorem d_LW_law_31 : decode code 31 = .ok (.iand, 1) := by decide +kernel
theorem d_LW_law_32 : decode code 32 = .ok (.tableswitch 638 0 19 #[96, 139, 162, 185, 209, 242, 275, 308, 331, 354, 387, 430, 453, 476, 499, 512, 536, 569, 592, 615], 96) := by decide +kernel
theorem d_LW_law_128 : decode code 128 = .ok (.aload_n 1, 1) := by decide +kernel
theorem d_LW_law_129 : decode code 129 = .ok (.aload_n 0, 1) := by decide +kernel
theorem d_LW_law_130 : decode code 130 = .ok (.iload_n 3, 1) := by decide +kernel
theorem d_LW_law_131 : decode code 131 = .ok (.iconst 1, 1) := by decide +kernel
theorem d_LW_law_132 : decode code 132 = .ok (.iadd, 1) := by decide +kernel
theorem d_LW_law_133 : decode code 133 = .ok (.iaload, 1) := by decide +kernel
theorem d_LW_law_134 : decode code 134 = .ok (.aload_n 0, 1) := by decide +kernel
theorem d_LW_law_135 : decode code 135 = .ok (.iload_n 3, 1) := by decide +kernel
theorem d_LW_law_136 : decode code 136 = .ok (.iconst 2, 1) := by decide +kernel
theorem d_LW_law_137 : decode code 137 = .ok (.iadd, 1) := by decide +kernel
theorem d_LW_law_138 : decode code 138 = .ok (.iaload, 1) := by decide +kernel
theorem d_LW_law_139 : decode code 139 = .ok (.aload_n 0, 1) := by decide +kernel
theorem d_LW_law_140 : decode code 140 = .ok (.iload_n 3, 1) := by decide +kernel
theorem d_LW_law_141 : decode code 141 = .ok (.iconst 3, 1) := by decide +kernel
theorem d_LW_law_142 : decode code 142 = .ok (.iadd, 1) := by decide +kernel
theorem d_LW_law_143 : decode code 143 = .ok (.iaload, 1) := by decide +kernel
theorem d_LW_law_144 : decode code 144 = .ok (.invokevirtual 13, 3) := by decide +kernel
theorem d_LW_law_147 : decode code 147 = .ok (.aload_n 2, 1) := by decide +kernel
theorem d_LW_law_148 : decode code 148 = .ok (.aload_n 0, 1) := by decide +kernel
theorem d_LW_law_149 : decode code 149 = .ok (.iload_n 3, 1) := by decide +kernel
theorem d_LW_law_150 : decode code 150 = .ok (.iconst 1, 1) := by decide +kernel
theorem d_LW_law_151 : decode code 151 = .ok (.iadd, 1) := by decide +kernel
theorem d_LW_law_152 : decode code 152 = .ok (.iaload, 1) := by decide +kernel
theorem d_LW_law_153 : decode code 153 = .ok (.aload_n 0, 1) := by decide +kernel
theorem d_LW_law_154 : decode code 154 = .ok (.iload_n 3, 1) := by decide +kernel
theorem d_LW_law_155 : decode code 155 = .ok (.iconst 2, 1) := by decide +kernel
theorem d_LW_law_156 : decode code 156 = .ok (.iadd, 1) := by decide +kernel
theorem d_LW_law_157 : decode code 157 = .ok (.iaload, 1) := by decide +kernel
theorem d_LW_law_158 : decode code 158 = .ok (.aload_n 0, 1) := by decide +kernel
theorem d_LW_law_159 : decode code 159 = .ok (.iload_n 3, 1) := by decide +kernel
theorem d_LW_law_160 : decode code 160 = .ok (.iconst 3, 1) := by decide +kernel
theorem d_LW_law_161 : decode code 161 = .ok (.iadd, 1) := by decide +kernel
theorem d_LW_law_162 : decode code 162 = .ok (.iaload, 1) := by decide +kernel
theorem d_LW_law_163 : decode code 163 = .ok (.invokevirtual 17, 3) := by decide +kernel
theorem d_LW_law_166 : decode code 166 = .ok (.if_icmp .eq 504, 3) := by decide +kernel
theorem d_LW_law_169 : decode code 169 = .ok (.iconst 0, 1) := by decide +kernel
theorem d_LW_law_170 : decode code 170 = .ok (.ireturn, 1) := by decide +kernel
theorem d_LW_law_171 : decode code 171 = .ok (.aload_n 1, 1) := by decide +kernel
theorem d_LW_law_172 : decode code 172 = .ok (.aload_n 0, 1) := by decide +kernel
theorem d_LW_law_173 : decode code 173 = .ok (.iload_n 3, 1) := by decide +kernel
theorem d_LW_law_174 : decode code 174 = .ok (.iconst 1, 1) := by decide +kernel
theorem d_LW_law_175 : decode code 175 = .ok (.iadd, 1) := by decide +kernel
theorem d_LW_law_176 : decode code 176 = .ok (.iaload, 1) := by decide +kernel
theorem d_LW_law_177 : decode code 177 = .ok (.invokevirtual 18, 3) := by decide +kernel
theorem d_LW_law_180 : decode code 180 = .ok (.aload_n 2, 1) := by decide +kernel
theorem d_LW_law_181 : decode code 181 = .ok (.aload_n 0, 1) := by decide +kernel
theorem d_LW_law_182 : decode code 182 = .ok (.iload_n 3, 1) := by decide +kernel
theorem d_LW_law_183 : decode code 183 = .ok (.iconst 1, 1) := by decide +kernel
theorem d_LW_law_184 : decode code 184 = .ok (.iadd, 1) := by decide +kernel
theorem d_LW_law_185 : decode code 185 = .ok (.iaload, 1) := by decide +kernel
theorem d_LW_law_186 : decode code 186 = .ok (.invokevirtual 22, 3) := by decide +kernel
theorem d_LW_law_189 : decode code 189 = .ok (.if_icmp .eq 481, 3) := by decide +kernel
theorem d_LW_law_192 : decode code 192 = .ok (.iconst 0, 1) := by decide +kernel
theorem d_LW_law_193 : decode code 193 = .ok (.ireturn, 1) := by decide +kernel
theorem d_LW_law_194 : decode code 194 = .ok (.aload_n 1, 1) := by decide +kernel
theorem d_LW_law_195 : decode code 195 = .ok (.aload_n 0, 1) := by decide +kernel
theorem d_LW_law_196 : decode code 196 = .ok (.iload_n 3, 1) := by decide +kernel
theorem d_LW_law_197 : decode code 197 = .ok (.iconst 1, 1) := by decide +kernel
theorem d_LW_law_198 : decode code 198 = .ok (.iadd, 1) := by decide +kernel
theorem d_LW_law_199 : decode code 199 = .ok (.iaload, 1) := by decide +kernel
theorem d_LW_law_200 : decode code 200 = .ok (.invokevirtual 23, 3) := by decide +kernel
theorem d_LW_law_203 : decode code 203 = .ok (.aload_n 2, 1) := by decide +kernel
theorem d_LW_law_204 : decode code 204 = .ok (.aload_n 0, 1) := by decide +kernel
theorem d_LW_law_205 : decode code 205 = .ok (.iload_n 3, 1) := by decide +kernel
theorem d_LW_law_206 : decode code 206 = .ok (.iconst 1, 1) := by decide +kernel
theorem d_LW_law_207 : decode code 207 = .ok (.iadd, 1) := by decide +kernel
theorem d_LW_law_208 : decode code 208 = .ok (.iaload, 1) := by decide +kernel
theorem d_LW_law_209 : decode code 209 = .ok (.invokevirtual 27, 3) := by decide +kernel
theorem d_LW_law_212 : decode code 212 = .ok (.if_icmp .eq 458, 3) := by decide +kernel
theorem d_LW_law_215 : decode code 215 = .ok (.iconst 0, 1) := by decide +kernel
theorem d_LW_law_216 : decode code 216 = .ok (.ireturn, 1) := by decide +kernel
theorem d_LW_law_217 : decode code 217 = .ok (.aload_n 1, 1) := by decide +kernel
theorem d_LW_law_218 : decode code 218 = .ok (.aload_n 0, 1) := by decide +kernel
theorem d_LW_law_219 : decode code 219 = .ok (.iload_n 3, 1) := by decide +kernel
theorem d_LW_law_220 : decode code 220 = .ok (.iconst 1, 1) := by decide +kernel
theorem d_LW_law_221 : decode code 221 = .ok (.iadd, 1) := by decide +kernel
theorem d_LW_law_222 : decode code 222 = .ok (.iaload, 1) := by decide +kernel
theorem d_LW_law_223 : decode code 223 = .ok (.invokevirtual 28, 3) := by decide +kernel
theorem d_LW_law_226 : decode code 226 = .ok (.aload_n 2, 1) := by decide +kernel
theorem d_LW_law_227 : decode code 227 = .ok (.aload_n 0, 1) := by decide +kernel
theorem d_LW_law_228 : decode code 228 = .ok (.iload_n 3, 1) := by decide +kernel
theorem d_LW_law_229 : decode code 229 = .ok (.iconst 1, 1) := by decide +kernel
theorem d_LW_law_230 : decode code 230 = .ok (.iadd, 1) := by decide +kernel
theorem d_LW_law_231 : decode code 231 = .ok (.iaload, 1) := by decide +kernel
theorem d_LW_law_232 : decode code 232 = .ok (.invokevirtual 32, 3) := by decide +kernel
theorem d_LW_law_235 : decode code 235 = .ok (.lcmp, 1) := by decide +kernel
theorem d_LW_law_236 : decode code 236 = .ok (.ifCond .eq 434, 3) := by decide +kernel
theorem d_LW_law_239 : decode code 239 = .ok (.iconst 0, 1) := by decide +kernel
theorem d_LW_law_240 : decode code 240 = .ok (.ireturn, 1) := by decide +kernel
theorem d_LW_law_241 : decode code 241 = .ok (.aload_n 1, 1) := by decide +kernel
theorem d_LW_law_242 : decode code 242 = .ok (.aload_n 0, 1) := by decide +kernel
theorem d_LW_law_243 : decode code 243 = .ok (.iload_n 3, 1) := by decide +kernel
theorem d_LW_law_244 : decode code 244 = .ok (.iconst 1, 1) := by decide +kernel
theorem d_LW_law_245 : decode code 245 = .ok (.iadd, 1) := by decide +kernel
theorem d_LW_law_246 : decode code 246 = .ok (.iaload, 1) := by decide +kernel
theorem d_LW_law_247 : decode code 247 = .ok (.aload_n 0, 1) := by decide +kernel
theorem d_LW_law_248 : decode code 248 = .ok (.iload_n 3, 1) := by decide +kernel
theorem d_LW_law_249 : decode code 249 = .ok (.iconst 2, 1) := by decide +kernel
theorem d_LW_law_250 : decode code 250 = .ok (.iadd, 1) := by decide +kernel
theorem d_LW_law_251 : decode code 251 = .ok (.iaload, 1) := by decide +kernel
theorem d_LW_law_252 : decode code 252 = .ok (.invokevirtual 33, 3) := by decide +kernel
theorem d_LW_law_255 : decode code 255 = .ok (.aload_n 2, 1) := by decide +kernel
theorem d_LW_law_256 : decode code 256 = .ok (.aload_n 0, 1) := by decide +kernel
theorem d_LW_law_257 : decode code 257 = .ok (.iload_n 3, 1) := by decide +kernel
theorem d_LW_law_258 : decode code 258 = .ok (.iconst 1, 1) := by decide +kernel
theorem d_LW_law_259 : decode code 259 = .ok (.iadd, 1) := by decide +kernel
theorem d_LW_law_260 : decode code 260 = .ok (.iaload, 1) := by decide +kernel
theorem d_LW_law_261 : decode code 261 = .ok (.aload_n 0, 1) := by decide +kernel
theorem d_LW_law_262 : decode code 262 = .ok (.iload_n 3, 1) := by decide +kernel
theorem d_LW_law_263 : decode code 263 = .ok (.iconst 2, 1) := by decide +kernel
theorem d_LW_law_264 : decode code 264 = .ok (.iadd, 1) := by decide +kernel
theorem d_LW_law_265 : decode code 265 = .ok (.iaload, 1) := by decide +kernel
theorem d_LW_law_266 : decode code 266 = .ok (.invokevirtual 37, 3) := by decide +kernel
theorem d_LW_law_269 : decode code 269 = .ok (.if_icmp .eq 401, 3) := by decide +kernel
theorem d_LW_law_272 : decode code 272 = .ok (.iconst 0, 1) := by decide +kernel
theorem d_LW_law_273 : decode code 273 = .ok (.ireturn, 1) := by decide +kernel
theorem d_LW_law_274 : decode code 274 = .ok (.aload_n 1, 1) := by decide +kernel
theorem d_LW_law_275 : decode code 275 = .ok (.aload_n 0, 1) := by decide +kernel
theorem d_LW_law_276 : decode code 276 = .ok (.iload_n 3, 1) := by decide +kernel
theorem d_LW_law_277 : decode code 277 = .ok (.iconst 1, 1) := by decide +kernel
theorem d_LW_law_278 : decode code 278 = .ok (.iadd, 1) := by decide +kernel
theorem d_LW_law_279 : decode code 279 = .ok (.iaload, 1) := by decide +kernel
theorem d_LW_law_280 : decode code 280 = .ok (.aload_n 0, 1) := by decide +kernel
theorem d_LW_law_281 : decode code 281 = .ok (.iload_n 3, 1) := by decide +kernel
theorem d_LW_law_282 : decode code 282 = .ok (.iconst 2, 1) := by decide +kernel
theorem d_LW_law_283 : decode code 283 = .ok (.iadd, 1) := by decide +kernel
theorem d_LW_law_284 : decode code 284 = .ok (.iaload, 1) := by decide +kernel
theorem d_LW_law_285 : decode code 285 = .ok (.invokevirtual 38, 3) := by decide +kernel
theorem d_LW_law_288 : decode code 288 = .ok (.aload_n 2, 1) := by decide +kernel
theorem d_LW_law_289 : decode code 289 = .ok (.aload_n 0, 1) := by decide +kernel
theorem d_LW_law_290 : decode code 290 = .ok (.iload_n 3, 1) := by decide +kernel
theorem d_LW_law_291 : decode code 291 = .ok (.iconst 1, 1) := by decide +kernel
theorem d_LW_law_292 : decode code 292 = .ok (.iadd, 1) := by decide +kernel
theorem d_LW_law_293 : decode code 293 = .ok (.iaload, 1) := by decide +kernel
theorem d_LW_law_294 : decode code 294 = .ok (.aload_n 0, 1) := by decide +kernel
theorem d_LW_law_295 : decode code 295 = .ok (.iload_n 3, 1) := by decide +kernel
theorem d_LW_law_296 : decode code 296 = .ok (.iconst 2, 1) := by decide +kernel
theorem d_LW_law_297 : decode code 297 = .ok (.iadd, 1) := by decide +kernel
theorem d_LW_law_298 : decode code 298 = .ok (.iaload, 1) := by decide +kernel
theorem d_LW_law_299 : decode code 299 = .ok (.invokevirtual 42, 3) := by decide +kernel
theorem d_LW_law_302 : decode code 302 = .ok (.if_icmp .eq 368, 3) := by decide +kernel
theorem d_LW_law_305 : decode code 305 = .ok (.iconst 0, 1) := by decide +kernel
theorem d_LW_law_306 : decode code 306 = .ok (.ireturn, 1) := by decide +kernel
theorem d_LW_law_307 : decode code 307 = .ok (.aload_n 1, 1) := by decide +kernel
theorem d_LW_law_308 : decode code 308 = .ok (.aload_n 0, 1) := by decide +kernel
theorem d_LW_law_309 : decode code 309 = .ok (.iload_n 3, 1) := by decide +kernel
theorem d_LW_law_310 : decode code 310 = .ok (.iconst 1, 1) := by decide +kernel
theorem d_LW_law_311 : decode code 311 = .ok (.iadd, 1) := by decide +kernel
theorem d_LW_law_312 : decode code 312 = .ok (.iaload, 1) := by decide +kernel
theorem d_LW_law_313 : decode code 313 = .ok (.aload_n 0, 1) := by decide +kernel
theorem d_LW_law_314 : decode code 314 = .ok (.iload_n 3, 1) := by decide +kernel
theorem d_LW_law_315 : decode code 315 = .ok (.iconst 2, 1) := by decide +kernel
theorem d_LW_law_316 : decode code 316 = .ok (.iadd, 1) := by decide +kernel
theorem d_LW_law_317 : decode code 317 = .ok (.iaload, 1) := by decide +kernel
theorem d_LW_law_318 : decode code 318 = .ok (.invokevirtual 43, 3) := by decide +kernel
theorem d_LW_law_321 : decode code 321 = .ok (.aload_n 2, 1) := by decide +kernel
theorem d_LW_law_322 : decode code 322 = .ok (.aload_n 0, 1) := by decide +kernel
theorem d_LW_law_323 : decode code 323 = .ok (.iload_n 3, 1) := by decide +kernel
theorem d_LW_law_324 : decode code 324 = .ok (.iconst 1, 1) := by decide +kernel
theorem d_LW_law_325 : decode code 325 = .ok (.iadd, 1) := by decide +kernel
theorem d_LW_law_326 : decode code 326 = .ok (.iaload, 1) := by decide +kernel
theorem d_LW_law_327 : decode code 327 = .ok (.aload_n 0, 1) := by decide +kernel
theorem d_LW_law_328 : decode code 328 = .ok (.iload_n 3, 1) := by decide +kernel
theorem d_LW_law_329 : decode code 329 = .ok (.iconst 2, 1) := by decide +kernel
theorem d_LW_law_330 : decode code 330 = .ok (.iadd, 1) := by decide +kernel
theorem d_LW_law_331 : decode code 331 = .ok (.iaload, 1) := by decide +kernel
theorem d_LW_law_332 : decode code 332 = .ok (.invokevirtual 46, 3) := by decide +kernel
theorem d_LW_law_335 : decode code 335 = .ok (.if_icmp .eq 335, 3) := by decide +kernel
theorem d_LW_law_338 : decode code 338 = .ok (.iconst 0, 1) := by decide +kernel
theorem d_LW_law_339 : decode code 339 = .ok (.ireturn, 1) := by decide +kernel
theorem d_LW_law_340 : decode code 340 = .ok (.aload_n 1, 1) := by decide +kernel
theorem d_LW_law_341 : decode code 341 = .ok (.aload_n 0, 1) := by decide +kernel
theorem d_LW_law_342 : decode code 342 = .ok (.iload_n 3, 1) := by decide +kernel
theorem d_LW_law_343 : decode code 343 = .ok (.iconst 1, 1) := by decide +kernel
theorem d_LW_law_344 : decode code 344 = .ok (.iadd, 1) := by decide +kernel
theorem d_LW_law_345 : decode code 345 = .ok (.iaload, 1) := by decide +kernel
theorem d_LW_law_346 : decode code 346 = .ok (.invokevirtual 47, 3) := by decide +kernel
theorem d_LW_law_349 : decode code 349 = .ok (.aload_n 2, 1) := by decide +kernel
theorem d_LW_law_350 : decode code 350 = .ok (.aload_n 0, 1) := by decide +kernel
theorem d_LW_law_351 : decode code 351 = .ok (.iload_n 3, 1) := by decide +kernel
theorem d_LW_law_352 : decode code 352 = .ok (.iconst 1, 1) := by decide +kernel
theorem d_LW_law_353 : decode code 353 = .ok (.iadd, 1) := by decide +kernel
theorem d_LW_law_354 : decode code 354 = .ok (.iaload, 1) := by decide +kernel
theorem d_LW_law_355 : decode code 355 = .ok (.invokevirtual 50, 3) := by decide +kernel
theorem d_LW_law_358 : decode code 358 = .ok (.if_icmp .eq 312, 3) := by decide +kernel
theorem d_LW_law_361 : decode code 361 = .ok (.iconst 0, 1) := by decide +kernel
theorem d_LW_law_362 : decode code 362 = .ok (.ireturn, 1) := by decide +kernel
theorem d_LW_law_363 : decode code 363 = .ok (.aload_n 1, 1) := by decide +kernel
theorem d_LW_law_364 : decode code 364 = .ok (.aload_n 0, 1) := by decide +kernel
theorem d_LW_law_365 : decode code 365 = .ok (.iload_n 3, 1) := by decide +kernel
theorem d_LW_law_366 : decode code 366 = .ok (.iconst 1, 1) := by decide +kernel
theorem d_LW_law_367 : decode code 367 = .ok (.iadd, 1) := by decide +kernel
theorem d_LW_law_368 : decode code 368 = .ok (.iaload, 1) := by decide +kernel
theorem d_LW_law_369 : decode code 369 = .ok (.invokevirtual 51, 3) := by decide +kernel
theorem d_LW_law_372 : decode code 372 = .ok (.aload_n 2, 1) := by decide +kernel
theorem d_LW_law_373 : decode code 373 = .ok (.aload_n 0, 1) := by decide +kernel
theorem d_LW_law_374 : decode code 374 = .ok (.iload_n 3, 1) := by decide +kernel
theorem d_LW_law_375 : decode code 375 = .ok (.iconst 1, 1) := by decide +kernel
theorem d_LW_law_376 : decode code 376 = .ok (.iadd, 1) := by decide +kernel
theorem d_LW_law_377 : decode code 377 = .ok (.iaload, 1) := by decide +kernel
theorem d_LW_law_378 : decode code 378 = .ok (.invokevirtual 54, 3) := by decide +kernel
theorem d_LW_law_381 : decode code 381 = .ok (.if_icmp .eq 289, 3) := by decide +kernel
theorem d_LW_law_384 : decode code 384 = .ok (.iconst 0, 1) := by decide +kernel
theorem d_LW_law_385 : decode code 385 = .ok (.ireturn, 1) := by decide +kernel
theorem d_LW_law_386 : decode code 386 = .ok (.aload_n 1, 1) := by decide +kernel
theorem d_LW_law_387 : decode code 387 = .ok (.aload_n 0, 1) := by decide +kernel
theorem d_LW_law_388 : decode code 388 = .ok (.iload_n 3, 1) := by decide +kernel
theorem d_LW_law_389 : decode code 389 = .ok (.iconst 1, 1) := by decide +kernel
theorem d_LW_law_390 : decode code 390 = .ok (.iadd, 1) := by decide +kernel
theorem d_LW_law_391 : decode code 391 = .ok (.iaload, 1) := by decide +kernel
theorem d_LW_law_392 : decode code 392 = .ok (.aload_n 0, 1) := by decide +kernel
theorem d_LW_law_393 : decode code 393 = .ok (.iload_n 3, 1) := by decide +kernel
theorem d_LW_law_394 : decode code 394 = .ok (.iconst 2, 1) := by decide +kernel
theorem d_LW_law_395 : decode code 395 = .ok (.iadd, 1) := by decide +kernel
theorem d_LW_law_396 : decode code 396 = .ok (.iaload, 1) := by decide +kernel
theorem d_LW_law_397 : decode code 397 = .ok (.invokevirtual 55, 3) := by decide +kernel
theorem d_LW_law_400 : decode code 400 = .ok (.aload_n 2, 1) := by decide +kernel
theorem d_LW_law_401 : decode code 401 = .ok (.aload_n 0, 1) := by decide +kernel
theorem d_LW_law_402 : decode code 402 = .ok (.iload_n 3, 1) := by decide +kernel
theorem d_LW_law_403 : decode code 403 = .ok (.iconst 1, 1) := by decide +kernel
theorem d_LW_law_404 : decode code 404 = .ok (.iadd, 1) := by decide +kernel
theorem d_LW_law_405 : decode code 405 = .ok (.iaload, 1) := by decide +kernel
theorem d_LW_law_406 : decode code 406 = .ok (.aload_n 0, 1) := by decide +kernel
theorem d_LW_law_407 : decode code 407 = .ok (.iload_n 3, 1) := by decide +kernel
theorem d_LW_law_408 : decode code 408 = .ok (.iconst 2, 1) := by decide +kernel
theorem d_LW_law_409 : decode code 409 = .ok (.iadd, 1) := by decide +kernel
theorem d_LW_law_410 : decode code 410 = .ok (.iaload, 1) := by decide +kernel
theorem d_LW_law_411 : decode code 411 = .ok (.invokevirtual 58, 3) := by decide +kernel
theorem d_LW_law_414 : decode code 414 = .ok (.if_icmp .eq 256, 3) := by decide +kernel
theorem d_LW_law_417 : decode code 417 = .ok (.iconst 0, 1) := by decide +kernel
theorem d_LW_law_418 : decode code 418 = .ok (.ireturn, 1) := by decide +kernel
theorem d_LW_law_419 : decode code 419 = .ok (.aload_n 1, 1) := by decide +kernel
theorem d_LW_law_420 : decode code 420 = .ok (.aload_n 0, 1) := by decide +kernel
theorem d_LW_law_421 : decode code 421 = .ok (.iload_n 3, 1) := by decide +kernel
theorem d_LW_law_422 : decode code 422 = .ok (.iconst 1, 1) := by decide +kernel
theorem d_LW_law_423 : decode code 423 = .ok (.iadd, 1) := by decide +kernel
theorem d_LW_law_424 : decode code 424 = .ok (.iaload, 1) := by decide +kernel
theorem d_LW_law_425 : decode code 425 = .ok (.aload_n 0, 1) := by decide +kernel
theorem d_LW_law_426 : decode code 426 = .ok (.iload_n 3, 1) := by decide +kernel
theorem d_LW_law_427 : decode code 427 = .ok (.iconst 2, 1) := by decide +kernel
theorem d_LW_law_428 : decode code 428 = .ok (.iadd, 1) := by decide +kernel
theorem d_LW_law_429 : decode code 429 = .ok (.iaload, 1) := by decide +kernel
theorem d_LW_law_430 : decode code 430 = .ok (.aload_n 0, 1) := by decide +kernel
theorem d_LW_law_431 : decode code 431 = .ok (.iload_n 3, 1) := by decide +kernel
theorem d_LW_law_432 : decode code 432 = .ok (.iconst 3, 1) := by decide +kernel
theorem d_LW_law_433 : decode code 433 = .ok (.iadd, 1) := by decide +kernel
theorem d_LW_law_434 : decode code 434 = .ok (.iaload, 1) := by decide +kernel
theorem d_LW_law_435 : decode code 435 = .ok (.invokevirtual 59, 3) := by decide +kernel
theorem d_LW_law_438 : decode code 438 = .ok (.aload_n 2, 1) := by decide +kernel
theorem d_LW_law_439 : decode code 439 = .ok (.aload_n 0, 1) := by decide +kernel
theorem d_LW_law_440 : decode code 440 = .ok (.iload_n 3, 1) := by decide +kernel
theorem d_LW_law_441 : decode code 441 = .ok (.iconst 1, 1) := by decide +kernel
theorem d_LW_law_442 : decode code 442 = .ok (.iadd, 1) := by decide +kernel
theorem d_LW_law_443 : decode code 443 = .ok (.iaload, 1) := by decide +kernel
theorem d_LW_law_444 : decode code 444 = .ok (.aload_n 0, 1) := by decide +kernel
theorem d_LW_law_445 : decode code 445 = .ok (.iload_n 3, 1) := by decide +kernel
theorem d_LW_law_446 : decode code 446 = .ok (.iconst 2, 1) := by decide +kernel
theorem d_LW_law_447 : decode code 447 = .ok (.iadd, 1) := by decide +kernel
theorem d_LW_law_448 : decode code 448 = .ok (.iaload, 1) := by decide +kernel
theorem d_LW_law_449 : decode code 449 = .ok (.aload_n 0, 1) := by decide +kernel
theorem d_LW_law_450 : decode code 450 = .ok (.iload_n 3, 1) := by decide +kernel
theorem d_LW_law_451 : decode code 451 = .ok (.iconst 3, 1) := by decide +kernel
theorem d_LW_law_452 : decode code 452 = .ok (.iadd, 1) := by decide +kernel
theorem d_LW_law_453 : decode code 453 = .ok (.iaload, 1) := by decide +kernel
theorem d_LW_law_454 : decode code 454 = .ok (.invokevirtual 63, 3) := by decide +kernel
theorem d_LW_law_457 : decode code 457 = .ok (.if_icmp .eq 213, 3) := by decide +kernel
theorem d_LW_law_460 : decode code 460 = .ok (.iconst 0, 1) := by decide +kernel
theorem d_LW_law_461 : decode code 461 = .ok (.ireturn, 1) := by decide +kernel
theorem d_LW_law_462 : decode code 462 = .ok (.aload_n 1, 1) := by decide +kernel
theorem d_LW_law_463 : decode code 463 = .ok (.aload_n 0, 1) := by decide +kernel
theorem d_LW_law_464 : decode code 464 = .ok (.iload_n 3, 1) := by decide +kernel
theorem d_LW_law_465 : decode code 465 = .ok (.iconst 1, 1) := by decide +kernel
theorem d_LW_law_466 : decode code 466 = .ok (.iadd, 1) := by decide +kernel
theorem d_LW_law_467 : decode code 467 = .ok (.iaload, 1) := by decide +kernel
theorem d_LW_law_468 : decode code 468 = .ok (.invokevirtual 64, 3) := by decide +kernel
theorem d_LW_law_471 : decode code 471 = .ok (.aload_n 2, 1) := by decide +kernel
theorem d_LW_law_472 : decode code 472 = .ok (.aload_n 0, 1) := by decide +kernel
theorem d_LW_law_473 : decode code 473 = .ok (.iload_n 3, 1) := by decide +kernel
theorem d_LW_law_474 : decode code 474 = .ok (.iconst 1, 1) := by decide +kernel
theorem d_LW_law_475 : decode code 475 = .ok (.iadd, 1) := by decide +kernel
theorem d_LW_law_476 : decode code 476 = .ok (.iaload, 1) := by decide +kernel
theorem d_LW_law_477 : decode code 477 = .ok (.invokevirtual 67, 3) := by decide +kernel
theorem d_LW_law_480 : decode code 480 = .ok (.if_icmp .eq 190, 3) := by decide +kernel
theorem d_LW_law_483 : decode code 483 = .ok (.iconst 0, 1) := by decide +kernel
theorem d_LW_law_484 : decode code 484 = .ok (.ireturn, 1) := by decide +kernel
theorem d_LW_law_485 : decode code 485 = .ok (.aload_n 1, 1) := by decide +kernel
theorem d_LW_law_486 : decode code 486 = .ok (.aload_n 0, 1) := by decide +kernel
theorem d_LW_law_487 : decode code 487 = .ok (.iload_n 3, 1) := by decide +kernel
theorem d_LW_law_488 : decode code 488 = .ok (.iconst 1, 1) := by decide +kernel
theorem d_LW_law_489 : decode code 489 = .ok (.iadd, 1) := by decide +kernel
theorem d_LW_law_490 : decode code 490 = .ok (.iaload, 1) := by decide +kernel
theorem d_LW_law_491 : decode code 491 = .ok (.invokevirtual 68, 3) := by decide +kernel
theorem d_LW_law_494 : decode code 494 = .ok (.aload_n 2, 1) := by decide +kernel
theorem d_LW_law_495 : decode code 495 = .ok (.aload_n 0, 1) := by decide +kernel
theorem d_LW_law_496 : decode code 496 = .ok (.iload_n 3, 1) := by decide +kernel
theorem d_LW_law_497 : decode code 497 = .ok (.iconst 1, 1) := by decide +kernel
theorem d_LW_law_498 : decode code 498 = .ok (.iadd, 1) := by decide +kernel
theorem d_LW_law_499 : decode code 499 = .ok (.iaload, 1) := by decide +kernel
theorem d_LW_law_500 : decode code 500 = .ok (.invokevirtual 71, 3) := by decide +kernel
theorem d_LW_law_503 : decode code 503 = .ok (.if_icmp .eq 167, 3) := by decide +kernel
theorem d_LW_law_506 : decode code 506 = .ok (.iconst 0, 1) := by decide +kernel
theorem d_LW_law_507 : decode code 507 = .ok (.ireturn, 1) := by decide +kernel
theorem d_LW_law_508 : decode code 508 = .ok (.aload_n 1, 1) := by decide +kernel
theorem d_LW_law_509 : decode code 509 = .ok (.aload_n 0, 1) := by decide +kernel
theorem d_LW_law_510 : decode code 510 = .ok (.iload_n 3, 1) := by decide +kernel
theorem d_LW_law_511 : decode code 511 = .ok (.iconst 1, 1) := by decide +kernel
theorem d_LW_law_512 : decode code 512 = .ok (.iadd, 1) := by decide +kernel
theorem d_LW_law_513 : decode code 513 = .ok (.iaload, 1) := by decide +kernel
theorem d_LW_law_514 : decode code 514 = .ok (.invokevirtual 72, 3) := by decide +kernel
theorem d_LW_law_517 : decode code 517 = .ok (.aload_n 2, 1) := by decide +kernel
theorem d_LW_law_518 : decode code 518 = .ok (.aload_n 0, 1) := by decide +kernel
theorem d_LW_law_519 : decode code 519 = .ok (.iload_n 3, 1) := by decide +kernel
theorem d_LW_law_520 : decode code 520 = .ok (.iconst 1, 1) := by decide +kernel
theorem d_LW_law_521 : decode code 521 = .ok (.iadd, 1) := by decide +kernel
theorem d_LW_law_522 : decode code 522 = .ok (.iaload, 1) := by decide +kernel
theorem d_LW_law_523 : decode code 523 = .ok (.invokevirtual 75, 3) := by decide +kernel
theorem d_LW_law_526 : decode code 526 = .ok (.if_icmp .eq 144, 3) := by decide +kernel
theorem d_LW_law_529 : decode code 529 = .ok (.iconst 0, 1) := by decide +kernel
theorem d_LW_law_530 : decode code 530 = .ok (.ireturn, 1) := by decide +kernel
theorem d_LW_law_531 : decode code 531 = .ok (.aload_n 1, 1) := by decide +kernel
theorem d_LW_law_532 : decode code 532 = .ok (.invokevirtual 76, 3) := by decide +kernel
theorem d_LW_law_535 : decode code 535 = .ok (.aload_n 2, 1) := by decide +kernel
theorem d_LW_law_536 : decode code 536 = .ok (.invokevirtual 80, 3) := by decide +kernel
theorem d_LW_law_539 : decode code 539 = .ok (.if_icmp .eq 131, 3) := by decide +kernel
theorem d_LW_law_542 : decode code 542 = .ok (.iconst 0, 1) := by decide +kernel
theorem d_LW_law_543 : decode code 543 = .ok (.ireturn, 1) := by decide +kernel
theorem d_LW_law_544 : decode code 544 = .ok (.aload_n 1, 1) := by decide +kernel
theorem d_LW_law_545 : decode code 545 = .ok (.aload_n 0, 1) := by decide +kernel
theorem d_LW_law_546 : decode code 546 = .ok (.iload_n 3, 1) := by decide +kernel
theorem d_LW_law_547 : decode code 547 = .ok (.iconst 1, 1) := by decide +kernel
theorem d_LW_law_548 : decode code 548 = .ok (.iadd, 1) := by decide +kernel
theorem d_LW_law_549 : decode code 549 = .ok (.iaload, 1) := by decide +kernel
theorem d_LW_law_550 : decode code 550 = .ok (.invokevirtual 81, 3) := by decide +kernel
theorem d_LW_law_553 : decode code 553 = .ok (.aload_n 2, 1) := by decide +kernel
theorem d_LW_law_554 : decode code 554 = .ok (.aload_n 0, 1) := by decide +kernel
theorem d_LW_law_555 : decode code 555 = .ok (.iload_n 3, 1) := by decide +kernel
theorem d_LW_law_556 : decode code 556 = .ok (.iconst 1, 1) := by decide +kernel
theorem d_LW_law_557 : decode code 557 = .ok (.iadd, 1) := by decide +kernel
theorem d_LW_law_558 : decode code 558 = .ok (.iaload, 1) := by decide +kernel
theorem d_LW_law_559 : decode code 559 = .ok (.invokevirtual 84, 3) := by decide +kernel
theorem d_LW_law_562 : decode code 562 = .ok (.lcmp, 1) := by decide +kernel
theorem d_LW_law_563 : decode code 563 = .ok (.ifCond .eq 107, 3) := by decide +kernel
theorem d_LW_law_566 : decode code 566 = .ok (.iconst 0, 1) := by decide +kernel
theorem d_LW_law_567 : decode code 567 = .ok (.ireturn, 1) := by decide +kernel
theorem d_LW_law_568 : decode code 568 = .ok (.aload_n 1, 1) := by decide +kernel
theorem d_LW_law_569 : decode code 569 = .ok (.aload_n 0, 1) := by decide +kernel
theorem d_LW_law_570 : decode code 570 = .ok (.iload_n 3, 1) := by decide +kernel
theorem d_LW_law_571 : decode code 571 = .ok (.iconst 1, 1) := by decide +kernel
theorem d_LW_law_572 : decode code 572 = .ok (.iadd, 1) := by decide +kernel
theorem d_LW_law_573 : decode code 573 = .ok (.iaload, 1) := by decide +kernel
theorem d_LW_law_574 : decode code 574 = .ok (.aload_n 0, 1) := by decide +kernel
theorem d_LW_law_575 : decode code 575 = .ok (.iload_n 3, 1) := by decide +kernel
theorem d_LW_law_576 : decode code 576 = .ok (.iconst 2, 1) := by decide +kernel
theorem d_LW_law_577 : decode code 577 = .ok (.iadd, 1) := by decide +kernel
theorem d_LW_law_578 : decode code 578 = .ok (.iaload, 1) := by decide +kernel
theorem d_LW_law_579 : decode code 579 = .ok (.invokevirtual 85, 3) := by decide +kernel
theorem d_LW_law_582 : decode code 582 = .ok (.aload_n 2, 1) := by decide +kernel
theorem d_LW_law_583 : decode code 583 = .ok (.aload_n 0, 1) := by decide +kernel
theorem d_LW_law_584 : decode code 584 = .ok (.iload_n 3, 1) := by decide +kernel
theorem d_LW_law_585 : decode code 585 = .ok (.iconst 1, 1) := by decide +kernel
theorem d_LW_law_586 : decode code 586 = .ok (.iadd, 1) := by decide +kernel
theorem d_LW_law_587 : decode code 587 = .ok (.iaload, 1) := by decide +kernel
theorem d_LW_law_588 : decode code 588 = .ok (.aload_n 0, 1) := by decide +kernel
theorem d_LW_law_589 : decode code 589 = .ok (.iload_n 3, 1) := by decide +kernel
theorem d_LW_law_590 : decode code 590 = .ok (.iconst 2, 1) := by decide +kernel
theorem d_LW_law_591 : decode code 591 = .ok (.iadd, 1) := by decide +kernel
theorem d_LW_law_592 : decode code 592 = .ok (.iaload, 1) := by decide +kernel
theorem d_LW_law_593 : decode code 593 = .ok (.invokevirtual 88, 3) := by decide +kernel
theorem d_LW_law_596 : decode code 596 = .ok (.if_icmp .eq 74, 3) := by decide +kernel
theorem d_LW_law_599 : decode code 599 = .ok (.iconst 0, 1) := by decide +kernel
theorem d_LW_law_600 : decode code 600 = .ok (.ireturn, 1) := by decide +kernel
theorem d_LW_law_601 : decode code 601 = .ok (.aload_n 1, 1) := by decide +kernel
theorem d_LW_law_602 : decode code 602 = .ok (.aload_n 0, 1) := by decide +kernel
theorem d_LW_law_603 : decode code 603 = .ok (.iload_n 3, 1) := by decide +kernel
theorem d_LW_law_604 : decode code 604 = .ok (.iconst 1, 1) := by decide +kernel
theorem d_LW_law_605 : decode code 605 = .ok (.iadd, 1) := by decide +kernel
theorem d_LW_law_606 : decode code 606 = .ok (.iaload, 1) := by decide +kernel
theorem d_LW_law_607 : decode code 607 = .ok (.invokevirtual 89, 3) := by decide +kernel
theorem d_LW_law_610 : decode code 610 = .ok (.aload_n 2, 1) := by decide +kernel
theorem d_LW_law_611 : decode code 611 = .ok (.aload_n 0, 1) := by decide +kernel
theorem d_LW_law_612 : decode code 612 = .ok (.iload_n 3, 1) := by decide +kernel
theorem d_LW_law_613 : decode code 613 = .ok (.iconst 1, 1) := by decide +kernel
theorem d_LW_law_614 : decode code 614 = .ok (.iadd, 1) := by decide +kernel
theorem d_LW_law_615 : decode code 615 = .ok (.iaload, 1) := by decide +kernel
theorem d_LW_law_616 : decode code 616 = .ok (.invokevirtual 92, 3) := by decide +kernel
theorem d_LW_law_619 : decode code 619 = .ok (.if_icmp .eq 51, 3) := by decide +kernel
theorem d_LW_law_622 : decode code 622 = .ok (.iconst 0, 1) := by decide +kernel
theorem d_LW_law_623 : decode code 623 = .ok (.ireturn, 1) := by decide +kernel
theorem d_LW_law_624 : decode code 624 = .ok (.aload_n 1, 1) := by decide +kernel
theorem d_LW_law_625 : decode code 625 = .ok (.aload_n 0, 1) := by decide +kernel
theorem d_LW_law_626 : decode code 626 = .ok (.iload_n 3, 1) := by decide +kernel
theorem d_LW_law_627 : decode code 627 = .ok (.iconst 1, 1) := by decide +kernel
theorem d_LW_law_628 : decode code 628 = .ok (.iadd, 1) := by decide +kernel
theorem d_LW_law_629 : decode code 629 = .ok (.iaload, 1) := by decide +kernel
theorem d_LW_law_630 : decode code 630 = .ok (.invokevirtual 93, 3) := by decide +kernel
theorem d_LW_law_633 : decode code 633 = .ok (.aload_n 2, 1) := by decide +kernel
theorem d_LW_law_634 : decode code 634 = .ok (.aload_n 0, 1) := by decide +kernel
theorem d_LW_law_635 : decode code 635 = .ok (.iload_n 3, 1) := by decide +kernel
theorem d_LW_law_636 : decode code 636 = .ok (.iconst 1, 1) := by decide +kernel
theorem d_LW_law_637 : decode code 637 = .ok (.iadd, 1) := by decide +kernel
theorem d_LW_law_638 : decode code 638 = .ok (.iaload, 1) := by decide +kernel
theorem d_LW_law_639 : decode code 639 = .ok (.invokevirtual 96, 3) := by decide +kernel
theorem d_LW_law_642 : decode code 642 = .ok (.if_icmp .eq 28, 3) := by decide +kernel
theorem d_LW_law_645 : decode code 645 = .ok (.iconst 0, 1) := by decide +kernel
theorem d_LW_law_646 : decode code 646 = .ok (.ireturn, 1) := by decide +kernel
theorem d_LW_law_647 : decode code 647 = .ok (.aload_n 1, 1) := by decide +kernel
theorem d_LW_law_648 : decode code 648 = .ok (.aload_n 0, 1) := by decide +kernel
theorem d_LW_law_649 : decode code 649 = .ok (.iload_n 3, 1) := by decide +kernel
theorem d_LW_law_650 : decode code 650 = .ok (.iconst 1, 1) := by decide +kernel
theorem d_LW_law_651 : decode code 651 = .ok (.iadd, 1) := by decide +kernel
theorem d_LW_law_652 : decode code 652 = .ok (.iaload, 1) := by decide +kernel
theorem d_LW_law_653 : decode code 653 = .ok (.invokevirtual 97, 3) := by decide +kernel
theorem d_LW_law_656 : decode code 656 = .ok (.aload_n 2, 1) := by decide +kernel
theorem d_LW_law_657 : decode code 657 = .ok (.aload_n 0, 1) := by decide +kernel
theorem d_LW_law_658 : decode code 658 = .ok (.iload_n 3, 1) := by decide +kernel
theorem d_LW_law_659 : decode code 659 = .ok (.iconst 1, 1) := by decide +kernel
theorem d_LW_law_660 : decode code 660 = .ok (.iadd, 1) := by decide +kernel
theorem d_LW_law_661 : decode code 661 = .ok (.iaload, 1) := by decide +kernel
theorem d_LW_law_662 : decode code 662 = .ok (.invokevirtual 100, 3) := by decide +kernel
theorem d_LW_law_665 : decode code 665 = .ok (.if_icmp .eq 5, 3) := by decide +kernel
theorem d_LW_law_668 : decode code 668 = .ok (.iconst 0, 1) := by decide +kernel
theorem d_LW_law_669 : decode code 669 = .ok (.ireturn, 1) := by decide +kernel
theorem d_LW_law_670 : decode code 670 = .ok (.iinc 3 4, 3) := by decide +kernel
theorem d_LW_law_673 : decode code 673 = .ok (.goto (-655), 3) := by decide +kernel
theorem d_LW_law_676 : decode code 676 = .ok (.iconst 1, 1) := by decide +kernel
theorem d_LW_law_677 : decode code 677 = .ok (.ireturn, 1) := by decide +kernel
