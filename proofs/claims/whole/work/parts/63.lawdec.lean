theorem d_LAW_law_225 : decode code 225 = .ok (.iconst 0, 1) := by decide +kernel
theorem d_LAW_law_226 : decode code 226 = .ok (.ireturn, 1) := by decide +kernel
theorem d_LAW_law_227 : decode code 227 = .ok (.aload_n 1, 1) := by decide +kernel
theorem d_LAW_law_228 : decode code 228 = .ok (.aload_n 0, 1) := by decide +kernel
theorem d_LAW_law_229 : decode code 229 = .ok (.iload_n 3, 1) := by decide +kernel
theorem d_LAW_law_230 : decode code 230 = .ok (.iconst 1, 1) := by decide +kernel
theorem d_LAW_law_231 : decode code 231 = .ok (.iadd, 1) := by decide +kernel
theorem d_LAW_law_232 : decode code 232 = .ok (.iaload, 1) := by decide +kernel
theorem d_LAW_law_233 : decode code 233 = .ok (.invokevirtual 28, 3) := by decide +kernel
theorem d_LAW_law_236 : decode code 236 = .ok (.aload_n 2, 1) := by decide +kernel
theorem d_LAW_law_237 : decode code 237 = .ok (.aload_n 0, 1) := by decide +kernel
theorem d_LAW_law_238 : decode code 238 = .ok (.iload_n 3, 1) := by decide +kernel
theorem d_LAW_law_239 : decode code 239 = .ok (.iconst 1, 1) := by decide +kernel
theorem d_LAW_law_240 : decode code 240 = .ok (.iadd, 1) := by decide +kernel
theorem d_LAW_law_241 : decode code 241 = .ok (.iaload, 1) := by decide +kernel
theorem d_LAW_law_242 : decode code 242 = .ok (.invokevirtual 32, 3) := by decide +kernel
theorem d_LAW_law_245 : decode code 245 = .ok (.if_icmp .eq (372), 3) := by decide +kernel
theorem d_LAW_law_248 : decode code 248 = .ok (.iconst 0, 1) := by decide +kernel
theorem d_LAW_law_249 : decode code 249 = .ok (.ireturn, 1) := by decide +kernel
theorem d_LAW_law_250 : decode code 250 = .ok (.aload_n 1, 1) := by decide +kernel
theorem d_LAW_law_251 : decode code 251 = .ok (.aload_n 0, 1) := by decide +kernel
theorem d_LAW_law_252 : decode code 252 = .ok (.iload_n 3, 1) := by decide +kernel
theorem d_LAW_law_253 : decode code 253 = .ok (.iconst 1, 1) := by decide +kernel
theorem d_LAW_law_254 : decode code 254 = .ok (.iadd, 1) := by decide +kernel
theorem d_LAW_law_255 : decode code 255 = .ok (.iaload, 1) := by decide +kernel
theorem d_LAW_law_256 : decode code 256 = .ok (.aload_n 0, 1) := by decide +kernel
theorem d_LAW_law_257 : decode code 257 = .ok (.iload_n 3, 1) := by decide +kernel
theorem d_LAW_law_258 : decode code 258 = .ok (.iconst 2, 1) := by decide +kernel
theorem d_LAW_law_259 : decode code 259 = .ok (.iadd, 1) := by decide +kernel
theorem d_LAW_law_260 : decode code 260 = .ok (.iaload, 1) := by decide +kernel
theorem d_LAW_law_261 : decode code 261 = .ok (.ifCond .eq (7), 3) := by decide +kernel
theorem d_LAW_law_264 : decode code 264 = .ok (.iconst 1, 1) := by decide +kernel
theorem d_LAW_law_265 : decode code 265 = .ok (.goto (4), 3) := by decide +kernel
theorem d_LAW_law_268 : decode code 268 = .ok (.iconst 0, 1) := by decide +kernel
theorem d_LAW_law_269 : decode code 269 = .ok (.invokevirtual 33, 3) := by decide +kernel
theorem d_LAW_law_272 : decode code 272 = .ok (.aload_n 2, 1) := by decide +kernel
theorem d_LAW_law_273 : decode code 273 = .ok (.aload_n 0, 1) := by decide +kernel
theorem d_LAW_law_274 : decode code 274 = .ok (.iload_n 3, 1) := by decide +kernel
theorem d_LAW_law_275 : decode code 275 = .ok (.iconst 1, 1) := by decide +kernel
theorem d_LAW_law_276 : decode code 276 = .ok (.iadd, 1) := by decide +kernel
theorem d_LAW_law_277 : decode code 277 = .ok (.iaload, 1) := by decide +kernel
theorem d_LAW_law_278 : decode code 278 = .ok (.aload_n 0, 1) := by decide +kernel
theorem d_LAW_law_279 : decode code 279 = .ok (.iload_n 3, 1) := by decide +kernel
theorem d_LAW_law_280 : decode code 280 = .ok (.iconst 2, 1) := by decide +kernel
theorem d_LAW_law_281 : decode code 281 = .ok (.iadd, 1) := by decide +kernel
theorem d_LAW_law_282 : decode code 282 = .ok (.iaload, 1) := by decide +kernel
theorem d_LAW_law_283 : decode code 283 = .ok (.ifCond .eq (7), 3) := by decide +kernel
theorem d_LAW_law_286 : decode code 286 = .ok (.iconst 1, 1) := by decide +kernel
theorem d_LAW_law_287 : decode code 287 = .ok (.goto (4), 3) := by decide +kernel
theorem d_LAW_law_290 : decode code 290 = .ok (.iconst 0, 1) := by decide +kernel
theorem d_LAW_law_291 : decode code 291 = .ok (.invokevirtual 37, 3) := by decide +kernel
theorem d_LAW_law_294 : decode code 294 = .ok (.if_icmp .eq (323), 3) := by decide +kernel
theorem d_LAW_law_297 : decode code 297 = .ok (.iconst 0, 1) := by decide +kernel
theorem d_LAW_law_298 : decode code 298 = .ok (.ireturn, 1) := by decide +kernel
theorem d_LAW_law_299 : decode code 299 = .ok (.aload_n 1, 1) := by decide +kernel
theorem d_LAW_law_300 : decode code 300 = .ok (.aload_n 0, 1) := by decide +kernel
theorem d_LAW_law_301 : decode code 301 = .ok (.iload_n 3, 1) := by decide +kernel
theorem d_LAW_law_302 : decode code 302 = .ok (.iconst 1, 1) := by decide +kernel
theorem d_LAW_law_303 : decode code 303 = .ok (.iadd, 1) := by decide +kernel
theorem d_LAW_law_304 : decode code 304 = .ok (.iaload, 1) := by decide +kernel
theorem d_LAW_law_305 : decode code 305 = .ok (.aload_n 0, 1) := by decide +kernel
theorem d_LAW_law_306 : decode code 306 = .ok (.iload_n 3, 1) := by decide +kernel
theorem d_LAW_law_307 : decode code 307 = .ok (.iconst 2, 1) := by decide +kernel
theorem d_LAW_law_308 : decode code 308 = .ok (.iadd, 1) := by decide +kernel
theorem d_LAW_law_309 : decode code 309 = .ok (.iaload, 1) := by decide +kernel
theorem d_LAW_law_310 : decode code 310 = .ok (.aload_n 0, 1) := by decide +kernel
theorem d_LAW_law_311 : decode code 311 = .ok (.iload_n 3, 1) := by decide +kernel
theorem d_LAW_law_312 : decode code 312 = .ok (.iconst 3, 1) := by decide +kernel
theorem d_LAW_law_313 : decode code 313 = .ok (.iadd, 1) := by decide +kernel
theorem d_LAW_law_314 : decode code 314 = .ok (.iaload, 1) := by decide +kernel
theorem d_LAW_law_315 : decode code 315 = .ok (.invokevirtual 38, 3) := by decide +kernel
theorem d_LAW_law_318 : decode code 318 = .ok (.aload_n 2, 1) := by decide +kernel
theorem d_LAW_law_319 : decode code 319 = .ok (.aload_n 0, 1) := by decide +kernel
theorem d_LAW_law_320 : decode code 320 = .ok (.iload_n 3, 1) := by decide +kernel
theorem d_LAW_law_321 : decode code 321 = .ok (.iconst 1, 1) := by decide +kernel
theorem d_LAW_law_322 : decode code 322 = .ok (.iadd, 1) := by decide +kernel
theorem d_LAW_law_323 : decode code 323 = .ok (.iaload, 1) := by decide +kernel
theorem d_LAW_law_324 : decode code 324 = .ok (.aload_n 0, 1) := by decide +kernel
theorem d_LAW_law_325 : decode code 325 = .ok (.iload_n 3, 1) := by decide +kernel
theorem d_LAW_law_326 : decode code 326 = .ok (.iconst 2, 1) := by decide +kernel
theorem d_LAW_law_327 : decode code 327 = .ok (.iadd, 1) := by decide +kernel
theorem d_LAW_law_328 : decode code 328 = .ok (.iaload, 1) := by decide +kernel
theorem d_LAW_law_329 : decode code 329 = .ok (.aload_n 0, 1) := by decide +kernel
theorem d_LAW_law_330 : decode code 330 = .ok (.iload_n 3, 1) := by decide +kernel
theorem d_LAW_law_331 : decode code 331 = .ok (.iconst 3, 1) := by decide +kernel
theorem d_LAW_law_332 : decode code 332 = .ok (.iadd, 1) := by decide +kernel
theorem d_LAW_law_333 : decode code 333 = .ok (.iaload, 1) := by decide +kernel
theorem d_LAW_law_334 : decode code 334 = .ok (.invokevirtual 42, 3) := by decide +kernel
theorem d_LAW_law_337 : decode code 337 = .ok (.if_icmp .eq (280), 3) := by decide +kernel
theorem d_LAW_law_340 : decode code 340 = .ok (.iconst 0, 1) := by decide +kernel
theorem d_LAW_law_341 : decode code 341 = .ok (.ireturn, 1) := by decide +kernel
theorem d_LAW_law_342 : decode code 342 = .ok (.aload_n 1, 1) := by decide +kernel
theorem d_LAW_law_343 : decode code 343 = .ok (.aload_n 0, 1) := by decide +kernel
theorem d_LAW_law_344 : decode code 344 = .ok (.iload_n 3, 1) := by decide +kernel
theorem d_LAW_law_345 : decode code 345 = .ok (.iconst 1, 1) := by decide +kernel

