theorem dL_law_0 : decode code 0 = .ok (.new 7, 3) := by decide +kernel
theorem dL_law_3 : decode code 3 = .ok (.dup, 1) := by decide +kernel
theorem dL_law_4 : decode code 4 = .ok (.invokespecial 9, 3) := by decide +kernel
theorem dL_law_7 : decode code 7 = .ok (.astore_n 1, 1) := by decide +kernel
theorem dL_law_8 : decode code 8 = .ok (.new 10, 3) := by decide +kernel
theorem dL_law_11 : decode code 11 = .ok (.dup, 1) := by decide +kernel
theorem dL_law_12 : decode code 12 = .ok (.invokespecial 12, 3) := by decide +kernel
theorem dL_law_15 : decode code 15 = .ok (.astore_n 2, 1) := by decide +kernel
theorem dL_law_16 : decode code 16 = .ok (.iconst 0, 1) := by decide +kernel
theorem dL_law_17 : decode code 17 = .ok (.istore_n 3, 1) := by decide +kernel
theorem dL_law_18 : decode code 18 = .ok (.iload_n 3, 1) := by decide +kernel
theorem dL_law_19 : decode code 19 = .ok (.aload_n 0, 1) := by decide +kernel
theorem dL_law_20 : decode code 20 = .ok (.arraylength, 1) := by decide +kernel
theorem dL_law_21 : decode code 21 = .ok (.iconst 4, 1) := by decide +kernel
theorem dL_law_22 : decode code 22 = .ok (.isub, 1) := by decide +kernel
theorem dL_law_23 : decode code 23 = .ok (.if_icmp .gt 1162, 3) := by decide +kernel
theorem dL_law_26 : decode code 26 = .ok (.aload_n 0, 1) := by decide +kernel
theorem dL_law_27 : decode code 27 = .ok (.iload_n 3, 1) := by decide +kernel
theorem dL_law_28 : decode code 28 = .ok (.iaload, 1) := by decide +kernel
theorem dL_law_29 : decode code 29 = .ok (.bipush 63, 2) := by decide +kernel
theorem dL_law_31 : decode code 31 = .ok (.iand, 1) := by decide +kernel
theorem dL_law_32 : decode code 32 = .ok (.tableswitch 1147 0 34 #[156, 189, 222, 265, 308, 331, 354, 377, 400, 449, 472, 505, 528, 551, 584, 607, 630, 653, 666, 689, 702, 735, 768, 801, 824, 857, 880, 913, 936, 969, 1012, 1045, 1068, 1091, 1124], 156) := by decide +kernel
theorem dL_law_188 : decode code 188 = .ok (.aload_n 1, 1) := by decide +kernel
theorem dL_law_189 : decode code 189 = .ok (.aload_n 0, 1) := by decide +kernel
theorem dL_law_190 : decode code 190 = .ok (.iload_n 3, 1) := by decide +kernel
theorem dL_law_191 : decode code 191 = .ok (.iconst 1, 1) := by decide +kernel
theorem dL_law_192 : decode code 192 = .ok (.iadd, 1) := by decide +kernel
theorem dL_law_193 : decode code 193 = .ok (.iaload, 1) := by decide +kernel
theorem dL_law_194 : decode code 194 = .ok (.aload_n 0, 1) := by decide +kernel
theorem dL_law_195 : decode code 195 = .ok (.iload_n 3, 1) := by decide +kernel
theorem dL_law_196 : decode code 196 = .ok (.iconst 2, 1) := by decide +kernel
theorem dL_law_197 : decode code 197 = .ok (.iadd, 1) := by decide +kernel
theorem dL_law_198 : decode code 198 = .ok (.iaload, 1) := by decide +kernel
theorem dL_law_199 : decode code 199 = .ok (.invokevirtual 13, 3) := by decide +kernel
theorem dL_law_202 : decode code 202 = .ok (.aload_n 2, 1) := by decide +kernel
theorem dL_law_203 : decode code 203 = .ok (.aload_n 0, 1) := by decide +kernel
theorem dL_law_204 : decode code 204 = .ok (.iload_n 3, 1) := by decide +kernel
theorem dL_law_205 : decode code 205 = .ok (.iconst 1, 1) := by decide +kernel
theorem dL_law_206 : decode code 206 = .ok (.iadd, 1) := by decide +kernel
theorem dL_law_207 : decode code 207 = .ok (.iaload, 1) := by decide +kernel
theorem dL_law_208 : decode code 208 = .ok (.aload_n 0, 1) := by decide +kernel
theorem dL_law_209 : decode code 209 = .ok (.iload_n 3, 1) := by decide +kernel
theorem dL_law_210 : decode code 210 = .ok (.iconst 2, 1) := by decide +kernel
theorem dL_law_211 : decode code 211 = .ok (.iadd, 1) := by decide +kernel
theorem dL_law_212 : decode code 212 = .ok (.iaload, 1) := by decide +kernel
theorem dL_law_213 : decode code 213 = .ok (.invokevirtual 17, 3) := by decide +kernel
theorem dL_law_216 : decode code 216 = .ok (.if_icmp .eq 963, 3) := by decide +kernel
theorem dL_law_219 : decode code 219 = .ok (.iconst 0, 1) := by decide +kernel
theorem dL_law_220 : decode code 220 = .ok (.ireturn, 1) := by decide +kernel
theorem dL_law_221 : decode code 221 = .ok (.aload_n 1, 1) := by decide +kernel
theorem dL_law_222 : decode code 222 = .ok (.aload_n 0, 1) := by decide +kernel
theorem dL_law_223 : decode code 223 = .ok (.iload_n 3, 1) := by decide +kernel
theorem dL_law_224 : decode code 224 = .ok (.iconst 1, 1) := by decide +kernel
theorem dL_law_225 : decode code 225 = .ok (.iadd, 1) := by decide +kernel
theorem dL_law_226 : decode code 226 = .ok (.iaload, 1) := by decide +kernel
theorem dL_law_227 : decode code 227 = .ok (.aload_n 0, 1) := by decide +kernel
theorem dL_law_228 : decode code 228 = .ok (.iload_n 3, 1) := by decide +kernel
theorem dL_law_229 : decode code 229 = .ok (.iconst 2, 1) := by decide +kernel
theorem dL_law_230 : decode code 230 = .ok (.iadd, 1) := by decide +kernel
theorem dL_law_231 : decode code 231 = .ok (.iaload, 1) := by decide +kernel
theorem dL_law_232 : decode code 232 = .ok (.invokevirtual 18, 3) := by decide +kernel
theorem dL_law_235 : decode code 235 = .ok (.aload_n 2, 1) := by decide +kernel
theorem dL_law_236 : decode code 236 = .ok (.aload_n 0, 1) := by decide +kernel
theorem dL_law_237 : decode code 237 = .ok (.iload_n 3, 1) := by decide +kernel
theorem dL_law_238 : decode code 238 = .ok (.iconst 1, 1) := by decide +kernel
theorem dL_law_239 : decode code 239 = .ok (.iadd, 1) := by decide +kernel
theorem dL_law_240 : decode code 240 = .ok (.iaload, 1) := by decide +kernel
theorem dL_law_241 : decode code 241 = .ok (.aload_n 0, 1) := by decide +kernel
theorem dL_law_242 : decode code 242 = .ok (.iload_n 3, 1) := by decide +kernel
theorem dL_law_243 : decode code 243 = .ok (.iconst 2, 1) := by decide +kernel
theorem dL_law_244 : decode code 244 = .ok (.iadd, 1) := by decide +kernel
theorem dL_law_245 : decode code 245 = .ok (.iaload, 1) := by decide +kernel
theorem dL_law_246 : decode code 246 = .ok (.invokevirtual 22, 3) := by decide +kernel
theorem dL_law_249 : decode code 249 = .ok (.if_icmp .eq 930, 3) := by decide +kernel
theorem dL_law_252 : decode code 252 = .ok (.iconst 0, 1) := by decide +kernel
theorem dL_law_253 : decode code 253 = .ok (.ireturn, 1) := by decide +kernel
theorem dL_law_254 : decode code 254 = .ok (.aload_n 1, 1) := by decide +kernel
theorem dL_law_255 : decode code 255 = .ok (.aload_n 0, 1) := by decide +kernel
theorem dL_law_256 : decode code 256 = .ok (.iload_n 3, 1) := by decide +kernel
theorem dL_law_257 : decode code 257 = .ok (.iconst 1, 1) := by decide +kernel
theorem dL_law_258 : decode code 258 = .ok (.iadd, 1) := by decide +kernel
theorem dL_law_259 : decode code 259 = .ok (.iaload, 1) := by decide +kernel
theorem dL_law_260 : decode code 260 = .ok (.aload_n 0, 1) := by decide +kernel
theorem dL_law_261 : decode code 261 = .ok (.iload_n 3, 1) := by decide +kernel
theorem dL_law_262 : decode code 262 = .ok (.iconst 2, 1) := by decide +kernel
theorem dL_law_263 : decode code 263 = .ok (.iadd, 1) := by decide +kernel
theorem dL_law_264 : decode code 264 = .ok (.iaload, 1) := by decide +kernel
theorem dL_law_265 : decode code 265 = .ok (.aload_n 0, 1) := by decide +kernel
theorem dL_law_266 : decode code 266 = .ok (.iload_n 3, 1) := by decide +kernel
theorem dL_law_267 : decode code 267 = .ok (.iconst 3, 1) := by decide +kernel
theorem dL_law_268 : decode code 268 = .ok (.iadd, 1) := by decide +kernel
theorem dL_law_269 : decode code 269 = .ok (.iaload, 1) := by decide +kernel
theorem dL_law_270 : decode code 270 = .ok (.invokevirtual 23, 3) := by decide +kernel
theorem dL_law_273 : decode code 273 = .ok (.aload_n 2, 1) := by decide +kernel
theorem dL_law_274 : decode code 274 = .ok (.aload_n 0, 1) := by decide +kernel
theorem dL_law_275 : decode code 275 = .ok (.iload_n 3, 1) := by decide +kernel
theorem dL_law_276 : decode code 276 = .ok (.iconst 1, 1) := by decide +kernel
theorem dL_law_277 : decode code 277 = .ok (.iadd, 1) := by decide +kernel
theorem dL_law_278 : decode code 278 = .ok (.iaload, 1) := by decide +kernel
theorem dL_law_279 : decode code 279 = .ok (.aload_n 0, 1) := by decide +kernel
theorem dL_law_280 : decode code 280 = .ok (.iload_n 3, 1) := by decide +kernel
theorem dL_law_281 : decode code 281 = .ok (.iconst 2, 1) := by decide +kernel
theorem dL_law_282 : decode code 282 = .ok (.iadd, 1) := by decide +kernel
theorem dL_law_283 : decode code 283 = .ok (.iaload, 1) := by decide +kernel
theorem dL_law_284 : decode code 284 = .ok (.aload_n 0, 1) := by decide +kernel
theorem dL_law_285 : decode code 285 = .ok (.iload_n 3, 1) := by decide +kernel
theorem dL_law_286 : decode code 286 = .ok (.iconst 3, 1) := by decide +kernel
theorem dL_law_287 : decode code 287 = .ok (.iadd, 1) := by decide +kernel
theorem dL_law_288 : decode code 288 = .ok (.iaload, 1) := by decide +kernel
theorem dL_law_289 : decode code 289 = .ok (.invokevirtual 27, 3) := by decide +kernel
theorem dL_law_292 : decode code 292 = .ok (.if_icmp .eq 887, 3) := by decide +kernel
theorem dL_law_295 : decode code 295 = .ok (.iconst 0, 1) := by decide +kernel
theorem dL_law_296 : decode code 296 = .ok (.ireturn, 1) := by decide +kernel
theorem dL_law_297 : decode code 297 = .ok (.aload_n 1, 1) := by decide +kernel
theorem dL_law_298 : decode code 298 = .ok (.aload_n 0, 1) := by decide +kernel
theorem dL_law_299 : decode code 299 = .ok (.iload_n 3, 1) := by decide +kernel
theorem dL_law_300 : decode code 300 = .ok (.iconst 1, 1) := by decide +kernel
theorem dL_law_301 : decode code 301 = .ok (.iadd, 1) := by decide +kernel
theorem dL_law_302 : decode code 302 = .ok (.iaload, 1) := by decide +kernel
theorem dL_law_303 : decode code 303 = .ok (.aload_n 0, 1) := by decide +kernel
theorem dL_law_304 : decode code 304 = .ok (.iload_n 3, 1) := by decide +kernel
theorem dL_law_305 : decode code 305 = .ok (.iconst 2, 1) := by decide +kernel
theorem dL_law_306 : decode code 306 = .ok (.iadd, 1) := by decide +kernel
theorem dL_law_307 : decode code 307 = .ok (.iaload, 1) := by decide +kernel
theorem dL_law_308 : decode code 308 = .ok (.aload_n 0, 1) := by decide +kernel
theorem dL_law_309 : decode code 309 = .ok (.iload_n 3, 1) := by decide +kernel
theorem dL_law_310 : decode code 310 = .ok (.iconst 3, 1) := by decide +kernel
theorem dL_law_311 : decode code 311 = .ok (.iadd, 1) := by decide +kernel
theorem dL_law_312 : decode code 312 = .ok (.iaload, 1) := by decide +kernel
theorem dL_law_313 : decode code 313 = .ok (.invokevirtual 28, 3) := by decide +kernel
theorem dL_law_316 : decode code 316 = .ok (.aload_n 2, 1) := by decide +kernel
theorem dL_law_317 : decode code 317 = .ok (.aload_n 0, 1) := by decide +kernel
theorem dL_law_318 : decode code 318 = .ok (.iload_n 3, 1) := by decide +kernel
theorem dL_law_319 : decode code 319 = .ok (.iconst 1, 1) := by decide +kernel
theorem dL_law_320 : decode code 320 = .ok (.iadd, 1) := by decide +kernel
theorem dL_law_321 : decode code 321 = .ok (.iaload, 1) := by decide +kernel
theorem dL_law_322 : decode code 322 = .ok (.aload_n 0, 1) := by decide +kernel
theorem dL_law_323 : decode code 323 = .ok (.iload_n 3, 1) := by decide +kernel
theorem dL_law_324 : decode code 324 = .ok (.iconst 2, 1) := by decide +kernel
theorem dL_law_325 : decode code 325 = .ok (.iadd, 1) := by decide +kernel
theorem dL_law_326 : decode code 326 = .ok (.iaload, 1) := by decide +kernel
theorem dL_law_327 : decode code 327 = .ok (.aload_n 0, 1) := by decide +kernel
theorem dL_law_328 : decode code 328 = .ok (.iload_n 3, 1) := by decide +kernel
theorem dL_law_329 : decode code 329 = .ok (.iconst 3, 1) := by decide +kernel
theorem dL_law_330 : decode code 330 = .ok (.iadd, 1) := by decide +kernel
theorem dL_law_331 : decode code 331 = .ok (.iaload, 1) := by decide +kernel
theorem dL_law_332 : decode code 332 = .ok (.invokevirtual 31, 3) := by decide +kernel
theorem dL_law_335 : decode code 335 = .ok (.if_icmp .eq 844, 3) := by decide +kernel
theorem dL_law_338 : decode code 338 = .ok (.iconst 0, 1) := by decide +kernel
theorem dL_law_339 : decode code 339 = .ok (.ireturn, 1) := by decide +kernel
theorem dL_law_340 : decode code 340 = .ok (.aload_n 1, 1) := by decide +kernel
theorem dL_law_341 : decode code 341 = .ok (.aload_n 0, 1) := by decide +kernel
theorem dL_law_342 : decode code 342 = .ok (.iload_n 3, 1) := by decide +kernel
theorem dL_law_343 : decode code 343 = .ok (.iconst 1, 1) := by decide +kernel
theorem dL_law_344 : decode code 344 = .ok (.iadd, 1) := by decide +kernel
theorem dL_law_345 : decode code 345 = .ok (.iaload, 1) := by decide +kernel
theorem dL_law_346 : decode code 346 = .ok (.invokevirtual 32, 3) := by decide +kernel
theorem dL_law_349 : decode code 349 = .ok (.aload_n 2, 1) := by decide +kernel
theorem dL_law_350 : decode code 350 = .ok (.aload_n 0, 1) := by decide +kernel
theorem dL_law_351 : decode code 351 = .ok (.iload_n 3, 1) := by decide +kernel
