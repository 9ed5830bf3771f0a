theorem dgL_law_0 : decode cL_law 0 = .ok (.new 7, 3) ∧ decode cL_law 3 = .ok (.dup, 1) ∧ decode cL_law 4 = .ok (.invokespecial 9, 3) ∧ decode cL_law 7 = .ok (.astore_n 1, 1) ∧ decode cL_law 8 = .ok (.new 10, 3) ∧ decode cL_law 11 = .ok (.dup, 1) ∧ decode cL_law 12 = .ok (.invokespecial 12, 3) ∧ decode cL_law 15 = .ok (.astore_n 2, 1) ∧ decode cL_law 16 = .ok (.iconst 0, 1) ∧ decode cL_law 17 = .ok (.istore_n 3, 1) ∧ decode cL_law 18 = .ok (.iload_n 3, 1) ∧ decode cL_law 19 = .ok (.aload_n 0, 1) ∧ decode cL_law 20 = .ok (.arraylength, 1) ∧ decode cL_law 21 = .ok (.bipush 6, 2) ∧ decode cL_law 23 = .ok (.isub, 1) ∧ decode cL_law 24 = .ok (.if_icmp .gt 1468, 3) := by decide +kernel
theorem dL_law_0 : decode cL_law 0 = .ok (.new 7, 3) := dgL_law_0.1
theorem dL_law_3 : decode cL_law 3 = .ok (.dup, 1) := dgL_law_0.2.1
theorem dL_law_4 : decode cL_law 4 = .ok (.invokespecial 9, 3) := dgL_law_0.2.2.1
theorem dL_law_7 : decode cL_law 7 = .ok (.astore_n 1, 1) := dgL_law_0.2.2.2.1
theorem dL_law_8 : decode cL_law 8 = .ok (.new 10, 3) := dgL_law_0.2.2.2.2.1
theorem dL_law_11 : decode cL_law 11 = .ok (.dup, 1) := dgL_law_0.2.2.2.2.2.1
theorem dL_law_12 : decode cL_law 12 = .ok (.invokespecial 12, 3) := dgL_law_0.2.2.2.2.2.2.1
theorem dL_law_15 : decode cL_law 15 = .ok (.astore_n 2, 1) := dgL_law_0.2.2.2.2.2.2.2.1
theorem dL_law_16 : decode cL_law 16 = .ok (.iconst 0, 1) := dgL_law_0.2.2.2.2.2.2.2.2.1
theorem dL_law_17 : decode cL_law 17 = .ok (.istore_n 3, 1) := dgL_law_0.2.2.2.2.2.2.2.2.2.1
theorem dL_law_18 : decode cL_law 18 = .ok (.iload_n 3, 1) := dgL_law_0.2.2.2.2.2.2.2.2.2.2.1
theorem dL_law_19 : decode cL_law 19 = .ok (.aload_n 0, 1) := dgL_law_0.2.2.2.2.2.2.2.2.2.2.2.1
theorem dL_law_20 : decode cL_law 20 = .ok (.arraylength, 1) := dgL_law_0.2.2.2.2.2.2.2.2.2.2.2.2.1
theorem dL_law_21 : decode cL_law 21 = .ok (.bipush 6, 2) := dgL_law_0.2.2.2.2.2.2.2.2.2.2.2.2.2.1
theorem dL_law_23 : decode cL_law 23 = .ok (.isub, 1) := dgL_law_0.2.2.2.2.2.2.2.2.2.2.2.2.2.2.1
theorem dL_law_24 : decode cL_law 24 = .ok (.if_icmp .gt 1468, 3) := dgL_law_0.2.2.2.2.2.2.2.2.2.2.2.2.2.2.2
theorem dgL_law_1 : decode cL_law 27 = .ok (.aload_n 0, 1) ∧ decode cL_law 28 = .ok (.iload_n 3, 1) ∧ decode cL_law 29 = .ok (.iaload, 1) ∧ decode cL_law 30 = .ok (.bipush 63, 2) ∧ decode cL_law 32 = .ok (.iand, 1) ∧ decode cL_law 33 = .ok (.tableswitch 1453 0 43 #[191, 234, 267, 310, 343, 376, 419, 442, 475, 498, 521, 544, 567, 590, 613, 646, 679, 692, 715, 738, 771, 784, 817, 850, 863, 886, 929, 952, 965, 998, 1021, 1064, 1107, 1130, 1153, 1216, 1259, 1292, 1325, 1358, 1381, 1404, 1417, 1430], 191) ∧ decode cL_law 224 = .ok (.aload_n 1, 1) ∧ decode cL_law 225 = .ok (.aload_n 0, 1) ∧ decode cL_law 226 = .ok (.iload_n 3, 1) ∧ decode cL_law 227 = .ok (.iconst 1, 1) ∧ decode cL_law 228 = .ok (.iadd, 1) ∧ decode cL_law 229 = .ok (.iaload, 1) ∧ decode cL_law 230 = .ok (.aload_n 0, 1) ∧ decode cL_law 231 = .ok (.iload_n 3, 1) ∧ decode cL_law 232 = .ok (.iconst 2, 1) ∧ decode cL_law 233 = .ok (.iadd, 1) := by decide +kernel
theorem dL_law_27 : decode cL_law 27 = .ok (.aload_n 0, 1) := dgL_law_1.1
theorem dL_law_28 : decode cL_law 28 = .ok (.iload_n 3, 1) := dgL_law_1.2.1
theorem dL_law_29 : decode cL_law 29 = .ok (.iaload, 1) := dgL_law_1.2.2.1
theorem dL_law_30 : decode cL_law 30 = .ok (.bipush 63, 2) := dgL_law_1.2.2.2.1
theorem dL_law_32 : decode cL_law 32 = .ok (.iand, 1) := dgL_law_1.2.2.2.2.1
theorem dL_law_33 : decode cL_law 33 = .ok (.tableswitch 1453 0 43 #[191, 234, 267, 310, 343, 376, 419, 442, 475, 498, 521, 544, 567, 590, 613, 646, 679, 692, 715, 738, 771, 784, 817, 850, 863, 886, 929, 952, 965, 998, 1021, 1064, 1107, 1130, 1153, 1216, 1259, 1292, 1325, 1358, 1381, 1404, 1417, 1430], 191) := dgL_law_1.2.2.2.2.2.1
theorem dL_law_224 : decode cL_law 224 = .ok (.aload_n 1, 1) := dgL_law_1.2.2.2.2.2.2.1
theorem dL_law_225 : decode cL_law 225 = .ok (.aload_n 0, 1) := dgL_law_1.2.2.2.2.2.2.2.1
theorem dL_law_226 : decode cL_law 226 = .ok (.iload_n 3, 1) := dgL_law_1.2.2.2.2.2.2.2.2.1
theorem dL_law_227 : decode cL_law 227 = .ok (.iconst 1, 1) := dgL_law_1.2.2.2.2.2.2.2.2.2.1
theorem dL_law_228 : decode cL_law 228 = .ok (.iadd, 1) := dgL_law_1.2.2.2.2.2.2.2.2.2.2.1
theorem dL_law_229 : decode cL_law 229 = .ok (.iaload, 1) := dgL_law_1.2.2.2.2.2.2.2.2.2.2.2.1
theorem dL_law_230 : decode cL_law 230 = .ok (.aload_n 0, 1) := dgL_law_1.2.2.2.2.2.2.2.2.2.2.2.2.1
theorem dL_law_231 : decode cL_law 231 = .ok (.iload_n 3, 1) := dgL_law_1.2.2.2.2.2.2.2.2.2.2.2.2.2.1
theorem dL_law_232 : decode cL_law 232 = .ok (.iconst 2, 1) := dgL_law_1.2.2.2.2.2.2.2.2.2.2.2.2.2.2.1
theorem dL_law_233 : decode cL_law 233 = .ok (.iadd, 1) := dgL_law_1.2.2.2.2.2.2.2.2.2.2.2.2.2.2.2
theorem dgL_law_2 : decode cL_law 234 = .ok (.iaload, 1) ∧ decode cL_law 235 = .ok (.aload_n 0, 1) ∧ decode cL_law 236 = .ok (.iload_n 3, 1) ∧ decode cL_law 237 = .ok (.iconst 3, 1) ∧ decode cL_law 238 = .ok (.iadd, 1) ∧ decode cL_law 239 = .ok (.iaload, 1) ∧ decode cL_law 240 = .ok (.invokevirtual 13, 3) ∧ decode cL_law 243 = .ok (.pop, 1) ∧ decode cL_law 244 = .ok (.aload_n 2, 1) ∧ decode cL_law 245 = .ok (.aload_n 0, 1) ∧ decode cL_law 246 = .ok (.iload_n 3, 1) ∧ decode cL_law 247 = .ok (.iconst 1, 1) ∧ decode cL_law 248 = .ok (.iadd, 1) ∧ decode cL_law 249 = .ok (.iaload, 1) ∧ decode cL_law 250 = .ok (.aload_n 0, 1) ∧ decode cL_law 251 = .ok (.iload_n 3, 1) := by decide +kernel
theorem dL_law_234 : decode cL_law 234 = .ok (.iaload, 1) := dgL_law_2.1
theorem dL_law_235 : decode cL_law 235 = .ok (.aload_n 0, 1) := dgL_law_2.2.1
theorem dL_law_236 : decode cL_law 236 = .ok (.iload_n 3, 1) := dgL_law_2.2.2.1
theorem dL_law_237 : decode cL_law 237 = .ok (.iconst 3, 1) := dgL_law_2.2.2.2.1
theorem dL_law_238 : decode cL_law 238 = .ok (.iadd, 1) := dgL_law_2.2.2.2.2.1
theorem dL_law_239 : decode cL_law 239 = .ok (.iaload, 1) := dgL_law_2.2.2.2.2.2.1
theorem dL_law_240 : decode cL_law 240 = .ok (.invokevirtual 13, 3) := dgL_law_2.2.2.2.2.2.2.1
theorem dL_law_243 : decode cL_law 243 = .ok (.pop, 1) := dgL_law_2.2.2.2.2.2.2.2.1
theorem dL_law_244 : decode cL_law 244 = .ok (.aload_n 2, 1) := dgL_law_2.2.2.2.2.2.2.2.2.1
theorem dL_law_245 : decode cL_law 245 = .ok (.aload_n 0, 1) := dgL_law_2.2.2.2.2.2.2.2.2.2.1
theorem dL_law_246 : decode cL_law 246 = .ok (.iload_n 3, 1) := dgL_law_2.2.2.2.2.2.2.2.2.2.2.1
theorem dL_law_247 : decode cL_law 247 = .ok (.iconst 1, 1) := dgL_law_2.2.2.2.2.2.2.2.2.2.2.2.1
theorem dL_law_248 : decode cL_law 248 = .ok (.iadd, 1) := dgL_law_2.2.2.2.2.2.2.2.2.2.2.2.2.1
theorem dL_law_249 : decode cL_law 249 = .ok (.iaload, 1) := dgL_law_2.2.2.2.2.2.2.2.2.2.2.2.2.2.1
theorem dL_law_250 : decode cL_law 250 = .ok (.aload_n 0, 1) := dgL_law_2.2.2.2.2.2.2.2.2.2.2.2.2.2.2.1
theorem dL_law_251 : decode cL_law 251 = .ok (.iload_n 3, 1) := dgL_law_2.2.2.2.2.2.2.2.2.2.2.2.2.2.2.2
theorem dgL_law_3 : decode cL_law 252 = .ok (.iconst 2, 1) ∧ decode cL_law 253 = .ok (.iadd, 1) ∧ decode cL_law 254 = .ok (.iaload, 1) ∧ decode cL_law 255 = .ok (.aload_n 0, 1) ∧ decode cL_law 256 = .ok (.iload_n 3, 1) ∧ decode cL_law 257 = .ok (.iconst 3, 1) ∧ decode cL_law 258 = .ok (.iadd, 1) ∧ decode cL_law 259 = .ok (.iaload, 1) ∧ decode cL_law 260 = .ok (.invokevirtual 17, 3) ∧ decode cL_law 263 = .ok (.pop, 1) ∧ decode cL_law 264 = .ok (.goto 1222, 3) ∧ decode cL_law 267 = .ok (.aload_n 1, 1) ∧ decode cL_law 268 = .ok (.aload_n 0, 1) ∧ decode cL_law 269 = .ok (.iload_n 3, 1) ∧ decode cL_law 270 = .ok (.iconst 1, 1) ∧ decode cL_law 271 = .ok (.iadd, 1) := by decide +kernel
theorem dL_law_252 : decode cL_law 252 = .ok (.iconst 2, 1) := dgL_law_3.1
theorem dL_law_253 : decode cL_law 253 = .ok (.iadd, 1) := dgL_law_3.2.1
theorem dL_law_254 : decode cL_law 254 = .ok (.iaload, 1) := dgL_law_3.2.2.1
theorem dL_law_255 : decode cL_law 255 = .ok (.aload_n 0, 1) := dgL_law_3.2.2.2.1
theorem dL_law_256 : decode cL_law 256 = .ok (.iload_n 3, 1) := dgL_law_3.2.2.2.2.1
theorem dL_law_257 : decode cL_law 257 = .ok (.iconst 3, 1) := dgL_law_3.2.2.2.2.2.1
theorem dL_law_258 : decode cL_law 258 = .ok (.iadd, 1) := dgL_law_3.2.2.2.2.2.2.1
theorem dL_law_259 : decode cL_law 259 = .ok (.iaload, 1) := dgL_law_3.2.2.2.2.2.2.2.1
theorem dL_law_260 : decode cL_law 260 = .ok (.invokevirtual 17, 3) := dgL_law_3.2.2.2.2.2.2.2.2.1
theorem dL_law_263 : decode cL_law 263 = .ok (.pop, 1) := dgL_law_3.2.2.2.2.2.2.2.2.2.1
theorem dL_law_264 : decode cL_law 264 = .ok (.goto 1222, 3) := dgL_law_3.2.2.2.2.2.2.2.2.2.2.1
theorem dL_law_267 : decode cL_law 267 = .ok (.aload_n 1, 1) := dgL_law_3.2.2.2.2.2.2.2.2.2.2.2.1
theorem dL_law_268 : decode cL_law 268 = .ok (.aload_n 0, 1) := dgL_law_3.2.2.2.2.2.2.2.2.2.2.2.2.1
theorem dL_law_269 : decode cL_law 269 = .ok (.iload_n 3, 1) := dgL_law_3.2.2.2.2.2.2.2.2.2.2.2.2.2.1
theorem dL_law_270 : decode cL_law 270 = .ok (.iconst 1, 1) := dgL_law_3.2.2.2.2.2.2.2.2.2.2.2.2.2.2.1
theorem dL_law_271 : decode cL_law 271 = .ok (.iadd, 1) := dgL_law_3.2.2.2.2.2.2.2.2.2.2.2.2.2.2.2
theorem dgL_law_4 : decode cL_law 272 = .ok (.iaload, 1) ∧ decode cL_law 273 = .ok (.aload_n 0, 1) ∧ decode cL_law 274 = .ok (.iload_n 3, 1) ∧ decode cL_law 275 = .ok (.iconst 2, 1) ∧ decode cL_law 276 = .ok (.iadd, 1) ∧ decode cL_law 277 = .ok (.iaload, 1) ∧ decode cL_law 278 = .ok (.invokevirtual 18, 3) ∧ decode cL_law 281 = .ok (.pop, 1) ∧ decode cL_law 282 = .ok (.aload_n 2, 1) ∧ decode cL_law 283 = .ok (.aload_n 0, 1) ∧ decode cL_law 284 = .ok (.iload_n 3, 1) ∧ decode cL_law 285 = .ok (.iconst 1, 1) ∧ decode cL_law 286 = .ok (.iadd, 1) ∧ decode cL_law 287 = .ok (.iaload, 1) ∧ decode cL_law 288 = .ok (.aload_n 0, 1) ∧ decode cL_law 289 = .ok (.iload_n 3, 1) := by decide +kernel
theorem dL_law_272 : decode cL_law 272 = .ok (.iaload, 1) := dgL_law_4.1
theorem dL_law_273 : decode cL_law 273 = .ok (.aload_n 0, 1) := dgL_law_4.2.1
theorem dL_law_274 : decode cL_law 274 = .ok (.iload_n 3, 1) := dgL_law_4.2.2.1
theorem dL_law_275 : decode cL_law 275 = .ok (.iconst 2, 1) := dgL_law_4.2.2.2.1
theorem dL_law_276 : decode cL_law 276 = .ok (.iadd, 1) := dgL_law_4.2.2.2.2.1
theorem dL_law_277 : decode cL_law 277 = .ok (.iaload, 1) := dgL_law_4.2.2.2.2.2.1
theorem dL_law_278 : decode cL_law 278 = .ok (.invokevirtual 18, 3) := dgL_law_4.2.2.2.2.2.2.1
theorem dL_law_281 : decode cL_law 281 = .ok (.pop, 1) := dgL_law_4.2.2.2.2.2.2.2.1
theorem dL_law_282 : decode cL_law 282 = .ok (.aload_n 2, 1) := dgL_law_4.2.2.2.2.2.2.2.2.1
theorem dL_law_283 : decode cL_law 283 = .ok (.aload_n 0, 1) := dgL_law_4.2.2.2.2.2.2.2.2.2.1
theorem dL_law_284 : decode cL_law 284 = .ok (.iload_n 3, 1) := dgL_law_4.2.2.2.2.2.2.2.2.2.2.1
theorem dL_law_285 : decode cL_law 285 = .ok (.iconst 1, 1) := dgL_law_4.2.2.2.2.2.2.2.2.2.2.2.1
theorem dL_law_286 : decode cL_law 286 = .ok (.iadd, 1) := dgL_law_4.2.2.2.2.2.2.2.2.2.2.2.2.1
theorem dL_law_287 : decode cL_law 287 = .ok (.iaload, 1) := dgL_law_4.2.2.2.2.2.2.2.2.2.2.2.2.2.1
theorem dL_law_288 : decode cL_law 288 = .ok (.aload_n 0, 1) := dgL_law_4.2.2.2.2.2.2.2.2.2.2.2.2.2.2.1
theorem dL_law_289 : decode cL_law 289 = .ok (.iload_n 3, 1) := dgL_law_4.2.2.2.2.2.2.2.2.2.2.2.2.2.2.2
theorem dgL_law_5 : decode cL_law 290 = .ok (.iconst 2, 1) ∧ decode cL_law 291 = .ok (.iadd, 1) ∧ decode cL_law 292 = .ok (.iaload, 1) ∧ decode cL_law 293 = .ok (.invokevirtual 22, 3) ∧ decode cL_law 296 = .ok (.pop, 1) ∧ decode cL_law 297 = .ok (.goto 1189, 3) ∧ decode cL_law 300 = .ok (.aload_n 1, 1) ∧ decode cL_law 301 = .ok (.aload_n 0, 1) ∧ decode cL_law 302 = .ok (.iload_n 3, 1) ∧ decode cL_law 303 = .ok (.iconst 1, 1) ∧ decode cL_law 304 = .ok (.iadd, 1) ∧ decode cL_law 305 = .ok (.iaload, 1) ∧ decode cL_law 306 = .ok (.aload_n 0, 1) ∧ decode cL_law 307 = .ok (.iload_n 3, 1) ∧ decode cL_law 308 = .ok (.iconst 2, 1) ∧ decode cL_law 309 = .ok (.iadd, 1) := by decide +kernel
theorem dL_law_290 : decode cL_law 290 = .ok (.iconst 2, 1) := dgL_law_5.1
theorem dL_law_291 : decode cL_law 291 = .ok (.iadd, 1) := dgL_law_5.2.1
theorem dL_law_292 : decode cL_law 292 = .ok (.iaload, 1) := dgL_law_5.2.2.1
theorem dL_law_293 : decode cL_law 293 = .ok (.invokevirtual 22, 3) := dgL_law_5.2.2.2.1
theorem dL_law_296 : decode cL_law 296 = .ok (.pop, 1) := dgL_law_5.2.2.2.2.1
theorem dL_law_297 : decode cL_law 297 = .ok (.goto 1189, 3) := dgL_law_5.2.2.2.2.2.1
theorem dL_law_300 : decode cL_law 300 = .ok (.aload_n 1, 1) := dgL_law_5.2.2.2.2.2.2.1
theorem dL_law_301 : decode cL_law 301 = .ok (.aload_n 0, 1) := dgL_law_5.2.2.2.2.2.2.2.1
theorem dL_law_302 : decode cL_law 302 = .ok (.iload_n 3, 1) := dgL_law_5.2.2.2.2.2.2.2.2.1
theorem dL_law_303 : decode cL_law 303 = .ok (.iconst 1, 1) := dgL_law_5.2.2.2.2.2.2.2.2.2.1
theorem dL_law_304 : decode cL_law 304 = .ok (.iadd, 1) := dgL_law_5.2.2.2.2.2.2.2.2.2.2.1
theorem dL_law_305 : decode cL_law 305 = .ok (.iaload, 1) := dgL_law_5.2.2.2.2.2.2.2.2.2.2.2.1
theorem dL_law_306 : decode cL_law 306 = .ok (.aload_n 0, 1) := dgL_law_5.2.2.2.2.2.2.2.2.2.2.2.2.1
theorem dL_law_307 : decode cL_law 307 = .ok (.iload_n 3, 1) := dgL_law_5.2.2.2.2.2.2.2.2.2.2.2.2.2.1
theorem dL_law_308 : decode cL_law 308 = .ok (.iconst 2, 1) := dgL_law_5.2.2.2.2.2.2.2.2.2.2.2.2.2.2.1
theorem dL_law_309 : decode cL_law 309 = .ok (.iadd, 1) := dgL_law_5.2.2.2.2.2.2.2.2.2.2.2.2.2.2.2
theorem dgL_law_6 : decode cL_law 310 = .ok (.iaload, 1) ∧ decode cL_law 311 = .ok (.aload_n 0, 1) ∧ decode cL_law 312 = .ok (.iload_n 3, 1) ∧ decode cL_law 313 = .ok (.iconst 3, 1) ∧ decode cL_law 314 = .ok (.iadd, 1) ∧ decode cL_law 315 = .ok (.iaload, 1) ∧ decode cL_law 316 = .ok (.invokevirtual 23, 3) ∧ decode cL_law 319 = .ok (.pop, 1) ∧ decode cL_law 320 = .ok (.aload_n 2, 1) ∧ decode cL_law 321 = .ok (.aload_n 0, 1) ∧ decode cL_law 322 = .ok (.iload_n 3, 1) ∧ decode cL_law 323 = .ok (.iconst 1, 1) ∧ decode cL_law 324 = .ok (.iadd, 1) ∧ decode cL_law 325 = .ok (.iaload, 1) ∧ decode cL_law 326 = .ok (.aload_n 0, 1) ∧ decode cL_law 327 = .ok (.iload_n 3, 1) := by decide +kernel
theorem dL_law_310 : decode cL_law 310 = .ok (.iaload, 1) := dgL_law_6.1
theorem dL_law_311 : decode cL_law 311 = .ok (.aload_n 0, 1) := dgL_law_6.2.1
theorem dL_law_312 : decode cL_law 312 = .ok (.iload_n 3, 1) := dgL_law_6.2.2.1
theorem dL_law_313 : decode cL_law 313 = .ok (.iconst 3, 1) := dgL_law_6.2.2.2.1
theorem dL_law_314 : decode cL_law 314 = .ok (.iadd, 1) := dgL_law_6.2.2.2.2.1
theorem dL_law_315 : decode cL_law 315 = .ok (.iaload, 1) := dgL_law_6.2.2.2.2.2.1
theorem dL_law_316 : decode cL_law 316 = .ok (.invokevirtual 23, 3) := dgL_law_6.2.2.2.2.2.2.1
theorem dL_law_319 : decode cL_law 319 = .ok (.pop, 1) := dgL_law_6.2.2.2.2.2.2.2.1
theorem dL_law_320 : decode cL_law 320 = .ok (.aload_n 2, 1) := dgL_law_6.2.2.2.2.2.2.2.2.1
theorem dL_law_321 : decode cL_law 321 = .ok (.aload_n 0, 1) := dgL_law_6.2.2.2.2.2.2.2.2.2.1
theorem dL_law_322 : decode cL_law 322 = .ok (.iload_n 3, 1) := dgL_law_6.2.2.2.2.2.2.2.2.2.2.1
theorem dL_law_323 : decode cL_law 323 = .ok (.iconst 1, 1) := dgL_law_6.2.2.2.2.2.2.2.2.2.2.2.1
theorem dL_law_324 : decode cL_law 324 = .ok (.iadd, 1) := dgL_law_6.2.2.2.2.2.2.2.2.2.2.2.2.1
theorem dL_law_325 : decode cL_law 325 = .ok (.iaload, 1) := dgL_law_6.2.2.2.2.2.2.2.2.2.2.2.2.2.1
theorem dL_law_326 : decode cL_law 326 = .ok (.aload_n 0, 1) := dgL_law_6.2.2.2.2.2.2.2.2.2.2.2.2.2.2.1
theorem dL_law_327 : decode cL_law 327 = .ok (.iload_n 3, 1) := dgL_law_6.2.2.2.2.2.2.2.2.2.2.2.2.2.2.2
theorem dgL_law_7 : decode cL_law 328 = .ok (.iconst 2, 1) ∧ decode cL_law 329 = .ok (.iadd, 1) ∧ decode cL_law 330 = .ok (.iaload, 1) ∧ decode cL_law 331 = .ok (.aload_n 0, 1) ∧ decode cL_law 332 = .ok (.iload_n 3, 1) ∧ decode cL_law 333 = .ok (.iconst 3, 1) ∧ decode cL_law 334 = .ok (.iadd, 1) ∧ decode cL_law 335 = .ok (.iaload, 1) ∧ decode cL_law 336 = .ok (.invokevirtual 26, 3) ∧ decode cL_law 339 = .ok (.pop, 1) ∧ decode cL_law 340 = .ok (.goto 1146, 3) ∧ decode cL_law 343 = .ok (.aload_n 1, 1) ∧ decode cL_law 344 = .ok (.aload_n 0, 1) ∧ decode cL_law 345 = .ok (.iload_n 3, 1) ∧ decode cL_law 346 = .ok (.iconst 1, 1) ∧ decode cL_law 347 = .ok (.iadd, 1) := by decide +kernel
theorem dL_law_328 : decode cL_law 328 = .ok (.iconst 2, 1) := dgL_law_7.1
theorem dL_law_329 : decode cL_law 329 = .ok (.iadd, 1) := dgL_law_7.2.1
theorem dL_law_330 : decode cL_law 330 = .ok (.iaload, 1) := dgL_law_7.2.2.1
theorem dL_law_331 : decode cL_law 331 = .ok (.aload_n 0, 1) := dgL_law_7.2.2.2.1
theorem dL_law_332 : decode cL_law 332 = .ok (.iload_n 3, 1) := dgL_law_7.2.2.2.2.1
theorem dL_law_333 : decode cL_law 333 = .ok (.iconst 3, 1) := dgL_law_7.2.2.2.2.2.1
theorem dL_law_334 : decode cL_law 334 = .ok (.iadd, 1) := dgL_law_7.2.2.2.2.2.2.1
theorem dL_law_335 : decode cL_law 335 = .ok (.iaload, 1) := dgL_law_7.2.2.2.2.2.2.2.1
theorem dL_law_336 : decode cL_law 336 = .ok (.invokevirtual 26, 3) := dgL_law_7.2.2.2.2.2.2.2.2.1
theorem dL_law_339 : decode cL_law 339 = .ok (.pop, 1) := dgL_law_7.2.2.2.2.2.2.2.2.2.1
theorem dL_law_340 : decode cL_law 340 = .ok (.goto 1146, 3) := dgL_law_7.2.2.2.2.2.2.2.2.2.2.1
theorem dL_law_343 : decode cL_law 343 = .ok (.aload_n 1, 1) := dgL_law_7.2.2.2.2.2.2.2.2.2.2.2.1
theorem dL_law_344 : decode cL_law 344 = .ok (.aload_n 0, 1) := dgL_law_7.2.2.2.2.2.2.2.2.2.2.2.2.1
theorem dL_law_345 : decode cL_law 345 = .ok (.iload_n 3, 1) := dgL_law_7.2.2.2.2.2.2.2.2.2.2.2.2.2.1
theorem dL_law_346 : decode cL_law 346 = .ok (.iconst 1, 1) := dgL_law_7.2.2.2.2.2.2.2.2.2.2.2.2.2.2.1
theorem dL_law_347 : decode cL_law 347 = .ok (.iadd, 1) := dgL_law_7.2.2.2.2.2.2.2.2.2.2.2.2.2.2.2
theorem dgL_law_8 : decode cL_law 348 = .ok (.iaload, 1) ∧ decode cL_law 349 = .ok (.aload_n 0, 1) ∧ decode cL_law 350 = .ok (.iload_n 3, 1) ∧ decode cL_law 351 = .ok (.iconst 2, 1) ∧ decode cL_law 352 = .ok (.iadd, 1) ∧ decode cL_law 353 = .ok (.iaload, 1) ∧ decode cL_law 354 = .ok (.invokevirtual 27, 3) ∧ decode cL_law 357 = .ok (.pop, 1) ∧ decode cL_law 358 = .ok (.aload_n 2, 1) ∧ decode cL_law 359 = .ok (.aload_n 0, 1) ∧ decode cL_law 360 = .ok (.iload_n 3, 1) ∧ decode cL_law 361 = .ok (.iconst 1, 1) ∧ decode cL_law 362 = .ok (.iadd, 1) ∧ decode cL_law 363 = .ok (.iaload, 1) ∧ decode cL_law 364 = .ok (.aload_n 0, 1) ∧ decode cL_law 365 = .ok (.iload_n 3, 1) := by decide +kernel
theorem dL_law_348 : decode cL_law 348 = .ok (.iaload, 1) := dgL_law_8.1
theorem dL_law_349 : decode cL_law 349 = .ok (.aload_n 0, 1) := dgL_law_8.2.1
theorem dL_law_350 : decode cL_law 350 = .ok (.iload_n 3, 1) := dgL_law_8.2.2.1
theorem dL_law_351 : decode cL_law 351 = .ok (.iconst 2, 1) := dgL_law_8.2.2.2.1
theorem dL_law_352 : decode cL_law 352 = .ok (.iadd, 1) := dgL_law_8.2.2.2.2.1
theorem dL_law_353 : decode cL_law 353 = .ok (.iaload, 1) := dgL_law_8.2.2.2.2.2.1
theorem dL_law_354 : decode cL_law 354 = .ok (.invokevirtual 27, 3) := dgL_law_8.2.2.2.2.2.2.1
theorem dL_law_357 : decode cL_law 357 = .ok (.pop, 1) := dgL_law_8.2.2.2.2.2.2.2.1
theorem dL_law_358 : decode cL_law 358 = .ok (.aload_n 2, 1) := dgL_law_8.2.2.2.2.2.2.2.2.1
theorem dL_law_359 : decode cL_law 359 = .ok (.aload_n 0, 1) := dgL_law_8.2.2.2.2.2.2.2.2.2.1
theorem dL_law_360 : decode cL_law 360 = .ok (.iload_n 3, 1) := dgL_law_8.2.2.2.2.2.2.2.2.2.2.1
theorem dL_law_361 : decode cL_law 361 = .ok (.iconst 1, 1) := dgL_law_8.2.2.2.2.2.2.2.2.2.2.2.1
theorem dL_law_362 : decode cL_law 362 = .ok (.iadd, 1) := dgL_law_8.2.2.2.2.2.2.2.2.2.2.2.2.1
theorem dL_law_363 : decode cL_law 363 = .ok (.iaload, 1) := dgL_law_8.2.2.2.2.2.2.2.2.2.2.2.2.2.1
theorem dL_law_364 : decode cL_law 364 = .ok (.aload_n 0, 1) := dgL_law_8.2.2.2.2.2.2.2.2.2.2.2.2.2.2.1
theorem dL_law_365 : decode cL_law 365 = .ok (.iload_n 3, 1) := dgL_law_8.2.2.2.2.2.2.2.2.2.2.2.2.2.2.2
theorem dgL_law_9 : decode cL_law 366 = .ok (.iconst 2, 1) ∧ decode cL_law 367 = .ok (.iadd, 1) ∧ decode cL_law 368 = .ok (.iaload, 1) ∧ decode cL_law 369 = .ok (.invokevirtual 30, 3) ∧ decode cL_law 372 = .ok (.pop, 1) ∧ decode cL_law 373 = .ok (.goto 1113, 3) ∧ decode cL_law 376 = .ok (.aload_n 1, 1) ∧ decode cL_law 377 = .ok (.aload_n 0, 1) ∧ decode cL_law 378 = .ok (.iload_n 3, 1) ∧ decode cL_law 379 = .ok (.iconst 1, 1) ∧ decode cL_law 380 = .ok (.iadd, 1) ∧ decode cL_law 381 = .ok (.iaload, 1) ∧ decode cL_law 382 = .ok (.aload_n 0, 1) ∧ decode cL_law 383 = .ok (.iload_n 3, 1) ∧ decode cL_law 384 = .ok (.iconst 2, 1) ∧ decode cL_law 385 = .ok (.iadd, 1) := by decide +kernel
theorem dL_law_366 : decode cL_law 366 = .ok (.iconst 2, 1) := dgL_law_9.1
theorem dL_law_367 : decode cL_law 367 = .ok (.iadd, 1) := dgL_law_9.2.1
theorem dL_law_368 : decode cL_law 368 = .ok (.iaload, 1) := dgL_law_9.2.2.1
theorem dL_law_369 : decode cL_law 369 = .ok (.invokevirtual 30, 3) := dgL_law_9.2.2.2.1
theorem dL_law_372 : decode cL_law 372 = .ok (.pop, 1) := dgL_law_9.2.2.2.2.1
theorem dL_law_373 : decode cL_law 373 = .ok (.goto 1113, 3) := dgL_law_9.2.2.2.2.2.1
theorem dL_law_376 : decode cL_law 376 = .ok (.aload_n 1, 1) := dgL_law_9.2.2.2.2.2.2.1
theorem dL_law_377 : decode cL_law 377 = .ok (.aload_n 0, 1) := dgL_law_9.2.2.2.2.2.2.2.1
theorem dL_law_378 : decode cL_law 378 = .ok (.iload_n 3, 1) := dgL_law_9.2.2.2.2.2.2.2.2.1
theorem dL_law_379 : decode cL_law 379 = .ok (.iconst 1, 1) := dgL_law_9.2.2.2.2.2.2.2.2.2.1
theorem dL_law_380 : decode cL_law 380 = .ok (.iadd, 1) := dgL_law_9.2.2.2.2.2.2.2.2.2.2.1
theorem dL_law_381 : decode cL_law 381 = .ok (.iaload, 1) := dgL_law_9.2.2.2.2.2.2.2.2.2.2.2.1
theorem dL_law_382 : decode cL_law 382 = .ok (.aload_n 0, 1) := dgL_law_9.2.2.2.2.2.2.2.2.2.2.2.2.1
theorem dL_law_383 : decode cL_law 383 = .ok (.iload_n 3, 1) := dgL_law_9.2.2.2.2.2.2.2.2.2.2.2.2.2.1
theorem dL_law_384 : decode cL_law 384 = .ok (.iconst 2, 1) := dgL_law_9.2.2.2.2.2.2.2.2.2.2.2.2.2.2.1
theorem dL_law_385 : decode cL_law 385 = .ok (.iadd, 1) := dgL_law_9.2.2.2.2.2.2.2.2.2.2.2.2.2.2.2
theorem dgL_law_10 : decode cL_law 386 = .ok (.iaload, 1) ∧ decode cL_law 387 = .ok (.invokevirtual 31, 3) ∧ decode cL_law 390 = .ok (.pop, 1) ∧ decode cL_law 391 = .ok (.aload_n 2, 1) ∧ decode cL_law 392 = .ok (.aload_n 0, 1) ∧ decode cL_law 393 = .ok (.iload_n 3, 1) ∧ decode cL_law 394 = .ok (.iconst 1, 1) ∧ decode cL_law 395 = .ok (.iadd, 1) ∧ decode cL_law 396 = .ok (.iaload, 1) ∧ decode cL_law 397 = .ok (.aload_n 0, 1) ∧ decode cL_law 398 = .ok (.iload_n 3, 1) ∧ decode cL_law 399 = .ok (.iconst 2, 1) ∧ decode cL_law 400 = .ok (.iadd, 1) ∧ decode cL_law 401 = .ok (.iaload, 1) ∧ decode cL_law 402 = .ok (.invokevirtual 34, 3) ∧ decode cL_law 405 = .ok (.pop, 1) := by decide +kernel
theorem dL_law_386 : decode cL_law 386 = .ok (.iaload, 1) := dgL_law_10.1
theorem dL_law_387 : decode cL_law 387 = .ok (.invokevirtual 31, 3) := dgL_law_10.2.1
theorem dL_law_390 : decode cL_law 390 = .ok (.pop, 1) := dgL_law_10.2.2.1
theorem dL_law_391 : decode cL_law 391 = .ok (.aload_n 2, 1) := dgL_law_10.2.2.2.1
theorem dL_law_392 : decode cL_law 392 = .ok (.aload_n 0, 1) := dgL_law_10.2.2.2.2.1
theorem dL_law_393 : decode cL_law 393 = .ok (.iload_n 3, 1) := dgL_law_10.2.2.2.2.2.1
theorem dL_law_394 : decode cL_law 394 = .ok (.iconst 1, 1) := dgL_law_10.2.2.2.2.2.2.1
theorem dL_law_395 : decode cL_law 395 = .ok (.iadd, 1) := dgL_law_10.2.2.2.2.2.2.2.1
theorem dL_law_396 : decode cL_law 396 = .ok (.iaload, 1) := dgL_law_10.2.2.2.2.2.2.2.2.1
theorem dL_law_397 : decode cL_law 397 = .ok (.aload_n 0, 1) := dgL_law_10.2.2.2.2.2.2.2.2.2.1
theorem dL_law_398 : decode cL_law 398 = .ok (.iload_n 3, 1) := dgL_law_10.2.2.2.2.2.2.2.2.2.2.1
theorem dL_law_399 : decode cL_law 399 = .ok (.iconst 2, 1) := dgL_law_10.2.2.2.2.2.2.2.2.2.2.2.1
theorem dL_law_400 : decode cL_law 400 = .ok (.iadd, 1) := dgL_law_10.2.2.2.2.2.2.2.2.2.2.2.2.1
theorem dL_law_401 : decode cL_law 401 = .ok (.iaload, 1) := dgL_law_10.2.2.2.2.2.2.2.2.2.2.2.2.2.1
theorem dL_law_402 : decode cL_law 402 = .ok (.invokevirtual 34, 3) := dgL_law_10.2.2.2.2.2.2.2.2.2.2.2.2.2.2.1
theorem dL_law_405 : decode cL_law 405 = .ok (.pop, 1) := dgL_law_10.2.2.2.2.2.2.2.2.2.2.2.2.2.2.2
theorem dgL_law_11 : decode cL_law 406 = .ok (.goto 1080, 3) ∧ decode cL_law 409 = .ok (.aload_n 1, 1) ∧ decode cL_law 410 = .ok (.aload_n 0, 1) ∧ decode cL_law 411 = .ok (.iload_n 3, 1) ∧ decode cL_law 412 = .ok (.iconst 1, 1) ∧ decode cL_law 413 = .ok (.iadd, 1) ∧ decode cL_law 414 = .ok (.iaload, 1) ∧ decode cL_law 415 = .ok (.aload_n 0, 1) ∧ decode cL_law 416 = .ok (.iload_n 3, 1) ∧ decode cL_law 417 = .ok (.iconst 2, 1) ∧ decode cL_law 418 = .ok (.iadd, 1) ∧ decode cL_law 419 = .ok (.iaload, 1) ∧ decode cL_law 420 = .ok (.aload_n 0, 1) ∧ decode cL_law 421 = .ok (.iload_n 3, 1) ∧ decode cL_law 422 = .ok (.iconst 3, 1) ∧ decode cL_law 423 = .ok (.iadd, 1) := by decide +kernel
theorem dL_law_406 : decode cL_law 406 = .ok (.goto 1080, 3) := dgL_law_11.1
theorem dL_law_409 : decode cL_law 409 = .ok (.aload_n 1, 1) := dgL_law_11.2.1
theorem dL_law_410 : decode cL_law 410 = .ok (.aload_n 0, 1) := dgL_law_11.2.2.1
theorem dL_law_411 : decode cL_law 411 = .ok (.iload_n 3, 1) := dgL_law_11.2.2.2.1
theorem dL_law_412 : decode cL_law 412 = .ok (.iconst 1, 1) := dgL_law_11.2.2.2.2.1
theorem dL_law_413 : decode cL_law 413 = .ok (.iadd, 1) := dgL_law_11.2.2.2.2.2.1
theorem dL_law_414 : decode cL_law 414 = .ok (.iaload, 1) := dgL_law_11.2.2.2.2.2.2.1
theorem dL_law_415 : decode cL_law 415 = .ok (.aload_n 0, 1) := dgL_law_11.2.2.2.2.2.2.2.1
theorem dL_law_416 : decode cL_law 416 = .ok (.iload_n 3, 1) := dgL_law_11.2.2.2.2.2.2.2.2.1
theorem dL_law_417 : decode cL_law 417 = .ok (.iconst 2, 1) := dgL_law_11.2.2.2.2.2.2.2.2.2.1
theorem dL_law_418 : decode cL_law 418 = .ok (.iadd, 1) := dgL_law_11.2.2.2.2.2.2.2.2.2.2.1
theorem dL_law_419 : decode cL_law 419 = .ok (.iaload, 1) := dgL_law_11.2.2.2.2.2.2.2.2.2.2.2.1
theorem dL_law_420 : decode cL_law 420 = .ok (.aload_n 0, 1) := dgL_law_11.2.2.2.2.2.2.2.2.2.2.2.2.1
theorem dL_law_421 : decode cL_law 421 = .ok (.iload_n 3, 1) := dgL_law_11.2.2.2.2.2.2.2.2.2.2.2.2.2.1
theorem dL_law_422 : decode cL_law 422 = .ok (.iconst 3, 1) := dgL_law_11.2.2.2.2.2.2.2.2.2.2.2.2.2.2.1
theorem dL_law_423 : decode cL_law 423 = .ok (.iadd, 1) := dgL_law_11.2.2.2.2.2.2.2.2.2.2.2.2.2.2.2
theorem dgL_law_12 : decode cL_law 424 = .ok (.iaload, 1) ∧ decode cL_law 425 = .ok (.invokevirtual 35, 3) ∧ decode cL_law 428 = .ok (.aload_n 2, 1) ∧ decode cL_law 429 = .ok (.aload_n 0, 1) ∧ decode cL_law 430 = .ok (.iload_n 3, 1) ∧ decode cL_law 431 = .ok (.iconst 1, 1) ∧ decode cL_law 432 = .ok (.iadd, 1) ∧ decode cL_law 433 = .ok (.iaload, 1) ∧ decode cL_law 434 = .ok (.aload_n 0, 1) ∧ decode cL_law 435 = .ok (.iload_n 3, 1) ∧ decode cL_law 436 = .ok (.iconst 2, 1) ∧ decode cL_law 437 = .ok (.iadd, 1) ∧ decode cL_law 438 = .ok (.iaload, 1) ∧ decode cL_law 439 = .ok (.aload_n 0, 1) ∧ decode cL_law 440 = .ok (.iload_n 3, 1) ∧ decode cL_law 441 = .ok (.iconst 3, 1) := by decide +kernel
theorem dL_law_424 : decode cL_law 424 = .ok (.iaload, 1) := dgL_law_12.1
theorem dL_law_425 : decode cL_law 425 = .ok (.invokevirtual 35, 3) := dgL_law_12.2.1
theorem dL_law_428 : decode cL_law 428 = .ok (.aload_n 2, 1) := dgL_law_12.2.2.1
theorem dL_law_429 : decode cL_law 429 = .ok (.aload_n 0, 1) := dgL_law_12.2.2.2.1
theorem dL_law_430 : decode cL_law 430 = .ok (.iload_n 3, 1) := dgL_law_12.2.2.2.2.1
theorem dL_law_431 : decode cL_law 431 = .ok (.iconst 1, 1) := dgL_law_12.2.2.2.2.2.1
theorem dL_law_432 : decode cL_law 432 = .ok (.iadd, 1) := dgL_law_12.2.2.2.2.2.2.1
theorem dL_law_433 : decode cL_law 433 = .ok (.iaload, 1) := dgL_law_12.2.2.2.2.2.2.2.1
theorem dL_law_434 : decode cL_law 434 = .ok (.aload_n 0, 1) := dgL_law_12.2.2.2.2.2.2.2.2.1
theorem dL_law_435 : decode cL_law 435 = .ok (.iload_n 3, 1) := dgL_law_12.2.2.2.2.2.2.2.2.2.1
theorem dL_law_436 : decode cL_law 436 = .ok (.iconst 2, 1) := dgL_law_12.2.2.2.2.2.2.2.2.2.2.1
theorem dL_law_437 : decode cL_law 437 = .ok (.iadd, 1) := dgL_law_12.2.2.2.2.2.2.2.2.2.2.2.1
theorem dL_law_438 : decode cL_law 438 = .ok (.iaload, 1) := dgL_law_12.2.2.2.2.2.2.2.2.2.2.2.2.1
theorem dL_law_439 : decode cL_law 439 = .ok (.aload_n 0, 1) := dgL_law_12.2.2.2.2.2.2.2.2.2.2.2.2.2.1
theorem dL_law_440 : decode cL_law 440 = .ok (.iload_n 3, 1) := dgL_law_12.2.2.2.2.2.2.2.2.2.2.2.2.2.2.1
theorem dL_law_441 : decode cL_law 441 = .ok (.iconst 3, 1) := dgL_law_12.2.2.2.2.2.2.2.2.2.2.2.2.2.2.2
theorem dgL_law_13 : decode cL_law 442 = .ok (.iadd, 1) ∧ decode cL_law 443 = .ok (.iaload, 1) ∧ decode cL_law 444 = .ok (.invokevirtual 38, 3) ∧ decode cL_law 447 = .ok (.if_icmp .eq 1039, 3) ∧ decode cL_law 450 = .ok (.iconst 0, 1) ∧ decode cL_law 451 = .ok (.ireturn, 1) ∧ decode cL_law 452 = .ok (.aload_n 1, 1) ∧ decode cL_law 453 = .ok (.aload_n 0, 1) ∧ decode cL_law 454 = .ok (.iload_n 3, 1) ∧ decode cL_law 455 = .ok (.iconst 1, 1) ∧ decode cL_law 456 = .ok (.iadd, 1) ∧ decode cL_law 457 = .ok (.iaload, 1) ∧ decode cL_law 458 = .ok (.invokevirtual 39, 3) ∧ decode cL_law 461 = .ok (.pop, 1) ∧ decode cL_law 462 = .ok (.aload_n 2, 1) ∧ decode cL_law 463 = .ok (.aload_n 0, 1) := by decide +kernel
theorem dL_law_442 : decode cL_law 442 = .ok (.iadd, 1) := dgL_law_13.1
theorem dL_law_443 : decode cL_law 443 = .ok (.iaload, 1) := dgL_law_13.2.1
theorem dL_law_444 : decode cL_law 444 = .ok (.invokevirtual 38, 3) := dgL_law_13.2.2.1
theorem dL_law_447 : decode cL_law 447 = .ok (.if_icmp .eq 1039, 3) := dgL_law_13.2.2.2.1
theorem dL_law_450 : decode cL_law 450 = .ok (.iconst 0, 1) := dgL_law_13.2.2.2.2.1
theorem dL_law_451 : decode cL_law 451 = .ok (.ireturn, 1) := dgL_law_13.2.2.2.2.2.1
theorem dL_law_452 : decode cL_law 452 = .ok (.aload_n 1, 1) := dgL_law_13.2.2.2.2.2.2.1
theorem dL_law_453 : decode cL_law 453 = .ok (.aload_n 0, 1) := dgL_law_13.2.2.2.2.2.2.2.1
theorem dL_law_454 : decode cL_law 454 = .ok (.iload_n 3, 1) := dgL_law_13.2.2.2.2.2.2.2.2.1
theorem dL_law_455 : decode cL_law 455 = .ok (.iconst 1, 1) := dgL_law_13.2.2.2.2.2.2.2.2.2.1
theorem dL_law_456 : decode cL_law 456 = .ok (.iadd, 1) := dgL_law_13.2.2.2.2.2.2.2.2.2.2.1
theorem dL_law_457 : decode cL_law 457 = .ok (.iaload, 1) := dgL_law_13.2.2.2.2.2.2.2.2.2.2.2.1
theorem dL_law_458 : decode cL_law 458 = .ok (.invokevirtual 39, 3) := dgL_law_13.2.2.2.2.2.2.2.2.2.2.2.2.1
theorem dL_law_461 : decode cL_law 461 = .ok (.pop, 1) := dgL_law_13.2.2.2.2.2.2.2.2.2.2.2.2.2.1
theorem dL_law_462 : decode cL_law 462 = .ok (.aload_n 2, 1) := dgL_law_13.2.2.2.2.2.2.2.2.2.2.2.2.2.2.1
theorem dL_law_463 : decode cL_law 463 = .ok (.aload_n 0, 1) := dgL_law_13.2.2.2.2.2.2.2.2.2.2.2.2.2.2.2
theorem dgL_law_14 : decode cL_law 464 = .ok (.iload_n 3, 1) ∧ decode cL_law 465 = .ok (.iconst 1, 1) ∧ decode cL_law 466 = .ok (.iadd, 1) ∧ decode cL_law 467 = .ok (.iaload, 1) ∧ decode cL_law 468 = .ok (.invokevirtual 43, 3) ∧ decode cL_law 471 = .ok (.pop, 1) ∧ decode cL_law 472 = .ok (.goto 1014, 3) ∧ decode cL_law 475 = .ok (.aload_n 1, 1) ∧ decode cL_law 476 = .ok (.aload_n 0, 1) ∧ decode cL_law 477 = .ok (.iload_n 3, 1) ∧ decode cL_law 478 = .ok (.iconst 1, 1) ∧ decode cL_law 479 = .ok (.iadd, 1) ∧ decode cL_law 480 = .ok (.iaload, 1) ∧ decode cL_law 481 = .ok (.aload_n 0, 1) ∧ decode cL_law 482 = .ok (.iload_n 3, 1) ∧ decode cL_law 483 = .ok (.iconst 2, 1) := by decide +kernel
theorem dL_law_464 : decode cL_law 464 = .ok (.iload_n 3, 1) := dgL_law_14.1
theorem dL_law_465 : decode cL_law 465 = .ok (.iconst 1, 1) := dgL_law_14.2.1
theorem dL_law_466 : decode cL_law 466 = .ok (.iadd, 1) := dgL_law_14.2.2.1
theorem dL_law_467 : decode cL_law 467 = .ok (.iaload, 1) := dgL_law_14.2.2.2.1
theorem dL_law_468 : decode cL_law 468 = .ok (.invokevirtual 43, 3) := dgL_law_14.2.2.2.2.1
theorem dL_law_471 : decode cL_law 471 = .ok (.pop, 1) := dgL_law_14.2.2.2.2.2.1
theorem dL_law_472 : decode cL_law 472 = .ok (.goto 1014, 3) := dgL_law_14.2.2.2.2.2.2.1
theorem dL_law_475 : decode cL_law 475 = .ok (.aload_n 1, 1) := dgL_law_14.2.2.2.2.2.2.2.1
theorem dL_law_476 : decode cL_law 476 = .ok (.aload_n 0, 1) := dgL_law_14.2.2.2.2.2.2.2.2.1
theorem dL_law_477 : decode cL_law 477 = .ok (.iload_n 3, 1) := dgL_law_14.2.2.2.2.2.2.2.2.2.1
theorem dL_law_478 : decode cL_law 478 = .ok (.iconst 1, 1) := dgL_law_14.2.2.2.2.2.2.2.2.2.2.1
theorem dL_law_479 : decode cL_law 479 = .ok (.iadd, 1) := dgL_law_14.2.2.2.2.2.2.2.2.2.2.2.1
theorem dL_law_480 : decode cL_law 480 = .ok (.iaload, 1) := dgL_law_14.2.2.2.2.2.2.2.2.2.2.2.2.1
theorem dL_law_481 : decode cL_law 481 = .ok (.aload_n 0, 1) := dgL_law_14.2.2.2.2.2.2.2.2.2.2.2.2.2.1
theorem dL_law_482 : decode cL_law 482 = .ok (.iload_n 3, 1) := dgL_law_14.2.2.2.2.2.2.2.2.2.2.2.2.2.2.1
theorem dL_law_483 : decode cL_law 483 = .ok (.iconst 2, 1) := dgL_law_14.2.2.2.2.2.2.2.2.2.2.2.2.2.2.2
theorem dgL_law_15 : decode cL_law 484 = .ok (.iadd, 1) ∧ decode cL_law 485 = .ok (.iaload, 1) ∧ decode cL_law 486 = .ok (.invokevirtual 44, 3) ∧ decode cL_law 489 = .ok (.pop, 1) ∧ decode cL_law 490 = .ok (.aload_n 2, 1) ∧ decode cL_law 491 = .ok (.aload_n 0, 1) ∧ decode cL_law 492 = .ok (.iload_n 3, 1) ∧ decode cL_law 493 = .ok (.iconst 1, 1) ∧ decode cL_law 494 = .ok (.iadd, 1) ∧ decode cL_law 495 = .ok (.iaload, 1) ∧ decode cL_law 496 = .ok (.aload_n 0, 1) ∧ decode cL_law 497 = .ok (.iload_n 3, 1) ∧ decode cL_law 498 = .ok (.iconst 2, 1) ∧ decode cL_law 499 = .ok (.iadd, 1) ∧ decode cL_law 500 = .ok (.iaload, 1) ∧ decode cL_law 501 = .ok (.invokevirtual 47, 3) := by decide +kernel
theorem dL_law_484 : decode cL_law 484 = .ok (.iadd, 1) := dgL_law_15.1
theorem dL_law_485 : decode cL_law 485 = .ok (.iaload, 1) := dgL_law_15.2.1
theorem dL_law_486 : decode cL_law 486 = .ok (.invokevirtual 44, 3) := dgL_law_15.2.2.1
theorem dL_law_489 : decode cL_law 489 = .ok (.pop, 1) := dgL_law_15.2.2.2.1
theorem dL_law_490 : decode cL_law 490 = .ok (.aload_n 2, 1) := dgL_law_15.2.2.2.2.1
theorem dL_law_491 : decode cL_law 491 = .ok (.aload_n 0, 1) := dgL_law_15.2.2.2.2.2.1
theorem dL_law_492 : decode cL_law 492 = .ok (.iload_n 3, 1) := dgL_law_15.2.2.2.2.2.2.1
theorem dL_law_493 : decode cL_law 493 = .ok (.iconst 1, 1) := dgL_law_15.2.2.2.2.2.2.2.1
theorem dL_law_494 : decode cL_law 494 = .ok (.iadd, 1) := dgL_law_15.2.2.2.2.2.2.2.2.1
theorem dL_law_495 : decode cL_law 495 = .ok (.iaload, 1) := dgL_law_15.2.2.2.2.2.2.2.2.2.1
theorem dL_law_496 : decode cL_law 496 = .ok (.aload_n 0, 1) := dgL_law_15.2.2.2.2.2.2.2.2.2.2.1
theorem dL_law_497 : decode cL_law 497 = .ok (.iload_n 3, 1) := dgL_law_15.2.2.2.2.2.2.2.2.2.2.2.1
theorem dL_law_498 : decode cL_law 498 = .ok (.iconst 2, 1) := dgL_law_15.2.2.2.2.2.2.2.2.2.2.2.2.1
theorem dL_law_499 : decode cL_law 499 = .ok (.iadd, 1) := dgL_law_15.2.2.2.2.2.2.2.2.2.2.2.2.2.1
theorem dL_law_500 : decode cL_law 500 = .ok (.iaload, 1) := dgL_law_15.2.2.2.2.2.2.2.2.2.2.2.2.2.2.1
theorem dL_law_501 : decode cL_law 501 = .ok (.invokevirtual 47, 3) := dgL_law_15.2.2.2.2.2.2.2.2.2.2.2.2.2.2.2
theorem dgL_law_16 : decode cL_law 504 = .ok (.pop, 1) ∧ decode cL_law 505 = .ok (.goto 981, 3) ∧ decode cL_law 508 = .ok (.aload_n 1, 1) ∧ decode cL_law 509 = .ok (.aload_n 0, 1) ∧ decode cL_law 510 = .ok (.iload_n 3, 1) ∧ decode cL_law 511 = .ok (.iconst 1, 1) ∧ decode cL_law 512 = .ok (.iadd, 1) ∧ decode cL_law 513 = .ok (.iaload, 1) ∧ decode cL_law 514 = .ok (.invokevirtual 48, 3) ∧ decode cL_law 517 = .ok (.pop, 1) ∧ decode cL_law 518 = .ok (.aload_n 2, 1) ∧ decode cL_law 519 = .ok (.aload_n 0, 1) ∧ decode cL_law 520 = .ok (.iload_n 3, 1) ∧ decode cL_law 521 = .ok (.iconst 1, 1) ∧ decode cL_law 522 = .ok (.iadd, 1) ∧ decode cL_law 523 = .ok (.iaload, 1) := by decide +kernel
theorem dL_law_504 : decode cL_law 504 = .ok (.pop, 1) := dgL_law_16.1
theorem dL_law_505 : decode cL_law 505 = .ok (.goto 981, 3) := dgL_law_16.2.1
theorem dL_law_508 : decode cL_law 508 = .ok (.aload_n 1, 1) := dgL_law_16.2.2.1
theorem dL_law_509 : decode cL_law 509 = .ok (.aload_n 0, 1) := dgL_law_16.2.2.2.1
theorem dL_law_510 : decode cL_law 510 = .ok (.iload_n 3, 1) := dgL_law_16.2.2.2.2.1
theorem dL_law_511 : decode cL_law 511 = .ok (.iconst 1, 1) := dgL_law_16.2.2.2.2.2.1
theorem dL_law_512 : decode cL_law 512 = .ok (.iadd, 1) := dgL_law_16.2.2.2.2.2.2.1
theorem dL_law_513 : decode cL_law 513 = .ok (.iaload, 1) := dgL_law_16.2.2.2.2.2.2.2.1
theorem dL_law_514 : decode cL_law 514 = .ok (.invokevirtual 48, 3) := dgL_law_16.2.2.2.2.2.2.2.2.1
theorem dL_law_517 : decode cL_law 517 = .ok (.pop, 1) := dgL_law_16.2.2.2.2.2.2.2.2.2.1
theorem dL_law_518 : decode cL_law 518 = .ok (.aload_n 2, 1) := dgL_law_16.2.2.2.2.2.2.2.2.2.2.1
theorem dL_law_519 : decode cL_law 519 = .ok (.aload_n 0, 1) := dgL_law_16.2.2.2.2.2.2.2.2.2.2.2.1
theorem dL_law_520 : decode cL_law 520 = .ok (.iload_n 3, 1) := dgL_law_16.2.2.2.2.2.2.2.2.2.2.2.2.1
theorem dL_law_521 : decode cL_law 521 = .ok (.iconst 1, 1) := dgL_law_16.2.2.2.2.2.2.2.2.2.2.2.2.2.1
theorem dL_law_522 : decode cL_law 522 = .ok (.iadd, 1) := dgL_law_16.2.2.2.2.2.2.2.2.2.2.2.2.2.2.1
theorem dL_law_523 : decode cL_law 523 = .ok (.iaload, 1) := dgL_law_16.2.2.2.2.2.2.2.2.2.2.2.2.2.2.2
theorem dgL_law_17 : decode cL_law 524 = .ok (.invokevirtual 51, 3) ∧ decode cL_law 527 = .ok (.pop, 1) ∧ decode cL_law 528 = .ok (.goto 958, 3) ∧ decode cL_law 531 = .ok (.aload_n 1, 1) ∧ decode cL_law 532 = .ok (.aload_n 0, 1) ∧ decode cL_law 533 = .ok (.iload_n 3, 1) ∧ decode cL_law 534 = .ok (.iconst 1, 1) ∧ decode cL_law 535 = .ok (.iadd, 1) ∧ decode cL_law 536 = .ok (.iaload, 1) ∧ decode cL_law 537 = .ok (.invokevirtual 52, 3) ∧ decode cL_law 540 = .ok (.pop, 1) ∧ decode cL_law 541 = .ok (.aload_n 2, 1) ∧ decode cL_law 542 = .ok (.aload_n 0, 1) ∧ decode cL_law 543 = .ok (.iload_n 3, 1) ∧ decode cL_law 544 = .ok (.iconst 1, 1) ∧ decode cL_law 545 = .ok (.iadd, 1) := by decide +kernel
theorem dL_law_524 : decode cL_law 524 = .ok (.invokevirtual 51, 3) := dgL_law_17.1
theorem dL_law_527 : decode cL_law 527 = .ok (.pop, 1) := dgL_law_17.2.1
theorem dL_law_528 : decode cL_law 528 = .ok (.goto 958, 3) := dgL_law_17.2.2.1
theorem dL_law_531 : decode cL_law 531 = .ok (.aload_n 1, 1) := dgL_law_17.2.2.2.1
theorem dL_law_532 : decode cL_law 532 = .ok (.aload_n 0, 1) := dgL_law_17.2.2.2.2.1
theorem dL_law_533 : decode cL_law 533 = .ok (.iload_n 3, 1) := dgL_law_17.2.2.2.2.2.1
theorem dL_law_534 : decode cL_law 534 = .ok (.iconst 1, 1) := dgL_law_17.2.2.2.2.2.2.1
theorem dL_law_535 : decode cL_law 535 = .ok (.iadd, 1) := dgL_law_17.2.2.2.2.2.2.2.1
theorem dL_law_536 : decode cL_law 536 = .ok (.iaload, 1) := dgL_law_17.2.2.2.2.2.2.2.2.1
theorem dL_law_537 : decode cL_law 537 = .ok (.invokevirtual 52, 3) := dgL_law_17.2.2.2.2.2.2.2.2.2.1
theorem dL_law_540 : decode cL_law 540 = .ok (.pop, 1) := dgL_law_17.2.2.2.2.2.2.2.2.2.2.1
theorem dL_law_541 : decode cL_law 541 = .ok (.aload_n 2, 1) := dgL_law_17.2.2.2.2.2.2.2.2.2.2.2.1
theorem dL_law_542 : decode cL_law 542 = .ok (.aload_n 0, 1) := dgL_law_17.2.2.2.2.2.2.2.2.2.2.2.2.1
theorem dL_law_543 : decode cL_law 543 = .ok (.iload_n 3, 1) := dgL_law_17.2.2.2.2.2.2.2.2.2.2.2.2.2.1
theorem dL_law_544 : decode cL_law 544 = .ok (.iconst 1, 1) := dgL_law_17.2.2.2.2.2.2.2.2.2.2.2.2.2.2.1
theorem dL_law_545 : decode cL_law 545 = .ok (.iadd, 1) := dgL_law_17.2.2.2.2.2.2.2.2.2.2.2.2.2.2.2
theorem dgL_law_18 : decode cL_law 546 = .ok (.iaload, 1) ∧ decode cL_law 547 = .ok (.invokevirtual 55, 3) ∧ decode cL_law 550 = .ok (.pop, 1) ∧ decode cL_law 551 = .ok (.goto 935, 3) ∧ decode cL_law 554 = .ok (.aload_n 1, 1) ∧ decode cL_law 555 = .ok (.aload_n 0, 1) ∧ decode cL_law 556 = .ok (.iload_n 3, 1) ∧ decode cL_law 557 = .ok (.iconst 1, 1) ∧ decode cL_law 558 = .ok (.iadd, 1) ∧ decode cL_law 559 = .ok (.iaload, 1) ∧ decode cL_law 560 = .ok (.invokevirtual 56, 3) ∧ decode cL_law 563 = .ok (.pop, 1) ∧ decode cL_law 564 = .ok (.aload_n 2, 1) ∧ decode cL_law 565 = .ok (.aload_n 0, 1) ∧ decode cL_law 566 = .ok (.iload_n 3, 1) ∧ decode cL_law 567 = .ok (.iconst 1, 1) := by decide +kernel
theorem dL_law_546 : decode cL_law 546 = .ok (.iaload, 1) := dgL_law_18.1
theorem dL_law_547 : decode cL_law 547 = .ok (.invokevirtual 55, 3) := dgL_law_18.2.1
theorem dL_law_550 : decode cL_law 550 = .ok (.pop, 1) := dgL_law_18.2.2.1
theorem dL_law_551 : decode cL_law 551 = .ok (.goto 935, 3) := dgL_law_18.2.2.2.1
theorem dL_law_554 : decode cL_law 554 = .ok (.aload_n 1, 1) := dgL_law_18.2.2.2.2.1
theorem dL_law_555 : decode cL_law 555 = .ok (.aload_n 0, 1) := dgL_law_18.2.2.2.2.2.1
theorem dL_law_556 : decode cL_law 556 = .ok (.iload_n 3, 1) := dgL_law_18.2.2.2.2.2.2.1
theorem dL_law_557 : decode cL_law 557 = .ok (.iconst 1, 1) := dgL_law_18.2.2.2.2.2.2.2.1
theorem dL_law_558 : decode cL_law 558 = .ok (.iadd, 1) := dgL_law_18.2.2.2.2.2.2.2.2.1
theorem dL_law_559 : decode cL_law 559 = .ok (.iaload, 1) := dgL_law_18.2.2.2.2.2.2.2.2.2.1
theorem dL_law_560 : decode cL_law 560 = .ok (.invokevirtual 56, 3) := dgL_law_18.2.2.2.2.2.2.2.2.2.2.1
theorem dL_law_563 : decode cL_law 563 = .ok (.pop, 1) := dgL_law_18.2.2.2.2.2.2.2.2.2.2.2.1
theorem dL_law_564 : decode cL_law 564 = .ok (.aload_n 2, 1) := dgL_law_18.2.2.2.2.2.2.2.2.2.2.2.2.1
theorem dL_law_565 : decode cL_law 565 = .ok (.aload_n 0, 1) := dgL_law_18.2.2.2.2.2.2.2.2.2.2.2.2.2.1
theorem dL_law_566 : decode cL_law 566 = .ok (.iload_n 3, 1) := dgL_law_18.2.2.2.2.2.2.2.2.2.2.2.2.2.2.1
theorem dL_law_567 : decode cL_law 567 = .ok (.iconst 1, 1) := dgL_law_18.2.2.2.2.2.2.2.2.2.2.2.2.2.2.2
theorem dgL_law_19 : decode cL_law 568 = .ok (.iadd, 1) ∧ decode cL_law 569 = .ok (.iaload, 1) ∧ decode cL_law 570 = .ok (.invokevirtual 59, 3) ∧ decode cL_law 573 = .ok (.pop, 1) ∧ decode cL_law 574 = .ok (.goto 912, 3) ∧ decode cL_law 577 = .ok (.aload_n 1, 1) ∧ decode cL_law 578 = .ok (.aload_n 0, 1) ∧ decode cL_law 579 = .ok (.iload_n 3, 1) ∧ decode cL_law 580 = .ok (.iconst 1, 1) ∧ decode cL_law 581 = .ok (.iadd, 1) ∧ decode cL_law 582 = .ok (.iaload, 1) ∧ decode cL_law 583 = .ok (.invokevirtual 60, 3) ∧ decode cL_law 586 = .ok (.pop, 1) ∧ decode cL_law 587 = .ok (.aload_n 2, 1) ∧ decode cL_law 588 = .ok (.aload_n 0, 1) ∧ decode cL_law 589 = .ok (.iload_n 3, 1) := by decide +kernel
theorem dL_law_568 : decode cL_law 568 = .ok (.iadd, 1) := dgL_law_19.1
theorem dL_law_569 : decode cL_law 569 = .ok (.iaload, 1) := dgL_law_19.2.1
theorem dL_law_570 : decode cL_law 570 = .ok (.invokevirtual 59, 3) := dgL_law_19.2.2.1
theorem dL_law_573 : decode cL_law 573 = .ok (.pop, 1) := dgL_law_19.2.2.2.1
theorem dL_law_574 : decode cL_law 574 = .ok (.goto 912, 3) := dgL_law_19.2.2.2.2.1
theorem dL_law_577 : decode cL_law 577 = .ok (.aload_n 1, 1) := dgL_law_19.2.2.2.2.2.1
theorem dL_law_578 : decode cL_law 578 = .ok (.aload_n 0, 1) := dgL_law_19.2.2.2.2.2.2.1
theorem dL_law_579 : decode cL_law 579 = .ok (.iload_n 3, 1) := dgL_law_19.2.2.2.2.2.2.2.1
theorem dL_law_580 : decode cL_law 580 = .ok (.iconst 1, 1) := dgL_law_19.2.2.2.2.2.2.2.2.1
theorem dL_law_581 : decode cL_law 581 = .ok (.iadd, 1) := dgL_law_19.2.2.2.2.2.2.2.2.2.1
theorem dL_law_582 : decode cL_law 582 = .ok (.iaload, 1) := dgL_law_19.2.2.2.2.2.2.2.2.2.2.1
theorem dL_law_583 : decode cL_law 583 = .ok (.invokevirtual 60, 3) := dgL_law_19.2.2.2.2.2.2.2.2.2.2.2.1
theorem dL_law_586 : decode cL_law 586 = .ok (.pop, 1) := dgL_law_19.2.2.2.2.2.2.2.2.2.2.2.2.1
theorem dL_law_587 : decode cL_law 587 = .ok (.aload_n 2, 1) := dgL_law_19.2.2.2.2.2.2.2.2.2.2.2.2.2.1
theorem dL_law_588 : decode cL_law 588 = .ok (.aload_n 0, 1) := dgL_law_19.2.2.2.2.2.2.2.2.2.2.2.2.2.2.1
theorem dL_law_589 : decode cL_law 589 = .ok (.iload_n 3, 1) := dgL_law_19.2.2.2.2.2.2.2.2.2.2.2.2.2.2.2
theorem dgL_law_20 : decode cL_law 590 = .ok (.iconst 1, 1) ∧ decode cL_law 591 = .ok (.iadd, 1) ∧ decode cL_law 592 = .ok (.iaload, 1) ∧ decode cL_law 593 = .ok (.invokevirtual 63, 3) ∧ decode cL_law 596 = .ok (.pop, 1) ∧ decode cL_law 597 = .ok (.goto 889, 3) ∧ decode cL_law 600 = .ok (.aload_n 1, 1) ∧ decode cL_law 601 = .ok (.aload_n 0, 1) ∧ decode cL_law 602 = .ok (.iload_n 3, 1) ∧ decode cL_law 603 = .ok (.iconst 1, 1) ∧ decode cL_law 604 = .ok (.iadd, 1) ∧ decode cL_law 605 = .ok (.iaload, 1) ∧ decode cL_law 606 = .ok (.invokevirtual 64, 3) ∧ decode cL_law 609 = .ok (.pop, 1) ∧ decode cL_law 610 = .ok (.aload_n 2, 1) ∧ decode cL_law 611 = .ok (.aload_n 0, 1) := by decide +kernel
theorem dL_law_590 : decode cL_law 590 = .ok (.iconst 1, 1) := dgL_law_20.1
theorem dL_law_591 : decode cL_law 591 = .ok (.iadd, 1) := dgL_law_20.2.1
theorem dL_law_592 : decode cL_law 592 = .ok (.iaload, 1) := dgL_law_20.2.2.1
theorem dL_law_593 : decode cL_law 593 = .ok (.invokevirtual 63, 3) := dgL_law_20.2.2.2.1
theorem dL_law_596 : decode cL_law 596 = .ok (.pop, 1) := dgL_law_20.2.2.2.2.1
theorem dL_law_597 : decode cL_law 597 = .ok (.goto 889, 3) := dgL_law_20.2.2.2.2.2.1
theorem dL_law_600 : decode cL_law 600 = .ok (.aload_n 1, 1) := dgL_law_20.2.2.2.2.2.2.1
theorem dL_law_601 : decode cL_law 601 = .ok (.aload_n 0, 1) := dgL_law_20.2.2.2.2.2.2.2.1
theorem dL_law_602 : decode cL_law 602 = .ok (.iload_n 3, 1) := dgL_law_20.2.2.2.2.2.2.2.2.1
theorem dL_law_603 : decode cL_law 603 = .ok (.iconst 1, 1) := dgL_law_20.2.2.2.2.2.2.2.2.2.1
theorem dL_law_604 : decode cL_law 604 = .ok (.iadd, 1) := dgL_law_20.2.2.2.2.2.2.2.2.2.2.1
theorem dL_law_605 : decode cL_law 605 = .ok (.iaload, 1) := dgL_law_20.2.2.2.2.2.2.2.2.2.2.2.1
theorem dL_law_606 : decode cL_law 606 = .ok (.invokevirtual 64, 3) := dgL_law_20.2.2.2.2.2.2.2.2.2.2.2.2.1
theorem dL_law_609 : decode cL_law 609 = .ok (.pop, 1) := dgL_law_20.2.2.2.2.2.2.2.2.2.2.2.2.2.1
theorem dL_law_610 : decode cL_law 610 = .ok (.aload_n 2, 1) := dgL_law_20.2.2.2.2.2.2.2.2.2.2.2.2.2.2.1
theorem dL_law_611 : decode cL_law 611 = .ok (.aload_n 0, 1) := dgL_law_20.2.2.2.2.2.2.2.2.2.2.2.2.2.2.2
theorem dgL_law_21 : decode cL_law 612 = .ok (.iload_n 3, 1) ∧ decode cL_law 613 = .ok (.iconst 1, 1) ∧ decode cL_law 614 = .ok (.iadd, 1) ∧ decode cL_law 615 = .ok (.iaload, 1) ∧ decode cL_law 616 = .ok (.invokevirtual 67, 3) ∧ decode cL_law 619 = .ok (.pop, 1) ∧ decode cL_law 620 = .ok (.goto 866, 3) ∧ decode cL_law 623 = .ok (.aload_n 1, 1) ∧ decode cL_law 624 = .ok (.aload_n 0, 1) ∧ decode cL_law 625 = .ok (.iload_n 3, 1) ∧ decode cL_law 626 = .ok (.iconst 1, 1) ∧ decode cL_law 627 = .ok (.iadd, 1) ∧ decode cL_law 628 = .ok (.iaload, 1) ∧ decode cL_law 629 = .ok (.invokevirtual 68, 3) ∧ decode cL_law 632 = .ok (.pop, 1) ∧ decode cL_law 633 = .ok (.aload_n 2, 1) := by decide +kernel
theorem dL_law_612 : decode cL_law 612 = .ok (.iload_n 3, 1) := dgL_law_21.1
theorem dL_law_613 : decode cL_law 613 = .ok (.iconst 1, 1) := dgL_law_21.2.1
theorem dL_law_614 : decode cL_law 614 = .ok (.iadd, 1) := dgL_law_21.2.2.1
theorem dL_law_615 : decode cL_law 615 = .ok (.iaload, 1) := dgL_law_21.2.2.2.1
theorem dL_law_616 : decode cL_law 616 = .ok (.invokevirtual 67, 3) := dgL_law_21.2.2.2.2.1
theorem dL_law_619 : decode cL_law 619 = .ok (.pop, 1) := dgL_law_21.2.2.2.2.2.1
theorem dL_law_620 : decode cL_law 620 = .ok (.goto 866, 3) := dgL_law_21.2.2.2.2.2.2.1
theorem dL_law_623 : decode cL_law 623 = .ok (.aload_n 1, 1) := dgL_law_21.2.2.2.2.2.2.2.1
theorem dL_law_624 : decode cL_law 624 = .ok (.aload_n 0, 1) := dgL_law_21.2.2.2.2.2.2.2.2.1
theorem dL_law_625 : decode cL_law 625 = .ok (.iload_n 3, 1) := dgL_law_21.2.2.2.2.2.2.2.2.2.1
theorem dL_law_626 : decode cL_law 626 = .ok (.iconst 1, 1) := dgL_law_21.2.2.2.2.2.2.2.2.2.2.1
theorem dL_law_627 : decode cL_law 627 = .ok (.iadd, 1) := dgL_law_21.2.2.2.2.2.2.2.2.2.2.2.1
theorem dL_law_628 : decode cL_law 628 = .ok (.iaload, 1) := dgL_law_21.2.2.2.2.2.2.2.2.2.2.2.2.1
theorem dL_law_629 : decode cL_law 629 = .ok (.invokevirtual 68, 3) := dgL_law_21.2.2.2.2.2.2.2.2.2.2.2.2.2.1
theorem dL_law_632 : decode cL_law 632 = .ok (.pop, 1) := dgL_law_21.2.2.2.2.2.2.2.2.2.2.2.2.2.2.1
theorem dL_law_633 : decode cL_law 633 = .ok (.aload_n 2, 1) := dgL_law_21.2.2.2.2.2.2.2.2.2.2.2.2.2.2.2
theorem dgL_law_22 : decode cL_law 634 = .ok (.aload_n 0, 1) ∧ decode cL_law 635 = .ok (.iload_n 3, 1) ∧ decode cL_law 636 = .ok (.iconst 1, 1) ∧ decode cL_law 637 = .ok (.iadd, 1) ∧ decode cL_law 638 = .ok (.iaload, 1) ∧ decode cL_law 639 = .ok (.invokevirtual 71, 3) ∧ decode cL_law 642 = .ok (.pop, 1) ∧ decode cL_law 643 = .ok (.goto 843, 3) ∧ decode cL_law 646 = .ok (.aload_n 1, 1) ∧ decode cL_law 647 = .ok (.aload_n 0, 1) ∧ decode cL_law 648 = .ok (.iload_n 3, 1) ∧ decode cL_law 649 = .ok (.iconst 1, 1) ∧ decode cL_law 650 = .ok (.iadd, 1) ∧ decode cL_law 651 = .ok (.iaload, 1) ∧ decode cL_law 652 = .ok (.aload_n 0, 1) ∧ decode cL_law 653 = .ok (.iload_n 3, 1) := by decide +kernel
theorem dL_law_634 : decode cL_law 634 = .ok (.aload_n 0, 1) := dgL_law_22.1
theorem dL_law_635 : decode cL_law 635 = .ok (.iload_n 3, 1) := dgL_law_22.2.1
theorem dL_law_636 : decode cL_law 636 = .ok (.iconst 1, 1) := dgL_law_22.2.2.1
theorem dL_law_637 : decode cL_law 637 = .ok (.iadd, 1) := dgL_law_22.2.2.2.1
theorem dL_law_638 : decode cL_law 638 = .ok (.iaload, 1) := dgL_law_22.2.2.2.2.1
theorem dL_law_639 : decode cL_law 639 = .ok (.invokevirtual 71, 3) := dgL_law_22.2.2.2.2.2.1
theorem dL_law_642 : decode cL_law 642 = .ok (.pop, 1) := dgL_law_22.2.2.2.2.2.2.1
theorem dL_law_643 : decode cL_law 643 = .ok (.goto 843, 3) := dgL_law_22.2.2.2.2.2.2.2.1
theorem dL_law_646 : decode cL_law 646 = .ok (.aload_n 1, 1) := dgL_law_22.2.2.2.2.2.2.2.2.1
theorem dL_law_647 : decode cL_law 647 = .ok (.aload_n 0, 1) := dgL_law_22.2.2.2.2.2.2.2.2.2.1
theorem dL_law_648 : decode cL_law 648 = .ok (.iload_n 3, 1) := dgL_law_22.2.2.2.2.2.2.2.2.2.2.1
theorem dL_law_649 : decode cL_law 649 = .ok (.iconst 1, 1) := dgL_law_22.2.2.2.2.2.2.2.2.2.2.2.1
theorem dL_law_650 : decode cL_law 650 = .ok (.iadd, 1) := dgL_law_22.2.2.2.2.2.2.2.2.2.2.2.2.1
theorem dL_law_651 : decode cL_law 651 = .ok (.iaload, 1) := dgL_law_22.2.2.2.2.2.2.2.2.2.2.2.2.2.1
theorem dL_law_652 : decode cL_law 652 = .ok (.aload_n 0, 1) := dgL_law_22.2.2.2.2.2.2.2.2.2.2.2.2.2.2.1
theorem dL_law_653 : decode cL_law 653 = .ok (.iload_n 3, 1) := dgL_law_22.2.2.2.2.2.2.2.2.2.2.2.2.2.2.2
theorem dgL_law_23 : decode cL_law 654 = .ok (.iconst 2, 1) ∧ decode cL_law 655 = .ok (.iadd, 1) ∧ decode cL_law 656 = .ok (.iaload, 1) ∧ decode cL_law 657 = .ok (.invokevirtual 72, 3) ∧ decode cL_law 660 = .ok (.pop, 1) ∧ decode cL_law 661 = .ok (.aload_n 2, 1) ∧ decode cL_law 662 = .ok (.aload_n 0, 1) ∧ decode cL_law 663 = .ok (.iload_n 3, 1) ∧ decode cL_law 664 = .ok (.iconst 1, 1) ∧ decode cL_law 665 = .ok (.iadd, 1) ∧ decode cL_law 666 = .ok (.iaload, 1) ∧ decode cL_law 667 = .ok (.aload_n 0, 1) ∧ decode cL_law 668 = .ok (.iload_n 3, 1) ∧ decode cL_law 669 = .ok (.iconst 2, 1) ∧ decode cL_law 670 = .ok (.iadd, 1) ∧ decode cL_law 671 = .ok (.iaload, 1) := by decide +kernel
theorem dL_law_654 : decode cL_law 654 = .ok (.iconst 2, 1) := dgL_law_23.1
theorem dL_law_655 : decode cL_law 655 = .ok (.iadd, 1) := dgL_law_23.2.1
theorem dL_law_656 : decode cL_law 656 = .ok (.iaload, 1) := dgL_law_23.2.2.1
theorem dL_law_657 : decode cL_law 657 = .ok (.invokevirtual 72, 3) := dgL_law_23.2.2.2.1
theorem dL_law_660 : decode cL_law 660 = .ok (.pop, 1) := dgL_law_23.2.2.2.2.1
theorem dL_law_661 : decode cL_law 661 = .ok (.aload_n 2, 1) := dgL_law_23.2.2.2.2.2.1
theorem dL_law_662 : decode cL_law 662 = .ok (.aload_n 0, 1) := dgL_law_23.2.2.2.2.2.2.1
theorem dL_law_663 : decode cL_law 663 = .ok (.iload_n 3, 1) := dgL_law_23.2.2.2.2.2.2.2.1
theorem dL_law_664 : decode cL_law 664 = .ok (.iconst 1, 1) := dgL_law_23.2.2.2.2.2.2.2.2.1
theorem dL_law_665 : decode cL_law 665 = .ok (.iadd, 1) := dgL_law_23.2.2.2.2.2.2.2.2.2.1
theorem dL_law_666 : decode cL_law 666 = .ok (.iaload, 1) := dgL_law_23.2.2.2.2.2.2.2.2.2.2.1
theorem dL_law_667 : decode cL_law 667 = .ok (.aload_n 0, 1) := dgL_law_23.2.2.2.2.2.2.2.2.2.2.2.1
theorem dL_law_668 : decode cL_law 668 = .ok (.iload_n 3, 1) := dgL_law_23.2.2.2.2.2.2.2.2.2.2.2.2.1
theorem dL_law_669 : decode cL_law 669 = .ok (.iconst 2, 1) := dgL_law_23.2.2.2.2.2.2.2.2.2.2.2.2.2.1
theorem dL_law_670 : decode cL_law 670 = .ok (.iadd, 1) := dgL_law_23.2.2.2.2.2.2.2.2.2.2.2.2.2.2.1
theorem dL_law_671 : decode cL_law 671 = .ok (.iaload, 1) := dgL_law_23.2.2.2.2.2.2.2.2.2.2.2.2.2.2.2
theorem dgL_law_24 : decode cL_law 672 = .ok (.invokevirtual 75, 3) ∧ decode cL_law 675 = .ok (.pop, 1) ∧ decode cL_law 676 = .ok (.goto 810, 3) ∧ decode cL_law 679 = .ok (.aload_n 1, 1) ∧ decode cL_law 680 = .ok (.aload_n 0, 1) ∧ decode cL_law 681 = .ok (.iload_n 3, 1) ∧ decode cL_law 682 = .ok (.iconst 1, 1) ∧ decode cL_law 683 = .ok (.iadd, 1) ∧ decode cL_law 684 = .ok (.iaload, 1) ∧ decode cL_law 685 = .ok (.aload_n 0, 1) ∧ decode cL_law 686 = .ok (.iload_n 3, 1) ∧ decode cL_law 687 = .ok (.iconst 2, 1) ∧ decode cL_law 688 = .ok (.iadd, 1) ∧ decode cL_law 689 = .ok (.iaload, 1) ∧ decode cL_law 690 = .ok (.invokevirtual 76, 3) ∧ decode cL_law 693 = .ok (.pop, 1) := by decide +kernel
theorem dL_law_672 : decode cL_law 672 = .ok (.invokevirtual 75, 3) := dgL_law_24.1
theorem dL_law_675 : decode cL_law 675 = .ok (.pop, 1) := dgL_law_24.2.1
theorem dL_law_676 : decode cL_law 676 = .ok (.goto 810, 3) := dgL_law_24.2.2.1
theorem dL_law_679 : decode cL_law 679 = .ok (.aload_n 1, 1) := dgL_law_24.2.2.2.1
theorem dL_law_680 : decode cL_law 680 = .ok (.aload_n 0, 1) := dgL_law_24.2.2.2.2.1
theorem dL_law_681 : decode cL_law 681 = .ok (.iload_n 3, 1) := dgL_law_24.2.2.2.2.2.1
theorem dL_law_682 : decode cL_law 682 = .ok (.iconst 1, 1) := dgL_law_24.2.2.2.2.2.2.1
theorem dL_law_683 : decode cL_law 683 = .ok (.iadd, 1) := dgL_law_24.2.2.2.2.2.2.2.1
theorem dL_law_684 : decode cL_law 684 = .ok (.iaload, 1) := dgL_law_24.2.2.2.2.2.2.2.2.1
theorem dL_law_685 : decode cL_law 685 = .ok (.aload_n 0, 1) := dgL_law_24.2.2.2.2.2.2.2.2.2.1
theorem dL_law_686 : decode cL_law 686 = .ok (.iload_n 3, 1) := dgL_law_24.2.2.2.2.2.2.2.2.2.2.1
theorem dL_law_687 : decode cL_law 687 = .ok (.iconst 2, 1) := dgL_law_24.2.2.2.2.2.2.2.2.2.2.2.1
theorem dL_law_688 : decode cL_law 688 = .ok (.iadd, 1) := dgL_law_24.2.2.2.2.2.2.2.2.2.2.2.2.1
theorem dL_law_689 : decode cL_law 689 = .ok (.iaload, 1) := dgL_law_24.2.2.2.2.2.2.2.2.2.2.2.2.2.1
theorem dL_law_690 : decode cL_law 690 = .ok (.invokevirtual 76, 3) := dgL_law_24.2.2.2.2.2.2.2.2.2.2.2.2.2.2.1
theorem dL_law_693 : decode cL_law 693 = .ok (.pop, 1) := dgL_law_24.2.2.2.2.2.2.2.2.2.2.2.2.2.2.2
theorem dgL_law_25 : decode cL_law 694 = .ok (.aload_n 2, 1) ∧ decode cL_law 695 = .ok (.aload_n 0, 1) ∧ decode cL_law 696 = .ok (.iload_n 3, 1) ∧ decode cL_law 697 = .ok (.iconst 1, 1) ∧ decode cL_law 698 = .ok (.iadd, 1) ∧ decode cL_law 699 = .ok (.iaload, 1) ∧ decode cL_law 700 = .ok (.aload_n 0, 1) ∧ decode cL_law 701 = .ok (.iload_n 3, 1) ∧ decode cL_law 702 = .ok (.iconst 2, 1) ∧ decode cL_law 703 = .ok (.iadd, 1) ∧ decode cL_law 704 = .ok (.iaload, 1) ∧ decode cL_law 705 = .ok (.invokevirtual 79, 3) ∧ decode cL_law 708 = .ok (.pop, 1) ∧ decode cL_law 709 = .ok (.goto 777, 3) ∧ decode cL_law 712 = .ok (.aload_n 1, 1) ∧ decode cL_law 713 = .ok (.invokevirtual 80, 3) := by decide +kernel
theorem dL_law_694 : decode cL_law 694 = .ok (.aload_n 2, 1) := dgL_law_25.1
theorem dL_law_695 : decode cL_law 695 = .ok (.aload_n 0, 1) := dgL_law_25.2.1
theorem dL_law_696 : decode cL_law 696 = .ok (.iload_n 3, 1) := dgL_law_25.2.2.1
theorem dL_law_697 : decode cL_law 697 = .ok (.iconst 1, 1) := dgL_law_25.2.2.2.1
theorem dL_law_698 : decode cL_law 698 = .ok (.iadd, 1) := dgL_law_25.2.2.2.2.1
theorem dL_law_699 : decode cL_law 699 = .ok (.iaload, 1) := dgL_law_25.2.2.2.2.2.1
theorem dL_law_700 : decode cL_law 700 = .ok (.aload_n 0, 1) := dgL_law_25.2.2.2.2.2.2.1
theorem dL_law_701 : decode cL_law 701 = .ok (.iload_n 3, 1) := dgL_law_25.2.2.2.2.2.2.2.1
theorem dL_law_702 : decode cL_law 702 = .ok (.iconst 2, 1) := dgL_law_25.2.2.2.2.2.2.2.2.1
theorem dL_law_703 : decode cL_law 703 = .ok (.iadd, 1) := dgL_law_25.2.2.2.2.2.2.2.2.2.1
theorem dL_law_704 : decode cL_law 704 = .ok (.iaload, 1) := dgL_law_25.2.2.2.2.2.2.2.2.2.2.1
theorem dL_law_705 : decode cL_law 705 = .ok (.invokevirtual 79, 3) := dgL_law_25.2.2.2.2.2.2.2.2.2.2.2.1
theorem dL_law_708 : decode cL_law 708 = .ok (.pop, 1) := dgL_law_25.2.2.2.2.2.2.2.2.2.2.2.2.1
theorem dL_law_709 : decode cL_law 709 = .ok (.goto 777, 3) := dgL_law_25.2.2.2.2.2.2.2.2.2.2.2.2.2.1
theorem dL_law_712 : decode cL_law 712 = .ok (.aload_n 1, 1) := dgL_law_25.2.2.2.2.2.2.2.2.2.2.2.2.2.2.1
theorem dL_law_713 : decode cL_law 713 = .ok (.invokevirtual 80, 3) := dgL_law_25.2.2.2.2.2.2.2.2.2.2.2.2.2.2.2
theorem dgL_law_26 : decode cL_law 716 = .ok (.pop, 1) ∧ decode cL_law 717 = .ok (.aload_n 2, 1) ∧ decode cL_law 718 = .ok (.invokevirtual 84, 3) ∧ decode cL_law 721 = .ok (.pop, 1) ∧ decode cL_law 722 = .ok (.goto 764, 3) ∧ decode cL_law 725 = .ok (.aload_n 1, 1) ∧ decode cL_law 726 = .ok (.aload_n 0, 1) ∧ decode cL_law 727 = .ok (.iload_n 3, 1) ∧ decode cL_law 728 = .ok (.iconst 1, 1) ∧ decode cL_law 729 = .ok (.iadd, 1) ∧ decode cL_law 730 = .ok (.iaload, 1) ∧ decode cL_law 731 = .ok (.invokevirtual 85, 3) ∧ decode cL_law 734 = .ok (.pop, 1) ∧ decode cL_law 735 = .ok (.aload_n 2, 1) ∧ decode cL_law 736 = .ok (.aload_n 0, 1) ∧ decode cL_law 737 = .ok (.iload_n 3, 1) := by decide +kernel
theorem dL_law_716 : decode cL_law 716 = .ok (.pop, 1) := dgL_law_26.1
theorem dL_law_717 : decode cL_law 717 = .ok (.aload_n 2, 1) := dgL_law_26.2.1
theorem dL_law_718 : decode cL_law 718 = .ok (.invokevirtual 84, 3) := dgL_law_26.2.2.1
theorem dL_law_721 : decode cL_law 721 = .ok (.pop, 1) := dgL_law_26.2.2.2.1
theorem dL_law_722 : decode cL_law 722 = .ok (.goto 764, 3) := dgL_law_26.2.2.2.2.1
theorem dL_law_725 : decode cL_law 725 = .ok (.aload_n 1, 1) := dgL_law_26.2.2.2.2.2.1
theorem dL_law_726 : decode cL_law 726 = .ok (.aload_n 0, 1) := dgL_law_26.2.2.2.2.2.2.1
theorem dL_law_727 : decode cL_law 727 = .ok (.iload_n 3, 1) := dgL_law_26.2.2.2.2.2.2.2.1
theorem dL_law_728 : decode cL_law 728 = .ok (.iconst 1, 1) := dgL_law_26.2.2.2.2.2.2.2.2.1
theorem dL_law_729 : decode cL_law 729 = .ok (.iadd, 1) := dgL_law_26.2.2.2.2.2.2.2.2.2.1
theorem dL_law_730 : decode cL_law 730 = .ok (.iaload, 1) := dgL_law_26.2.2.2.2.2.2.2.2.2.2.1
theorem dL_law_731 : decode cL_law 731 = .ok (.invokevirtual 85, 3) := dgL_law_26.2.2.2.2.2.2.2.2.2.2.2.1
theorem dL_law_734 : decode cL_law 734 = .ok (.pop, 1) := dgL_law_26.2.2.2.2.2.2.2.2.2.2.2.2.1
theorem dL_law_735 : decode cL_law 735 = .ok (.aload_n 2, 1) := dgL_law_26.2.2.2.2.2.2.2.2.2.2.2.2.2.1
theorem dL_law_736 : decode cL_law 736 = .ok (.aload_n 0, 1) := dgL_law_26.2.2.2.2.2.2.2.2.2.2.2.2.2.2.1
theorem dL_law_737 : decode cL_law 737 = .ok (.iload_n 3, 1) := dgL_law_26.2.2.2.2.2.2.2.2.2.2.2.2.2.2.2
theorem dgL_law_27 : decode cL_law 738 = .ok (.iconst 1, 1) ∧ decode cL_law 739 = .ok (.iadd, 1) ∧ decode cL_law 740 = .ok (.iaload, 1) ∧ decode cL_law 741 = .ok (.invokevirtual 88, 3) ∧ decode cL_law 744 = .ok (.pop, 1) ∧ decode cL_law 745 = .ok (.goto 741, 3) ∧ decode cL_law 748 = .ok (.aload_n 1, 1) ∧ decode cL_law 749 = .ok (.aload_n 0, 1) ∧ decode cL_law 750 = .ok (.iload_n 3, 1) ∧ decode cL_law 751 = .ok (.iconst 1, 1) ∧ decode cL_law 752 = .ok (.iadd, 1) ∧ decode cL_law 753 = .ok (.iaload, 1) ∧ decode cL_law 754 = .ok (.invokevirtual 89, 3) ∧ decode cL_law 757 = .ok (.pop, 1) ∧ decode cL_law 758 = .ok (.aload_n 2, 1) ∧ decode cL_law 759 = .ok (.aload_n 0, 1) := by decide +kernel
theorem dL_law_738 : decode cL_law 738 = .ok (.iconst 1, 1) := dgL_law_27.1
theorem dL_law_739 : decode cL_law 739 = .ok (.iadd, 1) := dgL_law_27.2.1
theorem dL_law_740 : decode cL_law 740 = .ok (.iaload, 1) := dgL_law_27.2.2.1
theorem dL_law_741 : decode cL_law 741 = .ok (.invokevirtual 88, 3) := dgL_law_27.2.2.2.1
theorem dL_law_744 : decode cL_law 744 = .ok (.pop, 1) := dgL_law_27.2.2.2.2.1
theorem dL_law_745 : decode cL_law 745 = .ok (.goto 741, 3) := dgL_law_27.2.2.2.2.2.1
theorem dL_law_748 : decode cL_law 748 = .ok (.aload_n 1, 1) := dgL_law_27.2.2.2.2.2.2.1
theorem dL_law_749 : decode cL_law 749 = .ok (.aload_n 0, 1) := dgL_law_27.2.2.2.2.2.2.2.1
theorem dL_law_750 : decode cL_law 750 = .ok (.iload_n 3, 1) := dgL_law_27.2.2.2.2.2.2.2.2.1
theorem dL_law_751 : decode cL_law 751 = .ok (.iconst 1, 1) := dgL_law_27.2.2.2.2.2.2.2.2.2.1
theorem dL_law_752 : decode cL_law 752 = .ok (.iadd, 1) := dgL_law_27.2.2.2.2.2.2.2.2.2.2.1
theorem dL_law_753 : decode cL_law 753 = .ok (.iaload, 1) := dgL_law_27.2.2.2.2.2.2.2.2.2.2.2.1
theorem dL_law_754 : decode cL_law 754 = .ok (.invokevirtual 89, 3) := dgL_law_27.2.2.2.2.2.2.2.2.2.2.2.2.1
theorem dL_law_757 : decode cL_law 757 = .ok (.pop, 1) := dgL_law_27.2.2.2.2.2.2.2.2.2.2.2.2.2.1
theorem dL_law_758 : decode cL_law 758 = .ok (.aload_n 2, 1) := dgL_law_27.2.2.2.2.2.2.2.2.2.2.2.2.2.2.1
theorem dL_law_759 : decode cL_law 759 = .ok (.aload_n 0, 1) := dgL_law_27.2.2.2.2.2.2.2.2.2.2.2.2.2.2.2
theorem dgL_law_28 : decode cL_law 760 = .ok (.iload_n 3, 1) ∧ decode cL_law 761 = .ok (.iconst 1, 1) ∧ decode cL_law 762 = .ok (.iadd, 1) ∧ decode cL_law 763 = .ok (.iaload, 1) ∧ decode cL_law 764 = .ok (.invokevirtual 92, 3) ∧ decode cL_law 767 = .ok (.pop, 1) ∧ decode cL_law 768 = .ok (.goto 718, 3) ∧ decode cL_law 771 = .ok (.aload_n 1, 1) ∧ decode cL_law 772 = .ok (.aload_n 0, 1) ∧ decode cL_law 773 = .ok (.iload_n 3, 1) ∧ decode cL_law 774 = .ok (.iconst 1, 1) ∧ decode cL_law 775 = .ok (.iadd, 1) ∧ decode cL_law 776 = .ok (.iaload, 1) ∧ decode cL_law 777 = .ok (.aload_n 0, 1) ∧ decode cL_law 778 = .ok (.iload_n 3, 1) ∧ decode cL_law 779 = .ok (.iconst 2, 1) := by decide +kernel
theorem dL_law_760 : decode cL_law 760 = .ok (.iload_n 3, 1) := dgL_law_28.1
theorem dL_law_761 : decode cL_law 761 = .ok (.iconst 1, 1) := dgL_law_28.2.1
theorem dL_law_762 : decode cL_law 762 = .ok (.iadd, 1) := dgL_law_28.2.2.1
theorem dL_law_763 : decode cL_law 763 = .ok (.iaload, 1) := dgL_law_28.2.2.2.1
theorem dL_law_764 : decode cL_law 764 = .ok (.invokevirtual 92, 3) := dgL_law_28.2.2.2.2.1
theorem dL_law_767 : decode cL_law 767 = .ok (.pop, 1) := dgL_law_28.2.2.2.2.2.1
theorem dL_law_768 : decode cL_law 768 = .ok (.goto 718, 3) := dgL_law_28.2.2.2.2.2.2.1
theorem dL_law_771 : decode cL_law 771 = .ok (.aload_n 1, 1) := dgL_law_28.2.2.2.2.2.2.2.1
theorem dL_law_772 : decode cL_law 772 = .ok (.aload_n 0, 1) := dgL_law_28.2.2.2.2.2.2.2.2.1
theorem dL_law_773 : decode cL_law 773 = .ok (.iload_n 3, 1) := dgL_law_28.2.2.2.2.2.2.2.2.2.1
theorem dL_law_774 : decode cL_law 774 = .ok (.iconst 1, 1) := dgL_law_28.2.2.2.2.2.2.2.2.2.2.1
theorem dL_law_775 : decode cL_law 775 = .ok (.iadd, 1) := dgL_law_28.2.2.2.2.2.2.2.2.2.2.2.1
theorem dL_law_776 : decode cL_law 776 = .ok (.iaload, 1) := dgL_law_28.2.2.2.2.2.2.2.2.2.2.2.2.1
theorem dL_law_777 : decode cL_law 777 = .ok (.aload_n 0, 1) := dgL_law_28.2.2.2.2.2.2.2.2.2.2.2.2.2.1
theorem dL_law_778 : decode cL_law 778 = .ok (.iload_n 3, 1) := dgL_law_28.2.2.2.2.2.2.2.2.2.2.2.2.2.2.1
theorem dL_law_779 : decode cL_law 779 = .ok (.iconst 2, 1) := dgL_law_28.2.2.2.2.2.2.2.2.2.2.2.2.2.2.2
theorem dgL_law_29 : decode cL_law 780 = .ok (.iadd, 1) ∧ decode cL_law 781 = .ok (.iaload, 1) ∧ decode cL_law 782 = .ok (.invokevirtual 93, 3) ∧ decode cL_law 785 = .ok (.pop, 1) ∧ decode cL_law 786 = .ok (.aload_n 2, 1) ∧ decode cL_law 787 = .ok (.aload_n 0, 1) ∧ decode cL_law 788 = .ok (.iload_n 3, 1) ∧ decode cL_law 789 = .ok (.iconst 1, 1) ∧ decode cL_law 790 = .ok (.iadd, 1) ∧ decode cL_law 791 = .ok (.iaload, 1) ∧ decode cL_law 792 = .ok (.aload_n 0, 1) ∧ decode cL_law 793 = .ok (.iload_n 3, 1) ∧ decode cL_law 794 = .ok (.iconst 2, 1) ∧ decode cL_law 795 = .ok (.iadd, 1) ∧ decode cL_law 796 = .ok (.iaload, 1) ∧ decode cL_law 797 = .ok (.invokevirtual 96, 3) := by decide +kernel
theorem dL_law_780 : decode cL_law 780 = .ok (.iadd, 1) := dgL_law_29.1
theorem dL_law_781 : decode cL_law 781 = .ok (.iaload, 1) := dgL_law_29.2.1
theorem dL_law_782 : decode cL_law 782 = .ok (.invokevirtual 93, 3) := dgL_law_29.2.2.1
theorem dL_law_785 : decode cL_law 785 = .ok (.pop, 1) := dgL_law_29.2.2.2.1
theorem dL_law_786 : decode cL_law 786 = .ok (.aload_n 2, 1) := dgL_law_29.2.2.2.2.1
theorem dL_law_787 : decode cL_law 787 = .ok (.aload_n 0, 1) := dgL_law_29.2.2.2.2.2.1
theorem dL_law_788 : decode cL_law 788 = .ok (.iload_n 3, 1) := dgL_law_29.2.2.2.2.2.2.1
theorem dL_law_789 : decode cL_law 789 = .ok (.iconst 1, 1) := dgL_law_29.2.2.2.2.2.2.2.1
theorem dL_law_790 : decode cL_law 790 = .ok (.iadd, 1) := dgL_law_29.2.2.2.2.2.2.2.2.1
theorem dL_law_791 : decode cL_law 791 = .ok (.iaload, 1) := dgL_law_29.2.2.2.2.2.2.2.2.2.1
theorem dL_law_792 : decode cL_law 792 = .ok (.aload_n 0, 1) := dgL_law_29.2.2.2.2.2.2.2.2.2.2.1
theorem dL_law_793 : decode cL_law 793 = .ok (.iload_n 3, 1) := dgL_law_29.2.2.2.2.2.2.2.2.2.2.2.1
theorem dL_law_794 : decode cL_law 794 = .ok (.iconst 2, 1) := dgL_law_29.2.2.2.2.2.2.2.2.2.2.2.2.1
theorem dL_law_795 : decode cL_law 795 = .ok (.iadd, 1) := dgL_law_29.2.2.2.2.2.2.2.2.2.2.2.2.2.1
theorem dL_law_796 : decode cL_law 796 = .ok (.iaload, 1) := dgL_law_29.2.2.2.2.2.2.2.2.2.2.2.2.2.2.1
theorem dL_law_797 : decode cL_law 797 = .ok (.invokevirtual 96, 3) := dgL_law_29.2.2.2.2.2.2.2.2.2.2.2.2.2.2.2
theorem dgL_law_30 : decode cL_law 800 = .ok (.pop, 1) ∧ decode cL_law 801 = .ok (.goto 685, 3) ∧ decode cL_law 804 = .ok (.aload_n 1, 1) ∧ decode cL_law 805 = .ok (.invokevirtual 97, 3) ∧ decode cL_law 808 = .ok (.pop, 1) ∧ decode cL_law 809 = .ok (.aload_n 2, 1) ∧ decode cL_law 810 = .ok (.invokevirtual 100, 3) ∧ decode cL_law 813 = .ok (.pop, 1) ∧ decode cL_law 814 = .ok (.goto 672, 3) ∧ decode cL_law 817 = .ok (.aload_n 1, 1) ∧ decode cL_law 818 = .ok (.aload_n 0, 1) ∧ decode cL_law 819 = .ok (.iload_n 3, 1) ∧ decode cL_law 820 = .ok (.iconst 1, 1) ∧ decode cL_law 821 = .ok (.iadd, 1) ∧ decode cL_law 822 = .ok (.iaload, 1) ∧ decode cL_law 823 = .ok (.aload_n 0, 1) := by decide +kernel
theorem dL_law_800 : decode cL_law 800 = .ok (.pop, 1) := dgL_law_30.1
theorem dL_law_801 : decode cL_law 801 = .ok (.goto 685, 3) := dgL_law_30.2.1
theorem dL_law_804 : decode cL_law 804 = .ok (.aload_n 1, 1) := dgL_law_30.2.2.1
theorem dL_law_805 : decode cL_law 805 = .ok (.invokevirtual 97, 3) := dgL_law_30.2.2.2.1
theorem dL_law_808 : decode cL_law 808 = .ok (.pop, 1) := dgL_law_30.2.2.2.2.1
theorem dL_law_809 : decode cL_law 809 = .ok (.aload_n 2, 1) := dgL_law_30.2.2.2.2.2.1
theorem dL_law_810 : decode cL_law 810 = .ok (.invokevirtual 100, 3) := dgL_law_30.2.2.2.2.2.2.1
theorem dL_law_813 : decode cL_law 813 = .ok (.pop, 1) := dgL_law_30.2.2.2.2.2.2.2.1
theorem dL_law_814 : decode cL_law 814 = .ok (.goto 672, 3) := dgL_law_30.2.2.2.2.2.2.2.2.1
theorem dL_law_817 : decode cL_law 817 = .ok (.aload_n 1, 1) := dgL_law_30.2.2.2.2.2.2.2.2.2.1
theorem dL_law_818 : decode cL_law 818 = .ok (.aload_n 0, 1) := dgL_law_30.2.2.2.2.2.2.2.2.2.2.1
theorem dL_law_819 : decode cL_law 819 = .ok (.iload_n 3, 1) := dgL_law_30.2.2.2.2.2.2.2.2.2.2.2.1
theorem dL_law_820 : decode cL_law 820 = .ok (.iconst 1, 1) := dgL_law_30.2.2.2.2.2.2.2.2.2.2.2.2.1
theorem dL_law_821 : decode cL_law 821 = .ok (.iadd, 1) := dgL_law_30.2.2.2.2.2.2.2.2.2.2.2.2.2.1
theorem dL_law_822 : decode cL_law 822 = .ok (.iaload, 1) := dgL_law_30.2.2.2.2.2.2.2.2.2.2.2.2.2.2.1
theorem dL_law_823 : decode cL_law 823 = .ok (.aload_n 0, 1) := dgL_law_30.2.2.2.2.2.2.2.2.2.2.2.2.2.2.2
theorem dgL_law_31 : decode cL_law 824 = .ok (.iload_n 3, 1) ∧ decode cL_law 825 = .ok (.iconst 2, 1) ∧ decode cL_law 826 = .ok (.iadd, 1) ∧ decode cL_law 827 = .ok (.iaload, 1) ∧ decode cL_law 828 = .ok (.invokevirtual 101, 3) ∧ decode cL_law 831 = .ok (.pop, 1) ∧ decode cL_law 832 = .ok (.aload_n 2, 1) ∧ decode cL_law 833 = .ok (.aload_n 0, 1) ∧ decode cL_law 834 = .ok (.iload_n 3, 1) ∧ decode cL_law 835 = .ok (.iconst 1, 1) ∧ decode cL_law 836 = .ok (.iadd, 1) ∧ decode cL_law 837 = .ok (.iaload, 1) ∧ decode cL_law 838 = .ok (.aload_n 0, 1) ∧ decode cL_law 839 = .ok (.iload_n 3, 1) ∧ decode cL_law 840 = .ok (.iconst 2, 1) ∧ decode cL_law 841 = .ok (.iadd, 1) := by decide +kernel
theorem dL_law_824 : decode cL_law 824 = .ok (.iload_n 3, 1) := dgL_law_31.1
theorem dL_law_825 : decode cL_law 825 = .ok (.iconst 2, 1) := dgL_law_31.2.1
theorem dL_law_826 : decode cL_law 826 = .ok (.iadd, 1) := dgL_law_31.2.2.1
theorem dL_law_827 : decode cL_law 827 = .ok (.iaload, 1) := dgL_law_31.2.2.2.1
theorem dL_law_828 : decode cL_law 828 = .ok (.invokevirtual 101, 3) := dgL_law_31.2.2.2.2.1
theorem dL_law_831 : decode cL_law 831 = .ok (.pop, 1) := dgL_law_31.2.2.2.2.2.1
theorem dL_law_832 : decode cL_law 832 = .ok (.aload_n 2, 1) := dgL_law_31.2.2.2.2.2.2.1
theorem dL_law_833 : decode cL_law 833 = .ok (.aload_n 0, 1) := dgL_law_31.2.2.2.2.2.2.2.1
theorem dL_law_834 : decode cL_law 834 = .ok (.iload_n 3, 1) := dgL_law_31.2.2.2.2.2.2.2.2.1
theorem dL_law_835 : decode cL_law 835 = .ok (.iconst 1, 1) := dgL_law_31.2.2.2.2.2.2.2.2.2.1
theorem dL_law_836 : decode cL_law 836 = .ok (.iadd, 1) := dgL_law_31.2.2.2.2.2.2.2.2.2.2.1
theorem dL_law_837 : decode cL_law 837 = .ok (.iaload, 1) := dgL_law_31.2.2.2.2.2.2.2.2.2.2.2.1
theorem dL_law_838 : decode cL_law 838 = .ok (.aload_n 0, 1) := dgL_law_31.2.2.2.2.2.2.2.2.2.2.2.2.1
theorem dL_law_839 : decode cL_law 839 = .ok (.iload_n 3, 1) := dgL_law_31.2.2.2.2.2.2.2.2.2.2.2.2.2.1
theorem dL_law_840 : decode cL_law 840 = .ok (.iconst 2, 1) := dgL_law_31.2.2.2.2.2.2.2.2.2.2.2.2.2.2.1
theorem dL_law_841 : decode cL_law 841 = .ok (.iadd, 1) := dgL_law_31.2.2.2.2.2.2.2.2.2.2.2.2.2.2.2
theorem dgL_law_32 : decode cL_law 842 = .ok (.iaload, 1) ∧ decode cL_law 843 = .ok (.invokevirtual 104, 3) ∧ decode cL_law 846 = .ok (.pop, 1) ∧ decode cL_law 847 = .ok (.goto 639, 3) ∧ decode cL_law 850 = .ok (.aload_n 1, 1) ∧ decode cL_law 851 = .ok (.aload_n 0, 1) ∧ decode cL_law 852 = .ok (.iload_n 3, 1) ∧ decode cL_law 853 = .ok (.iconst 1, 1) ∧ decode cL_law 854 = .ok (.iadd, 1) ∧ decode cL_law 855 = .ok (.iaload, 1) ∧ decode cL_law 856 = .ok (.aload_n 0, 1) ∧ decode cL_law 857 = .ok (.iload_n 3, 1) ∧ decode cL_law 858 = .ok (.iconst 2, 1) ∧ decode cL_law 859 = .ok (.iadd, 1) ∧ decode cL_law 860 = .ok (.iaload, 1) ∧ decode cL_law 861 = .ok (.invokevirtual 105, 3) := by decide +kernel
theorem dL_law_842 : decode cL_law 842 = .ok (.iaload, 1) := dgL_law_32.1
theorem dL_law_843 : decode cL_law 843 = .ok (.invokevirtual 104, 3) := dgL_law_32.2.1
theorem dL_law_846 : decode cL_law 846 = .ok (.pop, 1) := dgL_law_32.2.2.1
theorem dL_law_847 : decode cL_law 847 = .ok (.goto 639, 3) := dgL_law_32.2.2.2.1
theorem dL_law_850 : decode cL_law 850 = .ok (.aload_n 1, 1) := dgL_law_32.2.2.2.2.1
theorem dL_law_851 : decode cL_law 851 = .ok (.aload_n 0, 1) := dgL_law_32.2.2.2.2.2.1
theorem dL_law_852 : decode cL_law 852 = .ok (.iload_n 3, 1) := dgL_law_32.2.2.2.2.2.2.1
theorem dL_law_853 : decode cL_law 853 = .ok (.iconst 1, 1) := dgL_law_32.2.2.2.2.2.2.2.1
theorem dL_law_854 : decode cL_law 854 = .ok (.iadd, 1) := dgL_law_32.2.2.2.2.2.2.2.2.1
theorem dL_law_855 : decode cL_law 855 = .ok (.iaload, 1) := dgL_law_32.2.2.2.2.2.2.2.2.2.1
theorem dL_law_856 : decode cL_law 856 = .ok (.aload_n 0, 1) := dgL_law_32.2.2.2.2.2.2.2.2.2.2.1
theorem dL_law_857 : decode cL_law 857 = .ok (.iload_n 3, 1) := dgL_law_32.2.2.2.2.2.2.2.2.2.2.2.1
theorem dL_law_858 : decode cL_law 858 = .ok (.iconst 2, 1) := dgL_law_32.2.2.2.2.2.2.2.2.2.2.2.2.1
theorem dL_law_859 : decode cL_law 859 = .ok (.iadd, 1) := dgL_law_32.2.2.2.2.2.2.2.2.2.2.2.2.2.1
theorem dL_law_860 : decode cL_law 860 = .ok (.iaload, 1) := dgL_law_32.2.2.2.2.2.2.2.2.2.2.2.2.2.2.1
theorem dL_law_861 : decode cL_law 861 = .ok (.invokevirtual 105, 3) := dgL_law_32.2.2.2.2.2.2.2.2.2.2.2.2.2.2.2
theorem dgL_law_33 : decode cL_law 864 = .ok (.pop, 1) ∧ decode cL_law 865 = .ok (.aload_n 2, 1) ∧ decode cL_law 866 = .ok (.aload_n 0, 1) ∧ decode cL_law 867 = .ok (.iload_n 3, 1) ∧ decode cL_law 868 = .ok (.iconst 1, 1) ∧ decode cL_law 869 = .ok (.iadd, 1) ∧ decode cL_law 870 = .ok (.iaload, 1) ∧ decode cL_law 871 = .ok (.aload_n 0, 1) ∧ decode cL_law 872 = .ok (.iload_n 3, 1) ∧ decode cL_law 873 = .ok (.iconst 2, 1) ∧ decode cL_law 874 = .ok (.iadd, 1) ∧ decode cL_law 875 = .ok (.iaload, 1) ∧ decode cL_law 876 = .ok (.invokevirtual 108, 3) ∧ decode cL_law 879 = .ok (.pop, 1) ∧ decode cL_law 880 = .ok (.goto 606, 3) ∧ decode cL_law 883 = .ok (.aload_n 1, 1) := by decide +kernel
theorem dL_law_864 : decode cL_law 864 = .ok (.pop, 1) := dgL_law_33.1
theorem dL_law_865 : decode cL_law 865 = .ok (.aload_n 2, 1) := dgL_law_33.2.1
theorem dL_law_866 : decode cL_law 866 = .ok (.aload_n 0, 1) := dgL_law_33.2.2.1
theorem dL_law_867 : decode cL_law 867 = .ok (.iload_n 3, 1) := dgL_law_33.2.2.2.1
theorem dL_law_868 : decode cL_law 868 = .ok (.iconst 1, 1) := dgL_law_33.2.2.2.2.1
theorem dL_law_869 : decode cL_law 869 = .ok (.iadd, 1) := dgL_law_33.2.2.2.2.2.1
theorem dL_law_870 : decode cL_law 870 = .ok (.iaload, 1) := dgL_law_33.2.2.2.2.2.2.1
theorem dL_law_871 : decode cL_law 871 = .ok (.aload_n 0, 1) := dgL_law_33.2.2.2.2.2.2.2.1
theorem dL_law_872 : decode cL_law 872 = .ok (.iload_n 3, 1) := dgL_law_33.2.2.2.2.2.2.2.2.1
theorem dL_law_873 : decode cL_law 873 = .ok (.iconst 2, 1) := dgL_law_33.2.2.2.2.2.2.2.2.2.1
theorem dL_law_874 : decode cL_law 874 = .ok (.iadd, 1) := dgL_law_33.2.2.2.2.2.2.2.2.2.2.1
theorem dL_law_875 : decode cL_law 875 = .ok (.iaload, 1) := dgL_law_33.2.2.2.2.2.2.2.2.2.2.2.1
theorem dL_law_876 : decode cL_law 876 = .ok (.invokevirtual 108, 3) := dgL_law_33.2.2.2.2.2.2.2.2.2.2.2.2.1
theorem dL_law_879 : decode cL_law 879 = .ok (.pop, 1) := dgL_law_33.2.2.2.2.2.2.2.2.2.2.2.2.2.1
theorem dL_law_880 : decode cL_law 880 = .ok (.goto 606, 3) := dgL_law_33.2.2.2.2.2.2.2.2.2.2.2.2.2.2.1
theorem dL_law_883 : decode cL_law 883 = .ok (.aload_n 1, 1) := dgL_law_33.2.2.2.2.2.2.2.2.2.2.2.2.2.2.2
theorem dgL_law_34 : decode cL_law 884 = .ok (.invokevirtual 109, 3) ∧ decode cL_law 887 = .ok (.pop, 1) ∧ decode cL_law 888 = .ok (.aload_n 2, 1) ∧ decode cL_law 889 = .ok (.invokevirtual 112, 3) ∧ decode cL_law 892 = .ok (.pop, 1) ∧ decode cL_law 893 = .ok (.goto 593, 3) ∧ decode cL_law 896 = .ok (.aload_n 1, 1) ∧ decode cL_law 897 = .ok (.aload_n 0, 1) ∧ decode cL_law 898 = .ok (.iload_n 3, 1) ∧ decode cL_law 899 = .ok (.iconst 1, 1) ∧ decode cL_law 900 = .ok (.iadd, 1) ∧ decode cL_law 901 = .ok (.iaload, 1) ∧ decode cL_law 902 = .ok (.invokevirtual 113, 3) ∧ decode cL_law 905 = .ok (.pop, 1) ∧ decode cL_law 906 = .ok (.aload_n 2, 1) ∧ decode cL_law 907 = .ok (.aload_n 0, 1) := by decide +kernel
theorem dL_law_884 : decode cL_law 884 = .ok (.invokevirtual 109, 3) := dgL_law_34.1
theorem dL_law_887 : decode cL_law 887 = .ok (.pop, 1) := dgL_law_34.2.1
theorem dL_law_888 : decode cL_law 888 = .ok (.aload_n 2, 1) := dgL_law_34.2.2.1
theorem dL_law_889 : decode cL_law 889 = .ok (.invokevirtual 112, 3) := dgL_law_34.2.2.2.1
theorem dL_law_892 : decode cL_law 892 = .ok (.pop, 1) := dgL_law_34.2.2.2.2.1
theorem dL_law_893 : decode cL_law 893 = .ok (.goto 593, 3) := dgL_law_34.2.2.2.2.2.1
theorem dL_law_896 : decode cL_law 896 = .ok (.aload_n 1, 1) := dgL_law_34.2.2.2.2.2.2.1
theorem dL_law_897 : decode cL_law 897 = .ok (.aload_n 0, 1) := dgL_law_34.2.2.2.2.2.2.2.1
theorem dL_law_898 : decode cL_law 898 = .ok (.iload_n 3, 1) := dgL_law_34.2.2.2.2.2.2.2.2.1
theorem dL_law_899 : decode cL_law 899 = .ok (.iconst 1, 1) := dgL_law_34.2.2.2.2.2.2.2.2.2.1
theorem dL_law_900 : decode cL_law 900 = .ok (.iadd, 1) := dgL_law_34.2.2.2.2.2.2.2.2.2.2.1
theorem dL_law_901 : decode cL_law 901 = .ok (.iaload, 1) := dgL_law_34.2.2.2.2.2.2.2.2.2.2.2.1
theorem dL_law_902 : decode cL_law 902 = .ok (.invokevirtual 113, 3) := dgL_law_34.2.2.2.2.2.2.2.2.2.2.2.2.1
theorem dL_law_905 : decode cL_law 905 = .ok (.pop, 1) := dgL_law_34.2.2.2.2.2.2.2.2.2.2.2.2.2.1
theorem dL_law_906 : decode cL_law 906 = .ok (.aload_n 2, 1) := dgL_law_34.2.2.2.2.2.2.2.2.2.2.2.2.2.2.1
theorem dL_law_907 : decode cL_law 907 = .ok (.aload_n 0, 1) := dgL_law_34.2.2.2.2.2.2.2.2.2.2.2.2.2.2.2
theorem dgL_law_35 : decode cL_law 908 = .ok (.iload_n 3, 1) ∧ decode cL_law 909 = .ok (.iconst 1, 1) ∧ decode cL_law 910 = .ok (.iadd, 1) ∧ decode cL_law 911 = .ok (.iaload, 1) ∧ decode cL_law 912 = .ok (.invokevirtual 116, 3) ∧ decode cL_law 915 = .ok (.pop, 1) ∧ decode cL_law 916 = .ok (.goto 570, 3) ∧ decode cL_law 919 = .ok (.aload_n 1, 1) ∧ decode cL_law 920 = .ok (.aload_n 0, 1) ∧ decode cL_law 921 = .ok (.iload_n 3, 1) ∧ decode cL_law 922 = .ok (.iconst 1, 1) ∧ decode cL_law 923 = .ok (.iadd, 1) ∧ decode cL_law 924 = .ok (.iaload, 1) ∧ decode cL_law 925 = .ok (.aload_n 0, 1) ∧ decode cL_law 926 = .ok (.iload_n 3, 1) ∧ decode cL_law 927 = .ok (.iconst 2, 1) := by decide +kernel
theorem dL_law_908 : decode cL_law 908 = .ok (.iload_n 3, 1) := dgL_law_35.1
theorem dL_law_909 : decode cL_law 909 = .ok (.iconst 1, 1) := dgL_law_35.2.1
theorem dL_law_910 : decode cL_law 910 = .ok (.iadd, 1) := dgL_law_35.2.2.1
theorem dL_law_911 : decode cL_law 911 = .ok (.iaload, 1) := dgL_law_35.2.2.2.1
theorem dL_law_912 : decode cL_law 912 = .ok (.invokevirtual 116, 3) := dgL_law_35.2.2.2.2.1
theorem dL_law_915 : decode cL_law 915 = .ok (.pop, 1) := dgL_law_35.2.2.2.2.2.1
theorem dL_law_916 : decode cL_law 916 = .ok (.goto 570, 3) := dgL_law_35.2.2.2.2.2.2.1
theorem dL_law_919 : decode cL_law 919 = .ok (.aload_n 1, 1) := dgL_law_35.2.2.2.2.2.2.2.1
theorem dL_law_920 : decode cL_law 920 = .ok (.aload_n 0, 1) := dgL_law_35.2.2.2.2.2.2.2.2.1
theorem dL_law_921 : decode cL_law 921 = .ok (.iload_n 3, 1) := dgL_law_35.2.2.2.2.2.2.2.2.2.1
theorem dL_law_922 : decode cL_law 922 = .ok (.iconst 1, 1) := dgL_law_35.2.2.2.2.2.2.2.2.2.2.1
theorem dL_law_923 : decode cL_law 923 = .ok (.iadd, 1) := dgL_law_35.2.2.2.2.2.2.2.2.2.2.2.1
theorem dL_law_924 : decode cL_law 924 = .ok (.iaload, 1) := dgL_law_35.2.2.2.2.2.2.2.2.2.2.2.2.1
theorem dL_law_925 : decode cL_law 925 = .ok (.aload_n 0, 1) := dgL_law_35.2.2.2.2.2.2.2.2.2.2.2.2.2.1
theorem dL_law_926 : decode cL_law 926 = .ok (.iload_n 3, 1) := dgL_law_35.2.2.2.2.2.2.2.2.2.2.2.2.2.2.1
theorem dL_law_927 : decode cL_law 927 = .ok (.iconst 2, 1) := dgL_law_35.2.2.2.2.2.2.2.2.2.2.2.2.2.2.2
theorem dgL_law_36 : decode cL_law 928 = .ok (.iadd, 1) ∧ decode cL_law 929 = .ok (.iaload, 1) ∧ decode cL_law 930 = .ok (.aload_n 0, 1) ∧ decode cL_law 931 = .ok (.iload_n 3, 1) ∧ decode cL_law 932 = .ok (.iconst 3, 1) ∧ decode cL_law 933 = .ok (.iadd, 1) ∧ decode cL_law 934 = .ok (.iaload, 1) ∧ decode cL_law 935 = .ok (.invokevirtual 117, 3) ∧ decode cL_law 938 = .ok (.pop, 1) ∧ decode cL_law 939 = .ok (.aload_n 2, 1) ∧ decode cL_law 940 = .ok (.aload_n 0, 1) ∧ decode cL_law 941 = .ok (.iload_n 3, 1) ∧ decode cL_law 942 = .ok (.iconst 1, 1) ∧ decode cL_law 943 = .ok (.iadd, 1) ∧ decode cL_law 944 = .ok (.iaload, 1) ∧ decode cL_law 945 = .ok (.aload_n 0, 1) := by decide +kernel
theorem dL_law_928 : decode cL_law 928 = .ok (.iadd, 1) := dgL_law_36.1
theorem dL_law_929 : decode cL_law 929 = .ok (.iaload, 1) := dgL_law_36.2.1
theorem dL_law_930 : decode cL_law 930 = .ok (.aload_n 0, 1) := dgL_law_36.2.2.1
theorem dL_law_931 : decode cL_law 931 = .ok (.iload_n 3, 1) := dgL_law_36.2.2.2.1
theorem dL_law_932 : decode cL_law 932 = .ok (.iconst 3, 1) := dgL_law_36.2.2.2.2.1
theorem dL_law_933 : decode cL_law 933 = .ok (.iadd, 1) := dgL_law_36.2.2.2.2.2.1
theorem dL_law_934 : decode cL_law 934 = .ok (.iaload, 1) := dgL_law_36.2.2.2.2.2.2.1
theorem dL_law_935 : decode cL_law 935 = .ok (.invokevirtual 117, 3) := dgL_law_36.2.2.2.2.2.2.2.1
theorem dL_law_938 : decode cL_law 938 = .ok (.pop, 1) := dgL_law_36.2.2.2.2.2.2.2.2.1
theorem dL_law_939 : decode cL_law 939 = .ok (.aload_n 2, 1) := dgL_law_36.2.2.2.2.2.2.2.2.2.1
theorem dL_law_940 : decode cL_law 940 = .ok (.aload_n 0, 1) := dgL_law_36.2.2.2.2.2.2.2.2.2.2.1
theorem dL_law_941 : decode cL_law 941 = .ok (.iload_n 3, 1) := dgL_law_36.2.2.2.2.2.2.2.2.2.2.2.1
theorem dL_law_942 : decode cL_law 942 = .ok (.iconst 1, 1) := dgL_law_36.2.2.2.2.2.2.2.2.2.2.2.2.1
theorem dL_law_943 : decode cL_law 943 = .ok (.iadd, 1) := dgL_law_36.2.2.2.2.2.2.2.2.2.2.2.2.2.1
theorem dL_law_944 : decode cL_law 944 = .ok (.iaload, 1) := dgL_law_36.2.2.2.2.2.2.2.2.2.2.2.2.2.2.1
theorem dL_law_945 : decode cL_law 945 = .ok (.aload_n 0, 1) := dgL_law_36.2.2.2.2.2.2.2.2.2.2.2.2.2.2.2
theorem dgL_law_37 : decode cL_law 946 = .ok (.iload_n 3, 1) ∧ decode cL_law 947 = .ok (.iconst 2, 1) ∧ decode cL_law 948 = .ok (.iadd, 1) ∧ decode cL_law 949 = .ok (.iaload, 1) ∧ decode cL_law 950 = .ok (.aload_n 0, 1) ∧ decode cL_law 951 = .ok (.iload_n 3, 1) ∧ decode cL_law 952 = .ok (.iconst 3, 1) ∧ decode cL_law 953 = .ok (.iadd, 1) ∧ decode cL_law 954 = .ok (.iaload, 1) ∧ decode cL_law 955 = .ok (.invokevirtual 120, 3) ∧ decode cL_law 958 = .ok (.pop, 1) ∧ decode cL_law 959 = .ok (.goto 527, 3) ∧ decode cL_law 962 = .ok (.aload_n 1, 1) ∧ decode cL_law 963 = .ok (.aload_n 0, 1) ∧ decode cL_law 964 = .ok (.iload_n 3, 1) ∧ decode cL_law 965 = .ok (.iconst 1, 1) := by decide +kernel
theorem dL_law_946 : decode cL_law 946 = .ok (.iload_n 3, 1) := dgL_law_37.1
theorem dL_law_947 : decode cL_law 947 = .ok (.iconst 2, 1) := dgL_law_37.2.1
theorem dL_law_948 : decode cL_law 948 = .ok (.iadd, 1) := dgL_law_37.2.2.1
theorem dL_law_949 : decode cL_law 949 = .ok (.iaload, 1) := dgL_law_37.2.2.2.1
theorem dL_law_950 : decode cL_law 950 = .ok (.aload_n 0, 1) := dgL_law_37.2.2.2.2.1
theorem dL_law_951 : decode cL_law 951 = .ok (.iload_n 3, 1) := dgL_law_37.2.2.2.2.2.1
theorem dL_law_952 : decode cL_law 952 = .ok (.iconst 3, 1) := dgL_law_37.2.2.2.2.2.2.1
theorem dL_law_953 : decode cL_law 953 = .ok (.iadd, 1) := dgL_law_37.2.2.2.2.2.2.2.1
theorem dL_law_954 : decode cL_law 954 = .ok (.iaload, 1) := dgL_law_37.2.2.2.2.2.2.2.2.1
theorem dL_law_955 : decode cL_law 955 = .ok (.invokevirtual 120, 3) := dgL_law_37.2.2.2.2.2.2.2.2.2.1
theorem dL_law_958 : decode cL_law 958 = .ok (.pop, 1) := dgL_law_37.2.2.2.2.2.2.2.2.2.2.1
theorem dL_law_959 : decode cL_law 959 = .ok (.goto 527, 3) := dgL_law_37.2.2.2.2.2.2.2.2.2.2.2.1
theorem dL_law_962 : decode cL_law 962 = .ok (.aload_n 1, 1) := dgL_law_37.2.2.2.2.2.2.2.2.2.2.2.2.1
theorem dL_law_963 : decode cL_law 963 = .ok (.aload_n 0, 1) := dgL_law_37.2.2.2.2.2.2.2.2.2.2.2.2.2.1
theorem dL_law_964 : decode cL_law 964 = .ok (.iload_n 3, 1) := dgL_law_37.2.2.2.2.2.2.2.2.2.2.2.2.2.2.1
theorem dL_law_965 : decode cL_law 965 = .ok (.iconst 1, 1) := dgL_law_37.2.2.2.2.2.2.2.2.2.2.2.2.2.2.2
theorem dgL_law_38 : decode cL_law 966 = .ok (.iadd, 1) ∧ decode cL_law 967 = .ok (.iaload, 1) ∧ decode cL_law 968 = .ok (.invokevirtual 121, 3) ∧ decode cL_law 971 = .ok (.pop, 1) ∧ decode cL_law 972 = .ok (.aload_n 2, 1) ∧ decode cL_law 973 = .ok (.aload_n 0, 1) ∧ decode cL_law 974 = .ok (.iload_n 3, 1) ∧ decode cL_law 975 = .ok (.iconst 1, 1) ∧ decode cL_law 976 = .ok (.iadd, 1) ∧ decode cL_law 977 = .ok (.iaload, 1) ∧ decode cL_law 978 = .ok (.invokevirtual 124, 3) ∧ decode cL_law 981 = .ok (.pop, 1) ∧ decode cL_law 982 = .ok (.goto 504, 3) ∧ decode cL_law 985 = .ok (.aload_n 1, 1) ∧ decode cL_law 986 = .ok (.invokevirtual 125, 3) ∧ decode cL_law 989 = .ok (.pop, 1) := by decide +kernel
theorem dL_law_966 : decode cL_law 966 = .ok (.iadd, 1) := dgL_law_38.1
theorem dL_law_967 : decode cL_law 967 = .ok (.iaload, 1) := dgL_law_38.2.1
theorem dL_law_968 : decode cL_law 968 = .ok (.invokevirtual 121, 3) := dgL_law_38.2.2.1
theorem dL_law_971 : decode cL_law 971 = .ok (.pop, 1) := dgL_law_38.2.2.2.1
theorem dL_law_972 : decode cL_law 972 = .ok (.aload_n 2, 1) := dgL_law_38.2.2.2.2.1
theorem dL_law_973 : decode cL_law 973 = .ok (.aload_n 0, 1) := dgL_law_38.2.2.2.2.2.1
theorem dL_law_974 : decode cL_law 974 = .ok (.iload_n 3, 1) := dgL_law_38.2.2.2.2.2.2.1
theorem dL_law_975 : decode cL_law 975 = .ok (.iconst 1, 1) := dgL_law_38.2.2.2.2.2.2.2.1
theorem dL_law_976 : decode cL_law 976 = .ok (.iadd, 1) := dgL_law_38.2.2.2.2.2.2.2.2.1
theorem dL_law_977 : decode cL_law 977 = .ok (.iaload, 1) := dgL_law_38.2.2.2.2.2.2.2.2.2.1
theorem dL_law_978 : decode cL_law 978 = .ok (.invokevirtual 124, 3) := dgL_law_38.2.2.2.2.2.2.2.2.2.2.1
theorem dL_law_981 : decode cL_law 981 = .ok (.pop, 1) := dgL_law_38.2.2.2.2.2.2.2.2.2.2.2.1
theorem dL_law_982 : decode cL_law 982 = .ok (.goto 504, 3) := dgL_law_38.2.2.2.2.2.2.2.2.2.2.2.2.1
theorem dL_law_985 : decode cL_law 985 = .ok (.aload_n 1, 1) := dgL_law_38.2.2.2.2.2.2.2.2.2.2.2.2.2.1
theorem dL_law_986 : decode cL_law 986 = .ok (.invokevirtual 125, 3) := dgL_law_38.2.2.2.2.2.2.2.2.2.2.2.2.2.2.1
theorem dL_law_989 : decode cL_law 989 = .ok (.pop, 1) := dgL_law_38.2.2.2.2.2.2.2.2.2.2.2.2.2.2.2
theorem dgL_law_39 : decode cL_law 990 = .ok (.aload_n 2, 1) ∧ decode cL_law 991 = .ok (.invokevirtual 128, 3) ∧ decode cL_law 994 = .ok (.pop, 1) ∧ decode cL_law 995 = .ok (.goto 491, 3) ∧ decode cL_law 998 = .ok (.aload_n 1, 1) ∧ decode cL_law 999 = .ok (.aload_n 0, 1) ∧ decode cL_law 1000 = .ok (.iload_n 3, 1) ∧ decode cL_law 1001 = .ok (.iconst 1, 1) ∧ decode cL_law 1002 = .ok (.iadd, 1) ∧ decode cL_law 1003 = .ok (.iaload, 1) ∧ decode cL_law 1004 = .ok (.aload_n 0, 1) ∧ decode cL_law 1005 = .ok (.iload_n 3, 1) ∧ decode cL_law 1006 = .ok (.iconst 2, 1) ∧ decode cL_law 1007 = .ok (.iadd, 1) ∧ decode cL_law 1008 = .ok (.iaload, 1) ∧ decode cL_law 1009 = .ok (.invokevirtual 129, 3) := by decide +kernel
theorem dL_law_990 : decode cL_law 990 = .ok (.aload_n 2, 1) := dgL_law_39.1
theorem dL_law_991 : decode cL_law 991 = .ok (.invokevirtual 128, 3) := dgL_law_39.2.1
theorem dL_law_994 : decode cL_law 994 = .ok (.pop, 1) := dgL_law_39.2.2.1
theorem dL_law_995 : decode cL_law 995 = .ok (.goto 491, 3) := dgL_law_39.2.2.2.1
theorem dL_law_998 : decode cL_law 998 = .ok (.aload_n 1, 1) := dgL_law_39.2.2.2.2.1
theorem dL_law_999 : decode cL_law 999 = .ok (.aload_n 0, 1) := dgL_law_39.2.2.2.2.2.1
theorem dL_law_1000 : decode cL_law 1000 = .ok (.iload_n 3, 1) := dgL_law_39.2.2.2.2.2.2.1
theorem dL_law_1001 : decode cL_law 1001 = .ok (.iconst 1, 1) := dgL_law_39.2.2.2.2.2.2.2.1
theorem dL_law_1002 : decode cL_law 1002 = .ok (.iadd, 1) := dgL_law_39.2.2.2.2.2.2.2.2.1
theorem dL_law_1003 : decode cL_law 1003 = .ok (.iaload, 1) := dgL_law_39.2.2.2.2.2.2.2.2.2.1
theorem dL_law_1004 : decode cL_law 1004 = .ok (.aload_n 0, 1) := dgL_law_39.2.2.2.2.2.2.2.2.2.2.1
theorem dL_law_1005 : decode cL_law 1005 = .ok (.iload_n 3, 1) := dgL_law_39.2.2.2.2.2.2.2.2.2.2.2.1
theorem dL_law_1006 : decode cL_law 1006 = .ok (.iconst 2, 1) := dgL_law_39.2.2.2.2.2.2.2.2.2.2.2.2.1
theorem dL_law_1007 : decode cL_law 1007 = .ok (.iadd, 1) := dgL_law_39.2.2.2.2.2.2.2.2.2.2.2.2.2.1
theorem dL_law_1008 : decode cL_law 1008 = .ok (.iaload, 1) := dgL_law_39.2.2.2.2.2.2.2.2.2.2.2.2.2.2.1
theorem dL_law_1009 : decode cL_law 1009 = .ok (.invokevirtual 129, 3) := dgL_law_39.2.2.2.2.2.2.2.2.2.2.2.2.2.2.2
theorem dgL_law_40 : decode cL_law 1012 = .ok (.pop, 1) ∧ decode cL_law 1013 = .ok (.aload_n 2, 1) ∧ decode cL_law 1014 = .ok (.aload_n 0, 1) ∧ decode cL_law 1015 = .ok (.iload_n 3, 1) ∧ decode cL_law 1016 = .ok (.iconst 1, 1) ∧ decode cL_law 1017 = .ok (.iadd, 1) ∧ decode cL_law 1018 = .ok (.iaload, 1) ∧ decode cL_law 1019 = .ok (.aload_n 0, 1) ∧ decode cL_law 1020 = .ok (.iload_n 3, 1) ∧ decode cL_law 1021 = .ok (.iconst 2, 1) ∧ decode cL_law 1022 = .ok (.iadd, 1) ∧ decode cL_law 1023 = .ok (.iaload, 1) ∧ decode cL_law 1024 = .ok (.invokevirtual 132, 3) ∧ decode cL_law 1027 = .ok (.pop, 1) ∧ decode cL_law 1028 = .ok (.goto 458, 3) ∧ decode cL_law 1031 = .ok (.aload_n 1, 1) := by decide +kernel
theorem dL_law_1012 : decode cL_law 1012 = .ok (.pop, 1) := dgL_law_40.1
theorem dL_law_1013 : decode cL_law 1013 = .ok (.aload_n 2, 1) := dgL_law_40.2.1
theorem dL_law_1014 : decode cL_law 1014 = .ok (.aload_n 0, 1) := dgL_law_40.2.2.1
theorem dL_law_1015 : decode cL_law 1015 = .ok (.iload_n 3, 1) := dgL_law_40.2.2.2.1
theorem dL_law_1016 : decode cL_law 1016 = .ok (.iconst 1, 1) := dgL_law_40.2.2.2.2.1
theorem dL_law_1017 : decode cL_law 1017 = .ok (.iadd, 1) := dgL_law_40.2.2.2.2.2.1
theorem dL_law_1018 : decode cL_law 1018 = .ok (.iaload, 1) := dgL_law_40.2.2.2.2.2.2.1
theorem dL_law_1019 : decode cL_law 1019 = .ok (.aload_n 0, 1) := dgL_law_40.2.2.2.2.2.2.2.1
theorem dL_law_1020 : decode cL_law 1020 = .ok (.iload_n 3, 1) := dgL_law_40.2.2.2.2.2.2.2.2.1
theorem dL_law_1021 : decode cL_law 1021 = .ok (.iconst 2, 1) := dgL_law_40.2.2.2.2.2.2.2.2.2.1
theorem dL_law_1022 : decode cL_law 1022 = .ok (.iadd, 1) := dgL_law_40.2.2.2.2.2.2.2.2.2.2.1
theorem dL_law_1023 : decode cL_law 1023 = .ok (.iaload, 1) := dgL_law_40.2.2.2.2.2.2.2.2.2.2.2.1
theorem dL_law_1024 : decode cL_law 1024 = .ok (.invokevirtual 132, 3) := dgL_law_40.2.2.2.2.2.2.2.2.2.2.2.2.1
theorem dL_law_1027 : decode cL_law 1027 = .ok (.pop, 1) := dgL_law_40.2.2.2.2.2.2.2.2.2.2.2.2.2.1
theorem dL_law_1028 : decode cL_law 1028 = .ok (.goto 458, 3) := dgL_law_40.2.2.2.2.2.2.2.2.2.2.2.2.2.2.1
theorem dL_law_1031 : decode cL_law 1031 = .ok (.aload_n 1, 1) := dgL_law_40.2.2.2.2.2.2.2.2.2.2.2.2.2.2.2
theorem dgL_law_41 : decode cL_law 1032 = .ok (.aload_n 0, 1) ∧ decode cL_law 1033 = .ok (.iload_n 3, 1) ∧ decode cL_law 1034 = .ok (.iconst 1, 1) ∧ decode cL_law 1035 = .ok (.iadd, 1) ∧ decode cL_law 1036 = .ok (.iaload, 1) ∧ decode cL_law 1037 = .ok (.invokevirtual 133, 3) ∧ decode cL_law 1040 = .ok (.pop, 1) ∧ decode cL_law 1041 = .ok (.aload_n 2, 1) ∧ decode cL_law 1042 = .ok (.aload_n 0, 1) ∧ decode cL_law 1043 = .ok (.iload_n 3, 1) ∧ decode cL_law 1044 = .ok (.iconst 1, 1) ∧ decode cL_law 1045 = .ok (.iadd, 1) ∧ decode cL_law 1046 = .ok (.iaload, 1) ∧ decode cL_law 1047 = .ok (.invokevirtual 136, 3) ∧ decode cL_law 1050 = .ok (.pop, 1) ∧ decode cL_law 1051 = .ok (.goto 435, 3) := by decide +kernel
theorem dL_law_1032 : decode cL_law 1032 = .ok (.aload_n 0, 1) := dgL_law_41.1
theorem dL_law_1033 : decode cL_law 1033 = .ok (.iload_n 3, 1) := dgL_law_41.2.1
theorem dL_law_1034 : decode cL_law 1034 = .ok (.iconst 1, 1) := dgL_law_41.2.2.1
theorem dL_law_1035 : decode cL_law 1035 = .ok (.iadd, 1) := dgL_law_41.2.2.2.1
theorem dL_law_1036 : decode cL_law 1036 = .ok (.iaload, 1) := dgL_law_41.2.2.2.2.1
theorem dL_law_1037 : decode cL_law 1037 = .ok (.invokevirtual 133, 3) := dgL_law_41.2.2.2.2.2.1
theorem dL_law_1040 : decode cL_law 1040 = .ok (.pop, 1) := dgL_law_41.2.2.2.2.2.2.1
theorem dL_law_1041 : decode cL_law 1041 = .ok (.aload_n 2, 1) := dgL_law_41.2.2.2.2.2.2.2.1
theorem dL_law_1042 : decode cL_law 1042 = .ok (.aload_n 0, 1) := dgL_law_41.2.2.2.2.2.2.2.2.1
theorem dL_law_1043 : decode cL_law 1043 = .ok (.iload_n 3, 1) := dgL_law_41.2.2.2.2.2.2.2.2.2.1
theorem dL_law_1044 : decode cL_law 1044 = .ok (.iconst 1, 1) := dgL_law_41.2.2.2.2.2.2.2.2.2.2.1
theorem dL_law_1045 : decode cL_law 1045 = .ok (.iadd, 1) := dgL_law_41.2.2.2.2.2.2.2.2.2.2.2.1
theorem dL_law_1046 : decode cL_law 1046 = .ok (.iaload, 1) := dgL_law_41.2.2.2.2.2.2.2.2.2.2.2.2.1
theorem dL_law_1047 : decode cL_law 1047 = .ok (.invokevirtual 136, 3) := dgL_law_41.2.2.2.2.2.2.2.2.2.2.2.2.2.1
theorem dL_law_1050 : decode cL_law 1050 = .ok (.pop, 1) := dgL_law_41.2.2.2.2.2.2.2.2.2.2.2.2.2.2.1
theorem dL_law_1051 : decode cL_law 1051 = .ok (.goto 435, 3) := dgL_law_41.2.2.2.2.2.2.2.2.2.2.2.2.2.2.2
theorem dgL_law_42 : decode cL_law 1054 = .ok (.aload_n 1, 1) ∧ decode cL_law 1055 = .ok (.aload_n 0, 1) ∧ decode cL_law 1056 = .ok (.iload_n 3, 1) ∧ decode cL_law 1057 = .ok (.iconst 1, 1) ∧ decode cL_law 1058 = .ok (.iadd, 1) ∧ decode cL_law 1059 = .ok (.iaload, 1) ∧ decode cL_law 1060 = .ok (.aload_n 0, 1) ∧ decode cL_law 1061 = .ok (.iload_n 3, 1) ∧ decode cL_law 1062 = .ok (.iconst 2, 1) ∧ decode cL_law 1063 = .ok (.iadd, 1) ∧ decode cL_law 1064 = .ok (.iaload, 1) ∧ decode cL_law 1065 = .ok (.aload_n 0, 1) ∧ decode cL_law 1066 = .ok (.iload_n 3, 1) ∧ decode cL_law 1067 = .ok (.iconst 3, 1) ∧ decode cL_law 1068 = .ok (.iadd, 1) ∧ decode cL_law 1069 = .ok (.iaload, 1) := by decide +kernel
theorem dL_law_1054 : decode cL_law 1054 = .ok (.aload_n 1, 1) := dgL_law_42.1
theorem dL_law_1055 : decode cL_law 1055 = .ok (.aload_n 0, 1) := dgL_law_42.2.1
theorem dL_law_1056 : decode cL_law 1056 = .ok (.iload_n 3, 1) := dgL_law_42.2.2.1
theorem dL_law_1057 : decode cL_law 1057 = .ok (.iconst 1, 1) := dgL_law_42.2.2.2.1
theorem dL_law_1058 : decode cL_law 1058 = .ok (.iadd, 1) := dgL_law_42.2.2.2.2.1
theorem dL_law_1059 : decode cL_law 1059 = .ok (.iaload, 1) := dgL_law_42.2.2.2.2.2.1
theorem dL_law_1060 : decode cL_law 1060 = .ok (.aload_n 0, 1) := dgL_law_42.2.2.2.2.2.2.1
theorem dL_law_1061 : decode cL_law 1061 = .ok (.iload_n 3, 1) := dgL_law_42.2.2.2.2.2.2.2.1
theorem dL_law_1062 : decode cL_law 1062 = .ok (.iconst 2, 1) := dgL_law_42.2.2.2.2.2.2.2.2.1
theorem dL_law_1063 : decode cL_law 1063 = .ok (.iadd, 1) := dgL_law_42.2.2.2.2.2.2.2.2.2.1
theorem dL_law_1064 : decode cL_law 1064 = .ok (.iaload, 1) := dgL_law_42.2.2.2.2.2.2.2.2.2.2.1
theorem dL_law_1065 : decode cL_law 1065 = .ok (.aload_n 0, 1) := dgL_law_42.2.2.2.2.2.2.2.2.2.2.2.1
theorem dL_law_1066 : decode cL_law 1066 = .ok (.iload_n 3, 1) := dgL_law_42.2.2.2.2.2.2.2.2.2.2.2.2.1
theorem dL_law_1067 : decode cL_law 1067 = .ok (.iconst 3, 1) := dgL_law_42.2.2.2.2.2.2.2.2.2.2.2.2.2.1
theorem dL_law_1068 : decode cL_law 1068 = .ok (.iadd, 1) := dgL_law_42.2.2.2.2.2.2.2.2.2.2.2.2.2.2.1
theorem dL_law_1069 : decode cL_law 1069 = .ok (.iaload, 1) := dgL_law_42.2.2.2.2.2.2.2.2.2.2.2.2.2.2.2
theorem dgL_law_43 : decode cL_law 1070 = .ok (.invokevirtual 137, 3) ∧ decode cL_law 1073 = .ok (.pop, 1) ∧ decode cL_law 1074 = .ok (.aload_n 2, 1) ∧ decode cL_law 1075 = .ok (.aload_n 0, 1) ∧ decode cL_law 1076 = .ok (.iload_n 3, 1) ∧ decode cL_law 1077 = .ok (.iconst 1, 1) ∧ decode cL_law 1078 = .ok (.iadd, 1) ∧ decode cL_law 1079 = .ok (.iaload, 1) ∧ decode cL_law 1080 = .ok (.aload_n 0, 1) ∧ decode cL_law 1081 = .ok (.iload_n 3, 1) ∧ decode cL_law 1082 = .ok (.iconst 2, 1) ∧ decode cL_law 1083 = .ok (.iadd, 1) ∧ decode cL_law 1084 = .ok (.iaload, 1) ∧ decode cL_law 1085 = .ok (.aload_n 0, 1) ∧ decode cL_law 1086 = .ok (.iload_n 3, 1) ∧ decode cL_law 1087 = .ok (.iconst 3, 1) := by decide +kernel
theorem dL_law_1070 : decode cL_law 1070 = .ok (.invokevirtual 137, 3) := dgL_law_43.1
theorem dL_law_1073 : decode cL_law 1073 = .ok (.pop, 1) := dgL_law_43.2.1
theorem dL_law_1074 : decode cL_law 1074 = .ok (.aload_n 2, 1) := dgL_law_43.2.2.1
theorem dL_law_1075 : decode cL_law 1075 = .ok (.aload_n 0, 1) := dgL_law_43.2.2.2.1
theorem dL_law_1076 : decode cL_law 1076 = .ok (.iload_n 3, 1) := dgL_law_43.2.2.2.2.1
theorem dL_law_1077 : decode cL_law 1077 = .ok (.iconst 1, 1) := dgL_law_43.2.2.2.2.2.1
theorem dL_law_1078 : decode cL_law 1078 = .ok (.iadd, 1) := dgL_law_43.2.2.2.2.2.2.1
theorem dL_law_1079 : decode cL_law 1079 = .ok (.iaload, 1) := dgL_law_43.2.2.2.2.2.2.2.1
theorem dL_law_1080 : decode cL_law 1080 = .ok (.aload_n 0, 1) := dgL_law_43.2.2.2.2.2.2.2.2.1
theorem dL_law_1081 : decode cL_law 1081 = .ok (.iload_n 3, 1) := dgL_law_43.2.2.2.2.2.2.2.2.2.1
theorem dL_law_1082 : decode cL_law 1082 = .ok (.iconst 2, 1) := dgL_law_43.2.2.2.2.2.2.2.2.2.2.1
theorem dL_law_1083 : decode cL_law 1083 = .ok (.iadd, 1) := dgL_law_43.2.2.2.2.2.2.2.2.2.2.2.1
theorem dL_law_1084 : decode cL_law 1084 = .ok (.iaload, 1) := dgL_law_43.2.2.2.2.2.2.2.2.2.2.2.2.1
theorem dL_law_1085 : decode cL_law 1085 = .ok (.aload_n 0, 1) := dgL_law_43.2.2.2.2.2.2.2.2.2.2.2.2.2.1
theorem dL_law_1086 : decode cL_law 1086 = .ok (.iload_n 3, 1) := dgL_law_43.2.2.2.2.2.2.2.2.2.2.2.2.2.2.1
theorem dL_law_1087 : decode cL_law 1087 = .ok (.iconst 3, 1) := dgL_law_43.2.2.2.2.2.2.2.2.2.2.2.2.2.2.2
theorem dgL_law_44 : decode cL_law 1088 = .ok (.iadd, 1) ∧ decode cL_law 1089 = .ok (.iaload, 1) ∧ decode cL_law 1090 = .ok (.invokevirtual 140, 3) ∧ decode cL_law 1093 = .ok (.pop, 1) ∧ decode cL_law 1094 = .ok (.goto 392, 3) ∧ decode cL_law 1097 = .ok (.aload_n 1, 1) ∧ decode cL_law 1098 = .ok (.aload_n 0, 1) ∧ decode cL_law 1099 = .ok (.iload_n 3, 1) ∧ decode cL_law 1100 = .ok (.iconst 1, 1) ∧ decode cL_law 1101 = .ok (.iadd, 1) ∧ decode cL_law 1102 = .ok (.iaload, 1) ∧ decode cL_law 1103 = .ok (.aload_n 0, 1) ∧ decode cL_law 1104 = .ok (.iload_n 3, 1) ∧ decode cL_law 1105 = .ok (.iconst 2, 1) ∧ decode cL_law 1106 = .ok (.iadd, 1) ∧ decode cL_law 1107 = .ok (.iaload, 1) := by decide +kernel
theorem dL_law_1088 : decode cL_law 1088 = .ok (.iadd, 1) := dgL_law_44.1
theorem dL_law_1089 : decode cL_law 1089 = .ok (.iaload, 1) := dgL_law_44.2.1
theorem dL_law_1090 : decode cL_law 1090 = .ok (.invokevirtual 140, 3) := dgL_law_44.2.2.1
theorem dL_law_1093 : decode cL_law 1093 = .ok (.pop, 1) := dgL_law_44.2.2.2.1
theorem dL_law_1094 : decode cL_law 1094 = .ok (.goto 392, 3) := dgL_law_44.2.2.2.2.1
theorem dL_law_1097 : decode cL_law 1097 = .ok (.aload_n 1, 1) := dgL_law_44.2.2.2.2.2.1
theorem dL_law_1098 : decode cL_law 1098 = .ok (.aload_n 0, 1) := dgL_law_44.2.2.2.2.2.2.1
theorem dL_law_1099 : decode cL_law 1099 = .ok (.iload_n 3, 1) := dgL_law_44.2.2.2.2.2.2.2.1
theorem dL_law_1100 : decode cL_law 1100 = .ok (.iconst 1, 1) := dgL_law_44.2.2.2.2.2.2.2.2.1
theorem dL_law_1101 : decode cL_law 1101 = .ok (.iadd, 1) := dgL_law_44.2.2.2.2.2.2.2.2.2.1
theorem dL_law_1102 : decode cL_law 1102 = .ok (.iaload, 1) := dgL_law_44.2.2.2.2.2.2.2.2.2.2.1
theorem dL_law_1103 : decode cL_law 1103 = .ok (.aload_n 0, 1) := dgL_law_44.2.2.2.2.2.2.2.2.2.2.2.1
theorem dL_law_1104 : decode cL_law 1104 = .ok (.iload_n 3, 1) := dgL_law_44.2.2.2.2.2.2.2.2.2.2.2.2.1
theorem dL_law_1105 : decode cL_law 1105 = .ok (.iconst 2, 1) := dgL_law_44.2.2.2.2.2.2.2.2.2.2.2.2.2.1
theorem dL_law_1106 : decode cL_law 1106 = .ok (.iadd, 1) := dgL_law_44.2.2.2.2.2.2.2.2.2.2.2.2.2.2.1
theorem dL_law_1107 : decode cL_law 1107 = .ok (.iaload, 1) := dgL_law_44.2.2.2.2.2.2.2.2.2.2.2.2.2.2.2
theorem dgL_law_45 : decode cL_law 1108 = .ok (.aload_n 0, 1) ∧ decode cL_law 1109 = .ok (.iload_n 3, 1) ∧ decode cL_law 1110 = .ok (.iconst 3, 1) ∧ decode cL_law 1111 = .ok (.iadd, 1) ∧ decode cL_law 1112 = .ok (.iaload, 1) ∧ decode cL_law 1113 = .ok (.invokevirtual 141, 3) ∧ decode cL_law 1116 = .ok (.pop, 1) ∧ decode cL_law 1117 = .ok (.aload_n 2, 1) ∧ decode cL_law 1118 = .ok (.aload_n 0, 1) ∧ decode cL_law 1119 = .ok (.iload_n 3, 1) ∧ decode cL_law 1120 = .ok (.iconst 1, 1) ∧ decode cL_law 1121 = .ok (.iadd, 1) ∧ decode cL_law 1122 = .ok (.iaload, 1) ∧ decode cL_law 1123 = .ok (.aload_n 0, 1) ∧ decode cL_law 1124 = .ok (.iload_n 3, 1) ∧ decode cL_law 1125 = .ok (.iconst 2, 1) := by decide +kernel
theorem dL_law_1108 : decode cL_law 1108 = .ok (.aload_n 0, 1) := dgL_law_45.1
theorem dL_law_1109 : decode cL_law 1109 = .ok (.iload_n 3, 1) := dgL_law_45.2.1
theorem dL_law_1110 : decode cL_law 1110 = .ok (.iconst 3, 1) := dgL_law_45.2.2.1
theorem dL_law_1111 : decode cL_law 1111 = .ok (.iadd, 1) := dgL_law_45.2.2.2.1
theorem dL_law_1112 : decode cL_law 1112 = .ok (.iaload, 1) := dgL_law_45.2.2.2.2.1
theorem dL_law_1113 : decode cL_law 1113 = .ok (.invokevirtual 141, 3) := dgL_law_45.2.2.2.2.2.1
theorem dL_law_1116 : decode cL_law 1116 = .ok (.pop, 1) := dgL_law_45.2.2.2.2.2.2.1
theorem dL_law_1117 : decode cL_law 1117 = .ok (.aload_n 2, 1) := dgL_law_45.2.2.2.2.2.2.2.1
theorem dL_law_1118 : decode cL_law 1118 = .ok (.aload_n 0, 1) := dgL_law_45.2.2.2.2.2.2.2.2.1
theorem dL_law_1119 : decode cL_law 1119 = .ok (.iload_n 3, 1) := dgL_law_45.2.2.2.2.2.2.2.2.2.1
theorem dL_law_1120 : decode cL_law 1120 = .ok (.iconst 1, 1) := dgL_law_45.2.2.2.2.2.2.2.2.2.2.1
theorem dL_law_1121 : decode cL_law 1121 = .ok (.iadd, 1) := dgL_law_45.2.2.2.2.2.2.2.2.2.2.2.1
theorem dL_law_1122 : decode cL_law 1122 = .ok (.iaload, 1) := dgL_law_45.2.2.2.2.2.2.2.2.2.2.2.2.1
theorem dL_law_1123 : decode cL_law 1123 = .ok (.aload_n 0, 1) := dgL_law_45.2.2.2.2.2.2.2.2.2.2.2.2.2.1
theorem dL_law_1124 : decode cL_law 1124 = .ok (.iload_n 3, 1) := dgL_law_45.2.2.2.2.2.2.2.2.2.2.2.2.2.2.1
theorem dL_law_1125 : decode cL_law 1125 = .ok (.iconst 2, 1) := dgL_law_45.2.2.2.2.2.2.2.2.2.2.2.2.2.2.2
theorem dgL_law_46 : decode cL_law 1126 = .ok (.iadd, 1) ∧ decode cL_law 1127 = .ok (.iaload, 1) ∧ decode cL_law 1128 = .ok (.aload_n 0, 1) ∧ decode cL_law 1129 = .ok (.iload_n 3, 1) ∧ decode cL_law 1130 = .ok (.iconst 3, 1) ∧ decode cL_law 1131 = .ok (.iadd, 1) ∧ decode cL_law 1132 = .ok (.iaload, 1) ∧ decode cL_law 1133 = .ok (.invokevirtual 144, 3) ∧ decode cL_law 1136 = .ok (.pop, 1) ∧ decode cL_law 1137 = .ok (.goto 349, 3) ∧ decode cL_law 1140 = .ok (.aload_n 1, 1) ∧ decode cL_law 1141 = .ok (.aload_n 0, 1) ∧ decode cL_law 1142 = .ok (.iload_n 3, 1) ∧ decode cL_law 1143 = .ok (.iconst 1, 1) ∧ decode cL_law 1144 = .ok (.iadd, 1) ∧ decode cL_law 1145 = .ok (.iaload, 1) := by decide +kernel
theorem dL_law_1126 : decode cL_law 1126 = .ok (.iadd, 1) := dgL_law_46.1
theorem dL_law_1127 : decode cL_law 1127 = .ok (.iaload, 1) := dgL_law_46.2.1
theorem dL_law_1128 : decode cL_law 1128 = .ok (.aload_n 0, 1) := dgL_law_46.2.2.1
theorem dL_law_1129 : decode cL_law 1129 = .ok (.iload_n 3, 1) := dgL_law_46.2.2.2.1
theorem dL_law_1130 : decode cL_law 1130 = .ok (.iconst 3, 1) := dgL_law_46.2.2.2.2.1
theorem dL_law_1131 : decode cL_law 1131 = .ok (.iadd, 1) := dgL_law_46.2.2.2.2.2.1
theorem dL_law_1132 : decode cL_law 1132 = .ok (.iaload, 1) := dgL_law_46.2.2.2.2.2.2.1
theorem dL_law_1133 : decode cL_law 1133 = .ok (.invokevirtual 144, 3) := dgL_law_46.2.2.2.2.2.2.2.1
theorem dL_law_1136 : decode cL_law 1136 = .ok (.pop, 1) := dgL_law_46.2.2.2.2.2.2.2.2.1
theorem dL_law_1137 : decode cL_law 1137 = .ok (.goto 349, 3) := dgL_law_46.2.2.2.2.2.2.2.2.2.1
theorem dL_law_1140 : decode cL_law 1140 = .ok (.aload_n 1, 1) := dgL_law_46.2.2.2.2.2.2.2.2.2.2.1
theorem dL_law_1141 : decode cL_law 1141 = .ok (.aload_n 0, 1) := dgL_law_46.2.2.2.2.2.2.2.2.2.2.2.1
theorem dL_law_1142 : decode cL_law 1142 = .ok (.iload_n 3, 1) := dgL_law_46.2.2.2.2.2.2.2.2.2.2.2.2.1
theorem dL_law_1143 : decode cL_law 1143 = .ok (.iconst 1, 1) := dgL_law_46.2.2.2.2.2.2.2.2.2.2.2.2.2.1
theorem dL_law_1144 : decode cL_law 1144 = .ok (.iadd, 1) := dgL_law_46.2.2.2.2.2.2.2.2.2.2.2.2.2.2.1
theorem dL_law_1145 : decode cL_law 1145 = .ok (.iaload, 1) := dgL_law_46.2.2.2.2.2.2.2.2.2.2.2.2.2.2.2
theorem dgL_law_47 : decode cL_law 1146 = .ok (.invokevirtual 145, 3) ∧ decode cL_law 1149 = .ok (.pop, 1) ∧ decode cL_law 1150 = .ok (.aload_n 2, 1) ∧ decode cL_law 1151 = .ok (.aload_n 0, 1) ∧ decode cL_law 1152 = .ok (.iload_n 3, 1) ∧ decode cL_law 1153 = .ok (.iconst 1, 1) ∧ decode cL_law 1154 = .ok (.iadd, 1) ∧ decode cL_law 1155 = .ok (.iaload, 1) ∧ decode cL_law 1156 = .ok (.invokevirtual 148, 3) ∧ decode cL_law 1159 = .ok (.pop, 1) ∧ decode cL_law 1160 = .ok (.goto 326, 3) ∧ decode cL_law 1163 = .ok (.aload_n 1, 1) ∧ decode cL_law 1164 = .ok (.aload_n 0, 1) ∧ decode cL_law 1165 = .ok (.iload_n 3, 1) ∧ decode cL_law 1166 = .ok (.iconst 1, 1) ∧ decode cL_law 1167 = .ok (.iadd, 1) := by decide +kernel
theorem dL_law_1146 : decode cL_law 1146 = .ok (.invokevirtual 145, 3) := dgL_law_47.1
theorem dL_law_1149 : decode cL_law 1149 = .ok (.pop, 1) := dgL_law_47.2.1
theorem dL_law_1150 : decode cL_law 1150 = .ok (.aload_n 2, 1) := dgL_law_47.2.2.1
theorem dL_law_1151 : decode cL_law 1151 = .ok (.aload_n 0, 1) := dgL_law_47.2.2.2.1
theorem dL_law_1152 : decode cL_law 1152 = .ok (.iload_n 3, 1) := dgL_law_47.2.2.2.2.1
theorem dL_law_1153 : decode cL_law 1153 = .ok (.iconst 1, 1) := dgL_law_47.2.2.2.2.2.1
theorem dL_law_1154 : decode cL_law 1154 = .ok (.iadd, 1) := dgL_law_47.2.2.2.2.2.2.1
theorem dL_law_1155 : decode cL_law 1155 = .ok (.iaload, 1) := dgL_law_47.2.2.2.2.2.2.2.1
theorem dL_law_1156 : decode cL_law 1156 = .ok (.invokevirtual 148, 3) := dgL_law_47.2.2.2.2.2.2.2.2.1
theorem dL_law_1159 : decode cL_law 1159 = .ok (.pop, 1) := dgL_law_47.2.2.2.2.2.2.2.2.2.1
theorem dL_law_1160 : decode cL_law 1160 = .ok (.goto 326, 3) := dgL_law_47.2.2.2.2.2.2.2.2.2.2.1
theorem dL_law_1163 : decode cL_law 1163 = .ok (.aload_n 1, 1) := dgL_law_47.2.2.2.2.2.2.2.2.2.2.2.1
theorem dL_law_1164 : decode cL_law 1164 = .ok (.aload_n 0, 1) := dgL_law_47.2.2.2.2.2.2.2.2.2.2.2.2.1
theorem dL_law_1165 : decode cL_law 1165 = .ok (.iload_n 3, 1) := dgL_law_47.2.2.2.2.2.2.2.2.2.2.2.2.2.1
theorem dL_law_1166 : decode cL_law 1166 = .ok (.iconst 1, 1) := dgL_law_47.2.2.2.2.2.2.2.2.2.2.2.2.2.2.1
theorem dL_law_1167 : decode cL_law 1167 = .ok (.iadd, 1) := dgL_law_47.2.2.2.2.2.2.2.2.2.2.2.2.2.2.2
theorem dgL_law_48 : decode cL_law 1168 = .ok (.iaload, 1) ∧ decode cL_law 1169 = .ok (.invokevirtual 149, 3) ∧ decode cL_law 1172 = .ok (.pop, 1) ∧ decode cL_law 1173 = .ok (.aload_n 2, 1) ∧ decode cL_law 1174 = .ok (.aload_n 0, 1) ∧ decode cL_law 1175 = .ok (.iload_n 3, 1) ∧ decode cL_law 1176 = .ok (.iconst 1, 1) ∧ decode cL_law 1177 = .ok (.iadd, 1) ∧ decode cL_law 1178 = .ok (.iaload, 1) ∧ decode cL_law 1179 = .ok (.invokevirtual 152, 3) ∧ decode cL_law 1182 = .ok (.pop, 1) ∧ decode cL_law 1183 = .ok (.goto 303, 3) ∧ decode cL_law 1186 = .ok (.aload_n 1, 1) ∧ decode cL_law 1187 = .ok (.aload_n 0, 1) ∧ decode cL_law 1188 = .ok (.iload_n 3, 1) ∧ decode cL_law 1189 = .ok (.iconst 1, 1) := by decide +kernel
theorem dL_law_1168 : decode cL_law 1168 = .ok (.iaload, 1) := dgL_law_48.1
theorem dL_law_1169 : decode cL_law 1169 = .ok (.invokevirtual 149, 3) := dgL_law_48.2.1
theorem dL_law_1172 : decode cL_law 1172 = .ok (.pop, 1) := dgL_law_48.2.2.1
theorem dL_law_1173 : decode cL_law 1173 = .ok (.aload_n 2, 1) := dgL_law_48.2.2.2.1
theorem dL_law_1174 : decode cL_law 1174 = .ok (.aload_n 0, 1) := dgL_law_48.2.2.2.2.1
theorem dL_law_1175 : decode cL_law 1175 = .ok (.iload_n 3, 1) := dgL_law_48.2.2.2.2.2.1
theorem dL_law_1176 : decode cL_law 1176 = .ok (.iconst 1, 1) := dgL_law_48.2.2.2.2.2.2.1
theorem dL_law_1177 : decode cL_law 1177 = .ok (.iadd, 1) := dgL_law_48.2.2.2.2.2.2.2.1
theorem dL_law_1178 : decode cL_law 1178 = .ok (.iaload, 1) := dgL_law_48.2.2.2.2.2.2.2.2.1
theorem dL_law_1179 : decode cL_law 1179 = .ok (.invokevirtual 152, 3) := dgL_law_48.2.2.2.2.2.2.2.2.2.1
theorem dL_law_1182 : decode cL_law 1182 = .ok (.pop, 1) := dgL_law_48.2.2.2.2.2.2.2.2.2.2.1
theorem dL_law_1183 : decode cL_law 1183 = .ok (.goto 303, 3) := dgL_law_48.2.2.2.2.2.2.2.2.2.2.2.1
theorem dL_law_1186 : decode cL_law 1186 = .ok (.aload_n 1, 1) := dgL_law_48.2.2.2.2.2.2.2.2.2.2.2.2.1
theorem dL_law_1187 : decode cL_law 1187 = .ok (.aload_n 0, 1) := dgL_law_48.2.2.2.2.2.2.2.2.2.2.2.2.2.1
theorem dL_law_1188 : decode cL_law 1188 = .ok (.iload_n 3, 1) := dgL_law_48.2.2.2.2.2.2.2.2.2.2.2.2.2.2.1
theorem dL_law_1189 : decode cL_law 1189 = .ok (.iconst 1, 1) := dgL_law_48.2.2.2.2.2.2.2.2.2.2.2.2.2.2.2
theorem dgL_law_49 : decode cL_law 1190 = .ok (.iadd, 1) ∧ decode cL_law 1191 = .ok (.iaload, 1) ∧ decode cL_law 1192 = .ok (.aload_n 0, 1) ∧ decode cL_law 1193 = .ok (.iload_n 3, 1) ∧ decode cL_law 1194 = .ok (.iconst 2, 1) ∧ decode cL_law 1195 = .ok (.iadd, 1) ∧ decode cL_law 1196 = .ok (.iaload, 1) ∧ decode cL_law 1197 = .ok (.aload_n 0, 1) ∧ decode cL_law 1198 = .ok (.iload_n 3, 1) ∧ decode cL_law 1199 = .ok (.iconst 3, 1) ∧ decode cL_law 1200 = .ok (.iadd, 1) ∧ decode cL_law 1201 = .ok (.iaload, 1) ∧ decode cL_law 1202 = .ok (.aload_n 0, 1) ∧ decode cL_law 1203 = .ok (.iload_n 3, 1) ∧ decode cL_law 1204 = .ok (.iconst 4, 1) ∧ decode cL_law 1205 = .ok (.iadd, 1) := by decide +kernel
theorem dL_law_1190 : decode cL_law 1190 = .ok (.iadd, 1) := dgL_law_49.1
theorem dL_law_1191 : decode cL_law 1191 = .ok (.iaload, 1) := dgL_law_49.2.1
theorem dL_law_1192 : decode cL_law 1192 = .ok (.aload_n 0, 1) := dgL_law_49.2.2.1
theorem dL_law_1193 : decode cL_law 1193 = .ok (.iload_n 3, 1) := dgL_law_49.2.2.2.1
theorem dL_law_1194 : decode cL_law 1194 = .ok (.iconst 2, 1) := dgL_law_49.2.2.2.2.1
theorem dL_law_1195 : decode cL_law 1195 = .ok (.iadd, 1) := dgL_law_49.2.2.2.2.2.1
theorem dL_law_1196 : decode cL_law 1196 = .ok (.iaload, 1) := dgL_law_49.2.2.2.2.2.2.1
theorem dL_law_1197 : decode cL_law 1197 = .ok (.aload_n 0, 1) := dgL_law_49.2.2.2.2.2.2.2.1
theorem dL_law_1198 : decode cL_law 1198 = .ok (.iload_n 3, 1) := dgL_law_49.2.2.2.2.2.2.2.2.1
theorem dL_law_1199 : decode cL_law 1199 = .ok (.iconst 3, 1) := dgL_law_49.2.2.2.2.2.2.2.2.2.1
theorem dL_law_1200 : decode cL_law 1200 = .ok (.iadd, 1) := dgL_law_49.2.2.2.2.2.2.2.2.2.2.1
theorem dL_law_1201 : decode cL_law 1201 = .ok (.iaload, 1) := dgL_law_49.2.2.2.2.2.2.2.2.2.2.2.1
theorem dL_law_1202 : decode cL_law 1202 = .ok (.aload_n 0, 1) := dgL_law_49.2.2.2.2.2.2.2.2.2.2.2.2.1
theorem dL_law_1203 : decode cL_law 1203 = .ok (.iload_n 3, 1) := dgL_law_49.2.2.2.2.2.2.2.2.2.2.2.2.2.1
theorem dL_law_1204 : decode cL_law 1204 = .ok (.iconst 4, 1) := dgL_law_49.2.2.2.2.2.2.2.2.2.2.2.2.2.2.1
theorem dL_law_1205 : decode cL_law 1205 = .ok (.iadd, 1) := dgL_law_49.2.2.2.2.2.2.2.2.2.2.2.2.2.2.2
theorem dgL_law_50 : decode cL_law 1206 = .ok (.iaload, 1) ∧ decode cL_law 1207 = .ok (.aload_n 0, 1) ∧ decode cL_law 1208 = .ok (.iload_n 3, 1) ∧ decode cL_law 1209 = .ok (.iconst 5, 1) ∧ decode cL_law 1210 = .ok (.iadd, 1) ∧ decode cL_law 1211 = .ok (.iaload, 1) ∧ decode cL_law 1212 = .ok (.invokevirtual 153, 3) ∧ decode cL_law 1215 = .ok (.pop, 1) ∧ decode cL_law 1216 = .ok (.aload_n 2, 1) ∧ decode cL_law 1217 = .ok (.aload_n 0, 1) ∧ decode cL_law 1218 = .ok (.iload_n 3, 1) ∧ decode cL_law 1219 = .ok (.iconst 1, 1) ∧ decode cL_law 1220 = .ok (.iadd, 1) ∧ decode cL_law 1221 = .ok (.iaload, 1) ∧ decode cL_law 1222 = .ok (.aload_n 0, 1) ∧ decode cL_law 1223 = .ok (.iload_n 3, 1) := by decide +kernel
theorem dL_law_1206 : decode cL_law 1206 = .ok (.iaload, 1) := dgL_law_50.1
theorem dL_law_1207 : decode cL_law 1207 = .ok (.aload_n 0, 1) := dgL_law_50.2.1
theorem dL_law_1208 : decode cL_law 1208 = .ok (.iload_n 3, 1) := dgL_law_50.2.2.1
theorem dL_law_1209 : decode cL_law 1209 = .ok (.iconst 5, 1) := dgL_law_50.2.2.2.1
theorem dL_law_1210 : decode cL_law 1210 = .ok (.iadd, 1) := dgL_law_50.2.2.2.2.1
theorem dL_law_1211 : decode cL_law 1211 = .ok (.iaload, 1) := dgL_law_50.2.2.2.2.2.1
theorem dL_law_1212 : decode cL_law 1212 = .ok (.invokevirtual 153, 3) := dgL_law_50.2.2.2.2.2.2.1
theorem dL_law_1215 : decode cL_law 1215 = .ok (.pop, 1) := dgL_law_50.2.2.2.2.2.2.2.1
theorem dL_law_1216 : decode cL_law 1216 = .ok (.aload_n 2, 1) := dgL_law_50.2.2.2.2.2.2.2.2.1
theorem dL_law_1217 : decode cL_law 1217 = .ok (.aload_n 0, 1) := dgL_law_50.2.2.2.2.2.2.2.2.2.1
theorem dL_law_1218 : decode cL_law 1218 = .ok (.iload_n 3, 1) := dgL_law_50.2.2.2.2.2.2.2.2.2.2.1
theorem dL_law_1219 : decode cL_law 1219 = .ok (.iconst 1, 1) := dgL_law_50.2.2.2.2.2.2.2.2.2.2.2.1
theorem dL_law_1220 : decode cL_law 1220 = .ok (.iadd, 1) := dgL_law_50.2.2.2.2.2.2.2.2.2.2.2.2.1
theorem dL_law_1221 : decode cL_law 1221 = .ok (.iaload, 1) := dgL_law_50.2.2.2.2.2.2.2.2.2.2.2.2.2.1
theorem dL_law_1222 : decode cL_law 1222 = .ok (.aload_n 0, 1) := dgL_law_50.2.2.2.2.2.2.2.2.2.2.2.2.2.2.1
theorem dL_law_1223 : decode cL_law 1223 = .ok (.iload_n 3, 1) := dgL_law_50.2.2.2.2.2.2.2.2.2.2.2.2.2.2.2
theorem dgL_law_51 : decode cL_law 1224 = .ok (.iconst 2, 1) ∧ decode cL_law 1225 = .ok (.iadd, 1) ∧ decode cL_law 1226 = .ok (.iaload, 1) ∧ decode cL_law 1227 = .ok (.aload_n 0, 1) ∧ decode cL_law 1228 = .ok (.iload_n 3, 1) ∧ decode cL_law 1229 = .ok (.iconst 3, 1) ∧ decode cL_law 1230 = .ok (.iadd, 1) ∧ decode cL_law 1231 = .ok (.iaload, 1) ∧ decode cL_law 1232 = .ok (.aload_n 0, 1) ∧ decode cL_law 1233 = .ok (.iload_n 3, 1) ∧ decode cL_law 1234 = .ok (.iconst 4, 1) ∧ decode cL_law 1235 = .ok (.iadd, 1) ∧ decode cL_law 1236 = .ok (.iaload, 1) ∧ decode cL_law 1237 = .ok (.aload_n 0, 1) ∧ decode cL_law 1238 = .ok (.iload_n 3, 1) ∧ decode cL_law 1239 = .ok (.iconst 5, 1) := by decide +kernel
theorem dL_law_1224 : decode cL_law 1224 = .ok (.iconst 2, 1) := dgL_law_51.1
theorem dL_law_1225 : decode cL_law 1225 = .ok (.iadd, 1) := dgL_law_51.2.1
theorem dL_law_1226 : decode cL_law 1226 = .ok (.iaload, 1) := dgL_law_51.2.2.1
theorem dL_law_1227 : decode cL_law 1227 = .ok (.aload_n 0, 1) := dgL_law_51.2.2.2.1
theorem dL_law_1228 : decode cL_law 1228 = .ok (.iload_n 3, 1) := dgL_law_51.2.2.2.2.1
theorem dL_law_1229 : decode cL_law 1229 = .ok (.iconst 3, 1) := dgL_law_51.2.2.2.2.2.1
theorem dL_law_1230 : decode cL_law 1230 = .ok (.iadd, 1) := dgL_law_51.2.2.2.2.2.2.1
theorem dL_law_1231 : decode cL_law 1231 = .ok (.iaload, 1) := dgL_law_51.2.2.2.2.2.2.2.1
theorem dL_law_1232 : decode cL_law 1232 = .ok (.aload_n 0, 1) := dgL_law_51.2.2.2.2.2.2.2.2.1
theorem dL_law_1233 : decode cL_law 1233 = .ok (.iload_n 3, 1) := dgL_law_51.2.2.2.2.2.2.2.2.2.1
theorem dL_law_1234 : decode cL_law 1234 = .ok (.iconst 4, 1) := dgL_law_51.2.2.2.2.2.2.2.2.2.2.1
theorem dL_law_1235 : decode cL_law 1235 = .ok (.iadd, 1) := dgL_law_51.2.2.2.2.2.2.2.2.2.2.2.1
theorem dL_law_1236 : decode cL_law 1236 = .ok (.iaload, 1) := dgL_law_51.2.2.2.2.2.2.2.2.2.2.2.2.1
theorem dL_law_1237 : decode cL_law 1237 = .ok (.aload_n 0, 1) := dgL_law_51.2.2.2.2.2.2.2.2.2.2.2.2.2.1
theorem dL_law_1238 : decode cL_law 1238 = .ok (.iload_n 3, 1) := dgL_law_51.2.2.2.2.2.2.2.2.2.2.2.2.2.2.1
theorem dL_law_1239 : decode cL_law 1239 = .ok (.iconst 5, 1) := dgL_law_51.2.2.2.2.2.2.2.2.2.2.2.2.2.2.2
theorem dgL_law_52 : decode cL_law 1240 = .ok (.iadd, 1) ∧ decode cL_law 1241 = .ok (.iaload, 1) ∧ decode cL_law 1242 = .ok (.invokevirtual 157, 3) ∧ decode cL_law 1245 = .ok (.pop, 1) ∧ decode cL_law 1246 = .ok (.goto 240, 3) ∧ decode cL_law 1249 = .ok (.aload_n 1, 1) ∧ decode cL_law 1250 = .ok (.aload_n 0, 1) ∧ decode cL_law 1251 = .ok (.iload_n 3, 1) ∧ decode cL_law 1252 = .ok (.iconst 1, 1) ∧ decode cL_law 1253 = .ok (.iadd, 1) ∧ decode cL_law 1254 = .ok (.iaload, 1) ∧ decode cL_law 1255 = .ok (.aload_n 0, 1) ∧ decode cL_law 1256 = .ok (.iload_n 3, 1) ∧ decode cL_law 1257 = .ok (.iconst 2, 1) ∧ decode cL_law 1258 = .ok (.iadd, 1) ∧ decode cL_law 1259 = .ok (.iaload, 1) := by decide +kernel
theorem dL_law_1240 : decode cL_law 1240 = .ok (.iadd, 1) := dgL_law_52.1
theorem dL_law_1241 : decode cL_law 1241 = .ok (.iaload, 1) := dgL_law_52.2.1
theorem dL_law_1242 : decode cL_law 1242 = .ok (.invokevirtual 157, 3) := dgL_law_52.2.2.1
theorem dL_law_1245 : decode cL_law 1245 = .ok (.pop, 1) := dgL_law_52.2.2.2.1
theorem dL_law_1246 : decode cL_law 1246 = .ok (.goto 240, 3) := dgL_law_52.2.2.2.2.1
theorem dL_law_1249 : decode cL_law 1249 = .ok (.aload_n 1, 1) := dgL_law_52.2.2.2.2.2.1
theorem dL_law_1250 : decode cL_law 1250 = .ok (.aload_n 0, 1) := dgL_law_52.2.2.2.2.2.2.1
theorem dL_law_1251 : decode cL_law 1251 = .ok (.iload_n 3, 1) := dgL_law_52.2.2.2.2.2.2.2.1
theorem dL_law_1252 : decode cL_law 1252 = .ok (.iconst 1, 1) := dgL_law_52.2.2.2.2.2.2.2.2.1
theorem dL_law_1253 : decode cL_law 1253 = .ok (.iadd, 1) := dgL_law_52.2.2.2.2.2.2.2.2.2.1
theorem dL_law_1254 : decode cL_law 1254 = .ok (.iaload, 1) := dgL_law_52.2.2.2.2.2.2.2.2.2.2.1
theorem dL_law_1255 : decode cL_law 1255 = .ok (.aload_n 0, 1) := dgL_law_52.2.2.2.2.2.2.2.2.2.2.2.1
theorem dL_law_1256 : decode cL_law 1256 = .ok (.iload_n 3, 1) := dgL_law_52.2.2.2.2.2.2.2.2.2.2.2.2.1
theorem dL_law_1257 : decode cL_law 1257 = .ok (.iconst 2, 1) := dgL_law_52.2.2.2.2.2.2.2.2.2.2.2.2.2.1
theorem dL_law_1258 : decode cL_law 1258 = .ok (.iadd, 1) := dgL_law_52.2.2.2.2.2.2.2.2.2.2.2.2.2.2.1
theorem dL_law_1259 : decode cL_law 1259 = .ok (.iaload, 1) := dgL_law_52.2.2.2.2.2.2.2.2.2.2.2.2.2.2.2
theorem dgL_law_53 : decode cL_law 1260 = .ok (.aload_n 0, 1) ∧ decode cL_law 1261 = .ok (.iload_n 3, 1) ∧ decode cL_law 1262 = .ok (.iconst 3, 1) ∧ decode cL_law 1263 = .ok (.iadd, 1) ∧ decode cL_law 1264 = .ok (.iaload, 1) ∧ decode cL_law 1265 = .ok (.invokevirtual 158, 3) ∧ decode cL_law 1268 = .ok (.pop, 1) ∧ decode cL_law 1269 = .ok (.aload_n 2, 1) ∧ decode cL_law 1270 = .ok (.aload_n 0, 1) ∧ decode cL_law 1271 = .ok (.iload_n 3, 1) ∧ decode cL_law 1272 = .ok (.iconst 1, 1) ∧ decode cL_law 1273 = .ok (.iadd, 1) ∧ decode cL_law 1274 = .ok (.iaload, 1) ∧ decode cL_law 1275 = .ok (.aload_n 0, 1) ∧ decode cL_law 1276 = .ok (.iload_n 3, 1) ∧ decode cL_law 1277 = .ok (.iconst 2, 1) := by decide +kernel
theorem dL_law_1260 : decode cL_law 1260 = .ok (.aload_n 0, 1) := dgL_law_53.1
theorem dL_law_1261 : decode cL_law 1261 = .ok (.iload_n 3, 1) := dgL_law_53.2.1
theorem dL_law_1262 : decode cL_law 1262 = .ok (.iconst 3, 1) := dgL_law_53.2.2.1
theorem dL_law_1263 : decode cL_law 1263 = .ok (.iadd, 1) := dgL_law_53.2.2.2.1
theorem dL_law_1264 : decode cL_law 1264 = .ok (.iaload, 1) := dgL_law_53.2.2.2.2.1
theorem dL_law_1265 : decode cL_law 1265 = .ok (.invokevirtual 158, 3) := dgL_law_53.2.2.2.2.2.1
theorem dL_law_1268 : decode cL_law 1268 = .ok (.pop, 1) := dgL_law_53.2.2.2.2.2.2.1
theorem dL_law_1269 : decode cL_law 1269 = .ok (.aload_n 2, 1) := dgL_law_53.2.2.2.2.2.2.2.1
theorem dL_law_1270 : decode cL_law 1270 = .ok (.aload_n 0, 1) := dgL_law_53.2.2.2.2.2.2.2.2.1
theorem dL_law_1271 : decode cL_law 1271 = .ok (.iload_n 3, 1) := dgL_law_53.2.2.2.2.2.2.2.2.2.1
theorem dL_law_1272 : decode cL_law 1272 = .ok (.iconst 1, 1) := dgL_law_53.2.2.2.2.2.2.2.2.2.2.1
theorem dL_law_1273 : decode cL_law 1273 = .ok (.iadd, 1) := dgL_law_53.2.2.2.2.2.2.2.2.2.2.2.1
theorem dL_law_1274 : decode cL_law 1274 = .ok (.iaload, 1) := dgL_law_53.2.2.2.2.2.2.2.2.2.2.2.2.1
theorem dL_law_1275 : decode cL_law 1275 = .ok (.aload_n 0, 1) := dgL_law_53.2.2.2.2.2.2.2.2.2.2.2.2.2.1
theorem dL_law_1276 : decode cL_law 1276 = .ok (.iload_n 3, 1) := dgL_law_53.2.2.2.2.2.2.2.2.2.2.2.2.2.2.1
theorem dL_law_1277 : decode cL_law 1277 = .ok (.iconst 2, 1) := dgL_law_53.2.2.2.2.2.2.2.2.2.2.2.2.2.2.2
theorem dgL_law_54 : decode cL_law 1278 = .ok (.iadd, 1) ∧ decode cL_law 1279 = .ok (.iaload, 1) ∧ decode cL_law 1280 = .ok (.aload_n 0, 1) ∧ decode cL_law 1281 = .ok (.iload_n 3, 1) ∧ decode cL_law 1282 = .ok (.iconst 3, 1) ∧ decode cL_law 1283 = .ok (.iadd, 1) ∧ decode cL_law 1284 = .ok (.iaload, 1) ∧ decode cL_law 1285 = .ok (.invokevirtual 161, 3) ∧ decode cL_law 1288 = .ok (.pop, 1) ∧ decode cL_law 1289 = .ok (.goto 197, 3) ∧ decode cL_law 1292 = .ok (.aload_n 1, 1) ∧ decode cL_law 1293 = .ok (.aload_n 0, 1) ∧ decode cL_law 1294 = .ok (.iload_n 3, 1) ∧ decode cL_law 1295 = .ok (.iconst 1, 1) ∧ decode cL_law 1296 = .ok (.iadd, 1) ∧ decode cL_law 1297 = .ok (.iaload, 1) := by decide +kernel
theorem dL_law_1278 : decode cL_law 1278 = .ok (.iadd, 1) := dgL_law_54.1
theorem dL_law_1279 : decode cL_law 1279 = .ok (.iaload, 1) := dgL_law_54.2.1
theorem dL_law_1280 : decode cL_law 1280 = .ok (.aload_n 0, 1) := dgL_law_54.2.2.1
theorem dL_law_1281 : decode cL_law 1281 = .ok (.iload_n 3, 1) := dgL_law_54.2.2.2.1
theorem dL_law_1282 : decode cL_law 1282 = .ok (.iconst 3, 1) := dgL_law_54.2.2.2.2.1
theorem dL_law_1283 : decode cL_law 1283 = .ok (.iadd, 1) := dgL_law_54.2.2.2.2.2.1
theorem dL_law_1284 : decode cL_law 1284 = .ok (.iaload, 1) := dgL_law_54.2.2.2.2.2.2.1
theorem dL_law_1285 : decode cL_law 1285 = .ok (.invokevirtual 161, 3) := dgL_law_54.2.2.2.2.2.2.2.1
theorem dL_law_1288 : decode cL_law 1288 = .ok (.pop, 1) := dgL_law_54.2.2.2.2.2.2.2.2.1
theorem dL_law_1289 : decode cL_law 1289 = .ok (.goto 197, 3) := dgL_law_54.2.2.2.2.2.2.2.2.2.1
theorem dL_law_1292 : decode cL_law 1292 = .ok (.aload_n 1, 1) := dgL_law_54.2.2.2.2.2.2.2.2.2.2.1
theorem dL_law_1293 : decode cL_law 1293 = .ok (.aload_n 0, 1) := dgL_law_54.2.2.2.2.2.2.2.2.2.2.2.1
theorem dL_law_1294 : decode cL_law 1294 = .ok (.iload_n 3, 1) := dgL_law_54.2.2.2.2.2.2.2.2.2.2.2.2.1
theorem dL_law_1295 : decode cL_law 1295 = .ok (.iconst 1, 1) := dgL_law_54.2.2.2.2.2.2.2.2.2.2.2.2.2.1
theorem dL_law_1296 : decode cL_law 1296 = .ok (.iadd, 1) := dgL_law_54.2.2.2.2.2.2.2.2.2.2.2.2.2.2.1
theorem dL_law_1297 : decode cL_law 1297 = .ok (.iaload, 1) := dgL_law_54.2.2.2.2.2.2.2.2.2.2.2.2.2.2.2
theorem dgL_law_55 : decode cL_law 1298 = .ok (.aload_n 0, 1) ∧ decode cL_law 1299 = .ok (.iload_n 3, 1) ∧ decode cL_law 1300 = .ok (.iconst 2, 1) ∧ decode cL_law 1301 = .ok (.iadd, 1) ∧ decode cL_law 1302 = .ok (.iaload, 1) ∧ decode cL_law 1303 = .ok (.invokevirtual 162, 3) ∧ decode cL_law 1306 = .ok (.pop, 1) ∧ decode cL_law 1307 = .ok (.aload_n 2, 1) ∧ decode cL_law 1308 = .ok (.aload_n 0, 1) ∧ decode cL_law 1309 = .ok (.iload_n 3, 1) ∧ decode cL_law 1310 = .ok (.iconst 1, 1) ∧ decode cL_law 1311 = .ok (.iadd, 1) ∧ decode cL_law 1312 = .ok (.iaload, 1) ∧ decode cL_law 1313 = .ok (.aload_n 0, 1) ∧ decode cL_law 1314 = .ok (.iload_n 3, 1) ∧ decode cL_law 1315 = .ok (.iconst 2, 1) := by decide +kernel
theorem dL_law_1298 : decode cL_law 1298 = .ok (.aload_n 0, 1) := dgL_law_55.1
theorem dL_law_1299 : decode cL_law 1299 = .ok (.iload_n 3, 1) := dgL_law_55.2.1
theorem dL_law_1300 : decode cL_law 1300 = .ok (.iconst 2, 1) := dgL_law_55.2.2.1
theorem dL_law_1301 : decode cL_law 1301 = .ok (.iadd, 1) := dgL_law_55.2.2.2.1
theorem dL_law_1302 : decode cL_law 1302 = .ok (.iaload, 1) := dgL_law_55.2.2.2.2.1
theorem dL_law_1303 : decode cL_law 1303 = .ok (.invokevirtual 162, 3) := dgL_law_55.2.2.2.2.2.1
theorem dL_law_1306 : decode cL_law 1306 = .ok (.pop, 1) := dgL_law_55.2.2.2.2.2.2.1
theorem dL_law_1307 : decode cL_law 1307 = .ok (.aload_n 2, 1) := dgL_law_55.2.2.2.2.2.2.2.1
theorem dL_law_1308 : decode cL_law 1308 = .ok (.aload_n 0, 1) := dgL_law_55.2.2.2.2.2.2.2.2.1
theorem dL_law_1309 : decode cL_law 1309 = .ok (.iload_n 3, 1) := dgL_law_55.2.2.2.2.2.2.2.2.2.1
theorem dL_law_1310 : decode cL_law 1310 = .ok (.iconst 1, 1) := dgL_law_55.2.2.2.2.2.2.2.2.2.2.1
theorem dL_law_1311 : decode cL_law 1311 = .ok (.iadd, 1) := dgL_law_55.2.2.2.2.2.2.2.2.2.2.2.1
theorem dL_law_1312 : decode cL_law 1312 = .ok (.iaload, 1) := dgL_law_55.2.2.2.2.2.2.2.2.2.2.2.2.1
theorem dL_law_1313 : decode cL_law 1313 = .ok (.aload_n 0, 1) := dgL_law_55.2.2.2.2.2.2.2.2.2.2.2.2.2.1
theorem dL_law_1314 : decode cL_law 1314 = .ok (.iload_n 3, 1) := dgL_law_55.2.2.2.2.2.2.2.2.2.2.2.2.2.2.1
theorem dL_law_1315 : decode cL_law 1315 = .ok (.iconst 2, 1) := dgL_law_55.2.2.2.2.2.2.2.2.2.2.2.2.2.2.2
theorem dgL_law_56 : decode cL_law 1316 = .ok (.iadd, 1) ∧ decode cL_law 1317 = .ok (.iaload, 1) ∧ decode cL_law 1318 = .ok (.invokevirtual 165, 3) ∧ decode cL_law 1321 = .ok (.pop, 1) ∧ decode cL_law 1322 = .ok (.goto 164, 3) ∧ decode cL_law 1325 = .ok (.aload_n 1, 1) ∧ decode cL_law 1326 = .ok (.aload_n 0, 1) ∧ decode cL_law 1327 = .ok (.iload_n 3, 1) ∧ decode cL_law 1328 = .ok (.iconst 1, 1) ∧ decode cL_law 1329 = .ok (.iadd, 1) ∧ decode cL_law 1330 = .ok (.iaload, 1) ∧ decode cL_law 1331 = .ok (.aload_n 0, 1) ∧ decode cL_law 1332 = .ok (.iload_n 3, 1) ∧ decode cL_law 1333 = .ok (.iconst 2, 1) ∧ decode cL_law 1334 = .ok (.iadd, 1) ∧ decode cL_law 1335 = .ok (.iaload, 1) := by decide +kernel
theorem dL_law_1316 : decode cL_law 1316 = .ok (.iadd, 1) := dgL_law_56.1
theorem dL_law_1317 : decode cL_law 1317 = .ok (.iaload, 1) := dgL_law_56.2.1
theorem dL_law_1318 : decode cL_law 1318 = .ok (.invokevirtual 165, 3) := dgL_law_56.2.2.1
theorem dL_law_1321 : decode cL_law 1321 = .ok (.pop, 1) := dgL_law_56.2.2.2.1
theorem dL_law_1322 : decode cL_law 1322 = .ok (.goto 164, 3) := dgL_law_56.2.2.2.2.1
theorem dL_law_1325 : decode cL_law 1325 = .ok (.aload_n 1, 1) := dgL_law_56.2.2.2.2.2.1
theorem dL_law_1326 : decode cL_law 1326 = .ok (.aload_n 0, 1) := dgL_law_56.2.2.2.2.2.2.1
theorem dL_law_1327 : decode cL_law 1327 = .ok (.iload_n 3, 1) := dgL_law_56.2.2.2.2.2.2.2.1
theorem dL_law_1328 : decode cL_law 1328 = .ok (.iconst 1, 1) := dgL_law_56.2.2.2.2.2.2.2.2.1
theorem dL_law_1329 : decode cL_law 1329 = .ok (.iadd, 1) := dgL_law_56.2.2.2.2.2.2.2.2.2.1
theorem dL_law_1330 : decode cL_law 1330 = .ok (.iaload, 1) := dgL_law_56.2.2.2.2.2.2.2.2.2.2.1
theorem dL_law_1331 : decode cL_law 1331 = .ok (.aload_n 0, 1) := dgL_law_56.2.2.2.2.2.2.2.2.2.2.2.1
theorem dL_law_1332 : decode cL_law 1332 = .ok (.iload_n 3, 1) := dgL_law_56.2.2.2.2.2.2.2.2.2.2.2.2.1
theorem dL_law_1333 : decode cL_law 1333 = .ok (.iconst 2, 1) := dgL_law_56.2.2.2.2.2.2.2.2.2.2.2.2.2.1
theorem dL_law_1334 : decode cL_law 1334 = .ok (.iadd, 1) := dgL_law_56.2.2.2.2.2.2.2.2.2.2.2.2.2.2.1
theorem dL_law_1335 : decode cL_law 1335 = .ok (.iaload, 1) := dgL_law_56.2.2.2.2.2.2.2.2.2.2.2.2.2.2.2
theorem dgL_law_57 : decode cL_law 1336 = .ok (.invokevirtual 166, 3) ∧ decode cL_law 1339 = .ok (.pop, 1) ∧ decode cL_law 1340 = .ok (.aload_n 2, 1) ∧ decode cL_law 1341 = .ok (.aload_n 0, 1) ∧ decode cL_law 1342 = .ok (.iload_n 3, 1) ∧ decode cL_law 1343 = .ok (.iconst 1, 1) ∧ decode cL_law 1344 = .ok (.iadd, 1) ∧ decode cL_law 1345 = .ok (.iaload, 1) ∧ decode cL_law 1346 = .ok (.aload_n 0, 1) ∧ decode cL_law 1347 = .ok (.iload_n 3, 1) ∧ decode cL_law 1348 = .ok (.iconst 2, 1) ∧ decode cL_law 1349 = .ok (.iadd, 1) ∧ decode cL_law 1350 = .ok (.iaload, 1) ∧ decode cL_law 1351 = .ok (.invokevirtual 169, 3) ∧ decode cL_law 1354 = .ok (.pop, 1) ∧ decode cL_law 1355 = .ok (.goto 131, 3) := by decide +kernel
theorem dL_law_1336 : decode cL_law 1336 = .ok (.invokevirtual 166, 3) := dgL_law_57.1
theorem dL_law_1339 : decode cL_law 1339 = .ok (.pop, 1) := dgL_law_57.2.1
theorem dL_law_1340 : decode cL_law 1340 = .ok (.aload_n 2, 1) := dgL_law_57.2.2.1
theorem dL_law_1341 : decode cL_law 1341 = .ok (.aload_n 0, 1) := dgL_law_57.2.2.2.1
theorem dL_law_1342 : decode cL_law 1342 = .ok (.iload_n 3, 1) := dgL_law_57.2.2.2.2.1
theorem dL_law_1343 : decode cL_law 1343 = .ok (.iconst 1, 1) := dgL_law_57.2.2.2.2.2.1
theorem dL_law_1344 : decode cL_law 1344 = .ok (.iadd, 1) := dgL_law_57.2.2.2.2.2.2.1
theorem dL_law_1345 : decode cL_law 1345 = .ok (.iaload, 1) := dgL_law_57.2.2.2.2.2.2.2.1
theorem dL_law_1346 : decode cL_law 1346 = .ok (.aload_n 0, 1) := dgL_law_57.2.2.2.2.2.2.2.2.1
theorem dL_law_1347 : decode cL_law 1347 = .ok (.iload_n 3, 1) := dgL_law_57.2.2.2.2.2.2.2.2.2.1
theorem dL_law_1348 : decode cL_law 1348 = .ok (.iconst 2, 1) := dgL_law_57.2.2.2.2.2.2.2.2.2.2.1
theorem dL_law_1349 : decode cL_law 1349 = .ok (.iadd, 1) := dgL_law_57.2.2.2.2.2.2.2.2.2.2.2.1
theorem dL_law_1350 : decode cL_law 1350 = .ok (.iaload, 1) := dgL_law_57.2.2.2.2.2.2.2.2.2.2.2.2.1
theorem dL_law_1351 : decode cL_law 1351 = .ok (.invokevirtual 169, 3) := dgL_law_57.2.2.2.2.2.2.2.2.2.2.2.2.2.1
theorem dL_law_1354 : decode cL_law 1354 = .ok (.pop, 1) := dgL_law_57.2.2.2.2.2.2.2.2.2.2.2.2.2.2.1
theorem dL_law_1355 : decode cL_law 1355 = .ok (.goto 131, 3) := dgL_law_57.2.2.2.2.2.2.2.2.2.2.2.2.2.2.2
theorem dgL_law_58 : decode cL_law 1358 = .ok (.aload_n 1, 1) ∧ decode cL_law 1359 = .ok (.aload_n 0, 1) ∧ decode cL_law 1360 = .ok (.iload_n 3, 1) ∧ decode cL_law 1361 = .ok (.iconst 1, 1) ∧ decode cL_law 1362 = .ok (.iadd, 1) ∧ decode cL_law 1363 = .ok (.iaload, 1) ∧ decode cL_law 1364 = .ok (.aload_n 0, 1) ∧ decode cL_law 1365 = .ok (.iload_n 3, 1) ∧ decode cL_law 1366 = .ok (.iconst 2, 1) ∧ decode cL_law 1367 = .ok (.iadd, 1) ∧ decode cL_law 1368 = .ok (.iaload, 1) ∧ decode cL_law 1369 = .ok (.invokevirtual 170, 3) ∧ decode cL_law 1372 = .ok (.pop, 1) ∧ decode cL_law 1373 = .ok (.aload_n 2, 1) ∧ decode cL_law 1374 = .ok (.aload_n 0, 1) ∧ decode cL_law 1375 = .ok (.iload_n 3, 1) := by decide +kernel
theorem dL_law_1358 : decode cL_law 1358 = .ok (.aload_n 1, 1) := dgL_law_58.1
theorem dL_law_1359 : decode cL_law 1359 = .ok (.aload_n 0, 1) := dgL_law_58.2.1
theorem dL_law_1360 : decode cL_law 1360 = .ok (.iload_n 3, 1) := dgL_law_58.2.2.1
theorem dL_law_1361 : decode cL_law 1361 = .ok (.iconst 1, 1) := dgL_law_58.2.2.2.1
theorem dL_law_1362 : decode cL_law 1362 = .ok (.iadd, 1) := dgL_law_58.2.2.2.2.1
theorem dL_law_1363 : decode cL_law 1363 = .ok (.iaload, 1) := dgL_law_58.2.2.2.2.2.1
theorem dL_law_1364 : decode cL_law 1364 = .ok (.aload_n 0, 1) := dgL_law_58.2.2.2.2.2.2.1
theorem dL_law_1365 : decode cL_law 1365 = .ok (.iload_n 3, 1) := dgL_law_58.2.2.2.2.2.2.2.1
theorem dL_law_1366 : decode cL_law 1366 = .ok (.iconst 2, 1) := dgL_law_58.2.2.2.2.2.2.2.2.1
theorem dL_law_1367 : decode cL_law 1367 = .ok (.iadd, 1) := dgL_law_58.2.2.2.2.2.2.2.2.2.1
theorem dL_law_1368 : decode cL_law 1368 = .ok (.iaload, 1) := dgL_law_58.2.2.2.2.2.2.2.2.2.2.1
theorem dL_law_1369 : decode cL_law 1369 = .ok (.invokevirtual 170, 3) := dgL_law_58.2.2.2.2.2.2.2.2.2.2.2.1
theorem dL_law_1372 : decode cL_law 1372 = .ok (.pop, 1) := dgL_law_58.2.2.2.2.2.2.2.2.2.2.2.2.1
theorem dL_law_1373 : decode cL_law 1373 = .ok (.aload_n 2, 1) := dgL_law_58.2.2.2.2.2.2.2.2.2.2.2.2.2.1
theorem dL_law_1374 : decode cL_law 1374 = .ok (.aload_n 0, 1) := dgL_law_58.2.2.2.2.2.2.2.2.2.2.2.2.2.2.1
theorem dL_law_1375 : decode cL_law 1375 = .ok (.iload_n 3, 1) := dgL_law_58.2.2.2.2.2.2.2.2.2.2.2.2.2.2.2
theorem dgL_law_59 : decode cL_law 1376 = .ok (.iconst 1, 1) ∧ decode cL_law 1377 = .ok (.iadd, 1) ∧ decode cL_law 1378 = .ok (.iaload, 1) ∧ decode cL_law 1379 = .ok (.aload_n 0, 1) ∧ decode cL_law 1380 = .ok (.iload_n 3, 1) ∧ decode cL_law 1381 = .ok (.iconst 2, 1) ∧ decode cL_law 1382 = .ok (.iadd, 1) ∧ decode cL_law 1383 = .ok (.iaload, 1) ∧ decode cL_law 1384 = .ok (.invokevirtual 173, 3) ∧ decode cL_law 1387 = .ok (.pop, 1) ∧ decode cL_law 1388 = .ok (.goto 98, 3) ∧ decode cL_law 1391 = .ok (.aload_n 1, 1) ∧ decode cL_law 1392 = .ok (.aload_n 0, 1) ∧ decode cL_law 1393 = .ok (.iload_n 3, 1) ∧ decode cL_law 1394 = .ok (.iconst 1, 1) ∧ decode cL_law 1395 = .ok (.iadd, 1) := by decide +kernel
theorem dL_law_1376 : decode cL_law 1376 = .ok (.iconst 1, 1) := dgL_law_59.1
theorem dL_law_1377 : decode cL_law 1377 = .ok (.iadd, 1) := dgL_law_59.2.1
theorem dL_law_1378 : decode cL_law 1378 = .ok (.iaload, 1) := dgL_law_59.2.2.1
theorem dL_law_1379 : decode cL_law 1379 = .ok (.aload_n 0, 1) := dgL_law_59.2.2.2.1
theorem dL_law_1380 : decode cL_law 1380 = .ok (.iload_n 3, 1) := dgL_law_59.2.2.2.2.1
theorem dL_law_1381 : decode cL_law 1381 = .ok (.iconst 2, 1) := dgL_law_59.2.2.2.2.2.1
theorem dL_law_1382 : decode cL_law 1382 = .ok (.iadd, 1) := dgL_law_59.2.2.2.2.2.2.1
theorem dL_law_1383 : decode cL_law 1383 = .ok (.iaload, 1) := dgL_law_59.2.2.2.2.2.2.2.1
theorem dL_law_1384 : decode cL_law 1384 = .ok (.invokevirtual 173, 3) := dgL_law_59.2.2.2.2.2.2.2.2.1
theorem dL_law_1387 : decode cL_law 1387 = .ok (.pop, 1) := dgL_law_59.2.2.2.2.2.2.2.2.2.1
theorem dL_law_1388 : decode cL_law 1388 = .ok (.goto 98, 3) := dgL_law_59.2.2.2.2.2.2.2.2.2.2.1
theorem dL_law_1391 : decode cL_law 1391 = .ok (.aload_n 1, 1) := dgL_law_59.2.2.2.2.2.2.2.2.2.2.2.1
theorem dL_law_1392 : decode cL_law 1392 = .ok (.aload_n 0, 1) := dgL_law_59.2.2.2.2.2.2.2.2.2.2.2.2.1
theorem dL_law_1393 : decode cL_law 1393 = .ok (.iload_n 3, 1) := dgL_law_59.2.2.2.2.2.2.2.2.2.2.2.2.2.1
theorem dL_law_1394 : decode cL_law 1394 = .ok (.iconst 1, 1) := dgL_law_59.2.2.2.2.2.2.2.2.2.2.2.2.2.2.1
theorem dL_law_1395 : decode cL_law 1395 = .ok (.iadd, 1) := dgL_law_59.2.2.2.2.2.2.2.2.2.2.2.2.2.2.2
theorem dgL_law_60 : decode cL_law 1396 = .ok (.iaload, 1) ∧ decode cL_law 1397 = .ok (.invokevirtual 174, 3) ∧ decode cL_law 1400 = .ok (.pop, 1) ∧ decode cL_law 1401 = .ok (.aload_n 2, 1) ∧ decode cL_law 1402 = .ok (.aload_n 0, 1) ∧ decode cL_law 1403 = .ok (.iload_n 3, 1) ∧ decode cL_law 1404 = .ok (.iconst 1, 1) ∧ decode cL_law 1405 = .ok (.iadd, 1) ∧ decode cL_law 1406 = .ok (.iaload, 1) ∧ decode cL_law 1407 = .ok (.invokevirtual 177, 3) ∧ decode cL_law 1410 = .ok (.pop, 1) ∧ decode cL_law 1411 = .ok (.goto 75, 3) ∧ decode cL_law 1414 = .ok (.aload_n 1, 1) ∧ decode cL_law 1415 = .ok (.aload_n 0, 1) ∧ decode cL_law 1416 = .ok (.iload_n 3, 1) ∧ decode cL_law 1417 = .ok (.iconst 1, 1) := by decide +kernel
theorem dL_law_1396 : decode cL_law 1396 = .ok (.iaload, 1) := dgL_law_60.1
theorem dL_law_1397 : decode cL_law 1397 = .ok (.invokevirtual 174, 3) := dgL_law_60.2.1
theorem dL_law_1400 : decode cL_law 1400 = .ok (.pop, 1) := dgL_law_60.2.2.1
theorem dL_law_1401 : decode cL_law 1401 = .ok (.aload_n 2, 1) := dgL_law_60.2.2.2.1
theorem dL_law_1402 : decode cL_law 1402 = .ok (.aload_n 0, 1) := dgL_law_60.2.2.2.2.1
theorem dL_law_1403 : decode cL_law 1403 = .ok (.iload_n 3, 1) := dgL_law_60.2.2.2.2.2.1
theorem dL_law_1404 : decode cL_law 1404 = .ok (.iconst 1, 1) := dgL_law_60.2.2.2.2.2.2.1
theorem dL_law_1405 : decode cL_law 1405 = .ok (.iadd, 1) := dgL_law_60.2.2.2.2.2.2.2.1
theorem dL_law_1406 : decode cL_law 1406 = .ok (.iaload, 1) := dgL_law_60.2.2.2.2.2.2.2.2.1
theorem dL_law_1407 : decode cL_law 1407 = .ok (.invokevirtual 177, 3) := dgL_law_60.2.2.2.2.2.2.2.2.2.1
theorem dL_law_1410 : decode cL_law 1410 = .ok (.pop, 1) := dgL_law_60.2.2.2.2.2.2.2.2.2.2.1
theorem dL_law_1411 : decode cL_law 1411 = .ok (.goto 75, 3) := dgL_law_60.2.2.2.2.2.2.2.2.2.2.2.1
theorem dL_law_1414 : decode cL_law 1414 = .ok (.aload_n 1, 1) := dgL_law_60.2.2.2.2.2.2.2.2.2.2.2.2.1
theorem dL_law_1415 : decode cL_law 1415 = .ok (.aload_n 0, 1) := dgL_law_60.2.2.2.2.2.2.2.2.2.2.2.2.2.1
theorem dL_law_1416 : decode cL_law 1416 = .ok (.iload_n 3, 1) := dgL_law_60.2.2.2.2.2.2.2.2.2.2.2.2.2.2.1
theorem dL_law_1417 : decode cL_law 1417 = .ok (.iconst 1, 1) := dgL_law_60.2.2.2.2.2.2.2.2.2.2.2.2.2.2.2
theorem dgL_law_61 : decode cL_law 1418 = .ok (.iadd, 1) ∧ decode cL_law 1419 = .ok (.iaload, 1) ∧ decode cL_law 1420 = .ok (.invokevirtual 178, 3) ∧ decode cL_law 1423 = .ok (.pop, 1) ∧ decode cL_law 1424 = .ok (.aload_n 2, 1) ∧ decode cL_law 1425 = .ok (.aload_n 0, 1) ∧ decode cL_law 1426 = .ok (.iload_n 3, 1) ∧ decode cL_law 1427 = .ok (.iconst 1, 1) ∧ decode cL_law 1428 = .ok (.iadd, 1) ∧ decode cL_law 1429 = .ok (.iaload, 1) ∧ decode cL_law 1430 = .ok (.invokevirtual 181, 3) ∧ decode cL_law 1433 = .ok (.pop, 1) ∧ decode cL_law 1434 = .ok (.goto 52, 3) ∧ decode cL_law 1437 = .ok (.aload_n 1, 1) ∧ decode cL_law 1438 = .ok (.invokevirtual 182, 3) ∧ decode cL_law 1441 = .ok (.pop, 1) := by decide +kernel
theorem dL_law_1418 : decode cL_law 1418 = .ok (.iadd, 1) := dgL_law_61.1
theorem dL_law_1419 : decode cL_law 1419 = .ok (.iaload, 1) := dgL_law_61.2.1
theorem dL_law_1420 : decode cL_law 1420 = .ok (.invokevirtual 178, 3) := dgL_law_61.2.2.1
theorem dL_law_1423 : decode cL_law 1423 = .ok (.pop, 1) := dgL_law_61.2.2.2.1
theorem dL_law_1424 : decode cL_law 1424 = .ok (.aload_n 2, 1) := dgL_law_61.2.2.2.2.1
theorem dL_law_1425 : decode cL_law 1425 = .ok (.aload_n 0, 1) := dgL_law_61.2.2.2.2.2.1
theorem dL_law_1426 : decode cL_law 1426 = .ok (.iload_n 3, 1) := dgL_law_61.2.2.2.2.2.2.1
theorem dL_law_1427 : decode cL_law 1427 = .ok (.iconst 1, 1) := dgL_law_61.2.2.2.2.2.2.2.1
theorem dL_law_1428 : decode cL_law 1428 = .ok (.iadd, 1) := dgL_law_61.2.2.2.2.2.2.2.2.1
theorem dL_law_1429 : decode cL_law 1429 = .ok (.iaload, 1) := dgL_law_61.2.2.2.2.2.2.2.2.2.1
theorem dL_law_1430 : decode cL_law 1430 = .ok (.invokevirtual 181, 3) := dgL_law_61.2.2.2.2.2.2.2.2.2.2.1
theorem dL_law_1433 : decode cL_law 1433 = .ok (.pop, 1) := dgL_law_61.2.2.2.2.2.2.2.2.2.2.2.1
theorem dL_law_1434 : decode cL_law 1434 = .ok (.goto 52, 3) := dgL_law_61.2.2.2.2.2.2.2.2.2.2.2.2.1
theorem dL_law_1437 : decode cL_law 1437 = .ok (.aload_n 1, 1) := dgL_law_61.2.2.2.2.2.2.2.2.2.2.2.2.2.1
theorem dL_law_1438 : decode cL_law 1438 = .ok (.invokevirtual 182, 3) := dgL_law_61.2.2.2.2.2.2.2.2.2.2.2.2.2.2.1
theorem dL_law_1441 : decode cL_law 1441 = .ok (.pop, 1) := dgL_law_61.2.2.2.2.2.2.2.2.2.2.2.2.2.2.2
theorem dgL_law_62 : decode cL_law 1442 = .ok (.aload_n 2, 1) ∧ decode cL_law 1443 = .ok (.invokevirtual 185, 3) ∧ decode cL_law 1446 = .ok (.pop, 1) ∧ decode cL_law 1447 = .ok (.goto 39, 3) ∧ decode cL_law 1450 = .ok (.aload_n 1, 1) ∧ decode cL_law 1451 = .ok (.invokevirtual 186, 3) ∧ decode cL_law 1454 = .ok (.pop, 1) ∧ decode cL_law 1455 = .ok (.aload_n 2, 1) ∧ decode cL_law 1456 = .ok (.invokevirtual 189, 3) ∧ decode cL_law 1459 = .ok (.pop, 1) ∧ decode cL_law 1460 = .ok (.goto 26, 3) ∧ decode cL_law 1463 = .ok (.aload_n 1, 1) ∧ decode cL_law 1464 = .ok (.aload_n 0, 1) ∧ decode cL_law 1465 = .ok (.iload_n 3, 1) ∧ decode cL_law 1466 = .ok (.iconst 1, 1) ∧ decode cL_law 1467 = .ok (.iadd, 1) := by decide +kernel
theorem dL_law_1442 : decode cL_law 1442 = .ok (.aload_n 2, 1) := dgL_law_62.1
theorem dL_law_1443 : decode cL_law 1443 = .ok (.invokevirtual 185, 3) := dgL_law_62.2.1
theorem dL_law_1446 : decode cL_law 1446 = .ok (.pop, 1) := dgL_law_62.2.2.1
theorem dL_law_1447 : decode cL_law 1447 = .ok (.goto 39, 3) := dgL_law_62.2.2.2.1
theorem dL_law_1450 : decode cL_law 1450 = .ok (.aload_n 1, 1) := dgL_law_62.2.2.2.2.1
theorem dL_law_1451 : decode cL_law 1451 = .ok (.invokevirtual 186, 3) := dgL_law_62.2.2.2.2.2.1
theorem dL_law_1454 : decode cL_law 1454 = .ok (.pop, 1) := dgL_law_62.2.2.2.2.2.2.1
theorem dL_law_1455 : decode cL_law 1455 = .ok (.aload_n 2, 1) := dgL_law_62.2.2.2.2.2.2.2.1
theorem dL_law_1456 : decode cL_law 1456 = .ok (.invokevirtual 189, 3) := dgL_law_62.2.2.2.2.2.2.2.2.1
theorem dL_law_1459 : decode cL_law 1459 = .ok (.pop, 1) := dgL_law_62.2.2.2.2.2.2.2.2.2.1
theorem dL_law_1460 : decode cL_law 1460 = .ok (.goto 26, 3) := dgL_law_62.2.2.2.2.2.2.2.2.2.2.1
theorem dL_law_1463 : decode cL_law 1463 = .ok (.aload_n 1, 1) := dgL_law_62.2.2.2.2.2.2.2.2.2.2.2.1
theorem dL_law_1464 : decode cL_law 1464 = .ok (.aload_n 0, 1) := dgL_law_62.2.2.2.2.2.2.2.2.2.2.2.2.1
theorem dL_law_1465 : decode cL_law 1465 = .ok (.iload_n 3, 1) := dgL_law_62.2.2.2.2.2.2.2.2.2.2.2.2.2.1
theorem dL_law_1466 : decode cL_law 1466 = .ok (.iconst 1, 1) := dgL_law_62.2.2.2.2.2.2.2.2.2.2.2.2.2.2.1
theorem dL_law_1467 : decode cL_law 1467 = .ok (.iadd, 1) := dgL_law_62.2.2.2.2.2.2.2.2.2.2.2.2.2.2.2
theorem dgL_law_63 : decode cL_law 1468 = .ok (.iaload, 1) ∧ decode cL_law 1469 = .ok (.invokevirtual 190, 3) ∧ decode cL_law 1472 = .ok (.pop, 1) ∧ decode cL_law 1473 = .ok (.aload_n 2, 1) ∧ decode cL_law 1474 = .ok (.aload_n 0, 1) ∧ decode cL_law 1475 = .ok (.iload_n 3, 1) ∧ decode cL_law 1476 = .ok (.iconst 1, 1) ∧ decode cL_law 1477 = .ok (.iadd, 1) ∧ decode cL_law 1478 = .ok (.iaload, 1) ∧ decode cL_law 1479 = .ok (.invokevirtual 193, 3) ∧ decode cL_law 1482 = .ok (.pop, 1) ∧ decode cL_law 1483 = .ok (.goto 3, 3) ∧ decode cL_law 1486 = .ok (.iinc 3 6, 3) ∧ decode cL_law 1489 = .ok (.goto (-1471), 3) ∧ decode cL_law 1492 = .ok (.iconst 1, 1) ∧ decode cL_law 1493 = .ok (.ireturn, 1) := by decide +kernel
theorem dL_law_1468 : decode cL_law 1468 = .ok (.iaload, 1) := dgL_law_63.1
theorem dL_law_1469 : decode cL_law 1469 = .ok (.invokevirtual 190, 3) := dgL_law_63.2.1
theorem dL_law_1472 : decode cL_law 1472 = .ok (.pop, 1) := dgL_law_63.2.2.1
theorem dL_law_1473 : decode cL_law 1473 = .ok (.aload_n 2, 1) := dgL_law_63.2.2.2.1
theorem dL_law_1474 : decode cL_law 1474 = .ok (.aload_n 0, 1) := dgL_law_63.2.2.2.2.1
theorem dL_law_1475 : decode cL_law 1475 = .ok (.iload_n 3, 1) := dgL_law_63.2.2.2.2.2.1
theorem dL_law_1476 : decode cL_law 1476 = .ok (.iconst 1, 1) := dgL_law_63.2.2.2.2.2.2.1
theorem dL_law_1477 : decode cL_law 1477 = .ok (.iadd, 1) := dgL_law_63.2.2.2.2.2.2.2.1
theorem dL_law_1478 : decode cL_law 1478 = .ok (.iaload, 1) := dgL_law_63.2.2.2.2.2.2.2.2.1
theorem dL_law_1479 : decode cL_law 1479 = .ok (.invokevirtual 193, 3) := dgL_law_63.2.2.2.2.2.2.2.2.2.1
theorem dL_law_1482 : decode cL_law 1482 = .ok (.pop, 1) := dgL_law_63.2.2.2.2.2.2.2.2.2.2.1
theorem dL_law_1483 : decode cL_law 1483 = .ok (.goto 3, 3) := dgL_law_63.2.2.2.2.2.2.2.2.2.2.2.1
theorem dL_law_1486 : decode cL_law 1486 = .ok (.iinc 3 6, 3) := dgL_law_63.2.2.2.2.2.2.2.2.2.2.2.2.1
theorem dL_law_1489 : decode cL_law 1489 = .ok (.goto (-1471), 3) := dgL_law_63.2.2.2.2.2.2.2.2.2.2.2.2.2.1
theorem dL_law_1492 : decode cL_law 1492 = .ok (.iconst 1, 1) := dgL_law_63.2.2.2.2.2.2.2.2.2.2.2.2.2.2.1
theorem dL_law_1493 : decode cL_law 1493 = .ok (.ireturn, 1) := dgL_law_63.2.2.2.2.2.2.2.2.2.2.2.2.2.2.2
abbrev pL_law : List Nat := [0, 18, 224, 267, 300, 343, 376, 409, 452, 475, 508, 531, 554, 577, 600, 623, 646, 679, 712, 725, 748, 771, 804, 817, 850, 883, 896, 919, 962, 985, 998, 1031, 1054, 1097, 1140, 1163, 1186, 1249, 1292, 1325, 1358, 1391, 1414, 1437, 1450, 1463, 1486, 1492]
def bL_law_0 (xs : List Int32) (cal : ab_F) : ab_K := o_new 7 [.null, .null, .null, .null, .null, .null, .null, .null, .int 0, .int 0] <| o_dup <| o_callI cal 74 0 <| o_astore 1 <| o_new 8 [.null, .null, .null, .int 0, .int 0, .null, .null, .null, .null, .int 0, .int 0, .int 0, .int 0, .int 0, .int 0, .int 0, .null, .null, .null, .int 0, .int 0, .null, .int 0, .null, .null, .null, .null, .null, .null, .null, .null, .null, .null, .null, .null, .int 0] <| o_dup <| o_callI cal 127 0 <| o_astore 2 <| o_push (.int 0) <| o_istore 3 <| o_goto 1
def bL_law_1 (xs : List Int32) (cal : ab_F) : ab_K := o_iload 3 <| o_aload 0 <| o_xlen 1 xs <| o_push (.int 6) <| o_bin (fun x y => x - y) <| o_cmp (fun x y => decide (y < x)) 47 <| o_aload 0 <| o_iload 3 <| o_xald 1 xs <| o_push (.int 63) <| o_bin (fun x y => x &&& y) <| o_sw (ab_tsw 0 [2, 3, 4, 5, 6, 7, 8, 9, 10, 11, 12, 13, 14, 15, 16, 17, 18, 19, 20, 21, 22, 23, 24, 25, 26, 27, 28, 29, 30, 31, 32, 33, 34, 35, 36, 37, 38, 39, 40, 41, 42, 43, 44, 45] 46)
def bL_law_2 (xs : List Int32) (cal : ab_F) : ab_K := o_aload 1 <| o_aload 0 <| o_iload 3 <| o_push (.int 1) <| o_bin (fun x y => x + y) <| o_xald 1 xs <| o_aload 0 <| o_iload 3 <| o_push (.int 2) <| o_bin (fun x y => x + y) <| o_xald 1 xs <| o_aload 0 <| o_iload 3 <| o_push (.int 3) <| o_bin (fun x y => x + y) <| o_xald 1 xs <| o_callV cal 75 3 7 <| o_pop <| o_aload 2 <| o_aload 0 <| o_iload 3 <| o_push (.int 1) <| o_bin (fun x y => x + y) <| o_xald 1 xs <| o_aload 0 <| o_iload 3 <| o_push (.int 2) <| o_bin (fun x y => x + y) <| o_xald 1 xs <| o_aload 0 <| o_iload 3 <| o_push (.int 3) <| o_bin (fun x y => x + y) <| o_xald 1 xs <| o_callV cal 138 3 8 <| o_pop <| o_goto 46
def bL_law_3 (xs : List Int32) (cal : ab_F) : ab_K := o_aload 1 <| o_aload 0 <| o_iload 3 <| o_push (.int 1) <| o_bin (fun x y => x + y) <| o_xald 1 xs <| o_aload 0 <| o_iload 3 <| o_push (.int 2) <| o_bin (fun x y => x + y) <| o_xald 1 xs <| o_callV cal 76 2 7 <| o_pop <| o_aload 2 <| o_aload 0 <| o_iload 3 <| o_push (.int 1) <| o_bin (fun x y => x + y) <| o_xald 1 xs <| o_aload 0 <| o_iload 3 <| o_push (.int 2) <| o_bin (fun x y => x + y) <| o_xald 1 xs <| o_callV cal 141 2 8 <| o_pop <| o_goto 46
def bL_law_4 (xs : List Int32) (cal : ab_F) : ab_K := o_aload 1 <| o_aload 0 <| o_iload 3 <| o_push (.int 1) <| o_bin (fun x y => x + y) <| o_xald 1 xs <| o_aload 0 <| o_iload 3 <| o_push (.int 2) <| o_bin (fun x y => x + y) <| o_xald 1 xs <| o_aload 0 <| o_iload 3 <| o_push (.int 3) <| o_bin (fun x y => x + y) <| o_xald 1 xs <| o_callV cal 77 3 7 <| o_pop <| o_aload 2 <| o_aload 0 <| o_iload 3 <| o_push (.int 1) <| o_bin (fun x y => x + y) <| o_xald 1 xs <| o_aload 0 <| o_iload 3 <| o_push (.int 2) <| o_bin (fun x y => x + y) <| o_xald 1 xs <| o_aload 0 <| o_iload 3 <| o_push (.int 3) <| o_bin (fun x y => x + y) <| o_xald 1 xs <| o_callV cal 145 3 8 <| o_pop <| o_goto 46
def bL_law_5 (xs : List Int32) (cal : ab_F) : ab_K := o_aload 1 <| o_aload 0 <| o_iload 3 <| o_push (.int 1) <| o_bin (fun x y => x + y) <| o_xald 1 xs <| o_aload 0 <| o_iload 3 <| o_push (.int 2) <| o_bin (fun x y => x + y) <| o_xald 1 xs <| o_callV cal 78 2 7 <| o_pop <| o_aload 2 <| o_aload 0 <| o_iload 3 <| o_push (.int 1) <| o_bin (fun x y => x + y) <| o_xald 1 xs <| o_aload 0 <| o_iload 3 <| o_push (.int 2) <| o_bin (fun x y => x + y) <| o_xald 1 xs <| o_callV cal 147 2 8 <| o_pop <| o_goto 46
def bL_law_6 (xs : List Int32) (cal : ab_F) : ab_K := o_aload 1 <| o_aload 0 <| o_iload 3 <| o_push (.int 1) <| o_bin (fun x y => x + y) <| o_xald 1 xs <| o_aload 0 <| o_iload 3 <| o_push (.int 2) <| o_bin (fun x y => x + y) <| o_xald 1 xs <| o_callV cal 79 2 7 <| o_pop <| o_aload 2 <| o_aload 0 <| o_iload 3 <| o_push (.int 1) <| o_bin (fun x y => x + y) <| o_xald 1 xs <| o_aload 0 <| o_iload 3 <| o_push (.int 2) <| o_bin (fun x y => x + y) <| o_xald 1 xs <| o_callV cal 148 2 8 <| o_pop <| o_goto 46
def bL_law_7 (xs : List Int32) (cal : ab_F) : ab_K := o_aload 1 <| o_aload 0 <| o_iload 3 <| o_push (.int 1) <| o_bin (fun x y => x + y) <| o_xald 1 xs <| o_aload 0 <| o_iload 3 <| o_push (.int 2) <| o_bin (fun x y => x + y) <| o_xald 1 xs <| o_aload 0 <| o_iload 3 <| o_push (.int 3) <| o_bin (fun x y => x + y) <| o_xald 1 xs <| o_callV cal 80 3 7 <| o_aload 2 <| o_aload 0 <| o_iload 3 <| o_push (.int 1) <| o_bin (fun x y => x + y) <| o_xald 1 xs <| o_aload 0 <| o_iload 3 <| o_push (.int 2) <| o_bin (fun x y => x + y) <| o_xald 1 xs <| o_aload 0 <| o_iload 3 <| o_push (.int 3) <| o_bin (fun x y => x + y) <| o_xald 1 xs <| o_callV cal 150 3 8 <| o_cmp (fun x y => decide (x = y)) 46 <| o_push (.int 0) <| o_ret (some .boolean)
def bL_law_8 (xs : List Int32) (cal : ab_F) : ab_K := o_aload 1 <| o_aload 0 <| o_iload 3 <| o_push (.int 1) <| o_bin (fun x y => x + y) <| o_xald 1 xs <| o_callV cal 81 1 7 <| o_pop <| o_aload 2 <| o_aload 0 <| o_iload 3 <| o_push (.int 1) <| o_bin (fun x y => x + y) <| o_xald 1 xs <| o_callV cal 151 1 8 <| o_pop <| o_goto 46
def bL_law_9 (xs : List Int32) (cal : ab_F) : ab_K := o_aload 1 <| o_aload 0 <| o_iload 3 <| o_push (.int 1) <| o_bin (fun x y => x + y) <| o_xald 1 xs <| o_aload 0 <| o_iload 3 <| o_push (.int 2) <| o_bin (fun x y => x + y) <| o_xald 1 xs <| o_callV cal 82 2 7 <| o_pop <| o_aload 2 <| o_aload 0 <| o_iload 3 <| o_push (.int 1) <| o_bin (fun x y => x + y) <| o_xald 1 xs <| o_aload 0 <| o_iload 3 <| o_push (.int 2) <| o_bin (fun x y => x + y) <| o_xald 1 xs <| o_callV cal 152 2 8 <| o_pop <| o_goto 46
def bL_law_10 (xs : List Int32) (cal : ab_F) : ab_K := o_aload 1 <| o_aload 0 <| o_iload 3 <| o_push (.int 1) <| o_bin (fun x y => x + y) <| o_xald 1 xs <| o_callV cal 83 1 7 <| o_pop <| o_aload 2 <| o_aload 0 <| o_iload 3 <| o_push (.int 1) <| o_bin (fun x y => x + y) <| o_xald 1 xs <| o_callV cal 153 1 8 <| o_pop <| o_goto 46
def bL_law_11 (xs : List Int32) (cal : ab_F) : ab_K := o_aload 1 <| o_aload 0 <| o_iload 3 <| o_push (.int 1) <| o_bin (fun x y => x + y) <| o_xald 1 xs <| o_callV cal 84 1 7 <| o_pop <| o_aload 2 <| o_aload 0 <| o_iload 3 <| o_push (.int 1) <| o_bin (fun x y => x + y) <| o_xald 1 xs <| o_callV cal 155 1 8 <| o_pop <| o_goto 46
def bL_law_12 (xs : List Int32) (cal : ab_F) : ab_K := o_aload 1 <| o_aload 0 <| o_iload 3 <| o_push (.int 1) <| o_bin (fun x y => x + y) <| o_xald 1 xs <| o_callV cal 85 1 7 <| o_pop <| o_aload 2 <| o_aload 0 <| o_iload 3 <| o_push (.int 1) <| o_bin (fun x y => x + y) <| o_xald 1 xs <| o_callV cal 156 1 8 <| o_pop <| o_goto 46
def bL_law_13 (xs : List Int32) (cal : ab_F) : ab_K := o_aload 1 <| o_aload 0 <| o_iload 3 <| o_push (.int 1) <| o_bin (fun x y => x + y) <| o_xald 1 xs <| o_callV cal 86 1 7 <| o_pop <| o_aload 2 <| o_aload 0 <| o_iload 3 <| o_push (.int 1) <| o_bin (fun x y => x + y) <| o_xald 1 xs <| o_callV cal 161 1 8 <| o_pop <| o_goto 46
def bL_law_14 (xs : List Int32) (cal : ab_F) : ab_K := o_aload 1 <| o_aload 0 <| o_iload 3 <| o_push (.int 1) <| o_bin (fun x y => x + y) <| o_xald 1 xs <| o_callV cal 87 1 7 <| o_pop <| o_aload 2 <| o_aload 0 <| o_iload 3 <| o_push (.int 1) <| o_bin (fun x y => x + y) <| o_xald 1 xs <| o_callV cal 164 1 8 <| o_pop <| o_goto 46
def bL_law_15 (xs : List Int32) (cal : ab_F) : ab_K := o_aload 1 <| o_aload 0 <| o_iload 3 <| o_push (.int 1) <| o_bin (fun x y => x + y) <| o_xald 1 xs <| o_callV cal 88 1 7 <| o_pop <| o_aload 2 <| o_aload 0 <| o_iload 3 <| o_push (.int 1) <| o_bin (fun x y => x + y) <| o_xald 1 xs <| o_callV cal 165 1 8 <| o_pop <| o_goto 46
def bL_law_16 (xs : List Int32) (cal : ab_F) : ab_K := o_aload 1 <| o_aload 0 <| o_iload 3 <| o_push (.int 1) <| o_bin (fun x y => x + y) <| o_xald 1 xs <| o_aload 0 <| o_iload 3 <| o_push (.int 2) <| o_bin (fun x y => x + y) <| o_xald 1 xs <| o_callV cal 89 2 7 <| o_pop <| o_aload 2 <| o_aload 0 <| o_iload 3 <| o_push (.int 1) <| o_bin (fun x y => x + y) <| o_xald 1 xs <| o_aload 0 <| o_iload 3 <| o_push (.int 2) <| o_bin (fun x y => x + y) <| o_xald 1 xs <| o_callV cal 169 2 8 <| o_pop <| o_goto 46
def bL_law_17 (xs : List Int32) (cal : ab_F) : ab_K := o_aload 1 <| o_aload 0 <| o_iload 3 <| o_push (.int 1) <| o_bin (fun x y => x + y) <| o_xald 1 xs <| o_aload 0 <| o_iload 3 <| o_push (.int 2) <| o_bin (fun x y => x + y) <| o_xald 1 xs <| o_callV cal 90 2 7 <| o_pop <| o_aload 2 <| o_aload 0 <| o_iload 3 <| o_push (.int 1) <| o_bin (fun x y => x + y) <| o_xald 1 xs <| o_aload 0 <| o_iload 3 <| o_push (.int 2) <| o_bin (fun x y => x + y) <| o_xald 1 xs <| o_callV cal 170 2 8 <| o_pop <| o_goto 46
def bL_law_18 (xs : List Int32) (cal : ab_F) : ab_K := o_aload 1 <| o_callV cal 91 0 7 <| o_pop <| o_aload 2 <| o_callV cal 172 0 8 <| o_pop <| o_goto 46
def bL_law_19 (xs : List Int32) (cal : ab_F) : ab_K := o_aload 1 <| o_aload 0 <| o_iload 3 <| o_push (.int 1) <| o_bin (fun x y => x + y) <| o_xald 1 xs <| o_callV cal 92 1 7 <| o_pop <| o_aload 2 <| o_aload 0 <| o_iload 3 <| o_push (.int 1) <| o_bin (fun x y => x + y) <| o_xald 1 xs <| o_callV cal 174 1 8 <| o_pop <| o_goto 46
def bL_law_20 (xs : List Int32) (cal : ab_F) : ab_K := o_aload 1 <| o_aload 0 <| o_iload 3 <| o_push (.int 1) <| o_bin (fun x y => x + y) <| o_xald 1 xs <| o_callV cal 93 1 7 <| o_pop <| o_aload 2 <| o_aload 0 <| o_iload 3 <| o_push (.int 1) <| o_bin (fun x y => x + y) <| o_xald 1 xs <| o_callV cal 175 1 8 <| o_pop <| o_goto 46
def bL_law_21 (xs : List Int32) (cal : ab_F) : ab_K := o_aload 1 <| o_aload 0 <| o_iload 3 <| o_push (.int 1) <| o_bin (fun x y => x + y) <| o_xald 1 xs <| o_aload 0 <| o_iload 3 <| o_push (.int 2) <| o_bin (fun x y => x + y) <| o_xald 1 xs <| o_callV cal 94 2 7 <| o_pop <| o_aload 2 <| o_aload 0 <| o_iload 3 <| o_push (.int 1) <| o_bin (fun x y => x + y) <| o_xald 1 xs <| o_aload 0 <| o_iload 3 <| o_push (.int 2) <| o_bin (fun x y => x + y) <| o_xald 1 xs <| o_callV cal 178 2 8 <| o_pop <| o_goto 46
def bL_law_22 (xs : List Int32) (cal : ab_F) : ab_K := o_aload 1 <| o_callV cal 95 0 7 <| o_pop <| o_aload 2 <| o_callV cal 180 0 8 <| o_pop <| o_goto 46
def bL_law_23 (xs : List Int32) (cal : ab_F) : ab_K := o_aload 1 <| o_aload 0 <| o_iload 3 <| o_push (.int 1) <| o_bin (fun x y => x + y) <| o_xald 1 xs <| o_aload 0 <| o_iload 3 <| o_push (.int 2) <| o_bin (fun x y => x + y) <| o_xald 1 xs <| o_callV cal 96 2 7 <| o_pop <| o_aload 2 <| o_aload 0 <| o_iload 3 <| o_push (.int 1) <| o_bin (fun x y => x + y) <| o_xald 1 xs <| o_aload 0 <| o_iload 3 <| o_push (.int 2) <| o_bin (fun x y => x + y) <| o_xald 1 xs <| o_callV cal 181 2 8 <| o_pop <| o_goto 46
def bL_law_24 (xs : List Int32) (cal : ab_F) : ab_K := o_aload 1 <| o_aload 0 <| o_iload 3 <| o_push (.int 1) <| o_bin (fun x y => x + y) <| o_xald 1 xs <| o_aload 0 <| o_iload 3 <| o_push (.int 2) <| o_bin (fun x y => x + y) <| o_xald 1 xs <| o_callV cal 97 2 7 <| o_pop <| o_aload 2 <| o_aload 0 <| o_iload 3 <| o_push (.int 1) <| o_bin (fun x y => x + y) <| o_xald 1 xs <| o_aload 0 <| o_iload 3 <| o_push (.int 2) <| o_bin (fun x y => x + y) <| o_xald 1 xs <| o_callV cal 184 2 8 <| o_pop <| o_goto 46
def bL_law_25 (xs : List Int32) (cal : ab_F) : ab_K := o_aload 1 <| o_callV cal 98 0 7 <| o_pop <| o_aload 2 <| o_callV cal 185 0 8 <| o_pop <| o_goto 46
def bL_law_26 (xs : List Int32) (cal : ab_F) : ab_K := o_aload 1 <| o_aload 0 <| o_iload 3 <| o_push (.int 1) <| o_bin (fun x y => x + y) <| o_xald 1 xs <| o_callV cal 99 1 7 <| o_pop <| o_aload 2 <| o_aload 0 <| o_iload 3 <| o_push (.int 1) <| o_bin (fun x y => x + y) <| o_xald 1 xs <| o_callV cal 186 1 8 <| o_pop <| o_goto 46
def bL_law_27 (xs : List Int32) (cal : ab_F) : ab_K := o_aload 1 <| o_aload 0 <| o_iload 3 <| o_push (.int 1) <| o_bin (fun x y => x + y) <| o_xald 1 xs <| o_aload 0 <| o_iload 3 <| o_push (.int 2) <| o_bin (fun x y => x + y) <| o_xald 1 xs <| o_aload 0 <| o_iload 3 <| o_push (.int 3) <| o_bin (fun x y => x + y) <| o_xald 1 xs <| o_callV cal 100 3 7 <| o_pop <| o_aload 2 <| o_aload 0 <| o_iload 3 <| o_push (.int 1) <| o_bin (fun x y => x + y) <| o_xald 1 xs <| o_aload 0 <| o_iload 3 <| o_push (.int 2) <| o_bin (fun x y => x + y) <| o_xald 1 xs <| o_aload 0 <| o_iload 3 <| o_push (.int 3) <| o_bin (fun x y => x + y) <| o_xald 1 xs <| o_callV cal 187 3 8 <| o_pop <| o_goto 46
def bL_law_28 (xs : List Int32) (cal : ab_F) : ab_K := o_aload 1 <| o_aload 0 <| o_iload 3 <| o_push (.int 1) <| o_bin (fun x y => x + y) <| o_xald 1 xs <| o_callV cal 101 1 7 <| o_pop <| o_aload 2 <| o_aload 0 <| o_iload 3 <| o_push (.int 1) <| o_bin (fun x y => x + y) <| o_xald 1 xs <| o_callV cal 188 1 8 <| o_pop <| o_goto 46
def bL_law_29 (xs : List Int32) (cal : ab_F) : ab_K := o_aload 1 <| o_callV cal 102 0 7 <| o_pop <| o_aload 2 <| o_callV cal 200 0 8 <| o_pop <| o_goto 46
def bL_law_30 (xs : List Int32) (cal : ab_F) : ab_K := o_aload 1 <| o_aload 0 <| o_iload 3 <| o_push (.int 1) <| o_bin (fun x y => x + y) <| o_xald 1 xs <| o_aload 0 <| o_iload 3 <| o_push (.int 2) <| o_bin (fun x y => x + y) <| o_xald 1 xs <| o_callV cal 103 2 7 <| o_pop <| o_aload 2 <| o_aload 0 <| o_iload 3 <| o_push (.int 1) <| o_bin (fun x y => x + y) <| o_xald 1 xs <| o_aload 0 <| o_iload 3 <| o_push (.int 2) <| o_bin (fun x y => x + y) <| o_xald 1 xs <| o_callV cal 201 2 8 <| o_pop <| o_goto 46
def bL_law_31 (xs : List Int32) (cal : ab_F) : ab_K := o_aload 1 <| o_aload 0 <| o_iload 3 <| o_push (.int 1) <| o_bin (fun x y => x + y) <| o_xald 1 xs <| o_callV cal 104 1 7 <| o_pop <| o_aload 2 <| o_aload 0 <| o_iload 3 <| o_push (.int 1) <| o_bin (fun x y => x + y) <| o_xald 1 xs <| o_callV cal 203 1 8 <| o_pop <| o_goto 46
def bL_law_32 (xs : List Int32) (cal : ab_F) : ab_K := o_aload 1 <| o_aload 0 <| o_iload 3 <| o_push (.int 1) <| o_bin (fun x y => x + y) <| o_xald 1 xs <| o_aload 0 <| o_iload 3 <| o_push (.int 2) <| o_bin (fun x y => x + y) <| o_xald 1 xs <| o_aload 0 <| o_iload 3 <| o_push (.int 3) <| o_bin (fun x y => x + y) <| o_xald 1 xs <| o_callV cal 105 3 7 <| o_pop <| o_aload 2 <| o_aload 0 <| o_iload 3 <| o_push (.int 1) <| o_bin (fun x y => x + y) <| o_xald 1 xs <| o_aload 0 <| o_iload 3 <| o_push (.int 2) <| o_bin (fun x y => x + y) <| o_xald 1 xs <| o_aload 0 <| o_iload 3 <| o_push (.int 3) <| o_bin (fun x y => x + y) <| o_xald 1 xs <| o_callV cal 208 3 8 <| o_pop <| o_goto 46
def bL_law_33 (xs : List Int32) (cal : ab_F) : ab_K := o_aload 1 <| o_aload 0 <| o_iload 3 <| o_push (.int 1) <| o_bin (fun x y => x + y) <| o_xald 1 xs <| o_aload 0 <| o_iload 3 <| o_push (.int 2) <| o_bin (fun x y => x + y) <| o_xald 1 xs <| o_aload 0 <| o_iload 3 <| o_push (.int 3) <| o_bin (fun x y => x + y) <| o_xald 1 xs <| o_callV cal 106 3 7 <| o_pop <| o_aload 2 <| o_aload 0 <| o_iload 3 <| o_push (.int 1) <| o_bin (fun x y => x + y) <| o_xald 1 xs <| o_aload 0 <| o_iload 3 <| o_push (.int 2) <| o_bin (fun x y => x + y) <| o_xald 1 xs <| o_aload 0 <| o_iload 3 <| o_push (.int 3) <| o_bin (fun x y => x + y) <| o_xald 1 xs <| o_callV cal 209 3 8 <| o_pop <| o_goto 46
def bL_law_34 (xs : List Int32) (cal : ab_F) : ab_K := o_aload 1 <| o_aload 0 <| o_iload 3 <| o_push (.int 1) <| o_bin (fun x y => x + y) <| o_xald 1 xs <| o_callV cal 107 1 7 <| o_pop <| o_aload 2 <| o_aload 0 <| o_iload 3 <| o_push (.int 1) <| o_bin (fun x y => x + y) <| o_xald 1 xs <| o_callV cal 210 1 8 <| o_pop <| o_goto 46
def bL_law_35 (xs : List Int32) (cal : ab_F) : ab_K := o_aload 1 <| o_aload 0 <| o_iload 3 <| o_push (.int 1) <| o_bin (fun x y => x + y) <| o_xald 1 xs <| o_callV cal 108 1 7 <| o_pop <| o_aload 2 <| o_aload 0 <| o_iload 3 <| o_push (.int 1) <| o_bin (fun x y => x + y) <| o_xald 1 xs <| o_callV cal 211 1 8 <| o_pop <| o_goto 46
def bL_law_36 (xs : List Int32) (cal : ab_F) : ab_K := o_aload 1 <| o_aload 0 <| o_iload 3 <| o_push (.int 1) <| o_bin (fun x y => x + y) <| o_xald 1 xs <| o_aload 0 <| o_iload 3 <| o_push (.int 2) <| o_bin (fun x y => x + y) <| o_xald 1 xs <| o_aload 0 <| o_iload 3 <| o_push (.int 3) <| o_bin (fun x y => x + y) <| o_xald 1 xs <| o_aload 0 <| o_iload 3 <| o_push (.int 4) <| o_bin (fun x y => x + y) <| o_xald 1 xs <| o_aload 0 <| o_iload 3 <| o_push (.int 5) <| o_bin (fun x y => x + y) <| o_xald 1 xs <| o_callV cal 109 5 7 <| o_pop <| o_aload 2 <| o_aload 0 <| o_iload 3 <| o_push (.int 1) <| o_bin (fun x y => x + y) <| o_xald 1 xs <| o_aload 0 <| o_iload 3 <| o_push (.int 2) <| o_bin (fun x y => x + y) <| o_xald 1 xs <| o_aload 0 <| o_iload 3 <| o_push (.int 3) <| o_bin (fun x y => x + y) <| o_xald 1 xs <| o_aload 0 <| o_iload 3 <| o_push (.int 4) <| o_bin (fun x y => x + y) <| o_xald 1 xs <| o_aload 0 <| o_iload 3 <| o_push (.int 5) <| o_bin (fun x y => x + y) <| o_xald 1 xs <| o_callV cal 212 5 8 <| o_pop <| o_goto 46
def bL_law_37 (xs : List Int32) (cal : ab_F) : ab_K := o_aload 1 <| o_aload 0 <| o_iload 3 <| o_push (.int 1) <| o_bin (fun x y => x + y) <| o_xald 1 xs <| o_aload 0 <| o_iload 3 <| o_push (.int 2) <| o_bin (fun x y => x + y) <| o_xald 1 xs <| o_aload 0 <| o_iload 3 <| o_push (.int 3) <| o_bin (fun x y => x + y) <| o_xald 1 xs <| o_callV cal 110 3 7 <| o_pop <| o_aload 2 <| o_aload 0 <| o_iload 3 <| o_push (.int 1) <| o_bin (fun x y => x + y) <| o_xald 1 xs <| o_aload 0 <| o_iload 3 <| o_push (.int 2) <| o_bin (fun x y => x + y) <| o_xald 1 xs <| o_aload 0 <| o_iload 3 <| o_push (.int 3) <| o_bin (fun x y => x + y) <| o_xald 1 xs <| o_callV cal 213 3 8 <| o_pop <| o_goto 46
def bL_law_38 (xs : List Int32) (cal : ab_F) : ab_K := o_aload 1 <| o_aload 0 <| o_iload 3 <| o_push (.int 1) <| o_bin (fun x y => x + y) <| o_xald 1 xs <| o_aload 0 <| o_iload 3 <| o_push (.int 2) <| o_bin (fun x y => x + y) <| o_xald 1 xs <| o_callV cal 111 2 7 <| o_pop <| o_aload 2 <| o_aload 0 <| o_iload 3 <| o_push (.int 1) <| o_bin (fun x y => x + y) <| o_xald 1 xs <| o_aload 0 <| o_iload 3 <| o_push (.int 2) <| o_bin (fun x y => x + y) <| o_xald 1 xs <| o_callV cal 214 2 8 <| o_pop <| o_goto 46
def bL_law_39 (xs : List Int32) (cal : ab_F) : ab_K := o_aload 1 <| o_aload 0 <| o_iload 3 <| o_push (.int 1) <| o_bin (fun x y => x + y) <| o_xald 1 xs <| o_aload 0 <| o_iload 3 <| o_push (.int 2) <| o_bin (fun x y => x + y) <| o_xald 1 xs <| o_callV cal 112 2 7 <| o_pop <| o_aload 2 <| o_aload 0 <| o_iload 3 <| o_push (.int 1) <| o_bin (fun x y => x + y) <| o_xald 1 xs <| o_aload 0 <| o_iload 3 <| o_push (.int 2) <| o_bin (fun x y => x + y) <| o_xald 1 xs <| o_callV cal 215 2 8 <| o_pop <| o_goto 46
def bL_law_40 (xs : List Int32) (cal : ab_F) : ab_K := o_aload 1 <| o_aload 0 <| o_iload 3 <| o_push (.int 1) <| o_bin (fun x y => x + y) <| o_xald 1 xs <| o_aload 0 <| o_iload 3 <| o_push (.int 2) <| o_bin (fun x y => x + y) <| o_xald 1 xs <| o_callV cal 113 2 7 <| o_pop <| o_aload 2 <| o_aload 0 <| o_iload 3 <| o_push (.int 1) <| o_bin (fun x y => x + y) <| o_xald 1 xs <| o_aload 0 <| o_iload 3 <| o_push (.int 2) <| o_bin (fun x y => x + y) <| o_xald 1 xs <| o_callV cal 216 2 8 <| o_pop <| o_goto 46
def bL_law_41 (xs : List Int32) (cal : ab_F) : ab_K := o_aload 1 <| o_aload 0 <| o_iload 3 <| o_push (.int 1) <| o_bin (fun x y => x + y) <| o_xald 1 xs <| o_callV cal 114 1 7 <| o_pop <| o_aload 2 <| o_aload 0 <| o_iload 3 <| o_push (.int 1) <| o_bin (fun x y => x + y) <| o_xald 1 xs <| o_callV cal 217 1 8 <| o_pop <| o_goto 46
def bL_law_42 (xs : List Int32) (cal : ab_F) : ab_K := o_aload 1 <| o_aload 0 <| o_iload 3 <| o_push (.int 1) <| o_bin (fun x y => x + y) <| o_xald 1 xs <| o_callV cal 115 1 7 <| o_pop <| o_aload 2 <| o_aload 0 <| o_iload 3 <| o_push (.int 1) <| o_bin (fun x y => x + y) <| o_xald 1 xs <| o_callV cal 218 1 8 <| o_pop <| o_goto 46
def bL_law_43 (xs : List Int32) (cal : ab_F) : ab_K := o_aload 1 <| o_callV cal 116 0 7 <| o_pop <| o_aload 2 <| o_callV cal 219 0 8 <| o_pop <| o_goto 46
def bL_law_44 (xs : List Int32) (cal : ab_F) : ab_K := o_aload 1 <| o_callV cal 117 0 7 <| o_pop <| o_aload 2 <| o_callV cal 220 0 8 <| o_pop <| o_goto 46
def bL_law_45 (xs : List Int32) (cal : ab_F) : ab_K := o_aload 1 <| o_aload 0 <| o_iload 3 <| o_push (.int 1) <| o_bin (fun x y => x + y) <| o_xald 1 xs <| o_callV cal 118 1 7 <| o_pop <| o_aload 2 <| o_aload 0 <| o_iload 3 <| o_push (.int 1) <| o_bin (fun x y => x + y) <| o_xald 1 xs <| o_callV cal 221 1 8 <| o_pop <| o_goto 46
def bL_law_46 (xs : List Int32) (cal : ab_F) : ab_K := o_iinc 3 6 <| o_goto 1
def bL_law_47 (xs : List Int32) (cal : ab_F) : ab_K := o_push (.int 1) <| o_ret (some .boolean)
def bL_law (xs : List Int32) (cal : ab_F) : List ab_K := [bL_law_0 xs cal, bL_law_1 xs cal, bL_law_2 xs cal, bL_law_3 xs cal, bL_law_4 xs cal, bL_law_5 xs cal, bL_law_6 xs cal, bL_law_7 xs cal, bL_law_8 xs cal, bL_law_9 xs cal, bL_law_10 xs cal, bL_law_11 xs cal, bL_law_12 xs cal, bL_law_13 xs cal, bL_law_14 xs cal, bL_law_15 xs cal, bL_law_16 xs cal, bL_law_17 xs cal, bL_law_18 xs cal, bL_law_19 xs cal, bL_law_20 xs cal, bL_law_21 xs cal, bL_law_22 xs cal, bL_law_23 xs cal, bL_law_24 xs cal, bL_law_25 xs cal, bL_law_26 xs cal, bL_law_27 xs cal, bL_law_28 xs cal, bL_law_29 xs cal, bL_law_30 xs cal, bL_law_31 xs cal, bL_law_32 xs cal, bL_law_33 xs cal, bL_law_34 xs cal, bL_law_35 xs cal, bL_law_36 xs cal, bL_law_37 xs cal, bL_law_38 xs cal, bL_law_39 xs cal, bL_law_40 xs cal, bL_law_41 xs cal, bL_law_42 xs cal, bL_law_43 xs cal, bL_law_44 xs cal, bL_law_45 xs cal, bL_law_46 xs cal, bL_law_47 xs cal]
abbrev mL_law : ab_M := (yL_law, cL_law, 4, some .boolean)
set_option maxRecDepth 100000 in
theorem sL_law_0 {G : ab_G} {xs : List Int32} {d : Nat} {cal : ab_F} (hcs : ab_CS G (ab_Z G xs) ab_Mf cal d) : ab_Sd G (ab_Z G xs) (d + 1) (ab_mY mL_law pL_law) 0 (bL_law_0 xs cal) :=
  sn_new tyX8 tyX8_ok dL_law_0 rfl hinX8 w_74 w_75 w_55 rfl <| sn_dup dL_law_3 <| sq_callI mt_74 hcs dL_law_4 w_76 w_77 w_55 rfl rfl w_78 hy_74 hm_74 <| sn_astore_n dL_law_7 rfl (by decide) <| sn_new tyX9 tyX9_ok dL_law_8 rfl hinX9 w_985 w_986 w_63 rfl <| sn_dup dL_law_11 <| sq_callI mt_127 hcs dL_law_12 w_987 w_988 w_63 rfl rfl w_989 hy_127 hm_127 <| sn_astore_n dL_law_15 rfl (by decide) <| sn_iconst dL_law_16 rfl <| sn_istore_n dL_law_17 rfl (by decide) <| sn_next rfl
set_option maxRecDepth 100000 in
theorem sL_law_1 {G : ab_G} {xs : List Int32} {d : Nat} {cal : ab_F} (hcs : ab_CS G (ab_Z G xs) ab_Mf cal d) : ab_Sd G (ab_Z G xs) (d + 1) (ab_mY mL_law pL_law) 18 (bL_law_1 xs cal) :=
  sn_iload_n dL_law_18 rfl <| sn_aload_n dL_law_19 rfl <| sn_xlen dL_law_20 (fun U h => h.2.2.2.2.2.1) <| sn_bipush dL_law_21 rfl <| sn_isub dL_law_23 <| sn_cmp_gt (tg := 1492) dL_law_24 rfl rfl <| sn_aload_n dL_law_27 rfl <| sn_iload_n dL_law_28 rfl <| sn_xald dL_law_29 (fun U h => h.2.2.2.2.2.1) <| sn_bipush dL_law_30 rfl <| sn_iand dL_law_32 <| sn_tsw dL_law_33 rfl rfl rfl
set_option maxRecDepth 100000 in
theorem sL_law_2 {G : ab_G} {xs : List Int32} {d : Nat} {cal : ab_F} (hcs : ab_CS G (ab_Z G xs) ab_Mf cal d) : ab_Sd G (ab_Z G xs) (d + 1) (ab_mY mL_law pL_law) 224 (bL_law_2 xs cal) :=
  sn_aload_n dL_law_224 rfl <| sn_aload_n dL_law_225 rfl <| sn_iload_n dL_law_226 rfl <| sn_iconst dL_law_227 rfl <| sn_iadd dL_law_228 <| sn_xald dL_law_229 (fun U h => h.2.2.2.2.2.1) <| sn_aload_n dL_law_230 rfl <| sn_iload_n dL_law_231 rfl <| sn_iconst dL_law_232 rfl <| sn_iadd dL_law_233 <| sn_xald dL_law_234 (fun U h => h.2.2.2.2.2.1) <| sn_aload_n dL_law_235 rfl <| sn_iload_n dL_law_236 rfl <| sn_iconst dL_law_237 rfl <| sn_iadd dL_law_238 <| sn_xald dL_law_239 (fun U h => h.2.2.2.2.2.1) <| sq_callV mt_75 hcs dL_law_240 rfl w_316 w_317 w_318 w_55 w_319 hy_75 hm_75 <| sn_pop dL_law_243 <| sn_aload_n dL_law_244 rfl <| sn_aload_n dL_law_245 rfl <| sn_iload_n dL_law_246 rfl <| sn_iconst dL_law_247 rfl <| sn_iadd dL_law_248 <| sn_xald dL_law_249 (fun U h => h.2.2.2.2.2.1) <| sn_aload_n dL_law_250 rfl <| sn_iload_n dL_law_251 rfl <| sn_iconst dL_law_252 rfl <| sn_iadd dL_law_253 <| sn_xald dL_law_254 (fun U h => h.2.2.2.2.2.1) <| sn_aload_n dL_law_255 rfl <| sn_iload_n dL_law_256 rfl <| sn_iconst dL_law_257 rfl <| sn_iadd dL_law_258 <| sn_xald dL_law_259 (fun U h => h.2.2.2.2.2.1) <| sq_callV mt_138 hcs dL_law_260 rfl w_1102 w_1103 w_1104 w_63 w_1105 hy_138 hm_138 <| sn_pop dL_law_263 <| sn_goto (tg := 1486) dL_law_264 rfl rfl
set_option maxRecDepth 100000 in
theorem sL_law_3 {G : ab_G} {xs : List Int32} {d : Nat} {cal : ab_F} (hcs : ab_CS G (ab_Z G xs) ab_Mf cal d) : ab_Sd G (ab_Z G xs) (d + 1) (ab_mY mL_law pL_law) 267 (bL_law_3 xs cal) :=
  sn_aload_n dL_law_267 rfl <| sn_aload_n dL_law_268 rfl <| sn_iload_n dL_law_269 rfl <| sn_iconst dL_law_270 rfl <| sn_iadd dL_law_271 <| sn_xald dL_law_272 (fun U h => h.2.2.2.2.2.1) <| sn_aload_n dL_law_273 rfl <| sn_iload_n dL_law_274 rfl <| sn_iconst dL_law_275 rfl <| sn_iadd dL_law_276 <| sn_xald dL_law_277 (fun U h => h.2.2.2.2.2.1) <| sq_callV mt_76 hcs dL_law_278 rfl w_382 w_383 w_384 w_55 w_385 hy_76 hm_76 <| sn_pop dL_law_281 <| sn_aload_n dL_law_282 rfl <| sn_aload_n dL_law_283 rfl <| sn_iload_n dL_law_284 rfl <| sn_iconst dL_law_285 rfl <| sn_iadd dL_law_286 <| sn_xald dL_law_287 (fun U h => h.2.2.2.2.2.1) <| sn_aload_n dL_law_288 rfl <| sn_iload_n dL_law_289 rfl <| sn_iconst dL_law_290 rfl <| sn_iadd dL_law_291 <| sn_xald dL_law_292 (fun U h => h.2.2.2.2.2.1) <| sq_callV mt_141 hcs dL_law_293 rfl w_1115 w_1116 w_1117 w_63 w_1118 hy_141 hm_141 <| sn_pop dL_law_296 <| sn_goto (tg := 1486) dL_law_297 rfl rfl
set_option maxRecDepth 100000 in
theorem sL_law_4 {G : ab_G} {xs : List Int32} {d : Nat} {cal : ab_F} (hcs : ab_CS G (ab_Z G xs) ab_Mf cal d) : ab_Sd G (ab_Z G xs) (d + 1) (ab_mY mL_law pL_law) 300 (bL_law_4 xs cal) :=
  sn_aload_n dL_law_300 rfl <| sn_aload_n dL_law_301 rfl <| sn_iload_n dL_law_302 rfl <| sn_iconst dL_law_303 rfl <| sn_iadd dL_law_304 <| sn_xald dL_law_305 (fun U h => h.2.2.2.2.2.1) <| sn_aload_n dL_law_306 rfl <| sn_iload_n dL_law_307 rfl <| sn_iconst dL_law_308 rfl <| sn_iadd dL_law_309 <| sn_xald dL_law_310 (fun U h => h.2.2.2.2.2.1) <| sn_aload_n dL_law_311 rfl <| sn_iload_n dL_law_312 rfl <| sn_iconst dL_law_313 rfl <| sn_iadd dL_law_314 <| sn_xald dL_law_315 (fun U h => h.2.2.2.2.2.1) <| sq_callV mt_77 hcs dL_law_316 rfl w_394 w_395 w_396 w_55 w_397 hy_77 hm_77 <| sn_pop dL_law_319 <| sn_aload_n dL_law_320 rfl <| sn_aload_n dL_law_321 rfl <| sn_iload_n dL_law_322 rfl <| sn_iconst dL_law_323 rfl <| sn_iadd dL_law_324 <| sn_xald dL_law_325 (fun U h => h.2.2.2.2.2.1) <| sn_aload_n dL_law_326 rfl <| sn_iload_n dL_law_327 rfl <| sn_iconst dL_law_328 rfl <| sn_iadd dL_law_329 <| sn_xald dL_law_330 (fun U h => h.2.2.2.2.2.1) <| sn_aload_n dL_law_331 rfl <| sn_iload_n dL_law_332 rfl <| sn_iconst dL_law_333 rfl <| sn_iadd dL_law_334 <| sn_xald dL_law_335 (fun U h => h.2.2.2.2.2.1) <| sq_callV mt_145 hcs dL_law_336 rfl w_1135 w_1136 w_1137 w_63 w_1138 hy_145 hm_145 <| sn_pop dL_law_339 <| sn_goto (tg := 1486) dL_law_340 rfl rfl
set_option maxRecDepth 100000 in
theorem sL_law_5 {G : ab_G} {xs : List Int32} {d : Nat} {cal : ab_F} (hcs : ab_CS G (ab_Z G xs) ab_Mf cal d) : ab_Sd G (ab_Z G xs) (d + 1) (ab_mY mL_law pL_law) 343 (bL_law_5 xs cal) :=
  sn_aload_n dL_law_343 rfl <| sn_aload_n dL_law_344 rfl <| sn_iload_n dL_law_345 rfl <| sn_iconst dL_law_346 rfl <| sn_iadd dL_law_347 <| sn_xald dL_law_348 (fun U h => h.2.2.2.2.2.1) <| sn_aload_n dL_law_349 rfl <| sn_iload_n dL_law_350 rfl <| sn_iconst dL_law_351 rfl <| sn_iadd dL_law_352 <| sn_xald dL_law_353 (fun U h => h.2.2.2.2.2.1) <| sq_callV mt_78 hcs dL_law_354 rfl w_408 w_409 w_410 w_55 w_411 hy_78 hm_78 <| sn_pop dL_law_357 <| sn_aload_n dL_law_358 rfl <| sn_aload_n dL_law_359 rfl <| sn_iload_n dL_law_360 rfl <| sn_iconst dL_law_361 rfl <| sn_iadd dL_law_362 <| sn_xald dL_law_363 (fun U h => h.2.2.2.2.2.1) <| sn_aload_n dL_law_364 rfl <| sn_iload_n dL_law_365 rfl <| sn_iconst dL_law_366 rfl <| sn_iadd dL_law_367 <| sn_xald dL_law_368 (fun U h => h.2.2.2.2.2.1) <| sq_callV mt_147 hcs dL_law_369 rfl w_1171 w_1172 w_1173 w_63 w_1174 hy_147 hm_147 <| sn_pop dL_law_372 <| sn_goto (tg := 1486) dL_law_373 rfl rfl
set_option maxRecDepth 100000 in
theorem sL_law_6 {G : ab_G} {xs : List Int32} {d : Nat} {cal : ab_F} (hcs : ab_CS G (ab_Z G xs) ab_Mf cal d) : ab_Sd G (ab_Z G xs) (d + 1) (ab_mY mL_law pL_law) 376 (bL_law_6 xs cal) :=
  sn_aload_n dL_law_376 rfl <| sn_aload_n dL_law_377 rfl <| sn_iload_n dL_law_378 rfl <| sn_iconst dL_law_379 rfl <| sn_iadd dL_law_380 <| sn_xald dL_law_381 (fun U h => h.2.2.2.2.2.1) <| sn_aload_n dL_law_382 rfl <| sn_iload_n dL_law_383 rfl <| sn_iconst dL_law_384 rfl <| sn_iadd dL_law_385 <| sn_xald dL_law_386 (fun U h => h.2.2.2.2.2.1) <| sq_callV mt_79 hcs dL_law_387 rfl w_418 w_419 w_420 w_55 w_421 hy_79 hm_79 <| sn_pop dL_law_390 <| sn_aload_n dL_law_391 rfl <| sn_aload_n dL_law_392 rfl <| sn_iload_n dL_law_393 rfl <| sn_iconst dL_law_394 rfl <| sn_iadd dL_law_395 <| sn_xald dL_law_396 (fun U h => h.2.2.2.2.2.1) <| sn_aload_n dL_law_397 rfl <| sn_iload_n dL_law_398 rfl <| sn_iconst dL_law_399 rfl <| sn_iadd dL_law_400 <| sn_xald dL_law_401 (fun U h => h.2.2.2.2.2.1) <| sq_callV mt_148 hcs dL_law_402 rfl w_1179 w_1180 w_1181 w_63 w_1182 hy_148 hm_148 <| sn_pop dL_law_405 <| sn_goto (tg := 1486) dL_law_406 rfl rfl
set_option maxRecDepth 100000 in
theorem sL_law_7 {G : ab_G} {xs : List Int32} {d : Nat} {cal : ab_F} (hcs : ab_CS G (ab_Z G xs) ab_Mf cal d) : ab_Sd G (ab_Z G xs) (d + 1) (ab_mY mL_law pL_law) 409 (bL_law_7 xs cal) :=
  sn_aload_n dL_law_409 rfl <| sn_aload_n dL_law_410 rfl <| sn_iload_n dL_law_411 rfl <| sn_iconst dL_law_412 rfl <| sn_iadd dL_law_413 <| sn_xald dL_law_414 (fun U h => h.2.2.2.2.2.1) <| sn_aload_n dL_law_415 rfl <| sn_iload_n dL_law_416 rfl <| sn_iconst dL_law_417 rfl <| sn_iadd dL_law_418 <| sn_xald dL_law_419 (fun U h => h.2.2.2.2.2.1) <| sn_aload_n dL_law_420 rfl <| sn_iload_n dL_law_421 rfl <| sn_iconst dL_law_422 rfl <| sn_iadd dL_law_423 <| sn_xald dL_law_424 (fun U h => h.2.2.2.2.2.1) <| sq_callV mt_80 hcs dL_law_425 rfl w_423 w_424 w_425 w_55 w_426 hy_80 hm_80 <| sn_aload_n dL_law_428 rfl <| sn_aload_n dL_law_429 rfl <| sn_iload_n dL_law_430 rfl <| sn_iconst dL_law_431 rfl <| sn_iadd dL_law_432 <| sn_xald dL_law_433 (fun U h => h.2.2.2.2.2.1) <| sn_aload_n dL_law_434 rfl <| sn_iload_n dL_law_435 rfl <| sn_iconst dL_law_436 rfl <| sn_iadd dL_law_437 <| sn_xald dL_law_438 (fun U h => h.2.2.2.2.2.1) <| sn_aload_n dL_law_439 rfl <| sn_iload_n dL_law_440 rfl <| sn_iconst dL_law_441 rfl <| sn_iadd dL_law_442 <| sn_xald dL_law_443 (fun U h => h.2.2.2.2.2.1) <| sq_callV mt_150 hcs dL_law_444 rfl w_1187 w_1188 w_1189 w_63 w_1190 hy_150 hm_150 <| sn_cmp_eq (tg := 1486) dL_law_447 rfl rfl <| sn_iconst dL_law_450 rfl <| sn_ret dL_law_451 ab_ri_bool
set_option maxRecDepth 100000 in
theorem sL_law_8 {G : ab_G} {xs : List Int32} {d : Nat} {cal : ab_F} (hcs : ab_CS G (ab_Z G xs) ab_Mf cal d) : ab_Sd G (ab_Z G xs) (d + 1) (ab_mY mL_law pL_law) 452 (bL_law_8 xs cal) :=
  sn_aload_n dL_law_452 rfl <| sn_aload_n dL_law_453 rfl <| sn_iload_n dL_law_454 rfl <| sn_iconst dL_law_455 rfl <| sn_iadd dL_law_456 <| sn_xald dL_law_457 (fun U h => h.2.2.2.2.2.1) <| sq_callV mt_81 hcs dL_law_458 rfl w_436 w_437 w_438 w_55 w_439 hy_81 hm_81 <| sn_pop dL_law_461 <| sn_aload_n dL_law_462 rfl <| sn_aload_n dL_law_463 rfl <| sn_iload_n dL_law_464 rfl <| sn_iconst dL_law_465 rfl <| sn_iadd dL_law_466 <| sn_xald dL_law_467 (fun U h => h.2.2.2.2.2.1) <| sq_callV mt_151 hcs dL_law_468 rfl w_1196 w_1197 w_1198 w_63 w_1199 hy_151 hm_151 <| sn_pop dL_law_471 <| sn_goto (tg := 1486) dL_law_472 rfl rfl
set_option maxRecDepth 100000 in
theorem sL_law_9 {G : ab_G} {xs : List Int32} {d : Nat} {cal : ab_F} (hcs : ab_CS G (ab_Z G xs) ab_Mf cal d) : ab_Sd G (ab_Z G xs) (d + 1) (ab_mY mL_law pL_law) 475 (bL_law_9 xs cal) :=
  sn_aload_n dL_law_475 rfl <| sn_aload_n dL_law_476 rfl <| sn_iload_n dL_law_477 rfl <| sn_iconst dL_law_478 rfl <| sn_iadd dL_law_479 <| sn_xald dL_law_480 (fun U h => h.2.2.2.2.2.1) <| sn_aload_n dL_law_481 rfl <| sn_iload_n dL_law_482 rfl <| sn_iconst dL_law_483 rfl <| sn_iadd dL_law_484 <| sn_xald dL_law_485 (fun U h => h.2.2.2.2.2.1) <| sq_callV mt_82 hcs dL_law_486 rfl w_440 w_441 w_442 w_55 w_443 hy_82 hm_82 <| sn_pop dL_law_489 <| sn_aload_n dL_law_490 rfl <| sn_aload_n dL_law_491 rfl <| sn_iload_n dL_law_492 rfl <| sn_iconst dL_law_493 rfl <| sn_iadd dL_law_494 <| sn_xald dL_law_495 (fun U h => h.2.2.2.2.2.1) <| sn_aload_n dL_law_496 rfl <| sn_iload_n dL_law_497 rfl <| sn_iconst dL_law_498 rfl <| sn_iadd dL_law_499 <| sn_xald dL_law_500 (fun U h => h.2.2.2.2.2.1) <| sq_callV mt_152 hcs dL_law_501 rfl w_1200 w_1201 w_1202 w_63 w_1203 hy_152 hm_152 <| sn_pop dL_law_504 <| sn_goto (tg := 1486) dL_law_505 rfl rfl
set_option maxRecDepth 100000 in
theorem sL_law_10 {G : ab_G} {xs : List Int32} {d : Nat} {cal : ab_F} (hcs : ab_CS G (ab_Z G xs) ab_Mf cal d) : ab_Sd G (ab_Z G xs) (d + 1) (ab_mY mL_law pL_law) 508 (bL_law_10 xs cal) :=
  sn_aload_n dL_law_508 rfl <| sn_aload_n dL_law_509 rfl <| sn_iload_n dL_law_510 rfl <| sn_iconst dL_law_511 rfl <| sn_iadd dL_law_512 <| sn_xald dL_law_513 (fun U h => h.2.2.2.2.2.1) <| sq_callV mt_83 hcs dL_law_514 rfl w_444 w_445 w_446 w_55 w_447 hy_83 hm_83 <| sn_pop dL_law_517 <| sn_aload_n dL_law_518 rfl <| sn_aload_n dL_law_519 rfl <| sn_iload_n dL_law_520 rfl <| sn_iconst dL_law_521 rfl <| sn_iadd dL_law_522 <| sn_xald dL_law_523 (fun U h => h.2.2.2.2.2.1) <| sq_callV mt_153 hcs dL_law_524 rfl w_1204 w_1205 w_1206 w_63 w_1207 hy_153 hm_153 <| sn_pop dL_law_527 <| sn_goto (tg := 1486) dL_law_528 rfl rfl
set_option maxRecDepth 100000 in
theorem sL_law_11 {G : ab_G} {xs : List Int32} {d : Nat} {cal : ab_F} (hcs : ab_CS G (ab_Z G xs) ab_Mf cal d) : ab_Sd G (ab_Z G xs) (d + 1) (ab_mY mL_law pL_law) 531 (bL_law_11 xs cal) :=
  sn_aload_n dL_law_531 rfl <| sn_aload_n dL_law_532 rfl <| sn_iload_n dL_law_533 rfl <| sn_iconst dL_law_534 rfl <| sn_iadd dL_law_535 <| sn_xald dL_law_536 (fun U h => h.2.2.2.2.2.1) <| sq_callV mt_84 hcs dL_law_537 rfl w_448 w_449 w_450 w_55 w_451 hy_84 hm_84 <| sn_pop dL_law_540 <| sn_aload_n dL_law_541 rfl <| sn_aload_n dL_law_542 rfl <| sn_iload_n dL_law_543 rfl <| sn_iconst dL_law_544 rfl <| sn_iadd dL_law_545 <| sn_xald dL_law_546 (fun U h => h.2.2.2.2.2.1) <| sq_callV mt_155 hcs dL_law_547 rfl w_1208 w_1209 w_1210 w_63 w_1211 hy_155 hm_155 <| sn_pop dL_law_550 <| sn_goto (tg := 1486) dL_law_551 rfl rfl
set_option maxRecDepth 100000 in
theorem sL_law_12 {G : ab_G} {xs : List Int32} {d : Nat} {cal : ab_F} (hcs : ab_CS G (ab_Z G xs) ab_Mf cal d) : ab_Sd G (ab_Z G xs) (d + 1) (ab_mY mL_law pL_law) 554 (bL_law_12 xs cal) :=
  sn_aload_n dL_law_554 rfl <| sn_aload_n dL_law_555 rfl <| sn_iload_n dL_law_556 rfl <| sn_iconst dL_law_557 rfl <| sn_iadd dL_law_558 <| sn_xald dL_law_559 (fun U h => h.2.2.2.2.2.1) <| sq_callV mt_85 hcs dL_law_560 rfl w_462 w_463 w_464 w_55 w_465 hy_85 hm_85 <| sn_pop dL_law_563 <| sn_aload_n dL_law_564 rfl <| sn_aload_n dL_law_565 rfl <| sn_iload_n dL_law_566 rfl <| sn_iconst dL_law_567 rfl <| sn_iadd dL_law_568 <| sn_xald dL_law_569 (fun U h => h.2.2.2.2.2.1) <| sq_callV mt_156 hcs dL_law_570 rfl w_1217 w_1218 w_1219 w_63 w_1220 hy_156 hm_156 <| sn_pop dL_law_573 <| sn_goto (tg := 1486) dL_law_574 rfl rfl
set_option maxRecDepth 100000 in
theorem sL_law_13 {G : ab_G} {xs : List Int32} {d : Nat} {cal : ab_F} (hcs : ab_CS G (ab_Z G xs) ab_Mf cal d) : ab_Sd G (ab_Z G xs) (d + 1) (ab_mY mL_law pL_law) 577 (bL_law_13 xs cal) :=
  sn_aload_n dL_law_577 rfl <| sn_aload_n dL_law_578 rfl <| sn_iload_n dL_law_579 rfl <| sn_iconst dL_law_580 rfl <| sn_iadd dL_law_581 <| sn_xald dL_law_582 (fun U h => h.2.2.2.2.2.1) <| sq_callV mt_86 hcs dL_law_583 rfl w_466 w_467 w_468 w_55 w_469 hy_86 hm_86 <| sn_pop dL_law_586 <| sn_aload_n dL_law_587 rfl <| sn_aload_n dL_law_588 rfl <| sn_iload_n dL_law_589 rfl <| sn_iconst dL_law_590 rfl <| sn_iadd dL_law_591 <| sn_xald dL_law_592 (fun U h => h.2.2.2.2.2.1) <| sq_callV mt_161 hcs dL_law_593 rfl w_1221 w_1222 w_1223 w_63 w_1224 hy_161 hm_161 <| sn_pop dL_law_596 <| sn_goto (tg := 1486) dL_law_597 rfl rfl
set_option maxRecDepth 100000 in
theorem sL_law_14 {G : ab_G} {xs : List Int32} {d : Nat} {cal : ab_F} (hcs : ab_CS G (ab_Z G xs) ab_Mf cal d) : ab_Sd G (ab_Z G xs) (d + 1) (ab_mY mL_law pL_law) 600 (bL_law_14 xs cal) :=
  sn_aload_n dL_law_600 rfl <| sn_aload_n dL_law_601 rfl <| sn_iload_n dL_law_602 rfl <| sn_iconst dL_law_603 rfl <| sn_iadd dL_law_604 <| sn_xald dL_law_605 (fun U h => h.2.2.2.2.2.1) <| sq_callV mt_87 hcs dL_law_606 rfl w_506 w_507 w_508 w_55 w_509 hy_87 hm_87 <| sn_pop dL_law_609 <| sn_aload_n dL_law_610 rfl <| sn_aload_n dL_law_611 rfl <| sn_iload_n dL_law_612 rfl <| sn_iconst dL_law_613 rfl <| sn_iadd dL_law_614 <| sn_xald dL_law_615 (fun U h => h.2.2.2.2.2.1) <| sq_callV mt_164 hcs dL_law_616 rfl w_1241 w_1242 w_1243 w_63 w_1244 hy_164 hm_164 <| sn_pop dL_law_619 <| sn_goto (tg := 1486) dL_law_620 rfl rfl
set_option maxRecDepth 100000 in
theorem sL_law_15 {G : ab_G} {xs : List Int32} {d : Nat} {cal : ab_F} (hcs : ab_CS G (ab_Z G xs) ab_Mf cal d) : ab_Sd G (ab_Z G xs) (d + 1) (ab_mY mL_law pL_law) 623 (bL_law_15 xs cal) :=
  sn_aload_n dL_law_623 rfl <| sn_aload_n dL_law_624 rfl <| sn_iload_n dL_law_625 rfl <| sn_iconst dL_law_626 rfl <| sn_iadd dL_law_627 <| sn_xald dL_law_628 (fun U h => h.2.2.2.2.2.1) <| sq_callV mt_88 hcs dL_law_629 rfl w_527 w_528 w_529 w_55 w_530 hy_88 hm_88 <| sn_pop dL_law_632 <| sn_aload_n dL_law_633 rfl <| sn_aload_n dL_law_634 rfl <| sn_iload_n dL_law_635 rfl <| sn_iconst dL_law_636 rfl <| sn_iadd dL_law_637 <| sn_xald dL_law_638 (fun U h => h.2.2.2.2.2.1) <| sq_callV mt_165 hcs dL_law_639 rfl w_1253 w_1254 w_1255 w_63 w_1256 hy_165 hm_165 <| sn_pop dL_law_642 <| sn_goto (tg := 1486) dL_law_643 rfl rfl
set_option maxRecDepth 100000 in
theorem sL_law_16 {G : ab_G} {xs : List Int32} {d : Nat} {cal : ab_F} (hcs : ab_CS G (ab_Z G xs) ab_Mf cal d) : ab_Sd G (ab_Z G xs) (d + 1) (ab_mY mL_law pL_law) 646 (bL_law_16 xs cal) :=
  sn_aload_n dL_law_646 rfl <| sn_aload_n dL_law_647 rfl <| sn_iload_n dL_law_648 rfl <| sn_iconst dL_law_649 rfl <| sn_iadd dL_law_650 <| sn_xald dL_law_651 (fun U h => h.2.2.2.2.2.1) <| sn_aload_n dL_law_652 rfl <| sn_iload_n dL_law_653 rfl <| sn_iconst dL_law_654 rfl <| sn_iadd dL_law_655 <| sn_xald dL_law_656 (fun U h => h.2.2.2.2.2.1) <| sq_callV mt_89 hcs dL_law_657 rfl w_535 w_536 w_537 w_55 w_538 hy_89 hm_89 <| sn_pop dL_law_660 <| sn_aload_n dL_law_661 rfl <| sn_aload_n dL_law_662 rfl <| sn_iload_n dL_law_663 rfl <| sn_iconst dL_law_664 rfl <| sn_iadd dL_law_665 <| sn_xald dL_law_666 (fun U h => h.2.2.2.2.2.1) <| sn_aload_n dL_law_667 rfl <| sn_iload_n dL_law_668 rfl <| sn_iconst dL_law_669 rfl <| sn_iadd dL_law_670 <| sn_xald dL_law_671 (fun U h => h.2.2.2.2.2.1) <| sq_callV mt_169 hcs dL_law_672 rfl w_1261 w_1262 w_1263 w_63 w_1264 hy_169 hm_169 <| sn_pop dL_law_675 <| sn_goto (tg := 1486) dL_law_676 rfl rfl
set_option maxRecDepth 100000 in
theorem sL_law_17 {G : ab_G} {xs : List Int32} {d : Nat} {cal : ab_F} (hcs : ab_CS G (ab_Z G xs) ab_Mf cal d) : ab_Sd G (ab_Z G xs) (d + 1) (ab_mY mL_law pL_law) 679 (bL_law_17 xs cal) :=
  sn_aload_n dL_law_679 rfl <| sn_aload_n dL_law_680 rfl <| sn_iload_n dL_law_681 rfl <| sn_iconst dL_law_682 rfl <| sn_iadd dL_law_683 <| sn_xald dL_law_684 (fun U h => h.2.2.2.2.2.1) <| sn_aload_n dL_law_685 rfl <| sn_iload_n dL_law_686 rfl <| sn_iconst dL_law_687 rfl <| sn_iadd dL_law_688 <| sn_xald dL_law_689 (fun U h => h.2.2.2.2.2.1) <| sq_callV mt_90 hcs dL_law_690 rfl w_556 w_557 w_558 w_55 w_559 hy_90 hm_90 <| sn_pop dL_law_693 <| sn_aload_n dL_law_694 rfl <| sn_aload_n dL_law_695 rfl <| sn_iload_n dL_law_696 rfl <| sn_iconst dL_law_697 rfl <| sn_iadd dL_law_698 <| sn_xald dL_law_699 (fun U h => h.2.2.2.2.2.1) <| sn_aload_n dL_law_700 rfl <| sn_iload_n dL_law_701 rfl <| sn_iconst dL_law_702 rfl <| sn_iadd dL_law_703 <| sn_xald dL_law_704 (fun U h => h.2.2.2.2.2.1) <| sq_callV mt_170 hcs dL_law_705 rfl w_1276 w_1277 w_1278 w_63 w_1279 hy_170 hm_170 <| sn_pop dL_law_708 <| sn_goto (tg := 1486) dL_law_709 rfl rfl
set_option maxRecDepth 100000 in
theorem sL_law_18 {G : ab_G} {xs : List Int32} {d : Nat} {cal : ab_F} (hcs : ab_CS G (ab_Z G xs) ab_Mf cal d) : ab_Sd G (ab_Z G xs) (d + 1) (ab_mY mL_law pL_law) 712 (bL_law_18 xs cal) :=
  sn_aload_n dL_law_712 rfl <| sq_callV mt_91 hcs dL_law_713 rfl w_561 w_562 w_563 w_55 w_564 hy_91 hm_91 <| sn_pop dL_law_716 <| sn_aload_n dL_law_717 rfl <| sq_callV mt_172 hcs dL_law_718 rfl w_1280 w_1281 w_1282 w_63 w_1283 hy_172 hm_172 <| sn_pop dL_law_721 <| sn_goto (tg := 1486) dL_law_722 rfl rfl
set_option maxRecDepth 100000 in
theorem sL_law_19 {G : ab_G} {xs : List Int32} {d : Nat} {cal : ab_F} (hcs : ab_CS G (ab_Z G xs) ab_Mf cal d) : ab_Sd G (ab_Z G xs) (d + 1) (ab_mY mL_law pL_law) 725 (bL_law_19 xs cal) :=
  sn_aload_n dL_law_725 rfl <| sn_aload_n dL_law_726 rfl <| sn_iload_n dL_law_727 rfl <| sn_iconst dL_law_728 rfl <| sn_iadd dL_law_729 <| sn_xald dL_law_730 (fun U h => h.2.2.2.2.2.1) <| sq_callV mt_92 hcs dL_law_731 rfl w_569 w_570 w_571 w_55 w_572 hy_92 hm_92 <| sn_pop dL_law_734 <| sn_aload_n dL_law_735 rfl <| sn_aload_n dL_law_736 rfl <| sn_iload_n dL_law_737 rfl <| sn_iconst dL_law_738 rfl <| sn_iadd dL_law_739 <| sn_xald dL_law_740 (fun U h => h.2.2.2.2.2.1) <| sq_callV mt_174 hcs dL_law_741 rfl w_1288 w_1289 w_1290 w_63 w_1291 hy_174 hm_174 <| sn_pop dL_law_744 <| sn_goto (tg := 1486) dL_law_745 rfl rfl
set_option maxRecDepth 100000 in
theorem sL_law_20 {G : ab_G} {xs : List Int32} {d : Nat} {cal : ab_F} (hcs : ab_CS G (ab_Z G xs) ab_Mf cal d) : ab_Sd G (ab_Z G xs) (d + 1) (ab_mY mL_law pL_law) 748 (bL_law_20 xs cal) :=
  sn_aload_n dL_law_748 rfl <| sn_aload_n dL_law_749 rfl <| sn_iload_n dL_law_750 rfl <| sn_iconst dL_law_751 rfl <| sn_iadd dL_law_752 <| sn_xald dL_law_753 (fun U h => h.2.2.2.2.2.1) <| sq_callV mt_93 hcs dL_law_754 rfl w_577 w_578 w_579 w_55 w_580 hy_93 hm_93 <| sn_pop dL_law_757 <| sn_aload_n dL_law_758 rfl <| sn_aload_n dL_law_759 rfl <| sn_iload_n dL_law_760 rfl <| sn_iconst dL_law_761 rfl <| sn_iadd dL_law_762 <| sn_xald dL_law_763 (fun U h => h.2.2.2.2.2.1) <| sq_callV mt_175 hcs dL_law_764 rfl w_1296 w_1297 w_1298 w_63 w_1299 hy_175 hm_175 <| sn_pop dL_law_767 <| sn_goto (tg := 1486) dL_law_768 rfl rfl
set_option maxRecDepth 100000 in
theorem sL_law_21 {G : ab_G} {xs : List Int32} {d : Nat} {cal : ab_F} (hcs : ab_CS G (ab_Z G xs) ab_Mf cal d) : ab_Sd G (ab_Z G xs) (d + 1) (ab_mY mL_law pL_law) 771 (bL_law_21 xs cal) :=
  sn_aload_n dL_law_771 rfl <| sn_aload_n dL_law_772 rfl <| sn_iload_n dL_law_773 rfl <| sn_iconst dL_law_774 rfl <| sn_iadd dL_law_775 <| sn_xald dL_law_776 (fun U h => h.2.2.2.2.2.1) <| sn_aload_n dL_law_777 rfl <| sn_iload_n dL_law_778 rfl <| sn_iconst dL_law_779 rfl <| sn_iadd dL_law_780 <| sn_xald dL_law_781 (fun U h => h.2.2.2.2.2.1) <| sq_callV mt_94 hcs dL_law_782 rfl w_581 w_582 w_583 w_55 w_584 hy_94 hm_94 <| sn_pop dL_law_785 <| sn_aload_n dL_law_786 rfl <| sn_aload_n dL_law_787 rfl <| sn_iload_n dL_law_788 rfl <| sn_iconst dL_law_789 rfl <| sn_iadd dL_law_790 <| sn_xald dL_law_791 (fun U h => h.2.2.2.2.2.1) <| sn_aload_n dL_law_792 rfl <| sn_iload_n dL_law_793 rfl <| sn_iconst dL_law_794 rfl <| sn_iadd dL_law_795 <| sn_xald dL_law_796 (fun U h => h.2.2.2.2.2.1) <| sq_callV mt_178 hcs dL_law_797 rfl w_1300 w_1301 w_1302 w_63 w_1303 hy_178 hm_178 <| sn_pop dL_law_800 <| sn_goto (tg := 1486) dL_law_801 rfl rfl
set_option maxRecDepth 100000 in
theorem sL_law_22 {G : ab_G} {xs : List Int32} {d : Nat} {cal : ab_F} (hcs : ab_CS G (ab_Z G xs) ab_Mf cal d) : ab_Sd G (ab_Z G xs) (d + 1) (ab_mY mL_law pL_law) 804 (bL_law_22 xs cal) :=
  sn_aload_n dL_law_804 rfl <| sq_callV mt_95 hcs dL_law_805 rfl w_597 w_598 w_599 w_55 w_600 hy_95 hm_95 <| sn_pop dL_law_808 <| sn_aload_n dL_law_809 rfl <| sq_callV mt_180 hcs dL_law_810 rfl w_1313 w_1314 w_1315 w_63 w_1316 hy_180 hm_180 <| sn_pop dL_law_813 <| sn_goto (tg := 1486) dL_law_814 rfl rfl
set_option maxRecDepth 100000 in
theorem sL_law_23 {G : ab_G} {xs : List Int32} {d : Nat} {cal : ab_F} (hcs : ab_CS G (ab_Z G xs) ab_Mf cal d) : ab_Sd G (ab_Z G xs) (d + 1) (ab_mY mL_law pL_law) 817 (bL_law_23 xs cal) :=
  sn_aload_n dL_law_817 rfl <| sn_aload_n dL_law_818 rfl <| sn_iload_n dL_law_819 rfl <| sn_iconst dL_law_820 rfl <| sn_iadd dL_law_821 <| sn_xald dL_law_822 (fun U h => h.2.2.2.2.2.1) <| sn_aload_n dL_law_823 rfl <| sn_iload_n dL_law_824 rfl <| sn_iconst dL_law_825 rfl <| sn_iadd dL_law_826 <| sn_xald dL_law_827 (fun U h => h.2.2.2.2.2.1) <| sq_callV mt_96 hcs dL_law_828 rfl w_607 w_608 w_609 w_55 w_610 hy_96 hm_96 <| sn_pop dL_law_831 <| sn_aload_n dL_law_832 rfl <| sn_aload_n dL_law_833 rfl <| sn_iload_n dL_law_834 rfl <| sn_iconst dL_law_835 rfl <| sn_iadd dL_law_836 <| sn_xald dL_law_837 (fun U h => h.2.2.2.2.2.1) <| sn_aload_n dL_law_838 rfl <| sn_iload_n dL_law_839 rfl <| sn_iconst dL_law_840 rfl <| sn_iadd dL_law_841 <| sn_xald dL_law_842 (fun U h => h.2.2.2.2.2.1) <| sq_callV mt_181 hcs dL_law_843 rfl w_1321 w_1322 w_1323 w_63 w_1324 hy_181 hm_181 <| sn_pop dL_law_846 <| sn_goto (tg := 1486) dL_law_847 rfl rfl
set_option maxRecDepth 100000 in
theorem sL_law_24 {G : ab_G} {xs : List Int32} {d : Nat} {cal : ab_F} (hcs : ab_CS G (ab_Z G xs) ab_Mf cal d) : ab_Sd G (ab_Z G xs) (d + 1) (ab_mY mL_law pL_law) 850 (bL_law_24 xs cal) :=
  sn_aload_n dL_law_850 rfl <| sn_aload_n dL_law_851 rfl <| sn_iload_n dL_law_852 rfl <| sn_iconst dL_law_853 rfl <| sn_iadd dL_law_854 <| sn_xald dL_law_855 (fun U h => h.2.2.2.2.2.1) <| sn_aload_n dL_law_856 rfl <| sn_iload_n dL_law_857 rfl <| sn_iconst dL_law_858 rfl <| sn_iadd dL_law_859 <| sn_xald dL_law_860 (fun U h => h.2.2.2.2.2.1) <| sq_callV mt_97 hcs dL_law_861 rfl w_617 w_618 w_619 w_55 w_620 hy_97 hm_97 <| sn_pop dL_law_864 <| sn_aload_n dL_law_865 rfl <| sn_aload_n dL_law_866 rfl <| sn_iload_n dL_law_867 rfl <| sn_iconst dL_law_868 rfl <| sn_iadd dL_law_869 <| sn_xald dL_law_870 (fun U h => h.2.2.2.2.2.1) <| sn_aload_n dL_law_871 rfl <| sn_iload_n dL_law_872 rfl <| sn_iconst dL_law_873 rfl <| sn_iadd dL_law_874 <| sn_xald dL_law_875 (fun U h => h.2.2.2.2.2.1) <| sq_callV mt_184 hcs dL_law_876 rfl w_1325 w_1326 w_1327 w_63 w_1328 hy_184 hm_184 <| sn_pop dL_law_879 <| sn_goto (tg := 1486) dL_law_880 rfl rfl
set_option maxRecDepth 100000 in
theorem sL_law_25 {G : ab_G} {xs : List Int32} {d : Nat} {cal : ab_F} (hcs : ab_CS G (ab_Z G xs) ab_Mf cal d) : ab_Sd G (ab_Z G xs) (d + 1) (ab_mY mL_law pL_law) 883 (bL_law_25 xs cal) :=
  sn_aload_n dL_law_883 rfl <| sq_callV mt_98 hcs dL_law_884 rfl w_643 w_644 w_645 w_55 w_646 hy_98 hm_98 <| sn_pop dL_law_887 <| sn_aload_n dL_law_888 rfl <| sq_callV mt_185 hcs dL_law_889 rfl w_1341 w_1342 w_1343 w_63 w_1344 hy_185 hm_185 <| sn_pop dL_law_892 <| sn_goto (tg := 1486) dL_law_893 rfl rfl
set_option maxRecDepth 100000 in
theorem sL_law_26 {G : ab_G} {xs : List Int32} {d : Nat} {cal : ab_F} (hcs : ab_CS G (ab_Z G xs) ab_Mf cal d) : ab_Sd G (ab_Z G xs) (d + 1) (ab_mY mL_law pL_law) 896 (bL_law_26 xs cal) :=
  sn_aload_n dL_law_896 rfl <| sn_aload_n dL_law_897 rfl <| sn_iload_n dL_law_898 rfl <| sn_iconst dL_law_899 rfl <| sn_iadd dL_law_900 <| sn_xald dL_law_901 (fun U h => h.2.2.2.2.2.1) <| sq_callV mt_99 hcs dL_law_902 rfl w_649 w_650 w_651 w_55 w_652 hy_99 hm_99 <| sn_pop dL_law_905 <| sn_aload_n dL_law_906 rfl <| sn_aload_n dL_law_907 rfl <| sn_iload_n dL_law_908 rfl <| sn_iconst dL_law_909 rfl <| sn_iadd dL_law_910 <| sn_xald dL_law_911 (fun U h => h.2.2.2.2.2.1) <| sq_callV mt_186 hcs dL_law_912 rfl w_1345 w_1346 w_1347 w_63 w_1348 hy_186 hm_186 <| sn_pop dL_law_915 <| sn_goto (tg := 1486) dL_law_916 rfl rfl
set_option maxRecDepth 100000 in
theorem sL_law_27 {G : ab_G} {xs : List Int32} {d : Nat} {cal : ab_F} (hcs : ab_CS G (ab_Z G xs) ab_Mf cal d) : ab_Sd G (ab_Z G xs) (d + 1) (ab_mY mL_law pL_law) 919 (bL_law_27 xs cal) :=
  sn_aload_n dL_law_919 rfl <| sn_aload_n dL_law_920 rfl <| sn_iload_n dL_law_921 rfl <| sn_iconst dL_law_922 rfl <| sn_iadd dL_law_923 <| sn_xald dL_law_924 (fun U h => h.2.2.2.2.2.1) <| sn_aload_n dL_law_925 rfl <| sn_iload_n dL_law_926 rfl <| sn_iconst dL_law_927 rfl <| sn_iadd dL_law_928 <| sn_xald dL_law_929 (fun U h => h.2.2.2.2.2.1) <| sn_aload_n dL_law_930 rfl <| sn_iload_n dL_law_931 rfl <| sn_iconst dL_law_932 rfl <| sn_iadd dL_law_933 <| sn_xald dL_law_934 (fun U h => h.2.2.2.2.2.1) <| sq_callV mt_100 hcs dL_law_935 rfl w_653 w_654 w_655 w_55 w_656 hy_100 hm_100 <| sn_pop dL_law_938 <| sn_aload_n dL_law_939 rfl <| sn_aload_n dL_law_940 rfl <| sn_iload_n dL_law_941 rfl <| sn_iconst dL_law_942 rfl <| sn_iadd dL_law_943 <| sn_xald dL_law_944 (fun U h => h.2.2.2.2.2.1) <| sn_aload_n dL_law_945 rfl <| sn_iload_n dL_law_946 rfl <| sn_iconst dL_law_947 rfl <| sn_iadd dL_law_948 <| sn_xald dL_law_949 (fun U h => h.2.2.2.2.2.1) <| sn_aload_n dL_law_950 rfl <| sn_iload_n dL_law_951 rfl <| sn_iconst dL_law_952 rfl <| sn_iadd dL_law_953 <| sn_xald dL_law_954 (fun U h => h.2.2.2.2.2.1) <| sq_callV mt_187 hcs dL_law_955 rfl w_1349 w_1350 w_1351 w_63 w_1352 hy_187 hm_187 <| sn_pop dL_law_958 <| sn_goto (tg := 1486) dL_law_959 rfl rfl
set_option maxRecDepth 100000 in
theorem sL_law_28 {G : ab_G} {xs : List Int32} {d : Nat} {cal : ab_F} (hcs : ab_CS G (ab_Z G xs) ab_Mf cal d) : ab_Sd G (ab_Z G xs) (d + 1) (ab_mY mL_law pL_law) 962 (bL_law_28 xs cal) :=
  sn_aload_n dL_law_962 rfl <| sn_aload_n dL_law_963 rfl <| sn_iload_n dL_law_964 rfl <| sn_iconst dL_law_965 rfl <| sn_iadd dL_law_966 <| sn_xald dL_law_967 (fun U h => h.2.2.2.2.2.1) <| sq_callV mt_101 hcs dL_law_968 rfl w_661 w_662 w_663 w_55 w_664 hy_101 hm_101 <| sn_pop dL_law_971 <| sn_aload_n dL_law_972 rfl <| sn_aload_n dL_law_973 rfl <| sn_iload_n dL_law_974 rfl <| sn_iconst dL_law_975 rfl <| sn_iadd dL_law_976 <| sn_xald dL_law_977 (fun U h => h.2.2.2.2.2.1) <| sq_callV mt_188 hcs dL_law_978 rfl w_1353 w_1354 w_1355 w_63 w_1356 hy_188 hm_188 <| sn_pop dL_law_981 <| sn_goto (tg := 1486) dL_law_982 rfl rfl
set_option maxRecDepth 100000 in
theorem sL_law_29 {G : ab_G} {xs : List Int32} {d : Nat} {cal : ab_F} (hcs : ab_CS G (ab_Z G xs) ab_Mf cal d) : ab_Sd G (ab_Z G xs) (d + 1) (ab_mY mL_law pL_law) 985 (bL_law_29 xs cal) :=
  sn_aload_n dL_law_985 rfl <| sq_callV mt_102 hcs dL_law_986 rfl w_665 w_666 w_667 w_55 w_668 hy_102 hm_102 <| sn_pop dL_law_989 <| sn_aload_n dL_law_990 rfl <| sq_callV mt_200 hcs dL_law_991 rfl w_1357 w_1358 w_1359 w_63 w_1360 hy_200 hm_200 <| sn_pop dL_law_994 <| sn_goto (tg := 1486) dL_law_995 rfl rfl
set_option maxRecDepth 100000 in
theorem sL_law_30 {G : ab_G} {xs : List Int32} {d : Nat} {cal : ab_F} (hcs : ab_CS G (ab_Z G xs) ab_Mf cal d) : ab_Sd G (ab_Z G xs) (d + 1) (ab_mY mL_law pL_law) 998 (bL_law_30 xs cal) :=
  sn_aload_n dL_law_998 rfl <| sn_aload_n dL_law_999 rfl <| sn_iload_n dL_law_1000 rfl <| sn_iconst dL_law_1001 rfl <| sn_iadd dL_law_1002 <| sn_xald dL_law_1003 (fun U h => h.2.2.2.2.2.1) <| sn_aload_n dL_law_1004 rfl <| sn_iload_n dL_law_1005 rfl <| sn_iconst dL_law_1006 rfl <| sn_iadd dL_law_1007 <| sn_xald dL_law_1008 (fun U h => h.2.2.2.2.2.1) <| sq_callV mt_103 hcs dL_law_1009 rfl w_878 w_879 w_880 w_55 w_881 hy_103 hm_103 <| sn_pop dL_law_1012 <| sn_aload_n dL_law_1013 rfl <| sn_aload_n dL_law_1014 rfl <| sn_iload_n dL_law_1015 rfl <| sn_iconst dL_law_1016 rfl <| sn_iadd dL_law_1017 <| sn_xald dL_law_1018 (fun U h => h.2.2.2.2.2.1) <| sn_aload_n dL_law_1019 rfl <| sn_iload_n dL_law_1020 rfl <| sn_iconst dL_law_1021 rfl <| sn_iadd dL_law_1022 <| sn_xald dL_law_1023 (fun U h => h.2.2.2.2.2.1) <| sq_callV mt_201 hcs dL_law_1024 rfl w_1404 w_1405 w_1406 w_63 w_1407 hy_201 hm_201 <| sn_pop dL_law_1027 <| sn_goto (tg := 1486) dL_law_1028 rfl rfl
set_option maxRecDepth 100000 in
theorem sL_law_31 {G : ab_G} {xs : List Int32} {d : Nat} {cal : ab_F} (hcs : ab_CS G (ab_Z G xs) ab_Mf cal d) : ab_Sd G (ab_Z G xs) (d + 1) (ab_mY mL_law pL_law) 1031 (bL_law_31 xs cal) :=
  sn_aload_n dL_law_1031 rfl <| sn_aload_n dL_law_1032 rfl <| sn_iload_n dL_law_1033 rfl <| sn_iconst dL_law_1034 rfl <| sn_iadd dL_law_1035 <| sn_xald dL_law_1036 (fun U h => h.2.2.2.2.2.1) <| sq_callV mt_104 hcs dL_law_1037 rfl w_883 w_884 w_885 w_55 w_886 hy_104 hm_104 <| sn_pop dL_law_1040 <| sn_aload_n dL_law_1041 rfl <| sn_aload_n dL_law_1042 rfl <| sn_iload_n dL_law_1043 rfl <| sn_iconst dL_law_1044 rfl <| sn_iadd dL_law_1045 <| sn_xald dL_law_1046 (fun U h => h.2.2.2.2.2.1) <| sq_callV mt_203 hcs dL_law_1047 rfl w_1408 w_1409 w_1410 w_63 w_1411 hy_203 hm_203 <| sn_pop dL_law_1050 <| sn_goto (tg := 1486) dL_law_1051 rfl rfl
set_option maxRecDepth 100000 in
theorem sL_law_32 {G : ab_G} {xs : List Int32} {d : Nat} {cal : ab_F} (hcs : ab_CS G (ab_Z G xs) ab_Mf cal d) : ab_Sd G (ab_Z G xs) (d + 1) (ab_mY mL_law pL_law) 1054 (bL_law_32 xs cal) :=
  sn_aload_n dL_law_1054 rfl <| sn_aload_n dL_law_1055 rfl <| sn_iload_n dL_law_1056 rfl <| sn_iconst dL_law_1057 rfl <| sn_iadd dL_law_1058 <| sn_xald dL_law_1059 (fun U h => h.2.2.2.2.2.1) <| sn_aload_n dL_law_1060 rfl <| sn_iload_n dL_law_1061 rfl <| sn_iconst dL_law_1062 rfl <| sn_iadd dL_law_1063 <| sn_xald dL_law_1064 (fun U h => h.2.2.2.2.2.1) <| sn_aload_n dL_law_1065 rfl <| sn_iload_n dL_law_1066 rfl <| sn_iconst dL_law_1067 rfl <| sn_iadd dL_law_1068 <| sn_xald dL_law_1069 (fun U h => h.2.2.2.2.2.1) <| sq_callV mt_105 hcs dL_law_1070 rfl w_887 w_888 w_889 w_55 w_890 hy_105 hm_105 <| sn_pop dL_law_1073 <| sn_aload_n dL_law_1074 rfl <| sn_aload_n dL_law_1075 rfl <| sn_iload_n dL_law_1076 rfl <| sn_iconst dL_law_1077 rfl <| sn_iadd dL_law_1078 <| sn_xald dL_law_1079 (fun U h => h.2.2.2.2.2.1) <| sn_aload_n dL_law_1080 rfl <| sn_iload_n dL_law_1081 rfl <| sn_iconst dL_law_1082 rfl <| sn_iadd dL_law_1083 <| sn_xald dL_law_1084 (fun U h => h.2.2.2.2.2.1) <| sn_aload_n dL_law_1085 rfl <| sn_iload_n dL_law_1086 rfl <| sn_iconst dL_law_1087 rfl <| sn_iadd dL_law_1088 <| sn_xald dL_law_1089 (fun U h => h.2.2.2.2.2.1) <| sq_callV mt_208 hcs dL_law_1090 rfl w_1412 w_1413 w_1414 w_63 w_1415 hy_208 hm_208 <| sn_pop dL_law_1093 <| sn_goto (tg := 1486) dL_law_1094 rfl rfl
set_option maxRecDepth 100000 in
theorem sL_law_33 {G : ab_G} {xs : List Int32} {d : Nat} {cal : ab_F} (hcs : ab_CS G (ab_Z G xs) ab_Mf cal d) : ab_Sd G (ab_Z G xs) (d + 1) (ab_mY mL_law pL_law) 1097 (bL_law_33 xs cal) :=
  sn_aload_n dL_law_1097 rfl <| sn_aload_n dL_law_1098 rfl <| sn_iload_n dL_law_1099 rfl <| sn_iconst dL_law_1100 rfl <| sn_iadd dL_law_1101 <| sn_xald dL_law_1102 (fun U h => h.2.2.2.2.2.1) <| sn_aload_n dL_law_1103 rfl <| sn_iload_n dL_law_1104 rfl <| sn_iconst dL_law_1105 rfl <| sn_iadd dL_law_1106 <| sn_xald dL_law_1107 (fun U h => h.2.2.2.2.2.1) <| sn_aload_n dL_law_1108 rfl <| sn_iload_n dL_law_1109 rfl <| sn_iconst dL_law_1110 rfl <| sn_iadd dL_law_1111 <| sn_xald dL_law_1112 (fun U h => h.2.2.2.2.2.1) <| sq_callV mt_106 hcs dL_law_1113 rfl w_897 w_898 w_899 w_55 w_900 hy_106 hm_106 <| sn_pop dL_law_1116 <| sn_aload_n dL_law_1117 rfl <| sn_aload_n dL_law_1118 rfl <| sn_iload_n dL_law_1119 rfl <| sn_iconst dL_law_1120 rfl <| sn_iadd dL_law_1121 <| sn_xald dL_law_1122 (fun U h => h.2.2.2.2.2.1) <| sn_aload_n dL_law_1123 rfl <| sn_iload_n dL_law_1124 rfl <| sn_iconst dL_law_1125 rfl <| sn_iadd dL_law_1126 <| sn_xald dL_law_1127 (fun U h => h.2.2.2.2.2.1) <| sn_aload_n dL_law_1128 rfl <| sn_iload_n dL_law_1129 rfl <| sn_iconst dL_law_1130 rfl <| sn_iadd dL_law_1131 <| sn_xald dL_law_1132 (fun U h => h.2.2.2.2.2.1) <| sq_callV mt_209 hcs dL_law_1133 rfl w_1417 w_1418 w_1419 w_63 w_1420 hy_209 hm_209 <| sn_pop dL_law_1136 <| sn_goto (tg := 1486) dL_law_1137 rfl rfl
set_option maxRecDepth 100000 in
theorem sL_law_34 {G : ab_G} {xs : List Int32} {d : Nat} {cal : ab_F} (hcs : ab_CS G (ab_Z G xs) ab_Mf cal d) : ab_Sd G (ab_Z G xs) (d + 1) (ab_mY mL_law pL_law) 1140 (bL_law_34 xs cal) :=
  sn_aload_n dL_law_1140 rfl <| sn_aload_n dL_law_1141 rfl <| sn_iload_n dL_law_1142 rfl <| sn_iconst dL_law_1143 rfl <| sn_iadd dL_law_1144 <| sn_xald dL_law_1145 (fun U h => h.2.2.2.2.2.1) <| sq_callV mt_107 hcs dL_law_1146 rfl w_908 w_909 w_910 w_55 w_911 hy_107 hm_107 <| sn_pop dL_law_1149 <| sn_aload_n dL_law_1150 rfl <| sn_aload_n dL_law_1151 rfl <| sn_iload_n dL_law_1152 rfl <| sn_iconst dL_law_1153 rfl <| sn_iadd dL_law_1154 <| sn_xald dL_law_1155 (fun U h => h.2.2.2.2.2.1) <| sq_callV mt_210 hcs dL_law_1156 rfl w_1424 w_1425 w_1426 w_63 w_1427 hy_210 hm_210 <| sn_pop dL_law_1159 <| sn_goto (tg := 1486) dL_law_1160 rfl rfl
set_option maxRecDepth 100000 in
theorem sL_law_35 {G : ab_G} {xs : List Int32} {d : Nat} {cal : ab_F} (hcs : ab_CS G (ab_Z G xs) ab_Mf cal d) : ab_Sd G (ab_Z G xs) (d + 1) (ab_mY mL_law pL_law) 1163 (bL_law_35 xs cal) :=
  sn_aload_n dL_law_1163 rfl <| sn_aload_n dL_law_1164 rfl <| sn_iload_n dL_law_1165 rfl <| sn_iconst dL_law_1166 rfl <| sn_iadd dL_law_1167 <| sn_xald dL_law_1168 (fun U h => h.2.2.2.2.2.1) <| sq_callV mt_108 hcs dL_law_1169 rfl w_914 w_915 w_916 w_55 w_917 hy_108 hm_108 <| sn_pop dL_law_1172 <| sn_aload_n dL_law_1173 rfl <| sn_aload_n dL_law_1174 rfl <| sn_iload_n dL_law_1175 rfl <| sn_iconst dL_law_1176 rfl <| sn_iadd dL_law_1177 <| sn_xald dL_law_1178 (fun U h => h.2.2.2.2.2.1) <| sq_callV mt_211 hcs dL_law_1179 rfl w_1428 w_1429 w_1430 w_63 w_1431 hy_211 hm_211 <| sn_pop dL_law_1182 <| sn_goto (tg := 1486) dL_law_1183 rfl rfl
set_option maxRecDepth 100000 in
theorem sL_law_36 {G : ab_G} {xs : List Int32} {d : Nat} {cal : ab_F} (hcs : ab_CS G (ab_Z G xs) ab_Mf cal d) : ab_Sd G (ab_Z G xs) (d + 1) (ab_mY mL_law pL_law) 1186 (bL_law_36 xs cal) :=
  sn_aload_n dL_law_1186 rfl <| sn_aload_n dL_law_1187 rfl <| sn_iload_n dL_law_1188 rfl <| sn_iconst dL_law_1189 rfl <| sn_iadd dL_law_1190 <| sn_xald dL_law_1191 (fun U h => h.2.2.2.2.2.1) <| sn_aload_n dL_law_1192 rfl <| sn_iload_n dL_law_1193 rfl <| sn_iconst dL_law_1194 rfl <| sn_iadd dL_law_1195 <| sn_xald dL_law_1196 (fun U h => h.2.2.2.2.2.1) <| sn_aload_n dL_law_1197 rfl <| sn_iload_n dL_law_1198 rfl <| sn_iconst dL_law_1199 rfl <| sn_iadd dL_law_1200 <| sn_xald dL_law_1201 (fun U h => h.2.2.2.2.2.1) <| sn_aload_n dL_law_1202 rfl <| sn_iload_n dL_law_1203 rfl <| sn_iconst dL_law_1204 rfl <| sn_iadd dL_law_1205 <| sn_xald dL_law_1206 (fun U h => h.2.2.2.2.2.1) <| sn_aload_n dL_law_1207 rfl <| sn_iload_n dL_law_1208 rfl <| sn_iconst dL_law_1209 rfl <| sn_iadd dL_law_1210 <| sn_xald dL_law_1211 (fun U h => h.2.2.2.2.2.1) <| sq_callV mt_109 hcs dL_law_1212 rfl w_918 w_919 w_920 w_55 w_921 hy_109 hm_109 <| sn_pop dL_law_1215 <| sn_aload_n dL_law_1216 rfl <| sn_aload_n dL_law_1217 rfl <| sn_iload_n dL_law_1218 rfl <| sn_iconst dL_law_1219 rfl <| sn_iadd dL_law_1220 <| sn_xald dL_law_1221 (fun U h => h.2.2.2.2.2.1) <| sn_aload_n dL_law_1222 rfl <| sn_iload_n dL_law_1223 rfl <| sn_iconst dL_law_1224 rfl <| sn_iadd dL_law_1225 <| sn_xald dL_law_1226 (fun U h => h.2.2.2.2.2.1) <| sn_aload_n dL_law_1227 rfl <| sn_iload_n dL_law_1228 rfl <| sn_iconst dL_law_1229 rfl <| sn_iadd dL_law_1230 <| sn_xald dL_law_1231 (fun U h => h.2.2.2.2.2.1) <| sn_aload_n dL_law_1232 rfl <| sn_iload_n dL_law_1233 rfl <| sn_iconst dL_law_1234 rfl <| sn_iadd dL_law_1235 <| sn_xald dL_law_1236 (fun U h => h.2.2.2.2.2.1) <| sn_aload_n dL_law_1237 rfl <| sn_iload_n dL_law_1238 rfl <| sn_iconst dL_law_1239 rfl <| sn_iadd dL_law_1240 <| sn_xald dL_law_1241 (fun U h => h.2.2.2.2.2.1) <| sq_callV mt_212 hcs dL_law_1242 rfl w_1432 w_1433 w_1434 w_63 w_1435 hy_212 hm_212 <| sn_pop dL_law_1245 <| sn_goto (tg := 1486) dL_law_1246 rfl rfl
set_option maxRecDepth 100000 in
theorem sL_law_37 {G : ab_G} {xs : List Int32} {d : Nat} {cal : ab_F} (hcs : ab_CS G (ab_Z G xs) ab_Mf cal d) : ab_Sd G (ab_Z G xs) (d + 1) (ab_mY mL_law pL_law) 1249 (bL_law_37 xs cal) :=
  sn_aload_n dL_law_1249 rfl <| sn_aload_n dL_law_1250 rfl <| sn_iload_n dL_law_1251 rfl <| sn_iconst dL_law_1252 rfl <| sn_iadd dL_law_1253 <| sn_xald dL_law_1254 (fun U h => h.2.2.2.2.2.1) <| sn_aload_n dL_law_1255 rfl <| sn_iload_n dL_law_1256 rfl <| sn_iconst dL_law_1257 rfl <| sn_iadd dL_law_1258 <| sn_xald dL_law_1259 (fun U h => h.2.2.2.2.2.1) <| sn_aload_n dL_law_1260 rfl <| sn_iload_n dL_law_1261 rfl <| sn_iconst dL_law_1262 rfl <| sn_iadd dL_law_1263 <| sn_xald dL_law_1264 (fun U h => h.2.2.2.2.2.1) <| sq_callV mt_110 hcs dL_law_1265 rfl w_927 w_928 w_929 w_55 w_930 hy_110 hm_110 <| sn_pop dL_law_1268 <| sn_aload_n dL_law_1269 rfl <| sn_aload_n dL_law_1270 rfl <| sn_iload_n dL_law_1271 rfl <| sn_iconst dL_law_1272 rfl <| sn_iadd dL_law_1273 <| sn_xald dL_law_1274 (fun U h => h.2.2.2.2.2.1) <| sn_aload_n dL_law_1275 rfl <| sn_iload_n dL_law_1276 rfl <| sn_iconst dL_law_1277 rfl <| sn_iadd dL_law_1278 <| sn_xald dL_law_1279 (fun U h => h.2.2.2.2.2.1) <| sn_aload_n dL_law_1280 rfl <| sn_iload_n dL_law_1281 rfl <| sn_iconst dL_law_1282 rfl <| sn_iadd dL_law_1283 <| sn_xald dL_law_1284 (fun U h => h.2.2.2.2.2.1) <| sq_callV mt_213 hcs dL_law_1285 rfl w_1436 w_1437 w_1438 w_63 w_1439 hy_213 hm_213 <| sn_pop dL_law_1288 <| sn_goto (tg := 1486) dL_law_1289 rfl rfl
set_option maxRecDepth 100000 in
theorem sL_law_38 {G : ab_G} {xs : List Int32} {d : Nat} {cal : ab_F} (hcs : ab_CS G (ab_Z G xs) ab_Mf cal d) : ab_Sd G (ab_Z G xs) (d + 1) (ab_mY mL_law pL_law) 1292 (bL_law_38 xs cal) :=
  sn_aload_n dL_law_1292 rfl <| sn_aload_n dL_law_1293 rfl <| sn_iload_n dL_law_1294 rfl <| sn_iconst dL_law_1295 rfl <| sn_iadd dL_law_1296 <| sn_xald dL_law_1297 (fun U h => h.2.2.2.2.2.1) <| sn_aload_n dL_law_1298 rfl <| sn_iload_n dL_law_1299 rfl <| sn_iconst dL_law_1300 rfl <| sn_iadd dL_law_1301 <| sn_xald dL_law_1302 (fun U h => h.2.2.2.2.2.1) <| sq_callV mt_111 hcs dL_law_1303 rfl w_943 w_944 w_945 w_55 w_946 hy_111 hm_111 <| sn_pop dL_law_1306 <| sn_aload_n dL_law_1307 rfl <| sn_aload_n dL_law_1308 rfl <| sn_iload_n dL_law_1309 rfl <| sn_iconst dL_law_1310 rfl <| sn_iadd dL_law_1311 <| sn_xald dL_law_1312 (fun U h => h.2.2.2.2.2.1) <| sn_aload_n dL_law_1313 rfl <| sn_iload_n dL_law_1314 rfl <| sn_iconst dL_law_1315 rfl <| sn_iadd dL_law_1316 <| sn_xald dL_law_1317 (fun U h => h.2.2.2.2.2.1) <| sq_callV mt_214 hcs dL_law_1318 rfl w_1443 w_1444 w_1445 w_63 w_1446 hy_214 hm_214 <| sn_pop dL_law_1321 <| sn_goto (tg := 1486) dL_law_1322 rfl rfl
set_option maxRecDepth 100000 in
theorem sL_law_39 {G : ab_G} {xs : List Int32} {d : Nat} {cal : ab_F} (hcs : ab_CS G (ab_Z G xs) ab_Mf cal d) : ab_Sd G (ab_Z G xs) (d + 1) (ab_mY mL_law pL_law) 1325 (bL_law_39 xs cal) :=
  sn_aload_n dL_law_1325 rfl <| sn_aload_n dL_law_1326 rfl <| sn_iload_n dL_law_1327 rfl <| sn_iconst dL_law_1328 rfl <| sn_iadd dL_law_1329 <| sn_xald dL_law_1330 (fun U h => h.2.2.2.2.2.1) <| sn_aload_n dL_law_1331 rfl <| sn_iload_n dL_law_1332 rfl <| sn_iconst dL_law_1333 rfl <| sn_iadd dL_law_1334 <| sn_xald dL_law_1335 (fun U h => h.2.2.2.2.2.1) <| sq_callV mt_112 hcs dL_law_1336 rfl w_951 w_952 w_953 w_55 w_954 hy_112 hm_112 <| sn_pop dL_law_1339 <| sn_aload_n dL_law_1340 rfl <| sn_aload_n dL_law_1341 rfl <| sn_iload_n dL_law_1342 rfl <| sn_iconst dL_law_1343 rfl <| sn_iadd dL_law_1344 <| sn_xald dL_law_1345 (fun U h => h.2.2.2.2.2.1) <| sn_aload_n dL_law_1346 rfl <| sn_iload_n dL_law_1347 rfl <| sn_iconst dL_law_1348 rfl <| sn_iadd dL_law_1349 <| sn_xald dL_law_1350 (fun U h => h.2.2.2.2.2.1) <| sq_callV mt_215 hcs dL_law_1351 rfl w_1447 w_1448 w_1449 w_63 w_1450 hy_215 hm_215 <| sn_pop dL_law_1354 <| sn_goto (tg := 1486) dL_law_1355 rfl rfl
set_option maxRecDepth 100000 in
theorem sL_law_40 {G : ab_G} {xs : List Int32} {d : Nat} {cal : ab_F} (hcs : ab_CS G (ab_Z G xs) ab_Mf cal d) : ab_Sd G (ab_Z G xs) (d + 1) (ab_mY mL_law pL_law) 1358 (bL_law_40 xs cal) :=
  sn_aload_n dL_law_1358 rfl <| sn_aload_n dL_law_1359 rfl <| sn_iload_n dL_law_1360 rfl <| sn_iconst dL_law_1361 rfl <| sn_iadd dL_law_1362 <| sn_xald dL_law_1363 (fun U h => h.2.2.2.2.2.1) <| sn_aload_n dL_law_1364 rfl <| sn_iload_n dL_law_1365 rfl <| sn_iconst dL_law_1366 rfl <| sn_iadd dL_law_1367 <| sn_xald dL_law_1368 (fun U h => h.2.2.2.2.2.1) <| sq_callV mt_113 hcs dL_law_1369 rfl w_955 w_956 w_957 w_55 w_958 hy_113 hm_113 <| sn_pop dL_law_1372 <| sn_aload_n dL_law_1373 rfl <| sn_aload_n dL_law_1374 rfl <| sn_iload_n dL_law_1375 rfl <| sn_iconst dL_law_1376 rfl <| sn_iadd dL_law_1377 <| sn_xald dL_law_1378 (fun U h => h.2.2.2.2.2.1) <| sn_aload_n dL_law_1379 rfl <| sn_iload_n dL_law_1380 rfl <| sn_iconst dL_law_1381 rfl <| sn_iadd dL_law_1382 <| sn_xald dL_law_1383 (fun U h => h.2.2.2.2.2.1) <| sq_callV mt_216 hcs dL_law_1384 rfl w_1451 w_1452 w_1453 w_63 w_1454 hy_216 hm_216 <| sn_pop dL_law_1387 <| sn_goto (tg := 1486) dL_law_1388 rfl rfl
set_option maxRecDepth 100000 in
theorem sL_law_41 {G : ab_G} {xs : List Int32} {d : Nat} {cal : ab_F} (hcs : ab_CS G (ab_Z G xs) ab_Mf cal d) : ab_Sd G (ab_Z G xs) (d + 1) (ab_mY mL_law pL_law) 1391 (bL_law_41 xs cal) :=
  sn_aload_n dL_law_1391 rfl <| sn_aload_n dL_law_1392 rfl <| sn_iload_n dL_law_1393 rfl <| sn_iconst dL_law_1394 rfl <| sn_iadd dL_law_1395 <| sn_xald dL_law_1396 (fun U h => h.2.2.2.2.2.1) <| sq_callV mt_114 hcs dL_law_1397 rfl w_959 w_960 w_961 w_55 w_962 hy_114 hm_114 <| sn_pop dL_law_1400 <| sn_aload_n dL_law_1401 rfl <| sn_aload_n dL_law_1402 rfl <| sn_iload_n dL_law_1403 rfl <| sn_iconst dL_law_1404 rfl <| sn_iadd dL_law_1405 <| sn_xald dL_law_1406 (fun U h => h.2.2.2.2.2.1) <| sq_callV mt_217 hcs dL_law_1407 rfl w_1455 w_1456 w_1457 w_63 w_1458 hy_217 hm_217 <| sn_pop dL_law_1410 <| sn_goto (tg := 1486) dL_law_1411 rfl rfl
set_option maxRecDepth 100000 in
theorem sL_law_42 {G : ab_G} {xs : List Int32} {d : Nat} {cal : ab_F} (hcs : ab_CS G (ab_Z G xs) ab_Mf cal d) : ab_Sd G (ab_Z G xs) (d + 1) (ab_mY mL_law pL_law) 1414 (bL_law_42 xs cal) :=
  sn_aload_n dL_law_1414 rfl <| sn_aload_n dL_law_1415 rfl <| sn_iload_n dL_law_1416 rfl <| sn_iconst dL_law_1417 rfl <| sn_iadd dL_law_1418 <| sn_xald dL_law_1419 (fun U h => h.2.2.2.2.2.1) <| sq_callV mt_115 hcs dL_law_1420 rfl w_963 w_964 w_965 w_55 w_966 hy_115 hm_115 <| sn_pop dL_law_1423 <| sn_aload_n dL_law_1424 rfl <| sn_aload_n dL_law_1425 rfl <| sn_iload_n dL_law_1426 rfl <| sn_iconst dL_law_1427 rfl <| sn_iadd dL_law_1428 <| sn_xald dL_law_1429 (fun U h => h.2.2.2.2.2.1) <| sq_callV mt_218 hcs dL_law_1430 rfl w_1459 w_1460 w_1461 w_63 w_1462 hy_218 hm_218 <| sn_pop dL_law_1433 <| sn_goto (tg := 1486) dL_law_1434 rfl rfl
set_option maxRecDepth 100000 in
theorem sL_law_43 {G : ab_G} {xs : List Int32} {d : Nat} {cal : ab_F} (hcs : ab_CS G (ab_Z G xs) ab_Mf cal d) : ab_Sd G (ab_Z G xs) (d + 1) (ab_mY mL_law pL_law) 1437 (bL_law_43 xs cal) :=
  sn_aload_n dL_law_1437 rfl <| sq_callV mt_116 hcs dL_law_1438 rfl w_972 w_973 w_974 w_55 w_975 hy_116 hm_116 <| sn_pop dL_law_1441 <| sn_aload_n dL_law_1442 rfl <| sq_callV mt_219 hcs dL_law_1443 rfl w_1466 w_1467 w_1468 w_63 w_1469 hy_219 hm_219 <| sn_pop dL_law_1446 <| sn_goto (tg := 1486) dL_law_1447 rfl rfl
set_option maxRecDepth 100000 in
theorem sL_law_44 {G : ab_G} {xs : List Int32} {d : Nat} {cal : ab_F} (hcs : ab_CS G (ab_Z G xs) ab_Mf cal d) : ab_Sd G (ab_Z G xs) (d + 1) (ab_mY mL_law pL_law) 1450 (bL_law_44 xs cal) :=
  sn_aload_n dL_law_1450 rfl <| sq_callV mt_117 hcs dL_law_1451 rfl w_977 w_978 w_979 w_55 w_980 hy_117 hm_117 <| sn_pop dL_law_1454 <| sn_aload_n dL_law_1455 rfl <| sq_callV mt_220 hcs dL_law_1456 rfl w_1470 w_1471 w_1472 w_63 w_1473 hy_220 hm_220 <| sn_pop dL_law_1459 <| sn_goto (tg := 1486) dL_law_1460 rfl rfl
set_option maxRecDepth 100000 in
theorem sL_law_45 {G : ab_G} {xs : List Int32} {d : Nat} {cal : ab_F} (hcs : ab_CS G (ab_Z G xs) ab_Mf cal d) : ab_Sd G (ab_Z G xs) (d + 1) (ab_mY mL_law pL_law) 1463 (bL_law_45 xs cal) :=
  sn_aload_n dL_law_1463 rfl <| sn_aload_n dL_law_1464 rfl <| sn_iload_n dL_law_1465 rfl <| sn_iconst dL_law_1466 rfl <| sn_iadd dL_law_1467 <| sn_xald dL_law_1468 (fun U h => h.2.2.2.2.2.1) <| sq_callV mt_118 hcs dL_law_1469 rfl w_981 w_982 w_983 w_55 w_984 hy_118 hm_118 <| sn_pop dL_law_1472 <| sn_aload_n dL_law_1473 rfl <| sn_aload_n dL_law_1474 rfl <| sn_iload_n dL_law_1475 rfl <| sn_iconst dL_law_1476 rfl <| sn_iadd dL_law_1477 <| sn_xald dL_law_1478 (fun U h => h.2.2.2.2.2.1) <| sq_callV mt_221 hcs dL_law_1479 rfl w_1474 w_1475 w_1476 w_63 w_1477 hy_221 hm_221 <| sn_pop dL_law_1482 <| sn_goto (tg := 1486) dL_law_1483 rfl rfl
set_option maxRecDepth 100000 in
theorem sL_law_46 {G : ab_G} {xs : List Int32} {d : Nat} {cal : ab_F} (hcs : ab_CS G (ab_Z G xs) ab_Mf cal d) : ab_Sd G (ab_Z G xs) (d + 1) (ab_mY mL_law pL_law) 1486 (bL_law_46 xs cal) :=
  sn_iinc dL_law_1486 rfl (by decide) <| sn_goto (tg := 18) dL_law_1489 rfl rfl
set_option maxRecDepth 100000 in
theorem sL_law_47 {G : ab_G} {xs : List Int32} {d : Nat} {cal : ab_F} (hcs : ab_CS G (ab_Z G xs) ab_Mf cal d) : ab_Sd G (ab_Z G xs) (d + 1) (ab_mY mL_law pL_law) 1492 (bL_law_47 xs cal) :=
  sn_iconst dL_law_1492 rfl <| sn_ret dL_law_1493 ab_ri_bool
theorem sL_law {G : ab_G} {xs : List Int32} {d : Nat} {cal : ab_F} (hcs : ab_CS G (ab_Z G xs) ab_Mf cal d) : ab_BS G (ab_Z G xs) (d + 1) (ab_mY mL_law pL_law) pL_law (bL_law xs cal) := ⟨sL_law_0 hcs, sL_law_1 hcs, sL_law_2 hcs, sL_law_3 hcs, sL_law_4 hcs, sL_law_5 hcs, sL_law_6 hcs, sL_law_7 hcs, sL_law_8 hcs, sL_law_9 hcs, sL_law_10 hcs, sL_law_11 hcs, sL_law_12 hcs, sL_law_13 hcs, sL_law_14 hcs, sL_law_15 hcs, sL_law_16 hcs, sL_law_17 hcs, sL_law_18 hcs, sL_law_19 hcs, sL_law_20 hcs, sL_law_21 hcs, sL_law_22 hcs, sL_law_23 hcs, sL_law_24 hcs, sL_law_25 hcs, sL_law_26 hcs, sL_law_27 hcs, sL_law_28 hcs, sL_law_29 hcs, sL_law_30 hcs, sL_law_31 hcs, sL_law_32 hcs, sL_law_33 hcs, sL_law_34 hcs, sL_law_35 hcs, sL_law_36 hcs, sL_law_37 hcs, sL_law_38 hcs, sL_law_39 hcs, sL_law_40 hcs, sL_law_41 hcs, sL_law_42 hcs, sL_law_43 hcs, sL_law_44 hcs, sL_law_45 hcs, sL_law_46 hcs, sL_law_47 hcs, trivial⟩
