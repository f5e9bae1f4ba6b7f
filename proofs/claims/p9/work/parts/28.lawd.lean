section
theorem dl_18 : decode code 18 = .ok (.iload_n 3, 1) := dc_29 (dcc (r := 18) lq_0 rfl (Nat.le_of_ble_eq_true rfl) (by decide +kernel))
theorem dl_19 : decode code 19 = .ok (.aload_n 0, 1) := dc_42 (dcc (r := 19) lq_0 rfl (Nat.le_of_ble_eq_true rfl) (by decide +kernel))
theorem dl_20 : decode code 20 = .ok (.arraylength, 1) := dc_190 (dcc (r := 20) lq_0 rfl (Nat.le_of_ble_eq_true rfl) (by decide +kernel))
theorem dl_21 : decode code 21 = .ok (.iconst 5, 1) := dc_8 (dcc (r := 21) lq_0 rfl (Nat.le_of_ble_eq_true rfl) (by decide +kernel))
theorem dl_22 : decode code 22 = .ok (.isub, 1) := dc_100 (dcc (r := 22) lq_0 rfl (Nat.le_of_ble_eq_true rfl) (by decide +kernel))
theorem dl_23 : decode code 23 = .ok (.if_icmp .gt 1342, 3) := dc_163 (a := 5) (b := 62) (dcc (r := 23) lq_0 rfl (Nat.le_of_ble_eq_true rfl) (by decide +kernel)) rfl
theorem dl_26 : decode code 26 = .ok (.aload_n 0, 1) := dc_42 (dcc (r := 26) lq_0 rfl (Nat.le_of_ble_eq_true rfl) (by decide +kernel))
theorem dl_27 : decode code 27 = .ok (.iload_n 3, 1) := dc_29 (dcc (r := 27) lq_0 rfl (Nat.le_of_ble_eq_true rfl) (by decide +kernel))
theorem dl_28 : decode code 28 = .ok (.iaload, 1) := dc_46 (dcc (r := 28) lq_0 rfl (Nat.le_of_ble_eq_true rfl) (by decide +kernel))
theorem dl_29 : decode code 29 = .ok (.bipush 63, 2) := dc_16 (a := 63) (dcc (r := 29) lq_0 rfl (Nat.le_of_ble_eq_true rfl) (by decide +kernel)) rfl
theorem dl_31 : decode code 31 = .ok (.iand, 1) := dc_126 (dcc (r := 31) lq_0 rfl (Nat.le_of_ble_eq_true rfl) (by decide +kernel))
theorem dl_32 : decode code 32 = .ok (.tableswitch 1327 0 36 #[164, 187, 210, 223, 236, 259, 292, 315, 348, 397, 430, 463, 496, 529, 572, 595, 618, 661, 730, 753, 766, 789, 822, 875, 918, 971, 994, 1027, 1050, 1073, 1106, 1129, 1152, 1195, 1238, 1291, 1304], 164) := by decide +kernel
theorem dl_196 : decode code 196 = .ok (.aload_n 1, 1) := dc_43 (dcc (r := 4) lq_3 rfl (Nat.le_of_ble_eq_true rfl) (by decide +kernel))
theorem dl_197 : decode code 197 = .ok (.aload_n 0, 1) := dc_42 (dcc (r := 5) lq_3 rfl (Nat.le_of_ble_eq_true rfl) (by decide +kernel))
theorem dl_198 : decode code 198 = .ok (.iload_n 3, 1) := dc_29 (dcc (r := 6) lq_3 rfl (Nat.le_of_ble_eq_true rfl) (by decide +kernel))
theorem dl_199 : decode code 199 = .ok (.iconst 1, 1) := dc_4 (dcc (r := 7) lq_3 rfl (Nat.le_of_ble_eq_true rfl) (by decide +kernel))
theorem dl_200 : decode code 200 = .ok (.iadd, 1) := dc_96 (dcc (r := 8) lq_3 rfl (Nat.le_of_ble_eq_true rfl) (by decide +kernel))
theorem dl_201 : decode code 201 = .ok (.iaload, 1) := dc_46 (dcc (r := 9) lq_3 rfl (Nat.le_of_ble_eq_true rfl) (by decide +kernel))
theorem dl_202 : decode code 202 = .ok (.invokevirtual 13, 3) := dc_182 (a := 0) (b := 13) (dcc (r := 10) lq_3 rfl (Nat.le_of_ble_eq_true rfl) (by decide +kernel)) rfl
theorem dl_205 : decode code 205 = .ok (.pop, 1) := dc_87 (dcc (r := 13) lq_3 rfl (Nat.le_of_ble_eq_true rfl) (by decide +kernel))
theorem dl_206 : decode code 206 = .ok (.aload_n 2, 1) := dc_44 (dcc (r := 14) lq_3 rfl (Nat.le_of_ble_eq_true rfl) (by decide +kernel))
theorem dl_207 : decode code 207 = .ok (.aload_n 0, 1) := dc_42 (dcc (r := 15) lq_3 rfl (Nat.le_of_ble_eq_true rfl) (by decide +kernel))
theorem dl_208 : decode code 208 = .ok (.iload_n 3, 1) := dc_29 (dcc (r := 16) lq_3 rfl (Nat.le_of_ble_eq_true rfl) (by decide +kernel))
theorem dl_209 : decode code 209 = .ok (.iconst 1, 1) := dc_4 (dcc (r := 17) lq_3 rfl (Nat.le_of_ble_eq_true rfl) (by decide +kernel))
theorem dl_210 : decode code 210 = .ok (.iadd, 1) := dc_96 (dcc (r := 18) lq_3 rfl (Nat.le_of_ble_eq_true rfl) (by decide +kernel))
theorem dl_211 : decode code 211 = .ok (.iaload, 1) := dc_46 (dcc (r := 19) lq_3 rfl (Nat.le_of_ble_eq_true rfl) (by decide +kernel))
theorem dl_212 : decode code 212 = .ok (.invokevirtual 17, 3) := dc_182 (a := 0) (b := 17) (dcc (r := 20) lq_3 rfl (Nat.le_of_ble_eq_true rfl) (by decide +kernel)) rfl
theorem dl_215 : decode code 215 = .ok (.pop, 1) := dc_87 (dcc (r := 23) lq_3 rfl (Nat.le_of_ble_eq_true rfl) (by decide +kernel))
theorem dl_216 : decode code 216 = .ok (.goto 1143, 3) := dc_167 (a := 4) (b := 119) (dcc (r := 24) lq_3 rfl (Nat.le_of_ble_eq_true rfl) (by decide +kernel)) rfl
theorem dl_219 : decode code 219 = .ok (.aload_n 1, 1) := dc_43 (dcc (r := 27) lq_3 rfl (Nat.le_of_ble_eq_true rfl) (by decide +kernel))
theorem dl_220 : decode code 220 = .ok (.aload_n 0, 1) := dc_42 (dcc (r := 28) lq_3 rfl (Nat.le_of_ble_eq_true rfl) (by decide +kernel))
theorem dl_221 : decode code 221 = .ok (.iload_n 3, 1) := dc_29 (dcc (r := 29) lq_3 rfl (Nat.le_of_ble_eq_true rfl) (by decide +kernel))
theorem dl_222 : decode code 222 = .ok (.iconst 1, 1) := dc_4 (dcc (r := 30) lq_3 rfl (Nat.le_of_ble_eq_true rfl) (by decide +kernel))
theorem dl_223 : decode code 223 = .ok (.iadd, 1) := dc_96 (dcc (r := 31) lq_3 rfl (Nat.le_of_ble_eq_true rfl) (by decide +kernel))
theorem dl_224 : decode code 224 = .ok (.iaload, 1) := dc_46 (dcc (r := 32) lq_3 rfl (Nat.le_of_ble_eq_true rfl) (by decide +kernel))
theorem dl_225 : decode code 225 = .ok (.invokevirtual 18, 3) := dc_182 (a := 0) (b := 18) (dcc (r := 33) lq_3 rfl (Nat.le_of_ble_eq_true rfl) (by decide +kernel)) rfl
theorem dl_228 : decode code 228 = .ok (.pop, 1) := dc_87 (dcc (r := 36) lq_3 rfl (Nat.le_of_ble_eq_true rfl) (by decide +kernel))
theorem dl_229 : decode code 229 = .ok (.aload_n 2, 1) := dc_44 (dcc (r := 37) lq_3 rfl (Nat.le_of_ble_eq_true rfl) (by decide +kernel))
theorem dl_230 : decode code 230 = .ok (.aload_n 0, 1) := dc_42 (dcc (r := 38) lq_3 rfl (Nat.le_of_ble_eq_true rfl) (by decide +kernel))
theorem dl_231 : decode code 231 = .ok (.iload_n 3, 1) := dc_29 (dcc (r := 39) lq_3 rfl (Nat.le_of_ble_eq_true rfl) (by decide +kernel))
theorem dl_232 : decode code 232 = .ok (.iconst 1, 1) := dc_4 (dcc (r := 40) lq_3 rfl (Nat.le_of_ble_eq_true rfl) (by decide +kernel))
theorem dl_233 : decode code 233 = .ok (.iadd, 1) := dc_96 (dcc (r := 41) lq_3 rfl (Nat.le_of_ble_eq_true rfl) (by decide +kernel))
theorem dl_234 : decode code 234 = .ok (.iaload, 1) := dc_46 (dcc (r := 42) lq_3 rfl (Nat.le_of_ble_eq_true rfl) (by decide +kernel))
theorem dl_235 : decode code 235 = .ok (.invokevirtual 21, 3) := dc_182 (a := 0) (b := 21) (dcc (r := 43) lq_3 rfl (Nat.le_of_ble_eq_true rfl) (by decide +kernel)) rfl
theorem dl_238 : decode code 238 = .ok (.pop, 1) := dc_87 (dcc (r := 46) lq_3 rfl (Nat.le_of_ble_eq_true rfl) (by decide +kernel))
theorem dl_239 : decode code 239 = .ok (.goto 1120, 3) := dc_167 (a := 4) (b := 96) (dcc (r := 47) lq_3 rfl (Nat.le_of_ble_eq_true rfl) (by decide +kernel)) rfl
theorem dl_242 : decode code 242 = .ok (.aload_n 1, 1) := dc_43 (dcc (r := 50) lq_3 rfl (Nat.le_of_ble_eq_true rfl) (by decide +kernel))
theorem dl_243 : decode code 243 = .ok (.invokevirtual 22, 3) := dc_182 (a := 0) (b := 22) (dcc (r := 51) lq_3 rfl (Nat.le_of_ble_eq_true rfl) (by decide +kernel)) rfl
theorem dl_246 : decode code 246 = .ok (.pop, 1) := dc_87 (dcc (r := 54) lq_3 rfl (Nat.le_of_ble_eq_true rfl) (by decide +kernel))
theorem dl_247 : decode code 247 = .ok (.aload_n 2, 1) := dc_44 (dcc (r := 55) lq_3 rfl (Nat.le_of_ble_eq_true rfl) (by decide +kernel))
theorem dl_248 : decode code 248 = .ok (.invokevirtual 26, 3) := dc_182 (a := 0) (b := 26) (dcc (r := 56) lq_3 rfl (Nat.le_of_ble_eq_true rfl) (by decide +kernel)) rfl
theorem dl_251 : decode code 251 = .ok (.pop, 1) := dc_87 (dcc (r := 59) lq_3 rfl (Nat.le_of_ble_eq_true rfl) (by decide +kernel))
theorem dl_252 : decode code 252 = .ok (.goto 1107, 3) := dc_167 (a := 4) (b := 83) (dcc (r := 60) lq_3 rfl (Nat.le_of_ble_eq_true rfl) (by decide +kernel)) rfl
theorem dl_255 : decode code 255 = .ok (.aload_n 1, 1) := dc_43 (dcc (r := 63) lq_3 rfl (Nat.le_of_ble_eq_true rfl) (by decide +kernel))
theorem dl_256 : decode code 256 = .ok (.invokevirtual 27, 3) := dc_182 (a := 0) (b := 27) (dcc (r := 0) lq_4 rfl (Nat.le_of_ble_eq_true rfl) (by decide +kernel)) rfl
theorem dl_259 : decode code 259 = .ok (.pop, 1) := dc_87 (dcc (r := 3) lq_4 rfl (Nat.le_of_ble_eq_true rfl) (by decide +kernel))
theorem dl_260 : decode code 260 = .ok (.aload_n 2, 1) := dc_44 (dcc (r := 4) lq_4 rfl (Nat.le_of_ble_eq_true rfl) (by decide +kernel))
theorem dl_261 : decode code 261 = .ok (.invokevirtual 30, 3) := dc_182 (a := 0) (b := 30) (dcc (r := 5) lq_4 rfl (Nat.le_of_ble_eq_true rfl) (by decide +kernel)) rfl
theorem dl_264 : decode code 264 = .ok (.pop, 1) := dc_87 (dcc (r := 8) lq_4 rfl (Nat.le_of_ble_eq_true rfl) (by decide +kernel))
theorem dl_265 : decode code 265 = .ok (.goto 1094, 3) := dc_167 (a := 4) (b := 70) (dcc (r := 9) lq_4 rfl (Nat.le_of_ble_eq_true rfl) (by decide +kernel)) rfl
theorem dl_268 : decode code 268 = .ok (.aload_n 1, 1) := dc_43 (dcc (r := 12) lq_4 rfl (Nat.le_of_ble_eq_true rfl) (by decide +kernel))
theorem dl_269 : decode code 269 = .ok (.aload_n 0, 1) := dc_42 (dcc (r := 13) lq_4 rfl (Nat.le_of_ble_eq_true rfl) (by decide +kernel))
theorem dl_270 : decode code 270 = .ok (.iload_n 3, 1) := dc_29 (dcc (r := 14) lq_4 rfl (Nat.le_of_ble_eq_true rfl) (by decide +kernel))
theorem dl_271 : decode code 271 = .ok (.iconst 1, 1) := dc_4 (dcc (r := 15) lq_4 rfl (Nat.le_of_ble_eq_true rfl) (by decide +kernel))
theorem dl_272 : decode code 272 = .ok (.iadd, 1) := dc_96 (dcc (r := 16) lq_4 rfl (Nat.le_of_ble_eq_true rfl) (by decide +kernel))
theorem dl_273 : decode code 273 = .ok (.iaload, 1) := dc_46 (dcc (r := 17) lq_4 rfl (Nat.le_of_ble_eq_true rfl) (by decide +kernel))
theorem dl_274 : decode code 274 = .ok (.invokevirtual 31, 3) := dc_182 (a := 0) (b := 31) (dcc (r := 18) lq_4 rfl (Nat.le_of_ble_eq_true rfl) (by decide +kernel)) rfl
theorem dl_277 : decode code 277 = .ok (.pop, 1) := dc_87 (dcc (r := 21) lq_4 rfl (Nat.le_of_ble_eq_true rfl) (by decide +kernel))
theorem dl_278 : decode code 278 = .ok (.aload_n 2, 1) := dc_44 (dcc (r := 22) lq_4 rfl (Nat.le_of_ble_eq_true rfl) (by decide +kernel))
theorem dl_279 : decode code 279 = .ok (.aload_n 0, 1) := dc_42 (dcc (r := 23) lq_4 rfl (Nat.le_of_ble_eq_true rfl) (by decide +kernel))
theorem dl_280 : decode code 280 = .ok (.iload_n 3, 1) := dc_29 (dcc (r := 24) lq_4 rfl (Nat.le_of_ble_eq_true rfl) (by decide +kernel))
theorem dl_281 : decode code 281 = .ok (.iconst 1, 1) := dc_4 (dcc (r := 25) lq_4 rfl (Nat.le_of_ble_eq_true rfl) (by decide +kernel))
theorem dl_282 : decode code 282 = .ok (.iadd, 1) := dc_96 (dcc (r := 26) lq_4 rfl (Nat.le_of_ble_eq_true rfl) (by decide +kernel))
theorem dl_283 : decode code 283 = .ok (.iaload, 1) := dc_46 (dcc (r := 27) lq_4 rfl (Nat.le_of_ble_eq_true rfl) (by decide +kernel))
theorem dl_284 : decode code 284 = .ok (.invokevirtual 34, 3) := dc_182 (a := 0) (b := 34) (dcc (r := 28) lq_4 rfl (Nat.le_of_ble_eq_true rfl) (by decide +kernel)) rfl
theorem dl_287 : decode code 287 = .ok (.pop, 1) := dc_87 (dcc (r := 31) lq_4 rfl (Nat.le_of_ble_eq_true rfl) (by decide +kernel))
theorem dl_288 : decode code 288 = .ok (.goto 1071, 3) := dc_167 (a := 4) (b := 47) (dcc (r := 32) lq_4 rfl (Nat.le_of_ble_eq_true rfl) (by decide +kernel)) rfl
theorem dl_291 : decode code 291 = .ok (.aload_n 1, 1) := dc_43 (dcc (r := 35) lq_4 rfl (Nat.le_of_ble_eq_true rfl) (by decide +kernel))
theorem dl_292 : decode code 292 = .ok (.aload_n 0, 1) := dc_42 (dcc (r := 36) lq_4 rfl (Nat.le_of_ble_eq_true rfl) (by decide +kernel))
theorem dl_293 : decode code 293 = .ok (.iload_n 3, 1) := dc_29 (dcc (r := 37) lq_4 rfl (Nat.le_of_ble_eq_true rfl) (by decide +kernel))
theorem dl_294 : decode code 294 = .ok (.iconst 1, 1) := dc_4 (dcc (r := 38) lq_4 rfl (Nat.le_of_ble_eq_true rfl) (by decide +kernel))
theorem dl_295 : decode code 295 = .ok (.iadd, 1) := dc_96 (dcc (r := 39) lq_4 rfl (Nat.le_of_ble_eq_true rfl) (by decide +kernel))
theorem dl_296 : decode code 296 = .ok (.iaload, 1) := dc_46 (dcc (r := 40) lq_4 rfl (Nat.le_of_ble_eq_true rfl) (by decide +kernel))
theorem dl_297 : decode code 297 = .ok (.aload_n 0, 1) := dc_42 (dcc (r := 41) lq_4 rfl (Nat.le_of_ble_eq_true rfl) (by decide +kernel))
theorem dl_298 : decode code 298 = .ok (.iload_n 3, 1) := dc_29 (dcc (r := 42) lq_4 rfl (Nat.le_of_ble_eq_true rfl) (by decide +kernel))
theorem dl_299 : decode code 299 = .ok (.iconst 2, 1) := dc_5 (dcc (r := 43) lq_4 rfl (Nat.le_of_ble_eq_true rfl) (by decide +kernel))
theorem dl_300 : decode code 300 = .ok (.iadd, 1) := dc_96 (dcc (r := 44) lq_4 rfl (Nat.le_of_ble_eq_true rfl) (by decide +kernel))
theorem dl_301 : decode code 301 = .ok (.iaload, 1) := dc_46 (dcc (r := 45) lq_4 rfl (Nat.le_of_ble_eq_true rfl) (by decide +kernel))
theorem dl_302 : decode code 302 = .ok (.invokevirtual 35, 3) := dc_182 (a := 0) (b := 35) (dcc (r := 46) lq_4 rfl (Nat.le_of_ble_eq_true rfl) (by decide +kernel)) rfl
theorem dl_305 : decode code 305 = .ok (.pop, 1) := dc_87 (dcc (r := 49) lq_4 rfl (Nat.le_of_ble_eq_true rfl) (by decide +kernel))
theorem dl_306 : decode code 306 = .ok (.aload_n 2, 1) := dc_44 (dcc (r := 50) lq_4 rfl (Nat.le_of_ble_eq_true rfl) (by decide +kernel))
theorem dl_307 : decode code 307 = .ok (.aload_n 0, 1) := dc_42 (dcc (r := 51) lq_4 rfl (Nat.le_of_ble_eq_true rfl) (by decide +kernel))
theorem dl_308 : decode code 308 = .ok (.iload_n 3, 1) := dc_29 (dcc (r := 52) lq_4 rfl (Nat.le_of_ble_eq_true rfl) (by decide +kernel))
theorem dl_309 : decode code 309 = .ok (.iconst 1, 1) := dc_4 (dcc (r := 53) lq_4 rfl (Nat.le_of_ble_eq_true rfl) (by decide +kernel))
theorem dl_310 : decode code 310 = .ok (.iadd, 1) := dc_96 (dcc (r := 54) lq_4 rfl (Nat.le_of_ble_eq_true rfl) (by decide +kernel))
theorem dl_311 : decode code 311 = .ok (.iaload, 1) := dc_46 (dcc (r := 55) lq_4 rfl (Nat.le_of_ble_eq_true rfl) (by decide +kernel))
theorem dl_312 : decode code 312 = .ok (.aload_n 0, 1) := dc_42 (dcc (r := 56) lq_4 rfl (Nat.le_of_ble_eq_true rfl) (by decide +kernel))
theorem dl_313 : decode code 313 = .ok (.iload_n 3, 1) := dc_29 (dcc (r := 57) lq_4 rfl (Nat.le_of_ble_eq_true rfl) (by decide +kernel))
theorem dl_314 : decode code 314 = .ok (.iconst 2, 1) := dc_5 (dcc (r := 58) lq_4 rfl (Nat.le_of_ble_eq_true rfl) (by decide +kernel))
theorem dl_315 : decode code 315 = .ok (.iadd, 1) := dc_96 (dcc (r := 59) lq_4 rfl (Nat.le_of_ble_eq_true rfl) (by decide +kernel))
theorem dl_316 : decode code 316 = .ok (.iaload, 1) := dc_46 (dcc (r := 60) lq_4 rfl (Nat.le_of_ble_eq_true rfl) (by decide +kernel))
theorem dl_317 : decode code 317 = .ok (.invokevirtual 39, 3) := dc_182 (a := 0) (b := 39) (dcc (r := 61) lq_4 rfl (Nat.le_of_ble_eq_true rfl) (by decide +kernel)) rfl
theorem dl_320 : decode code 320 = .ok (.pop, 1) := dc_87 (dcc (r := 0) lq_5 rfl (Nat.le_of_ble_eq_true rfl) (by decide +kernel))
theorem dl_321 : decode code 321 = .ok (.goto 1038, 3) := dc_167 (a := 4) (b := 14) (dcc (r := 1) lq_5 rfl (Nat.le_of_ble_eq_true rfl) (by decide +kernel)) rfl
theorem dl_324 : decode code 324 = .ok (.aload_n 1, 1) := dc_43 (dcc (r := 4) lq_5 rfl (Nat.le_of_ble_eq_true rfl) (by decide +kernel))
theorem dl_325 : decode code 325 = .ok (.aload_n 0, 1) := dc_42 (dcc (r := 5) lq_5 rfl (Nat.le_of_ble_eq_true rfl) (by decide +kernel))
theorem dl_326 : decode code 326 = .ok (.iload_n 3, 1) := dc_29 (dcc (r := 6) lq_5 rfl (Nat.le_of_ble_eq_true rfl) (by decide +kernel))
theorem dl_327 : decode code 327 = .ok (.iconst 1, 1) := dc_4 (dcc (r := 7) lq_5 rfl (Nat.le_of_ble_eq_true rfl) (by decide +kernel))
theorem dl_328 : decode code 328 = .ok (.iadd, 1) := dc_96 (dcc (r := 8) lq_5 rfl (Nat.le_of_ble_eq_true rfl) (by decide +kernel))
theorem dl_329 : decode code 329 = .ok (.iaload, 1) := dc_46 (dcc (r := 9) lq_5 rfl (Nat.le_of_ble_eq_true rfl) (by decide +kernel))
theorem dl_330 : decode code 330 = .ok (.invokevirtual 40, 3) := dc_182 (a := 0) (b := 40) (dcc (r := 10) lq_5 rfl (Nat.le_of_ble_eq_true rfl) (by decide +kernel)) rfl
theorem dl_333 : decode code 333 = .ok (.pop, 1) := dc_87 (dcc (r := 13) lq_5 rfl (Nat.le_of_ble_eq_true rfl) (by decide +kernel))
theorem dl_334 : decode code 334 = .ok (.aload_n 2, 1) := dc_44 (dcc (r := 14) lq_5 rfl (Nat.le_of_ble_eq_true rfl) (by decide +kernel))
theorem dl_335 : decode code 335 = .ok (.aload_n 0, 1) := dc_42 (dcc (r := 15) lq_5 rfl (Nat.le_of_ble_eq_true rfl) (by decide +kernel))
theorem dl_336 : decode code 336 = .ok (.iload_n 3, 1) := dc_29 (dcc (r := 16) lq_5 rfl (Nat.le_of_ble_eq_true rfl) (by decide +kernel))
theorem dl_337 : decode code 337 = .ok (.iconst 1, 1) := dc_4 (dcc (r := 17) lq_5 rfl (Nat.le_of_ble_eq_true rfl) (by decide +kernel))
theorem dl_338 : decode code 338 = .ok (.iadd, 1) := dc_96 (dcc (r := 18) lq_5 rfl (Nat.le_of_ble_eq_true rfl) (by decide +kernel))
theorem dl_339 : decode code 339 = .ok (.iaload, 1) := dc_46 (dcc (r := 19) lq_5 rfl (Nat.le_of_ble_eq_true rfl) (by decide +kernel))
theorem dl_340 : decode code 340 = .ok (.invokevirtual 43, 3) := dc_182 (a := 0) (b := 43) (dcc (r := 20) lq_5 rfl (Nat.le_of_ble_eq_true rfl) (by decide +kernel)) rfl
theorem dl_343 : decode code 343 = .ok (.pop, 1) := dc_87 (dcc (r := 23) lq_5 rfl (Nat.le_of_ble_eq_true rfl) (by decide +kernel))
theorem dl_344 : decode code 344 = .ok (.goto 1015, 3) := dc_167 (a := 3) (b := 247) (dcc (r := 24) lq_5 rfl (Nat.le_of_ble_eq_true rfl) (by decide +kernel)) rfl
theorem dl_347 : decode code 347 = .ok (.aload_n 1, 1) := dc_43 (dcc (r := 27) lq_5 rfl (Nat.le_of_ble_eq_true rfl) (by decide +kernel))
theorem dl_348 : decode code 348 = .ok (.aload_n 0, 1) := dc_42 (dcc (r := 28) lq_5 rfl (Nat.le_of_ble_eq_true rfl) (by decide +kernel))
theorem dl_349 : decode code 349 = .ok (.iload_n 3, 1) := dc_29 (dcc (r := 29) lq_5 rfl (Nat.le_of_ble_eq_true rfl) (by decide +kernel))
theorem dl_350 : decode code 350 = .ok (.iconst 1, 1) := dc_4 (dcc (r := 30) lq_5 rfl (Nat.le_of_ble_eq_true rfl) (by decide +kernel))
theorem dl_351 : decode code 351 = .ok (.iadd, 1) := dc_96 (dcc (r := 31) lq_5 rfl (Nat.le_of_ble_eq_true rfl) (by decide +kernel))
theorem dl_352 : decode code 352 = .ok (.iaload, 1) := dc_46 (dcc (r := 32) lq_5 rfl (Nat.le_of_ble_eq_true rfl) (by decide +kernel))
theorem dl_353 : decode code 353 = .ok (.aload_n 0, 1) := dc_42 (dcc (r := 33) lq_5 rfl (Nat.le_of_ble_eq_true rfl) (by decide +kernel))
theorem dl_354 : decode code 354 = .ok (.iload_n 3, 1) := dc_29 (dcc (r := 34) lq_5 rfl (Nat.le_of_ble_eq_true rfl) (by decide +kernel))
theorem dl_355 : decode code 355 = .ok (.iconst 2, 1) := dc_5 (dcc (r := 35) lq_5 rfl (Nat.le_of_ble_eq_true rfl) (by decide +kernel))
theorem dl_356 : decode code 356 = .ok (.iadd, 1) := dc_96 (dcc (r := 36) lq_5 rfl (Nat.le_of_ble_eq_true rfl) (by decide +kernel))
theorem dl_357 : decode code 357 = .ok (.iaload, 1) := dc_46 (dcc (r := 37) lq_5 rfl (Nat.le_of_ble_eq_true rfl) (by decide +kernel))
theorem dl_358 : decode code 358 = .ok (.invokevirtual 44, 3) := dc_182 (a := 0) (b := 44) (dcc (r := 38) lq_5 rfl (Nat.le_of_ble_eq_true rfl) (by decide +kernel)) rfl
theorem dl_361 : decode code 361 = .ok (.aload_n 2, 1) := dc_44 (dcc (r := 41) lq_5 rfl (Nat.le_of_ble_eq_true rfl) (by decide +kernel))
theorem dl_362 : decode code 362 = .ok (.aload_n 0, 1) := dc_42 (dcc (r := 42) lq_5 rfl (Nat.le_of_ble_eq_true rfl) (by decide +kernel))
theorem dl_363 : decode code 363 = .ok (.iload_n 3, 1) := dc_29 (dcc (r := 43) lq_5 rfl (Nat.le_of_ble_eq_true rfl) (by decide +kernel))
theorem dl_364 : decode code 364 = .ok (.iconst 1, 1) := dc_4 (dcc (r := 44) lq_5 rfl (Nat.le_of_ble_eq_true rfl) (by decide +kernel))
theorem dl_365 : decode code 365 = .ok (.iadd, 1) := dc_96 (dcc (r := 45) lq_5 rfl (Nat.le_of_ble_eq_true rfl) (by decide +kernel))
theorem dl_366 : decode code 366 = .ok (.iaload, 1) := dc_46 (dcc (r := 46) lq_5 rfl (Nat.le_of_ble_eq_true rfl) (by decide +kernel))
theorem dl_367 : decode code 367 = .ok (.aload_n 0, 1) := dc_42 (dcc (r := 47) lq_5 rfl (Nat.le_of_ble_eq_true rfl) (by decide +kernel))
theorem dl_368 : decode code 368 = .ok (.iload_n 3, 1) := dc_29 (dcc (r := 48) lq_5 rfl (Nat.le_of_ble_eq_true rfl) (by decide +kernel))
theorem dl_369 : decode code 369 = .ok (.iconst 2, 1) := dc_5 (dcc (r := 49) lq_5 rfl (Nat.le_of_ble_eq_true rfl) (by decide +kernel))
theorem dl_370 : decode code 370 = .ok (.iadd, 1) := dc_96 (dcc (r := 50) lq_5 rfl (Nat.le_of_ble_eq_true rfl) (by decide +kernel))
theorem dl_371 : decode code 371 = .ok (.iaload, 1) := dc_46 (dcc (r := 51) lq_5 rfl (Nat.le_of_ble_eq_true rfl) (by decide +kernel))
theorem dl_372 : decode code 372 = .ok (.invokevirtual 47, 3) := dc_182 (a := 0) (b := 47) (dcc (r := 52) lq_5 rfl (Nat.le_of_ble_eq_true rfl) (by decide +kernel)) rfl
theorem dl_375 : decode code 375 = .ok (.if_icmp .eq 984, 3) := dc_159 (a := 3) (b := 216) (dcc (r := 55) lq_5 rfl (Nat.le_of_ble_eq_true rfl) (by decide +kernel)) rfl
theorem dl_380 : decode code 380 = .ok (.aload_n 1, 1) := dc_43 (dcc (r := 60) lq_5 rfl (Nat.le_of_ble_eq_true rfl) (by decide +kernel))
theorem dl_381 : decode code 381 = .ok (.aload_n 0, 1) := dc_42 (dcc (r := 61) lq_5 rfl (Nat.le_of_ble_eq_true rfl) (by decide +kernel))
theorem dl_382 : decode code 382 = .ok (.iload_n 3, 1) := dc_29 (dcc (r := 62) lq_5 rfl (Nat.le_of_ble_eq_true rfl) (by decide +kernel))
theorem dl_383 : decode code 383 = .ok (.iconst 1, 1) := dc_4 (dcc (r := 63) lq_5 rfl (Nat.le_of_ble_eq_true rfl) (by decide +kernel))
theorem dl_384 : decode code 384 = .ok (.iadd, 1) := dc_96 (dcc (r := 0) lq_6 rfl (Nat.le_of_ble_eq_true rfl) (by decide +kernel))
theorem dl_385 : decode code 385 = .ok (.iaload, 1) := dc_46 (dcc (r := 1) lq_6 rfl (Nat.le_of_ble_eq_true rfl) (by decide +kernel))
theorem dl_386 : decode code 386 = .ok (.aload_n 0, 1) := dc_42 (dcc (r := 2) lq_6 rfl (Nat.le_of_ble_eq_true rfl) (by decide +kernel))
theorem dl_387 : decode code 387 = .ok (.iload_n 3, 1) := dc_29 (dcc (r := 3) lq_6 rfl (Nat.le_of_ble_eq_true rfl) (by decide +kernel))
theorem dl_388 : decode code 388 = .ok (.iconst 2, 1) := dc_5 (dcc (r := 4) lq_6 rfl (Nat.le_of_ble_eq_true rfl) (by decide +kernel))
theorem dl_389 : decode code 389 = .ok (.iadd, 1) := dc_96 (dcc (r := 5) lq_6 rfl (Nat.le_of_ble_eq_true rfl) (by decide +kernel))
theorem dl_390 : decode code 390 = .ok (.iaload, 1) := dc_46 (dcc (r := 6) lq_6 rfl (Nat.le_of_ble_eq_true rfl) (by decide +kernel))
theorem dl_391 : decode code 391 = .ok (.ifCond .eq 7, 3) := dc_153 (a := 0) (b := 7) (dcc (r := 7) lq_6 rfl (Nat.le_of_ble_eq_true rfl) (by decide +kernel)) rfl
theorem dl_394 : decode code 394 = .ok (.iconst 1, 1) := dc_4 (dcc (r := 10) lq_6 rfl (Nat.le_of_ble_eq_true rfl) (by decide +kernel))
theorem dl_395 : decode code 395 = .ok (.goto 4, 3) := dc_167 (a := 0) (b := 4) (dcc (r := 11) lq_6 rfl (Nat.le_of_ble_eq_true rfl) (by decide +kernel)) rfl
theorem dl_398 : decode code 398 = .ok (.iconst 0, 1) := dc_3 (dcc (r := 14) lq_6 rfl (Nat.le_of_ble_eq_true rfl) (by decide +kernel))
theorem dl_399 : decode code 399 = .ok (.invokevirtual 48, 3) := dc_182 (a := 0) (b := 48) (dcc (r := 15) lq_6 rfl (Nat.le_of_ble_eq_true rfl) (by decide +kernel)) rfl
theorem dl_402 : decode code 402 = .ok (.pop, 1) := dc_87 (dcc (r := 18) lq_6 rfl (Nat.le_of_ble_eq_true rfl) (by decide +kernel))
theorem dl_403 : decode code 403 = .ok (.aload_n 2, 1) := dc_44 (dcc (r := 19) lq_6 rfl (Nat.le_of_ble_eq_true rfl) (by decide +kernel))
theorem dl_404 : decode code 404 = .ok (.aload_n 0, 1) := dc_42 (dcc (r := 20) lq_6 rfl (Nat.le_of_ble_eq_true rfl) (by decide +kernel))
theorem dl_405 : decode code 405 = .ok (.iload_n 3, 1) := dc_29 (dcc (r := 21) lq_6 rfl (Nat.le_of_ble_eq_true rfl) (by decide +kernel))
theorem dl_406 : decode code 406 = .ok (.iconst 1, 1) := dc_4 (dcc (r := 22) lq_6 rfl (Nat.le_of_ble_eq_true rfl) (by decide +kernel))
theorem dl_407 : decode code 407 = .ok (.iadd, 1) := dc_96 (dcc (r := 23) lq_6 rfl (Nat.le_of_ble_eq_true rfl) (by decide +kernel))
theorem dl_408 : decode code 408 = .ok (.iaload, 1) := dc_46 (dcc (r := 24) lq_6 rfl (Nat.le_of_ble_eq_true rfl) (by decide +kernel))
theorem dl_409 : decode code 409 = .ok (.aload_n 0, 1) := dc_42 (dcc (r := 25) lq_6 rfl (Nat.le_of_ble_eq_true rfl) (by decide +kernel))
theorem dl_410 : decode code 410 = .ok (.iload_n 3, 1) := dc_29 (dcc (r := 26) lq_6 rfl (Nat.le_of_ble_eq_true rfl) (by decide +kernel))
theorem dl_411 : decode code 411 = .ok (.iconst 2, 1) := dc_5 (dcc (r := 27) lq_6 rfl (Nat.le_of_ble_eq_true rfl) (by decide +kernel))
theorem dl_412 : decode code 412 = .ok (.iadd, 1) := dc_96 (dcc (r := 28) lq_6 rfl (Nat.le_of_ble_eq_true rfl) (by decide +kernel))
theorem dl_413 : decode code 413 = .ok (.iaload, 1) := dc_46 (dcc (r := 29) lq_6 rfl (Nat.le_of_ble_eq_true rfl) (by decide +kernel))
theorem dl_414 : decode code 414 = .ok (.ifCond .eq 7, 3) := dc_153 (a := 0) (b := 7) (dcc (r := 30) lq_6 rfl (Nat.le_of_ble_eq_true rfl) (by decide +kernel)) rfl
theorem dl_417 : decode code 417 = .ok (.iconst 1, 1) := dc_4 (dcc (r := 33) lq_6 rfl (Nat.le_of_ble_eq_true rfl) (by decide +kernel))
theorem dl_418 : decode code 418 = .ok (.goto 4, 3) := dc_167 (a := 0) (b := 4) (dcc (r := 34) lq_6 rfl (Nat.le_of_ble_eq_true rfl) (by decide +kernel)) rfl
theorem dl_421 : decode code 421 = .ok (.iconst 0, 1) := dc_3 (dcc (r := 37) lq_6 rfl (Nat.le_of_ble_eq_true rfl) (by decide +kernel))
theorem dl_422 : decode code 422 = .ok (.invokevirtual 52, 3) := dc_182 (a := 0) (b := 52) (dcc (r := 38) lq_6 rfl (Nat.le_of_ble_eq_true rfl) (by decide +kernel)) rfl
theorem dl_425 : decode code 425 = .ok (.pop, 1) := dc_87 (dcc (r := 41) lq_6 rfl (Nat.le_of_ble_eq_true rfl) (by decide +kernel))
theorem dl_426 : decode code 426 = .ok (.goto 933, 3) := dc_167 (a := 3) (b := 165) (dcc (r := 42) lq_6 rfl (Nat.le_of_ble_eq_true rfl) (by decide +kernel)) rfl
theorem dl_429 : decode code 429 = .ok (.aload_n 1, 1) := dc_43 (dcc (r := 45) lq_6 rfl (Nat.le_of_ble_eq_true rfl) (by decide +kernel))
theorem dl_430 : decode code 430 = .ok (.aload_n 0, 1) := dc_42 (dcc (r := 46) lq_6 rfl (Nat.le_of_ble_eq_true rfl) (by decide +kernel))
theorem dl_431 : decode code 431 = .ok (.iload_n 3, 1) := dc_29 (dcc (r := 47) lq_6 rfl (Nat.le_of_ble_eq_true rfl) (by decide +kernel))
theorem dl_432 : decode code 432 = .ok (.iconst 1, 1) := dc_4 (dcc (r := 48) lq_6 rfl (Nat.le_of_ble_eq_true rfl) (by decide +kernel))
theorem dl_433 : decode code 433 = .ok (.iadd, 1) := dc_96 (dcc (r := 49) lq_6 rfl (Nat.le_of_ble_eq_true rfl) (by decide +kernel))
theorem dl_434 : decode code 434 = .ok (.iaload, 1) := dc_46 (dcc (r := 50) lq_6 rfl (Nat.le_of_ble_eq_true rfl) (by decide +kernel))
theorem dl_435 : decode code 435 = .ok (.aload_n 0, 1) := dc_42 (dcc (r := 51) lq_6 rfl (Nat.le_of_ble_eq_true rfl) (by decide +kernel))
theorem dl_436 : decode code 436 = .ok (.iload_n 3, 1) := dc_29 (dcc (r := 52) lq_6 rfl (Nat.le_of_ble_eq_true rfl) (by decide +kernel))
theorem dl_437 : decode code 437 = .ok (.iconst 2, 1) := dc_5 (dcc (r := 53) lq_6 rfl (Nat.le_of_ble_eq_true rfl) (by decide +kernel))
theorem dl_438 : decode code 438 = .ok (.iadd, 1) := dc_96 (dcc (r := 54) lq_6 rfl (Nat.le_of_ble_eq_true rfl) (by decide +kernel))
theorem dl_439 : decode code 439 = .ok (.iaload, 1) := dc_46 (dcc (r := 55) lq_6 rfl (Nat.le_of_ble_eq_true rfl) (by decide +kernel))
theorem dl_440 : decode code 440 = .ok (.invokevirtual 53, 3) := dc_182 (a := 0) (b := 53) (dcc (r := 56) lq_6 rfl (Nat.le_of_ble_eq_true rfl) (by decide +kernel)) rfl
theorem dl_443 : decode code 443 = .ok (.pop, 1) := dc_87 (dcc (r := 59) lq_6 rfl (Nat.le_of_ble_eq_true rfl) (by decide +kernel))
theorem dl_444 : decode code 444 = .ok (.aload_n 2, 1) := dc_44 (dcc (r := 60) lq_6 rfl (Nat.le_of_ble_eq_true rfl) (by decide +kernel))
theorem dl_445 : decode code 445 = .ok (.aload_n 0, 1) := dc_42 (dcc (r := 61) lq_6 rfl (Nat.le_of_ble_eq_true rfl) (by decide +kernel))
theorem dl_446 : decode code 446 = .ok (.iload_n 3, 1) := dc_29 (dcc (r := 62) lq_6 rfl (Nat.le_of_ble_eq_true rfl) (by decide +kernel))
theorem dl_447 : decode code 447 = .ok (.iconst 1, 1) := dc_4 (dcc (r := 63) lq_6 rfl (Nat.le_of_ble_eq_true rfl) (by decide +kernel))
theorem dl_448 : decode code 448 = .ok (.iadd, 1) := dc_96 (dcc (r := 0) lq_7 rfl (Nat.le_of_ble_eq_true rfl) (by decide +kernel))
theorem dl_449 : decode code 449 = .ok (.iaload, 1) := dc_46 (dcc (r := 1) lq_7 rfl (Nat.le_of_ble_eq_true rfl) (by decide +kernel))
theorem dl_450 : decode code 450 = .ok (.aload_n 0, 1) := dc_42 (dcc (r := 2) lq_7 rfl (Nat.le_of_ble_eq_true rfl) (by decide +kernel))
theorem dl_451 : decode code 451 = .ok (.iload_n 3, 1) := dc_29 (dcc (r := 3) lq_7 rfl (Nat.le_of_ble_eq_true rfl) (by decide +kernel))
theorem dl_452 : decode code 452 = .ok (.iconst 2, 1) := dc_5 (dcc (r := 4) lq_7 rfl (Nat.le_of_ble_eq_true rfl) (by decide +kernel))
theorem dl_453 : decode code 453 = .ok (.iadd, 1) := dc_96 (dcc (r := 5) lq_7 rfl (Nat.le_of_ble_eq_true rfl) (by decide +kernel))
theorem dl_454 : decode code 454 = .ok (.iaload, 1) := dc_46 (dcc (r := 6) lq_7 rfl (Nat.le_of_ble_eq_true rfl) (by decide +kernel))
theorem dl_455 : decode code 455 = .ok (.invokevirtual 56, 3) := dc_182 (a := 0) (b := 56) (dcc (r := 7) lq_7 rfl (Nat.le_of_ble_eq_true rfl) (by decide +kernel)) rfl
theorem dl_458 : decode code 458 = .ok (.pop, 1) := dc_87 (dcc (r := 10) lq_7 rfl (Nat.le_of_ble_eq_true rfl) (by decide +kernel))
theorem dl_459 : decode code 459 = .ok (.goto 900, 3) := dc_167 (a := 3) (b := 132) (dcc (r := 11) lq_7 rfl (Nat.le_of_ble_eq_true rfl) (by decide +kernel)) rfl
theorem dl_462 : decode code 462 = .ok (.aload_n 1, 1) := dc_43 (dcc (r := 14) lq_7 rfl (Nat.le_of_ble_eq_true rfl) (by decide +kernel))
theorem dl_463 : decode code 463 = .ok (.aload_n 0, 1) := dc_42 (dcc (r := 15) lq_7 rfl (Nat.le_of_ble_eq_true rfl) (by decide +kernel))
theorem dl_464 : decode code 464 = .ok (.iload_n 3, 1) := dc_29 (dcc (r := 16) lq_7 rfl (Nat.le_of_ble_eq_true rfl) (by decide +kernel))
theorem dl_465 : decode code 465 = .ok (.iconst 1, 1) := dc_4 (dcc (r := 17) lq_7 rfl (Nat.le_of_ble_eq_true rfl) (by decide +kernel))
theorem dl_466 : decode code 466 = .ok (.iadd, 1) := dc_96 (dcc (r := 18) lq_7 rfl (Nat.le_of_ble_eq_true rfl) (by decide +kernel))
theorem dl_467 : decode code 467 = .ok (.iaload, 1) := dc_46 (dcc (r := 19) lq_7 rfl (Nat.le_of_ble_eq_true rfl) (by decide +kernel))
theorem dl_468 : decode code 468 = .ok (.aload_n 0, 1) := dc_42 (dcc (r := 20) lq_7 rfl (Nat.le_of_ble_eq_true rfl) (by decide +kernel))
theorem dl_469 : decode code 469 = .ok (.iload_n 3, 1) := dc_29 (dcc (r := 21) lq_7 rfl (Nat.le_of_ble_eq_true rfl) (by decide +kernel))
theorem dl_470 : decode code 470 = .ok (.iconst 2, 1) := dc_5 (dcc (r := 22) lq_7 rfl (Nat.le_of_ble_eq_true rfl) (by decide +kernel))
theorem dl_471 : decode code 471 = .ok (.iadd, 1) := dc_96 (dcc (r := 23) lq_7 rfl (Nat.le_of_ble_eq_true rfl) (by decide +kernel))
theorem dl_472 : decode code 472 = .ok (.iaload, 1) := dc_46 (dcc (r := 24) lq_7 rfl (Nat.le_of_ble_eq_true rfl) (by decide +kernel))
theorem dl_473 : decode code 473 = .ok (.invokevirtual 57, 3) := dc_182 (a := 0) (b := 57) (dcc (r := 25) lq_7 rfl (Nat.le_of_ble_eq_true rfl) (by decide +kernel)) rfl
theorem dl_476 : decode code 476 = .ok (.pop, 1) := dc_87 (dcc (r := 28) lq_7 rfl (Nat.le_of_ble_eq_true rfl) (by decide +kernel))
theorem dl_477 : decode code 477 = .ok (.aload_n 2, 1) := dc_44 (dcc (r := 29) lq_7 rfl (Nat.le_of_ble_eq_true rfl) (by decide +kernel))
theorem dl_478 : decode code 478 = .ok (.aload_n 0, 1) := dc_42 (dcc (r := 30) lq_7 rfl (Nat.le_of_ble_eq_true rfl) (by decide +kernel))
theorem dl_479 : decode code 479 = .ok (.iload_n 3, 1) := dc_29 (dcc (r := 31) lq_7 rfl (Nat.le_of_ble_eq_true rfl) (by decide +kernel))
theorem dl_480 : decode code 480 = .ok (.iconst 1, 1) := dc_4 (dcc (r := 32) lq_7 rfl (Nat.le_of_ble_eq_true rfl) (by decide +kernel))
theorem dl_481 : decode code 481 = .ok (.iadd, 1) := dc_96 (dcc (r := 33) lq_7 rfl (Nat.le_of_ble_eq_true rfl) (by decide +kernel))
theorem dl_482 : decode code 482 = .ok (.iaload, 1) := dc_46 (dcc (r := 34) lq_7 rfl (Nat.le_of_ble_eq_true rfl) (by decide +kernel))
theorem dl_483 : decode code 483 = .ok (.aload_n 0, 1) := dc_42 (dcc (r := 35) lq_7 rfl (Nat.le_of_ble_eq_true rfl) (by decide +kernel))
theorem dl_484 : decode code 484 = .ok (.iload_n 3, 1) := dc_29 (dcc (r := 36) lq_7 rfl (Nat.le_of_ble_eq_true rfl) (by decide +kernel))
theorem dl_485 : decode code 485 = .ok (.iconst 2, 1) := dc_5 (dcc (r := 37) lq_7 rfl (Nat.le_of_ble_eq_true rfl) (by decide +kernel))
theorem dl_486 : decode code 486 = .ok (.iadd, 1) := dc_96 (dcc (r := 38) lq_7 rfl (Nat.le_of_ble_eq_true rfl) (by decide +kernel))
theorem dl_487 : decode code 487 = .ok (.iaload, 1) := dc_46 (dcc (r := 39) lq_7 rfl (Nat.le_of_ble_eq_true rfl) (by decide +kernel))
theorem dl_488 : decode code 488 = .ok (.invokevirtual 60, 3) := dc_182 (a := 0) (b := 60) (dcc (r := 40) lq_7 rfl (Nat.le_of_ble_eq_true rfl) (by decide +kernel)) rfl
theorem dl_491 : decode code 491 = .ok (.pop, 1) := dc_87 (dcc (r := 43) lq_7 rfl (Nat.le_of_ble_eq_true rfl) (by decide +kernel))
theorem dl_492 : decode code 492 = .ok (.goto 867, 3) := dc_167 (a := 3) (b := 99) (dcc (r := 44) lq_7 rfl (Nat.le_of_ble_eq_true rfl) (by decide +kernel)) rfl
theorem dl_495 : decode code 495 = .ok (.aload_n 1, 1) := dc_43 (dcc (r := 47) lq_7 rfl (Nat.le_of_ble_eq_true rfl) (by decide +kernel))
theorem dl_496 : decode code 496 = .ok (.aload_n 0, 1) := dc_42 (dcc (r := 48) lq_7 rfl (Nat.le_of_ble_eq_true rfl) (by decide +kernel))
theorem dl_497 : decode code 497 = .ok (.iload_n 3, 1) := dc_29 (dcc (r := 49) lq_7 rfl (Nat.le_of_ble_eq_true rfl) (by decide +kernel))
theorem dl_498 : decode code 498 = .ok (.iconst 1, 1) := dc_4 (dcc (r := 50) lq_7 rfl (Nat.le_of_ble_eq_true rfl) (by decide +kernel))
theorem dl_499 : decode code 499 = .ok (.iadd, 1) := dc_96 (dcc (r := 51) lq_7 rfl (Nat.le_of_ble_eq_true rfl) (by decide +kernel))
theorem dl_500 : decode code 500 = .ok (.iaload, 1) := dc_46 (dcc (r := 52) lq_7 rfl (Nat.le_of_ble_eq_true rfl) (by decide +kernel))
theorem dl_501 : decode code 501 = .ok (.aload_n 0, 1) := dc_42 (dcc (r := 53) lq_7 rfl (Nat.le_of_ble_eq_true rfl) (by decide +kernel))
theorem dl_502 : decode code 502 = .ok (.iload_n 3, 1) := dc_29 (dcc (r := 54) lq_7 rfl (Nat.le_of_ble_eq_true rfl) (by decide +kernel))
theorem dl_503 : decode code 503 = .ok (.iconst 2, 1) := dc_5 (dcc (r := 55) lq_7 rfl (Nat.le_of_ble_eq_true rfl) (by decide +kernel))
theorem dl_504 : decode code 504 = .ok (.iadd, 1) := dc_96 (dcc (r := 56) lq_7 rfl (Nat.le_of_ble_eq_true rfl) (by decide +kernel))
theorem dl_505 : decode code 505 = .ok (.iaload, 1) := dc_46 (dcc (r := 57) lq_7 rfl (Nat.le_of_ble_eq_true rfl) (by decide +kernel))
theorem dl_506 : decode code 506 = .ok (.invokevirtual 61, 3) := dc_182 (a := 0) (b := 61) (dcc (r := 58) lq_7 rfl (Nat.le_of_ble_eq_true rfl) (by decide +kernel)) rfl
theorem dl_509 : decode code 509 = .ok (.pop, 1) := dc_87 (dcc (r := 61) lq_7 rfl (Nat.le_of_ble_eq_true rfl) (by decide +kernel))
theorem dl_510 : decode code 510 = .ok (.aload_n 2, 1) := dc_44 (dcc (r := 62) lq_7 rfl (Nat.le_of_ble_eq_true rfl) (by decide +kernel))
theorem dl_511 : decode code 511 = .ok (.aload_n 0, 1) := dc_42 (dcc (r := 63) lq_7 rfl (Nat.le_of_ble_eq_true rfl) (by decide +kernel))
theorem dl_512 : decode code 512 = .ok (.iload_n 3, 1) := dc_29 (dcc (r := 0) lq_8 rfl (Nat.le_of_ble_eq_true rfl) (by decide +kernel))
theorem dl_513 : decode code 513 = .ok (.iconst 1, 1) := dc_4 (dcc (r := 1) lq_8 rfl (Nat.le_of_ble_eq_true rfl) (by decide +kernel))
theorem dl_514 : decode code 514 = .ok (.iadd, 1) := dc_96 (dcc (r := 2) lq_8 rfl (Nat.le_of_ble_eq_true rfl) (by decide +kernel))
theorem dl_515 : decode code 515 = .ok (.iaload, 1) := dc_46 (dcc (r := 3) lq_8 rfl (Nat.le_of_ble_eq_true rfl) (by decide +kernel))
theorem dl_516 : decode code 516 = .ok (.aload_n 0, 1) := dc_42 (dcc (r := 4) lq_8 rfl (Nat.le_of_ble_eq_true rfl) (by decide +kernel))
theorem dl_517 : decode code 517 = .ok (.iload_n 3, 1) := dc_29 (dcc (r := 5) lq_8 rfl (Nat.le_of_ble_eq_true rfl) (by decide +kernel))
theorem dl_518 : decode code 518 = .ok (.iconst 2, 1) := dc_5 (dcc (r := 6) lq_8 rfl (Nat.le_of_ble_eq_true rfl) (by decide +kernel))
theorem dl_519 : decode code 519 = .ok (.iadd, 1) := dc_96 (dcc (r := 7) lq_8 rfl (Nat.le_of_ble_eq_true rfl) (by decide +kernel))
theorem dl_520 : decode code 520 = .ok (.iaload, 1) := dc_46 (dcc (r := 8) lq_8 rfl (Nat.le_of_ble_eq_true rfl) (by decide +kernel))
theorem dl_521 : decode code 521 = .ok (.invokevirtual 64, 3) := dc_182 (a := 0) (b := 64) (dcc (r := 9) lq_8 rfl (Nat.le_of_ble_eq_true rfl) (by decide +kernel)) rfl
theorem dl_524 : decode code 524 = .ok (.pop, 1) := dc_87 (dcc (r := 12) lq_8 rfl (Nat.le_of_ble_eq_true rfl) (by decide +kernel))
theorem dl_525 : decode code 525 = .ok (.goto 834, 3) := dc_167 (a := 3) (b := 66) (dcc (r := 13) lq_8 rfl (Nat.le_of_ble_eq_true rfl) (by decide +kernel)) rfl
theorem dl_528 : decode code 528 = .ok (.aload_n 1, 1) := dc_43 (dcc (r := 16) lq_8 rfl (Nat.le_of_ble_eq_true rfl) (by decide +kernel))
theorem dl_529 : decode code 529 = .ok (.aload_n 0, 1) := dc_42 (dcc (r := 17) lq_8 rfl (Nat.le_of_ble_eq_true rfl) (by decide +kernel))
theorem dl_530 : decode code 530 = .ok (.iload_n 3, 1) := dc_29 (dcc (r := 18) lq_8 rfl (Nat.le_of_ble_eq_true rfl) (by decide +kernel))
theorem dl_531 : decode code 531 = .ok (.iconst 1, 1) := dc_4 (dcc (r := 19) lq_8 rfl (Nat.le_of_ble_eq_true rfl) (by decide +kernel))
theorem dl_532 : decode code 532 = .ok (.iadd, 1) := dc_96 (dcc (r := 20) lq_8 rfl (Nat.le_of_ble_eq_true rfl) (by decide +kernel))
theorem dl_533 : decode code 533 = .ok (.iaload, 1) := dc_46 (dcc (r := 21) lq_8 rfl (Nat.le_of_ble_eq_true rfl) (by decide +kernel))
theorem dl_534 : decode code 534 = .ok (.aload_n 0, 1) := dc_42 (dcc (r := 22) lq_8 rfl (Nat.le_of_ble_eq_true rfl) (by decide +kernel))
theorem dl_535 : decode code 535 = .ok (.iload_n 3, 1) := dc_29 (dcc (r := 23) lq_8 rfl (Nat.le_of_ble_eq_true rfl) (by decide +kernel))
theorem dl_536 : decode code 536 = .ok (.iconst 2, 1) := dc_5 (dcc (r := 24) lq_8 rfl (Nat.le_of_ble_eq_true rfl) (by decide +kernel))
theorem dl_537 : decode code 537 = .ok (.iadd, 1) := dc_96 (dcc (r := 25) lq_8 rfl (Nat.le_of_ble_eq_true rfl) (by decide +kernel))
theorem dl_538 : decode code 538 = .ok (.iaload, 1) := dc_46 (dcc (r := 26) lq_8 rfl (Nat.le_of_ble_eq_true rfl) (by decide +kernel))
theorem dl_539 : decode code 539 = .ok (.invokevirtual 65, 3) := dc_182 (a := 0) (b := 65) (dcc (r := 27) lq_8 rfl (Nat.le_of_ble_eq_true rfl) (by decide +kernel)) rfl
theorem dl_542 : decode code 542 = .ok (.pop, 1) := dc_87 (dcc (r := 30) lq_8 rfl (Nat.le_of_ble_eq_true rfl) (by decide +kernel))
theorem dl_543 : decode code 543 = .ok (.aload_n 2, 1) := dc_44 (dcc (r := 31) lq_8 rfl (Nat.le_of_ble_eq_true rfl) (by decide +kernel))
theorem dl_544 : decode code 544 = .ok (.aload_n 0, 1) := dc_42 (dcc (r := 32) lq_8 rfl (Nat.le_of_ble_eq_true rfl) (by decide +kernel))
theorem dl_545 : decode code 545 = .ok (.iload_n 3, 1) := dc_29 (dcc (r := 33) lq_8 rfl (Nat.le_of_ble_eq_true rfl) (by decide +kernel))
theorem dl_546 : decode code 546 = .ok (.iconst 1, 1) := dc_4 (dcc (r := 34) lq_8 rfl (Nat.le_of_ble_eq_true rfl) (by decide +kernel))
theorem dl_547 : decode code 547 = .ok (.iadd, 1) := dc_96 (dcc (r := 35) lq_8 rfl (Nat.le_of_ble_eq_true rfl) (by decide +kernel))
theorem dl_548 : decode code 548 = .ok (.iaload, 1) := dc_46 (dcc (r := 36) lq_8 rfl (Nat.le_of_ble_eq_true rfl) (by decide +kernel))
theorem dl_549 : decode code 549 = .ok (.aload_n 0, 1) := dc_42 (dcc (r := 37) lq_8 rfl (Nat.le_of_ble_eq_true rfl) (by decide +kernel))
theorem dl_550 : decode code 550 = .ok (.iload_n 3, 1) := dc_29 (dcc (r := 38) lq_8 rfl (Nat.le_of_ble_eq_true rfl) (by decide +kernel))
theorem dl_551 : decode code 551 = .ok (.iconst 2, 1) := dc_5 (dcc (r := 39) lq_8 rfl (Nat.le_of_ble_eq_true rfl) (by decide +kernel))
theorem dl_552 : decode code 552 = .ok (.iadd, 1) := dc_96 (dcc (r := 40) lq_8 rfl (Nat.le_of_ble_eq_true rfl) (by decide +kernel))
theorem dl_553 : decode code 553 = .ok (.iaload, 1) := dc_46 (dcc (r := 41) lq_8 rfl (Nat.le_of_ble_eq_true rfl) (by decide +kernel))
theorem dl_554 : decode code 554 = .ok (.invokevirtual 68, 3) := dc_182 (a := 0) (b := 68) (dcc (r := 42) lq_8 rfl (Nat.le_of_ble_eq_true rfl) (by decide +kernel)) rfl
theorem dl_557 : decode code 557 = .ok (.pop, 1) := dc_87 (dcc (r := 45) lq_8 rfl (Nat.le_of_ble_eq_true rfl) (by decide +kernel))
theorem dl_558 : decode code 558 = .ok (.goto 801, 3) := dc_167 (a := 3) (b := 33) (dcc (r := 46) lq_8 rfl (Nat.le_of_ble_eq_true rfl) (by decide +kernel)) rfl
theorem dl_561 : decode code 561 = .ok (.aload_n 1, 1) := dc_43 (dcc (r := 49) lq_8 rfl (Nat.le_of_ble_eq_true rfl) (by decide +kernel))
theorem dl_562 : decode code 562 = .ok (.aload_n 0, 1) := dc_42 (dcc (r := 50) lq_8 rfl (Nat.le_of_ble_eq_true rfl) (by decide +kernel))
theorem dl_563 : decode code 563 = .ok (.iload_n 3, 1) := dc_29 (dcc (r := 51) lq_8 rfl (Nat.le_of_ble_eq_true rfl) (by decide +kernel))
theorem dl_564 : decode code 564 = .ok (.iconst 1, 1) := dc_4 (dcc (r := 52) lq_8 rfl (Nat.le_of_ble_eq_true rfl) (by decide +kernel))
theorem dl_565 : decode code 565 = .ok (.iadd, 1) := dc_96 (dcc (r := 53) lq_8 rfl (Nat.le_of_ble_eq_true rfl) (by decide +kernel))
theorem dl_566 : decode code 566 = .ok (.iaload, 1) := dc_46 (dcc (r := 54) lq_8 rfl (Nat.le_of_ble_eq_true rfl) (by decide +kernel))
theorem dl_567 : decode code 567 = .ok (.aload_n 0, 1) := dc_42 (dcc (r := 55) lq_8 rfl (Nat.le_of_ble_eq_true rfl) (by decide +kernel))
theorem dl_568 : decode code 568 = .ok (.iload_n 3, 1) := dc_29 (dcc (r := 56) lq_8 rfl (Nat.le_of_ble_eq_true rfl) (by decide +kernel))
theorem dl_569 : decode code 569 = .ok (.iconst 2, 1) := dc_5 (dcc (r := 57) lq_8 rfl (Nat.le_of_ble_eq_true rfl) (by decide +kernel))
theorem dl_570 : decode code 570 = .ok (.iadd, 1) := dc_96 (dcc (r := 58) lq_8 rfl (Nat.le_of_ble_eq_true rfl) (by decide +kernel))
theorem dl_571 : decode code 571 = .ok (.iaload, 1) := dc_46 (dcc (r := 59) lq_8 rfl (Nat.le_of_ble_eq_true rfl) (by decide +kernel))
theorem dl_572 : decode code 572 = .ok (.aload_n 0, 1) := dc_42 (dcc (r := 60) lq_8 rfl (Nat.le_of_ble_eq_true rfl) (by decide +kernel))
theorem dl_573 : decode code 573 = .ok (.iload_n 3, 1) := dc_29 (dcc (r := 61) lq_8 rfl (Nat.le_of_ble_eq_true rfl) (by decide +kernel))
theorem dl_574 : decode code 574 = .ok (.iconst 3, 1) := dc_6 (dcc (r := 62) lq_8 rfl (Nat.le_of_ble_eq_true rfl) (by decide +kernel))
theorem dl_575 : decode code 575 = .ok (.iadd, 1) := dc_96 (dcc (r := 63) lq_8 rfl (Nat.le_of_ble_eq_true rfl) (by decide +kernel))
theorem dl_576 : decode code 576 = .ok (.iaload, 1) := dc_46 (dcc (r := 0) lq_9 rfl (Nat.le_of_ble_eq_true rfl) (by decide +kernel))
theorem dl_577 : decode code 577 = .ok (.invokevirtual 69, 3) := dc_182 (a := 0) (b := 69) (dcc (r := 1) lq_9 rfl (Nat.le_of_ble_eq_true rfl) (by decide +kernel)) rfl
theorem dl_580 : decode code 580 = .ok (.pop, 1) := dc_87 (dcc (r := 4) lq_9 rfl (Nat.le_of_ble_eq_true rfl) (by decide +kernel))
theorem dl_581 : decode code 581 = .ok (.aload_n 2, 1) := dc_44 (dcc (r := 5) lq_9 rfl (Nat.le_of_ble_eq_true rfl) (by decide +kernel))
theorem dl_582 : decode code 582 = .ok (.aload_n 0, 1) := dc_42 (dcc (r := 6) lq_9 rfl (Nat.le_of_ble_eq_true rfl) (by decide +kernel))
theorem dl_583 : decode code 583 = .ok (.iload_n 3, 1) := dc_29 (dcc (r := 7) lq_9 rfl (Nat.le_of_ble_eq_true rfl) (by decide +kernel))
theorem dl_584 : decode code 584 = .ok (.iconst 1, 1) := dc_4 (dcc (r := 8) lq_9 rfl (Nat.le_of_ble_eq_true rfl) (by decide +kernel))
theorem dl_585 : decode code 585 = .ok (.iadd, 1) := dc_96 (dcc (r := 9) lq_9 rfl (Nat.le_of_ble_eq_true rfl) (by decide +kernel))
theorem dl_586 : decode code 586 = .ok (.iaload, 1) := dc_46 (dcc (r := 10) lq_9 rfl (Nat.le_of_ble_eq_true rfl) (by decide +kernel))
theorem dl_587 : decode code 587 = .ok (.aload_n 0, 1) := dc_42 (dcc (r := 11) lq_9 rfl (Nat.le_of_ble_eq_true rfl) (by decide +kernel))
theorem dl_588 : decode code 588 = .ok (.iload_n 3, 1) := dc_29 (dcc (r := 12) lq_9 rfl (Nat.le_of_ble_eq_true rfl) (by decide +kernel))
theorem dl_589 : decode code 589 = .ok (.iconst 2, 1) := dc_5 (dcc (r := 13) lq_9 rfl (Nat.le_of_ble_eq_true rfl) (by decide +kernel))
theorem dl_590 : decode code 590 = .ok (.iadd, 1) := dc_96 (dcc (r := 14) lq_9 rfl (Nat.le_of_ble_eq_true rfl) (by decide +kernel))
theorem dl_591 : decode code 591 = .ok (.iaload, 1) := dc_46 (dcc (r := 15) lq_9 rfl (Nat.le_of_ble_eq_true rfl) (by decide +kernel))
theorem dl_592 : decode code 592 = .ok (.aload_n 0, 1) := dc_42 (dcc (r := 16) lq_9 rfl (Nat.le_of_ble_eq_true rfl) (by decide +kernel))
theorem dl_593 : decode code 593 = .ok (.iload_n 3, 1) := dc_29 (dcc (r := 17) lq_9 rfl (Nat.le_of_ble_eq_true rfl) (by decide +kernel))
theorem dl_594 : decode code 594 = .ok (.iconst 3, 1) := dc_6 (dcc (r := 18) lq_9 rfl (Nat.le_of_ble_eq_true rfl) (by decide +kernel))
theorem dl_595 : decode code 595 = .ok (.iadd, 1) := dc_96 (dcc (r := 19) lq_9 rfl (Nat.le_of_ble_eq_true rfl) (by decide +kernel))
theorem dl_596 : decode code 596 = .ok (.iaload, 1) := dc_46 (dcc (r := 20) lq_9 rfl (Nat.le_of_ble_eq_true rfl) (by decide +kernel))
theorem dl_597 : decode code 597 = .ok (.invokevirtual 73, 3) := dc_182 (a := 0) (b := 73) (dcc (r := 21) lq_9 rfl (Nat.le_of_ble_eq_true rfl) (by decide +kernel)) rfl
theorem dl_600 : decode code 600 = .ok (.pop, 1) := dc_87 (dcc (r := 24) lq_9 rfl (Nat.le_of_ble_eq_true rfl) (by decide +kernel))
theorem dl_601 : decode code 601 = .ok (.goto 758, 3) := dc_167 (a := 2) (b := 246) (dcc (r := 25) lq_9 rfl (Nat.le_of_ble_eq_true rfl) (by decide +kernel)) rfl
theorem dl_604 : decode code 604 = .ok (.aload_n 1, 1) := dc_43 (dcc (r := 28) lq_9 rfl (Nat.le_of_ble_eq_true rfl) (by decide +kernel))
theorem dl_605 : decode code 605 = .ok (.aload_n 0, 1) := dc_42 (dcc (r := 29) lq_9 rfl (Nat.le_of_ble_eq_true rfl) (by decide +kernel))
theorem dl_606 : decode code 606 = .ok (.iload_n 3, 1) := dc_29 (dcc (r := 30) lq_9 rfl (Nat.le_of_ble_eq_true rfl) (by decide +kernel))
theorem dl_607 : decode code 607 = .ok (.iconst 1, 1) := dc_4 (dcc (r := 31) lq_9 rfl (Nat.le_of_ble_eq_true rfl) (by decide +kernel))
theorem dl_608 : decode code 608 = .ok (.iadd, 1) := dc_96 (dcc (r := 32) lq_9 rfl (Nat.le_of_ble_eq_true rfl) (by decide +kernel))
theorem dl_609 : decode code 609 = .ok (.iaload, 1) := dc_46 (dcc (r := 33) lq_9 rfl (Nat.le_of_ble_eq_true rfl) (by decide +kernel))
theorem dl_610 : decode code 610 = .ok (.invokevirtual 74, 3) := dc_182 (a := 0) (b := 74) (dcc (r := 34) lq_9 rfl (Nat.le_of_ble_eq_true rfl) (by decide +kernel)) rfl
theorem dl_613 : decode code 613 = .ok (.pop, 1) := dc_87 (dcc (r := 37) lq_9 rfl (Nat.le_of_ble_eq_true rfl) (by decide +kernel))
theorem dl_614 : decode code 614 = .ok (.aload_n 2, 1) := dc_44 (dcc (r := 38) lq_9 rfl (Nat.le_of_ble_eq_true rfl) (by decide +kernel))
theorem dl_615 : decode code 615 = .ok (.aload_n 0, 1) := dc_42 (dcc (r := 39) lq_9 rfl (Nat.le_of_ble_eq_true rfl) (by decide +kernel))
theorem dl_616 : decode code 616 = .ok (.iload_n 3, 1) := dc_29 (dcc (r := 40) lq_9 rfl (Nat.le_of_ble_eq_true rfl) (by decide +kernel))
theorem dl_617 : decode code 617 = .ok (.iconst 1, 1) := dc_4 (dcc (r := 41) lq_9 rfl (Nat.le_of_ble_eq_true rfl) (by decide +kernel))
theorem dl_618 : decode code 618 = .ok (.iadd, 1) := dc_96 (dcc (r := 42) lq_9 rfl (Nat.le_of_ble_eq_true rfl) (by decide +kernel))
theorem dl_619 : decode code 619 = .ok (.iaload, 1) := dc_46 (dcc (r := 43) lq_9 rfl (Nat.le_of_ble_eq_true rfl) (by decide +kernel))
theorem dl_620 : decode code 620 = .ok (.invokevirtual 77, 3) := dc_182 (a := 0) (b := 77) (dcc (r := 44) lq_9 rfl (Nat.le_of_ble_eq_true rfl) (by decide +kernel)) rfl
theorem dl_623 : decode code 623 = .ok (.pop, 1) := dc_87 (dcc (r := 47) lq_9 rfl (Nat.le_of_ble_eq_true rfl) (by decide +kernel))
theorem dl_624 : decode code 624 = .ok (.goto 735, 3) := dc_167 (a := 2) (b := 223) (dcc (r := 48) lq_9 rfl (Nat.le_of_ble_eq_true rfl) (by decide +kernel)) rfl
theorem dl_627 : decode code 627 = .ok (.aload_n 1, 1) := dc_43 (dcc (r := 51) lq_9 rfl (Nat.le_of_ble_eq_true rfl) (by decide +kernel))
theorem dl_628 : decode code 628 = .ok (.aload_n 0, 1) := dc_42 (dcc (r := 52) lq_9 rfl (Nat.le_of_ble_eq_true rfl) (by decide +kernel))
theorem dl_629 : decode code 629 = .ok (.iload_n 3, 1) := dc_29 (dcc (r := 53) lq_9 rfl (Nat.le_of_ble_eq_true rfl) (by decide +kernel))
theorem dl_630 : decode code 630 = .ok (.iconst 1, 1) := dc_4 (dcc (r := 54) lq_9 rfl (Nat.le_of_ble_eq_true rfl) (by decide +kernel))
theorem dl_631 : decode code 631 = .ok (.iadd, 1) := dc_96 (dcc (r := 55) lq_9 rfl (Nat.le_of_ble_eq_true rfl) (by decide +kernel))
theorem dl_632 : decode code 632 = .ok (.iaload, 1) := dc_46 (dcc (r := 56) lq_9 rfl (Nat.le_of_ble_eq_true rfl) (by decide +kernel))
theorem dl_633 : decode code 633 = .ok (.invokevirtual 78, 3) := dc_182 (a := 0) (b := 78) (dcc (r := 57) lq_9 rfl (Nat.le_of_ble_eq_true rfl) (by decide +kernel)) rfl
theorem dl_636 : decode code 636 = .ok (.pop, 1) := dc_87 (dcc (r := 60) lq_9 rfl (Nat.le_of_ble_eq_true rfl) (by decide +kernel))
theorem dl_637 : decode code 637 = .ok (.aload_n 2, 1) := dc_44 (dcc (r := 61) lq_9 rfl (Nat.le_of_ble_eq_true rfl) (by decide +kernel))
theorem dl_638 : decode code 638 = .ok (.aload_n 0, 1) := dc_42 (dcc (r := 62) lq_9 rfl (Nat.le_of_ble_eq_true rfl) (by decide +kernel))
theorem dl_639 : decode code 639 = .ok (.iload_n 3, 1) := dc_29 (dcc (r := 63) lq_9 rfl (Nat.le_of_ble_eq_true rfl) (by decide +kernel))
theorem dl_640 : decode code 640 = .ok (.iconst 1, 1) := dc_4 (dcc (r := 0) lq_10 rfl (Nat.le_of_ble_eq_true rfl) (by decide +kernel))
theorem dl_641 : decode code 641 = .ok (.iadd, 1) := dc_96 (dcc (r := 1) lq_10 rfl (Nat.le_of_ble_eq_true rfl) (by decide +kernel))
theorem dl_642 : decode code 642 = .ok (.iaload, 1) := dc_46 (dcc (r := 2) lq_10 rfl (Nat.le_of_ble_eq_true rfl) (by decide +kernel))
theorem dl_643 : decode code 643 = .ok (.invokevirtual 81, 3) := dc_182 (a := 0) (b := 81) (dcc (r := 3) lq_10 rfl (Nat.le_of_ble_eq_true rfl) (by decide +kernel)) rfl
theorem dl_646 : decode code 646 = .ok (.pop, 1) := dc_87 (dcc (r := 6) lq_10 rfl (Nat.le_of_ble_eq_true rfl) (by decide +kernel))
theorem dl_647 : decode code 647 = .ok (.goto 712, 3) := dc_167 (a := 2) (b := 200) (dcc (r := 7) lq_10 rfl (Nat.le_of_ble_eq_true rfl) (by decide +kernel)) rfl
theorem dl_650 : decode code 650 = .ok (.aload_n 1, 1) := dc_43 (dcc (r := 10) lq_10 rfl (Nat.le_of_ble_eq_true rfl) (by decide +kernel))
theorem dl_651 : decode code 651 = .ok (.aload_n 0, 1) := dc_42 (dcc (r := 11) lq_10 rfl (Nat.le_of_ble_eq_true rfl) (by decide +kernel))
theorem dl_652 : decode code 652 = .ok (.iload_n 3, 1) := dc_29 (dcc (r := 12) lq_10 rfl (Nat.le_of_ble_eq_true rfl) (by decide +kernel))
theorem dl_653 : decode code 653 = .ok (.iconst 1, 1) := dc_4 (dcc (r := 13) lq_10 rfl (Nat.le_of_ble_eq_true rfl) (by decide +kernel))
theorem dl_654 : decode code 654 = .ok (.iadd, 1) := dc_96 (dcc (r := 14) lq_10 rfl (Nat.le_of_ble_eq_true rfl) (by decide +kernel))
theorem dl_655 : decode code 655 = .ok (.iaload, 1) := dc_46 (dcc (r := 15) lq_10 rfl (Nat.le_of_ble_eq_true rfl) (by decide +kernel))
theorem dl_656 : decode code 656 = .ok (.aload_n 0, 1) := dc_42 (dcc (r := 16) lq_10 rfl (Nat.le_of_ble_eq_true rfl) (by decide +kernel))
theorem dl_657 : decode code 657 = .ok (.iload_n 3, 1) := dc_29 (dcc (r := 17) lq_10 rfl (Nat.le_of_ble_eq_true rfl) (by decide +kernel))
theorem dl_658 : decode code 658 = .ok (.iconst 2, 1) := dc_5 (dcc (r := 18) lq_10 rfl (Nat.le_of_ble_eq_true rfl) (by decide +kernel))
theorem dl_659 : decode code 659 = .ok (.iadd, 1) := dc_96 (dcc (r := 19) lq_10 rfl (Nat.le_of_ble_eq_true rfl) (by decide +kernel))
theorem dl_660 : decode code 660 = .ok (.iaload, 1) := dc_46 (dcc (r := 20) lq_10 rfl (Nat.le_of_ble_eq_true rfl) (by decide +kernel))
theorem dl_661 : decode code 661 = .ok (.aload_n 0, 1) := dc_42 (dcc (r := 21) lq_10 rfl (Nat.le_of_ble_eq_true rfl) (by decide +kernel))
theorem dl_662 : decode code 662 = .ok (.iload_n 3, 1) := dc_29 (dcc (r := 22) lq_10 rfl (Nat.le_of_ble_eq_true rfl) (by decide +kernel))
theorem dl_663 : decode code 663 = .ok (.iconst 3, 1) := dc_6 (dcc (r := 23) lq_10 rfl (Nat.le_of_ble_eq_true rfl) (by decide +kernel))
theorem dl_664 : decode code 664 = .ok (.iadd, 1) := dc_96 (dcc (r := 24) lq_10 rfl (Nat.le_of_ble_eq_true rfl) (by decide +kernel))
theorem dl_665 : decode code 665 = .ok (.iaload, 1) := dc_46 (dcc (r := 25) lq_10 rfl (Nat.le_of_ble_eq_true rfl) (by decide +kernel))
theorem dl_666 : decode code 666 = .ok (.invokevirtual 82, 3) := dc_182 (a := 0) (b := 82) (dcc (r := 26) lq_10 rfl (Nat.le_of_ble_eq_true rfl) (by decide +kernel)) rfl
theorem dl_669 : decode code 669 = .ok (.pop, 1) := dc_87 (dcc (r := 29) lq_10 rfl (Nat.le_of_ble_eq_true rfl) (by decide +kernel))
theorem dl_670 : decode code 670 = .ok (.aload_n 2, 1) := dc_44 (dcc (r := 30) lq_10 rfl (Nat.le_of_ble_eq_true rfl) (by decide +kernel))
theorem dl_671 : decode code 671 = .ok (.aload_n 0, 1) := dc_42 (dcc (r := 31) lq_10 rfl (Nat.le_of_ble_eq_true rfl) (by decide +kernel))
theorem dl_672 : decode code 672 = .ok (.iload_n 3, 1) := dc_29 (dcc (r := 32) lq_10 rfl (Nat.le_of_ble_eq_true rfl) (by decide +kernel))
theorem dl_673 : decode code 673 = .ok (.iconst 1, 1) := dc_4 (dcc (r := 33) lq_10 rfl (Nat.le_of_ble_eq_true rfl) (by decide +kernel))
theorem dl_674 : decode code 674 = .ok (.iadd, 1) := dc_96 (dcc (r := 34) lq_10 rfl (Nat.le_of_ble_eq_true rfl) (by decide +kernel))
theorem dl_675 : decode code 675 = .ok (.iaload, 1) := dc_46 (dcc (r := 35) lq_10 rfl (Nat.le_of_ble_eq_true rfl) (by decide +kernel))
theorem dl_676 : decode code 676 = .ok (.aload_n 0, 1) := dc_42 (dcc (r := 36) lq_10 rfl (Nat.le_of_ble_eq_true rfl) (by decide +kernel))
theorem dl_677 : decode code 677 = .ok (.iload_n 3, 1) := dc_29 (dcc (r := 37) lq_10 rfl (Nat.le_of_ble_eq_true rfl) (by decide +kernel))
theorem dl_678 : decode code 678 = .ok (.iconst 2, 1) := dc_5 (dcc (r := 38) lq_10 rfl (Nat.le_of_ble_eq_true rfl) (by decide +kernel))
theorem dl_679 : decode code 679 = .ok (.iadd, 1) := dc_96 (dcc (r := 39) lq_10 rfl (Nat.le_of_ble_eq_true rfl) (by decide +kernel))
theorem dl_680 : decode code 680 = .ok (.iaload, 1) := dc_46 (dcc (r := 40) lq_10 rfl (Nat.le_of_ble_eq_true rfl) (by decide +kernel))
theorem dl_681 : decode code 681 = .ok (.aload_n 0, 1) := dc_42 (dcc (r := 41) lq_10 rfl (Nat.le_of_ble_eq_true rfl) (by decide +kernel))
theorem dl_682 : decode code 682 = .ok (.iload_n 3, 1) := dc_29 (dcc (r := 42) lq_10 rfl (Nat.le_of_ble_eq_true rfl) (by decide +kernel))
theorem dl_683 : decode code 683 = .ok (.iconst 3, 1) := dc_6 (dcc (r := 43) lq_10 rfl (Nat.le_of_ble_eq_true rfl) (by decide +kernel))
theorem dl_684 : decode code 684 = .ok (.iadd, 1) := dc_96 (dcc (r := 44) lq_10 rfl (Nat.le_of_ble_eq_true rfl) (by decide +kernel))
theorem dl_685 : decode code 685 = .ok (.iaload, 1) := dc_46 (dcc (r := 45) lq_10 rfl (Nat.le_of_ble_eq_true rfl) (by decide +kernel))
theorem dl_686 : decode code 686 = .ok (.invokevirtual 85, 3) := dc_182 (a := 0) (b := 85) (dcc (r := 46) lq_10 rfl (Nat.le_of_ble_eq_true rfl) (by decide +kernel)) rfl
theorem dl_689 : decode code 689 = .ok (.pop, 1) := dc_87 (dcc (r := 49) lq_10 rfl (Nat.le_of_ble_eq_true rfl) (by decide +kernel))
theorem dl_690 : decode code 690 = .ok (.goto 669, 3) := dc_167 (a := 2) (b := 157) (dcc (r := 50) lq_10 rfl (Nat.le_of_ble_eq_true rfl) (by decide +kernel)) rfl
theorem dl_693 : decode code 693 = .ok (.aload_n 1, 1) := dc_43 (dcc (r := 53) lq_10 rfl (Nat.le_of_ble_eq_true rfl) (by decide +kernel))
theorem dl_694 : decode code 694 = .ok (.aload_n 0, 1) := dc_42 (dcc (r := 54) lq_10 rfl (Nat.le_of_ble_eq_true rfl) (by decide +kernel))
theorem dl_695 : decode code 695 = .ok (.iload_n 3, 1) := dc_29 (dcc (r := 55) lq_10 rfl (Nat.le_of_ble_eq_true rfl) (by decide +kernel))
theorem dl_696 : decode code 696 = .ok (.iconst 1, 1) := dc_4 (dcc (r := 56) lq_10 rfl (Nat.le_of_ble_eq_true rfl) (by decide +kernel))
theorem dl_697 : decode code 697 = .ok (.iadd, 1) := dc_96 (dcc (r := 57) lq_10 rfl (Nat.le_of_ble_eq_true rfl) (by decide +kernel))
theorem dl_698 : decode code 698 = .ok (.iaload, 1) := dc_46 (dcc (r := 58) lq_10 rfl (Nat.le_of_ble_eq_true rfl) (by decide +kernel))
theorem dl_699 : decode code 699 = .ok (.aload_n 0, 1) := dc_42 (dcc (r := 59) lq_10 rfl (Nat.le_of_ble_eq_true rfl) (by decide +kernel))
theorem dl_700 : decode code 700 = .ok (.iload_n 3, 1) := dc_29 (dcc (r := 60) lq_10 rfl (Nat.le_of_ble_eq_true rfl) (by decide +kernel))
theorem dl_701 : decode code 701 = .ok (.iconst 2, 1) := dc_5 (dcc (r := 61) lq_10 rfl (Nat.le_of_ble_eq_true rfl) (by decide +kernel))
theorem dl_702 : decode code 702 = .ok (.iadd, 1) := dc_96 (dcc (r := 62) lq_10 rfl (Nat.le_of_ble_eq_true rfl) (by decide +kernel))
theorem dl_703 : decode code 703 = .ok (.iaload, 1) := dc_46 (dcc (r := 63) lq_10 rfl (Nat.le_of_ble_eq_true rfl) (by decide +kernel))
theorem dl_704 : decode code 704 = .ok (.aload_n 0, 1) := dc_42 (dcc (r := 0) lq_11 rfl (Nat.le_of_ble_eq_true rfl) (by decide +kernel))
theorem dl_705 : decode code 705 = .ok (.iload_n 3, 1) := dc_29 (dcc (r := 1) lq_11 rfl (Nat.le_of_ble_eq_true rfl) (by decide +kernel))
theorem dl_706 : decode code 706 = .ok (.iconst 3, 1) := dc_6 (dcc (r := 2) lq_11 rfl (Nat.le_of_ble_eq_true rfl) (by decide +kernel))
theorem dl_707 : decode code 707 = .ok (.iadd, 1) := dc_96 (dcc (r := 3) lq_11 rfl (Nat.le_of_ble_eq_true rfl) (by decide +kernel))
theorem dl_708 : decode code 708 = .ok (.iaload, 1) := dc_46 (dcc (r := 4) lq_11 rfl (Nat.le_of_ble_eq_true rfl) (by decide +kernel))
theorem dl_709 : decode code 709 = .ok (.aload_n 0, 1) := dc_42 (dcc (r := 5) lq_11 rfl (Nat.le_of_ble_eq_true rfl) (by decide +kernel))
theorem dl_710 : decode code 710 = .ok (.iload_n 3, 1) := dc_29 (dcc (r := 6) lq_11 rfl (Nat.le_of_ble_eq_true rfl) (by decide +kernel))
theorem dl_711 : decode code 711 = .ok (.iconst 4, 1) := dc_7 (dcc (r := 7) lq_11 rfl (Nat.le_of_ble_eq_true rfl) (by decide +kernel))
theorem dl_712 : decode code 712 = .ok (.iadd, 1) := dc_96 (dcc (r := 8) lq_11 rfl (Nat.le_of_ble_eq_true rfl) (by decide +kernel))
theorem dl_713 : decode code 713 = .ok (.iaload, 1) := dc_46 (dcc (r := 9) lq_11 rfl (Nat.le_of_ble_eq_true rfl) (by decide +kernel))
theorem dl_714 : decode code 714 = .ok (.ifCond .eq 7, 3) := dc_153 (a := 0) (b := 7) (dcc (r := 10) lq_11 rfl (Nat.le_of_ble_eq_true rfl) (by decide +kernel)) rfl
theorem dl_717 : decode code 717 = .ok (.iconst 1, 1) := dc_4 (dcc (r := 13) lq_11 rfl (Nat.le_of_ble_eq_true rfl) (by decide +kernel))
theorem dl_718 : decode code 718 = .ok (.goto 4, 3) := dc_167 (a := 0) (b := 4) (dcc (r := 14) lq_11 rfl (Nat.le_of_ble_eq_true rfl) (by decide +kernel)) rfl
theorem dl_721 : decode code 721 = .ok (.iconst 0, 1) := dc_3 (dcc (r := 17) lq_11 rfl (Nat.le_of_ble_eq_true rfl) (by decide +kernel))
theorem dl_722 : decode code 722 = .ok (.invokevirtual 86, 3) := dc_182 (a := 0) (b := 86) (dcc (r := 18) lq_11 rfl (Nat.le_of_ble_eq_true rfl) (by decide +kernel)) rfl
theorem dl_725 : decode code 725 = .ok (.pop, 1) := dc_87 (dcc (r := 21) lq_11 rfl (Nat.le_of_ble_eq_true rfl) (by decide +kernel))
theorem dl_726 : decode code 726 = .ok (.aload_n 2, 1) := dc_44 (dcc (r := 22) lq_11 rfl (Nat.le_of_ble_eq_true rfl) (by decide +kernel))
theorem dl_727 : decode code 727 = .ok (.aload_n 0, 1) := dc_42 (dcc (r := 23) lq_11 rfl (Nat.le_of_ble_eq_true rfl) (by decide +kernel))
theorem dl_728 : decode code 728 = .ok (.iload_n 3, 1) := dc_29 (dcc (r := 24) lq_11 rfl (Nat.le_of_ble_eq_true rfl) (by decide +kernel))
theorem dl_729 : decode code 729 = .ok (.iconst 1, 1) := dc_4 (dcc (r := 25) lq_11 rfl (Nat.le_of_ble_eq_true rfl) (by decide +kernel))
theorem dl_730 : decode code 730 = .ok (.iadd, 1) := dc_96 (dcc (r := 26) lq_11 rfl (Nat.le_of_ble_eq_true rfl) (by decide +kernel))
theorem dl_731 : decode code 731 = .ok (.iaload, 1) := dc_46 (dcc (r := 27) lq_11 rfl (Nat.le_of_ble_eq_true rfl) (by decide +kernel))
theorem dl_732 : decode code 732 = .ok (.aload_n 0, 1) := dc_42 (dcc (r := 28) lq_11 rfl (Nat.le_of_ble_eq_true rfl) (by decide +kernel))
theorem dl_733 : decode code 733 = .ok (.iload_n 3, 1) := dc_29 (dcc (r := 29) lq_11 rfl (Nat.le_of_ble_eq_true rfl) (by decide +kernel))
theorem dl_734 : decode code 734 = .ok (.iconst 2, 1) := dc_5 (dcc (r := 30) lq_11 rfl (Nat.le_of_ble_eq_true rfl) (by decide +kernel))
theorem dl_735 : decode code 735 = .ok (.iadd, 1) := dc_96 (dcc (r := 31) lq_11 rfl (Nat.le_of_ble_eq_true rfl) (by decide +kernel))
theorem dl_736 : decode code 736 = .ok (.iaload, 1) := dc_46 (dcc (r := 32) lq_11 rfl (Nat.le_of_ble_eq_true rfl) (by decide +kernel))
theorem dl_737 : decode code 737 = .ok (.aload_n 0, 1) := dc_42 (dcc (r := 33) lq_11 rfl (Nat.le_of_ble_eq_true rfl) (by decide +kernel))
theorem dl_738 : decode code 738 = .ok (.iload_n 3, 1) := dc_29 (dcc (r := 34) lq_11 rfl (Nat.le_of_ble_eq_true rfl) (by decide +kernel))
theorem dl_739 : decode code 739 = .ok (.iconst 3, 1) := dc_6 (dcc (r := 35) lq_11 rfl (Nat.le_of_ble_eq_true rfl) (by decide +kernel))
theorem dl_740 : decode code 740 = .ok (.iadd, 1) := dc_96 (dcc (r := 36) lq_11 rfl (Nat.le_of_ble_eq_true rfl) (by decide +kernel))
theorem dl_741 : decode code 741 = .ok (.iaload, 1) := dc_46 (dcc (r := 37) lq_11 rfl (Nat.le_of_ble_eq_true rfl) (by decide +kernel))
theorem dl_742 : decode code 742 = .ok (.aload_n 0, 1) := dc_42 (dcc (r := 38) lq_11 rfl (Nat.le_of_ble_eq_true rfl) (by decide +kernel))
theorem dl_743 : decode code 743 = .ok (.iload_n 3, 1) := dc_29 (dcc (r := 39) lq_11 rfl (Nat.le_of_ble_eq_true rfl) (by decide +kernel))
theorem dl_744 : decode code 744 = .ok (.iconst 4, 1) := dc_7 (dcc (r := 40) lq_11 rfl (Nat.le_of_ble_eq_true rfl) (by decide +kernel))
theorem dl_745 : decode code 745 = .ok (.iadd, 1) := dc_96 (dcc (r := 41) lq_11 rfl (Nat.le_of_ble_eq_true rfl) (by decide +kernel))
theorem dl_746 : decode code 746 = .ok (.iaload, 1) := dc_46 (dcc (r := 42) lq_11 rfl (Nat.le_of_ble_eq_true rfl) (by decide +kernel))
theorem dl_747 : decode code 747 = .ok (.ifCond .eq 7, 3) := dc_153 (a := 0) (b := 7) (dcc (r := 43) lq_11 rfl (Nat.le_of_ble_eq_true rfl) (by decide +kernel)) rfl
theorem dl_750 : decode code 750 = .ok (.iconst 1, 1) := dc_4 (dcc (r := 46) lq_11 rfl (Nat.le_of_ble_eq_true rfl) (by decide +kernel))
theorem dl_751 : decode code 751 = .ok (.goto 4, 3) := dc_167 (a := 0) (b := 4) (dcc (r := 47) lq_11 rfl (Nat.le_of_ble_eq_true rfl) (by decide +kernel)) rfl
theorem dl_754 : decode code 754 = .ok (.iconst 0, 1) := dc_3 (dcc (r := 50) lq_11 rfl (Nat.le_of_ble_eq_true rfl) (by decide +kernel))
theorem dl_755 : decode code 755 = .ok (.invokevirtual 90, 3) := dc_182 (a := 0) (b := 90) (dcc (r := 51) lq_11 rfl (Nat.le_of_ble_eq_true rfl) (by decide +kernel)) rfl
theorem dl_758 : decode code 758 = .ok (.pop, 1) := dc_87 (dcc (r := 54) lq_11 rfl (Nat.le_of_ble_eq_true rfl) (by decide +kernel))
theorem dl_759 : decode code 759 = .ok (.goto 600, 3) := dc_167 (a := 2) (b := 88) (dcc (r := 55) lq_11 rfl (Nat.le_of_ble_eq_true rfl) (by decide +kernel)) rfl
theorem dl_762 : decode code 762 = .ok (.aload_n 1, 1) := dc_43 (dcc (r := 58) lq_11 rfl (Nat.le_of_ble_eq_true rfl) (by decide +kernel))
theorem dl_763 : decode code 763 = .ok (.aload_n 0, 1) := dc_42 (dcc (r := 59) lq_11 rfl (Nat.le_of_ble_eq_true rfl) (by decide +kernel))
theorem dl_764 : decode code 764 = .ok (.iload_n 3, 1) := dc_29 (dcc (r := 60) lq_11 rfl (Nat.le_of_ble_eq_true rfl) (by decide +kernel))
theorem dl_765 : decode code 765 = .ok (.iconst 1, 1) := dc_4 (dcc (r := 61) lq_11 rfl (Nat.le_of_ble_eq_true rfl) (by decide +kernel))
theorem dl_766 : decode code 766 = .ok (.iadd, 1) := dc_96 (dcc (r := 62) lq_11 rfl (Nat.le_of_ble_eq_true rfl) (by decide +kernel))
theorem dl_767 : decode code 767 = .ok (.iaload, 1) := dc_46 (dcc (r := 63) lq_11 rfl (Nat.le_of_ble_eq_true rfl) (by decide +kernel))
theorem dl_768 : decode code 768 = .ok (.invokevirtual 91, 3) := dc_182 (a := 0) (b := 91) (dcc (r := 0) lq_12 rfl (Nat.le_of_ble_eq_true rfl) (by decide +kernel)) rfl
theorem dl_771 : decode code 771 = .ok (.pop, 1) := dc_87 (dcc (r := 3) lq_12 rfl (Nat.le_of_ble_eq_true rfl) (by decide +kernel))
theorem dl_772 : decode code 772 = .ok (.aload_n 2, 1) := dc_44 (dcc (r := 4) lq_12 rfl (Nat.le_of_ble_eq_true rfl) (by decide +kernel))
theorem dl_773 : decode code 773 = .ok (.aload_n 0, 1) := dc_42 (dcc (r := 5) lq_12 rfl (Nat.le_of_ble_eq_true rfl) (by decide +kernel))
theorem dl_774 : decode code 774 = .ok (.iload_n 3, 1) := dc_29 (dcc (r := 6) lq_12 rfl (Nat.le_of_ble_eq_true rfl) (by decide +kernel))
theorem dl_775 : decode code 775 = .ok (.iconst 1, 1) := dc_4 (dcc (r := 7) lq_12 rfl (Nat.le_of_ble_eq_true rfl) (by decide +kernel))
theorem dl_776 : decode code 776 = .ok (.iadd, 1) := dc_96 (dcc (r := 8) lq_12 rfl (Nat.le_of_ble_eq_true rfl) (by decide +kernel))
theorem dl_777 : decode code 777 = .ok (.iaload, 1) := dc_46 (dcc (r := 9) lq_12 rfl (Nat.le_of_ble_eq_true rfl) (by decide +kernel))
theorem dl_778 : decode code 778 = .ok (.invokevirtual 94, 3) := dc_182 (a := 0) (b := 94) (dcc (r := 10) lq_12 rfl (Nat.le_of_ble_eq_true rfl) (by decide +kernel)) rfl
theorem dl_781 : decode code 781 = .ok (.pop, 1) := dc_87 (dcc (r := 13) lq_12 rfl (Nat.le_of_ble_eq_true rfl) (by decide +kernel))
theorem dl_782 : decode code 782 = .ok (.goto 577, 3) := dc_167 (a := 2) (b := 65) (dcc (r := 14) lq_12 rfl (Nat.le_of_ble_eq_true rfl) (by decide +kernel)) rfl
theorem dl_785 : decode code 785 = .ok (.aload_n 1, 1) := dc_43 (dcc (r := 17) lq_12 rfl (Nat.le_of_ble_eq_true rfl) (by decide +kernel))
theorem dl_786 : decode code 786 = .ok (.invokevirtual 95, 3) := dc_182 (a := 0) (b := 95) (dcc (r := 18) lq_12 rfl (Nat.le_of_ble_eq_true rfl) (by decide +kernel)) rfl
theorem dl_789 : decode code 789 = .ok (.pop, 1) := dc_87 (dcc (r := 21) lq_12 rfl (Nat.le_of_ble_eq_true rfl) (by decide +kernel))
theorem dl_790 : decode code 790 = .ok (.aload_n 2, 1) := dc_44 (dcc (r := 22) lq_12 rfl (Nat.le_of_ble_eq_true rfl) (by decide +kernel))
theorem dl_791 : decode code 791 = .ok (.invokevirtual 98, 3) := dc_182 (a := 0) (b := 98) (dcc (r := 23) lq_12 rfl (Nat.le_of_ble_eq_true rfl) (by decide +kernel)) rfl
theorem dl_794 : decode code 794 = .ok (.pop, 1) := dc_87 (dcc (r := 26) lq_12 rfl (Nat.le_of_ble_eq_true rfl) (by decide +kernel))
theorem dl_795 : decode code 795 = .ok (.goto 564, 3) := dc_167 (a := 2) (b := 52) (dcc (r := 27) lq_12 rfl (Nat.le_of_ble_eq_true rfl) (by decide +kernel)) rfl
theorem dl_798 : decode code 798 = .ok (.aload_n 1, 1) := dc_43 (dcc (r := 30) lq_12 rfl (Nat.le_of_ble_eq_true rfl) (by decide +kernel))
theorem dl_799 : decode code 799 = .ok (.aload_n 0, 1) := dc_42 (dcc (r := 31) lq_12 rfl (Nat.le_of_ble_eq_true rfl) (by decide +kernel))
theorem dl_800 : decode code 800 = .ok (.iload_n 3, 1) := dc_29 (dcc (r := 32) lq_12 rfl (Nat.le_of_ble_eq_true rfl) (by decide +kernel))
theorem dl_801 : decode code 801 = .ok (.iconst 1, 1) := dc_4 (dcc (r := 33) lq_12 rfl (Nat.le_of_ble_eq_true rfl) (by decide +kernel))
theorem dl_802 : decode code 802 = .ok (.iadd, 1) := dc_96 (dcc (r := 34) lq_12 rfl (Nat.le_of_ble_eq_true rfl) (by decide +kernel))
theorem dl_803 : decode code 803 = .ok (.iaload, 1) := dc_46 (dcc (r := 35) lq_12 rfl (Nat.le_of_ble_eq_true rfl) (by decide +kernel))
theorem dl_804 : decode code 804 = .ok (.invokevirtual 99, 3) := dc_182 (a := 0) (b := 99) (dcc (r := 36) lq_12 rfl (Nat.le_of_ble_eq_true rfl) (by decide +kernel)) rfl
theorem dl_807 : decode code 807 = .ok (.pop, 1) := dc_87 (dcc (r := 39) lq_12 rfl (Nat.le_of_ble_eq_true rfl) (by decide +kernel))
theorem dl_808 : decode code 808 = .ok (.aload_n 2, 1) := dc_44 (dcc (r := 40) lq_12 rfl (Nat.le_of_ble_eq_true rfl) (by decide +kernel))
theorem dl_809 : decode code 809 = .ok (.aload_n 0, 1) := dc_42 (dcc (r := 41) lq_12 rfl (Nat.le_of_ble_eq_true rfl) (by decide +kernel))
theorem dl_810 : decode code 810 = .ok (.iload_n 3, 1) := dc_29 (dcc (r := 42) lq_12 rfl (Nat.le_of_ble_eq_true rfl) (by decide +kernel))
theorem dl_811 : decode code 811 = .ok (.iconst 1, 1) := dc_4 (dcc (r := 43) lq_12 rfl (Nat.le_of_ble_eq_true rfl) (by decide +kernel))
theorem dl_812 : decode code 812 = .ok (.iadd, 1) := dc_96 (dcc (r := 44) lq_12 rfl (Nat.le_of_ble_eq_true rfl) (by decide +kernel))
theorem dl_813 : decode code 813 = .ok (.iaload, 1) := dc_46 (dcc (r := 45) lq_12 rfl (Nat.le_of_ble_eq_true rfl) (by decide +kernel))
theorem dl_814 : decode code 814 = .ok (.invokevirtual 102, 3) := dc_182 (a := 0) (b := 102) (dcc (r := 46) lq_12 rfl (Nat.le_of_ble_eq_true rfl) (by decide +kernel)) rfl
theorem dl_817 : decode code 817 = .ok (.pop, 1) := dc_87 (dcc (r := 49) lq_12 rfl (Nat.le_of_ble_eq_true rfl) (by decide +kernel))
theorem dl_818 : decode code 818 = .ok (.goto 541, 3) := dc_167 (a := 2) (b := 29) (dcc (r := 50) lq_12 rfl (Nat.le_of_ble_eq_true rfl) (by decide +kernel)) rfl
theorem dl_821 : decode code 821 = .ok (.aload_n 1, 1) := dc_43 (dcc (r := 53) lq_12 rfl (Nat.le_of_ble_eq_true rfl) (by decide +kernel))
theorem dl_822 : decode code 822 = .ok (.aload_n 0, 1) := dc_42 (dcc (r := 54) lq_12 rfl (Nat.le_of_ble_eq_true rfl) (by decide +kernel))
theorem dl_823 : decode code 823 = .ok (.iload_n 3, 1) := dc_29 (dcc (r := 55) lq_12 rfl (Nat.le_of_ble_eq_true rfl) (by decide +kernel))
theorem dl_824 : decode code 824 = .ok (.iconst 1, 1) := dc_4 (dcc (r := 56) lq_12 rfl (Nat.le_of_ble_eq_true rfl) (by decide +kernel))
theorem dl_825 : decode code 825 = .ok (.iadd, 1) := dc_96 (dcc (r := 57) lq_12 rfl (Nat.le_of_ble_eq_true rfl) (by decide +kernel))
theorem dl_826 : decode code 826 = .ok (.iaload, 1) := dc_46 (dcc (r := 58) lq_12 rfl (Nat.le_of_ble_eq_true rfl) (by decide +kernel))
theorem dl_827 : decode code 827 = .ok (.aload_n 0, 1) := dc_42 (dcc (r := 59) lq_12 rfl (Nat.le_of_ble_eq_true rfl) (by decide +kernel))
theorem dl_828 : decode code 828 = .ok (.iload_n 3, 1) := dc_29 (dcc (r := 60) lq_12 rfl (Nat.le_of_ble_eq_true rfl) (by decide +kernel))
theorem dl_829 : decode code 829 = .ok (.iconst 2, 1) := dc_5 (dcc (r := 61) lq_12 rfl (Nat.le_of_ble_eq_true rfl) (by decide +kernel))
theorem dl_830 : decode code 830 = .ok (.iadd, 1) := dc_96 (dcc (r := 62) lq_12 rfl (Nat.le_of_ble_eq_true rfl) (by decide +kernel))
theorem dl_831 : decode code 831 = .ok (.iaload, 1) := dc_46 (dcc (r := 63) lq_12 rfl (Nat.le_of_ble_eq_true rfl) (by decide +kernel))
theorem dl_832 : decode code 832 = .ok (.invokevirtual 103, 3) := dc_182 (a := 0) (b := 103) (dcc (r := 0) lq_13 rfl (Nat.le_of_ble_eq_true rfl) (by decide +kernel)) rfl
theorem dl_835 : decode code 835 = .ok (.pop, 1) := dc_87 (dcc (r := 3) lq_13 rfl (Nat.le_of_ble_eq_true rfl) (by decide +kernel))
theorem dl_836 : decode code 836 = .ok (.aload_n 2, 1) := dc_44 (dcc (r := 4) lq_13 rfl (Nat.le_of_ble_eq_true rfl) (by decide +kernel))
theorem dl_837 : decode code 837 = .ok (.aload_n 0, 1) := dc_42 (dcc (r := 5) lq_13 rfl (Nat.le_of_ble_eq_true rfl) (by decide +kernel))
theorem dl_838 : decode code 838 = .ok (.iload_n 3, 1) := dc_29 (dcc (r := 6) lq_13 rfl (Nat.le_of_ble_eq_true rfl) (by decide +kernel))
theorem dl_839 : decode code 839 = .ok (.iconst 1, 1) := dc_4 (dcc (r := 7) lq_13 rfl (Nat.le_of_ble_eq_true rfl) (by decide +kernel))
theorem dl_840 : decode code 840 = .ok (.iadd, 1) := dc_96 (dcc (r := 8) lq_13 rfl (Nat.le_of_ble_eq_true rfl) (by decide +kernel))
theorem dl_841 : decode code 841 = .ok (.iaload, 1) := dc_46 (dcc (r := 9) lq_13 rfl (Nat.le_of_ble_eq_true rfl) (by decide +kernel))
theorem dl_842 : decode code 842 = .ok (.aload_n 0, 1) := dc_42 (dcc (r := 10) lq_13 rfl (Nat.le_of_ble_eq_true rfl) (by decide +kernel))
theorem dl_843 : decode code 843 = .ok (.iload_n 3, 1) := dc_29 (dcc (r := 11) lq_13 rfl (Nat.le_of_ble_eq_true rfl) (by decide +kernel))
theorem dl_844 : decode code 844 = .ok (.iconst 2, 1) := dc_5 (dcc (r := 12) lq_13 rfl (Nat.le_of_ble_eq_true rfl) (by decide +kernel))
theorem dl_845 : decode code 845 = .ok (.iadd, 1) := dc_96 (dcc (r := 13) lq_13 rfl (Nat.le_of_ble_eq_true rfl) (by decide +kernel))
theorem dl_846 : decode code 846 = .ok (.iaload, 1) := dc_46 (dcc (r := 14) lq_13 rfl (Nat.le_of_ble_eq_true rfl) (by decide +kernel))
theorem dl_847 : decode code 847 = .ok (.invokevirtual 106, 3) := dc_182 (a := 0) (b := 106) (dcc (r := 15) lq_13 rfl (Nat.le_of_ble_eq_true rfl) (by decide +kernel)) rfl
theorem dl_850 : decode code 850 = .ok (.pop, 1) := dc_87 (dcc (r := 18) lq_13 rfl (Nat.le_of_ble_eq_true rfl) (by decide +kernel))
theorem dl_851 : decode code 851 = .ok (.goto 508, 3) := dc_167 (a := 1) (b := 252) (dcc (r := 19) lq_13 rfl (Nat.le_of_ble_eq_true rfl) (by decide +kernel)) rfl
theorem dl_854 : decode code 854 = .ok (.aload_n 1, 1) := dc_43 (dcc (r := 22) lq_13 rfl (Nat.le_of_ble_eq_true rfl) (by decide +kernel))
theorem dl_855 : decode code 855 = .ok (.aload_n 0, 1) := dc_42 (dcc (r := 23) lq_13 rfl (Nat.le_of_ble_eq_true rfl) (by decide +kernel))
theorem dl_856 : decode code 856 = .ok (.iload_n 3, 1) := dc_29 (dcc (r := 24) lq_13 rfl (Nat.le_of_ble_eq_true rfl) (by decide +kernel))
theorem dl_857 : decode code 857 = .ok (.iconst 1, 1) := dc_4 (dcc (r := 25) lq_13 rfl (Nat.le_of_ble_eq_true rfl) (by decide +kernel))
theorem dl_858 : decode code 858 = .ok (.iadd, 1) := dc_96 (dcc (r := 26) lq_13 rfl (Nat.le_of_ble_eq_true rfl) (by decide +kernel))
theorem dl_859 : decode code 859 = .ok (.iaload, 1) := dc_46 (dcc (r := 27) lq_13 rfl (Nat.le_of_ble_eq_true rfl) (by decide +kernel))
theorem dl_860 : decode code 860 = .ok (.aload_n 0, 1) := dc_42 (dcc (r := 28) lq_13 rfl (Nat.le_of_ble_eq_true rfl) (by decide +kernel))
theorem dl_861 : decode code 861 = .ok (.iload_n 3, 1) := dc_29 (dcc (r := 29) lq_13 rfl (Nat.le_of_ble_eq_true rfl) (by decide +kernel))
theorem dl_862 : decode code 862 = .ok (.iconst 2, 1) := dc_5 (dcc (r := 30) lq_13 rfl (Nat.le_of_ble_eq_true rfl) (by decide +kernel))
theorem dl_863 : decode code 863 = .ok (.iadd, 1) := dc_96 (dcc (r := 31) lq_13 rfl (Nat.le_of_ble_eq_true rfl) (by decide +kernel))
theorem dl_864 : decode code 864 = .ok (.iaload, 1) := dc_46 (dcc (r := 32) lq_13 rfl (Nat.le_of_ble_eq_true rfl) (by decide +kernel))
theorem dl_865 : decode code 865 = .ok (.aload_n 0, 1) := dc_42 (dcc (r := 33) lq_13 rfl (Nat.le_of_ble_eq_true rfl) (by decide +kernel))
theorem dl_866 : decode code 866 = .ok (.iload_n 3, 1) := dc_29 (dcc (r := 34) lq_13 rfl (Nat.le_of_ble_eq_true rfl) (by decide +kernel))
theorem dl_867 : decode code 867 = .ok (.iconst 3, 1) := dc_6 (dcc (r := 35) lq_13 rfl (Nat.le_of_ble_eq_true rfl) (by decide +kernel))
theorem dl_868 : decode code 868 = .ok (.iadd, 1) := dc_96 (dcc (r := 36) lq_13 rfl (Nat.le_of_ble_eq_true rfl) (by decide +kernel))
theorem dl_869 : decode code 869 = .ok (.iaload, 1) := dc_46 (dcc (r := 37) lq_13 rfl (Nat.le_of_ble_eq_true rfl) (by decide +kernel))
theorem dl_870 : decode code 870 = .ok (.aload_n 0, 1) := dc_42 (dcc (r := 38) lq_13 rfl (Nat.le_of_ble_eq_true rfl) (by decide +kernel))
theorem dl_871 : decode code 871 = .ok (.iload_n 3, 1) := dc_29 (dcc (r := 39) lq_13 rfl (Nat.le_of_ble_eq_true rfl) (by decide +kernel))
theorem dl_872 : decode code 872 = .ok (.iconst 4, 1) := dc_7 (dcc (r := 40) lq_13 rfl (Nat.le_of_ble_eq_true rfl) (by decide +kernel))
theorem dl_873 : decode code 873 = .ok (.iadd, 1) := dc_96 (dcc (r := 41) lq_13 rfl (Nat.le_of_ble_eq_true rfl) (by decide +kernel))
theorem dl_874 : decode code 874 = .ok (.iaload, 1) := dc_46 (dcc (r := 42) lq_13 rfl (Nat.le_of_ble_eq_true rfl) (by decide +kernel))
theorem dl_875 : decode code 875 = .ok (.invokevirtual 107, 3) := dc_182 (a := 0) (b := 107) (dcc (r := 43) lq_13 rfl (Nat.le_of_ble_eq_true rfl) (by decide +kernel)) rfl
theorem dl_878 : decode code 878 = .ok (.pop, 1) := dc_87 (dcc (r := 46) lq_13 rfl (Nat.le_of_ble_eq_true rfl) (by decide +kernel))
theorem dl_879 : decode code 879 = .ok (.aload_n 2, 1) := dc_44 (dcc (r := 47) lq_13 rfl (Nat.le_of_ble_eq_true rfl) (by decide +kernel))
theorem dl_880 : decode code 880 = .ok (.aload_n 0, 1) := dc_42 (dcc (r := 48) lq_13 rfl (Nat.le_of_ble_eq_true rfl) (by decide +kernel))
theorem dl_881 : decode code 881 = .ok (.iload_n 3, 1) := dc_29 (dcc (r := 49) lq_13 rfl (Nat.le_of_ble_eq_true rfl) (by decide +kernel))
theorem dl_882 : decode code 882 = .ok (.iconst 1, 1) := dc_4 (dcc (r := 50) lq_13 rfl (Nat.le_of_ble_eq_true rfl) (by decide +kernel))
theorem dl_883 : decode code 883 = .ok (.iadd, 1) := dc_96 (dcc (r := 51) lq_13 rfl (Nat.le_of_ble_eq_true rfl) (by decide +kernel))
theorem dl_884 : decode code 884 = .ok (.iaload, 1) := dc_46 (dcc (r := 52) lq_13 rfl (Nat.le_of_ble_eq_true rfl) (by decide +kernel))
theorem dl_885 : decode code 885 = .ok (.aload_n 0, 1) := dc_42 (dcc (r := 53) lq_13 rfl (Nat.le_of_ble_eq_true rfl) (by decide +kernel))
theorem dl_886 : decode code 886 = .ok (.iload_n 3, 1) := dc_29 (dcc (r := 54) lq_13 rfl (Nat.le_of_ble_eq_true rfl) (by decide +kernel))
theorem dl_887 : decode code 887 = .ok (.iconst 2, 1) := dc_5 (dcc (r := 55) lq_13 rfl (Nat.le_of_ble_eq_true rfl) (by decide +kernel))
theorem dl_888 : decode code 888 = .ok (.iadd, 1) := dc_96 (dcc (r := 56) lq_13 rfl (Nat.le_of_ble_eq_true rfl) (by decide +kernel))
theorem dl_889 : decode code 889 = .ok (.iaload, 1) := dc_46 (dcc (r := 57) lq_13 rfl (Nat.le_of_ble_eq_true rfl) (by decide +kernel))
theorem dl_890 : decode code 890 = .ok (.aload_n 0, 1) := dc_42 (dcc (r := 58) lq_13 rfl (Nat.le_of_ble_eq_true rfl) (by decide +kernel))
theorem dl_891 : decode code 891 = .ok (.iload_n 3, 1) := dc_29 (dcc (r := 59) lq_13 rfl (Nat.le_of_ble_eq_true rfl) (by decide +kernel))
theorem dl_892 : decode code 892 = .ok (.iconst 3, 1) := dc_6 (dcc (r := 60) lq_13 rfl (Nat.le_of_ble_eq_true rfl) (by decide +kernel))
theorem dl_893 : decode code 893 = .ok (.iadd, 1) := dc_96 (dcc (r := 61) lq_13 rfl (Nat.le_of_ble_eq_true rfl) (by decide +kernel))
theorem dl_894 : decode code 894 = .ok (.iaload, 1) := dc_46 (dcc (r := 62) lq_13 rfl (Nat.le_of_ble_eq_true rfl) (by decide +kernel))
theorem dl_895 : decode code 895 = .ok (.aload_n 0, 1) := dc_42 (dcc (r := 63) lq_13 rfl (Nat.le_of_ble_eq_true rfl) (by decide +kernel))
theorem dl_896 : decode code 896 = .ok (.iload_n 3, 1) := dc_29 (dcc (r := 0) lq_14 rfl (Nat.le_of_ble_eq_true rfl) (by decide +kernel))
theorem dl_897 : decode code 897 = .ok (.iconst 4, 1) := dc_7 (dcc (r := 1) lq_14 rfl (Nat.le_of_ble_eq_true rfl) (by decide +kernel))
theorem dl_898 : decode code 898 = .ok (.iadd, 1) := dc_96 (dcc (r := 2) lq_14 rfl (Nat.le_of_ble_eq_true rfl) (by decide +kernel))
theorem dl_899 : decode code 899 = .ok (.iaload, 1) := dc_46 (dcc (r := 3) lq_14 rfl (Nat.le_of_ble_eq_true rfl) (by decide +kernel))
theorem dl_900 : decode code 900 = .ok (.invokevirtual 111, 3) := dc_182 (a := 0) (b := 111) (dcc (r := 4) lq_14 rfl (Nat.le_of_ble_eq_true rfl) (by decide +kernel)) rfl
theorem dl_903 : decode code 903 = .ok (.pop, 1) := dc_87 (dcc (r := 7) lq_14 rfl (Nat.le_of_ble_eq_true rfl) (by decide +kernel))
theorem dl_904 : decode code 904 = .ok (.goto 455, 3) := dc_167 (a := 1) (b := 199) (dcc (r := 8) lq_14 rfl (Nat.le_of_ble_eq_true rfl) (by decide +kernel)) rfl
theorem dl_907 : decode code 907 = .ok (.aload_n 1, 1) := dc_43 (dcc (r := 11) lq_14 rfl (Nat.le_of_ble_eq_true rfl) (by decide +kernel))
theorem dl_908 : decode code 908 = .ok (.aload_n 0, 1) := dc_42 (dcc (r := 12) lq_14 rfl (Nat.le_of_ble_eq_true rfl) (by decide +kernel))
theorem dl_909 : decode code 909 = .ok (.iload_n 3, 1) := dc_29 (dcc (r := 13) lq_14 rfl (Nat.le_of_ble_eq_true rfl) (by decide +kernel))
theorem dl_910 : decode code 910 = .ok (.iconst 1, 1) := dc_4 (dcc (r := 14) lq_14 rfl (Nat.le_of_ble_eq_true rfl) (by decide +kernel))
theorem dl_911 : decode code 911 = .ok (.iadd, 1) := dc_96 (dcc (r := 15) lq_14 rfl (Nat.le_of_ble_eq_true rfl) (by decide +kernel))
theorem dl_912 : decode code 912 = .ok (.iaload, 1) := dc_46 (dcc (r := 16) lq_14 rfl (Nat.le_of_ble_eq_true rfl) (by decide +kernel))
theorem dl_913 : decode code 913 = .ok (.aload_n 0, 1) := dc_42 (dcc (r := 17) lq_14 rfl (Nat.le_of_ble_eq_true rfl) (by decide +kernel))
theorem dl_914 : decode code 914 = .ok (.iload_n 3, 1) := dc_29 (dcc (r := 18) lq_14 rfl (Nat.le_of_ble_eq_true rfl) (by decide +kernel))
theorem dl_915 : decode code 915 = .ok (.iconst 2, 1) := dc_5 (dcc (r := 19) lq_14 rfl (Nat.le_of_ble_eq_true rfl) (by decide +kernel))
theorem dl_916 : decode code 916 = .ok (.iadd, 1) := dc_96 (dcc (r := 20) lq_14 rfl (Nat.le_of_ble_eq_true rfl) (by decide +kernel))
theorem dl_917 : decode code 917 = .ok (.iaload, 1) := dc_46 (dcc (r := 21) lq_14 rfl (Nat.le_of_ble_eq_true rfl) (by decide +kernel))
theorem dl_918 : decode code 918 = .ok (.aload_n 0, 1) := dc_42 (dcc (r := 22) lq_14 rfl (Nat.le_of_ble_eq_true rfl) (by decide +kernel))
theorem dl_919 : decode code 919 = .ok (.iload_n 3, 1) := dc_29 (dcc (r := 23) lq_14 rfl (Nat.le_of_ble_eq_true rfl) (by decide +kernel))
theorem dl_920 : decode code 920 = .ok (.iconst 3, 1) := dc_6 (dcc (r := 24) lq_14 rfl (Nat.le_of_ble_eq_true rfl) (by decide +kernel))
theorem dl_921 : decode code 921 = .ok (.iadd, 1) := dc_96 (dcc (r := 25) lq_14 rfl (Nat.le_of_ble_eq_true rfl) (by decide +kernel))
theorem dl_922 : decode code 922 = .ok (.iaload, 1) := dc_46 (dcc (r := 26) lq_14 rfl (Nat.le_of_ble_eq_true rfl) (by decide +kernel))
theorem dl_923 : decode code 923 = .ok (.invokevirtual 112, 3) := dc_182 (a := 0) (b := 112) (dcc (r := 27) lq_14 rfl (Nat.le_of_ble_eq_true rfl) (by decide +kernel)) rfl
theorem dl_926 : decode code 926 = .ok (.pop, 1) := dc_87 (dcc (r := 30) lq_14 rfl (Nat.le_of_ble_eq_true rfl) (by decide +kernel))
theorem dl_927 : decode code 927 = .ok (.aload_n 2, 1) := dc_44 (dcc (r := 31) lq_14 rfl (Nat.le_of_ble_eq_true rfl) (by decide +kernel))
theorem dl_928 : decode code 928 = .ok (.aload_n 0, 1) := dc_42 (dcc (r := 32) lq_14 rfl (Nat.le_of_ble_eq_true rfl) (by decide +kernel))
theorem dl_929 : decode code 929 = .ok (.iload_n 3, 1) := dc_29 (dcc (r := 33) lq_14 rfl (Nat.le_of_ble_eq_true rfl) (by decide +kernel))
theorem dl_930 : decode code 930 = .ok (.iconst 1, 1) := dc_4 (dcc (r := 34) lq_14 rfl (Nat.le_of_ble_eq_true rfl) (by decide +kernel))
theorem dl_931 : decode code 931 = .ok (.iadd, 1) := dc_96 (dcc (r := 35) lq_14 rfl (Nat.le_of_ble_eq_true rfl) (by decide +kernel))
theorem dl_932 : decode code 932 = .ok (.iaload, 1) := dc_46 (dcc (r := 36) lq_14 rfl (Nat.le_of_ble_eq_true rfl) (by decide +kernel))
theorem dl_933 : decode code 933 = .ok (.aload_n 0, 1) := dc_42 (dcc (r := 37) lq_14 rfl (Nat.le_of_ble_eq_true rfl) (by decide +kernel))
theorem dl_934 : decode code 934 = .ok (.iload_n 3, 1) := dc_29 (dcc (r := 38) lq_14 rfl (Nat.le_of_ble_eq_true rfl) (by decide +kernel))
theorem dl_935 : decode code 935 = .ok (.iconst 2, 1) := dc_5 (dcc (r := 39) lq_14 rfl (Nat.le_of_ble_eq_true rfl) (by decide +kernel))
theorem dl_936 : decode code 936 = .ok (.iadd, 1) := dc_96 (dcc (r := 40) lq_14 rfl (Nat.le_of_ble_eq_true rfl) (by decide +kernel))
theorem dl_937 : decode code 937 = .ok (.iaload, 1) := dc_46 (dcc (r := 41) lq_14 rfl (Nat.le_of_ble_eq_true rfl) (by decide +kernel))
theorem dl_938 : decode code 938 = .ok (.aload_n 0, 1) := dc_42 (dcc (r := 42) lq_14 rfl (Nat.le_of_ble_eq_true rfl) (by decide +kernel))
theorem dl_939 : decode code 939 = .ok (.iload_n 3, 1) := dc_29 (dcc (r := 43) lq_14 rfl (Nat.le_of_ble_eq_true rfl) (by decide +kernel))
theorem dl_940 : decode code 940 = .ok (.iconst 3, 1) := dc_6 (dcc (r := 44) lq_14 rfl (Nat.le_of_ble_eq_true rfl) (by decide +kernel))
theorem dl_941 : decode code 941 = .ok (.iadd, 1) := dc_96 (dcc (r := 45) lq_14 rfl (Nat.le_of_ble_eq_true rfl) (by decide +kernel))
theorem dl_942 : decode code 942 = .ok (.iaload, 1) := dc_46 (dcc (r := 46) lq_14 rfl (Nat.le_of_ble_eq_true rfl) (by decide +kernel))
theorem dl_943 : decode code 943 = .ok (.invokevirtual 115, 3) := dc_182 (a := 0) (b := 115) (dcc (r := 47) lq_14 rfl (Nat.le_of_ble_eq_true rfl) (by decide +kernel)) rfl
theorem dl_946 : decode code 946 = .ok (.pop, 1) := dc_87 (dcc (r := 50) lq_14 rfl (Nat.le_of_ble_eq_true rfl) (by decide +kernel))
theorem dl_947 : decode code 947 = .ok (.goto 412, 3) := dc_167 (a := 1) (b := 156) (dcc (r := 51) lq_14 rfl (Nat.le_of_ble_eq_true rfl) (by decide +kernel)) rfl
theorem dl_950 : decode code 950 = .ok (.aload_n 1, 1) := dc_43 (dcc (r := 54) lq_14 rfl (Nat.le_of_ble_eq_true rfl) (by decide +kernel))
theorem dl_951 : decode code 951 = .ok (.aload_n 0, 1) := dc_42 (dcc (r := 55) lq_14 rfl (Nat.le_of_ble_eq_true rfl) (by decide +kernel))
theorem dl_952 : decode code 952 = .ok (.iload_n 3, 1) := dc_29 (dcc (r := 56) lq_14 rfl (Nat.le_of_ble_eq_true rfl) (by decide +kernel))
theorem dl_953 : decode code 953 = .ok (.iconst 1, 1) := dc_4 (dcc (r := 57) lq_14 rfl (Nat.le_of_ble_eq_true rfl) (by decide +kernel))
theorem dl_954 : decode code 954 = .ok (.iadd, 1) := dc_96 (dcc (r := 58) lq_14 rfl (Nat.le_of_ble_eq_true rfl) (by decide +kernel))
theorem dl_955 : decode code 955 = .ok (.iaload, 1) := dc_46 (dcc (r := 59) lq_14 rfl (Nat.le_of_ble_eq_true rfl) (by decide +kernel))
theorem dl_956 : decode code 956 = .ok (.aload_n 0, 1) := dc_42 (dcc (r := 60) lq_14 rfl (Nat.le_of_ble_eq_true rfl) (by decide +kernel))
theorem dl_957 : decode code 957 = .ok (.iload_n 3, 1) := dc_29 (dcc (r := 61) lq_14 rfl (Nat.le_of_ble_eq_true rfl) (by decide +kernel))
theorem dl_958 : decode code 958 = .ok (.iconst 2, 1) := dc_5 (dcc (r := 62) lq_14 rfl (Nat.le_of_ble_eq_true rfl) (by decide +kernel))
theorem dl_959 : decode code 959 = .ok (.iadd, 1) := dc_96 (dcc (r := 63) lq_14 rfl (Nat.le_of_ble_eq_true rfl) (by decide +kernel))
theorem dl_960 : decode code 960 = .ok (.iaload, 1) := dc_46 (dcc (r := 0) lq_15 rfl (Nat.le_of_ble_eq_true rfl) (by decide +kernel))
theorem dl_961 : decode code 961 = .ok (.aload_n 0, 1) := dc_42 (dcc (r := 1) lq_15 rfl (Nat.le_of_ble_eq_true rfl) (by decide +kernel))
theorem dl_962 : decode code 962 = .ok (.iload_n 3, 1) := dc_29 (dcc (r := 2) lq_15 rfl (Nat.le_of_ble_eq_true rfl) (by decide +kernel))
theorem dl_963 : decode code 963 = .ok (.iconst 3, 1) := dc_6 (dcc (r := 3) lq_15 rfl (Nat.le_of_ble_eq_true rfl) (by decide +kernel))
theorem dl_964 : decode code 964 = .ok (.iadd, 1) := dc_96 (dcc (r := 4) lq_15 rfl (Nat.le_of_ble_eq_true rfl) (by decide +kernel))
theorem dl_965 : decode code 965 = .ok (.iaload, 1) := dc_46 (dcc (r := 5) lq_15 rfl (Nat.le_of_ble_eq_true rfl) (by decide +kernel))
theorem dl_966 : decode code 966 = .ok (.aload_n 0, 1) := dc_42 (dcc (r := 6) lq_15 rfl (Nat.le_of_ble_eq_true rfl) (by decide +kernel))
theorem dl_967 : decode code 967 = .ok (.iload_n 3, 1) := dc_29 (dcc (r := 7) lq_15 rfl (Nat.le_of_ble_eq_true rfl) (by decide +kernel))
theorem dl_968 : decode code 968 = .ok (.iconst 4, 1) := dc_7 (dcc (r := 8) lq_15 rfl (Nat.le_of_ble_eq_true rfl) (by decide +kernel))
theorem dl_969 : decode code 969 = .ok (.iadd, 1) := dc_96 (dcc (r := 9) lq_15 rfl (Nat.le_of_ble_eq_true rfl) (by decide +kernel))
theorem dl_970 : decode code 970 = .ok (.iaload, 1) := dc_46 (dcc (r := 10) lq_15 rfl (Nat.le_of_ble_eq_true rfl) (by decide +kernel))
theorem dl_971 : decode code 971 = .ok (.invokevirtual 116, 3) := dc_182 (a := 0) (b := 116) (dcc (r := 11) lq_15 rfl (Nat.le_of_ble_eq_true rfl) (by decide +kernel)) rfl
theorem dl_974 : decode code 974 = .ok (.pop2, 1) := dc_88 (dcc (r := 14) lq_15 rfl (Nat.le_of_ble_eq_true rfl) (by decide +kernel))
theorem dl_975 : decode code 975 = .ok (.aload_n 2, 1) := dc_44 (dcc (r := 15) lq_15 rfl (Nat.le_of_ble_eq_true rfl) (by decide +kernel))
theorem dl_976 : decode code 976 = .ok (.aload_n 0, 1) := dc_42 (dcc (r := 16) lq_15 rfl (Nat.le_of_ble_eq_true rfl) (by decide +kernel))
theorem dl_977 : decode code 977 = .ok (.iload_n 3, 1) := dc_29 (dcc (r := 17) lq_15 rfl (Nat.le_of_ble_eq_true rfl) (by decide +kernel))
theorem dl_978 : decode code 978 = .ok (.iconst 1, 1) := dc_4 (dcc (r := 18) lq_15 rfl (Nat.le_of_ble_eq_true rfl) (by decide +kernel))
theorem dl_979 : decode code 979 = .ok (.iadd, 1) := dc_96 (dcc (r := 19) lq_15 rfl (Nat.le_of_ble_eq_true rfl) (by decide +kernel))
theorem dl_980 : decode code 980 = .ok (.iaload, 1) := dc_46 (dcc (r := 20) lq_15 rfl (Nat.le_of_ble_eq_true rfl) (by decide +kernel))
theorem dl_981 : decode code 981 = .ok (.aload_n 0, 1) := dc_42 (dcc (r := 21) lq_15 rfl (Nat.le_of_ble_eq_true rfl) (by decide +kernel))
theorem dl_982 : decode code 982 = .ok (.iload_n 3, 1) := dc_29 (dcc (r := 22) lq_15 rfl (Nat.le_of_ble_eq_true rfl) (by decide +kernel))
theorem dl_983 : decode code 983 = .ok (.iconst 2, 1) := dc_5 (dcc (r := 23) lq_15 rfl (Nat.le_of_ble_eq_true rfl) (by decide +kernel))
theorem dl_984 : decode code 984 = .ok (.iadd, 1) := dc_96 (dcc (r := 24) lq_15 rfl (Nat.le_of_ble_eq_true rfl) (by decide +kernel))
theorem dl_985 : decode code 985 = .ok (.iaload, 1) := dc_46 (dcc (r := 25) lq_15 rfl (Nat.le_of_ble_eq_true rfl) (by decide +kernel))
theorem dl_986 : decode code 986 = .ok (.aload_n 0, 1) := dc_42 (dcc (r := 26) lq_15 rfl (Nat.le_of_ble_eq_true rfl) (by decide +kernel))
theorem dl_987 : decode code 987 = .ok (.iload_n 3, 1) := dc_29 (dcc (r := 27) lq_15 rfl (Nat.le_of_ble_eq_true rfl) (by decide +kernel))
theorem dl_988 : decode code 988 = .ok (.iconst 3, 1) := dc_6 (dcc (r := 28) lq_15 rfl (Nat.le_of_ble_eq_true rfl) (by decide +kernel))
theorem dl_989 : decode code 989 = .ok (.iadd, 1) := dc_96 (dcc (r := 29) lq_15 rfl (Nat.le_of_ble_eq_true rfl) (by decide +kernel))
theorem dl_990 : decode code 990 = .ok (.iaload, 1) := dc_46 (dcc (r := 30) lq_15 rfl (Nat.le_of_ble_eq_true rfl) (by decide +kernel))
theorem dl_991 : decode code 991 = .ok (.aload_n 0, 1) := dc_42 (dcc (r := 31) lq_15 rfl (Nat.le_of_ble_eq_true rfl) (by decide +kernel))
theorem dl_992 : decode code 992 = .ok (.iload_n 3, 1) := dc_29 (dcc (r := 32) lq_15 rfl (Nat.le_of_ble_eq_true rfl) (by decide +kernel))
theorem dl_993 : decode code 993 = .ok (.iconst 4, 1) := dc_7 (dcc (r := 33) lq_15 rfl (Nat.le_of_ble_eq_true rfl) (by decide +kernel))
theorem dl_994 : decode code 994 = .ok (.iadd, 1) := dc_96 (dcc (r := 34) lq_15 rfl (Nat.le_of_ble_eq_true rfl) (by decide +kernel))
theorem dl_995 : decode code 995 = .ok (.iaload, 1) := dc_46 (dcc (r := 35) lq_15 rfl (Nat.le_of_ble_eq_true rfl) (by decide +kernel))
theorem dl_996 : decode code 996 = .ok (.invokevirtual 120, 3) := dc_182 (a := 0) (b := 120) (dcc (r := 36) lq_15 rfl (Nat.le_of_ble_eq_true rfl) (by decide +kernel)) rfl
theorem dl_999 : decode code 999 = .ok (.pop2, 1) := dc_88 (dcc (r := 39) lq_15 rfl (Nat.le_of_ble_eq_true rfl) (by decide +kernel))
theorem dl_1000 : decode code 1000 = .ok (.goto 359, 3) := dc_167 (a := 1) (b := 103) (dcc (r := 40) lq_15 rfl (Nat.le_of_ble_eq_true rfl) (by decide +kernel)) rfl
theorem dl_1003 : decode code 1003 = .ok (.aload_n 1, 1) := dc_43 (dcc (r := 43) lq_15 rfl (Nat.le_of_ble_eq_true rfl) (by decide +kernel))
theorem dl_1004 : decode code 1004 = .ok (.aload_n 0, 1) := dc_42 (dcc (r := 44) lq_15 rfl (Nat.le_of_ble_eq_true rfl) (by decide +kernel))
theorem dl_1005 : decode code 1005 = .ok (.iload_n 3, 1) := dc_29 (dcc (r := 45) lq_15 rfl (Nat.le_of_ble_eq_true rfl) (by decide +kernel))
theorem dl_1006 : decode code 1006 = .ok (.iconst 1, 1) := dc_4 (dcc (r := 46) lq_15 rfl (Nat.le_of_ble_eq_true rfl) (by decide +kernel))
theorem dl_1007 : decode code 1007 = .ok (.iadd, 1) := dc_96 (dcc (r := 47) lq_15 rfl (Nat.le_of_ble_eq_true rfl) (by decide +kernel))
theorem dl_1008 : decode code 1008 = .ok (.iaload, 1) := dc_46 (dcc (r := 48) lq_15 rfl (Nat.le_of_ble_eq_true rfl) (by decide +kernel))
theorem dl_1009 : decode code 1009 = .ok (.invokevirtual 121, 3) := dc_182 (a := 0) (b := 121) (dcc (r := 49) lq_15 rfl (Nat.le_of_ble_eq_true rfl) (by decide +kernel)) rfl
theorem dl_1012 : decode code 1012 = .ok (.pop, 1) := dc_87 (dcc (r := 52) lq_15 rfl (Nat.le_of_ble_eq_true rfl) (by decide +kernel))
theorem dl_1013 : decode code 1013 = .ok (.aload_n 2, 1) := dc_44 (dcc (r := 53) lq_15 rfl (Nat.le_of_ble_eq_true rfl) (by decide +kernel))
theorem dl_1014 : decode code 1014 = .ok (.aload_n 0, 1) := dc_42 (dcc (r := 54) lq_15 rfl (Nat.le_of_ble_eq_true rfl) (by decide +kernel))
theorem dl_1015 : decode code 1015 = .ok (.iload_n 3, 1) := dc_29 (dcc (r := 55) lq_15 rfl (Nat.le_of_ble_eq_true rfl) (by decide +kernel))
theorem dl_1016 : decode code 1016 = .ok (.iconst 1, 1) := dc_4 (dcc (r := 56) lq_15 rfl (Nat.le_of_ble_eq_true rfl) (by decide +kernel))
theorem dl_1017 : decode code 1017 = .ok (.iadd, 1) := dc_96 (dcc (r := 57) lq_15 rfl (Nat.le_of_ble_eq_true rfl) (by decide +kernel))
theorem dl_1018 : decode code 1018 = .ok (.iaload, 1) := dc_46 (dcc (r := 58) lq_15 rfl (Nat.le_of_ble_eq_true rfl) (by decide +kernel))
theorem dl_1019 : decode code 1019 = .ok (.invokevirtual 124, 3) := dc_182 (a := 0) (b := 124) (dcc (r := 59) lq_15 rfl (Nat.le_of_ble_eq_true rfl) (by decide +kernel)) rfl
theorem dl_1022 : decode code 1022 = .ok (.pop, 1) := dc_87 (dcc (r := 62) lq_15 rfl (Nat.le_of_ble_eq_true rfl) (by decide +kernel))
theorem dl_1023 : decode code 1023 = .ok (.goto 336, 3) := dc_167 (a := 1) (b := 80) (dcc (r := 63) lq_15 rfl (Nat.le_of_ble_eq_true rfl) (by decide +kernel)) rfl
theorem dl_1026 : decode code 1026 = .ok (.aload_n 1, 1) := dc_43 (dcc (r := 2) lq_16 rfl (Nat.le_of_ble_eq_true rfl) (by decide +kernel))
theorem dl_1027 : decode code 1027 = .ok (.aload_n 0, 1) := dc_42 (dcc (r := 3) lq_16 rfl (Nat.le_of_ble_eq_true rfl) (by decide +kernel))
theorem dl_1028 : decode code 1028 = .ok (.iload_n 3, 1) := dc_29 (dcc (r := 4) lq_16 rfl (Nat.le_of_ble_eq_true rfl) (by decide +kernel))
theorem dl_1029 : decode code 1029 = .ok (.iconst 1, 1) := dc_4 (dcc (r := 5) lq_16 rfl (Nat.le_of_ble_eq_true rfl) (by decide +kernel))
theorem dl_1030 : decode code 1030 = .ok (.iadd, 1) := dc_96 (dcc (r := 6) lq_16 rfl (Nat.le_of_ble_eq_true rfl) (by decide +kernel))
theorem dl_1031 : decode code 1031 = .ok (.iaload, 1) := dc_46 (dcc (r := 7) lq_16 rfl (Nat.le_of_ble_eq_true rfl) (by decide +kernel))
theorem dl_1032 : decode code 1032 = .ok (.aload_n 0, 1) := dc_42 (dcc (r := 8) lq_16 rfl (Nat.le_of_ble_eq_true rfl) (by decide +kernel))
theorem dl_1033 : decode code 1033 = .ok (.iload_n 3, 1) := dc_29 (dcc (r := 9) lq_16 rfl (Nat.le_of_ble_eq_true rfl) (by decide +kernel))
theorem dl_1034 : decode code 1034 = .ok (.iconst 2, 1) := dc_5 (dcc (r := 10) lq_16 rfl (Nat.le_of_ble_eq_true rfl) (by decide +kernel))
theorem dl_1035 : decode code 1035 = .ok (.iadd, 1) := dc_96 (dcc (r := 11) lq_16 rfl (Nat.le_of_ble_eq_true rfl) (by decide +kernel))
theorem dl_1036 : decode code 1036 = .ok (.iaload, 1) := dc_46 (dcc (r := 12) lq_16 rfl (Nat.le_of_ble_eq_true rfl) (by decide +kernel))
theorem dl_1037 : decode code 1037 = .ok (.invokevirtual 125, 3) := dc_182 (a := 0) (b := 125) (dcc (r := 13) lq_16 rfl (Nat.le_of_ble_eq_true rfl) (by decide +kernel)) rfl
theorem dl_1040 : decode code 1040 = .ok (.pop, 1) := dc_87 (dcc (r := 16) lq_16 rfl (Nat.le_of_ble_eq_true rfl) (by decide +kernel))
theorem dl_1041 : decode code 1041 = .ok (.aload_n 2, 1) := dc_44 (dcc (r := 17) lq_16 rfl (Nat.le_of_ble_eq_true rfl) (by decide +kernel))
theorem dl_1042 : decode code 1042 = .ok (.aload_n 0, 1) := dc_42 (dcc (r := 18) lq_16 rfl (Nat.le_of_ble_eq_true rfl) (by decide +kernel))
theorem dl_1043 : decode code 1043 = .ok (.iload_n 3, 1) := dc_29 (dcc (r := 19) lq_16 rfl (Nat.le_of_ble_eq_true rfl) (by decide +kernel))
theorem dl_1044 : decode code 1044 = .ok (.iconst 1, 1) := dc_4 (dcc (r := 20) lq_16 rfl (Nat.le_of_ble_eq_true rfl) (by decide +kernel))
theorem dl_1045 : decode code 1045 = .ok (.iadd, 1) := dc_96 (dcc (r := 21) lq_16 rfl (Nat.le_of_ble_eq_true rfl) (by decide +kernel))
theorem dl_1046 : decode code 1046 = .ok (.iaload, 1) := dc_46 (dcc (r := 22) lq_16 rfl (Nat.le_of_ble_eq_true rfl) (by decide +kernel))
theorem dl_1047 : decode code 1047 = .ok (.aload_n 0, 1) := dc_42 (dcc (r := 23) lq_16 rfl (Nat.le_of_ble_eq_true rfl) (by decide +kernel))
theorem dl_1048 : decode code 1048 = .ok (.iload_n 3, 1) := dc_29 (dcc (r := 24) lq_16 rfl (Nat.le_of_ble_eq_true rfl) (by decide +kernel))
theorem dl_1049 : decode code 1049 = .ok (.iconst 2, 1) := dc_5 (dcc (r := 25) lq_16 rfl (Nat.le_of_ble_eq_true rfl) (by decide +kernel))
theorem dl_1050 : decode code 1050 = .ok (.iadd, 1) := dc_96 (dcc (r := 26) lq_16 rfl (Nat.le_of_ble_eq_true rfl) (by decide +kernel))
theorem dl_1051 : decode code 1051 = .ok (.iaload, 1) := dc_46 (dcc (r := 27) lq_16 rfl (Nat.le_of_ble_eq_true rfl) (by decide +kernel))
theorem dl_1052 : decode code 1052 = .ok (.invokevirtual 128, 3) := dc_182 (a := 0) (b := 128) (dcc (r := 28) lq_16 rfl (Nat.le_of_ble_eq_true rfl) (by decide +kernel)) rfl
theorem dl_1055 : decode code 1055 = .ok (.pop, 1) := dc_87 (dcc (r := 31) lq_16 rfl (Nat.le_of_ble_eq_true rfl) (by decide +kernel))
theorem dl_1056 : decode code 1056 = .ok (.goto 303, 3) := dc_167 (a := 1) (b := 47) (dcc (r := 32) lq_16 rfl (Nat.le_of_ble_eq_true rfl) (by decide +kernel)) rfl
theorem dl_1059 : decode code 1059 = .ok (.aload_n 1, 1) := dc_43 (dcc (r := 35) lq_16 rfl (Nat.le_of_ble_eq_true rfl) (by decide +kernel))
theorem dl_1060 : decode code 1060 = .ok (.aload_n 0, 1) := dc_42 (dcc (r := 36) lq_16 rfl (Nat.le_of_ble_eq_true rfl) (by decide +kernel))
theorem dl_1061 : decode code 1061 = .ok (.iload_n 3, 1) := dc_29 (dcc (r := 37) lq_16 rfl (Nat.le_of_ble_eq_true rfl) (by decide +kernel))
theorem dl_1062 : decode code 1062 = .ok (.iconst 1, 1) := dc_4 (dcc (r := 38) lq_16 rfl (Nat.le_of_ble_eq_true rfl) (by decide +kernel))
theorem dl_1063 : decode code 1063 = .ok (.iadd, 1) := dc_96 (dcc (r := 39) lq_16 rfl (Nat.le_of_ble_eq_true rfl) (by decide +kernel))
theorem dl_1064 : decode code 1064 = .ok (.iaload, 1) := dc_46 (dcc (r := 40) lq_16 rfl (Nat.le_of_ble_eq_true rfl) (by decide +kernel))
theorem dl_1065 : decode code 1065 = .ok (.invokevirtual 129, 3) := dc_182 (a := 0) (b := 129) (dcc (r := 41) lq_16 rfl (Nat.le_of_ble_eq_true rfl) (by decide +kernel)) rfl
theorem dl_1068 : decode code 1068 = .ok (.pop, 1) := dc_87 (dcc (r := 44) lq_16 rfl (Nat.le_of_ble_eq_true rfl) (by decide +kernel))
theorem dl_1069 : decode code 1069 = .ok (.aload_n 2, 1) := dc_44 (dcc (r := 45) lq_16 rfl (Nat.le_of_ble_eq_true rfl) (by decide +kernel))
theorem dl_1070 : decode code 1070 = .ok (.aload_n 0, 1) := dc_42 (dcc (r := 46) lq_16 rfl (Nat.le_of_ble_eq_true rfl) (by decide +kernel))
theorem dl_1071 : decode code 1071 = .ok (.iload_n 3, 1) := dc_29 (dcc (r := 47) lq_16 rfl (Nat.le_of_ble_eq_true rfl) (by decide +kernel))
theorem dl_1072 : decode code 1072 = .ok (.iconst 1, 1) := dc_4 (dcc (r := 48) lq_16 rfl (Nat.le_of_ble_eq_true rfl) (by decide +kernel))
theorem dl_1073 : decode code 1073 = .ok (.iadd, 1) := dc_96 (dcc (r := 49) lq_16 rfl (Nat.le_of_ble_eq_true rfl) (by decide +kernel))
theorem dl_1074 : decode code 1074 = .ok (.iaload, 1) := dc_46 (dcc (r := 50) lq_16 rfl (Nat.le_of_ble_eq_true rfl) (by decide +kernel))
theorem dl_1075 : decode code 1075 = .ok (.invokevirtual 132, 3) := dc_182 (a := 0) (b := 132) (dcc (r := 51) lq_16 rfl (Nat.le_of_ble_eq_true rfl) (by decide +kernel)) rfl
theorem dl_1078 : decode code 1078 = .ok (.pop, 1) := dc_87 (dcc (r := 54) lq_16 rfl (Nat.le_of_ble_eq_true rfl) (by decide +kernel))
theorem dl_1079 : decode code 1079 = .ok (.goto 280, 3) := dc_167 (a := 1) (b := 24) (dcc (r := 55) lq_16 rfl (Nat.le_of_ble_eq_true rfl) (by decide +kernel)) rfl
theorem dl_1082 : decode code 1082 = .ok (.aload_n 1, 1) := dc_43 (dcc (r := 58) lq_16 rfl (Nat.le_of_ble_eq_true rfl) (by decide +kernel))
theorem dl_1083 : decode code 1083 = .ok (.aload_n 0, 1) := dc_42 (dcc (r := 59) lq_16 rfl (Nat.le_of_ble_eq_true rfl) (by decide +kernel))
theorem dl_1084 : decode code 1084 = .ok (.iload_n 3, 1) := dc_29 (dcc (r := 60) lq_16 rfl (Nat.le_of_ble_eq_true rfl) (by decide +kernel))
theorem dl_1085 : decode code 1085 = .ok (.iconst 1, 1) := dc_4 (dcc (r := 61) lq_16 rfl (Nat.le_of_ble_eq_true rfl) (by decide +kernel))
theorem dl_1086 : decode code 1086 = .ok (.iadd, 1) := dc_96 (dcc (r := 62) lq_16 rfl (Nat.le_of_ble_eq_true rfl) (by decide +kernel))
theorem dl_1087 : decode code 1087 = .ok (.iaload, 1) := dc_46 (dcc (r := 63) lq_16 rfl (Nat.le_of_ble_eq_true rfl) (by decide +kernel))
theorem dl_1088 : decode code 1088 = .ok (.invokevirtual 133, 3) := dc_182 (a := 0) (b := 133) (dcc (r := 0) lq_17 rfl (Nat.le_of_ble_eq_true rfl) (by decide +kernel)) rfl
theorem dl_1091 : decode code 1091 = .ok (.pop, 1) := dc_87 (dcc (r := 3) lq_17 rfl (Nat.le_of_ble_eq_true rfl) (by decide +kernel))
theorem dl_1092 : decode code 1092 = .ok (.aload_n 2, 1) := dc_44 (dcc (r := 4) lq_17 rfl (Nat.le_of_ble_eq_true rfl) (by decide +kernel))
theorem dl_1093 : decode code 1093 = .ok (.aload_n 0, 1) := dc_42 (dcc (r := 5) lq_17 rfl (Nat.le_of_ble_eq_true rfl) (by decide +kernel))
theorem dl_1094 : decode code 1094 = .ok (.iload_n 3, 1) := dc_29 (dcc (r := 6) lq_17 rfl (Nat.le_of_ble_eq_true rfl) (by decide +kernel))
theorem dl_1095 : decode code 1095 = .ok (.iconst 1, 1) := dc_4 (dcc (r := 7) lq_17 rfl (Nat.le_of_ble_eq_true rfl) (by decide +kernel))
theorem dl_1096 : decode code 1096 = .ok (.iadd, 1) := dc_96 (dcc (r := 8) lq_17 rfl (Nat.le_of_ble_eq_true rfl) (by decide +kernel))
theorem dl_1097 : decode code 1097 = .ok (.iaload, 1) := dc_46 (dcc (r := 9) lq_17 rfl (Nat.le_of_ble_eq_true rfl) (by decide +kernel))
theorem dl_1098 : decode code 1098 = .ok (.invokevirtual 136, 3) := dc_182 (a := 0) (b := 136) (dcc (r := 10) lq_17 rfl (Nat.le_of_ble_eq_true rfl) (by decide +kernel)) rfl
theorem dl_1101 : decode code 1101 = .ok (.pop, 1) := dc_87 (dcc (r := 13) lq_17 rfl (Nat.le_of_ble_eq_true rfl) (by decide +kernel))
theorem dl_1102 : decode code 1102 = .ok (.goto 257, 3) := dc_167 (a := 1) (b := 1) (dcc (r := 14) lq_17 rfl (Nat.le_of_ble_eq_true rfl) (by decide +kernel)) rfl
theorem dl_1105 : decode code 1105 = .ok (.aload_n 1, 1) := dc_43 (dcc (r := 17) lq_17 rfl (Nat.le_of_ble_eq_true rfl) (by decide +kernel))
theorem dl_1106 : decode code 1106 = .ok (.aload_n 0, 1) := dc_42 (dcc (r := 18) lq_17 rfl (Nat.le_of_ble_eq_true rfl) (by decide +kernel))
theorem dl_1107 : decode code 1107 = .ok (.iload_n 3, 1) := dc_29 (dcc (r := 19) lq_17 rfl (Nat.le_of_ble_eq_true rfl) (by decide +kernel))
theorem dl_1108 : decode code 1108 = .ok (.iconst 1, 1) := dc_4 (dcc (r := 20) lq_17 rfl (Nat.le_of_ble_eq_true rfl) (by decide +kernel))
theorem dl_1109 : decode code 1109 = .ok (.iadd, 1) := dc_96 (dcc (r := 21) lq_17 rfl (Nat.le_of_ble_eq_true rfl) (by decide +kernel))
theorem dl_1110 : decode code 1110 = .ok (.iaload, 1) := dc_46 (dcc (r := 22) lq_17 rfl (Nat.le_of_ble_eq_true rfl) (by decide +kernel))
theorem dl_1111 : decode code 1111 = .ok (.aload_n 0, 1) := dc_42 (dcc (r := 23) lq_17 rfl (Nat.le_of_ble_eq_true rfl) (by decide +kernel))
theorem dl_1112 : decode code 1112 = .ok (.iload_n 3, 1) := dc_29 (dcc (r := 24) lq_17 rfl (Nat.le_of_ble_eq_true rfl) (by decide +kernel))
theorem dl_1113 : decode code 1113 = .ok (.iconst 2, 1) := dc_5 (dcc (r := 25) lq_17 rfl (Nat.le_of_ble_eq_true rfl) (by decide +kernel))
theorem dl_1114 : decode code 1114 = .ok (.iadd, 1) := dc_96 (dcc (r := 26) lq_17 rfl (Nat.le_of_ble_eq_true rfl) (by decide +kernel))
theorem dl_1115 : decode code 1115 = .ok (.iaload, 1) := dc_46 (dcc (r := 27) lq_17 rfl (Nat.le_of_ble_eq_true rfl) (by decide +kernel))
theorem dl_1116 : decode code 1116 = .ok (.invokevirtual 137, 3) := dc_182 (a := 0) (b := 137) (dcc (r := 28) lq_17 rfl (Nat.le_of_ble_eq_true rfl) (by decide +kernel)) rfl
theorem dl_1119 : decode code 1119 = .ok (.pop, 1) := dc_87 (dcc (r := 31) lq_17 rfl (Nat.le_of_ble_eq_true rfl) (by decide +kernel))
theorem dl_1120 : decode code 1120 = .ok (.aload_n 2, 1) := dc_44 (dcc (r := 32) lq_17 rfl (Nat.le_of_ble_eq_true rfl) (by decide +kernel))
theorem dl_1121 : decode code 1121 = .ok (.aload_n 0, 1) := dc_42 (dcc (r := 33) lq_17 rfl (Nat.le_of_ble_eq_true rfl) (by decide +kernel))
theorem dl_1122 : decode code 1122 = .ok (.iload_n 3, 1) := dc_29 (dcc (r := 34) lq_17 rfl (Nat.le_of_ble_eq_true rfl) (by decide +kernel))
theorem dl_1123 : decode code 1123 = .ok (.iconst 1, 1) := dc_4 (dcc (r := 35) lq_17 rfl (Nat.le_of_ble_eq_true rfl) (by decide +kernel))
theorem dl_1124 : decode code 1124 = .ok (.iadd, 1) := dc_96 (dcc (r := 36) lq_17 rfl (Nat.le_of_ble_eq_true rfl) (by decide +kernel))
theorem dl_1125 : decode code 1125 = .ok (.iaload, 1) := dc_46 (dcc (r := 37) lq_17 rfl (Nat.le_of_ble_eq_true rfl) (by decide +kernel))
theorem dl_1126 : decode code 1126 = .ok (.aload_n 0, 1) := dc_42 (dcc (r := 38) lq_17 rfl (Nat.le_of_ble_eq_true rfl) (by decide +kernel))
theorem dl_1127 : decode code 1127 = .ok (.iload_n 3, 1) := dc_29 (dcc (r := 39) lq_17 rfl (Nat.le_of_ble_eq_true rfl) (by decide +kernel))
theorem dl_1128 : decode code 1128 = .ok (.iconst 2, 1) := dc_5 (dcc (r := 40) lq_17 rfl (Nat.le_of_ble_eq_true rfl) (by decide +kernel))
theorem dl_1129 : decode code 1129 = .ok (.iadd, 1) := dc_96 (dcc (r := 41) lq_17 rfl (Nat.le_of_ble_eq_true rfl) (by decide +kernel))
theorem dl_1130 : decode code 1130 = .ok (.iaload, 1) := dc_46 (dcc (r := 42) lq_17 rfl (Nat.le_of_ble_eq_true rfl) (by decide +kernel))
theorem dl_1131 : decode code 1131 = .ok (.invokevirtual 140, 3) := dc_182 (a := 0) (b := 140) (dcc (r := 43) lq_17 rfl (Nat.le_of_ble_eq_true rfl) (by decide +kernel)) rfl
theorem dl_1134 : decode code 1134 = .ok (.pop, 1) := dc_87 (dcc (r := 46) lq_17 rfl (Nat.le_of_ble_eq_true rfl) (by decide +kernel))
theorem dl_1135 : decode code 1135 = .ok (.goto 224, 3) := dc_167 (a := 0) (b := 224) (dcc (r := 47) lq_17 rfl (Nat.le_of_ble_eq_true rfl) (by decide +kernel)) rfl
theorem dl_1138 : decode code 1138 = .ok (.aload_n 1, 1) := dc_43 (dcc (r := 50) lq_17 rfl (Nat.le_of_ble_eq_true rfl) (by decide +kernel))
theorem dl_1139 : decode code 1139 = .ok (.aload_n 0, 1) := dc_42 (dcc (r := 51) lq_17 rfl (Nat.le_of_ble_eq_true rfl) (by decide +kernel))
theorem dl_1140 : decode code 1140 = .ok (.iload_n 3, 1) := dc_29 (dcc (r := 52) lq_17 rfl (Nat.le_of_ble_eq_true rfl) (by decide +kernel))
theorem dl_1141 : decode code 1141 = .ok (.iconst 1, 1) := dc_4 (dcc (r := 53) lq_17 rfl (Nat.le_of_ble_eq_true rfl) (by decide +kernel))
theorem dl_1142 : decode code 1142 = .ok (.iadd, 1) := dc_96 (dcc (r := 54) lq_17 rfl (Nat.le_of_ble_eq_true rfl) (by decide +kernel))
theorem dl_1143 : decode code 1143 = .ok (.iaload, 1) := dc_46 (dcc (r := 55) lq_17 rfl (Nat.le_of_ble_eq_true rfl) (by decide +kernel))
theorem dl_1144 : decode code 1144 = .ok (.invokevirtual 141, 3) := dc_182 (a := 0) (b := 141) (dcc (r := 56) lq_17 rfl (Nat.le_of_ble_eq_true rfl) (by decide +kernel)) rfl
theorem dl_1147 : decode code 1147 = .ok (.pop, 1) := dc_87 (dcc (r := 59) lq_17 rfl (Nat.le_of_ble_eq_true rfl) (by decide +kernel))
theorem dl_1148 : decode code 1148 = .ok (.aload_n 2, 1) := dc_44 (dcc (r := 60) lq_17 rfl (Nat.le_of_ble_eq_true rfl) (by decide +kernel))
theorem dl_1149 : decode code 1149 = .ok (.aload_n 0, 1) := dc_42 (dcc (r := 61) lq_17 rfl (Nat.le_of_ble_eq_true rfl) (by decide +kernel))
theorem dl_1150 : decode code 1150 = .ok (.iload_n 3, 1) := dc_29 (dcc (r := 62) lq_17 rfl (Nat.le_of_ble_eq_true rfl) (by decide +kernel))
theorem dl_1151 : decode code 1151 = .ok (.iconst 1, 1) := dc_4 (dcc (r := 63) lq_17 rfl (Nat.le_of_ble_eq_true rfl) (by decide +kernel))
theorem dl_1152 : decode code 1152 = .ok (.iadd, 1) := dc_96 (dcc (r := 0) lq_18 rfl (Nat.le_of_ble_eq_true rfl) (by decide +kernel))
theorem dl_1153 : decode code 1153 = .ok (.iaload, 1) := dc_46 (dcc (r := 1) lq_18 rfl (Nat.le_of_ble_eq_true rfl) (by decide +kernel))
theorem dl_1154 : decode code 1154 = .ok (.invokevirtual 144, 3) := dc_182 (a := 0) (b := 144) (dcc (r := 2) lq_18 rfl (Nat.le_of_ble_eq_true rfl) (by decide +kernel)) rfl
theorem dl_1157 : decode code 1157 = .ok (.pop, 1) := dc_87 (dcc (r := 5) lq_18 rfl (Nat.le_of_ble_eq_true rfl) (by decide +kernel))
theorem dl_1158 : decode code 1158 = .ok (.goto 201, 3) := dc_167 (a := 0) (b := 201) (dcc (r := 6) lq_18 rfl (Nat.le_of_ble_eq_true rfl) (by decide +kernel)) rfl
theorem dl_1161 : decode code 1161 = .ok (.aload_n 1, 1) := dc_43 (dcc (r := 9) lq_18 rfl (Nat.le_of_ble_eq_true rfl) (by decide +kernel))
theorem dl_1162 : decode code 1162 = .ok (.aload_n 0, 1) := dc_42 (dcc (r := 10) lq_18 rfl (Nat.le_of_ble_eq_true rfl) (by decide +kernel))
theorem dl_1163 : decode code 1163 = .ok (.iload_n 3, 1) := dc_29 (dcc (r := 11) lq_18 rfl (Nat.le_of_ble_eq_true rfl) (by decide +kernel))
theorem dl_1164 : decode code 1164 = .ok (.iconst 1, 1) := dc_4 (dcc (r := 12) lq_18 rfl (Nat.le_of_ble_eq_true rfl) (by decide +kernel))
theorem dl_1165 : decode code 1165 = .ok (.iadd, 1) := dc_96 (dcc (r := 13) lq_18 rfl (Nat.le_of_ble_eq_true rfl) (by decide +kernel))
theorem dl_1166 : decode code 1166 = .ok (.iaload, 1) := dc_46 (dcc (r := 14) lq_18 rfl (Nat.le_of_ble_eq_true rfl) (by decide +kernel))
theorem dl_1167 : decode code 1167 = .ok (.invokevirtual 145, 3) := dc_182 (a := 0) (b := 145) (dcc (r := 15) lq_18 rfl (Nat.le_of_ble_eq_true rfl) (by decide +kernel)) rfl
theorem dl_1170 : decode code 1170 = .ok (.pop, 1) := dc_87 (dcc (r := 18) lq_18 rfl (Nat.le_of_ble_eq_true rfl) (by decide +kernel))
theorem dl_1171 : decode code 1171 = .ok (.aload_n 2, 1) := dc_44 (dcc (r := 19) lq_18 rfl (Nat.le_of_ble_eq_true rfl) (by decide +kernel))
theorem dl_1172 : decode code 1172 = .ok (.aload_n 0, 1) := dc_42 (dcc (r := 20) lq_18 rfl (Nat.le_of_ble_eq_true rfl) (by decide +kernel))
theorem dl_1173 : decode code 1173 = .ok (.iload_n 3, 1) := dc_29 (dcc (r := 21) lq_18 rfl (Nat.le_of_ble_eq_true rfl) (by decide +kernel))
theorem dl_1174 : decode code 1174 = .ok (.iconst 1, 1) := dc_4 (dcc (r := 22) lq_18 rfl (Nat.le_of_ble_eq_true rfl) (by decide +kernel))
theorem dl_1175 : decode code 1175 = .ok (.iadd, 1) := dc_96 (dcc (r := 23) lq_18 rfl (Nat.le_of_ble_eq_true rfl) (by decide +kernel))
theorem dl_1176 : decode code 1176 = .ok (.iaload, 1) := dc_46 (dcc (r := 24) lq_18 rfl (Nat.le_of_ble_eq_true rfl) (by decide +kernel))
theorem dl_1177 : decode code 1177 = .ok (.invokevirtual 148, 3) := dc_182 (a := 0) (b := 148) (dcc (r := 25) lq_18 rfl (Nat.le_of_ble_eq_true rfl) (by decide +kernel)) rfl
theorem dl_1180 : decode code 1180 = .ok (.pop, 1) := dc_87 (dcc (r := 28) lq_18 rfl (Nat.le_of_ble_eq_true rfl) (by decide +kernel))
theorem dl_1181 : decode code 1181 = .ok (.goto 178, 3) := dc_167 (a := 0) (b := 178) (dcc (r := 29) lq_18 rfl (Nat.le_of_ble_eq_true rfl) (by decide +kernel)) rfl
theorem dl_1184 : decode code 1184 = .ok (.aload_n 1, 1) := dc_43 (dcc (r := 32) lq_18 rfl (Nat.le_of_ble_eq_true rfl) (by decide +kernel))
theorem dl_1185 : decode code 1185 = .ok (.aload_n 0, 1) := dc_42 (dcc (r := 33) lq_18 rfl (Nat.le_of_ble_eq_true rfl) (by decide +kernel))
theorem dl_1186 : decode code 1186 = .ok (.iload_n 3, 1) := dc_29 (dcc (r := 34) lq_18 rfl (Nat.le_of_ble_eq_true rfl) (by decide +kernel))
theorem dl_1187 : decode code 1187 = .ok (.iconst 1, 1) := dc_4 (dcc (r := 35) lq_18 rfl (Nat.le_of_ble_eq_true rfl) (by decide +kernel))
theorem dl_1188 : decode code 1188 = .ok (.iadd, 1) := dc_96 (dcc (r := 36) lq_18 rfl (Nat.le_of_ble_eq_true rfl) (by decide +kernel))
theorem dl_1189 : decode code 1189 = .ok (.iaload, 1) := dc_46 (dcc (r := 37) lq_18 rfl (Nat.le_of_ble_eq_true rfl) (by decide +kernel))
theorem dl_1190 : decode code 1190 = .ok (.aload_n 0, 1) := dc_42 (dcc (r := 38) lq_18 rfl (Nat.le_of_ble_eq_true rfl) (by decide +kernel))
theorem dl_1191 : decode code 1191 = .ok (.iload_n 3, 1) := dc_29 (dcc (r := 39) lq_18 rfl (Nat.le_of_ble_eq_true rfl) (by decide +kernel))
theorem dl_1192 : decode code 1192 = .ok (.iconst 2, 1) := dc_5 (dcc (r := 40) lq_18 rfl (Nat.le_of_ble_eq_true rfl) (by decide +kernel))
theorem dl_1193 : decode code 1193 = .ok (.iadd, 1) := dc_96 (dcc (r := 41) lq_18 rfl (Nat.le_of_ble_eq_true rfl) (by decide +kernel))
theorem dl_1194 : decode code 1194 = .ok (.iaload, 1) := dc_46 (dcc (r := 42) lq_18 rfl (Nat.le_of_ble_eq_true rfl) (by decide +kernel))
theorem dl_1195 : decode code 1195 = .ok (.aload_n 0, 1) := dc_42 (dcc (r := 43) lq_18 rfl (Nat.le_of_ble_eq_true rfl) (by decide +kernel))
theorem dl_1196 : decode code 1196 = .ok (.iload_n 3, 1) := dc_29 (dcc (r := 44) lq_18 rfl (Nat.le_of_ble_eq_true rfl) (by decide +kernel))
theorem dl_1197 : decode code 1197 = .ok (.iconst 3, 1) := dc_6 (dcc (r := 45) lq_18 rfl (Nat.le_of_ble_eq_true rfl) (by decide +kernel))
theorem dl_1198 : decode code 1198 = .ok (.iadd, 1) := dc_96 (dcc (r := 46) lq_18 rfl (Nat.le_of_ble_eq_true rfl) (by decide +kernel))
theorem dl_1199 : decode code 1199 = .ok (.iaload, 1) := dc_46 (dcc (r := 47) lq_18 rfl (Nat.le_of_ble_eq_true rfl) (by decide +kernel))
theorem dl_1200 : decode code 1200 = .ok (.invokevirtual 149, 3) := dc_182 (a := 0) (b := 149) (dcc (r := 48) lq_18 rfl (Nat.le_of_ble_eq_true rfl) (by decide +kernel)) rfl
theorem dl_1203 : decode code 1203 = .ok (.pop, 1) := dc_87 (dcc (r := 51) lq_18 rfl (Nat.le_of_ble_eq_true rfl) (by decide +kernel))
theorem dl_1204 : decode code 1204 = .ok (.aload_n 2, 1) := dc_44 (dcc (r := 52) lq_18 rfl (Nat.le_of_ble_eq_true rfl) (by decide +kernel))
theorem dl_1205 : decode code 1205 = .ok (.aload_n 0, 1) := dc_42 (dcc (r := 53) lq_18 rfl (Nat.le_of_ble_eq_true rfl) (by decide +kernel))
theorem dl_1206 : decode code 1206 = .ok (.iload_n 3, 1) := dc_29 (dcc (r := 54) lq_18 rfl (Nat.le_of_ble_eq_true rfl) (by decide +kernel))
theorem dl_1207 : decode code 1207 = .ok (.iconst 1, 1) := dc_4 (dcc (r := 55) lq_18 rfl (Nat.le_of_ble_eq_true rfl) (by decide +kernel))
theorem dl_1208 : decode code 1208 = .ok (.iadd, 1) := dc_96 (dcc (r := 56) lq_18 rfl (Nat.le_of_ble_eq_true rfl) (by decide +kernel))
theorem dl_1209 : decode code 1209 = .ok (.iaload, 1) := dc_46 (dcc (r := 57) lq_18 rfl (Nat.le_of_ble_eq_true rfl) (by decide +kernel))
theorem dl_1210 : decode code 1210 = .ok (.aload_n 0, 1) := dc_42 (dcc (r := 58) lq_18 rfl (Nat.le_of_ble_eq_true rfl) (by decide +kernel))
theorem dl_1211 : decode code 1211 = .ok (.iload_n 3, 1) := dc_29 (dcc (r := 59) lq_18 rfl (Nat.le_of_ble_eq_true rfl) (by decide +kernel))
theorem dl_1212 : decode code 1212 = .ok (.iconst 2, 1) := dc_5 (dcc (r := 60) lq_18 rfl (Nat.le_of_ble_eq_true rfl) (by decide +kernel))
theorem dl_1213 : decode code 1213 = .ok (.iadd, 1) := dc_96 (dcc (r := 61) lq_18 rfl (Nat.le_of_ble_eq_true rfl) (by decide +kernel))
theorem dl_1214 : decode code 1214 = .ok (.iaload, 1) := dc_46 (dcc (r := 62) lq_18 rfl (Nat.le_of_ble_eq_true rfl) (by decide +kernel))
theorem dl_1215 : decode code 1215 = .ok (.aload_n 0, 1) := dc_42 (dcc (r := 63) lq_18 rfl (Nat.le_of_ble_eq_true rfl) (by decide +kernel))
theorem dl_1216 : decode code 1216 = .ok (.iload_n 3, 1) := dc_29 (dcc (r := 0) lq_19 rfl (Nat.le_of_ble_eq_true rfl) (by decide +kernel))
theorem dl_1217 : decode code 1217 = .ok (.iconst 3, 1) := dc_6 (dcc (r := 1) lq_19 rfl (Nat.le_of_ble_eq_true rfl) (by decide +kernel))
theorem dl_1218 : decode code 1218 = .ok (.iadd, 1) := dc_96 (dcc (r := 2) lq_19 rfl (Nat.le_of_ble_eq_true rfl) (by decide +kernel))
theorem dl_1219 : decode code 1219 = .ok (.iaload, 1) := dc_46 (dcc (r := 3) lq_19 rfl (Nat.le_of_ble_eq_true rfl) (by decide +kernel))
theorem dl_1220 : decode code 1220 = .ok (.invokevirtual 152, 3) := dc_182 (a := 0) (b := 152) (dcc (r := 4) lq_19 rfl (Nat.le_of_ble_eq_true rfl) (by decide +kernel)) rfl
theorem dl_1223 : decode code 1223 = .ok (.pop, 1) := dc_87 (dcc (r := 7) lq_19 rfl (Nat.le_of_ble_eq_true rfl) (by decide +kernel))
theorem dl_1224 : decode code 1224 = .ok (.goto 135, 3) := dc_167 (a := 0) (b := 135) (dcc (r := 8) lq_19 rfl (Nat.le_of_ble_eq_true rfl) (by decide +kernel)) rfl
theorem dl_1227 : decode code 1227 = .ok (.aload_n 1, 1) := dc_43 (dcc (r := 11) lq_19 rfl (Nat.le_of_ble_eq_true rfl) (by decide +kernel))
theorem dl_1228 : decode code 1228 = .ok (.aload_n 0, 1) := dc_42 (dcc (r := 12) lq_19 rfl (Nat.le_of_ble_eq_true rfl) (by decide +kernel))
theorem dl_1229 : decode code 1229 = .ok (.iload_n 3, 1) := dc_29 (dcc (r := 13) lq_19 rfl (Nat.le_of_ble_eq_true rfl) (by decide +kernel))
theorem dl_1230 : decode code 1230 = .ok (.iconst 1, 1) := dc_4 (dcc (r := 14) lq_19 rfl (Nat.le_of_ble_eq_true rfl) (by decide +kernel))
theorem dl_1231 : decode code 1231 = .ok (.iadd, 1) := dc_96 (dcc (r := 15) lq_19 rfl (Nat.le_of_ble_eq_true rfl) (by decide +kernel))
theorem dl_1232 : decode code 1232 = .ok (.iaload, 1) := dc_46 (dcc (r := 16) lq_19 rfl (Nat.le_of_ble_eq_true rfl) (by decide +kernel))
theorem dl_1233 : decode code 1233 = .ok (.aload_n 0, 1) := dc_42 (dcc (r := 17) lq_19 rfl (Nat.le_of_ble_eq_true rfl) (by decide +kernel))
theorem dl_1234 : decode code 1234 = .ok (.iload_n 3, 1) := dc_29 (dcc (r := 18) lq_19 rfl (Nat.le_of_ble_eq_true rfl) (by decide +kernel))
theorem dl_1235 : decode code 1235 = .ok (.iconst 2, 1) := dc_5 (dcc (r := 19) lq_19 rfl (Nat.le_of_ble_eq_true rfl) (by decide +kernel))
theorem dl_1236 : decode code 1236 = .ok (.iadd, 1) := dc_96 (dcc (r := 20) lq_19 rfl (Nat.le_of_ble_eq_true rfl) (by decide +kernel))
theorem dl_1237 : decode code 1237 = .ok (.iaload, 1) := dc_46 (dcc (r := 21) lq_19 rfl (Nat.le_of_ble_eq_true rfl) (by decide +kernel))
theorem dl_1238 : decode code 1238 = .ok (.aload_n 0, 1) := dc_42 (dcc (r := 22) lq_19 rfl (Nat.le_of_ble_eq_true rfl) (by decide +kernel))
theorem dl_1239 : decode code 1239 = .ok (.iload_n 3, 1) := dc_29 (dcc (r := 23) lq_19 rfl (Nat.le_of_ble_eq_true rfl) (by decide +kernel))
theorem dl_1240 : decode code 1240 = .ok (.iconst 3, 1) := dc_6 (dcc (r := 24) lq_19 rfl (Nat.le_of_ble_eq_true rfl) (by decide +kernel))
theorem dl_1241 : decode code 1241 = .ok (.iadd, 1) := dc_96 (dcc (r := 25) lq_19 rfl (Nat.le_of_ble_eq_true rfl) (by decide +kernel))
theorem dl_1242 : decode code 1242 = .ok (.iaload, 1) := dc_46 (dcc (r := 26) lq_19 rfl (Nat.le_of_ble_eq_true rfl) (by decide +kernel))
theorem dl_1243 : decode code 1243 = .ok (.invokevirtual 153, 3) := dc_182 (a := 0) (b := 153) (dcc (r := 27) lq_19 rfl (Nat.le_of_ble_eq_true rfl) (by decide +kernel)) rfl
theorem dl_1246 : decode code 1246 = .ok (.pop, 1) := dc_87 (dcc (r := 30) lq_19 rfl (Nat.le_of_ble_eq_true rfl) (by decide +kernel))
theorem dl_1247 : decode code 1247 = .ok (.aload_n 2, 1) := dc_44 (dcc (r := 31) lq_19 rfl (Nat.le_of_ble_eq_true rfl) (by decide +kernel))
theorem dl_1248 : decode code 1248 = .ok (.aload_n 0, 1) := dc_42 (dcc (r := 32) lq_19 rfl (Nat.le_of_ble_eq_true rfl) (by decide +kernel))
theorem dl_1249 : decode code 1249 = .ok (.iload_n 3, 1) := dc_29 (dcc (r := 33) lq_19 rfl (Nat.le_of_ble_eq_true rfl) (by decide +kernel))
theorem dl_1250 : decode code 1250 = .ok (.iconst 1, 1) := dc_4 (dcc (r := 34) lq_19 rfl (Nat.le_of_ble_eq_true rfl) (by decide +kernel))
theorem dl_1251 : decode code 1251 = .ok (.iadd, 1) := dc_96 (dcc (r := 35) lq_19 rfl (Nat.le_of_ble_eq_true rfl) (by decide +kernel))
theorem dl_1252 : decode code 1252 = .ok (.iaload, 1) := dc_46 (dcc (r := 36) lq_19 rfl (Nat.le_of_ble_eq_true rfl) (by decide +kernel))
theorem dl_1253 : decode code 1253 = .ok (.aload_n 0, 1) := dc_42 (dcc (r := 37) lq_19 rfl (Nat.le_of_ble_eq_true rfl) (by decide +kernel))
theorem dl_1254 : decode code 1254 = .ok (.iload_n 3, 1) := dc_29 (dcc (r := 38) lq_19 rfl (Nat.le_of_ble_eq_true rfl) (by decide +kernel))
theorem dl_1255 : decode code 1255 = .ok (.iconst 2, 1) := dc_5 (dcc (r := 39) lq_19 rfl (Nat.le_of_ble_eq_true rfl) (by decide +kernel))
theorem dl_1256 : decode code 1256 = .ok (.iadd, 1) := dc_96 (dcc (r := 40) lq_19 rfl (Nat.le_of_ble_eq_true rfl) (by decide +kernel))
theorem dl_1257 : decode code 1257 = .ok (.iaload, 1) := dc_46 (dcc (r := 41) lq_19 rfl (Nat.le_of_ble_eq_true rfl) (by decide +kernel))
theorem dl_1258 : decode code 1258 = .ok (.aload_n 0, 1) := dc_42 (dcc (r := 42) lq_19 rfl (Nat.le_of_ble_eq_true rfl) (by decide +kernel))
theorem dl_1259 : decode code 1259 = .ok (.iload_n 3, 1) := dc_29 (dcc (r := 43) lq_19 rfl (Nat.le_of_ble_eq_true rfl) (by decide +kernel))
theorem dl_1260 : decode code 1260 = .ok (.iconst 3, 1) := dc_6 (dcc (r := 44) lq_19 rfl (Nat.le_of_ble_eq_true rfl) (by decide +kernel))
theorem dl_1261 : decode code 1261 = .ok (.iadd, 1) := dc_96 (dcc (r := 45) lq_19 rfl (Nat.le_of_ble_eq_true rfl) (by decide +kernel))
theorem dl_1262 : decode code 1262 = .ok (.iaload, 1) := dc_46 (dcc (r := 46) lq_19 rfl (Nat.le_of_ble_eq_true rfl) (by decide +kernel))
theorem dl_1263 : decode code 1263 = .ok (.invokevirtual 156, 3) := dc_182 (a := 0) (b := 156) (dcc (r := 47) lq_19 rfl (Nat.le_of_ble_eq_true rfl) (by decide +kernel)) rfl
theorem dl_1266 : decode code 1266 = .ok (.pop, 1) := dc_87 (dcc (r := 50) lq_19 rfl (Nat.le_of_ble_eq_true rfl) (by decide +kernel))
theorem dl_1267 : decode code 1267 = .ok (.goto 92, 3) := dc_167 (a := 0) (b := 92) (dcc (r := 51) lq_19 rfl (Nat.le_of_ble_eq_true rfl) (by decide +kernel)) rfl
theorem dl_1270 : decode code 1270 = .ok (.aload_n 1, 1) := dc_43 (dcc (r := 54) lq_19 rfl (Nat.le_of_ble_eq_true rfl) (by decide +kernel))
theorem dl_1271 : decode code 1271 = .ok (.aload_n 0, 1) := dc_42 (dcc (r := 55) lq_19 rfl (Nat.le_of_ble_eq_true rfl) (by decide +kernel))
theorem dl_1272 : decode code 1272 = .ok (.iload_n 3, 1) := dc_29 (dcc (r := 56) lq_19 rfl (Nat.le_of_ble_eq_true rfl) (by decide +kernel))
theorem dl_1273 : decode code 1273 = .ok (.iconst 1, 1) := dc_4 (dcc (r := 57) lq_19 rfl (Nat.le_of_ble_eq_true rfl) (by decide +kernel))
theorem dl_1274 : decode code 1274 = .ok (.iadd, 1) := dc_96 (dcc (r := 58) lq_19 rfl (Nat.le_of_ble_eq_true rfl) (by decide +kernel))
theorem dl_1275 : decode code 1275 = .ok (.iaload, 1) := dc_46 (dcc (r := 59) lq_19 rfl (Nat.le_of_ble_eq_true rfl) (by decide +kernel))
theorem dl_1276 : decode code 1276 = .ok (.aload_n 0, 1) := dc_42 (dcc (r := 60) lq_19 rfl (Nat.le_of_ble_eq_true rfl) (by decide +kernel))
theorem dl_1277 : decode code 1277 = .ok (.iload_n 3, 1) := dc_29 (dcc (r := 61) lq_19 rfl (Nat.le_of_ble_eq_true rfl) (by decide +kernel))
theorem dl_1278 : decode code 1278 = .ok (.iconst 2, 1) := dc_5 (dcc (r := 62) lq_19 rfl (Nat.le_of_ble_eq_true rfl) (by decide +kernel))
theorem dl_1279 : decode code 1279 = .ok (.iadd, 1) := dc_96 (dcc (r := 63) lq_19 rfl (Nat.le_of_ble_eq_true rfl) (by decide +kernel))
theorem dl_1280 : decode code 1280 = .ok (.iaload, 1) := dc_46 (dcc (r := 0) lq_20 rfl (Nat.le_of_ble_eq_true rfl) (by decide +kernel))
theorem dl_1281 : decode code 1281 = .ok (.aload_n 0, 1) := dc_42 (dcc (r := 1) lq_20 rfl (Nat.le_of_ble_eq_true rfl) (by decide +kernel))
theorem dl_1282 : decode code 1282 = .ok (.iload_n 3, 1) := dc_29 (dcc (r := 2) lq_20 rfl (Nat.le_of_ble_eq_true rfl) (by decide +kernel))
theorem dl_1283 : decode code 1283 = .ok (.iconst 3, 1) := dc_6 (dcc (r := 3) lq_20 rfl (Nat.le_of_ble_eq_true rfl) (by decide +kernel))
theorem dl_1284 : decode code 1284 = .ok (.iadd, 1) := dc_96 (dcc (r := 4) lq_20 rfl (Nat.le_of_ble_eq_true rfl) (by decide +kernel))
theorem dl_1285 : decode code 1285 = .ok (.iaload, 1) := dc_46 (dcc (r := 5) lq_20 rfl (Nat.le_of_ble_eq_true rfl) (by decide +kernel))
theorem dl_1286 : decode code 1286 = .ok (.aload_n 0, 1) := dc_42 (dcc (r := 6) lq_20 rfl (Nat.le_of_ble_eq_true rfl) (by decide +kernel))
theorem dl_1287 : decode code 1287 = .ok (.iload_n 3, 1) := dc_29 (dcc (r := 7) lq_20 rfl (Nat.le_of_ble_eq_true rfl) (by decide +kernel))
theorem dl_1288 : decode code 1288 = .ok (.iconst 4, 1) := dc_7 (dcc (r := 8) lq_20 rfl (Nat.le_of_ble_eq_true rfl) (by decide +kernel))
theorem dl_1289 : decode code 1289 = .ok (.iadd, 1) := dc_96 (dcc (r := 9) lq_20 rfl (Nat.le_of_ble_eq_true rfl) (by decide +kernel))
theorem dl_1290 : decode code 1290 = .ok (.iaload, 1) := dc_46 (dcc (r := 10) lq_20 rfl (Nat.le_of_ble_eq_true rfl) (by decide +kernel))
theorem dl_1291 : decode code 1291 = .ok (.invokevirtual 157, 3) := dc_182 (a := 0) (b := 157) (dcc (r := 11) lq_20 rfl (Nat.le_of_ble_eq_true rfl) (by decide +kernel)) rfl
theorem dl_1294 : decode code 1294 = .ok (.pop, 1) := dc_87 (dcc (r := 14) lq_20 rfl (Nat.le_of_ble_eq_true rfl) (by decide +kernel))
theorem dl_1295 : decode code 1295 = .ok (.aload_n 2, 1) := dc_44 (dcc (r := 15) lq_20 rfl (Nat.le_of_ble_eq_true rfl) (by decide +kernel))
theorem dl_1296 : decode code 1296 = .ok (.aload_n 0, 1) := dc_42 (dcc (r := 16) lq_20 rfl (Nat.le_of_ble_eq_true rfl) (by decide +kernel))
theorem dl_1297 : decode code 1297 = .ok (.iload_n 3, 1) := dc_29 (dcc (r := 17) lq_20 rfl (Nat.le_of_ble_eq_true rfl) (by decide +kernel))
theorem dl_1298 : decode code 1298 = .ok (.iconst 1, 1) := dc_4 (dcc (r := 18) lq_20 rfl (Nat.le_of_ble_eq_true rfl) (by decide +kernel))
theorem dl_1299 : decode code 1299 = .ok (.iadd, 1) := dc_96 (dcc (r := 19) lq_20 rfl (Nat.le_of_ble_eq_true rfl) (by decide +kernel))
theorem dl_1300 : decode code 1300 = .ok (.iaload, 1) := dc_46 (dcc (r := 20) lq_20 rfl (Nat.le_of_ble_eq_true rfl) (by decide +kernel))
theorem dl_1301 : decode code 1301 = .ok (.aload_n 0, 1) := dc_42 (dcc (r := 21) lq_20 rfl (Nat.le_of_ble_eq_true rfl) (by decide +kernel))
theorem dl_1302 : decode code 1302 = .ok (.iload_n 3, 1) := dc_29 (dcc (r := 22) lq_20 rfl (Nat.le_of_ble_eq_true rfl) (by decide +kernel))
theorem dl_1303 : decode code 1303 = .ok (.iconst 2, 1) := dc_5 (dcc (r := 23) lq_20 rfl (Nat.le_of_ble_eq_true rfl) (by decide +kernel))
theorem dl_1304 : decode code 1304 = .ok (.iadd, 1) := dc_96 (dcc (r := 24) lq_20 rfl (Nat.le_of_ble_eq_true rfl) (by decide +kernel))
theorem dl_1305 : decode code 1305 = .ok (.iaload, 1) := dc_46 (dcc (r := 25) lq_20 rfl (Nat.le_of_ble_eq_true rfl) (by decide +kernel))
theorem dl_1306 : decode code 1306 = .ok (.aload_n 0, 1) := dc_42 (dcc (r := 26) lq_20 rfl (Nat.le_of_ble_eq_true rfl) (by decide +kernel))
theorem dl_1307 : decode code 1307 = .ok (.iload_n 3, 1) := dc_29 (dcc (r := 27) lq_20 rfl (Nat.le_of_ble_eq_true rfl) (by decide +kernel))
theorem dl_1308 : decode code 1308 = .ok (.iconst 3, 1) := dc_6 (dcc (r := 28) lq_20 rfl (Nat.le_of_ble_eq_true rfl) (by decide +kernel))
theorem dl_1309 : decode code 1309 = .ok (.iadd, 1) := dc_96 (dcc (r := 29) lq_20 rfl (Nat.le_of_ble_eq_true rfl) (by decide +kernel))
theorem dl_1310 : decode code 1310 = .ok (.iaload, 1) := dc_46 (dcc (r := 30) lq_20 rfl (Nat.le_of_ble_eq_true rfl) (by decide +kernel))
theorem dl_1311 : decode code 1311 = .ok (.aload_n 0, 1) := dc_42 (dcc (r := 31) lq_20 rfl (Nat.le_of_ble_eq_true rfl) (by decide +kernel))
theorem dl_1312 : decode code 1312 = .ok (.iload_n 3, 1) := dc_29 (dcc (r := 32) lq_20 rfl (Nat.le_of_ble_eq_true rfl) (by decide +kernel))
theorem dl_1313 : decode code 1313 = .ok (.iconst 4, 1) := dc_7 (dcc (r := 33) lq_20 rfl (Nat.le_of_ble_eq_true rfl) (by decide +kernel))
theorem dl_1314 : decode code 1314 = .ok (.iadd, 1) := dc_96 (dcc (r := 34) lq_20 rfl (Nat.le_of_ble_eq_true rfl) (by decide +kernel))
theorem dl_1315 : decode code 1315 = .ok (.iaload, 1) := dc_46 (dcc (r := 35) lq_20 rfl (Nat.le_of_ble_eq_true rfl) (by decide +kernel))
theorem dl_1316 : decode code 1316 = .ok (.invokevirtual 160, 3) := dc_182 (a := 0) (b := 160) (dcc (r := 36) lq_20 rfl (Nat.le_of_ble_eq_true rfl) (by decide +kernel)) rfl
theorem dl_1319 : decode code 1319 = .ok (.pop, 1) := dc_87 (dcc (r := 39) lq_20 rfl (Nat.le_of_ble_eq_true rfl) (by decide +kernel))
theorem dl_1320 : decode code 1320 = .ok (.goto 39, 3) := dc_167 (a := 0) (b := 39) (dcc (r := 40) lq_20 rfl (Nat.le_of_ble_eq_true rfl) (by decide +kernel)) rfl
theorem dl_1323 : decode code 1323 = .ok (.aload_n 1, 1) := dc_43 (dcc (r := 43) lq_20 rfl (Nat.le_of_ble_eq_true rfl) (by decide +kernel))
theorem dl_1324 : decode code 1324 = .ok (.invokevirtual 161, 3) := dc_182 (a := 0) (b := 161) (dcc (r := 44) lq_20 rfl (Nat.le_of_ble_eq_true rfl) (by decide +kernel)) rfl
theorem dl_1327 : decode code 1327 = .ok (.pop, 1) := dc_87 (dcc (r := 47) lq_20 rfl (Nat.le_of_ble_eq_true rfl) (by decide +kernel))
theorem dl_1328 : decode code 1328 = .ok (.aload_n 2, 1) := dc_44 (dcc (r := 48) lq_20 rfl (Nat.le_of_ble_eq_true rfl) (by decide +kernel))
theorem dl_1329 : decode code 1329 = .ok (.invokevirtual 164, 3) := dc_182 (a := 0) (b := 164) (dcc (r := 49) lq_20 rfl (Nat.le_of_ble_eq_true rfl) (by decide +kernel)) rfl
theorem dl_1332 : decode code 1332 = .ok (.pop, 1) := dc_87 (dcc (r := 52) lq_20 rfl (Nat.le_of_ble_eq_true rfl) (by decide +kernel))
theorem dl_1333 : decode code 1333 = .ok (.goto 26, 3) := dc_167 (a := 0) (b := 26) (dcc (r := 53) lq_20 rfl (Nat.le_of_ble_eq_true rfl) (by decide +kernel)) rfl
theorem dl_1336 : decode code 1336 = .ok (.aload_n 1, 1) := dc_43 (dcc (r := 56) lq_20 rfl (Nat.le_of_ble_eq_true rfl) (by decide +kernel))
theorem dl_1337 : decode code 1337 = .ok (.aload_n 0, 1) := dc_42 (dcc (r := 57) lq_20 rfl (Nat.le_of_ble_eq_true rfl) (by decide +kernel))
theorem dl_1338 : decode code 1338 = .ok (.iload_n 3, 1) := dc_29 (dcc (r := 58) lq_20 rfl (Nat.le_of_ble_eq_true rfl) (by decide +kernel))
theorem dl_1339 : decode code 1339 = .ok (.iconst 1, 1) := dc_4 (dcc (r := 59) lq_20 rfl (Nat.le_of_ble_eq_true rfl) (by decide +kernel))
theorem dl_1340 : decode code 1340 = .ok (.iadd, 1) := dc_96 (dcc (r := 60) lq_20 rfl (Nat.le_of_ble_eq_true rfl) (by decide +kernel))
theorem dl_1341 : decode code 1341 = .ok (.iaload, 1) := dc_46 (dcc (r := 61) lq_20 rfl (Nat.le_of_ble_eq_true rfl) (by decide +kernel))
theorem dl_1342 : decode code 1342 = .ok (.invokevirtual 165, 3) := dc_182 (a := 0) (b := 165) (dcc (r := 62) lq_20 rfl (Nat.le_of_ble_eq_true rfl) (by decide +kernel)) rfl
theorem dl_1345 : decode code 1345 = .ok (.pop, 1) := dc_87 (dcc (r := 1) lq_21 rfl (Nat.le_of_ble_eq_true rfl) (by decide +kernel))
theorem dl_1346 : decode code 1346 = .ok (.aload_n 2, 1) := dc_44 (dcc (r := 2) lq_21 rfl (Nat.le_of_ble_eq_true rfl) (by decide +kernel))
theorem dl_1347 : decode code 1347 = .ok (.aload_n 0, 1) := dc_42 (dcc (r := 3) lq_21 rfl (Nat.le_of_ble_eq_true rfl) (by decide +kernel))
theorem dl_1348 : decode code 1348 = .ok (.iload_n 3, 1) := dc_29 (dcc (r := 4) lq_21 rfl (Nat.le_of_ble_eq_true rfl) (by decide +kernel))
theorem dl_1349 : decode code 1349 = .ok (.iconst 1, 1) := dc_4 (dcc (r := 5) lq_21 rfl (Nat.le_of_ble_eq_true rfl) (by decide +kernel))
theorem dl_1350 : decode code 1350 = .ok (.iadd, 1) := dc_96 (dcc (r := 6) lq_21 rfl (Nat.le_of_ble_eq_true rfl) (by decide +kernel))
theorem dl_1351 : decode code 1351 = .ok (.iaload, 1) := dc_46 (dcc (r := 7) lq_21 rfl (Nat.le_of_ble_eq_true rfl) (by decide +kernel))
theorem dl_1352 : decode code 1352 = .ok (.invokevirtual 168, 3) := dc_182 (a := 0) (b := 168) (dcc (r := 8) lq_21 rfl (Nat.le_of_ble_eq_true rfl) (by decide +kernel)) rfl
theorem dl_1355 : decode code 1355 = .ok (.pop, 1) := dc_87 (dcc (r := 11) lq_21 rfl (Nat.le_of_ble_eq_true rfl) (by decide +kernel))
theorem dl_1356 : decode code 1356 = .ok (.goto 3, 3) := dc_167 (a := 0) (b := 3) (dcc (r := 12) lq_21 rfl (Nat.le_of_ble_eq_true rfl) (by decide +kernel)) rfl
theorem dl_1359 : decode code 1359 = .ok (.iinc 3 5, 3) := dc_132 (a := 3) (b := 5) (dcc (r := 15) lq_21 rfl (Nat.le_of_ble_eq_true rfl) (by decide +kernel)) rfl
theorem dl_1362 : decode code 1362 = .ok (.goto (-1344), 3) := dc_167 (a := 250) (b := 192) (dcc (r := 18) lq_21 rfl (Nat.le_of_ble_eq_true rfl) (by decide +kernel)) rfl
theorem dl_1365 : decode code 1365 = .ok (.iconst 1, 1) := dc_4 (dcc (r := 21) lq_21 rfl (Nat.le_of_ble_eq_true rfl) (by decide +kernel))
theorem dl_1366 : decode code 1366 = .ok (.ireturn, 1) := dc_172 (dcc (r := 22) lq_21 rfl (Nat.le_of_ble_eq_true rfl) (by decide +kernel))
end
section
/-- what holds between two calls -/
def J (h : Hp) : Prop := Inv h ∧ JT h ∧ JA h ∧ JB h ∧ JS h
theorem end_S1 {k i : Nat} (hk : jtC k i) (hn : k ≠ 89) : inS S_Rod_end k i = false := by
  unfold inS S_Rod_end
  rw [List.any_eq_false]
  intro q hq e
  rw [List.mem_singleton] at hq
  subst hq
  rw [Bool.and_eq_true] at e
  exact hn (eq_of_beq e.1).symm
theorem end_S2 {k i : Nat} (hk : jtC k i) (hn : ¬ (k = 116 ∧ i = 15)) : inS S_Mod_end k i = false := by
  unfold inS S_Mod_end
  rw [List.any_eq_false]
  intro q hq e
  rw [List.mem_singleton] at hq
  subst hq
  rw [Bool.and_eq_true] at e
  exact hn ⟨(eq_of_beq e.1).symm, (eq_of_beq e.2).symm⟩
theorem cb_Rod_feed : CB y_Rod_feed b_Rod_feed 2 (some .int) 1 := ⟨vv_Gin (List.mem_append_right _ (List.mem_append_right _ (List.mem_append_left _ (List.mem_of_getElem? (i := 150) rfl)))) rfl, by decide +kernel, vv_Gin (List.mem_append_right _ (List.mem_append_left _ (List.mem_of_getElem? (i := 1) rfl))) rfl⟩
theorem im_Rod_feed : Cond.instanceMethod y_Rod_feed ∈ vv_G := vv_Gin (List.mem_append_right _ (List.mem_append_right _ (List.mem_append_left _ (List.mem_of_getElem? (i := 148) rfl)))) rfl
theorem se_Rod_feed : Cond.selects y_Rod_feed.cls y_Rod_feed y_Rod_feed ∈ vv_G := vv_Gin (List.mem_append_right _ (List.mem_append_right _ (List.mem_append_left _ (List.mem_of_getElem? (i := 149) rfl)))) rfl
theorem cv_law_13 : CV R_law 13 y_Rod_feed b_Rod_feed 2 (some .int) 1 := ⟨cb_Rod_feed, im_Rod_feed, se_Rod_feed, vv_Gin (List.mem_append_right _ (List.mem_append_right _ (List.mem_append_left _ (List.mem_of_getElem? (i := 147) rfl)))) rfl⟩
theorem cb_Mod_feed : CB y_Mod_feed b_Mod_feed 2 (some .int) 1 := ⟨vv_Gin (List.mem_append_right _ (List.mem_append_right _ (List.mem_append_right _ (List.mem_append_right _ (List.mem_append_right _ (List.mem_append_left _ (List.mem_of_getElem? (i := 98) rfl))))))) rfl, by decide +kernel, vv_Gin (List.mem_append_right _ (List.mem_append_left _ (List.mem_of_getElem? (i := 13) rfl))) rfl⟩
theorem im_Mod_feed : Cond.instanceMethod y_Mod_feed ∈ vv_G := vv_Gin (List.mem_append_right _ (List.mem_append_right _ (List.mem_append_right _ (List.mem_append_right _ (List.mem_append_right _ (List.mem_append_left _ (List.mem_of_getElem? (i := 96) rfl))))))) rfl
theorem se_Mod_feed : Cond.selects y_Mod_feed.cls y_Mod_feed y_Mod_feed ∈ vv_G := vv_Gin (List.mem_append_right _ (List.mem_append_right _ (List.mem_append_right _ (List.mem_append_right _ (List.mem_append_right _ (List.mem_append_left _ (List.mem_of_getElem? (i := 97) rfl))))))) rfl
theorem cv_law_17 : CV R_law 17 y_Mod_feed b_Mod_feed 2 (some .int) 1 := ⟨cb_Mod_feed, im_Mod_feed, se_Mod_feed, vv_Gin (List.mem_append_right _ (List.mem_append_right _ (List.mem_append_right _ (List.mem_append_right _ (List.mem_append_right _ (List.mem_append_left _ (List.mem_of_getElem? (i := 95) rfl))))))) rfl⟩
theorem cb_Rod_end : CB y_Rod_end b_Rod_end 3 (some .int) 1 := ⟨vv_Gin (List.mem_append_right _ (List.mem_append_right _ (List.mem_append_left _ (List.mem_of_getElem? (i := 154) rfl)))) rfl, by decide +kernel, vv_Gin (List.mem_append_right _ (List.mem_append_left _ (List.mem_of_getElem? (i := 1) rfl))) rfl⟩
theorem im_Rod_end : Cond.instanceMethod y_Rod_end ∈ vv_G := vv_Gin (List.mem_append_right _ (List.mem_append_right _ (List.mem_append_left _ (List.mem_of_getElem? (i := 152) rfl)))) rfl
theorem se_Rod_end : Cond.selects y_Rod_end.cls y_Rod_end y_Rod_end ∈ vv_G := vv_Gin (List.mem_append_right _ (List.mem_append_right _ (List.mem_append_left _ (List.mem_of_getElem? (i := 153) rfl)))) rfl
theorem cv_law_18 : CV R_law 18 y_Rod_end b_Rod_end 3 (some .int) 1 := ⟨cb_Rod_end, im_Rod_end, se_Rod_end, vv_Gin (List.mem_append_right _ (List.mem_append_right _ (List.mem_append_left _ (List.mem_of_getElem? (i := 151) rfl)))) rfl⟩
theorem cb_Mod_end : CB y_Mod_end b_Mod_end 3 (some .int) 1 := ⟨vv_Gin (List.mem_append_right _ (List.mem_append_right _ (List.mem_append_right _ (List.mem_append_right _ (List.mem_append_right _ (List.mem_append_left _ (List.mem_of_getElem? (i := 106) rfl))))))) rfl, by decide +kernel, vv_Gin (List.mem_append_right _ (List.mem_append_left _ (List.mem_of_getElem? (i := 13) rfl))) rfl⟩
theorem im_Mod_end : Cond.instanceMethod y_Mod_end ∈ vv_G := vv_Gin (List.mem_append_right _ (List.mem_append_right _ (List.mem_append_right _ (List.mem_append_right _ (List.mem_append_right _ (List.mem_append_left _ (List.mem_of_getElem? (i := 104) rfl))))))) rfl
theorem se_Mod_end : Cond.selects y_Mod_end.cls y_Mod_end y_Mod_end ∈ vv_G := vv_Gin (List.mem_append_right _ (List.mem_append_right _ (List.mem_append_right _ (List.mem_append_right _ (List.mem_append_right _ (List.mem_append_left _ (List.mem_of_getElem? (i := 105) rfl))))))) rfl
theorem cv_law_21 : CV R_law 21 y_Mod_end b_Mod_end 3 (some .int) 1 := ⟨cb_Mod_end, im_Mod_end, se_Mod_end, vv_Gin (List.mem_append_right _ (List.mem_append_right _ (List.mem_append_right _ (List.mem_append_right _ (List.mem_append_right _ (List.mem_append_left _ (List.mem_of_getElem? (i := 103) rfl))))))) rfl⟩
theorem cb_Rod_text : CB y_Rod_text b_Rod_text 3 (some .int) 0 := ⟨vv_Gin (List.mem_append_right _ (List.mem_append_right _ (List.mem_append_left _ (List.mem_of_getElem? (i := 158) rfl)))) rfl, by decide +kernel, vv_Gin (List.mem_append_right _ (List.mem_append_left _ (List.mem_of_getElem? (i := 1) rfl))) rfl⟩
theorem im_Rod_text : Cond.instanceMethod y_Rod_text ∈ vv_G := vv_Gin (List.mem_append_right _ (List.mem_append_right _ (List.mem_append_left _ (List.mem_of_getElem? (i := 156) rfl)))) rfl
theorem se_Rod_text : Cond.selects y_Rod_text.cls y_Rod_text y_Rod_text ∈ vv_G := vv_Gin (List.mem_append_right _ (List.mem_append_right _ (List.mem_append_left _ (List.mem_of_getElem? (i := 157) rfl)))) rfl
theorem cv_law_22 : CV R_law 22 y_Rod_text b_Rod_text 3 (some .int) 0 := ⟨cb_Rod_text, im_Rod_text, se_Rod_text, vv_Gin (List.mem_append_right _ (List.mem_append_right _ (List.mem_append_left _ (List.mem_of_getElem? (i := 155) rfl)))) rfl⟩
theorem cb_Mod_text : CB y_Mod_text b_Mod_text 2 (some .int) 0 := ⟨vv_Gin (List.mem_append_right _ (List.mem_append_right _ (List.mem_append_right _ (List.mem_append_right _ (List.mem_append_right _ (List.mem_append_left _ (List.mem_of_getElem? (i := 110) rfl))))))) rfl, by decide +kernel, vv_Gin (List.mem_append_right _ (List.mem_append_left _ (List.mem_of_getElem? (i := 13) rfl))) rfl⟩
theorem im_Mod_text : Cond.instanceMethod y_Mod_text ∈ vv_G := vv_Gin (List.mem_append_right _ (List.mem_append_right _ (List.mem_append_right _ (List.mem_append_right _ (List.mem_append_right _ (List.mem_append_left _ (List.mem_of_getElem? (i := 108) rfl))))))) rfl
theorem se_Mod_text : Cond.selects y_Mod_text.cls y_Mod_text y_Mod_text ∈ vv_G := vv_Gin (List.mem_append_right _ (List.mem_append_right _ (List.mem_append_right _ (List.mem_append_right _ (List.mem_append_right _ (List.mem_append_left _ (List.mem_of_getElem? (i := 109) rfl))))))) rfl
theorem cv_law_26 : CV R_law 26 y_Mod_text b_Mod_text 2 (some .int) 0 := ⟨cb_Mod_text, im_Mod_text, se_Mod_text, vv_Gin (List.mem_append_right _ (List.mem_append_right _ (List.mem_append_right _ (List.mem_append_right _ (List.mem_append_right _ (List.mem_append_left _ (List.mem_of_getElem? (i := 107) rfl))))))) rfl⟩
theorem cb_Rod_fault : CB y_Rod_fault b_Rod_fault 1 (some .int) 0 := ⟨vv_Gin (List.mem_append_right _ (List.mem_append_right _ (List.mem_append_right _ (List.mem_append_left _ (List.mem_of_getElem? (i := 103) rfl))))) rfl, by decide +kernel, vv_Gin (List.mem_append_right _ (List.mem_append_left _ (List.mem_of_getElem? (i := 1) rfl))) rfl⟩
theorem im_Rod_fault : Cond.instanceMethod y_Rod_fault ∈ vv_G := vv_Gin (List.mem_append_right _ (List.mem_append_right _ (List.mem_append_right _ (List.mem_append_left _ (List.mem_of_getElem? (i := 101) rfl))))) rfl
theorem se_Rod_fault : Cond.selects y_Rod_fault.cls y_Rod_fault y_Rod_fault ∈ vv_G := vv_Gin (List.mem_append_right _ (List.mem_append_right _ (List.mem_append_right _ (List.mem_append_left _ (List.mem_of_getElem? (i := 102) rfl))))) rfl
theorem cv_law_27 : CV R_law 27 y_Rod_fault b_Rod_fault 1 (some .int) 0 := ⟨cb_Rod_fault, im_Rod_fault, se_Rod_fault, vv_Gin (List.mem_append_right _ (List.mem_append_right _ (List.mem_append_right _ (List.mem_append_left _ (List.mem_of_getElem? (i := 100) rfl))))) rfl⟩
theorem cb_Mod_fault : CB y_Mod_fault b_Mod_fault 1 (some .int) 0 := ⟨vv_Gin (List.mem_append_right _ (List.mem_append_right _ (List.mem_append_right _ (List.mem_append_right _ (List.mem_append_right _ (List.mem_append_left _ (List.mem_of_getElem? (i := 182) rfl))))))) rfl, by decide +kernel, vv_Gin (List.mem_append_right _ (List.mem_append_left _ (List.mem_of_getElem? (i := 13) rfl))) rfl⟩
theorem im_Mod_fault : Cond.instanceMethod y_Mod_fault ∈ vv_G := vv_Gin (List.mem_append_right _ (List.mem_append_right _ (List.mem_append_right _ (List.mem_append_right _ (List.mem_append_right _ (List.mem_append_left _ (List.mem_of_getElem? (i := 180) rfl))))))) rfl
theorem se_Mod_fault : Cond.selects y_Mod_fault.cls y_Mod_fault y_Mod_fault ∈ vv_G := vv_Gin (List.mem_append_right _ (List.mem_append_right _ (List.mem_append_right _ (List.mem_append_right _ (List.mem_append_right _ (List.mem_append_left _ (List.mem_of_getElem? (i := 181) rfl))))))) rfl
theorem cv_law_30 : CV R_law 30 y_Mod_fault b_Mod_fault 1 (some .int) 0 := ⟨cb_Mod_fault, im_Mod_fault, se_Mod_fault, vv_Gin (List.mem_append_right _ (List.mem_append_right _ (List.mem_append_right _ (List.mem_append_right _ (List.mem_append_right _ (List.mem_append_left _ (List.mem_of_getElem? (i := 179) rfl))))))) rfl⟩
theorem cb_Rod_rule : CB y_Rod_rule b_Rod_rule 2 (some .int) 1 := ⟨vv_Gin (List.mem_append_right _ (List.mem_append_right _ (List.mem_append_right _ (List.mem_append_left _ (List.mem_of_getElem? (i := 107) rfl))))) rfl, by decide +kernel, vv_Gin (List.mem_append_right _ (List.mem_append_left _ (List.mem_of_getElem? (i := 1) rfl))) rfl⟩
theorem im_Rod_rule : Cond.instanceMethod y_Rod_rule ∈ vv_G := vv_Gin (List.mem_append_right _ (List.mem_append_right _ (List.mem_append_right _ (List.mem_append_left _ (List.mem_of_getElem? (i := 105) rfl))))) rfl
theorem se_Rod_rule : Cond.selects y_Rod_rule.cls y_Rod_rule y_Rod_rule ∈ vv_G := vv_Gin (List.mem_append_right _ (List.mem_append_right _ (List.mem_append_right _ (List.mem_append_left _ (List.mem_of_getElem? (i := 106) rfl))))) rfl
theorem cv_law_31 : CV R_law 31 y_Rod_rule b_Rod_rule 2 (some .int) 1 := ⟨cb_Rod_rule, im_Rod_rule, se_Rod_rule, vv_Gin (List.mem_append_right _ (List.mem_append_right _ (List.mem_append_right _ (List.mem_append_left _ (List.mem_of_getElem? (i := 104) rfl))))) rfl⟩
theorem cb_Mod_rule : CB y_Mod_rule b_Mod_rule 2 (some .int) 1 := ⟨vv_Gin (List.mem_append_right _ (List.mem_append_right _ (List.mem_append_right _ (List.mem_append_right _ (List.mem_append_right _ (List.mem_append_left _ (List.mem_of_getElem? (i := 186) rfl))))))) rfl, by decide +kernel, vv_Gin (List.mem_append_right _ (List.mem_append_left _ (List.mem_of_getElem? (i := 13) rfl))) rfl⟩
theorem im_Mod_rule : Cond.instanceMethod y_Mod_rule ∈ vv_G := vv_Gin (List.mem_append_right _ (List.mem_append_right _ (List.mem_append_right _ (List.mem_append_right _ (List.mem_append_right _ (List.mem_append_left _ (List.mem_of_getElem? (i := 184) rfl))))))) rfl
theorem se_Mod_rule : Cond.selects y_Mod_rule.cls y_Mod_rule y_Mod_rule ∈ vv_G := vv_Gin (List.mem_append_right _ (List.mem_append_right _ (List.mem_append_right _ (List.mem_append_right _ (List.mem_append_right _ (List.mem_append_left _ (List.mem_of_getElem? (i := 185) rfl))))))) rfl
theorem cv_law_34 : CV R_law 34 y_Mod_rule b_Mod_rule 2 (some .int) 1 := ⟨cb_Mod_rule, im_Mod_rule, se_Mod_rule, vv_Gin (List.mem_append_right _ (List.mem_append_right _ (List.mem_append_right _ (List.mem_append_right _ (List.mem_append_right _ (List.mem_append_left _ (List.mem_of_getElem? (i := 183) rfl))))))) rfl⟩
theorem cb_Rod_cell : CB y_Rod_cell b_Rod_cell 4 (some .int) 2 := ⟨vv_Gin (List.mem_append_right _ (List.mem_append_right _ (List.mem_append_right _ (List.mem_append_left _ (List.mem_of_getElem? (i := 111) rfl))))) rfl, by decide +kernel, vv_Gin (List.mem_append_right _ (List.mem_append_left _ (List.mem_of_getElem? (i := 1) rfl))) rfl⟩
theorem im_Rod_cell : Cond.instanceMethod y_Rod_cell ∈ vv_G := vv_Gin (List.mem_append_right _ (List.mem_append_right _ (List.mem_append_right _ (List.mem_append_left _ (List.mem_of_getElem? (i := 109) rfl))))) rfl
theorem se_Rod_cell : Cond.selects y_Rod_cell.cls y_Rod_cell y_Rod_cell ∈ vv_G := vv_Gin (List.mem_append_right _ (List.mem_append_right _ (List.mem_append_right _ (List.mem_append_left _ (List.mem_of_getElem? (i := 110) rfl))))) rfl
theorem cv_law_35 : CV R_law 35 y_Rod_cell b_Rod_cell 4 (some .int) 2 := ⟨cb_Rod_cell, im_Rod_cell, se_Rod_cell, vv_Gin (List.mem_append_right _ (List.mem_append_right _ (List.mem_append_right _ (List.mem_append_left _ (List.mem_of_getElem? (i := 108) rfl))))) rfl⟩
theorem cb_Mod_cell : CB y_Mod_cell b_Mod_cell 3 (some .int) 2 := ⟨vv_Gin (List.mem_append_right _ (List.mem_append_right _ (List.mem_append_right _ (List.mem_append_right _ (List.mem_append_right _ (List.mem_append_left _ (List.mem_of_getElem? (i := 190) rfl))))))) rfl, by decide +kernel, vv_Gin (List.mem_append_right _ (List.mem_append_left _ (List.mem_of_getElem? (i := 13) rfl))) rfl⟩
theorem im_Mod_cell : Cond.instanceMethod y_Mod_cell ∈ vv_G := vv_Gin (List.mem_append_right _ (List.mem_append_right _ (List.mem_append_right _ (List.mem_append_right _ (List.mem_append_right _ (List.mem_append_left _ (List.mem_of_getElem? (i := 188) rfl))))))) rfl
theorem se_Mod_cell : Cond.selects y_Mod_cell.cls y_Mod_cell y_Mod_cell ∈ vv_G := vv_Gin (List.mem_append_right _ (List.mem_append_right _ (List.mem_append_right _ (List.mem_append_right _ (List.mem_append_right _ (List.mem_append_left _ (List.mem_of_getElem? (i := 189) rfl))))))) rfl
theorem cv_law_39 : CV R_law 39 y_Mod_cell b_Mod_cell 3 (some .int) 2 := ⟨cb_Mod_cell, im_Mod_cell, se_Mod_cell, vv_Gin (List.mem_append_right _ (List.mem_append_right _ (List.mem_append_right _ (List.mem_append_right _ (List.mem_append_right _ (List.mem_append_left _ (List.mem_of_getElem? (i := 187) rfl))))))) rfl⟩
theorem cb_Rod_purse : CB y_Rod_purse b_Rod_purse 2 (some .int) 1 := ⟨vv_Gin (List.mem_append_right _ (List.mem_append_right _ (List.mem_append_right _ (List.mem_append_left _ (List.mem_of_getElem? (i := 126) rfl))))) rfl, by decide +kernel, vv_Gin (List.mem_append_right _ (List.mem_append_left _ (List.mem_of_getElem? (i := 1) rfl))) rfl⟩
theorem im_Rod_purse : Cond.instanceMethod y_Rod_purse ∈ vv_G := vv_Gin (List.mem_append_right _ (List.mem_append_right _ (List.mem_append_right _ (List.mem_append_left _ (List.mem_of_getElem? (i := 124) rfl))))) rfl
theorem se_Rod_purse : Cond.selects y_Rod_purse.cls y_Rod_purse y_Rod_purse ∈ vv_G := vv_Gin (List.mem_append_right _ (List.mem_append_right _ (List.mem_append_right _ (List.mem_append_left _ (List.mem_of_getElem? (i := 125) rfl))))) rfl
theorem cv_law_40 : CV R_law 40 y_Rod_purse b_Rod_purse 2 (some .int) 1 := ⟨cb_Rod_purse, im_Rod_purse, se_Rod_purse, vv_Gin (List.mem_append_right _ (List.mem_append_right _ (List.mem_append_right _ (List.mem_append_left _ (List.mem_of_getElem? (i := 123) rfl))))) rfl⟩
theorem cb_Mod_purse : CB y_Mod_purse b_Mod_purse 2 (some .int) 1 := ⟨vv_Gin (List.mem_append_right _ (List.mem_append_right _ (List.mem_append_right _ (List.mem_append_right _ (List.mem_append_right _ (List.mem_append_left _ (List.mem_of_getElem? (i := 213) rfl))))))) rfl, by decide +kernel, vv_Gin (List.mem_append_right _ (List.mem_append_left _ (List.mem_of_getElem? (i := 13) rfl))) rfl⟩
theorem im_Mod_purse : Cond.instanceMethod y_Mod_purse ∈ vv_G := vv_Gin (List.mem_append_right _ (List.mem_append_right _ (List.mem_append_right _ (List.mem_append_right _ (List.mem_append_right _ (List.mem_append_left _ (List.mem_of_getElem? (i := 211) rfl))))))) rfl
theorem se_Mod_purse : Cond.selects y_Mod_purse.cls y_Mod_purse y_Mod_purse ∈ vv_G := vv_Gin (List.mem_append_right _ (List.mem_append_right _ (List.mem_append_right _ (List.mem_append_right _ (List.mem_append_right _ (List.mem_append_left _ (List.mem_of_getElem? (i := 212) rfl))))))) rfl
theorem cv_law_43 : CV R_law 43 y_Mod_purse b_Mod_purse 2 (some .int) 1 := ⟨cb_Mod_purse, im_Mod_purse, se_Mod_purse, vv_Gin (List.mem_append_right _ (List.mem_append_right _ (List.mem_append_right _ (List.mem_append_right _ (List.mem_append_right _ (List.mem_append_left _ (List.mem_of_getElem? (i := 210) rfl))))))) rfl⟩
theorem cb_Rod_wet : CB y_Rod_wet b_Rod_wet 5 (some .int) 2 := ⟨vv_Gin (List.mem_append_right _ (List.mem_append_right _ (List.mem_append_right _ (List.mem_append_left _ (List.mem_of_getElem? (i := 133) rfl))))) rfl, by decide +kernel, vv_Gin (List.mem_append_right _ (List.mem_append_left _ (List.mem_of_getElem? (i := 1) rfl))) rfl⟩
theorem im_Rod_wet : Cond.instanceMethod y_Rod_wet ∈ vv_G := vv_Gin (List.mem_append_right _ (List.mem_append_right _ (List.mem_append_right _ (List.mem_append_left _ (List.mem_of_getElem? (i := 131) rfl))))) rfl
theorem se_Rod_wet : Cond.selects y_Rod_wet.cls y_Rod_wet y_Rod_wet ∈ vv_G := vv_Gin (List.mem_append_right _ (List.mem_append_right _ (List.mem_append_right _ (List.mem_append_left _ (List.mem_of_getElem? (i := 132) rfl))))) rfl
theorem cv_law_44 : CV R_law 44 y_Rod_wet b_Rod_wet 5 (some .int) 2 := ⟨cb_Rod_wet, im_Rod_wet, se_Rod_wet, vv_Gin (List.mem_append_right _ (List.mem_append_right _ (List.mem_append_right _ (List.mem_append_left _ (List.mem_of_getElem? (i := 130) rfl))))) rfl⟩
theorem cb_Mod_wet : CB y_Mod_wet b_Mod_wet 3 (some .int) 2 := ⟨vv_Gin (List.mem_append_right _ (List.mem_append_right _ (List.mem_append_right _ (List.mem_append_right _ (List.mem_append_right _ (List.mem_append_left _ (List.mem_of_getElem? (i := 221) rfl))))))) rfl, by decide +kernel, vv_Gin (List.mem_append_right _ (List.mem_append_left _ (List.mem_of_getElem? (i := 13) rfl))) rfl⟩
theorem im_Mod_wet : Cond.instanceMethod y_Mod_wet ∈ vv_G := vv_Gin (List.mem_append_right _ (List.mem_append_right _ (List.mem_append_right _ (List.mem_append_right _ (List.mem_append_right _ (List.mem_append_left _ (List.mem_of_getElem? (i := 219) rfl))))))) rfl
theorem se_Mod_wet : Cond.selects y_Mod_wet.cls y_Mod_wet y_Mod_wet ∈ vv_G := vv_Gin (List.mem_append_right _ (List.mem_append_right _ (List.mem_append_right _ (List.mem_append_right _ (List.mem_append_right _ (List.mem_append_left _ (List.mem_of_getElem? (i := 220) rfl))))))) rfl
theorem cv_law_47 : CV R_law 47 y_Mod_wet b_Mod_wet 3 (some .int) 2 := ⟨cb_Mod_wet, im_Mod_wet, se_Mod_wet, vv_Gin (List.mem_append_right _ (List.mem_append_right _ (List.mem_append_right _ (List.mem_append_right _ (List.mem_append_right _ (List.mem_append_left _ (List.mem_of_getElem? (i := 218) rfl))))))) rfl⟩
theorem cb_Rod_iron : CB y_Rod_iron b_Rod_iron 5 (some .int) 2 := ⟨vv_Gin (List.mem_append_right _ (List.mem_append_right _ (List.mem_append_right _ (List.mem_append_left _ (List.mem_of_getElem? (i := 137) rfl))))) rfl, by decide +kernel, vv_Gin (List.mem_append_right _ (List.mem_append_left _ (List.mem_of_getElem? (i := 1) rfl))) rfl⟩
theorem im_Rod_iron : Cond.instanceMethod y_Rod_iron ∈ vv_G := vv_Gin (List.mem_append_right _ (List.mem_append_right _ (List.mem_append_right _ (List.mem_append_left _ (List.mem_of_getElem? (i := 135) rfl))))) rfl
theorem se_Rod_iron : Cond.selects y_Rod_iron.cls y_Rod_iron y_Rod_iron ∈ vv_G := vv_Gin (List.mem_append_right _ (List.mem_append_right _ (List.mem_append_right _ (List.mem_append_left _ (List.mem_of_getElem? (i := 136) rfl))))) rfl
theorem cv_law_48 : CV R_law 48 y_Rod_iron b_Rod_iron 5 (some .int) 2 := ⟨cb_Rod_iron, im_Rod_iron, se_Rod_iron, vv_Gin (List.mem_append_right _ (List.mem_append_right _ (List.mem_append_right _ (List.mem_append_left _ (List.mem_of_getElem? (i := 134) rfl))))) rfl⟩
theorem cb_Mod_iron : CB y_Mod_iron b_Mod_iron 3 (some .int) 2 := ⟨vv_Gin (List.mem_append_right _ (List.mem_append_right _ (List.mem_append_right _ (List.mem_append_right _ (List.mem_append_right _ (List.mem_append_left _ (List.mem_of_getElem? (i := 230) rfl))))))) rfl, by decide +kernel, vv_Gin (List.mem_append_right _ (List.mem_append_left _ (List.mem_of_getElem? (i := 13) rfl))) rfl⟩
theorem im_Mod_iron : Cond.instanceMethod y_Mod_iron ∈ vv_G := vv_Gin (List.mem_append_right _ (List.mem_append_right _ (List.mem_append_right _ (List.mem_append_right _ (List.mem_append_right _ (List.mem_append_left _ (List.mem_of_getElem? (i := 228) rfl))))))) rfl
theorem se_Mod_iron : Cond.selects y_Mod_iron.cls y_Mod_iron y_Mod_iron ∈ vv_G := vv_Gin (List.mem_append_right _ (List.mem_append_right _ (List.mem_append_right _ (List.mem_append_right _ (List.mem_append_right _ (List.mem_append_left _ (List.mem_of_getElem? (i := 229) rfl))))))) rfl
theorem cv_law_52 : CV R_law 52 y_Mod_iron b_Mod_iron 3 (some .int) 2 := ⟨cb_Mod_iron, im_Mod_iron, se_Mod_iron, vv_Gin (List.mem_append_right _ (List.mem_append_right _ (List.mem_append_right _ (List.mem_append_right _ (List.mem_append_right _ (List.mem_append_left _ (List.mem_of_getElem? (i := 227) rfl))))))) rfl⟩
theorem cb_Rod_odd : CB y_Rod_odd b_Rod_odd 5 (some .int) 2 := ⟨vv_Gin (List.mem_append_right _ (List.mem_append_right _ (List.mem_append_right _ (List.mem_append_left _ (List.mem_of_getElem? (i := 141) rfl))))) rfl, by decide +kernel, vv_Gin (List.mem_append_right _ (List.mem_append_left _ (List.mem_of_getElem? (i := 1) rfl))) rfl⟩
theorem im_Rod_odd : Cond.instanceMethod y_Rod_odd ∈ vv_G := vv_Gin (List.mem_append_right _ (List.mem_append_right _ (List.mem_append_right _ (List.mem_append_left _ (List.mem_of_getElem? (i := 139) rfl))))) rfl
theorem se_Rod_odd : Cond.selects y_Rod_odd.cls y_Rod_odd y_Rod_odd ∈ vv_G := vv_Gin (List.mem_append_right _ (List.mem_append_right _ (List.mem_append_right _ (List.mem_append_left _ (List.mem_of_getElem? (i := 140) rfl))))) rfl
theorem cv_law_53 : CV R_law 53 y_Rod_odd b_Rod_odd 5 (some .int) 2 := ⟨cb_Rod_odd, im_Rod_odd, se_Rod_odd, vv_Gin (List.mem_append_right _ (List.mem_append_right _ (List.mem_append_right _ (List.mem_append_left _ (List.mem_of_getElem? (i := 138) rfl))))) rfl⟩
theorem cb_Mod_odd : CB y_Mod_odd b_Mod_odd 3 (some .int) 2 := ⟨vv_Gin (List.mem_append_right _ (List.mem_append_right _ (List.mem_append_right _ (List.mem_append_right _ (List.mem_append_right _ (List.mem_append_left _ (List.mem_of_getElem? (i := 234) rfl))))))) rfl, by decide +kernel, vv_Gin (List.mem_append_right _ (List.mem_append_left _ (List.mem_of_getElem? (i := 13) rfl))) rfl⟩
theorem im_Mod_odd : Cond.instanceMethod y_Mod_odd ∈ vv_G := vv_Gin (List.mem_append_right _ (List.mem_append_right _ (List.mem_append_right _ (List.mem_append_right _ (List.mem_append_right _ (List.mem_append_left _ (List.mem_of_getElem? (i := 232) rfl))))))) rfl
theorem se_Mod_odd : Cond.selects y_Mod_odd.cls y_Mod_odd y_Mod_odd ∈ vv_G := vv_Gin (List.mem_append_right _ (List.mem_append_right _ (List.mem_append_right _ (List.mem_append_right _ (List.mem_append_right _ (List.mem_append_left _ (List.mem_of_getElem? (i := 233) rfl))))))) rfl
theorem cv_law_56 : CV R_law 56 y_Mod_odd b_Mod_odd 3 (some .int) 2 := ⟨cb_Mod_odd, im_Mod_odd, se_Mod_odd, vv_Gin (List.mem_append_right _ (List.mem_append_right _ (List.mem_append_right _ (List.mem_append_right _ (List.mem_append_right _ (List.mem_append_left _ (List.mem_of_getElem? (i := 231) rfl))))))) rfl⟩
theorem cb_Rod_claim : CB y_Rod_claim b_Rod_claim 5 (some .int) 2 := ⟨vv_Gin (List.mem_append_right _ (List.mem_append_right _ (List.mem_append_right _ (List.mem_append_left _ (List.mem_of_getElem? (i := 145) rfl))))) rfl, by decide +kernel, vv_Gin (List.mem_append_right _ (List.mem_append_left _ (List.mem_of_getElem? (i := 1) rfl))) rfl⟩
theorem im_Rod_claim : Cond.instanceMethod y_Rod_claim ∈ vv_G := vv_Gin (List.mem_append_right _ (List.mem_append_right _ (List.mem_append_right _ (List.mem_append_left _ (List.mem_of_getElem? (i := 143) rfl))))) rfl
theorem se_Rod_claim : Cond.selects y_Rod_claim.cls y_Rod_claim y_Rod_claim ∈ vv_G := vv_Gin (List.mem_append_right _ (List.mem_append_right _ (List.mem_append_right _ (List.mem_append_left _ (List.mem_of_getElem? (i := 144) rfl))))) rfl
theorem cv_law_57 : CV R_law 57 y_Rod_claim b_Rod_claim 5 (some .int) 2 := ⟨cb_Rod_claim, im_Rod_claim, se_Rod_claim, vv_Gin (List.mem_append_right _ (List.mem_append_right _ (List.mem_append_right _ (List.mem_append_left _ (List.mem_of_getElem? (i := 142) rfl))))) rfl⟩
theorem cb_Mod_claim : CB y_Mod_claim b_Mod_claim 3 (some .int) 2 := ⟨vv_Gin (List.mem_append_right _ (List.mem_append_right _ (List.mem_append_right _ (List.mem_append_right _ (List.mem_append_right _ (List.mem_append_left _ (List.mem_of_getElem? (i := 239) rfl))))))) rfl, by decide +kernel, vv_Gin (List.mem_append_right _ (List.mem_append_left _ (List.mem_of_getElem? (i := 13) rfl))) rfl⟩
theorem im_Mod_claim : Cond.instanceMethod y_Mod_claim ∈ vv_G := vv_Gin (List.mem_append_right _ (List.mem_append_right _ (List.mem_append_right _ (List.mem_append_right _ (List.mem_append_right _ (List.mem_append_left _ (List.mem_of_getElem? (i := 237) rfl))))))) rfl
theorem se_Mod_claim : Cond.selects y_Mod_claim.cls y_Mod_claim y_Mod_claim ∈ vv_G := vv_Gin (List.mem_append_right _ (List.mem_append_right _ (List.mem_append_right _ (List.mem_append_right _ (List.mem_append_right _ (List.mem_append_left _ (List.mem_of_getElem? (i := 238) rfl))))))) rfl
theorem cv_law_60 : CV R_law 60 y_Mod_claim b_Mod_claim 3 (some .int) 2 := ⟨cb_Mod_claim, im_Mod_claim, se_Mod_claim, vv_Gin (List.mem_append_right _ (List.mem_append_right _ (List.mem_append_right _ (List.mem_append_right _ (List.mem_append_right _ (List.mem_append_left _ (List.mem_of_getElem? (i := 236) rfl))))))) rfl⟩
theorem cb_Rod_fund : CB y_Rod_fund b_Rod_fund 4 (some .int) 2 := ⟨vv_Gin (List.mem_append_right _ (List.mem_append_right _ (List.mem_append_right _ (List.mem_append_left _ (List.mem_of_getElem? (i := 149) rfl))))) rfl, by decide +kernel, vv_Gin (List.mem_append_right _ (List.mem_append_left _ (List.mem_of_getElem? (i := 1) rfl))) rfl⟩
theorem im_Rod_fund : Cond.instanceMethod y_Rod_fund ∈ vv_G := vv_Gin (List.mem_append_right _ (List.mem_append_right _ (List.mem_append_right _ (List.mem_append_left _ (List.mem_of_getElem? (i := 147) rfl))))) rfl
theorem se_Rod_fund : Cond.selects y_Rod_fund.cls y_Rod_fund y_Rod_fund ∈ vv_G := vv_Gin (List.mem_append_right _ (List.mem_append_right _ (List.mem_append_right _ (List.mem_append_left _ (List.mem_of_getElem? (i := 148) rfl))))) rfl
theorem cv_law_61 : CV R_law 61 y_Rod_fund b_Rod_fund 4 (some .int) 2 := ⟨cb_Rod_fund, im_Rod_fund, se_Rod_fund, vv_Gin (List.mem_append_right _ (List.mem_append_right _ (List.mem_append_right _ (List.mem_append_left _ (List.mem_of_getElem? (i := 146) rfl))))) rfl⟩
theorem cb_Mod_fund : CB y_Mod_fund b_Mod_fund 3 (some .int) 2 := ⟨vv_Gin (List.mem_append_right _ (List.mem_append_right _ (List.mem_append_right _ (List.mem_append_right _ (List.mem_append_right _ (List.mem_append_right _ (List.mem_of_getElem? (i := 3) rfl))))))) rfl, by decide +kernel, vv_Gin (List.mem_append_right _ (List.mem_append_left _ (List.mem_of_getElem? (i := 13) rfl))) rfl⟩
theorem im_Mod_fund : Cond.instanceMethod y_Mod_fund ∈ vv_G := vv_Gin (List.mem_append_right _ (List.mem_append_right _ (List.mem_append_right _ (List.mem_append_right _ (List.mem_append_right _ (List.mem_append_right _ (List.mem_of_getElem? (i := 1) rfl))))))) rfl
theorem se_Mod_fund : Cond.selects y_Mod_fund.cls y_Mod_fund y_Mod_fund ∈ vv_G := vv_Gin (List.mem_append_right _ (List.mem_append_right _ (List.mem_append_right _ (List.mem_append_right _ (List.mem_append_right _ (List.mem_append_right _ (List.mem_of_getElem? (i := 2) rfl))))))) rfl
theorem cv_law_64 : CV R_law 64 y_Mod_fund b_Mod_fund 3 (some .int) 2 := ⟨cb_Mod_fund, im_Mod_fund, se_Mod_fund, vv_Gin (List.mem_append_right _ (List.mem_append_right _ (List.mem_append_right _ (List.mem_append_right _ (List.mem_append_right _ (List.mem_append_right _ (List.mem_of_getElem? (i := 0) rfl))))))) rfl⟩
theorem cb_Rod_cut : CB y_Rod_cut b_Rod_cut 4 (some .int) 2 := ⟨vv_Gin (List.mem_append_right _ (List.mem_append_right _ (List.mem_append_right _ (List.mem_append_left _ (List.mem_of_getElem? (i := 153) rfl))))) rfl, by decide +kernel, vv_Gin (List.mem_append_right _ (List.mem_append_left _ (List.mem_of_getElem? (i := 1) rfl))) rfl⟩
theorem im_Rod_cut : Cond.instanceMethod y_Rod_cut ∈ vv_G := vv_Gin (List.mem_append_right _ (List.mem_append_right _ (List.mem_append_right _ (List.mem_append_left _ (List.mem_of_getElem? (i := 151) rfl))))) rfl
theorem se_Rod_cut : Cond.selects y_Rod_cut.cls y_Rod_cut y_Rod_cut ∈ vv_G := vv_Gin (List.mem_append_right _ (List.mem_append_right _ (List.mem_append_right _ (List.mem_append_left _ (List.mem_of_getElem? (i := 152) rfl))))) rfl
theorem cv_law_65 : CV R_law 65 y_Rod_cut b_Rod_cut 4 (some .int) 2 := ⟨cb_Rod_cut, im_Rod_cut, se_Rod_cut, vv_Gin (List.mem_append_right _ (List.mem_append_right _ (List.mem_append_right _ (List.mem_append_left _ (List.mem_of_getElem? (i := 150) rfl))))) rfl⟩
theorem cb_Mod_cut : CB y_Mod_cut b_Mod_cut 3 (some .int) 2 := ⟨vv_Gin (List.mem_append_right _ (List.mem_append_right _ (List.mem_append_right _ (List.mem_append_right _ (List.mem_append_right _ (List.mem_append_right _ (List.mem_of_getElem? (i := 8) rfl))))))) rfl, by decide +kernel, vv_Gin (List.mem_append_right _ (List.mem_append_left _ (List.mem_of_getElem? (i := 13) rfl))) rfl⟩
theorem im_Mod_cut : Cond.instanceMethod y_Mod_cut ∈ vv_G := vv_Gin (List.mem_append_right _ (List.mem_append_right _ (List.mem_append_right _ (List.mem_append_right _ (List.mem_append_right _ (List.mem_append_right _ (List.mem_of_getElem? (i := 6) rfl))))))) rfl
theorem se_Mod_cut : Cond.selects y_Mod_cut.cls y_Mod_cut y_Mod_cut ∈ vv_G := vv_Gin (List.mem_append_right _ (List.mem_append_right _ (List.mem_append_right _ (List.mem_append_right _ (List.mem_append_right _ (List.mem_append_right _ (List.mem_of_getElem? (i := 7) rfl))))))) rfl
theorem cv_law_68 : CV R_law 68 y_Mod_cut b_Mod_cut 3 (some .int) 2 := ⟨cb_Mod_cut, im_Mod_cut, se_Mod_cut, vv_Gin (List.mem_append_right _ (List.mem_append_right _ (List.mem_append_right _ (List.mem_append_right _ (List.mem_append_right _ (List.mem_append_right _ (List.mem_of_getElem? (i := 5) rfl))))))) rfl⟩
theorem cb_Rod_owe : CB y_Rod_owe b_Rod_owe 4 (some .int) 3 := ⟨vv_Gin (List.mem_append_right _ (List.mem_append_right _ (List.mem_append_right _ (List.mem_append_left _ (List.mem_of_getElem? (i := 160) rfl))))) rfl, by decide +kernel, vv_Gin (List.mem_append_right _ (List.mem_append_left _ (List.mem_of_getElem? (i := 1) rfl))) rfl⟩
theorem im_Rod_owe : Cond.instanceMethod y_Rod_owe ∈ vv_G := vv_Gin (List.mem_append_right _ (List.mem_append_right _ (List.mem_append_right _ (List.mem_append_left _ (List.mem_of_getElem? (i := 158) rfl))))) rfl
theorem se_Rod_owe : Cond.selects y_Rod_owe.cls y_Rod_owe y_Rod_owe ∈ vv_G := vv_Gin (List.mem_append_right _ (List.mem_append_right _ (List.mem_append_right _ (List.mem_append_left _ (List.mem_of_getElem? (i := 159) rfl))))) rfl
theorem cv_law_69 : CV R_law 69 y_Rod_owe b_Rod_owe 4 (some .int) 3 := ⟨cb_Rod_owe, im_Rod_owe, se_Rod_owe, vv_Gin (List.mem_append_right _ (List.mem_append_right _ (List.mem_append_right _ (List.mem_append_left _ (List.mem_of_getElem? (i := 157) rfl))))) rfl⟩
theorem cb_Mod_owe : CB y_Mod_owe b_Mod_owe 5 (some .int) 3 := ⟨vv_Gin (List.mem_append_right _ (List.mem_append_right _ (List.mem_append_right _ (List.mem_append_right _ (List.mem_append_right _ (List.mem_append_right _ (List.mem_of_getElem? (i := 13) rfl))))))) rfl, by decide +kernel, vv_Gin (List.mem_append_right _ (List.mem_append_left _ (List.mem_of_getElem? (i := 13) rfl))) rfl⟩
theorem im_Mod_owe : Cond.instanceMethod y_Mod_owe ∈ vv_G := vv_Gin (List.mem_append_right _ (List.mem_append_right _ (List.mem_append_right _ (List.mem_append_right _ (List.mem_append_right _ (List.mem_append_right _ (List.mem_of_getElem? (i := 11) rfl))))))) rfl
theorem se_Mod_owe : Cond.selects y_Mod_owe.cls y_Mod_owe y_Mod_owe ∈ vv_G := vv_Gin (List.mem_append_right _ (List.mem_append_right _ (List.mem_append_right _ (List.mem_append_right _ (List.mem_append_right _ (List.mem_append_right _ (List.mem_of_getElem? (i := 12) rfl))))))) rfl
theorem cv_law_73 : CV R_law 73 y_Mod_owe b_Mod_owe 5 (some .int) 3 := ⟨cb_Mod_owe, im_Mod_owe, se_Mod_owe, vv_Gin (List.mem_append_right _ (List.mem_append_right _ (List.mem_append_right _ (List.mem_append_right _ (List.mem_append_right _ (List.mem_append_right _ (List.mem_of_getElem? (i := 10) rfl))))))) rfl⟩
theorem cb_Rod_pay : CB y_Rod_pay b_Rod_pay 3 (some .int) 1 := ⟨vv_Gin (List.mem_append_right _ (List.mem_append_right _ (List.mem_append_right _ (List.mem_append_left _ (List.mem_of_getElem? (i := 165) rfl))))) rfl, by decide +kernel, vv_Gin (List.mem_append_right _ (List.mem_append_left _ (List.mem_of_getElem? (i := 1) rfl))) rfl⟩
theorem im_Rod_pay : Cond.instanceMethod y_Rod_pay ∈ vv_G := vv_Gin (List.mem_append_right _ (List.mem_append_right _ (List.mem_append_right _ (List.mem_append_left _ (List.mem_of_getElem? (i := 163) rfl))))) rfl
theorem se_Rod_pay : Cond.selects y_Rod_pay.cls y_Rod_pay y_Rod_pay ∈ vv_G := vv_Gin (List.mem_append_right _ (List.mem_append_right _ (List.mem_append_right _ (List.mem_append_left _ (List.mem_of_getElem? (i := 164) rfl))))) rfl
theorem cv_law_74 : CV R_law 74 y_Rod_pay b_Rod_pay 3 (some .int) 1 := ⟨cb_Rod_pay, im_Rod_pay, se_Rod_pay, vv_Gin (List.mem_append_right _ (List.mem_append_right _ (List.mem_append_right _ (List.mem_append_left _ (List.mem_of_getElem? (i := 162) rfl))))) rfl⟩
theorem cb_Mod_pay : CB y_Mod_pay b_Mod_pay 2 (some .int) 1 := ⟨vv_Gin (List.mem_append_right _ (List.mem_append_right _ (List.mem_append_right _ (List.mem_append_right _ (List.mem_append_right _ (List.mem_append_right _ (List.mem_of_getElem? (i := 18) rfl))))))) rfl, by decide +kernel, vv_Gin (List.mem_append_right _ (List.mem_append_left _ (List.mem_of_getElem? (i := 13) rfl))) rfl⟩
theorem im_Mod_pay : Cond.instanceMethod y_Mod_pay ∈ vv_G := vv_Gin (List.mem_append_right _ (List.mem_append_right _ (List.mem_append_right _ (List.mem_append_right _ (List.mem_append_right _ (List.mem_append_right _ (List.mem_of_getElem? (i := 16) rfl))))))) rfl
theorem se_Mod_pay : Cond.selects y_Mod_pay.cls y_Mod_pay y_Mod_pay ∈ vv_G := vv_Gin (List.mem_append_right _ (List.mem_append_right _ (List.mem_append_right _ (List.mem_append_right _ (List.mem_append_right _ (List.mem_append_right _ (List.mem_of_getElem? (i := 17) rfl))))))) rfl
theorem cv_law_77 : CV R_law 77 y_Mod_pay b_Mod_pay 2 (some .int) 1 := ⟨cb_Mod_pay, im_Mod_pay, se_Mod_pay, vv_Gin (List.mem_append_right _ (List.mem_append_right _ (List.mem_append_right _ (List.mem_append_right _ (List.mem_append_right _ (List.mem_append_right _ (List.mem_of_getElem? (i := 15) rfl))))))) rfl⟩
theorem cb_Rod_rain : CB y_Rod_rain b_Rod_rain 2 (some .int) 1 := ⟨vv_Gin (List.mem_append_right _ (List.mem_append_right _ (List.mem_append_right _ (List.mem_append_left _ (List.mem_of_getElem? (i := 169) rfl))))) rfl, by decide +kernel, vv_Gin (List.mem_append_right _ (List.mem_append_left _ (List.mem_of_getElem? (i := 1) rfl))) rfl⟩
theorem im_Rod_rain : Cond.instanceMethod y_Rod_rain ∈ vv_G := vv_Gin (List.mem_append_right _ (List.mem_append_right _ (List.mem_append_right _ (List.mem_append_left _ (List.mem_of_getElem? (i := 167) rfl))))) rfl
theorem se_Rod_rain : Cond.selects y_Rod_rain.cls y_Rod_rain y_Rod_rain ∈ vv_G := vv_Gin (List.mem_append_right _ (List.mem_append_right _ (List.mem_append_right _ (List.mem_append_left _ (List.mem_of_getElem? (i := 168) rfl))))) rfl
theorem cv_law_78 : CV R_law 78 y_Rod_rain b_Rod_rain 2 (some .int) 1 := ⟨cb_Rod_rain, im_Rod_rain, se_Rod_rain, vv_Gin (List.mem_append_right _ (List.mem_append_right _ (List.mem_append_right _ (List.mem_append_left _ (List.mem_of_getElem? (i := 166) rfl))))) rfl⟩
theorem cb_Mod_rain : CB y_Mod_rain b_Mod_rain 4 (some .int) 1 := ⟨vv_Gin (List.mem_append_right _ (List.mem_append_right _ (List.mem_append_right _ (List.mem_append_right _ (List.mem_append_right _ (List.mem_append_right _ (List.mem_of_getElem? (i := 22) rfl))))))) rfl, by decide +kernel, vv_Gin (List.mem_append_right _ (List.mem_append_left _ (List.mem_of_getElem? (i := 13) rfl))) rfl⟩
theorem im_Mod_rain : Cond.instanceMethod y_Mod_rain ∈ vv_G := vv_Gin (List.mem_append_right _ (List.mem_append_right _ (List.mem_append_right _ (List.mem_append_right _ (List.mem_append_right _ (List.mem_append_right _ (List.mem_of_getElem? (i := 20) rfl))))))) rfl
theorem se_Mod_rain : Cond.selects y_Mod_rain.cls y_Mod_rain y_Mod_rain ∈ vv_G := vv_Gin (List.mem_append_right _ (List.mem_append_right _ (List.mem_append_right _ (List.mem_append_right _ (List.mem_append_right _ (List.mem_append_right _ (List.mem_of_getElem? (i := 21) rfl))))))) rfl
theorem cv_law_81 : CV R_law 81 y_Mod_rain b_Mod_rain 4 (some .int) 1 := ⟨cb_Mod_rain, im_Mod_rain, se_Mod_rain, vv_Gin (List.mem_append_right _ (List.mem_append_right _ (List.mem_append_right _ (List.mem_append_right _ (List.mem_append_right _ (List.mem_append_right _ (List.mem_of_getElem? (i := 19) rfl))))))) rfl⟩
theorem cb_Rod_twitch : CB y_Rod_twitch b_Rod_twitch 4 (some .int) 3 := ⟨vv_Gin (List.mem_append_right _ (List.mem_append_right _ (List.mem_append_right _ (List.mem_append_left _ (List.mem_of_getElem? (i := 195) rfl))))) rfl, by decide +kernel, vv_Gin (List.mem_append_right _ (List.mem_append_left _ (List.mem_of_getElem? (i := 1) rfl))) rfl⟩
theorem im_Rod_twitch : Cond.instanceMethod y_Rod_twitch ∈ vv_G := vv_Gin (List.mem_append_right _ (List.mem_append_right _ (List.mem_append_right _ (List.mem_append_left _ (List.mem_of_getElem? (i := 193) rfl))))) rfl
theorem se_Rod_twitch : Cond.selects y_Rod_twitch.cls y_Rod_twitch y_Rod_twitch ∈ vv_G := vv_Gin (List.mem_append_right _ (List.mem_append_right _ (List.mem_append_right _ (List.mem_append_left _ (List.mem_of_getElem? (i := 194) rfl))))) rfl
theorem cv_law_82 : CV R_law 82 y_Rod_twitch b_Rod_twitch 4 (some .int) 3 := ⟨cb_Rod_twitch, im_Rod_twitch, se_Rod_twitch, vv_Gin (List.mem_append_right _ (List.mem_append_right _ (List.mem_append_right _ (List.mem_append_left _ (List.mem_of_getElem? (i := 192) rfl))))) rfl⟩
theorem cb_Mod_twitch : CB y_Mod_twitch b_Mod_twitch 4 (some .int) 3 := ⟨vv_Gin (List.mem_append_right _ (List.mem_append_right _ (List.mem_append_right _ (List.mem_append_right _ (List.mem_append_right _ (List.mem_append_right _ (List.mem_of_getElem? (i := 31) rfl))))))) rfl, by decide +kernel, vv_Gin (List.mem_append_right _ (List.mem_append_left _ (List.mem_of_getElem? (i := 13) rfl))) rfl⟩
theorem im_Mod_twitch : Cond.instanceMethod y_Mod_twitch ∈ vv_G := vv_Gin (List.mem_append_right _ (List.mem_append_right _ (List.mem_append_right _ (List.mem_append_right _ (List.mem_append_right _ (List.mem_append_right _ (List.mem_of_getElem? (i := 29) rfl))))))) rfl
theorem se_Mod_twitch : Cond.selects y_Mod_twitch.cls y_Mod_twitch y_Mod_twitch ∈ vv_G := vv_Gin (List.mem_append_right _ (List.mem_append_right _ (List.mem_append_right _ (List.mem_append_right _ (List.mem_append_right _ (List.mem_append_right _ (List.mem_of_getElem? (i := 30) rfl))))))) rfl
theorem cv_law_85 : CV R_law 85 y_Mod_twitch b_Mod_twitch 4 (some .int) 3 := ⟨cb_Mod_twitch, im_Mod_twitch, se_Mod_twitch, vv_Gin (List.mem_append_right _ (List.mem_append_right _ (List.mem_append_right _ (List.mem_append_right _ (List.mem_append_right _ (List.mem_append_right _ (List.mem_of_getElem? (i := 28) rfl))))))) rfl⟩
theorem cb_Rod_see : CB y_Rod_see b_Rod_see 5 (some .int) 4 := ⟨vv_Gin (List.mem_append_right _ (List.mem_append_right _ (List.mem_append_right _ (List.mem_append_left _ (List.mem_of_getElem? (i := 211) rfl))))) rfl, by decide +kernel, vv_Gin (List.mem_append_right _ (List.mem_append_left _ (List.mem_of_getElem? (i := 1) rfl))) rfl⟩
theorem im_Rod_see : Cond.instanceMethod y_Rod_see ∈ vv_G := vv_Gin (List.mem_append_right _ (List.mem_append_right _ (List.mem_append_right _ (List.mem_append_left _ (List.mem_of_getElem? (i := 209) rfl))))) rfl
theorem se_Rod_see : Cond.selects y_Rod_see.cls y_Rod_see y_Rod_see ∈ vv_G := vv_Gin (List.mem_append_right _ (List.mem_append_right _ (List.mem_append_right _ (List.mem_append_left _ (List.mem_of_getElem? (i := 210) rfl))))) rfl
theorem cv_law_86 : CV R_law 86 y_Rod_see b_Rod_see 5 (some .int) 4 := ⟨cb_Rod_see, im_Rod_see, se_Rod_see, vv_Gin (List.mem_append_right _ (List.mem_append_right _ (List.mem_append_right _ (List.mem_append_left _ (List.mem_of_getElem? (i := 208) rfl))))) rfl⟩
theorem cb_Mod_see : CB y_Mod_see b_Mod_see 6 (some .int) 4 := ⟨vv_Gin (List.mem_append_right _ (List.mem_append_right _ (List.mem_append_right _ (List.mem_append_right _ (List.mem_append_right _ (List.mem_append_right _ (List.mem_of_getElem? (i := 43) rfl))))))) rfl, by decide +kernel, vv_Gin (List.mem_append_right _ (List.mem_append_left _ (List.mem_of_getElem? (i := 13) rfl))) rfl⟩
theorem im_Mod_see : Cond.instanceMethod y_Mod_see ∈ vv_G := vv_Gin (List.mem_append_right _ (List.mem_append_right _ (List.mem_append_right _ (List.mem_append_right _ (List.mem_append_right _ (List.mem_append_right _ (List.mem_of_getElem? (i := 41) rfl))))))) rfl
theorem se_Mod_see : Cond.selects y_Mod_see.cls y_Mod_see y_Mod_see ∈ vv_G := vv_Gin (List.mem_append_right _ (List.mem_append_right _ (List.mem_append_right _ (List.mem_append_right _ (List.mem_append_right _ (List.mem_append_right _ (List.mem_of_getElem? (i := 42) rfl))))))) rfl
theorem cv_law_90 : CV R_law 90 y_Mod_see b_Mod_see 6 (some .int) 4 := ⟨cb_Mod_see, im_Mod_see, se_Mod_see, vv_Gin (List.mem_append_right _ (List.mem_append_right _ (List.mem_append_right _ (List.mem_append_right _ (List.mem_append_right _ (List.mem_append_right _ (List.mem_of_getElem? (i := 40) rfl))))))) rfl⟩
theorem cb_Rod_forget : CB y_Rod_forget b_Rod_forget 3 (some .int) 1 := ⟨vv_Gin (List.mem_append_right _ (List.mem_append_right _ (List.mem_append_right _ (List.mem_append_left _ (List.mem_of_getElem? (i := 219) rfl))))) rfl, by decide +kernel, vv_Gin (List.mem_append_right _ (List.mem_append_left _ (List.mem_of_getElem? (i := 1) rfl))) rfl⟩
theorem im_Rod_forget : Cond.instanceMethod y_Rod_forget ∈ vv_G := vv_Gin (List.mem_append_right _ (List.mem_append_right _ (List.mem_append_right _ (List.mem_append_left _ (List.mem_of_getElem? (i := 217) rfl))))) rfl
theorem se_Rod_forget : Cond.selects y_Rod_forget.cls y_Rod_forget y_Rod_forget ∈ vv_G := vv_Gin (List.mem_append_right _ (List.mem_append_right _ (List.mem_append_right _ (List.mem_append_left _ (List.mem_of_getElem? (i := 218) rfl))))) rfl
theorem cv_law_91 : CV R_law 91 y_Rod_forget b_Rod_forget 3 (some .int) 1 := ⟨cb_Rod_forget, im_Rod_forget, se_Rod_forget, vv_Gin (List.mem_append_right _ (List.mem_append_right _ (List.mem_append_right _ (List.mem_append_left _ (List.mem_of_getElem? (i := 216) rfl))))) rfl⟩
theorem cb_Mod_forget : CB y_Mod_forget b_Mod_forget 2 (some .int) 1 := ⟨vv_Gin (List.mem_append_right _ (List.mem_append_right _ (List.mem_append_right _ (List.mem_append_right _ (List.mem_append_right _ (List.mem_append_right _ (List.mem_of_getElem? (i := 47) rfl))))))) rfl, by decide +kernel, vv_Gin (List.mem_append_right _ (List.mem_append_left _ (List.mem_of_getElem? (i := 13) rfl))) rfl⟩
theorem im_Mod_forget : Cond.instanceMethod y_Mod_forget ∈ vv_G := vv_Gin (List.mem_append_right _ (List.mem_append_right _ (List.mem_append_right _ (List.mem_append_right _ (List.mem_append_right _ (List.mem_append_right _ (List.mem_of_getElem? (i := 45) rfl))))))) rfl
theorem se_Mod_forget : Cond.selects y_Mod_forget.cls y_Mod_forget y_Mod_forget ∈ vv_G := vv_Gin (List.mem_append_right _ (List.mem_append_right _ (List.mem_append_right _ (List.mem_append_right _ (List.mem_append_right _ (List.mem_append_right _ (List.mem_of_getElem? (i := 46) rfl))))))) rfl
theorem cv_law_94 : CV R_law 94 y_Mod_forget b_Mod_forget 2 (some .int) 1 := ⟨cb_Mod_forget, im_Mod_forget, se_Mod_forget, vv_Gin (List.mem_append_right _ (List.mem_append_right _ (List.mem_append_right _ (List.mem_append_right _ (List.mem_append_right _ (List.mem_append_right _ (List.mem_of_getElem? (i := 44) rfl))))))) rfl⟩
theorem cb_Rod_natures : CB y_Rod_natures b_Rod_natures 4 (some .int) 0 := ⟨vv_Gin (List.mem_append_right _ (List.mem_append_right _ (List.mem_append_right _ (List.mem_append_left _ (List.mem_of_getElem? (i := 223) rfl))))) rfl, by decide +kernel, vv_Gin (List.mem_append_right _ (List.mem_append_left _ (List.mem_of_getElem? (i := 1) rfl))) rfl⟩
theorem im_Rod_natures : Cond.instanceMethod y_Rod_natures ∈ vv_G := vv_Gin (List.mem_append_right _ (List.mem_append_right _ (List.mem_append_right _ (List.mem_append_left _ (List.mem_of_getElem? (i := 221) rfl))))) rfl
theorem se_Rod_natures : Cond.selects y_Rod_natures.cls y_Rod_natures y_Rod_natures ∈ vv_G := vv_Gin (List.mem_append_right _ (List.mem_append_right _ (List.mem_append_right _ (List.mem_append_left _ (List.mem_of_getElem? (i := 222) rfl))))) rfl
theorem cv_law_95 : CV R_law 95 y_Rod_natures b_Rod_natures 4 (some .int) 0 := ⟨cb_Rod_natures, im_Rod_natures, se_Rod_natures, vv_Gin (List.mem_append_right _ (List.mem_append_right _ (List.mem_append_right _ (List.mem_append_left _ (List.mem_of_getElem? (i := 220) rfl))))) rfl⟩
theorem cb_Mod_natures : CB y_Mod_natures b_Mod_natures 4 (some .int) 0 := ⟨vv_Gin (List.mem_append_right _ (List.mem_append_right _ (List.mem_append_right _ (List.mem_append_right _ (List.mem_append_right _ (List.mem_append_right _ (List.mem_of_getElem? (i := 51) rfl))))))) rfl, by decide +kernel, vv_Gin (List.mem_append_right _ (List.mem_append_left _ (List.mem_of_getElem? (i := 13) rfl))) rfl⟩
theorem im_Mod_natures : Cond.instanceMethod y_Mod_natures ∈ vv_G := vv_Gin (List.mem_append_right _ (List.mem_append_right _ (List.mem_append_right _ (List.mem_append_right _ (List.mem_append_right _ (List.mem_append_right _ (List.mem_of_getElem? (i := 49) rfl))))))) rfl
theorem se_Mod_natures : Cond.selects y_Mod_natures.cls y_Mod_natures y_Mod_natures ∈ vv_G := vv_Gin (List.mem_append_right _ (List.mem_append_right _ (List.mem_append_right _ (List.mem_append_right _ (List.mem_append_right _ (List.mem_append_right _ (List.mem_of_getElem? (i := 50) rfl))))))) rfl
theorem cv_law_98 : CV R_law 98 y_Mod_natures b_Mod_natures 4 (some .int) 0 := ⟨cb_Mod_natures, im_Mod_natures, se_Mod_natures, vv_Gin (List.mem_append_right _ (List.mem_append_right _ (List.mem_append_right _ (List.mem_append_right _ (List.mem_append_right _ (List.mem_append_right _ (List.mem_of_getElem? (i := 48) rfl))))))) rfl⟩
theorem cb_Rod_reaches : CB y_Rod_reaches b_Rod_reaches 5 (some .int) 1 := ⟨vv_Gin (List.mem_append_right _ (List.mem_append_right _ (List.mem_append_right _ (List.mem_append_right _ (List.mem_append_left _ (List.mem_of_getElem? (i := 4) rfl)))))) rfl, by decide +kernel, vv_Gin (List.mem_append_right _ (List.mem_append_left _ (List.mem_of_getElem? (i := 1) rfl))) rfl⟩
theorem im_Rod_reaches : Cond.instanceMethod y_Rod_reaches ∈ vv_G := vv_Gin (List.mem_append_right _ (List.mem_append_right _ (List.mem_append_right _ (List.mem_append_right _ (List.mem_append_left _ (List.mem_of_getElem? (i := 2) rfl)))))) rfl
theorem se_Rod_reaches : Cond.selects y_Rod_reaches.cls y_Rod_reaches y_Rod_reaches ∈ vv_G := vv_Gin (List.mem_append_right _ (List.mem_append_right _ (List.mem_append_right _ (List.mem_append_right _ (List.mem_append_left _ (List.mem_of_getElem? (i := 3) rfl)))))) rfl
theorem cv_law_99 : CV R_law 99 y_Rod_reaches b_Rod_reaches 5 (some .int) 1 := ⟨cb_Rod_reaches, im_Rod_reaches, se_Rod_reaches, vv_Gin (List.mem_append_right _ (List.mem_append_right _ (List.mem_append_right _ (List.mem_append_right _ (List.mem_append_left _ (List.mem_of_getElem? (i := 1) rfl)))))) rfl⟩
theorem cb_Mod_reaches : CB y_Mod_reaches b_Mod_reaches 4 (some .int) 1 := ⟨vv_Gin (List.mem_append_right _ (List.mem_append_right _ (List.mem_append_right _ (List.mem_append_right _ (List.mem_append_right _ (List.mem_append_right _ (List.mem_of_getElem? (i := 62) rfl))))))) rfl, by decide +kernel, vv_Gin (List.mem_append_right _ (List.mem_append_left _ (List.mem_of_getElem? (i := 13) rfl))) rfl⟩
theorem im_Mod_reaches : Cond.instanceMethod y_Mod_reaches ∈ vv_G := vv_Gin (List.mem_append_right _ (List.mem_append_right _ (List.mem_append_right _ (List.mem_append_right _ (List.mem_append_right _ (List.mem_append_right _ (List.mem_of_getElem? (i := 60) rfl))))))) rfl
theorem se_Mod_reaches : Cond.selects y_Mod_reaches.cls y_Mod_reaches y_Mod_reaches ∈ vv_G := vv_Gin (List.mem_append_right _ (List.mem_append_right _ (List.mem_append_right _ (List.mem_append_right _ (List.mem_append_right _ (List.mem_append_right _ (List.mem_of_getElem? (i := 61) rfl))))))) rfl
theorem cv_law_102 : CV R_law 102 y_Mod_reaches b_Mod_reaches 4 (some .int) 1 := ⟨cb_Mod_reaches, im_Mod_reaches, se_Mod_reaches, vv_Gin (List.mem_append_right _ (List.mem_append_right _ (List.mem_append_right _ (List.mem_append_right _ (List.mem_append_right _ (List.mem_append_right _ (List.mem_of_getElem? (i := 59) rfl))))))) rfl⟩
theorem cb_Rod_test : CB y_Rod_test b_Rod_test 11 (some .int) 2 := ⟨vv_Gin (List.mem_append_right _ (List.mem_append_right _ (List.mem_append_right _ (List.mem_append_right _ (List.mem_append_left _ (List.mem_of_getElem? (i := 12) rfl)))))) rfl, by decide +kernel, vv_Gin (List.mem_append_right _ (List.mem_append_left _ (List.mem_of_getElem? (i := 1) rfl))) rfl⟩
theorem im_Rod_test : Cond.instanceMethod y_Rod_test ∈ vv_G := vv_Gin (List.mem_append_right _ (List.mem_append_right _ (List.mem_append_right _ (List.mem_append_right _ (List.mem_append_left _ (List.mem_of_getElem? (i := 10) rfl)))))) rfl
theorem se_Rod_test : Cond.selects y_Rod_test.cls y_Rod_test y_Rod_test ∈ vv_G := vv_Gin (List.mem_append_right _ (List.mem_append_right _ (List.mem_append_right _ (List.mem_append_right _ (List.mem_append_left _ (List.mem_of_getElem? (i := 11) rfl)))))) rfl
theorem cv_law_103 : CV R_law 103 y_Rod_test b_Rod_test 11 (some .int) 2 := ⟨cb_Rod_test, im_Rod_test, se_Rod_test, vv_Gin (List.mem_append_right _ (List.mem_append_right _ (List.mem_append_right _ (List.mem_append_right _ (List.mem_append_left _ (List.mem_of_getElem? (i := 9) rfl)))))) rfl⟩
theorem cb_Mod_test : CB y_Mod_test b_Mod_test 10 (some .int) 2 := ⟨vv_Gin (List.mem_append_right _ (List.mem_append_right _ (List.mem_append_right _ (List.mem_append_right _ (List.mem_append_right _ (List.mem_append_right _ (List.mem_of_getElem? (i := 66) rfl))))))) rfl, by decide +kernel, vv_Gin (List.mem_append_right _ (List.mem_append_left _ (List.mem_of_getElem? (i := 13) rfl))) rfl⟩
theorem im_Mod_test : Cond.instanceMethod y_Mod_test ∈ vv_G := vv_Gin (List.mem_append_right _ (List.mem_append_right _ (List.mem_append_right _ (List.mem_append_right _ (List.mem_append_right _ (List.mem_append_right _ (List.mem_of_getElem? (i := 64) rfl))))))) rfl
theorem se_Mod_test : Cond.selects y_Mod_test.cls y_Mod_test y_Mod_test ∈ vv_G := vv_Gin (List.mem_append_right _ (List.mem_append_right _ (List.mem_append_right _ (List.mem_append_right _ (List.mem_append_right _ (List.mem_append_right _ (List.mem_of_getElem? (i := 65) rfl))))))) rfl
theorem cv_law_106 : CV R_law 106 y_Mod_test b_Mod_test 10 (some .int) 2 := ⟨cb_Mod_test, im_Mod_test, se_Mod_test, vv_Gin (List.mem_append_right _ (List.mem_append_right _ (List.mem_append_right _ (List.mem_append_right _ (List.mem_append_right _ (List.mem_append_right _ (List.mem_of_getElem? (i := 63) rfl))))))) rfl⟩
theorem cb_Rod_show : CB y_Rod_show b_Rod_show 5 (some .int) 4 := ⟨vv_Gin (List.mem_append_right _ (List.mem_append_right _ (List.mem_append_right _ (List.mem_append_right _ (List.mem_append_left _ (List.mem_of_getElem? (i := 20) rfl)))))) rfl, by decide +kernel, vv_Gin (List.mem_append_right _ (List.mem_append_left _ (List.mem_of_getElem? (i := 1) rfl))) rfl⟩
theorem im_Rod_show : Cond.instanceMethod y_Rod_show ∈ vv_G := vv_Gin (List.mem_append_right _ (List.mem_append_right _ (List.mem_append_right _ (List.mem_append_right _ (List.mem_append_left _ (List.mem_of_getElem? (i := 18) rfl)))))) rfl
theorem se_Rod_show : Cond.selects y_Rod_show.cls y_Rod_show y_Rod_show ∈ vv_G := vv_Gin (List.mem_append_right _ (List.mem_append_right _ (List.mem_append_right _ (List.mem_append_right _ (List.mem_append_left _ (List.mem_of_getElem? (i := 19) rfl)))))) rfl
theorem cv_law_107 : CV R_law 107 y_Rod_show b_Rod_show 5 (some .int) 4 := ⟨cb_Rod_show, im_Rod_show, se_Rod_show, vv_Gin (List.mem_append_right _ (List.mem_append_right _ (List.mem_append_right _ (List.mem_append_right _ (List.mem_append_left _ (List.mem_of_getElem? (i := 17) rfl)))))) rfl⟩
theorem cb_Mod_show : CB y_Mod_show b_Mod_show 7 (some .int) 4 := ⟨vv_Gin (List.mem_append_right _ (List.mem_append_right _ (List.mem_append_right _ (List.mem_append_right _ (List.mem_append_right _ (List.mem_append_right _ (List.mem_of_getElem? (i := 74) rfl))))))) rfl, by decide +kernel, vv_Gin (List.mem_append_right _ (List.mem_append_left _ (List.mem_of_getElem? (i := 13) rfl))) rfl⟩
theorem im_Mod_show : Cond.instanceMethod y_Mod_show ∈ vv_G := vv_Gin (List.mem_append_right _ (List.mem_append_right _ (List.mem_append_right _ (List.mem_append_right _ (List.mem_append_right _ (List.mem_append_right _ (List.mem_of_getElem? (i := 72) rfl))))))) rfl
theorem se_Mod_show : Cond.selects y_Mod_show.cls y_Mod_show y_Mod_show ∈ vv_G := vv_Gin (List.mem_append_right _ (List.mem_append_right _ (List.mem_append_right _ (List.mem_append_right _ (List.mem_append_right _ (List.mem_append_right _ (List.mem_of_getElem? (i := 73) rfl))))))) rfl
theorem cv_law_111 : CV R_law 111 y_Mod_show b_Mod_show 7 (some .int) 4 := ⟨cb_Mod_show, im_Mod_show, se_Mod_show, vv_Gin (List.mem_append_right _ (List.mem_append_right _ (List.mem_append_right _ (List.mem_append_right _ (List.mem_append_right _ (List.mem_append_right _ (List.mem_of_getElem? (i := 71) rfl))))))) rfl⟩
theorem cb_Rod_bore : CB y_Rod_bore b_Rod_bore 4 (some .int) 3 := ⟨vv_Gin (List.mem_append_right _ (List.mem_append_right _ (List.mem_append_right _ (List.mem_append_right _ (List.mem_append_left _ (List.mem_of_getElem? (i := 46) rfl)))))) rfl, by decide +kernel, vv_Gin (List.mem_append_right _ (List.mem_append_left _ (List.mem_of_getElem? (i := 1) rfl))) rfl⟩
theorem im_Rod_bore : Cond.instanceMethod y_Rod_bore ∈ vv_G := vv_Gin (List.mem_append_right _ (List.mem_append_right _ (List.mem_append_right _ (List.mem_append_right _ (List.mem_append_left _ (List.mem_of_getElem? (i := 44) rfl)))))) rfl
theorem se_Rod_bore : Cond.selects y_Rod_bore.cls y_Rod_bore y_Rod_bore ∈ vv_G := vv_Gin (List.mem_append_right _ (List.mem_append_right _ (List.mem_append_right _ (List.mem_append_right _ (List.mem_append_left _ (List.mem_of_getElem? (i := 45) rfl)))))) rfl
theorem cv_law_112 : CV R_law 112 y_Rod_bore b_Rod_bore 4 (some .int) 3 := ⟨cb_Rod_bore, im_Rod_bore, se_Rod_bore, vv_Gin (List.mem_append_right _ (List.mem_append_right _ (List.mem_append_right _ (List.mem_append_right _ (List.mem_append_left _ (List.mem_of_getElem? (i := 43) rfl)))))) rfl⟩
theorem cv_law_115 : CV R_law 115 y_Mod_bore b_Mod_bore 9 (some .int) 3 := ⟨cb_Mod_bore, im_Mod_bore, se_Mod_bore, vv_Gin (List.mem_append_right _ (List.mem_append_right _ (List.mem_append_right _ (List.mem_append_right _ (List.mem_append_right _ (List.mem_append_right _ (List.mem_of_getElem? (i := 92) rfl))))))) rfl⟩
theorem cb_Rod_plan : CB y_Rod_plan b_Rod_plan 5 (some .long) 4 := ⟨vv_Gin (List.mem_append_right _ (List.mem_append_right _ (List.mem_append_right _ (List.mem_append_right _ (List.mem_append_left _ (List.mem_of_getElem? (i := 62) rfl)))))) rfl, by decide +kernel, vv_Gin (List.mem_append_right _ (List.mem_append_left _ (List.mem_of_getElem? (i := 1) rfl))) rfl⟩
theorem im_Rod_plan : Cond.instanceMethod y_Rod_plan ∈ vv_G := vv_Gin (List.mem_append_right _ (List.mem_append_right _ (List.mem_append_right _ (List.mem_append_right _ (List.mem_append_left _ (List.mem_of_getElem? (i := 60) rfl)))))) rfl
theorem se_Rod_plan : Cond.selects y_Rod_plan.cls y_Rod_plan y_Rod_plan ∈ vv_G := vv_Gin (List.mem_append_right _ (List.mem_append_right _ (List.mem_append_right _ (List.mem_append_right _ (List.mem_append_left _ (List.mem_of_getElem? (i := 61) rfl)))))) rfl
theorem cv_law_116 : CV R_law 116 y_Rod_plan b_Rod_plan 5 (some .long) 4 := ⟨cb_Rod_plan, im_Rod_plan, se_Rod_plan, vv_Gin (List.mem_append_right _ (List.mem_append_right _ (List.mem_append_right _ (List.mem_append_right _ (List.mem_append_left _ (List.mem_of_getElem? (i := 59) rfl)))))) rfl⟩
theorem cb_Mod_plan : CB y_Mod_plan b_Mod_plan 7 (some .long) 4 := ⟨vv_Gin (List.mem_append_right _ (List.mem_append_right _ (List.mem_append_right _ (List.mem_append_right _ (List.mem_append_right _ (List.mem_append_right _ (List.mem_of_getElem? (i := 99) rfl))))))) rfl, by decide +kernel, vv_Gin (List.mem_append_right _ (List.mem_append_left _ (List.mem_of_getElem? (i := 13) rfl))) rfl⟩
theorem im_Mod_plan : Cond.instanceMethod y_Mod_plan ∈ vv_G := vv_Gin (List.mem_append_right _ (List.mem_append_right _ (List.mem_append_right _ (List.mem_append_right _ (List.mem_append_right _ (List.mem_append_right _ (List.mem_of_getElem? (i := 97) rfl))))))) rfl
theorem se_Mod_plan : Cond.selects y_Mod_plan.cls y_Mod_plan y_Mod_plan ∈ vv_G := vv_Gin (List.mem_append_right _ (List.mem_append_right _ (List.mem_append_right _ (List.mem_append_right _ (List.mem_append_right _ (List.mem_append_right _ (List.mem_of_getElem? (i := 98) rfl))))))) rfl
theorem cv_law_120 : CV R_law 120 y_Mod_plan b_Mod_plan 7 (some .long) 4 := ⟨cb_Mod_plan, im_Mod_plan, se_Mod_plan, vv_Gin (List.mem_append_right _ (List.mem_append_right _ (List.mem_append_right _ (List.mem_append_right _ (List.mem_append_right _ (List.mem_append_right _ (List.mem_of_getElem? (i := 96) rfl))))))) rfl⟩
theorem cb_Rod_beds : CB y_Rod_beds b_Rod_beds 2 (some .int) 1 := ⟨vv_Gin (List.mem_append_right _ (List.mem_append_right _ (List.mem_append_right _ (List.mem_append_right _ (List.mem_append_left _ (List.mem_of_getElem? (i := 90) rfl)))))) rfl, by decide +kernel, vv_Gin (List.mem_append_right _ (List.mem_append_left _ (List.mem_of_getElem? (i := 1) rfl))) rfl⟩
theorem im_Rod_beds : Cond.instanceMethod y_Rod_beds ∈ vv_G := vv_Gin (List.mem_append_right _ (List.mem_append_right _ (List.mem_append_right _ (List.mem_append_right _ (List.mem_append_left _ (List.mem_of_getElem? (i := 88) rfl)))))) rfl
theorem se_Rod_beds : Cond.selects y_Rod_beds.cls y_Rod_beds y_Rod_beds ∈ vv_G := vv_Gin (List.mem_append_right _ (List.mem_append_right _ (List.mem_append_right _ (List.mem_append_right _ (List.mem_append_left _ (List.mem_of_getElem? (i := 89) rfl)))))) rfl
theorem cv_law_121 : CV R_law 121 y_Rod_beds b_Rod_beds 2 (some .int) 1 := ⟨cb_Rod_beds, im_Rod_beds, se_Rod_beds, vv_Gin (List.mem_append_right _ (List.mem_append_right _ (List.mem_append_right _ (List.mem_append_right _ (List.mem_append_left _ (List.mem_of_getElem? (i := 87) rfl)))))) rfl⟩
theorem cb_Mod_beds : CB y_Mod_beds b_Mod_beds 8 (some .int) 1 := ⟨vv_Gin (List.mem_append_right _ (List.mem_append_right _ (List.mem_append_right _ (List.mem_append_right _ (List.mem_append_right _ (List.mem_append_right _ (List.mem_of_getElem? (i := 122) rfl))))))) rfl, by decide +kernel, vv_Gin (List.mem_append_right _ (List.mem_append_left _ (List.mem_of_getElem? (i := 13) rfl))) rfl⟩
theorem im_Mod_beds : Cond.instanceMethod y_Mod_beds ∈ vv_G := vv_Gin (List.mem_append_right _ (List.mem_append_right _ (List.mem_append_right _ (List.mem_append_right _ (List.mem_append_right _ (List.mem_append_right _ (List.mem_of_getElem? (i := 120) rfl))))))) rfl
theorem se_Mod_beds : Cond.selects y_Mod_beds.cls y_Mod_beds y_Mod_beds ∈ vv_G := vv_Gin (List.mem_append_right _ (List.mem_append_right _ (List.mem_append_right _ (List.mem_append_right _ (List.mem_append_right _ (List.mem_append_right _ (List.mem_of_getElem? (i := 121) rfl))))))) rfl
theorem cv_law_124 : CV R_law 124 y_Mod_beds b_Mod_beds 8 (some .int) 1 := ⟨cb_Mod_beds, im_Mod_beds, se_Mod_beds, vv_Gin (List.mem_append_right _ (List.mem_append_right _ (List.mem_append_right _ (List.mem_append_right _ (List.mem_append_right _ (List.mem_append_right _ (List.mem_of_getElem? (i := 119) rfl))))))) rfl⟩
theorem cb_Rod_next : CB y_Rod_next b_Rod_next 9 (some .int) 2 := ⟨vv_Gin (List.mem_append_right _ (List.mem_append_right _ (List.mem_append_right _ (List.mem_append_right _ (List.mem_append_left _ (List.mem_of_getElem? (i := 117) rfl)))))) rfl, by decide +kernel, vv_Gin (List.mem_append_right _ (List.mem_append_left _ (List.mem_of_getElem? (i := 1) rfl))) rfl⟩
theorem im_Rod_next : Cond.instanceMethod y_Rod_next ∈ vv_G := vv_Gin (List.mem_append_right _ (List.mem_append_right _ (List.mem_append_right _ (List.mem_append_right _ (List.mem_append_left _ (List.mem_of_getElem? (i := 115) rfl)))))) rfl
theorem se_Rod_next : Cond.selects y_Rod_next.cls y_Rod_next y_Rod_next ∈ vv_G := vv_Gin (List.mem_append_right _ (List.mem_append_right _ (List.mem_append_right _ (List.mem_append_right _ (List.mem_append_left _ (List.mem_of_getElem? (i := 116) rfl)))))) rfl
theorem cv_law_125 : CV R_law 125 y_Rod_next b_Rod_next 9 (some .int) 2 := ⟨cb_Rod_next, im_Rod_next, se_Rod_next, vv_Gin (List.mem_append_right _ (List.mem_append_right _ (List.mem_append_right _ (List.mem_append_right _ (List.mem_append_left _ (List.mem_of_getElem? (i := 114) rfl)))))) rfl⟩
theorem cb_Mod_next_ : CB y_Mod_next_ b_Mod_next_ 9 (some .int) 2 := ⟨vv_Gin (List.mem_append_right _ (List.mem_append_right _ (List.mem_append_right _ (List.mem_append_right _ (List.mem_append_right _ (List.mem_append_right _ (List.mem_of_getElem? (i := 138) rfl))))))) rfl, by decide +kernel, vv_Gin (List.mem_append_right _ (List.mem_append_left _ (List.mem_of_getElem? (i := 13) rfl))) rfl⟩
theorem im_Mod_next_ : Cond.instanceMethod y_Mod_next_ ∈ vv_G := vv_Gin (List.mem_append_right _ (List.mem_append_right _ (List.mem_append_right _ (List.mem_append_right _ (List.mem_append_right _ (List.mem_append_right _ (List.mem_of_getElem? (i := 136) rfl))))))) rfl
theorem se_Mod_next_ : Cond.selects y_Mod_next_.cls y_Mod_next_ y_Mod_next_ ∈ vv_G := vv_Gin (List.mem_append_right _ (List.mem_append_right _ (List.mem_append_right _ (List.mem_append_right _ (List.mem_append_right _ (List.mem_append_right _ (List.mem_of_getElem? (i := 137) rfl))))))) rfl
theorem cv_law_128 : CV R_law 128 y_Mod_next_ b_Mod_next_ 9 (some .int) 2 := ⟨cb_Mod_next_, im_Mod_next_, se_Mod_next_, vv_Gin (List.mem_append_right _ (List.mem_append_right _ (List.mem_append_right _ (List.mem_append_right _ (List.mem_append_right _ (List.mem_append_right _ (List.mem_of_getElem? (i := 135) rfl))))))) rfl⟩
theorem cb_Rod_crash : CB y_Rod_crash b_Rod_crash 7 (some .int) 1 := ⟨vv_Gin (List.mem_append_right _ (List.mem_append_right _ (List.mem_append_right _ (List.mem_append_right _ (List.mem_append_left _ (List.mem_of_getElem? (i := 125) rfl)))))) rfl, by decide +kernel, vv_Gin (List.mem_append_right _ (List.mem_append_left _ (List.mem_of_getElem? (i := 1) rfl))) rfl⟩
theorem im_Rod_crash : Cond.instanceMethod y_Rod_crash ∈ vv_G := vv_Gin (List.mem_append_right _ (List.mem_append_right _ (List.mem_append_right _ (List.mem_append_right _ (List.mem_append_left _ (List.mem_of_getElem? (i := 123) rfl)))))) rfl
theorem se_Rod_crash : Cond.selects y_Rod_crash.cls y_Rod_crash y_Rod_crash ∈ vv_G := vv_Gin (List.mem_append_right _ (List.mem_append_right _ (List.mem_append_right _ (List.mem_append_right _ (List.mem_append_left _ (List.mem_of_getElem? (i := 124) rfl)))))) rfl
theorem cv_law_129 : CV R_law 129 y_Rod_crash b_Rod_crash 7 (some .int) 1 := ⟨cb_Rod_crash, im_Rod_crash, se_Rod_crash, vv_Gin (List.mem_append_right _ (List.mem_append_right _ (List.mem_append_right _ (List.mem_append_right _ (List.mem_append_left _ (List.mem_of_getElem? (i := 122) rfl)))))) rfl⟩
theorem cb_Mod_crash : CB y_Mod_crash b_Mod_crash 3 (some .int) 1 := ⟨vv_Gin (List.mem_append_right _ (List.mem_append_right _ (List.mem_append_right _ (List.mem_append_right _ (List.mem_append_right _ (List.mem_append_right _ (List.mem_of_getElem? (i := 146) rfl))))))) rfl, by decide +kernel, vv_Gin (List.mem_append_right _ (List.mem_append_left _ (List.mem_of_getElem? (i := 13) rfl))) rfl⟩
theorem im_Mod_crash : Cond.instanceMethod y_Mod_crash ∈ vv_G := vv_Gin (List.mem_append_right _ (List.mem_append_right _ (List.mem_append_right _ (List.mem_append_right _ (List.mem_append_right _ (List.mem_append_right _ (List.mem_of_getElem? (i := 144) rfl))))))) rfl
theorem se_Mod_crash : Cond.selects y_Mod_crash.cls y_Mod_crash y_Mod_crash ∈ vv_G := vv_Gin (List.mem_append_right _ (List.mem_append_right _ (List.mem_append_right _ (List.mem_append_right _ (List.mem_append_right _ (List.mem_append_right _ (List.mem_of_getElem? (i := 145) rfl))))))) rfl
theorem cv_law_132 : CV R_law 132 y_Mod_crash b_Mod_crash 3 (some .int) 1 := ⟨cb_Mod_crash, im_Mod_crash, se_Mod_crash, vv_Gin (List.mem_append_right _ (List.mem_append_right _ (List.mem_append_right _ (List.mem_append_right _ (List.mem_append_right _ (List.mem_append_right _ (List.mem_of_getElem? (i := 143) rfl))))))) rfl⟩
theorem cb_Rod_save : CB y_Rod_save b_Rod_save 2 (some .int) 1 := ⟨vv_Gin (List.mem_append_right _ (List.mem_append_right _ (List.mem_append_right _ (List.mem_append_right _ (List.mem_append_left _ (List.mem_of_getElem? (i := 137) rfl)))))) rfl, by decide +kernel, vv_Gin (List.mem_append_right _ (List.mem_append_left _ (List.mem_of_getElem? (i := 1) rfl))) rfl⟩
theorem im_Rod_save : Cond.instanceMethod y_Rod_save ∈ vv_G := vv_Gin (List.mem_append_right _ (List.mem_append_right _ (List.mem_append_right _ (List.mem_append_right _ (List.mem_append_left _ (List.mem_of_getElem? (i := 135) rfl)))))) rfl
theorem se_Rod_save : Cond.selects y_Rod_save.cls y_Rod_save y_Rod_save ∈ vv_G := vv_Gin (List.mem_append_right _ (List.mem_append_right _ (List.mem_append_right _ (List.mem_append_right _ (List.mem_append_left _ (List.mem_of_getElem? (i := 136) rfl)))))) rfl
theorem cv_law_133 : CV R_law 133 y_Rod_save b_Rod_save 2 (some .int) 1 := ⟨cb_Rod_save, im_Rod_save, se_Rod_save, vv_Gin (List.mem_append_right _ (List.mem_append_right _ (List.mem_append_right _ (List.mem_append_right _ (List.mem_append_left _ (List.mem_of_getElem? (i := 134) rfl)))))) rfl⟩
theorem cb_Mod_save : CB y_Mod_save b_Mod_save 3 (some .int) 1 := ⟨vv_Gin (List.mem_append_right _ (List.mem_append_right _ (List.mem_append_right _ (List.mem_append_right _ (List.mem_append_right _ (List.mem_append_right _ (List.mem_of_getElem? (i := 158) rfl))))))) rfl, by decide +kernel, vv_Gin (List.mem_append_right _ (List.mem_append_left _ (List.mem_of_getElem? (i := 13) rfl))) rfl⟩
theorem im_Mod_save : Cond.instanceMethod y_Mod_save ∈ vv_G := vv_Gin (List.mem_append_right _ (List.mem_append_right _ (List.mem_append_right _ (List.mem_append_right _ (List.mem_append_right _ (List.mem_append_right _ (List.mem_of_getElem? (i := 156) rfl))))))) rfl
theorem se_Mod_save : Cond.selects y_Mod_save.cls y_Mod_save y_Mod_save ∈ vv_G := vv_Gin (List.mem_append_right _ (List.mem_append_right _ (List.mem_append_right _ (List.mem_append_right _ (List.mem_append_right _ (List.mem_append_right _ (List.mem_of_getElem? (i := 157) rfl))))))) rfl
theorem cv_law_136 : CV R_law 136 y_Mod_save b_Mod_save 3 (some .int) 1 := ⟨cb_Mod_save, im_Mod_save, se_Mod_save, vv_Gin (List.mem_append_right _ (List.mem_append_right _ (List.mem_append_right _ (List.mem_append_right _ (List.mem_append_right _ (List.mem_append_right _ (List.mem_of_getElem? (i := 155) rfl))))))) rfl⟩
theorem cb_Rod_luck : CB y_Rod_luck b_Rod_luck 9 (some .int) 2 := ⟨vv_Gin (List.mem_append_right _ (List.mem_append_right _ (List.mem_append_right _ (List.mem_append_right _ (List.mem_append_left _ (List.mem_of_getElem? (i := 142) rfl)))))) rfl, by decide +kernel, vv_Gin (List.mem_append_right _ (List.mem_append_left _ (List.mem_of_getElem? (i := 1) rfl))) rfl⟩
theorem im_Rod_luck : Cond.instanceMethod y_Rod_luck ∈ vv_G := vv_Gin (List.mem_append_right _ (List.mem_append_right _ (List.mem_append_right _ (List.mem_append_right _ (List.mem_append_left _ (List.mem_of_getElem? (i := 140) rfl)))))) rfl
theorem se_Rod_luck : Cond.selects y_Rod_luck.cls y_Rod_luck y_Rod_luck ∈ vv_G := vv_Gin (List.mem_append_right _ (List.mem_append_right _ (List.mem_append_right _ (List.mem_append_right _ (List.mem_append_left _ (List.mem_of_getElem? (i := 141) rfl)))))) rfl
theorem cv_law_137 : CV R_law 137 y_Rod_luck b_Rod_luck 9 (some .int) 2 := ⟨cb_Rod_luck, im_Rod_luck, se_Rod_luck, vv_Gin (List.mem_append_right _ (List.mem_append_right _ (List.mem_append_right _ (List.mem_append_right _ (List.mem_append_left _ (List.mem_of_getElem? (i := 139) rfl)))))) rfl⟩
theorem cb_Mod_luck : CB y_Mod_luck b_Mod_luck 7 (some .int) 2 := ⟨vv_Gin (List.mem_append_right _ (List.mem_append_right _ (List.mem_append_right _ (List.mem_append_right _ (List.mem_append_right _ (List.mem_append_right _ (List.mem_of_getElem? (i := 162) rfl))))))) rfl, by decide +kernel, vv_Gin (List.mem_append_right _ (List.mem_append_left _ (List.mem_of_getElem? (i := 13) rfl))) rfl⟩
theorem im_Mod_luck : Cond.instanceMethod y_Mod_luck ∈ vv_G := vv_Gin (List.mem_append_right _ (List.mem_append_right _ (List.mem_append_right _ (List.mem_append_right _ (List.mem_append_right _ (List.mem_append_right _ (List.mem_of_getElem? (i := 160) rfl))))))) rfl
theorem se_Mod_luck : Cond.selects y_Mod_luck.cls y_Mod_luck y_Mod_luck ∈ vv_G := vv_Gin (List.mem_append_right _ (List.mem_append_right _ (List.mem_append_right _ (List.mem_append_right _ (List.mem_append_right _ (List.mem_append_right _ (List.mem_of_getElem? (i := 161) rfl))))))) rfl
theorem cv_law_140 : CV R_law 140 y_Mod_luck b_Mod_luck 7 (some .int) 2 := ⟨cb_Mod_luck, im_Mod_luck, se_Mod_luck, vv_Gin (List.mem_append_right _ (List.mem_append_right _ (List.mem_append_right _ (List.mem_append_right _ (List.mem_append_right _ (List.mem_append_right _ (List.mem_of_getElem? (i := 159) rfl))))))) rfl⟩
theorem cb_Rod_keep : CB y_Rod_keep b_Rod_keep 3 (some .int) 1 := ⟨vv_Gin (List.mem_append_right _ (List.mem_append_right _ (List.mem_append_right _ (List.mem_append_right _ (List.mem_append_left _ (List.mem_of_getElem? (i := 153) rfl)))))) rfl, by decide +kernel, vv_Gin (List.mem_append_right _ (List.mem_append_left _ (List.mem_of_getElem? (i := 1) rfl))) rfl⟩
theorem im_Rod_keep : Cond.instanceMethod y_Rod_keep ∈ vv_G := vv_Gin (List.mem_append_right _ (List.mem_append_right _ (List.mem_append_right _ (List.mem_append_right _ (List.mem_append_left _ (List.mem_of_getElem? (i := 151) rfl)))))) rfl
theorem se_Rod_keep : Cond.selects y_Rod_keep.cls y_Rod_keep y_Rod_keep ∈ vv_G := vv_Gin (List.mem_append_right _ (List.mem_append_right _ (List.mem_append_right _ (List.mem_append_right _ (List.mem_append_left _ (List.mem_of_getElem? (i := 152) rfl)))))) rfl
theorem cv_law_141 : CV R_law 141 y_Rod_keep b_Rod_keep 3 (some .int) 1 := ⟨cb_Rod_keep, im_Rod_keep, se_Rod_keep, vv_Gin (List.mem_append_right _ (List.mem_append_right _ (List.mem_append_right _ (List.mem_append_right _ (List.mem_append_left _ (List.mem_of_getElem? (i := 150) rfl)))))) rfl⟩
theorem cb_Mod_keep : CB y_Mod_keep b_Mod_keep 3 (some .int) 1 := ⟨vv_Gin (List.mem_append_right _ (List.mem_append_right _ (List.mem_append_right _ (List.mem_append_right _ (List.mem_append_right _ (List.mem_append_right _ (List.mem_of_getElem? (i := 168) rfl))))))) rfl, by decide +kernel, vv_Gin (List.mem_append_right _ (List.mem_append_left _ (List.mem_of_getElem? (i := 13) rfl))) rfl⟩
theorem im_Mod_keep : Cond.instanceMethod y_Mod_keep ∈ vv_G := vv_Gin (List.mem_append_right _ (List.mem_append_right _ (List.mem_append_right _ (List.mem_append_right _ (List.mem_append_right _ (List.mem_append_right _ (List.mem_of_getElem? (i := 166) rfl))))))) rfl
theorem se_Mod_keep : Cond.selects y_Mod_keep.cls y_Mod_keep y_Mod_keep ∈ vv_G := vv_Gin (List.mem_append_right _ (List.mem_append_right _ (List.mem_append_right _ (List.mem_append_right _ (List.mem_append_right _ (List.mem_append_right _ (List.mem_of_getElem? (i := 167) rfl))))))) rfl
theorem cv_law_144 : CV R_law 144 y_Mod_keep b_Mod_keep 3 (some .int) 1 := ⟨cb_Mod_keep, im_Mod_keep, se_Mod_keep, vv_Gin (List.mem_append_right _ (List.mem_append_right _ (List.mem_append_right _ (List.mem_append_right _ (List.mem_append_right _ (List.mem_append_right _ (List.mem_of_getElem? (i := 165) rfl))))))) rfl⟩
theorem cb_Rod_back : CB y_Rod_back b_Rod_back 2 (some .int) 1 := ⟨vv_Gin (List.mem_append_right _ (List.mem_append_right _ (List.mem_append_right _ (List.mem_append_right _ (List.mem_append_left _ (List.mem_of_getElem? (i := 157) rfl)))))) rfl, by decide +kernel, vv_Gin (List.mem_append_right _ (List.mem_append_left _ (List.mem_of_getElem? (i := 1) rfl))) rfl⟩
theorem im_Rod_back : Cond.instanceMethod y_Rod_back ∈ vv_G := vv_Gin (List.mem_append_right _ (List.mem_append_right _ (List.mem_append_right _ (List.mem_append_right _ (List.mem_append_left _ (List.mem_of_getElem? (i := 155) rfl)))))) rfl
theorem se_Rod_back : Cond.selects y_Rod_back.cls y_Rod_back y_Rod_back ∈ vv_G := vv_Gin (List.mem_append_right _ (List.mem_append_right _ (List.mem_append_right _ (List.mem_append_right _ (List.mem_append_left _ (List.mem_of_getElem? (i := 156) rfl)))))) rfl
theorem cv_law_145 : CV R_law 145 y_Rod_back b_Rod_back 2 (some .int) 1 := ⟨cb_Rod_back, im_Rod_back, se_Rod_back, vv_Gin (List.mem_append_right _ (List.mem_append_right _ (List.mem_append_right _ (List.mem_append_right _ (List.mem_append_left _ (List.mem_of_getElem? (i := 154) rfl)))))) rfl⟩
theorem cb_Mod_back : CB y_Mod_back b_Mod_back 2 (some .int) 1 := ⟨vv_Gin (List.mem_append_right _ (List.mem_append_right _ (List.mem_append_right _ (List.mem_append_right _ (List.mem_append_right _ (List.mem_append_right _ (List.mem_of_getElem? (i := 176) rfl))))))) rfl, by decide +kernel, vv_Gin (List.mem_append_right _ (List.mem_append_left _ (List.mem_of_getElem? (i := 13) rfl))) rfl⟩
theorem im_Mod_back : Cond.instanceMethod y_Mod_back ∈ vv_G := vv_Gin (List.mem_append_right _ (List.mem_append_right _ (List.mem_append_right _ (List.mem_append_right _ (List.mem_append_right _ (List.mem_append_right _ (List.mem_of_getElem? (i := 174) rfl))))))) rfl
theorem se_Mod_back : Cond.selects y_Mod_back.cls y_Mod_back y_Mod_back ∈ vv_G := vv_Gin (List.mem_append_right _ (List.mem_append_right _ (List.mem_append_right _ (List.mem_append_right _ (List.mem_append_right _ (List.mem_append_right _ (List.mem_of_getElem? (i := 175) rfl))))))) rfl
theorem cv_law_148 : CV R_law 148 y_Mod_back b_Mod_back 2 (some .int) 1 := ⟨cb_Mod_back, im_Mod_back, se_Mod_back, vv_Gin (List.mem_append_right _ (List.mem_append_right _ (List.mem_append_right _ (List.mem_append_right _ (List.mem_append_right _ (List.mem_append_right _ (List.mem_of_getElem? (i := 173) rfl))))))) rfl⟩
theorem cb_Rod_sheet : CB y_Rod_sheet b_Rod_sheet 4 (some .int) 3 := ⟨vv_Gin (List.mem_append_right _ (List.mem_append_right _ (List.mem_append_right _ (List.mem_append_right _ (List.mem_append_left _ (List.mem_of_getElem? (i := 161) rfl)))))) rfl, by decide +kernel, vv_Gin (List.mem_append_right _ (List.mem_append_left _ (List.mem_of_getElem? (i := 1) rfl))) rfl⟩
theorem im_Rod_sheet : Cond.instanceMethod y_Rod_sheet ∈ vv_G := vv_Gin (List.mem_append_right _ (List.mem_append_right _ (List.mem_append_right _ (List.mem_append_right _ (List.mem_append_left _ (List.mem_of_getElem? (i := 159) rfl)))))) rfl
theorem se_Rod_sheet : Cond.selects y_Rod_sheet.cls y_Rod_sheet y_Rod_sheet ∈ vv_G := vv_Gin (List.mem_append_right _ (List.mem_append_right _ (List.mem_append_right _ (List.mem_append_right _ (List.mem_append_left _ (List.mem_of_getElem? (i := 160) rfl)))))) rfl
theorem cv_law_149 : CV R_law 149 y_Rod_sheet b_Rod_sheet 4 (some .int) 3 := ⟨cb_Rod_sheet, im_Rod_sheet, se_Rod_sheet, vv_Gin (List.mem_append_right _ (List.mem_append_right _ (List.mem_append_right _ (List.mem_append_right _ (List.mem_append_left _ (List.mem_of_getElem? (i := 158) rfl)))))) rfl⟩
theorem cb_Mod_sheet : CB y_Mod_sheet b_Mod_sheet 5 (some .int) 3 := ⟨vv_Gin (List.mem_append_right _ (List.mem_append_right _ (List.mem_append_right _ (List.mem_append_right _ (List.mem_append_right _ (List.mem_append_right _ (List.mem_of_getElem? (i := 180) rfl))))))) rfl, by decide +kernel, vv_Gin (List.mem_append_right _ (List.mem_append_left _ (List.mem_of_getElem? (i := 13) rfl))) rfl⟩
theorem im_Mod_sheet : Cond.instanceMethod y_Mod_sheet ∈ vv_G := vv_Gin (List.mem_append_right _ (List.mem_append_right _ (List.mem_append_right _ (List.mem_append_right _ (List.mem_append_right _ (List.mem_append_right _ (List.mem_of_getElem? (i := 178) rfl))))))) rfl
theorem se_Mod_sheet : Cond.selects y_Mod_sheet.cls y_Mod_sheet y_Mod_sheet ∈ vv_G := vv_Gin (List.mem_append_right _ (List.mem_append_right _ (List.mem_append_right _ (List.mem_append_right _ (List.mem_append_right _ (List.mem_append_right _ (List.mem_of_getElem? (i := 179) rfl))))))) rfl
theorem cv_law_152 : CV R_law 152 y_Mod_sheet b_Mod_sheet 5 (some .int) 3 := ⟨cb_Mod_sheet, im_Mod_sheet, se_Mod_sheet, vv_Gin (List.mem_append_right _ (List.mem_append_right _ (List.mem_append_right _ (List.mem_append_right _ (List.mem_append_right _ (List.mem_append_right _ (List.mem_of_getElem? (i := 177) rfl))))))) rfl⟩
theorem cb_Rod_lay : CB y_Rod_lay b_Rod_lay 5 (some .int) 3 := ⟨vv_Gin (List.mem_append_right _ (List.mem_append_right _ (List.mem_append_right _ (List.mem_append_right _ (List.mem_append_left _ (List.mem_of_getElem? (i := 176) rfl)))))) rfl, by decide +kernel, vv_Gin (List.mem_append_right _ (List.mem_append_left _ (List.mem_of_getElem? (i := 1) rfl))) rfl⟩
theorem im_Rod_lay : Cond.instanceMethod y_Rod_lay ∈ vv_G := vv_Gin (List.mem_append_right _ (List.mem_append_right _ (List.mem_append_right _ (List.mem_append_right _ (List.mem_append_left _ (List.mem_of_getElem? (i := 174) rfl)))))) rfl
theorem se_Rod_lay : Cond.selects y_Rod_lay.cls y_Rod_lay y_Rod_lay ∈ vv_G := vv_Gin (List.mem_append_right _ (List.mem_append_right _ (List.mem_append_right _ (List.mem_append_right _ (List.mem_append_left _ (List.mem_of_getElem? (i := 175) rfl)))))) rfl
theorem cv_law_153 : CV R_law 153 y_Rod_lay b_Rod_lay 5 (some .int) 3 := ⟨cb_Rod_lay, im_Rod_lay, se_Rod_lay, vv_Gin (List.mem_append_right _ (List.mem_append_right _ (List.mem_append_right _ (List.mem_append_right _ (List.mem_append_left _ (List.mem_of_getElem? (i := 173) rfl)))))) rfl⟩
theorem cb_Mod_lay : CB y_Mod_lay b_Mod_lay 4 (some .int) 3 := ⟨vv_Gin (List.mem_append_right _ (List.mem_append_right _ (List.mem_append_right _ (List.mem_append_right _ (List.mem_append_right _ (List.mem_append_right _ (List.mem_of_getElem? (i := 188) rfl))))))) rfl, by decide +kernel, vv_Gin (List.mem_append_right _ (List.mem_append_left _ (List.mem_of_getElem? (i := 13) rfl))) rfl⟩
theorem im_Mod_lay : Cond.instanceMethod y_Mod_lay ∈ vv_G := vv_Gin (List.mem_append_right _ (List.mem_append_right _ (List.mem_append_right _ (List.mem_append_right _ (List.mem_append_right _ (List.mem_append_right _ (List.mem_of_getElem? (i := 186) rfl))))))) rfl
theorem se_Mod_lay : Cond.selects y_Mod_lay.cls y_Mod_lay y_Mod_lay ∈ vv_G := vv_Gin (List.mem_append_right _ (List.mem_append_right _ (List.mem_append_right _ (List.mem_append_right _ (List.mem_append_right _ (List.mem_append_right _ (List.mem_of_getElem? (i := 187) rfl))))))) rfl
theorem cv_law_156 : CV R_law 156 y_Mod_lay b_Mod_lay 4 (some .int) 3 := ⟨cb_Mod_lay, im_Mod_lay, se_Mod_lay, vv_Gin (List.mem_append_right _ (List.mem_append_right _ (List.mem_append_right _ (List.mem_append_right _ (List.mem_append_right _ (List.mem_append_right _ (List.mem_of_getElem? (i := 185) rfl))))))) rfl⟩
theorem cb_Rod_read : CB y_Rod_read b_Rod_read 9 (some .int) 4 := ⟨vv_Gin (List.mem_append_right _ (List.mem_append_right _ (List.mem_append_right _ (List.mem_append_right _ (List.mem_append_left _ (List.mem_of_getElem? (i := 184) rfl)))))) rfl, by decide +kernel, vv_Gin (List.mem_append_right _ (List.mem_append_left _ (List.mem_of_getElem? (i := 1) rfl))) rfl⟩
theorem im_Rod_read : Cond.instanceMethod y_Rod_read ∈ vv_G := vv_Gin (List.mem_append_right _ (List.mem_append_right _ (List.mem_append_right _ (List.mem_append_right _ (List.mem_append_left _ (List.mem_of_getElem? (i := 182) rfl)))))) rfl
theorem se_Rod_read : Cond.selects y_Rod_read.cls y_Rod_read y_Rod_read ∈ vv_G := vv_Gin (List.mem_append_right _ (List.mem_append_right _ (List.mem_append_right _ (List.mem_append_right _ (List.mem_append_left _ (List.mem_of_getElem? (i := 183) rfl)))))) rfl
theorem cv_law_157 : CV R_law 157 y_Rod_read b_Rod_read 9 (some .int) 4 := ⟨cb_Rod_read, im_Rod_read, se_Rod_read, vv_Gin (List.mem_append_right _ (List.mem_append_right _ (List.mem_append_right _ (List.mem_append_right _ (List.mem_append_left _ (List.mem_of_getElem? (i := 181) rfl)))))) rfl⟩
theorem cb_Mod_read : CB y_Mod_read b_Mod_read 11 (some .int) 4 := ⟨vv_Gin (List.mem_append_right _ (List.mem_append_right _ (List.mem_append_right _ (List.mem_append_right _ (List.mem_append_right _ (List.mem_append_right _ (List.mem_of_getElem? (i := 192) rfl))))))) rfl, by decide +kernel, vv_Gin (List.mem_append_right _ (List.mem_append_left _ (List.mem_of_getElem? (i := 13) rfl))) rfl⟩
theorem im_Mod_read : Cond.instanceMethod y_Mod_read ∈ vv_G := vv_Gin (List.mem_append_right _ (List.mem_append_right _ (List.mem_append_right _ (List.mem_append_right _ (List.mem_append_right _ (List.mem_append_right _ (List.mem_of_getElem? (i := 190) rfl))))))) rfl
theorem se_Mod_read : Cond.selects y_Mod_read.cls y_Mod_read y_Mod_read ∈ vv_G := vv_Gin (List.mem_append_right _ (List.mem_append_right _ (List.mem_append_right _ (List.mem_append_right _ (List.mem_append_right _ (List.mem_append_right _ (List.mem_of_getElem? (i := 191) rfl))))))) rfl
theorem cv_law_160 : CV R_law 160 y_Mod_read b_Mod_read 11 (some .int) 4 := ⟨cb_Mod_read, im_Mod_read, se_Mod_read, vv_Gin (List.mem_append_right _ (List.mem_append_right _ (List.mem_append_right _ (List.mem_append_right _ (List.mem_append_right _ (List.mem_append_right _ (List.mem_of_getElem? (i := 189) rfl))))))) rfl⟩
theorem cb_Rod_torn : CB y_Rod_torn b_Rod_torn 1 (some .int) 0 := ⟨vv_Gin (List.mem_append_right _ (List.mem_append_right _ (List.mem_append_right _ (List.mem_append_right _ (List.mem_append_left _ (List.mem_of_getElem? (i := 199) rfl)))))) rfl, by decide +kernel, vv_Gin (List.mem_append_right _ (List.mem_append_left _ (List.mem_of_getElem? (i := 1) rfl))) rfl⟩
theorem im_Rod_torn : Cond.instanceMethod y_Rod_torn ∈ vv_G := vv_Gin (List.mem_append_right _ (List.mem_append_right _ (List.mem_append_right _ (List.mem_append_right _ (List.mem_append_left _ (List.mem_of_getElem? (i := 197) rfl)))))) rfl
theorem se_Rod_torn : Cond.selects y_Rod_torn.cls y_Rod_torn y_Rod_torn ∈ vv_G := vv_Gin (List.mem_append_right _ (List.mem_append_right _ (List.mem_append_right _ (List.mem_append_right _ (List.mem_append_left _ (List.mem_of_getElem? (i := 198) rfl)))))) rfl
theorem cv_law_161 : CV R_law 161 y_Rod_torn b_Rod_torn 1 (some .int) 0 := ⟨cb_Rod_torn, im_Rod_torn, se_Rod_torn, vv_Gin (List.mem_append_right _ (List.mem_append_right _ (List.mem_append_right _ (List.mem_append_right _ (List.mem_append_left _ (List.mem_of_getElem? (i := 196) rfl)))))) rfl⟩
theorem cb_Mod_torn : CB y_Mod_torn b_Mod_torn 1 (some .int) 0 := ⟨vv_Gin (List.mem_append_right _ (List.mem_append_right _ (List.mem_append_right _ (List.mem_append_right _ (List.mem_append_right _ (List.mem_append_right _ (List.mem_of_getElem? (i := 197) rfl))))))) rfl, by decide +kernel, vv_Gin (List.mem_append_right _ (List.mem_append_left _ (List.mem_of_getElem? (i := 13) rfl))) rfl⟩
theorem im_Mod_torn : Cond.instanceMethod y_Mod_torn ∈ vv_G := vv_Gin (List.mem_append_right _ (List.mem_append_right _ (List.mem_append_right _ (List.mem_append_right _ (List.mem_append_right _ (List.mem_append_right _ (List.mem_of_getElem? (i := 195) rfl))))))) rfl
theorem se_Mod_torn : Cond.selects y_Mod_torn.cls y_Mod_torn y_Mod_torn ∈ vv_G := vv_Gin (List.mem_append_right _ (List.mem_append_right _ (List.mem_append_right _ (List.mem_append_right _ (List.mem_append_right _ (List.mem_append_right _ (List.mem_of_getElem? (i := 196) rfl))))))) rfl
theorem cv_law_164 : CV R_law 164 y_Mod_torn b_Mod_torn 1 (some .int) 0 := ⟨cb_Mod_torn, im_Mod_torn, se_Mod_torn, vv_Gin (List.mem_append_right _ (List.mem_append_right _ (List.mem_append_right _ (List.mem_append_right _ (List.mem_append_right _ (List.mem_append_right _ (List.mem_of_getElem? (i := 194) rfl))))))) rfl⟩
theorem cb_Rod_count : CB y_Rod_count b_Rod_count 2 (some .int) 1 := ⟨vv_Gin (List.mem_append_right _ (List.mem_append_right _ (List.mem_append_right _ (List.mem_append_right _ (List.mem_append_left _ (List.mem_of_getElem? (i := 203) rfl)))))) rfl, by decide +kernel, vv_Gin (List.mem_append_right _ (List.mem_append_left _ (List.mem_of_getElem? (i := 1) rfl))) rfl⟩
theorem im_Rod_count : Cond.instanceMethod y_Rod_count ∈ vv_G := vv_Gin (List.mem_append_right _ (List.mem_append_right _ (List.mem_append_right _ (List.mem_append_right _ (List.mem_append_left _ (List.mem_of_getElem? (i := 201) rfl)))))) rfl
theorem se_Rod_count : Cond.selects y_Rod_count.cls y_Rod_count y_Rod_count ∈ vv_G := vv_Gin (List.mem_append_right _ (List.mem_append_right _ (List.mem_append_right _ (List.mem_append_right _ (List.mem_append_left _ (List.mem_of_getElem? (i := 202) rfl)))))) rfl
theorem cv_law_165 : CV R_law 165 y_Rod_count b_Rod_count 2 (some .int) 1 := ⟨cb_Rod_count, im_Rod_count, se_Rod_count, vv_Gin (List.mem_append_right _ (List.mem_append_right _ (List.mem_append_right _ (List.mem_append_right _ (List.mem_append_left _ (List.mem_of_getElem? (i := 200) rfl)))))) rfl⟩
theorem cb_Mod_count : CB y_Mod_count b_Mod_count 5 (some .int) 1 := ⟨vv_Gin (List.mem_append_right _ (List.mem_append_right _ (List.mem_append_right _ (List.mem_append_right _ (List.mem_append_right _ (List.mem_append_right _ (List.mem_of_getElem? (i := 201) rfl))))))) rfl, by decide +kernel, vv_Gin (List.mem_append_right _ (List.mem_append_left _ (List.mem_of_getElem? (i := 13) rfl))) rfl⟩
theorem im_Mod_count : Cond.instanceMethod y_Mod_count ∈ vv_G := vv_Gin (List.mem_append_right _ (List.mem_append_right _ (List.mem_append_right _ (List.mem_append_right _ (List.mem_append_right _ (List.mem_append_right _ (List.mem_of_getElem? (i := 199) rfl))))))) rfl
theorem se_Mod_count : Cond.selects y_Mod_count.cls y_Mod_count y_Mod_count ∈ vv_G := vv_Gin (List.mem_append_right _ (List.mem_append_right _ (List.mem_append_right _ (List.mem_append_right _ (List.mem_append_right _ (List.mem_append_right _ (List.mem_of_getElem? (i := 200) rfl))))))) rfl
theorem cv_law_168 : CV R_law 168 y_Mod_count b_Mod_count 5 (some .int) 1 := ⟨cb_Mod_count, im_Mod_count, se_Mod_count, vv_Gin (List.mem_append_right _ (List.mem_append_right _ (List.mem_append_right _ (List.mem_append_right _ (List.mem_append_right _ (List.mem_append_right _ (List.mem_of_getElem? (i := 198) rfl))))))) rfl⟩
theorem law_0 {b0 Ls : Nat} {xs : Nat → Int32} {h : Hp} {i : Int32} {I : Nat} (hL2 : Ls ≤ 320) (hi : i.toInt = I) (hL : I + 5 ≤ Ls) (hJ : J h) (K : ∀ h' : Hp, J h' → ZW b0 Ls xs h' 1359 (LZ i) []) : ZW b0 Ls xs h 196 (LZ i) [] := by
  have hI : Inv h := hJ.1
  refine Z_aload_n 1 dl_196 rfl rfl ?_
  refine Z_arg 1 (by decide) hi hL hL2 dl_197 dl_198 dl_199 dl_200 dl_201 ?_
  refine Z_call [.int (xs (I + 1))] [] cv_law_13 sk_85 rfl dl_202 rfl (Nat.le_of_ble_eq_true rfl) (by decide) (by decide) (c_Rod_feedX h hI _ _ rfl _ _ rfl rfl) (fun _ h1 hq => ?_)
  obtain ⟨r1, rfl, h1I, h1f⟩ := hq
  refine Z_pop dl_205 rfl ?_
  refine Z_aload_n 2 dl_206 rfl rfl ?_
  refine Z_arg 1 (by decide) hi hL hL2 dl_207 dl_208 dl_209 dl_210 dl_211 ?_
  refine Z_call [.int (xs (I + 1))] [] cv_law_17 sk_116 rfl dl_212 rfl (Nat.le_of_ble_eq_true rfl) (by decide) (by decide) (c_Mod_feedX h1 h1I _ _ rfl _ _ rfl rfl) (fun _ h2 hq => ?_)
  obtain ⟨r2, rfl, h2I, h2f⟩ := hq
  refine Z_pop dl_215 rfl ?_
  refine Z_goto 1359 dl_216 (by decide) ?_
  obtain ⟨g1, u1, u1Z, u1E, u1K, u1C⟩ := h1f
  obtain ⟨g2, u2, u2Z, u2E, u2K, u2C⟩ := h2f
  have hs := (hI 89 1).1
  have hT := JT_feed hJ.2.1 g1 g2 rfl rfl (fun _ => rfl) (fun _ => rfl) rfl rfl ⟨rfl, rfl⟩ ⟨rfl, rfl⟩ rfl u1E u1K u2E u2K u1C u2C hs
  exact K h2 ⟨h2I, hT, (JA_fr g2 rfl (JA_fr g1 rfl hJ.2.2.1)), (JB_fr g2 rfl (JB_fr g1 rfl hJ.2.2.2.1)), (JS_fr g2 rfl (JS_fr g1 rfl hJ.2.2.2.2))⟩
theorem law_1 {b0 Ls : Nat} {xs : Nat → Int32} {h : Hp} {i : Int32} {I : Nat} (hL2 : Ls ≤ 320) (hi : i.toInt = I) (hL : I + 5 ≤ Ls) (hJ : J h) (K : ∀ h' : Hp, J h' → ZW b0 Ls xs h' 1359 (LZ i) []) : ZW b0 Ls xs h 219 (LZ i) [] := by
  have hI : Inv h := hJ.1
  refine Z_aload_n 1 dl_219 rfl rfl ?_
  refine Z_arg 1 (by decide) hi hL hL2 dl_220 dl_221 dl_222 dl_223 dl_224 ?_
  refine Z_call [.int (xs (I + 1))] [] cv_law_18 sk_85 rfl dl_225 rfl (Nat.le_of_ble_eq_true rfl) (by decide) (by decide) (c_Rod_end h hI _ _ rfl _ _ rfl rfl) (fun _ h1 hq => ?_)
  obtain ⟨r1, rfl, h1I, h1f⟩ := hq
  refine Z_pop dl_228 rfl ?_
  refine Z_aload_n 2 dl_229 rfl rfl ?_
  refine Z_arg 1 (by decide) hi hL hL2 dl_230 dl_231 dl_232 dl_233 dl_234 ?_
  refine Z_call [.int (xs (I + 1))] [] cv_law_21 sk_116 rfl dl_235 rfl (Nat.le_of_ble_eq_true rfl) (by decide) (by decide) (c_Mod_end h1 h1I _ _ rfl _ _ rfl rfl) (fun _ h2 hq => ?_)
  obtain ⟨r2, rfl, h2I, h2f⟩ := hq
  refine Z_pop dl_238 rfl ?_
  refine Z_goto 1359 dl_239 (by decide) ?_
  obtain ⟨g1, u1, u1Z, u1E, u1K, u1C⟩ := h1f
  obtain ⟨g2, u2, u2Z, u2E, u2K, u2C⟩ := h2f
  have hT := JT_end (nZ := (xs (I + 1)).toInt) hJ.2.1 g1 g2 (fun k i hk hn => end_S1 hk hn) (fun k i hk hn => end_S2 hk hn) u1E u1K u2E u2K (by (first | decide +kernel | with_reducible assumption | omega)) (by (first | decide +kernel | with_reducible assumption | omega))
  exact K h2 ⟨h2I, hT, (JA_fr g2 rfl (JA_fr g1 rfl hJ.2.2.1)), (JB_fr g2 rfl (JB_fr g1 rfl hJ.2.2.2.1)), (JS_fr g2 rfl (JS_fr g1 rfl hJ.2.2.2.2))⟩
theorem law_2 {b0 Ls : Nat} {xs : Nat → Int32} {h : Hp} {i : Int32} {I : Nat} (hL2 : Ls ≤ 320) (hi : i.toInt = I) (hL : I + 5 ≤ Ls) (hJ : J h) (K : ∀ h' : Hp, J h' → ZW b0 Ls xs h' 1359 (LZ i) []) : ZW b0 Ls xs h 242 (LZ i) [] := by
  have hI : Inv h := hJ.1
  refine Z_aload_n 1 dl_242 rfl rfl ?_
  refine Z_call [] [] cv_law_22 sk_85 rfl dl_243 rfl (Nat.le_of_ble_eq_true rfl) (by decide) (by decide) (c_Rod_textY h (tb h) hI _ _ rfl rfl (TP_c hJ.2.1)) (fun _ h1 hq => ?_)
  obtain ⟨r1, rfl, h1I, h1f⟩ := hq
  refine Z_pop dl_246 rfl ?_
  refine Z_aload_n 2 dl_247 rfl rfl ?_
  refine Z_call [] [] cv_law_26 sk_116 rfl dl_248 rfl (Nat.le_of_ble_eq_true rfl) (by decide) (by decide) (c_Mod_textX h1 (tb h) h1I _ _ rfl rfl (TP_m hJ.2.1 h1f.1 (fun _ => rfl) rfl)) (fun _ h2 hq => ?_)
  obtain ⟨r2, rfl, h2I, h2f⟩ := hq
  refine Z_pop dl_251 rfl ?_
  refine Z_goto 1359 dl_252 (by decide) ?_
  obtain ⟨g1, v1, v1Z, v1E, v1K, w1, w1Z, w1E, w1K, v10, n1, X1, K1⟩ := h1f
  obtain ⟨g2, v2, v2Z, v2E, v2K, w2, w2Z, w2E, w2K, v20, n2, X2, K2⟩ := h2f
  have hT := JT_text hJ.2.1 g1 g2 rfl rfl rfl v1E v1K v10 w1E w1K X1 v2E v2K v20 w2E w2K X2
  have X3 := X2
  rw [g1.1 116 15 rfl, ← hJ.2.1.1] at X3
  have hA := JA_text hJ.2.2.1 g1 g2 X1 X3 K1 K2 rfl rfl rfl
  have hB := JB_text hJ.2.2.2.1 g1 g2 X1 X3 K1 K2 rfl rfl rfl rfl
  exact K h2 ⟨h2I, hT.1, hA, hB, (JS_fr g2 rfl (JS_fr g1 rfl hJ.2.2.2.2))⟩
theorem law_3 {b0 Ls : Nat} {xs : Nat → Int32} {h : Hp} {i : Int32} {I : Nat} (hL2 : Ls ≤ 320) (hi : i.toInt = I) (hL : I + 5 ≤ Ls) (hJ : J h) (K : ∀ h' : Hp, J h' → ZW b0 Ls xs h' 1359 (LZ i) []) : ZW b0 Ls xs h 255 (LZ i) [] := by
  have hI : Inv h := hJ.1
  refine Z_aload_n 1 dl_255 rfl rfl ?_
  refine Z_call [] [] cv_law_27 sk_85 rfl dl_256 rfl (Nat.le_of_ble_eq_true rfl) (by decide) (by decide) (c_Rod_faultX h hI) (fun _ h1 hq => ?_)
  obtain ⟨r1, rfl, r1e⟩ := hq
  obtain ⟨rfl, r1E⟩ := r1e
  refine Z_pop dl_259 rfl ?_
  refine Z_aload_n 2 dl_260 rfl rfl ?_
  refine Z_call [] [] cv_law_30 sk_116 rfl dl_261 rfl (Nat.le_of_ble_eq_true rfl) (by decide) (by decide) (c_Mod_faultX h hI) (fun _ h2 hq => ?_)
  obtain ⟨r2, rfl, r2e⟩ := hq
  obtain ⟨rfl, r2E⟩ := r2e
  refine Z_pop dl_264 rfl ?_
  refine Z_goto 1359 dl_265 (by decide) ?_
  exact K h ⟨hI, hJ.2.1, hJ.2.2.1, hJ.2.2.2.1, hJ.2.2.2.2⟩
theorem law_4 {b0 Ls : Nat} {xs : Nat → Int32} {h : Hp} {i : Int32} {I : Nat} (hL2 : Ls ≤ 320) (hi : i.toInt = I) (hL : I + 5 ≤ Ls) (hJ : J h) (K : ∀ h' : Hp, J h' → ZW b0 Ls xs h' 1359 (LZ i) []) : ZW b0 Ls xs h 268 (LZ i) [] := by
  have hI : Inv h := hJ.1
  refine Z_aload_n 1 dl_268 rfl rfl ?_
  refine Z_arg 1 (by decide) hi hL hL2 dl_269 dl_270 dl_271 dl_272 dl_273 ?_
  refine Z_call [.int (xs (I + 1))] [] cv_law_31 sk_85 rfl dl_274 rfl (Nat.le_of_ble_eq_true rfl) (by decide) (by decide) (c_Rod_ruleX h hI _ _ rfl _ _ rfl rfl _ _ rfl rfl _ _ rfl rfl _ _ rfl rfl _ _ rfl rfl _ _ rfl rfl _ _ rfl rfl) (fun _ h1 hq => ?_)
  obtain ⟨r1, rfl, r1e⟩ := hq
  obtain ⟨rfl, r1E⟩ := r1e
  refine Z_pop dl_277 rfl ?_
  refine Z_aload_n 2 dl_278 rfl rfl ?_
  refine Z_arg 1 (by decide) hi hL hL2 dl_279 dl_280 dl_281 dl_282 dl_283 ?_
  refine Z_call [.int (xs (I + 1))] [] cv_law_34 sk_116 rfl dl_284 rfl (Nat.le_of_ble_eq_true rfl) (by decide) (by decide) (c_Mod_ruleX h hI _ _ rfl _ _ rfl rfl _ _ rfl rfl _ _ rfl rfl _ _ rfl rfl _ _ rfl rfl _ _ rfl rfl _ _ rfl rfl) (fun _ h2 hq => ?_)
  obtain ⟨r2, rfl, r2e⟩ := hq
  obtain ⟨rfl, r2E⟩ := r2e
  refine Z_pop dl_287 rfl ?_
  refine Z_goto 1359 dl_288 (by decide) ?_
  exact K h ⟨hI, hJ.2.1, hJ.2.2.1, hJ.2.2.2.1, hJ.2.2.2.2⟩
theorem law_5 {b0 Ls : Nat} {xs : Nat → Int32} {h : Hp} {i : Int32} {I : Nat} (hL2 : Ls ≤ 320) (hi : i.toInt = I) (hL : I + 5 ≤ Ls) (hJ : J h) (K : ∀ h' : Hp, J h' → ZW b0 Ls xs h' 1359 (LZ i) []) : ZW b0 Ls xs h 291 (LZ i) [] := by
  have hI : Inv h := hJ.1
  refine Z_aload_n 1 dl_291 rfl rfl ?_
  refine Z_arg 1 (by decide) hi hL hL2 dl_292 dl_293 dl_294 dl_295 dl_296 ?_
  refine Z_arg 2 (by decide) hi hL hL2 dl_297 dl_298 dl_299 dl_300 dl_301 ?_
  refine Z_call [.int (xs (I + 1)), .int (xs (I + 2))] [] cv_law_35 sk_85 rfl dl_302 rfl (Nat.le_of_ble_eq_true rfl) (by decide) (by decide) (c_Rod_cellX h hI _ _ rfl _ _ rfl _ _ rfl rfl _ _ rfl rfl) (fun _ h1 hq => ?_)
  obtain ⟨r1, rfl, r1e⟩ := hq
  obtain ⟨rfl, r1E⟩ := r1e
  refine Z_pop dl_305 rfl ?_
  refine Z_aload_n 2 dl_306 rfl rfl ?_
  refine Z_arg 1 (by decide) hi hL hL2 dl_307 dl_308 dl_309 dl_310 dl_311 ?_
  refine Z_arg 2 (by decide) hi hL hL2 dl_312 dl_313 dl_314 dl_315 dl_316 ?_
  refine Z_call [.int (xs (I + 1)), .int (xs (I + 2))] [] cv_law_39 sk_116 rfl dl_317 rfl (Nat.le_of_ble_eq_true rfl) (by decide) (by decide) (c_Mod_cellX h hI _ _ rfl _ _ rfl _ _ rfl rfl _ _ rfl rfl) (fun _ h2 hq => ?_)
  obtain ⟨r2, rfl, r2e⟩ := hq
  obtain ⟨rfl, r2E⟩ := r2e
  refine Z_pop dl_320 rfl ?_
  refine Z_goto 1359 dl_321 (by decide) ?_
  exact K h ⟨hI, hJ.2.1, hJ.2.2.1, hJ.2.2.2.1, hJ.2.2.2.2⟩
theorem law_6 {b0 Ls : Nat} {xs : Nat → Int32} {h : Hp} {i : Int32} {I : Nat} (hL2 : Ls ≤ 320) (hi : i.toInt = I) (hL : I + 5 ≤ Ls) (hJ : J h) (K : ∀ h' : Hp, J h' → ZW b0 Ls xs h' 1359 (LZ i) []) : ZW b0 Ls xs h 324 (LZ i) [] := by
  have hI : Inv h := hJ.1
  refine Z_aload_n 1 dl_324 rfl rfl ?_
  refine Z_arg 1 (by decide) hi hL hL2 dl_325 dl_326 dl_327 dl_328 dl_329 ?_
  refine Z_call [.int (xs (I + 1))] [] cv_law_40 sk_85 rfl dl_330 rfl (Nat.le_of_ble_eq_true rfl) (by decide) (by decide) (c_Rod_purseX h hI _ _ rfl) (fun _ h1 hq => ?_)
  obtain ⟨r1, rfl, r1e⟩ := hq
  obtain ⟨rfl, r1E⟩ := r1e
  refine Z_pop dl_333 rfl ?_
  refine Z_aload_n 2 dl_334 rfl rfl ?_
  refine Z_arg 1 (by decide) hi hL hL2 dl_335 dl_336 dl_337 dl_338 dl_339 ?_
  refine Z_call [.int (xs (I + 1))] [] cv_law_43 sk_116 rfl dl_340 rfl (Nat.le_of_ble_eq_true rfl) (by decide) (by decide) (c_Mod_purseX h hI _ _ rfl) (fun _ h2 hq => ?_)
  obtain ⟨r2, rfl, r2e⟩ := hq
  obtain ⟨rfl, r2E⟩ := r2e
  refine Z_pop dl_343 rfl ?_
  refine Z_goto 1359 dl_344 (by decide) ?_
  exact K h ⟨hI, hJ.2.1, hJ.2.2.1, hJ.2.2.2.1, hJ.2.2.2.2⟩
theorem law_7 {b0 Ls : Nat} {xs : Nat → Int32} {h : Hp} {i : Int32} {I : Nat} (hL2 : Ls ≤ 320) (hi : i.toInt = I) (hL : I + 5 ≤ Ls) (hJ : J h) (K : ∀ h' : Hp, J h' → ZW b0 Ls xs h' 1359 (LZ i) []) : ZW b0 Ls xs h 347 (LZ i) [] := by
  have hI : Inv h := hJ.1
  refine Z_aload_n 1 dl_347 rfl rfl ?_
  refine Z_arg 1 (by decide) hi hL hL2 dl_348 dl_349 dl_350 dl_351 dl_352 ?_
  refine Z_arg 2 (by decide) hi hL hL2 dl_353 dl_354 dl_355 dl_356 dl_357 ?_
  refine Z_call [.int (xs (I + 1)), .int (xs (I + 2))] [] cv_law_44 sk_85 rfl dl_358 rfl (Nat.le_of_ble_eq_true rfl) (by decide) (by decide) (c_Rod_wetX h hI _ _ rfl _ _ rfl _ _ rfl rfl _ _ rfl rfl) (fun _ h1 hq => ?_)
  obtain ⟨r1, rfl, h1I, h1f⟩ := hq
  refine Z_aload_n 2 dl_361 rfl rfl ?_
  refine Z_arg 1 (by decide) hi hL hL2 dl_362 dl_363 dl_364 dl_365 dl_366 ?_
  refine Z_arg 2 (by decide) hi hL hL2 dl_367 dl_368 dl_369 dl_370 dl_371 ?_
  refine Z_call [.int (xs (I + 1)), .int (xs (I + 2))] [.int r1] cv_law_47 sk_116 rfl dl_372 rfl (Nat.le_of_ble_eq_true rfl) (by decide) (by decide) (c_Mod_wetX h1 h1I _ _ rfl _ _ rfl _ _ rfl rfl _ _ rfl rfl) (fun _ h2 hq => ?_)
  obtain ⟨r2, rfl, h2I, h2f⟩ := hq
  refine Z_icmp_eq 1359 rfl rfl dl_375 (by decide) (fun _ => ?_) (fun ne => absurd ?_ ne)
  · have wg := wg16 hI
    have w0 : h1.1 116 2 = h.1 1 0 := (h1f.1.1 116 2 rfl).trans (JA_wh hJ.2.2.1 (i := 0) (by decide)).symm
    have w1 : h1.1 116 3 = h.1 1 1 := (h1f.1.1 116 3 rfl).trans (JA_wh hJ.2.2.1 (i := 1) (by decide)).symm
    have E2 := h2f.2
    rw [w0, w1] at E2
    have hB := JB_wet hJ.2.2.2.1 h1f.2 E2 (fun q => by rw [h1f.1.1 117 (64 + (xs (I + 1)).toInt).toNat rfl, show (64 + (xs (I + 1)).toInt).toNat = 64 + ((xs (I + 1)).toInt).toNat by (first | decide +kernel | with_reducible assumption | omega), ← JB_b hJ.2.2.2.1 (i := ((xs (I + 1)).toInt).toNat) (by (first | decide +kernel | with_reducible assumption | omega))]) (fun q => by (first | decide +kernel | with_reducible assumption | omega))
    exact K h2 ⟨h2I, (JT_fr h2f.1 rfl (JT_fr h1f.1 rfl hJ.2.1)), (JA_nA h2f.1 rfl (nA_Ewt E2 (fun q => by (first | decide +kernel | with_reducible assumption | omega))) (JA_fr h1f.1 rfl hJ.2.2.1)), hB.1, (JS_fr h2f.1 rfl (JS_fr h1f.1 rfl hJ.2.2.2.2))⟩
  · have wg := wg16 hI
    have w0 : h1.1 116 2 = h.1 1 0 := (h1f.1.1 116 2 rfl).trans (JA_wh hJ.2.2.1 (i := 0) (by decide)).symm
    have w1 : h1.1 116 3 = h.1 1 1 := (h1f.1.1 116 3 rfl).trans (JA_wh hJ.2.2.1 (i := 1) (by decide)).symm
    have E2 := h2f.2
    rw [w0, w1] at E2
    have hB := JB_wet hJ.2.2.2.1 h1f.2 E2 (fun q => by rw [h1f.1.1 117 (64 + (xs (I + 1)).toInt).toNat rfl, show (64 + (xs (I + 1)).toInt).toNat = 64 + ((xs (I + 1)).toInt).toNat by (first | decide +kernel | with_reducible assumption | omega), ← JB_b hJ.2.2.2.1 (i := ((xs (I + 1)).toInt).toNat) (by (first | decide +kernel | with_reducible assumption | omega))]) (fun q => by (first | decide +kernel | with_reducible assumption | omega))
    exact congrArg Int32.toInt hB.2
theorem law_8 {b0 Ls : Nat} {xs : Nat → Int32} {h : Hp} {i : Int32} {I : Nat} (hL2 : Ls ≤ 320) (hi : i.toInt = I) (hL : I + 5 ≤ Ls) (hJ : J h) (K : ∀ h' : Hp, J h' → ZW b0 Ls xs h' 1359 (LZ i) []) : ZW b0 Ls xs h 380 (LZ i) [] := by
  have hI : Inv h := hJ.1
  refine Z_aload_n 1 dl_380 rfl rfl ?_
  refine Z_arg 1 (by decide) hi hL hL2 dl_381 dl_382 dl_383 dl_384 dl_385 ?_
  refine Z_arg 2 (by decide) hi hL hL2 dl_386 dl_387 dl_388 dl_389 dl_390 ?_
  refine Z_bool dl_391 dl_394 dl_395 dl_398 (fun b1 b1e => ?_)
  refine Z_call [.int (xs (I + 1)), .int b1] [] cv_law_48 sk_85 rfl dl_399 rfl (Nat.le_of_ble_eq_true rfl) (by decide) (by decide) (c_Rod_ironX h hI _ _ rfl _ _ rfl _ _ rfl rfl _ _ rfl rfl) (fun _ h2 hq => ?_)
  obtain ⟨r2, rfl, h2I, h2f⟩ := hq
  refine Z_pop dl_402 rfl ?_
  refine Z_aload_n 2 dl_403 rfl rfl ?_
  refine Z_arg 1 (by decide) hi hL hL2 dl_404 dl_405 dl_406 dl_407 dl_408 ?_
  refine Z_arg 2 (by decide) hi hL hL2 dl_409 dl_410 dl_411 dl_412 dl_413 ?_
  refine Z_bool dl_414 dl_417 dl_418 dl_421 (fun b3 b3e => ?_)
  refine Z_call [.int (xs (I + 1)), .int b3] [] cv_law_52 sk_116 rfl dl_422 rfl (Nat.le_of_ble_eq_true rfl) (by decide) (by decide) (c_Mod_ironX h2 h2I _ _ rfl _ _ rfl _ _ rfl rfl _ _ rfl rfl) (fun _ h4 hq => ?_)
  obtain ⟨r4, rfl, h4I, h4f⟩ := hq
  refine Z_pop dl_425 rfl ?_
  refine Z_goto 1359 dl_426 (by decide) ?_
  obtain rfl : b3 = b1 := b3e.trans b1e.symm
  have wg := wg16 hI
  have w0 : h2.1 116 2 = h.1 1 0 := (h2f.1.1 116 2 rfl).trans (JA_wh hJ.2.2.1 (i := 0) (by decide)).symm
  have w1 : h2.1 116 3 = h.1 1 1 := (h2f.1.1 116 3 rfl).trans (JA_wh hJ.2.2.1 (i := 1) (by decide)).symm
  have E2 := h4f.2
  rw [w0, w1] at E2
  have hA := JA_row3 hI hJ.2.2.1 h2f.2 E2 (by (first | decide +kernel | with_reducible assumption | omega)) (fun q => q) (fun x y p q => V_flag p q)
  exact K h4 ⟨h4I, (JT_fr h4f.1 rfl (JT_fr h2f.1 rfl hJ.2.1)), hA.1, (JB_nB h4f.1 rfl (nB_Er E2 (fun q => by (first | decide +kernel | with_reducible assumption | omega))) (JB_fr h2f.1 rfl hJ.2.2.2.1)), (JS_fr h4f.1 rfl (JS_fr h2f.1 rfl hJ.2.2.2.2))⟩
theorem law_9 {b0 Ls : Nat} {xs : Nat → Int32} {h : Hp} {i : Int32} {I : Nat} (hL2 : Ls ≤ 320) (hi : i.toInt = I) (hL : I + 5 ≤ Ls) (hJ : J h) (K : ∀ h' : Hp, J h' → ZW b0 Ls xs h' 1359 (LZ i) []) : ZW b0 Ls xs h 429 (LZ i) [] := by
  have hI : Inv h := hJ.1
  refine Z_aload_n 1 dl_429 rfl rfl ?_
  refine Z_arg 1 (by decide) hi hL hL2 dl_430 dl_431 dl_432 dl_433 dl_434 ?_
  refine Z_arg 2 (by decide) hi hL hL2 dl_435 dl_436 dl_437 dl_438 dl_439 ?_
  refine Z_call [.int (xs (I + 1)), .int (xs (I + 2))] [] cv_law_53 sk_85 rfl dl_440 rfl (Nat.le_of_ble_eq_true rfl) (by decide) (by decide) (c_Rod_oddX h hI _ _ rfl _ _ rfl _ _ rfl rfl _ _ rfl rfl) (fun _ h1 hq => ?_)
  obtain ⟨r1, rfl, h1I, h1f⟩ := hq
  refine Z_pop dl_443 rfl ?_
  refine Z_aload_n 2 dl_444 rfl rfl ?_
  refine Z_arg 1 (by decide) hi hL hL2 dl_445 dl_446 dl_447 dl_448 dl_449 ?_
  refine Z_arg 2 (by decide) hi hL hL2 dl_450 dl_451 dl_452 dl_453 dl_454 ?_
  refine Z_call [.int (xs (I + 1)), .int (xs (I + 2))] [] cv_law_56 sk_116 rfl dl_455 rfl (Nat.le_of_ble_eq_true rfl) (by decide) (by decide) (c_Mod_oddX h1 h1I _ _ rfl _ _ rfl _ _ rfl rfl _ _ rfl rfl) (fun _ h2 hq => ?_)
  obtain ⟨r2, rfl, h2I, h2f⟩ := hq
  refine Z_pop dl_458 rfl ?_
  refine Z_goto 1359 dl_459 (by decide) ?_
  have wg := wg16 hI
  have w0 : h1.1 116 2 = h.1 1 0 := (h1f.1.1 116 2 rfl).trans (JA_wh hJ.2.2.1 (i := 0) (by decide)).symm
  have w1 : h1.1 116 3 = h.1 1 1 := (h1f.1.1 116 3 rfl).trans (JA_wh hJ.2.2.1 (i := 1) (by decide)).symm
  have E2 := h2f.2
  rw [w0, w1] at E2
  have hA := JA_row3 hI hJ.2.2.1 h1f.2 E2 (by (first | decide +kernel | with_reducible assumption | omega)) (fun q => ⟨q.1, q.2.1⟩) (fun x y p q => p.trans q.symm)
  exact K h2 ⟨h2I, (JT_fr h2f.1 rfl (JT_fr h1f.1 rfl hJ.2.1)), hA.1, (JB_nB h2f.1 rfl (nB_Er E2 (fun q => by (first | decide +kernel | with_reducible assumption | omega))) (JB_fr h1f.1 rfl hJ.2.2.2.1)), (JS_fr h2f.1 rfl (JS_fr h1f.1 rfl hJ.2.2.2.2))⟩
theorem law_10 {b0 Ls : Nat} {xs : Nat → Int32} {h : Hp} {i : Int32} {I : Nat} (hL2 : Ls ≤ 320) (hi : i.toInt = I) (hL : I + 5 ≤ Ls) (hJ : J h) (K : ∀ h' : Hp, J h' → ZW b0 Ls xs h' 1359 (LZ i) []) : ZW b0 Ls xs h 462 (LZ i) [] := by
  have hI : Inv h := hJ.1
  refine Z_aload_n 1 dl_462 rfl rfl ?_
  refine Z_arg 1 (by decide) hi hL hL2 dl_463 dl_464 dl_465 dl_466 dl_467 ?_
  refine Z_arg 2 (by decide) hi hL hL2 dl_468 dl_469 dl_470 dl_471 dl_472 ?_
  refine Z_call [.int (xs (I + 1)), .int (xs (I + 2))] [] cv_law_57 sk_85 rfl dl_473 rfl (Nat.le_of_ble_eq_true rfl) (by decide) (by decide) (c_Rod_claimX h hI _ _ rfl _ _ rfl _ _ rfl rfl _ _ rfl rfl) (fun _ h1 hq => ?_)
  obtain ⟨r1, rfl, h1I, h1f⟩ := hq
  refine Z_pop dl_476 rfl ?_
  refine Z_aload_n 2 dl_477 rfl rfl ?_
  refine Z_arg 1 (by decide) hi hL hL2 dl_478 dl_479 dl_480 dl_481 dl_482 ?_
  refine Z_arg 2 (by decide) hi hL hL2 dl_483 dl_484 dl_485 dl_486 dl_487 ?_
  refine Z_call [.int (xs (I + 1)), .int (xs (I + 2))] [] cv_law_60 sk_116 rfl dl_488 rfl (Nat.le_of_ble_eq_true rfl) (by decide) (by decide) (c_Mod_claimX h1 h1I _ _ rfl _ _ rfl _ _ rfl rfl _ _ rfl rfl) (fun _ h2 hq => ?_)
  obtain ⟨r2, rfl, h2I, h2f⟩ := hq
  refine Z_pop dl_491 rfl ?_
  refine Z_goto 1359 dl_492 (by decide) ?_
  have wg := wg16 hI
  have w0 : h1.1 116 2 = h.1 1 0 := (h1f.1.1 116 2 rfl).trans (JA_wh hJ.2.2.1 (i := 0) (by decide)).symm
  have w1 : h1.1 116 3 = h.1 1 1 := (h1f.1.1 116 3 rfl).trans (JA_wh hJ.2.2.1 (i := 1) (by decide)).symm
  have E2 := h2f.2
  rw [w0, w1] at E2
  have hA := JA_row3 hI hJ.2.2.1 h1f.2 E2 (by (first | decide +kernel | with_reducible assumption | omega)) (fun q => ⟨q.1, q.2.1⟩) (fun x y p q => p.trans q.symm)
  exact K h2 ⟨h2I, (JT_fr h2f.1 rfl (JT_fr h1f.1 rfl hJ.2.1)), hA.1, (JB_nB h2f.1 rfl (nB_Er E2 (fun q => by (first | decide +kernel | with_reducible assumption | omega))) (JB_fr h1f.1 rfl hJ.2.2.2.1)), (JS_fr h2f.1 rfl (JS_fr h1f.1 rfl hJ.2.2.2.2))⟩
theorem law_11 {b0 Ls : Nat} {xs : Nat → Int32} {h : Hp} {i : Int32} {I : Nat} (hL2 : Ls ≤ 320) (hi : i.toInt = I) (hL : I + 5 ≤ Ls) (hJ : J h) (K : ∀ h' : Hp, J h' → ZW b0 Ls xs h' 1359 (LZ i) []) : ZW b0 Ls xs h 495 (LZ i) [] := by
  have hI : Inv h := hJ.1
  refine Z_aload_n 1 dl_495 rfl rfl ?_
  refine Z_arg 1 (by decide) hi hL hL2 dl_496 dl_497 dl_498 dl_499 dl_500 ?_
  refine Z_arg 2 (by decide) hi hL hL2 dl_501 dl_502 dl_503 dl_504 dl_505 ?_
  refine Z_call [.int (xs (I + 1)), .int (xs (I + 2))] [] cv_law_61 sk_85 rfl dl_506 rfl (Nat.le_of_ble_eq_true rfl) (by decide) (by decide) (c_Rod_fundX h hI _ _ rfl _ _ rfl) (fun _ h1 hq => ?_)
  obtain ⟨r1, rfl, h1I, h1f⟩ := hq
  refine Z_pop dl_509 rfl ?_
  refine Z_aload_n 2 dl_510 rfl rfl ?_
  refine Z_arg 1 (by decide) hi hL hL2 dl_511 dl_512 dl_513 dl_514 dl_515 ?_
  refine Z_arg 2 (by decide) hi hL hL2 dl_516 dl_517 dl_518 dl_519 dl_520 ?_
  refine Z_call [.int (xs (I + 1)), .int (xs (I + 2))] [] cv_law_64 sk_116 rfl dl_521 rfl (Nat.le_of_ble_eq_true rfl) (by decide) (by decide) (c_Mod_fundX h1 h1I _ _ rfl _ _ rfl) (fun _ h2 hq => ?_)
  obtain ⟨r2, rfl, h2I, h2f⟩ := hq
  refine Z_pop dl_524 rfl ?_
  refine Z_goto 1359 dl_525 (by decide) ?_
  have hB := JB_fund hJ.2.2.2.1 h1f.2 h2f.2 (fun q => by (first | decide +kernel | with_reducible assumption | omega))
  exact K h2 ⟨h2I, (JT_fr h2f.1 rfl (JT_fr h1f.1 rfl hJ.2.1)), (JA_nA h2f.1 rfl (nA_Er h2f.2 (fun q => by (first | decide +kernel | with_reducible assumption | omega))) (JA_fr h1f.1 rfl hJ.2.2.1)), hB.1, (JS_fr h2f.1 rfl (JS_fr h1f.1 rfl hJ.2.2.2.2))⟩
theorem law_12 {b0 Ls : Nat} {xs : Nat → Int32} {h : Hp} {i : Int32} {I : Nat} (hL2 : Ls ≤ 320) (hi : i.toInt = I) (hL : I + 5 ≤ Ls) (hJ : J h) (K : ∀ h' : Hp, J h' → ZW b0 Ls xs h' 1359 (LZ i) []) : ZW b0 Ls xs h 528 (LZ i) [] := by
  have hI : Inv h := hJ.1
  refine Z_aload_n 1 dl_528 rfl rfl ?_
  refine Z_arg 1 (by decide) hi hL hL2 dl_529 dl_530 dl_531 dl_532 dl_533 ?_
  refine Z_arg 2 (by decide) hi hL hL2 dl_534 dl_535 dl_536 dl_537 dl_538 ?_
  refine Z_call [.int (xs (I + 1)), .int (xs (I + 2))] [] cv_law_65 sk_85 rfl dl_539 rfl (Nat.le_of_ble_eq_true rfl) (by decide) (by decide) (c_Rod_cutX h hI _ _ rfl _ _ rfl _ _ rfl rfl) (fun _ h1 hq => ?_)
  obtain ⟨r1, rfl, h1I, h1f⟩ := hq
  refine Z_pop dl_542 rfl ?_
  refine Z_aload_n 2 dl_543 rfl rfl ?_
  refine Z_arg 1 (by decide) hi hL hL2 dl_544 dl_545 dl_546 dl_547 dl_548 ?_
  refine Z_arg 2 (by decide) hi hL hL2 dl_549 dl_550 dl_551 dl_552 dl_553 ?_
  refine Z_call [.int (xs (I + 1)), .int (xs (I + 2))] [] cv_law_68 sk_116 rfl dl_554 rfl (Nat.le_of_ble_eq_true rfl) (by decide) (by decide) (c_Mod_cutX h1 h1I _ _ rfl _ _ rfl _ _ rfl rfl) (fun _ h2 hq => ?_)
  obtain ⟨r2, rfl, h2I, h2f⟩ := hq
  refine Z_pop dl_557 rfl ?_
  refine Z_goto 1359 dl_558 (by decide) ?_
  have hA := JA_cut hJ.2.2.1 h1f.2 h2f.2 Iff.rfl rfl (h1f.1.1 117 84 rfl)
  exact K h2 ⟨h2I, (JT_fr h2f.1 rfl (JT_fr h1f.1 rfl hJ.2.1)), hA.1, (JB_nB h2f.1 rfl (nB_cut h2f.2) (JB_fr h1f.1 rfl hJ.2.2.2.1)), (JS_fr h2f.1 rfl (JS_fr h1f.1 rfl hJ.2.2.2.2))⟩
theorem law_13 {b0 Ls : Nat} {xs : Nat → Int32} {h : Hp} {i : Int32} {I : Nat} (hL2 : Ls ≤ 320) (hi : i.toInt = I) (hL : I + 5 ≤ Ls) (hJ : J h) (K : ∀ h' : Hp, J h' → ZW b0 Ls xs h' 1359 (LZ i) []) : ZW b0 Ls xs h 561 (LZ i) [] := by
  have hI : Inv h := hJ.1
  refine Z_aload_n 1 dl_561 rfl rfl ?_
  refine Z_arg 1 (by decide) hi hL hL2 dl_562 dl_563 dl_564 dl_565 dl_566 ?_
  refine Z_arg 2 (by decide) hi hL hL2 dl_567 dl_568 dl_569 dl_570 dl_571 ?_
  refine Z_arg 3 (by decide) hi hL hL2 dl_572 dl_573 dl_574 dl_575 dl_576 ?_
  refine Z_call [.int (xs (I + 1)), .int (xs (I + 2)), .int (xs (I + 3))] [] cv_law_69 sk_85 rfl dl_577 rfl (Nat.le_of_ble_eq_true rfl) (by decide) (by decide) (c_Rod_oweX h hI _ _ rfl _ _ rfl _ _ rfl _ _ rfl rfl) (fun _ h1 hq => ?_)
  obtain ⟨r1, rfl, h1I, h1f⟩ := hq
  refine Z_pop dl_580 rfl ?_
  refine Z_aload_n 2 dl_581 rfl rfl ?_
  refine Z_arg 1 (by decide) hi hL hL2 dl_582 dl_583 dl_584 dl_585 dl_586 ?_
  refine Z_arg 2 (by decide) hi hL hL2 dl_587 dl_588 dl_589 dl_590 dl_591 ?_
  refine Z_arg 3 (by decide) hi hL hL2 dl_592 dl_593 dl_594 dl_595 dl_596 ?_
  refine Z_call [.int (xs (I + 1)), .int (xs (I + 2)), .int (xs (I + 3))] [] cv_law_73 sk_116 rfl dl_597 rfl (Nat.le_of_ble_eq_true rfl) (by decide) (by decide) (c_Mod_oweX h1 h1I _ _ rfl _ _ rfl _ _ rfl _ _ rfl rfl) (fun _ h2 hq => ?_)
  obtain ⟨r2, rfl, h2I, h2f⟩ := hq
  refine Z_pop dl_600 rfl ?_
  refine Z_goto 1359 dl_601 (by decide) ?_
  have t0 : h1.1 117 86 = h.1 7 4 := (h1f.1.1 117 86 rfl).trans (JA_c86 hJ.2.2.1).symm
  have E2 := h2f.2
  have hA := JA_owe hJ.2.2.1 h1f.2 E2 Iff.rfl (hI 7 4).1 (congrArg Int32.toInt t0) rfl
  exact K h2 ⟨h2I, (JT_fr h2f.1 rfl (JT_fr h1f.1 rfl hJ.2.1)), hA.1, (JB_nB h2f.1 rfl (nB_owe E2 (show (0 : Int) ≤ _ from (h1I 117 86).1)) (JB_fr h1f.1 rfl hJ.2.2.2.1)), (JS_fr h2f.1 rfl (JS_fr h1f.1 rfl hJ.2.2.2.2))⟩
theorem law_14 {b0 Ls : Nat} {xs : Nat → Int32} {h : Hp} {i : Int32} {I : Nat} (hL2 : Ls ≤ 320) (hi : i.toInt = I) (hL : I + 5 ≤ Ls) (hJ : J h) (K : ∀ h' : Hp, J h' → ZW b0 Ls xs h' 1359 (LZ i) []) : ZW b0 Ls xs h 604 (LZ i) [] := by
  have hI : Inv h := hJ.1
  refine Z_aload_n 1 dl_604 rfl rfl ?_
  refine Z_arg 1 (by decide) hi hL hL2 dl_605 dl_606 dl_607 dl_608 dl_609 ?_
  refine Z_call [.int (xs (I + 1))] [] cv_law_74 sk_85 rfl dl_610 rfl (Nat.le_of_ble_eq_true rfl) (by decide) (by decide) (c_Rod_payX h hI _ _ rfl _ _ rfl rfl) (fun _ h1 hq => ?_)
  obtain ⟨r1, rfl, h1I, h1f⟩ := hq
  refine Z_pop dl_613 rfl ?_
  refine Z_aload_n 2 dl_614 rfl rfl ?_
  refine Z_arg 1 (by decide) hi hL hL2 dl_615 dl_616 dl_617 dl_618 dl_619 ?_
  refine Z_call [.int (xs (I + 1))] [] cv_law_77 sk_116 rfl dl_620 rfl (Nat.le_of_ble_eq_true rfl) (by decide) (by decide) (c_Mod_payX h1 h1I _ _ rfl _ _ rfl rfl) (fun _ h2 hq => ?_)
  obtain ⟨r2, rfl, h2I, h2f⟩ := hq
  refine Z_pop dl_623 rfl ?_
  refine Z_goto 1359 dl_624 (by decide) ?_
  have t0 : h1.1 117 86 = h.1 7 4 := (h1f.1.1 117 86 rfl).trans (JA_c86 hJ.2.2.1).symm
  have E2 := h2f.2
  rw [t0] at E2
  have hA := JA_pay hJ.2.2.1 h1f.2 E2 Iff.rfl (fun q => q.2) rfl (JA_c86 hJ.2.2.1)
  exact K h2 ⟨h2I, (JT_fr h2f.1 rfl (JT_fr h1f.1 rfl hJ.2.1)), hA.1, (JB_nB h2f.1 rfl (nB_Ew E2 (by decide)) (JB_fr h1f.1 rfl hJ.2.2.2.1)), (JS_fr h2f.1 rfl (JS_fr h1f.1 rfl hJ.2.2.2.2))⟩
theorem law_15 {b0 Ls : Nat} {xs : Nat → Int32} {h : Hp} {i : Int32} {I : Nat} (hL2 : Ls ≤ 320) (hi : i.toInt = I) (hL : I + 5 ≤ Ls) (hJ : J h) (K : ∀ h' : Hp, J h' → ZW b0 Ls xs h' 1359 (LZ i) []) : ZW b0 Ls xs h 627 (LZ i) [] := by
  have hI : Inv h := hJ.1
  refine Z_aload_n 1 dl_627 rfl rfl ?_
  refine Z_arg 1 (by decide) hi hL hL2 dl_628 dl_629 dl_630 dl_631 dl_632 ?_
  refine Z_call [.int (xs (I + 1))] [] cv_law_78 sk_85 rfl dl_633 rfl (Nat.le_of_ble_eq_true rfl) (by decide) (by decide) (c_Rod_rainW h hI _ _ rfl _ _ rfl rfl _ _ rfl rfl) (fun _ h1 hq => ?_)
  obtain ⟨r1, rfl, h1I, h1f⟩ := hq
  refine Z_pop dl_636 rfl ?_
  refine Z_aload_n 2 dl_637 rfl rfl ?_
  refine Z_arg 1 (by decide) hi hL hL2 dl_638 dl_639 dl_640 dl_641 dl_642 ?_
  refine Z_call [.int (xs (I + 1))] [] cv_law_81 sk_116 rfl dl_643 rfl (Nat.le_of_ble_eq_true rfl) (by decide) (by decide) (c_Mod_rainW h1 h1I _ _ rfl _ _ rfl rfl _ _ rfl rfl (fun i hi => by rw [h1f.1.1 117 i rfl, ← (JB_w hJ.2.2.2.1 hi).1]; exact (JB_w hJ.2.2.2.1 hi).2)) (fun _ h2 hq => ?_)
  obtain ⟨r2, rfl, h2I, h2f⟩ := hq
  refine Z_pop dl_646 rfl ?_
  refine Z_goto 1359 dl_647 (by decide) ?_
  have wg := wg16 hI
  have w0 : h1.1 116 2 = h.1 1 0 := (h1f.1.1 116 2 rfl).trans (JA_wh hJ.2.2.1 (i := 0) (by decide)).symm
  have w1 : h1.1 116 3 = h.1 1 1 := (h1f.1.1 116 3 rfl).trans (JA_wh hJ.2.2.1 (i := 1) (by decide)).symm
  have E2 := h2f.2
  rw [w0, w1] at E2
  have hB := JB_rain hJ.2.2.2.1 h1f.1 rfl h1f.2.1 _ h2f.1 rfl E2.1
  exact K h2 ⟨h2I, (JT_fr h2f.1 rfl (JT_fr h1f.1 rfl hJ.2.1)), (JA_nA h2f.1 rfl (nA_rain E2.1) (JA_fr h1f.1 rfl hJ.2.2.1)), hB, (JS_fr h2f.1 rfl (JS_fr h1f.1 rfl hJ.2.2.2.2))⟩
theorem law_16 {b0 Ls : Nat} {xs : Nat → Int32} {h : Hp} {i : Int32} {I : Nat} (hL2 : Ls ≤ 320) (hi : i.toInt = I) (hL : I + 5 ≤ Ls) (hJ : J h) (K : ∀ h' : Hp, J h' → ZW b0 Ls xs h' 1359 (LZ i) []) : ZW b0 Ls xs h 650 (LZ i) [] := by
  have hI : Inv h := hJ.1
  refine Z_aload_n 1 dl_650 rfl rfl ?_
  refine Z_arg 1 (by decide) hi hL hL2 dl_651 dl_652 dl_653 dl_654 dl_655 ?_
  refine Z_arg 2 (by decide) hi hL hL2 dl_656 dl_657 dl_658 dl_659 dl_660 ?_
  refine Z_arg 3 (by decide) hi hL hL2 dl_661 dl_662 dl_663 dl_664 dl_665 ?_
  refine Z_call [.int (xs (I + 1)), .int (xs (I + 2)), .int (xs (I + 3))] [] cv_law_82 sk_85 rfl dl_666 rfl (Nat.le_of_ble_eq_true rfl) (by decide) (by decide) (c_Rod_twitch h hI _ _ rfl _ _ rfl _ _ rfl) (fun _ h1 hq => ?_)
  obtain ⟨r1, rfl, r1e⟩ := hq
  subst r1e
  refine Z_pop dl_669 rfl ?_
  refine Z_aload_n 2 dl_670 rfl rfl ?_
  refine Z_arg 1 (by decide) hi hL hL2 dl_671 dl_672 dl_673 dl_674 dl_675 ?_
  refine Z_arg 2 (by decide) hi hL hL2 dl_676 dl_677 dl_678 dl_679 dl_680 ?_
  refine Z_arg 3 (by decide) hi hL hL2 dl_681 dl_682 dl_683 dl_684 dl_685 ?_
  refine Z_call [.int (xs (I + 1)), .int (xs (I + 2)), .int (xs (I + 3))] [] cv_law_85 sk_116 rfl dl_686 rfl (Nat.le_of_ble_eq_true rfl) (by decide) (by decide) (c_Mod_twitch h hI _ _ rfl _ _ rfl _ _ rfl _ _ rfl rfl _ _ rfl rfl) (fun _ h2 hq => ?_)
  obtain ⟨r2, rfl, r2e⟩ := hq
  subst r2e
  refine Z_pop dl_689 rfl ?_
  refine Z_goto 1359 dl_690 (by decide) ?_
  exact K h ⟨hI, hJ.2.1, hJ.2.2.1, hJ.2.2.2.1, hJ.2.2.2.2⟩
theorem law_17 {b0 Ls : Nat} {xs : Nat → Int32} {h : Hp} {i : Int32} {I : Nat} (hL2 : Ls ≤ 320) (hi : i.toInt = I) (hL : I + 5 ≤ Ls) (hJ : J h) (K : ∀ h' : Hp, J h' → ZW b0 Ls xs h' 1359 (LZ i) []) : ZW b0 Ls xs h 693 (LZ i) [] := by
  have hI : Inv h := hJ.1
  refine Z_aload_n 1 dl_693 rfl rfl ?_
  refine Z_arg 1 (by decide) hi hL hL2 dl_694 dl_695 dl_696 dl_697 dl_698 ?_
  refine Z_arg 2 (by decide) hi hL hL2 dl_699 dl_700 dl_701 dl_702 dl_703 ?_
  refine Z_arg 3 (by decide) hi hL hL2 dl_704 dl_705 dl_706 dl_707 dl_708 ?_
  refine Z_arg 4 (by decide) hi hL hL2 dl_709 dl_710 dl_711 dl_712 dl_713 ?_
  refine Z_bool dl_714 dl_717 dl_718 dl_721 (fun b1 b1e => ?_)
  refine Z_call [.int (xs (I + 1)), .int (xs (I + 2)), .int (xs (I + 3)), .int b1] [] cv_law_86 sk_85 rfl dl_722 rfl (Nat.le_of_ble_eq_true rfl) (by decide) (by decide) (c_Rod_seeX h hI _ _ rfl _ _ rfl _ _ rfl _ _ rfl _ _ rfl rfl _ _ rfl rfl _ _ rfl rfl) (fun _ h2 hq => ?_)
  obtain ⟨r2, rfl, h2I, h2f⟩ := hq
  refine Z_pop dl_725 rfl ?_
  refine Z_aload_n 2 dl_726 rfl rfl ?_
  refine Z_arg 1 (by decide) hi hL hL2 dl_727 dl_728 dl_729 dl_730 dl_731 ?_
  refine Z_arg 2 (by decide) hi hL hL2 dl_732 dl_733 dl_734 dl_735 dl_736 ?_
  refine Z_arg 3 (by decide) hi hL hL2 dl_737 dl_738 dl_739 dl_740 dl_741 ?_
  refine Z_arg 4 (by decide) hi hL hL2 dl_742 dl_743 dl_744 dl_745 dl_746 ?_
  refine Z_bool dl_747 dl_750 dl_751 dl_754 (fun b3 b3e => ?_)
  refine Z_call [.int (xs (I + 1)), .int (xs (I + 2)), .int (xs (I + 3)), .int b3] [] cv_law_90 sk_116 rfl dl_755 rfl (Nat.le_of_ble_eq_true rfl) (by decide) (by decide) (c_Mod_seeX h2 h2I _ _ rfl _ _ rfl _ _ rfl _ _ rfl _ _ rfl rfl _ _ rfl rfl _ _ rfl rfl) (fun _ h4 hq => ?_)
  obtain ⟨r4, rfl, h4I, h4f⟩ := hq
  refine Z_pop dl_758 rfl ?_
  refine Z_goto 1359 dl_759 (by decide) ?_
  obtain rfl : b3 = b1 := b3e.trans b1e.symm
  have w0 : h2.1 116 2 = h.1 1 0 := (h2f.1.1 116 2 rfl).trans (JA_wh hJ.2.2.1 (i := 0) (by decide)).symm
  have w1 : h2.1 116 3 = h.1 1 1 := (h2f.1.1 116 3 rfl).trans (JA_wh hJ.2.2.1 (i := 1) (by decide)).symm
  have t0 : h2.1 117 111 = h.1 12 4 := (h2f.1.1 117 111 rfl).trans (JA_c111 hJ.2.2.1).symm
  have E2 := h4f.2
  rw [w0, w1] at E2
  have hA := JA_see hJ.2.2.1 h2f.2 E2 Iff.rfl (hI 12 4).1 (congrArg Int32.toInt t0) rfl
  exact K h4 ⟨h4I, (JT_fr h4f.1 rfl (JT_fr h2f.1 rfl hJ.2.1)), hA.1, (JB_nB h4f.1 rfl (nB_see E2 (show (0 : Int) ≤ _ from (h2I 117 111).1)) (JB_fr h2f.1 rfl hJ.2.2.2.1)), (JS_fr h4f.1 rfl (JS_fr h2f.1 rfl hJ.2.2.2.2))⟩
theorem law_18 {b0 Ls : Nat} {xs : Nat → Int32} {h : Hp} {i : Int32} {I : Nat} (hL2 : Ls ≤ 320) (hi : i.toInt = I) (hL : I + 5 ≤ Ls) (hJ : J h) (K : ∀ h' : Hp, J h' → ZW b0 Ls xs h' 1359 (LZ i) []) : ZW b0 Ls xs h 762 (LZ i) [] := by
  have hI : Inv h := hJ.1
  refine Z_aload_n 1 dl_762 rfl rfl ?_
  refine Z_arg 1 (by decide) hi hL hL2 dl_763 dl_764 dl_765 dl_766 dl_767 ?_
  refine Z_call [.int (xs (I + 1))] [] cv_law_91 sk_85 rfl dl_768 rfl (Nat.le_of_ble_eq_true rfl) (by decide) (by decide) (c_Rod_forgetX h hI _ _ rfl _ _ rfl rfl) (fun _ h1 hq => ?_)
  obtain ⟨r1, rfl, h1I, h1f⟩ := hq
  refine Z_pop dl_771 rfl ?_
  refine Z_aload_n 2 dl_772 rfl rfl ?_
  refine Z_arg 1 (by decide) hi hL hL2 dl_773 dl_774 dl_775 dl_776 dl_777 ?_
  refine Z_call [.int (xs (I + 1))] [] cv_law_94 sk_116 rfl dl_778 rfl (Nat.le_of_ble_eq_true rfl) (by decide) (by decide) (c_Mod_forgetX h1 h1I _ _ rfl _ _ rfl rfl) (fun _ h2 hq => ?_)
  obtain ⟨r2, rfl, h2I, h2f⟩ := hq
  refine Z_pop dl_781 rfl ?_
  refine Z_goto 1359 dl_782 (by decide) ?_
  have t0 : h1.1 117 111 = h.1 12 4 := (h1f.1.1 117 111 rfl).trans (JA_c111 hJ.2.2.1).symm
  have E2 := h2f.2
  rw [t0] at E2
  have hA := JA_forget hJ.2.2.1 h1f.2 E2 Iff.rfl (fun q => q.2) rfl (JA_c111 hJ.2.2.1)
  exact K h2 ⟨h2I, (JT_fr h2f.1 rfl (JT_fr h1f.1 rfl hJ.2.1)), hA.1, (JB_nB h2f.1 rfl (nB_Ew E2 (by decide)) (JB_fr h1f.1 rfl hJ.2.2.2.1)), (JS_fr h2f.1 rfl (JS_fr h1f.1 rfl hJ.2.2.2.2))⟩
theorem law_19 {b0 Ls : Nat} {xs : Nat → Int32} {h : Hp} {i : Int32} {I : Nat} (hL2 : Ls ≤ 320) (hi : i.toInt = I) (hL : I + 5 ≤ Ls) (hJ : J h) (K : ∀ h' : Hp, J h' → ZW b0 Ls xs h' 1359 (LZ i) []) : ZW b0 Ls xs h 785 (LZ i) [] := by
  have hI : Inv h := hJ.1
  refine Z_aload_n 1 dl_785 rfl rfl ?_
  refine Z_call [] [] cv_law_95 sk_85 rfl dl_786 rfl (Nat.le_of_ble_eq_true rfl) (by decide) (by decide) (c_Rod_natures h hI) (fun _ h1 hq => ?_)
  obtain ⟨r1, rfl, r1e⟩ := hq
  subst r1e
  refine Z_pop dl_789 rfl ?_
  refine Z_aload_n 2 dl_790 rfl rfl ?_
  refine Z_call [] [] cv_law_98 sk_116 rfl dl_791 rfl (Nat.le_of_ble_eq_true rfl) (by decide) (by decide) (c_Mod_natures h hI) (fun _ h2 hq => ?_)
  obtain ⟨r2, rfl, r2e⟩ := hq
  subst r2e
  refine Z_pop dl_794 rfl ?_
  refine Z_goto 1359 dl_795 (by decide) ?_
  exact K h ⟨hI, hJ.2.1, hJ.2.2.1, hJ.2.2.2.1, hJ.2.2.2.2⟩
theorem law_20 {b0 Ls : Nat} {xs : Nat → Int32} {h : Hp} {i : Int32} {I : Nat} (hL2 : Ls ≤ 320) (hi : i.toInt = I) (hL : I + 5 ≤ Ls) (hJ : J h) (K : ∀ h' : Hp, J h' → ZW b0 Ls xs h' 1359 (LZ i) []) : ZW b0 Ls xs h 798 (LZ i) [] := by
  have hI : Inv h := hJ.1
  refine Z_aload_n 1 dl_798 rfl rfl ?_
  refine Z_arg 1 (by decide) hi hL hL2 dl_799 dl_800 dl_801 dl_802 dl_803 ?_
  refine Z_call [.int (xs (I + 1))] [] cv_law_99 sk_85 rfl dl_804 rfl (Nat.le_of_ble_eq_true rfl) (by decide) (by decide) (c_Rod_reaches h hI _ _ rfl) (fun _ h1 hq => ?_)
  obtain ⟨r1, rfl, r1e⟩ := hq
  subst r1e
  refine Z_pop dl_807 rfl ?_
  refine Z_aload_n 2 dl_808 rfl rfl ?_
  refine Z_arg 1 (by decide) hi hL hL2 dl_809 dl_810 dl_811 dl_812 dl_813 ?_
  refine Z_call [.int (xs (I + 1))] [] cv_law_102 sk_116 rfl dl_814 rfl (Nat.le_of_ble_eq_true rfl) (by decide) (by decide) (c_Mod_reaches h hI _ _ rfl) (fun _ h2 hq => ?_)
  obtain ⟨r2, rfl, r2e⟩ := hq
  subst r2e
  refine Z_pop dl_817 rfl ?_
  refine Z_goto 1359 dl_818 (by decide) ?_
  exact K h ⟨hI, hJ.2.1, hJ.2.2.1, hJ.2.2.2.1, hJ.2.2.2.2⟩
theorem law_21 {b0 Ls : Nat} {xs : Nat → Int32} {h : Hp} {i : Int32} {I : Nat} (hL2 : Ls ≤ 320) (hi : i.toInt = I) (hL : I + 5 ≤ Ls) (hJ : J h) (K : ∀ h' : Hp, J h' → ZW b0 Ls xs h' 1359 (LZ i) []) : ZW b0 Ls xs h 821 (LZ i) [] := by
  have hI : Inv h := hJ.1
  refine Z_aload_n 1 dl_821 rfl rfl ?_
  refine Z_arg 1 (by decide) hi hL hL2 dl_822 dl_823 dl_824 dl_825 dl_826 ?_
  refine Z_arg 2 (by decide) hi hL hL2 dl_827 dl_828 dl_829 dl_830 dl_831 ?_
  refine Z_call [.int (xs (I + 1)), .int (xs (I + 2))] [] cv_law_103 sk_85 rfl dl_832 rfl (Nat.le_of_ble_eq_true rfl) (by decide) (by decide) (c_Rod_test h hI _ _ rfl _ _ rfl) (fun _ h1 hq => ?_)
  obtain ⟨r1, rfl, r1e⟩ := hq
  subst r1e
  refine Z_pop dl_835 rfl ?_
  refine Z_aload_n 2 dl_836 rfl rfl ?_
  refine Z_arg 1 (by decide) hi hL hL2 dl_837 dl_838 dl_839 dl_840 dl_841 ?_
  refine Z_arg 2 (by decide) hi hL hL2 dl_842 dl_843 dl_844 dl_845 dl_846 ?_
  refine Z_call [.int (xs (I + 1)), .int (xs (I + 2))] [] cv_law_106 sk_116 rfl dl_847 rfl (Nat.le_of_ble_eq_true rfl) (by decide) (by decide) (c_Mod_test h hI _ _ rfl _ _ rfl _ _ rfl rfl _ _ rfl rfl) (fun _ h2 hq => ?_)
  obtain ⟨r2, rfl, r2e⟩ := hq
  subst r2e
  refine Z_pop dl_850 rfl ?_
  refine Z_goto 1359 dl_851 (by decide) ?_
  exact K h ⟨hI, hJ.2.1, hJ.2.2.1, hJ.2.2.2.1, hJ.2.2.2.2⟩
theorem law_22 {b0 Ls : Nat} {xs : Nat → Int32} {h : Hp} {i : Int32} {I : Nat} (hL2 : Ls ≤ 320) (hi : i.toInt = I) (hL : I + 5 ≤ Ls) (hJ : J h) (K : ∀ h' : Hp, J h' → ZW b0 Ls xs h' 1359 (LZ i) []) : ZW b0 Ls xs h 854 (LZ i) [] := by
  have hI : Inv h := hJ.1
  refine Z_aload_n 1 dl_854 rfl rfl ?_
  refine Z_arg 1 (by decide) hi hL hL2 dl_855 dl_856 dl_857 dl_858 dl_859 ?_
  refine Z_arg 2 (by decide) hi hL hL2 dl_860 dl_861 dl_862 dl_863 dl_864 ?_
  refine Z_arg 3 (by decide) hi hL hL2 dl_865 dl_866 dl_867 dl_868 dl_869 ?_
  refine Z_arg 4 (by decide) hi hL hL2 dl_870 dl_871 dl_872 dl_873 dl_874 ?_
  refine Z_call [.int (xs (I + 1)), .int (xs (I + 2)), .int (xs (I + 3)), .int (xs (I + 4))] [] cv_law_107 sk_85 rfl dl_875 rfl (Nat.le_of_ble_eq_true rfl) (by decide) (by decide) (c_Rod_show h hI _ _ rfl _ _ rfl _ _ rfl _ _ rfl) (fun _ h1 hq => ?_)
  obtain ⟨r1, rfl, h1I, h1f⟩ := hq
  refine Z_pop dl_878 rfl ?_
  refine Z_aload_n 2 dl_879 rfl rfl ?_
  refine Z_arg 1 (by decide) hi hL hL2 dl_880 dl_881 dl_882 dl_883 dl_884 ?_
  refine Z_arg 2 (by decide) hi hL hL2 dl_885 dl_886 dl_887 dl_888 dl_889 ?_
  refine Z_arg 3 (by decide) hi hL hL2 dl_890 dl_891 dl_892 dl_893 dl_894 ?_
  refine Z_arg 4 (by decide) hi hL hL2 dl_895 dl_896 dl_897 dl_898 dl_899 ?_
  refine Z_call [.int (xs (I + 1)), .int (xs (I + 2)), .int (xs (I + 3)), .int (xs (I + 4))] [] cv_law_111 sk_116 rfl dl_900 rfl (Nat.le_of_ble_eq_true rfl) (by decide) (by decide) (c_Mod_show h1 h1I _ _ rfl _ _ rfl _ _ rfl _ _ rfl _ _ rfl rfl _ _ rfl rfl) (fun _ h2 hq => ?_)
  obtain ⟨r2, rfl, h2I, h2f⟩ := hq
  refine Z_pop dl_903 rfl ?_
  refine Z_goto 1359 dl_904 (by decide) ?_
  exact K h2 ⟨h2I, (JT_fr h2f rfl (JT_fr h1f rfl hJ.2.1)), (JA_fr h2f rfl (JA_fr h1f rfl hJ.2.2.1)), (JB_fr h2f rfl (JB_fr h1f rfl hJ.2.2.2.1)), (JS_fr h2f rfl (JS_fr h1f rfl hJ.2.2.2.2))⟩
theorem law_23 {b0 Ls : Nat} {xs : Nat → Int32} {h : Hp} {i : Int32} {I : Nat} (hL2 : Ls ≤ 320) (hi : i.toInt = I) (hL : I + 5 ≤ Ls) (hJ : J h) (K : ∀ h' : Hp, J h' → ZW b0 Ls xs h' 1359 (LZ i) []) : ZW b0 Ls xs h 907 (LZ i) [] := by
  have hI : Inv h := hJ.1
  refine Z_aload_n 1 dl_907 rfl rfl ?_
  refine Z_arg 1 (by decide) hi hL hL2 dl_908 dl_909 dl_910 dl_911 dl_912 ?_
  refine Z_arg 2 (by decide) hi hL hL2 dl_913 dl_914 dl_915 dl_916 dl_917 ?_
  refine Z_arg 3 (by decide) hi hL hL2 dl_918 dl_919 dl_920 dl_921 dl_922 ?_
  refine Z_call [.int (xs (I + 1)), .int (xs (I + 2)), .int (xs (I + 3))] [] cv_law_112 sk_85 rfl dl_923 rfl (Nat.le_of_ble_eq_true rfl) (by decide) (by decide) (c_Rod_boreX h hI _ _ rfl _ _ rfl _ _ rfl _ _ rfl rfl _ _ rfl rfl _ _ rfl rfl _ _ rfl rfl) (fun _ h1 hq => ?_)
  obtain ⟨r1, rfl, h1I, h1f⟩ := hq
  refine Z_pop dl_926 rfl ?_
  refine Z_aload_n 2 dl_927 rfl rfl ?_
  refine Z_arg 1 (by decide) hi hL hL2 dl_928 dl_929 dl_930 dl_931 dl_932 ?_
  refine Z_arg 2 (by decide) hi hL hL2 dl_933 dl_934 dl_935 dl_936 dl_937 ?_
  refine Z_arg 3 (by decide) hi hL hL2 dl_938 dl_939 dl_940 dl_941 dl_942 ?_
  refine Z_call [.int (xs (I + 1)), .int (xs (I + 2)), .int (xs (I + 3))] [] cv_law_115 sk_116 rfl dl_943 rfl (Nat.le_of_ble_eq_true rfl) (by decide) (by decide) (c_Mod_boreX h1 h1I _ _ rfl _ _ rfl _ _ rfl _ _ rfl rfl _ _ rfl rfl _ _ rfl rfl _ _ rfl rfl) (fun _ h2 hq => ?_)
  obtain ⟨r2, rfl, h2I, h2f⟩ := hq
  refine Z_pop dl_946 rfl ?_
  refine Z_goto 1359 dl_947 (by decide) ?_
  have wg := wg16 hI
  have w0 : h1.1 116 2 = h.1 1 0 := (h1f.1.1 116 2 rfl).trans (JA_wh hJ.2.2.1 (i := 0) (by decide)).symm
  have w1 : h1.1 116 3 = h.1 1 1 := (h1f.1.1 116 3 rfl).trans (JA_wh hJ.2.2.1 (i := 1) (by decide)).symm
  have E2 := h2f.2
  rw [w0, w1] at E2
  have hB := JB_bore2 hJ.2.2.1 hJ.2.2.2.1 h1f.1 rfl wg.2 h1f.2 E2
  exact K h2 ⟨h2I, (JT_fr h2f.1 rfl (JT_fr h1f.1 rfl hJ.2.1)), (JA_nA h2f.1 rfl (nA_BE E2 (fun q => by (first | decide +kernel | with_reducible assumption | omega))) (JA_fr h1f.1 rfl hJ.2.2.1)), hB.1, (JS_fr h2f.1 rfl (JS_fr h1f.1 rfl hJ.2.2.2.2))⟩
theorem law_24 {b0 Ls : Nat} {xs : Nat → Int32} {h : Hp} {i : Int32} {I : Nat} (hL2 : Ls ≤ 320) (hi : i.toInt = I) (hL : I + 5 ≤ Ls) (hJ : J h) (K : ∀ h' : Hp, J h' → ZW b0 Ls xs h' 1359 (LZ i) []) : ZW b0 Ls xs h 950 (LZ i) [] := by
  have hI : Inv h := hJ.1
  refine Z_aload_n 1 dl_950 rfl rfl ?_
  refine Z_arg 1 (by decide) hi hL hL2 dl_951 dl_952 dl_953 dl_954 dl_955 ?_
  refine Z_arg 2 (by decide) hi hL hL2 dl_956 dl_957 dl_958 dl_959 dl_960 ?_
  refine Z_arg 3 (by decide) hi hL hL2 dl_961 dl_962 dl_963 dl_964 dl_965 ?_
  refine Z_arg 4 (by decide) hi hL hL2 dl_966 dl_967 dl_968 dl_969 dl_970 ?_
  refine Z_call [.int (xs (I + 1)), .int (xs (I + 2)), .int (xs (I + 3)), .int (xs (I + 4))] [] cv_law_116 sk_85 rfl dl_971 rfl (Nat.le_of_ble_eq_true rfl) (by decide) (by decide) (c_Rod_plan h hI _ _ rfl _ _ rfl _ _ rfl _ _ rfl) (fun _ h1 hq => ?_)
  obtain ⟨r1, rfl, h1I, h1f⟩ := hq
  refine Z_pop2L dl_974 rfl ?_
  refine Z_aload_n 2 dl_975 rfl rfl ?_
  refine Z_arg 1 (by decide) hi hL hL2 dl_976 dl_977 dl_978 dl_979 dl_980 ?_
  refine Z_arg 2 (by decide) hi hL hL2 dl_981 dl_982 dl_983 dl_984 dl_985 ?_
  refine Z_arg 3 (by decide) hi hL hL2 dl_986 dl_987 dl_988 dl_989 dl_990 ?_
  refine Z_arg 4 (by decide) hi hL hL2 dl_991 dl_992 dl_993 dl_994 dl_995 ?_
  refine Z_call [.int (xs (I + 1)), .int (xs (I + 2)), .int (xs (I + 3)), .int (xs (I + 4))] [] cv_law_120 sk_116 rfl dl_996 rfl (Nat.le_of_ble_eq_true rfl) (by decide) (by decide) (c_Mod_plan h1 h1I _ _ rfl _ _ rfl _ _ rfl _ _ rfl _ _ rfl rfl _ _ rfl rfl) (fun _ h2 hq => ?_)
  obtain ⟨r2, rfl, h2I, h2f⟩ := hq
  refine Z_pop2L dl_999 rfl ?_
  refine Z_goto 1359 dl_1000 (by decide) ?_
  exact K h2 ⟨h2I, (JT_fr h2f rfl (JT_fr h1f rfl hJ.2.1)), (JA_fr h2f rfl (JA_fr h1f rfl hJ.2.2.1)), (JB_fr h2f rfl (JB_fr h1f rfl hJ.2.2.2.1)), (JS_fr h2f rfl (JS_fr h1f rfl hJ.2.2.2.2))⟩
theorem law_25 {b0 Ls : Nat} {xs : Nat → Int32} {h : Hp} {i : Int32} {I : Nat} (hL2 : Ls ≤ 320) (hi : i.toInt = I) (hL : I + 5 ≤ Ls) (hJ : J h) (K : ∀ h' : Hp, J h' → ZW b0 Ls xs h' 1359 (LZ i) []) : ZW b0 Ls xs h 1003 (LZ i) [] := by
  have hI : Inv h := hJ.1
  refine Z_aload_n 1 dl_1003 rfl rfl ?_
  refine Z_arg 1 (by decide) hi hL hL2 dl_1004 dl_1005 dl_1006 dl_1007 dl_1008 ?_
  refine Z_call [.int (xs (I + 1))] [] cv_law_121 sk_85 rfl dl_1009 rfl (Nat.le_of_ble_eq_true rfl) (by decide) (by decide) (c_Rod_beds h hI _ _ rfl) (fun _ h1 hq => ?_)
  obtain ⟨r1, rfl, h1I, h1f⟩ := hq
  refine Z_pop dl_1012 rfl ?_
  refine Z_aload_n 2 dl_1013 rfl rfl ?_
  refine Z_arg 1 (by decide) hi hL hL2 dl_1014 dl_1015 dl_1016 dl_1017 dl_1018 ?_
  refine Z_call [.int (xs (I + 1))] [] cv_law_124 sk_116 rfl dl_1019 rfl (Nat.le_of_ble_eq_true rfl) (by decide) (by decide) (c_Mod_beds h1 h1I _ _ rfl _ _ rfl rfl _ _ rfl rfl) (fun _ h2 hq => ?_)
  obtain ⟨r2, rfl, h2I, h2f⟩ := hq
  refine Z_pop dl_1022 rfl ?_
  refine Z_goto 1359 dl_1023 (by decide) ?_
  exact K h2 ⟨h2I, (JT_fr h2f rfl (JT_fr h1f rfl hJ.2.1)), (JA_fr h2f rfl (JA_fr h1f rfl hJ.2.2.1)), (JB_fr h2f rfl (JB_fr h1f rfl hJ.2.2.2.1)), (JS_fr h2f rfl (JS_fr h1f rfl hJ.2.2.2.2))⟩
theorem law_26 {b0 Ls : Nat} {xs : Nat → Int32} {h : Hp} {i : Int32} {I : Nat} (hL2 : Ls ≤ 320) (hi : i.toInt = I) (hL : I + 5 ≤ Ls) (hJ : J h) (K : ∀ h' : Hp, J h' → ZW b0 Ls xs h' 1359 (LZ i) []) : ZW b0 Ls xs h 1026 (LZ i) [] := by
  have hI : Inv h := hJ.1
  refine Z_aload_n 1 dl_1026 rfl rfl ?_
  refine Z_arg 1 (by decide) hi hL hL2 dl_1027 dl_1028 dl_1029 dl_1030 dl_1031 ?_
  refine Z_arg 2 (by decide) hi hL hL2 dl_1032 dl_1033 dl_1034 dl_1035 dl_1036 ?_
  refine Z_call [.int (xs (I + 1)), .int (xs (I + 2))] [] cv_law_125 sk_85 rfl dl_1037 rfl (Nat.le_of_ble_eq_true rfl) (by decide) (by decide) (c_Rod_next h hI _ _ rfl _ _ rfl) (fun _ h1 hq => ?_)
  obtain ⟨r1, rfl, h1I, h1f⟩ := hq
  refine Z_pop dl_1040 rfl ?_
  refine Z_aload_n 2 dl_1041 rfl rfl ?_
  refine Z_arg 1 (by decide) hi hL hL2 dl_1042 dl_1043 dl_1044 dl_1045 dl_1046 ?_
  refine Z_arg 2 (by decide) hi hL hL2 dl_1047 dl_1048 dl_1049 dl_1050 dl_1051 ?_
  refine Z_call [.int (xs (I + 1)), .int (xs (I + 2))] [] cv_law_128 sk_116 rfl dl_1052 rfl (Nat.le_of_ble_eq_true rfl) (by decide) (by decide) (c_Mod_next_ h1 h1I _ _ rfl _ _ rfl _ _ rfl rfl _ _ rfl rfl) (fun _ h2 hq => ?_)
  obtain ⟨r2, rfl, h2I, h2f⟩ := hq
  refine Z_pop dl_1055 rfl ?_
  refine Z_goto 1359 dl_1056 (by decide) ?_
  exact K h2 ⟨h2I, (JT_fr h2f rfl (JT_fr h1f rfl hJ.2.1)), (JA_fr h2f rfl (JA_fr h1f rfl hJ.2.2.1)), (JB_fr h2f rfl (JB_fr h1f rfl hJ.2.2.2.1)), (JS_fr h2f rfl (JS_fr h1f rfl hJ.2.2.2.2))⟩
theorem law_27 {b0 Ls : Nat} {xs : Nat → Int32} {h : Hp} {i : Int32} {I : Nat} (hL2 : Ls ≤ 320) (hi : i.toInt = I) (hL : I + 5 ≤ Ls) (hJ : J h) (K : ∀ h' : Hp, J h' → ZW b0 Ls xs h' 1359 (LZ i) []) : ZW b0 Ls xs h 1059 (LZ i) [] := by
  have hI : Inv h := hJ.1
  refine Z_aload_n 1 dl_1059 rfl rfl ?_
  refine Z_arg 1 (by decide) hi hL hL2 dl_1060 dl_1061 dl_1062 dl_1063 dl_1064 ?_
  refine Z_call [.int (xs (I + 1))] [] cv_law_129 sk_85 rfl dl_1065 rfl (Nat.le_of_ble_eq_true rfl) (by decide) (by decide) (c_Rod_crash h hI _ _ rfl) (fun _ h1 hq => ?_)
  obtain ⟨r1, rfl, r1e⟩ := hq
  subst r1e
  refine Z_pop dl_1068 rfl ?_
  refine Z_aload_n 2 dl_1069 rfl rfl ?_
  refine Z_arg 1 (by decide) hi hL hL2 dl_1070 dl_1071 dl_1072 dl_1073 dl_1074 ?_
  refine Z_call [.int (xs (I + 1))] [] cv_law_132 sk_116 rfl dl_1075 rfl (Nat.le_of_ble_eq_true rfl) (by decide) (by decide) (c_Mod_crash h hI _ _ rfl) (fun _ h2 hq => ?_)
  obtain ⟨r2, rfl, h2I, h2f⟩ := hq
  refine Z_pop dl_1078 rfl ?_
  refine Z_goto 1359 dl_1079 (by decide) ?_
  exact K h2 ⟨h2I, (JT_fr h2f rfl hJ.2.1), (JA_fr h2f rfl hJ.2.2.1), (JB_fr h2f rfl hJ.2.2.2.1), (JS_fr h2f rfl hJ.2.2.2.2)⟩
theorem law_28 {b0 Ls : Nat} {xs : Nat → Int32} {h : Hp} {i : Int32} {I : Nat} (hL2 : Ls ≤ 320) (hi : i.toInt = I) (hL : I + 5 ≤ Ls) (hJ : J h) (K : ∀ h' : Hp, J h' → ZW b0 Ls xs h' 1359 (LZ i) []) : ZW b0 Ls xs h 1082 (LZ i) [] := by
  have hI : Inv h := hJ.1
  refine Z_aload_n 1 dl_1082 rfl rfl ?_
  refine Z_arg 1 (by decide) hi hL hL2 dl_1083 dl_1084 dl_1085 dl_1086 dl_1087 ?_
  refine Z_call [.int (xs (I + 1))] [] cv_law_133 sk_85 rfl dl_1088 rfl (Nat.le_of_ble_eq_true rfl) (by decide) (by decide) (c_Rod_save h hI _ _ rfl) (fun _ h1 hq => ?_)
  obtain ⟨r1, rfl, r1e⟩ := hq
  subst r1e
  refine Z_pop dl_1091 rfl ?_
  refine Z_aload_n 2 dl_1092 rfl rfl ?_
  refine Z_arg 1 (by decide) hi hL hL2 dl_1093 dl_1094 dl_1095 dl_1096 dl_1097 ?_
  refine Z_call [.int (xs (I + 1))] [] cv_law_136 sk_116 rfl dl_1098 rfl (Nat.le_of_ble_eq_true rfl) (by decide) (by decide) (c_Mod_save h hI _ _ rfl) (fun _ h2 hq => ?_)
  obtain ⟨r2, rfl, h2I, h2f⟩ := hq
  refine Z_pop dl_1101 rfl ?_
  refine Z_goto 1359 dl_1102 (by decide) ?_
  exact K h2 ⟨h2I, (JT_fr h2f rfl hJ.2.1), (JA_fr h2f rfl hJ.2.2.1), (JB_fr h2f rfl hJ.2.2.2.1), (JS_fr h2f rfl hJ.2.2.2.2)⟩
theorem law_29 {b0 Ls : Nat} {xs : Nat → Int32} {h : Hp} {i : Int32} {I : Nat} (hL2 : Ls ≤ 320) (hi : i.toInt = I) (hL : I + 5 ≤ Ls) (hJ : J h) (K : ∀ h' : Hp, J h' → ZW b0 Ls xs h' 1359 (LZ i) []) : ZW b0 Ls xs h 1105 (LZ i) [] := by
  have hI : Inv h := hJ.1
  refine Z_aload_n 1 dl_1105 rfl rfl ?_
  refine Z_arg 1 (by decide) hi hL hL2 dl_1106 dl_1107 dl_1108 dl_1109 dl_1110 ?_
  refine Z_arg 2 (by decide) hi hL hL2 dl_1111 dl_1112 dl_1113 dl_1114 dl_1115 ?_
  refine Z_call [.int (xs (I + 1)), .int (xs (I + 2))] [] cv_law_137 sk_85 rfl dl_1116 rfl (Nat.le_of_ble_eq_true rfl) (by decide) (by decide) (c_Rod_luck h hI _ _ rfl _ _ rfl) (fun _ h1 hq => ?_)
  obtain ⟨r1, rfl, h1I, h1f⟩ := hq
  refine Z_pop dl_1119 rfl ?_
  refine Z_aload_n 2 dl_1120 rfl rfl ?_
  refine Z_arg 1 (by decide) hi hL hL2 dl_1121 dl_1122 dl_1123 dl_1124 dl_1125 ?_
  refine Z_arg 2 (by decide) hi hL hL2 dl_1126 dl_1127 dl_1128 dl_1129 dl_1130 ?_
  refine Z_call [.int (xs (I + 1)), .int (xs (I + 2))] [] cv_law_140 sk_116 rfl dl_1131 rfl (Nat.le_of_ble_eq_true rfl) (by decide) (by decide) (c_Mod_luck h1 h1I _ _ rfl _ _ rfl _ _ rfl rfl _ _ rfl rfl) (fun _ h2 hq => ?_)
  obtain ⟨r2, rfl, h2I, h2f⟩ := hq
  refine Z_pop dl_1134 rfl ?_
  refine Z_goto 1359 dl_1135 (by decide) ?_
  exact K h2 ⟨h2I, (JT_fr h2f rfl (JT_fr h1f rfl hJ.2.1)), (JA_fr h2f rfl (JA_fr h1f rfl hJ.2.2.1)), (JB_fr h2f rfl (JB_fr h1f rfl hJ.2.2.2.1)), (JS_fr h2f rfl (JS_fr h1f rfl hJ.2.2.2.2))⟩
theorem law_30 {b0 Ls : Nat} {xs : Nat → Int32} {h : Hp} {i : Int32} {I : Nat} (hL2 : Ls ≤ 320) (hi : i.toInt = I) (hL : I + 5 ≤ Ls) (hJ : J h) (K : ∀ h' : Hp, J h' → ZW b0 Ls xs h' 1359 (LZ i) []) : ZW b0 Ls xs h 1138 (LZ i) [] := by
  have hI : Inv h := hJ.1
  refine Z_aload_n 1 dl_1138 rfl rfl ?_
  refine Z_arg 1 (by decide) hi hL hL2 dl_1139 dl_1140 dl_1141 dl_1142 dl_1143 ?_
  refine Z_call [.int (xs (I + 1))] [] cv_law_141 sk_85 rfl dl_1144 rfl (Nat.le_of_ble_eq_true rfl) (by decide) (by decide) (c_Rod_keepX h hI _ _ rfl) (fun _ h1 hq => ?_)
  obtain ⟨r1, rfl, h1I, h1f⟩ := hq
  refine Z_pop dl_1147 rfl ?_
  refine Z_aload_n 2 dl_1148 rfl rfl ?_
  refine Z_arg 1 (by decide) hi hL hL2 dl_1149 dl_1150 dl_1151 dl_1152 dl_1153 ?_
  refine Z_call [.int (xs (I + 1))] [] cv_law_144 sk_116 rfl dl_1154 rfl (Nat.le_of_ble_eq_true rfl) (by decide) (by decide) (c_Mod_keepX h1 h1I _ _ rfl) (fun _ h2 hq => ?_)
  obtain ⟨r2, rfl, h2I, h2f⟩ := hq
  refine Z_pop dl_1157 rfl ?_
  refine Z_goto 1359 dl_1158 (by decide) ?_
  have hA := JA_keep hJ.2.2.1 h1f.1 h2f.1 rfl rfl rfl h1f.2 h2f.2
  exact K h2 ⟨h2I, (JT_fr h2f.1 rfl (JT_fr h1f.1 rfl hJ.2.1)), hA.1, (JB_keep hJ.2.2.2.1 h1f.1 h2f.1 rfl rfl rfl h1f.2 h2f.2), (JS_fr h2f.1 rfl (JS_fr h1f.1 rfl hJ.2.2.2.2))⟩
theorem law_31 {b0 Ls : Nat} {xs : Nat → Int32} {h : Hp} {i : Int32} {I : Nat} (hL2 : Ls ≤ 320) (hi : i.toInt = I) (hL : I + 5 ≤ Ls) (hJ : J h) (K : ∀ h' : Hp, J h' → ZW b0 Ls xs h' 1359 (LZ i) []) : ZW b0 Ls xs h 1161 (LZ i) [] := by
  have hI : Inv h := hJ.1
  refine Z_aload_n 1 dl_1161 rfl rfl ?_
  refine Z_arg 1 (by decide) hi hL hL2 dl_1162 dl_1163 dl_1164 dl_1165 dl_1166 ?_
  refine Z_call [.int (xs (I + 1))] [] cv_law_145 sk_85 rfl dl_1167 rfl (Nat.le_of_ble_eq_true rfl) (by decide) (by decide) (c_Rod_backW h hI _ _ rfl) (fun _ h1 hq => ?_)
  obtain ⟨r1, rfl, h1I, h1f⟩ := hq
  refine Z_pop dl_1170 rfl ?_
  refine Z_aload_n 2 dl_1171 rfl rfl ?_
  refine Z_arg 1 (by decide) hi hL hL2 dl_1172 dl_1173 dl_1174 dl_1175 dl_1176 ?_
  refine Z_call [.int (xs (I + 1))] [] cv_law_148 sk_116 rfl dl_1177 rfl (Nat.le_of_ble_eq_true rfl) (by decide) (by decide) (c_Mod_backW h1 h1I _ _ rfl _ _ rfl rfl _ _ rfl rfl) (fun _ h2 hq => ?_)
  obtain ⟨r2, rfl, h2I, h2f⟩ := hq
  refine Z_pop dl_1180 rfl ?_
  refine Z_goto 1359 dl_1181 (by decide) ?_
  have wg := wg16 hI
  have hA := JA_back hJ.2.2.1 h1f.1 h2f.1 rfl rfl rfl rfl h1f.2.1 h2f.2.1
  have hB := JB_back hJ.2.2.1 hJ.2.2.2.1 h1f.1 h2f.1 rfl rfl rfl h1f.2.1 h2f.2.1
  have W0 : h1.1 116 2 = h1.1 1 0 := (h2f.1.1 116 2 rfl).symm.trans ((JA_wh hA (i := 0) (by decide)).symm.trans (h2f.1.1 1 0 rfl))
  have W1 : h1.1 116 3 = h1.1 1 1 := (h2f.1.1 116 3 rfl).symm.trans ((JA_wh hA (i := 1) (by decide)).symm.trans (h2f.1.1 1 1 rfl))
  have E2 := h2f.2.2
  rw [W0, W1, show h1.1 118 0 = h.1 87 0 from (h1f.1.1 118 0 rfl).trans hJ.2.2.1.2.1.1.symm, show h1.1 118 1 = h.1 87 1 from (h1f.1.1 118 1 rfl).trans hJ.2.2.1.2.1.2.symm] at E2
  have wq := wg16 h1I
  exact K h2 ⟨h2I, (JT_fr h2f.1 rfl (JT_fr h1f.1 rfl hJ.2.1)), hA, hB, (JS_fr h2f.1 rfl (JS_fr h1f.1 rfl hJ.2.2.2.2))⟩
theorem law_32 {b0 Ls : Nat} {xs : Nat → Int32} {h : Hp} {i : Int32} {I : Nat} (hL2 : Ls ≤ 320) (hi : i.toInt = I) (hL : I + 5 ≤ Ls) (hJ : J h) (K : ∀ h' : Hp, J h' → ZW b0 Ls xs h' 1359 (LZ i) []) : ZW b0 Ls xs h 1184 (LZ i) [] := by
  have hI : Inv h := hJ.1
  refine Z_aload_n 1 dl_1184 rfl rfl ?_
  refine Z_arg 1 (by decide) hi hL hL2 dl_1185 dl_1186 dl_1187 dl_1188 dl_1189 ?_
  refine Z_arg 2 (by decide) hi hL hL2 dl_1190 dl_1191 dl_1192 dl_1193 dl_1194 ?_
  refine Z_arg 3 (by decide) hi hL hL2 dl_1195 dl_1196 dl_1197 dl_1198 dl_1199 ?_
  refine Z_call [.int (xs (I + 1)), .int (xs (I + 2)), .int (xs (I + 3))] [] cv_law_149 sk_85 rfl dl_1200 rfl (Nat.le_of_ble_eq_true rfl) (by decide) (by decide) (c_Rod_sheetZ h hI _ _ rfl _ _ rfl _ _ rfl) (fun _ h1 hq => ?_)
  obtain ⟨r1, rfl, h1I, h1f⟩ := hq
  refine Z_pop dl_1203 rfl ?_
  refine Z_aload_n 2 dl_1204 rfl rfl ?_
  refine Z_arg 1 (by decide) hi hL hL2 dl_1205 dl_1206 dl_1207 dl_1208 dl_1209 ?_
  refine Z_arg 2 (by decide) hi hL hL2 dl_1210 dl_1211 dl_1212 dl_1213 dl_1214 ?_
  refine Z_arg 3 (by decide) hi hL hL2 dl_1215 dl_1216 dl_1217 dl_1218 dl_1219 ?_
  refine Z_call [.int (xs (I + 1)), .int (xs (I + 2)), .int (xs (I + 3))] [] cv_law_152 sk_116 rfl dl_1220 rfl (Nat.le_of_ble_eq_true rfl) (by decide) (by decide) (c_Mod_sheetZ h1 h1I _ _ rfl _ _ rfl _ _ rfl) (fun _ h2 hq => ?_)
  obtain ⟨r2, rfl, h2I, h2f⟩ := hq
  refine Z_pop dl_1223 rfl ?_
  refine Z_goto 1359 dl_1224 (by decide) ?_
  have hS := JS_sheet hJ.2.2.2.2 h1f.1 h2f.1 rfl rfl (fun q => by (first | decide +kernel | with_reducible assumption | omega)) h1f.2 h2f.2
  exact K h2 ⟨h2I, (JT_fr h2f.1 rfl (JT_fr h1f.1 rfl hJ.2.1)), (JA_fr h2f.1 rfl (JA_fr h1f.1 rfl hJ.2.2.1)), (JB_fr h2f.1 rfl (JB_fr h1f.1 rfl hJ.2.2.2.1)), hS.1⟩
theorem law_33 {b0 Ls : Nat} {xs : Nat → Int32} {h : Hp} {i : Int32} {I : Nat} (hL2 : Ls ≤ 320) (hi : i.toInt = I) (hL : I + 5 ≤ Ls) (hJ : J h) (K : ∀ h' : Hp, J h' → ZW b0 Ls xs h' 1359 (LZ i) []) : ZW b0 Ls xs h 1227 (LZ i) [] := by
  have hI : Inv h := hJ.1
  refine Z_aload_n 1 dl_1227 rfl rfl ?_
  refine Z_arg 1 (by decide) hi hL hL2 dl_1228 dl_1229 dl_1230 dl_1231 dl_1232 ?_
  refine Z_arg 2 (by decide) hi hL hL2 dl_1233 dl_1234 dl_1235 dl_1236 dl_1237 ?_
  refine Z_arg 3 (by decide) hi hL hL2 dl_1238 dl_1239 dl_1240 dl_1241 dl_1242 ?_
  refine Z_call [.int (xs (I + 1)), .int (xs (I + 2)), .int (xs (I + 3))] [] cv_law_153 sk_85 rfl dl_1243 rfl (Nat.le_of_ble_eq_true rfl) (by decide) (by decide) (c_Rod_layZ h hI _ _ rfl _ _ rfl _ _ rfl _ _ rfl rfl _ _ rfl rfl _ _ rfl rfl _ _ rfl rfl _ _ rfl rfl _ _ rfl rfl _ _ rfl rfl _ _ rfl rfl) (fun _ h1 hq => ?_)
  obtain ⟨r1, rfl, h1I, h1f⟩ := hq
  refine Z_pop dl_1246 rfl ?_
  refine Z_aload_n 2 dl_1247 rfl rfl ?_
  refine Z_arg 1 (by decide) hi hL hL2 dl_1248 dl_1249 dl_1250 dl_1251 dl_1252 ?_
  refine Z_arg 2 (by decide) hi hL hL2 dl_1253 dl_1254 dl_1255 dl_1256 dl_1257 ?_
  refine Z_arg 3 (by decide) hi hL hL2 dl_1258 dl_1259 dl_1260 dl_1261 dl_1262 ?_
  refine Z_call [.int (xs (I + 1)), .int (xs (I + 2)), .int (xs (I + 3))] [] cv_law_156 sk_116 rfl dl_1263 rfl (Nat.le_of_ble_eq_true rfl) (by decide) (by decide) (c_Mod_layZ h1 h1I _ _ rfl _ _ rfl _ _ rfl) (fun _ h2 hq => ?_)
  obtain ⟨r2, rfl, h2I, h2f⟩ := hq
  refine Z_pop dl_1266 rfl ?_
  refine Z_goto 1359 dl_1267 (by decide) ?_
  have hS := JS_lay hI hJ.2.2.2.2 h1f.2 h2f.2
  exact K h2 ⟨h2I, (JT_fr h2f.1 rfl (JT_fr h1f.1 rfl hJ.2.1)), (JA_fr h2f.1 rfl (JA_fr h1f.1 rfl hJ.2.2.1)), (JB_fr h2f.1 rfl (JB_fr h1f.1 rfl hJ.2.2.2.1)), hS.1⟩
theorem law_34 {b0 Ls : Nat} {xs : Nat → Int32} {h : Hp} {i : Int32} {I : Nat} (hL2 : Ls ≤ 320) (hi : i.toInt = I) (hL : I + 5 ≤ Ls) (hJ : J h) (K : ∀ h' : Hp, J h' → ZW b0 Ls xs h' 1359 (LZ i) []) : ZW b0 Ls xs h 1270 (LZ i) [] := by
  have hI : Inv h := hJ.1
  refine Z_aload_n 1 dl_1270 rfl rfl ?_
  refine Z_arg 1 (by decide) hi hL hL2 dl_1271 dl_1272 dl_1273 dl_1274 dl_1275 ?_
  refine Z_arg 2 (by decide) hi hL hL2 dl_1276 dl_1277 dl_1278 dl_1279 dl_1280 ?_
  refine Z_arg 3 (by decide) hi hL hL2 dl_1281 dl_1282 dl_1283 dl_1284 dl_1285 ?_
  refine Z_arg 4 (by decide) hi hL hL2 dl_1286 dl_1287 dl_1288 dl_1289 dl_1290 ?_
  refine Z_call [.int (xs (I + 1)), .int (xs (I + 2)), .int (xs (I + 3)), .int (xs (I + 4))] [] cv_law_157 sk_85 rfl dl_1291 rfl (Nat.le_of_ble_eq_true rfl) (by decide) (by decide) (c_Rod_readZ h hI _ _ rfl _ _ rfl _ _ rfl _ _ rfl _ _ rfl rfl _ _ rfl rfl _ _ rfl rfl _ _ rfl rfl _ _ rfl rfl _ _ rfl rfl _ _ rfl rfl _ _ rfl rfl _ _ rfl rfl _ _ rfl rfl _ _ rfl rfl _ _ rfl rfl) (fun _ h1 hq => ?_)
  obtain ⟨r1, rfl, h1I, h1f⟩ := hq
  refine Z_pop dl_1294 rfl ?_
  refine Z_aload_n 2 dl_1295 rfl rfl ?_
  refine Z_arg 1 (by decide) hi hL hL2 dl_1296 dl_1297 dl_1298 dl_1299 dl_1300 ?_
  refine Z_arg 2 (by decide) hi hL hL2 dl_1301 dl_1302 dl_1303 dl_1304 dl_1305 ?_
  refine Z_arg 3 (by decide) hi hL hL2 dl_1306 dl_1307 dl_1308 dl_1309 dl_1310 ?_
  refine Z_arg 4 (by decide) hi hL hL2 dl_1311 dl_1312 dl_1313 dl_1314 dl_1315 ?_
  refine Z_call [.int (xs (I + 1)), .int (xs (I + 2)), .int (xs (I + 3)), .int (xs (I + 4))] [] cv_law_160 sk_116 rfl dl_1316 rfl (Nat.le_of_ble_eq_true rfl) (by decide) (by decide) (c_Mod_readZ h1 h1I _ _ rfl _ _ rfl _ _ rfl _ _ rfl _ _ rfl rfl _ _ rfl rfl _ _ rfl rfl _ _ rfl rfl) (fun _ h2 hq => ?_)
  obtain ⟨r2, rfl, h2I, h2f⟩ := hq
  refine Z_pop dl_1319 rfl ?_
  refine Z_goto 1359 dl_1320 (by decide) ?_
  have wg := wg16 hI
  have w0 : h1.1 116 2 = h.1 1 0 := (h1f.1.1 116 2 rfl).trans (JA_wh hJ.2.2.1 (i := 0) (by decide)).symm
  have w1 : h1.1 116 3 = h.1 1 1 := (h1f.1.1 116 3 rfl).trans (JA_wh hJ.2.2.1 (i := 1) (by decide)).symm
  have E2 := h2f.2
  rw [w0, w1] at E2
  have hB := JB_read hI hJ.2.2.1 hJ.2.2.2.1 hJ.2.2.2.2 h1f.1 h2f.1 rfl rfl rfl wg.2 (fun q => by (first | decide +kernel | with_reducible assumption | omega)) h1f.2 E2
  exact K h2 ⟨h2I, (JT_fr h2f.1 rfl (JT_fr h1f.1 rfl hJ.2.1)), (JA_nA h2f.1 rfl (nA_RD E2) (JA_cA h1f.1 rfl (cA_RD h1f.2) hJ.2.2.1)), hB.1, (JS_fr h2f.1 rfl (JS_fr h1f.1 rfl hJ.2.2.2.2))⟩
theorem law_35 {b0 Ls : Nat} {xs : Nat → Int32} {h : Hp} {i : Int32} {I : Nat} (hL2 : Ls ≤ 320) (hi : i.toInt = I) (hL : I + 5 ≤ Ls) (hJ : J h) (K : ∀ h' : Hp, J h' → ZW b0 Ls xs h' 1359 (LZ i) []) : ZW b0 Ls xs h 1323 (LZ i) [] := by
  have hI : Inv h := hJ.1
  refine Z_aload_n 1 dl_1323 rfl rfl ?_
  refine Z_call [] [] cv_law_161 sk_85 rfl dl_1324 rfl (Nat.le_of_ble_eq_true rfl) (by decide) (by decide) (c_Rod_torn h hI) (fun _ h1 hq => ?_)
  obtain ⟨r1, rfl, r1e⟩ := hq
  subst r1e
  refine Z_pop dl_1327 rfl ?_
  refine Z_aload_n 2 dl_1328 rfl rfl ?_
  refine Z_call [] [] cv_law_164 sk_116 rfl dl_1329 rfl (Nat.le_of_ble_eq_true rfl) (by decide) (by decide) (c_Mod_torn h hI) (fun _ h2 hq => ?_)
  obtain ⟨r2, rfl, r2e⟩ := hq
  subst r2e
  refine Z_pop dl_1332 rfl ?_
  refine Z_goto 1359 dl_1333 (by decide) ?_
  exact K h ⟨hI, hJ.2.1, hJ.2.2.1, hJ.2.2.2.1, hJ.2.2.2.2⟩
theorem law_36 {b0 Ls : Nat} {xs : Nat → Int32} {h : Hp} {i : Int32} {I : Nat} (hL2 : Ls ≤ 320) (hi : i.toInt = I) (hL : I + 5 ≤ Ls) (hJ : J h) (K : ∀ h' : Hp, J h' → ZW b0 Ls xs h' 1359 (LZ i) []) : ZW b0 Ls xs h 1336 (LZ i) [] := by
  have hI : Inv h := hJ.1
  refine Z_aload_n 1 dl_1336 rfl rfl ?_
  refine Z_arg 1 (by decide) hi hL hL2 dl_1337 dl_1338 dl_1339 dl_1340 dl_1341 ?_
  refine Z_call [.int (xs (I + 1))] [] cv_law_165 sk_85 rfl dl_1342 rfl (Nat.le_of_ble_eq_true rfl) (by decide) (by decide) (c_Rod_countX h hI _ _ rfl _ _ rfl rfl _ _ rfl rfl) (fun _ h1 hq => ?_)
  obtain ⟨r1, rfl, r1e⟩ := hq
  obtain ⟨rfl, r1E⟩ := r1e
  refine Z_pop dl_1345 rfl ?_
  refine Z_aload_n 2 dl_1346 rfl rfl ?_
  refine Z_arg 1 (by decide) hi hL hL2 dl_1347 dl_1348 dl_1349 dl_1350 dl_1351 ?_
  refine Z_call [.int (xs (I + 1))] [] cv_law_168 sk_116 rfl dl_1352 rfl (Nat.le_of_ble_eq_true rfl) (by decide) (by decide) (c_Mod_countX h hI _ _ rfl _ _ rfl rfl _ _ rfl rfl) (fun _ h2 hq => ?_)
  obtain ⟨r2, rfl, r2e⟩ := hq
  obtain ⟨rfl, r2E⟩ := r2e
  refine Z_pop dl_1355 rfl ?_
  refine Z_goto 1359 dl_1356 (by decide) ?_
  exact K h ⟨hI, hJ.2.1, hJ.2.2.1, hJ.2.2.2.1, hJ.2.2.2.2⟩
end
section
theorem law_loop {b0 Ls : Nat} {xs : Nat → Int32} (hL2 : Ls ≤ 320) : ∀ (d I : Nat) (i : Int32) (h : Hp), Ls + 5 - I ≤ d → i.toInt = I → I ≤ Ls → J h → ZW b0 Ls xs h 18 (LZ i) [] := by
  intro d
  induction d with
  | zero => intro I i h hd hi hIL; omega
  | succ d ih =>
    intro I i h hd hi hIL hJ
    have hLs : (Int32.ofNat Ls).toInt = Ls := by rw [Int32.toInt_ofNat_of_lt (by (first | decide +kernel | with_reducible assumption | omega))]
    refine Z_iload_n 3 dl_18 rfl rfl ?_
    refine Z_aload_n 0 dl_19 rfl rfl ?_
    refine Z_slen rfl dl_20 ?_
    refine Z_iconst 5 dl_21 (by decide) ?_
    refine Z_isub hLs (show (5 : Int32).toInt = 5 by decide) (by (first | decide +kernel | with_reducible assumption | omega)) dl_22 (fun z _ hz => ?_)
    refine Z_icmp_gt 1365 hi hz dl_23 (by decide) (fun _ => ?_) (fun hle => ?_)
    · refine Z_iconst 1 dl_1365 (by decide) ?_
      exact Z_ret dl_1366
    · have hL : I + 5 ≤ Ls := by (first | decide +kernel | with_reducible assumption | omega)
      have K : ∀ h' : Hp, J h' → ZW b0 Ls xs h' 1359 (LZ i) [] := fun h' hJ' => by
        refine Z_iinc (v := i + 5) 3 (LZ (i + 5)) dl_1359 rfl rfl (by decide) rfl rfl ?_
        refine Z_goto 18 dl_1362 (by decide) ?_
        refine ih (I + 5) (i + 5) h' (by (first | decide +kernel | with_reducible assumption | omega)) ?_ (by (first | decide +kernel | with_reducible assumption | omega)) hJ'
        rw [ti_add hi (show (5 : Int32).toInt = 5 by decide) (by (first | decide +kernel | with_reducible assumption | omega))]
        omega
      refine Z_aload_n 0 dl_26 rfl rfl ?_
      refine Z_iload_n 3 dl_27 rfl rfl ?_
      refine Z_sld hi (by (first | decide +kernel | with_reducible assumption | omega)) dl_28 ?_
      refine Z_bipush 63 dl_29 (by decide) ?_
      refine Z_iand dl_31 (fun z _ => ?_)
      by_cases hr : z.toInt < 0 ∨ 36 < z.toInt
      · exact Z_tabOut 1359 rfl dl_32 hr (by decide) (K h hJ)
      · have hc : z.toInt = 0 ∨ z.toInt = 1 ∨ z.toInt = 2 ∨ z.toInt = 3 ∨ z.toInt = 4 ∨ z.toInt = 5 ∨ z.toInt = 6 ∨ z.toInt = 7 ∨ z.toInt = 8 ∨ z.toInt = 9 ∨ z.toInt = 10 ∨ z.toInt = 11 ∨ z.toInt = 12 ∨ z.toInt = 13 ∨ z.toInt = 14 ∨ z.toInt = 15 ∨ z.toInt = 16 ∨ z.toInt = 17 ∨ z.toInt = 18 ∨ z.toInt = 19 ∨ z.toInt = 20 ∨ z.toInt = 21 ∨ z.toInt = 22 ∨ z.toInt = 23 ∨ z.toInt = 24 ∨ z.toInt = 25 ∨ z.toInt = 26 ∨ z.toInt = 27 ∨ z.toInt = 28 ∨ z.toInt = 29 ∨ z.toInt = 30 ∨ z.toInt = 31 ∨ z.toInt = 32 ∨ z.toInt = 33 ∨ z.toInt = 34 ∨ z.toInt = 35 ∨ z.toInt = 36 := by (first | decide +kernel | with_reducible assumption | omega)
        rcases hc with hc | hc | hc | hc | hc | hc | hc | hc | hc | hc | hc | hc | hc | hc | hc | hc | hc | hc | hc | hc | hc | hc | hc | hc | hc | hc | hc | hc | hc | hc | hc | hc | hc | hc | hc | hc | hc
        · exact Z_tabIn 196 hc dl_32 (by decide) (by decide) rfl (by decide) (law_0 hL2 hi hL hJ K)
        · exact Z_tabIn 219 hc dl_32 (by decide) (by decide) rfl (by decide) (law_1 hL2 hi hL hJ K)
        · exact Z_tabIn 242 hc dl_32 (by decide) (by decide) rfl (by decide) (law_2 hL2 hi hL hJ K)
        · exact Z_tabIn 255 hc dl_32 (by decide) (by decide) rfl (by decide) (law_3 hL2 hi hL hJ K)
        · exact Z_tabIn 268 hc dl_32 (by decide) (by decide) rfl (by decide) (law_4 hL2 hi hL hJ K)
        · exact Z_tabIn 291 hc dl_32 (by decide) (by decide) rfl (by decide) (law_5 hL2 hi hL hJ K)
        · exact Z_tabIn 324 hc dl_32 (by decide) (by decide) rfl (by decide) (law_6 hL2 hi hL hJ K)
        · exact Z_tabIn 347 hc dl_32 (by decide) (by decide) rfl (by decide) (law_7 hL2 hi hL hJ K)
        · exact Z_tabIn 380 hc dl_32 (by decide) (by decide) rfl (by decide) (law_8 hL2 hi hL hJ K)
        · exact Z_tabIn 429 hc dl_32 (by decide) (by decide) rfl (by decide) (law_9 hL2 hi hL hJ K)
        · exact Z_tabIn 462 hc dl_32 (by decide) (by decide) rfl (by decide) (law_10 hL2 hi hL hJ K)
        · exact Z_tabIn 495 hc dl_32 (by decide) (by decide) rfl (by decide) (law_11 hL2 hi hL hJ K)
        · exact Z_tabIn 528 hc dl_32 (by decide) (by decide) rfl (by decide) (law_12 hL2 hi hL hJ K)
        · exact Z_tabIn 561 hc dl_32 (by decide) (by decide) rfl (by decide) (law_13 hL2 hi hL hJ K)
        · exact Z_tabIn 604 hc dl_32 (by decide) (by decide) rfl (by decide) (law_14 hL2 hi hL hJ K)
        · exact Z_tabIn 627 hc dl_32 (by decide) (by decide) rfl (by decide) (law_15 hL2 hi hL hJ K)
        · exact Z_tabIn 650 hc dl_32 (by decide) (by decide) rfl (by decide) (law_16 hL2 hi hL hJ K)
        · exact Z_tabIn 693 hc dl_32 (by decide) (by decide) rfl (by decide) (law_17 hL2 hi hL hJ K)
        · exact Z_tabIn 762 hc dl_32 (by decide) (by decide) rfl (by decide) (law_18 hL2 hi hL hJ K)
        · exact Z_tabIn 785 hc dl_32 (by decide) (by decide) rfl (by decide) (law_19 hL2 hi hL hJ K)
        · exact Z_tabIn 798 hc dl_32 (by decide) (by decide) rfl (by decide) (law_20 hL2 hi hL hJ K)
        · exact Z_tabIn 821 hc dl_32 (by decide) (by decide) rfl (by decide) (law_21 hL2 hi hL hJ K)
        · exact Z_tabIn 854 hc dl_32 (by decide) (by decide) rfl (by decide) (law_22 hL2 hi hL hJ K)
        · exact Z_tabIn 907 hc dl_32 (by decide) (by decide) rfl (by decide) (law_23 hL2 hi hL hJ K)
        · exact Z_tabIn 950 hc dl_32 (by decide) (by decide) rfl (by decide) (law_24 hL2 hi hL hJ K)
        · exact Z_tabIn 1003 hc dl_32 (by decide) (by decide) rfl (by decide) (law_25 hL2 hi hL hJ K)
        · exact Z_tabIn 1026 hc dl_32 (by decide) (by decide) rfl (by decide) (law_26 hL2 hi hL hJ K)
        · exact Z_tabIn 1059 hc dl_32 (by decide) (by decide) rfl (by decide) (law_27 hL2 hi hL hJ K)
        · exact Z_tabIn 1082 hc dl_32 (by decide) (by decide) rfl (by decide) (law_28 hL2 hi hL hJ K)
        · exact Z_tabIn 1105 hc dl_32 (by decide) (by decide) rfl (by decide) (law_29 hL2 hi hL hJ K)
        · exact Z_tabIn 1138 hc dl_32 (by decide) (by decide) rfl (by decide) (law_30 hL2 hi hL hJ K)
        · exact Z_tabIn 1161 hc dl_32 (by decide) (by decide) rfl (by decide) (law_31 hL2 hi hL hJ K)
        · exact Z_tabIn 1184 hc dl_32 (by decide) (by decide) rfl (by decide) (law_32 hL2 hi hL hJ K)
        · exact Z_tabIn 1227 hc dl_32 (by decide) (by decide) rfl (by decide) (law_33 hL2 hi hL hJ K)
        · exact Z_tabIn 1270 hc dl_32 (by decide) (by decide) rfl (by decide) (law_34 hL2 hi hL hJ K)
        · exact Z_tabIn 1323 hc dl_32 (by decide) (by decide) rfl (by decide) (law_35 hL2 hi hL hJ K)
        · exact Z_tabIn 1336 hc dl_32 (by decide) (by decide) rfl (by decide) (law_36 hL2 hi hL hJ K)
end
section
theorem tb_ca0 : Cond.arrayClass .int ∈ lw_tbl := List.mem_append_right _ (List.mem_append_left _ (List.mem_of_getElem? (i := 99) (by decide +kernel)))
theorem tb_ca1 : Cond.arrayClass .byte ∈ lw_tbl := List.mem_append_right _ (List.mem_append_left _ (List.mem_of_getElem? (i := 236) (by decide +kernel)))
theorem tb_ca2 : Cond.arrayClass .boolean ∈ lw_tbl := List.mem_append_right _ (List.mem_append_left _ (List.mem_of_getElem? (i := 235) (by decide +kernel)))
theorem tb_ca3 : Cond.arrayOver (.object "RodOwes$County") ∈ lw_tbl := List.mem_append_right _ (List.mem_append_left _ (List.mem_of_getElem? (i := 197) (by decide +kernel)))
theorem tb_ca4 : Cond.arrayOver (.object "RodOwes$Sheet") ∈ lw_tbl := List.mem_append_right _ (List.mem_append_right _ (List.mem_append_left _ (List.mem_of_getElem? (i := 94) (by decide +kernel))))
theorem tb_ca5 : Cond.arrayOver (.array .int) ∈ lw_tbl := List.mem_append_right _ (List.mem_append_right _ (List.mem_append_left _ (List.mem_of_getElem? (i := 31) (by decide +kernel))))
theorem memL_by {α : Type} {L : List α} {f : α → Cond} {ix : List Nat} (h : ix.map (fun i => tables_1[i]?) = (L.map f).map some) : ∀ q ∈ L, f q ∈ lw_tbl := fun q hq => by
  have e : some (f q) ∈ (L.map f).map some := List.mem_map.mpr ⟨f q, List.mem_map.mpr ⟨q, hq, rfl⟩, rfl⟩
  rw [← h] at e
  obtain ⟨i, _, e⟩ := List.mem_map.mp e
  exact List.mem_append_right _ (List.mem_of_getElem? e)
theorem memI_by {f : Nat → Cond} {n : Nat} {ix : List Nat} (h : ∀ i, i < n → tables_1[ix.getD i 0]? = some (f i)) : ∀ i, i < n → f i ∈ lw_tbl := fun i hi => List.mem_append_right _ (List.mem_of_getElem? (h i hi))
theorem tb_nest : ∀ q ∈ kNest, Cond.methodLinkNest q.1 q.2.1 q.2.2 R_Rod ∈ lw_tbl := memL_by (f := fun (q : String × Nat × MethodName) => Cond.methodLinkNest q.1 q.2.1 q.2.2 R_Rod) (ix := [200, 266, 282, 300, 336, 37, 102, 129, 206]) (by decide +kernel)
theorem tb_nest2 : ∀ q ∈ vv_nest, Cond.methodLinkNest q.1 q.2.1 q.2.2 R_Rod ∈ lw_tbl := memL_by (f := fun (q : String × Nat × MethodName) => Cond.methodLinkNest q.1 q.2.1 q.2.2 R_Rod) (ix := [778, 771, 773, 713, 716]) (by decide +kernel)
theorem tb_cls0 : ∀ q ∈ classes, Cond.instantiable q.1 q.2.2 ∈ vv_G := by decide +kernel
theorem tb_cls : ∀ q ∈ classes, ∀ w ∈ u_ws q.1 q.2.1 q.2.2, w ∈ vv_G := by
  intro q hq
  simp only [classes, List.mem_cons, List.not_mem_nil, or_false] at hq
  rcases hq with rfl | rfl | rfl | rfl | rfl | rfl | rfl | rfl | rfl | rfl | rfl | rfl
  · exact i_Beds
  · exact i_County
  · exact i_Land
  · exact i_Ledger
  · exact i_Plans
  · exact i_Reader
  · exact i_Sheet
  · exact i_Sights
  · exact i_Tape
  · exact i_Walks
  · exact i_Rod
  · exact i_Mod
theorem st_D {args : Array Value} {s : State} (hts : ∀ w ∈ vv_G, w.before args s = true) : ∃ D : va_G, ∀ (c : Nat) (q : vw_C), classes[c]? = some q → u_Kn s q.1 q.2.1 q.2.2 (D.1 c) (D.2 c) := by
  have h : ∀ c : Nat, ∃ z : ClassId × (Nat → Nat), ∀ q : vw_C, classes[c]? = some q → u_Kn s q.1 q.2.1 q.2.2 z.1 z.2 := by
    intro c
    cases hq : classes[c]? with
    | none => exact ⟨(0, fun _ => 0), fun q h => by cases h⟩
    | some q =>
      have hm := List.mem_of_getElem? hq
      obtain ⟨cC, iS, hk⟩ := u_known hts (tb_cls q hm) (hts _ (tb_cls0 q hm))
      exact ⟨(cC, iS), fun q' h => by cases h; exact hk⟩
  obtain ⟨f, hf⟩ := Classical.axiomOfChoice h
  exact ⟨(fun c => (f c).1, fun c => (f c).2), hf⟩
theorem st_ca {args : Array Value} {s : State} (hts : ∀ w ∈ lw_tbl, w.before args s = true) : ∃ ca : Nat → ClassId, ∀ (k : Nat) (q : ClassId × FieldType), (tysC ca)[k]? = some q → ArrOfT s q.1 q.2 ∧ va_RA s q.1 q.2 := by
  obtain ⟨c0, k0, m0, a0, b0, e0⟩ := Cond.arrayClass_spec (hts _ tb_ca0)
  obtain ⟨c1, k1, m1, a1, b1, e1⟩ := Cond.arrayClass_spec (hts _ tb_ca1)
  obtain ⟨c2, k2, m2, a2, b2, e2⟩ := Cond.arrayClass_spec (hts _ tb_ca2)
  obtain ⟨m3, c3, k3, g3, -, b3, e3, a3⟩ := Cond.arrayOver_spec (hts _ tb_ca3)
  obtain ⟨m4, c4, k4, g4, -, b4, e4, a4⟩ := Cond.arrayOver_spec (hts _ tb_ca4)
  obtain ⟨m5, c5, k5, -, b5, e5, a5⟩ := Cond.arrayOver_specA (hts _ tb_ca5)
  refine ⟨fun k => [c0, c1, c2, c3, c4, c5].getD k 0, fun k q hk => ?_⟩
  have hl : k < 6 := (List.getElem?_eq_some_iff.mp hk).1
  rcases (by (first | decide +kernel | with_reducible assumption | omega) : k = 0 ∨ k = 1 ∨ k = 2 ∨ k = 3 ∨ k = 4 ∨ k = 5) with rfl | rfl | rfl | rfl | rfl | rfl
  · cases hk; exact ⟨fun N z => ⟨(fun k h => by cases h), k0, b0, m0, e0⟩, a0⟩
  · cases hk; exact ⟨fun N z => ⟨(fun k h => by cases h), k1, b1, m1, e1⟩, a1⟩
  · cases hk; exact ⟨fun N z => ⟨(fun k h => by cases h), k2, b2, m2, e2⟩, a2⟩
  · cases hk; exact ⟨fun N z => ⟨(fun k h => by cases h), k3, b3, m3, e3⟩, k3, m3, b3, e3, g3, a3⟩
  · cases hk; exact ⟨fun N z => ⟨(fun k h => by cases h), k4, b4, m4, e4⟩, k4, m4, b4, e4, g4, a4⟩
  · cases hk; exact ⟨fun N z => ⟨(fun k h => by cases h), k5, b5, m5, e5⟩, a5⟩
theorem st_Kw {args : Array Value} {s : State} (hts : ∀ w ∈ lw_tbl, w.before args s = true) : Kw s :=
  ⟨fun q hq => va_Nw.of rfl (hts _ (tb_nest q hq)), va_AO.of (hts _ tb_ca3), va_AO.of (hts _ tb_ca4), va_AOA.of (hts _ tb_ca5)⟩
def fl1 : List Cond := flatC (Jvm.Cond.and given_1 narrow_1)
def tmS (nm : String) : Term := .static R_Reader nm "[I"
def tmT (i : Nat) : Term := .string R_Reader (vv_txI.getD i 0)
theorem sf_z : Cond.eq (.static "java/lang/String" "COMPACT_STRINGS" "Z") (.int 1) ∈ fl1 := by decide +kernel
theorem sf_f : Cond.isRef (.static "jdk/internal/util/Preconditions" "SIOOBE_FORMATTER" "Ljava/util/function/BiFunction;") ∈ fl1 := by decide +kernel
theorem sl_z : Cond.laysStatic "java/lang/String" "COMPACT_STRINGS" "Z" ∈ lw_tbl := List.mem_append_right _ (List.mem_append_right _ (List.mem_append_left _ (List.mem_of_getElem? (i := 229) (by decide +kernel))))
theorem sl_f : Cond.laysStatic "jdk/internal/util/Preconditions" "SIOOBE_FORMATTER" "Ljava/util/function/BiFunction;" ∈ lw_tbl := List.mem_append_right _ (List.mem_append_right _ (List.mem_append_right _ (List.mem_append_left _ (List.mem_of_getElem? (i := 5) (by decide +kernel)))))
theorem si_z : Cond.initialized "java/lang/String" ∈ lw_tbl := List.mem_append_right _ (List.mem_append_left _ (List.mem_of_getElem? (i := 14) (by decide +kernel)))
theorem si_f : Cond.initialized "jdk/internal/util/Preconditions" ∈ lw_tbl := List.mem_append_right _ (List.mem_append_left _ (List.mem_of_getElem? (i := 16) (by decide +kernel)))
theorem si_R : Cond.initialized R_Reader ∈ lw_tbl := List.mem_append_right _ (List.mem_append_left _ (List.mem_of_getElem? (i := 7) (by decide +kernel)))
def rows3 : List (String × List Int32) := [("NUMBERS", vv_numL), ("LEAST", vv_leastL), ("MOST", vv_mostL)]
/-- the way down a conjunction, by the bits of a number -/
def atN : Nat → Nat → Cond → Cond
  | k + 1, n, .and a b => if n % 2 = 0 then atN k (n / 2) a else atN k (n / 2) b
  | _, _, c => c
theorem atN_sub : ∀ (k n : Nat) (T c : Cond), c ∈ flatC (atN k n T) → c ∈ flatC T := by
  intro k
  induction k with
  | zero => intro n T c h; cases T <;> exact h
  | succ k ih =>
    intro n T c h
    cases T with
    | and a b =>
      show c ∈ flatC a ++ flatC b
      have h2 : c ∈ flatC (if n % 2 = 0 then atN k (n / 2) a else atN k (n / 2) b) := h
      split at h2
      · exact List.mem_append_left _ (ih _ _ _ h2)
      · exact List.mem_append_right _ (ih _ _ _ h2)
    | _ => exact h
theorem atN_mem {k n : Nat} {T c : Cond} (h : atN k n T = c) (hc : flatC c = [c]) : c ∈ flatC T := atN_sub k n T c (by rw [h, hc]; exact List.mem_singleton.mpr rfl)
theorem s3_l : ∀ q ∈ rows3, Cond.laysStatic R_Reader q.1 "[I" ∈ lw_tbl := memL_by (f := fun (q : String × List Int32) => Cond.laysStatic R_Reader q.1 "[I") (ix := [527, 533, 535]) (by decide +kernel)
def pw_s3_a : List Nat := [449, 273, 937]
theorem s3_a0 : ∀ q ∈ rows3, atN 11 (pw_s3_a.getD (if q.1 = "NUMBERS" then 0 else if q.1 = "LEAST" then 1 else 2) 0) (Jvm.Cond.and given_1 narrow_1) = Cond.arrayOf (tmS q.1) .int := by decide +kernel
theorem s3_a : ∀ q ∈ rows3, Cond.arrayOf (tmS q.1) .int ∈ fl1 := fun q hq => atN_mem (s3_a0 q hq) rfl
def pw_s3_n : List Nat := [961, 145, 105]
theorem s3_n0 : ∀ q ∈ rows3, atN 11 (pw_s3_n.getD (if q.1 = "NUMBERS" then 0 else if q.1 = "LEAST" then 1 else 2) 0) (Jvm.Cond.and given_1 narrow_1) = Cond.eq (.length (tmS q.1)) (.int (Int32.ofNat q.2.length)) := by decide +kernel
theorem s3_n : ∀ q ∈ rows3, Cond.eq (.length (tmS q.1)) (.int (Int32.ofNat q.2.length)) ∈ fl1 := fun q hq => atN_mem (s3_n0 q hq) rfl
def pw_s3_e : List (List Nat) := [[33, 289, 161, 417, 929, 97, 353, 225, 481, 993], [401, 913, 81, 337, 209, 465, 977, 49, 305, 177, 433, 945, 113, 369, 241, 497, 1009, 9, 265, 137, 393, 905, 73, 329, 201, 457, 969, 41, 297, 169], [361, 233, 489, 1001, 25, 281, 153, 409, 921, 89, 345, 217, 473, 985, 57, 313, 185, 441, 953, 121, 377, 249, 505, 1017, 5, 261, 133, 389, 901, 69]]
theorem s3_e0 : ∀ q ∈ rows3, ∀ j, j < q.2.length → atN 11 ((pw_s3_e.getD (if q.1 = "NUMBERS" then 0 else if q.1 = "LEAST" then 1 else 2) []).getD j 0) (Jvm.Cond.and given_1 narrow_1) = Cond.eq (.elem (tmS q.1) (.int (Int32.ofNat j))) (.int (q.2.getD j 0)) := by decide +kernel
theorem s3_e : ∀ q ∈ rows3, ∀ j, j < q.2.length → Cond.eq (.elem (tmS q.1) (.int (Int32.ofNat j))) (.int (q.2.getD j 0)) ∈ fl1 := fun q hq j hj => atN_mem (s3_e0 q hq j hj) rfl
theorem s3_s : ∀ q ∈ rows3, q.2.length < 2 ^ 31 := by decide +kernel
theorem tx_n : ∀ i, i < 14 → vv_txL.getD i 0 < 2 ^ 31 := by decide +kernel
def pw_tx_x : List Nat := [53, 13, 461, 493, 989, 259, 99, 979, 75, 27, 379, 103, 119, 239]
theorem tx_x0 : ∀ i, i < 14 → atN 11 (pw_tx_x.getD i 0) (Jvm.Cond.and given_1 narrow_1) = Cond.exactly (tmT i) "java/lang/String" := by decide +kernel
theorem tx_x : ∀ i, i < 14 → Cond.exactly (tmT i) "java/lang/String" ∈ fl1 := fun i hi => atN_mem (tx_x0 i hi) rfl
def pw_tx_c : List Nat := [309, 269, 973, 1005, 61, 131, 355, 51, 331, 283, 251, 359, 375, 495]
theorem tx_c0 : ∀ i, i < 14 → atN 11 (pw_tx_c.getD i 0) (Jvm.Cond.and given_1 narrow_1) = Cond.eq (.field (tmT i) "java/lang/String" "coder" "B") (.int 0) := by decide +kernel
theorem tx_c : ∀ i, i < 14 → Cond.eq (.field (tmT i) "java/lang/String" "coder" "B") (.int 0) ∈ fl1 := fun i hi => atN_mem (tx_c0 i hi) rfl
def pw_tx_a : List Nat := [181, 141, 45, 29, 317, 387, 227, 307, 203, 155, 507, 231, 247, 1007]
theorem tx_a0 : ∀ i, i < 14 → atN 11 (pw_tx_a.getD i 0) (Jvm.Cond.and given_1 narrow_1) = Cond.arrayOf (.field (tmT i) "java/lang/String" "value" "[B") .byte := by decide +kernel
theorem tx_a : ∀ i, i < 14 → Cond.arrayOf (.field (tmT i) "java/lang/String" "value" "[B") .byte ∈ fl1 := fun i hi => atN_mem (tx_a0 i hi) rfl
def pw_tx_l : List Nat := [437, 397, 301, 285, 189, 899, 483, 179, 459, 411, 1019, 487, 503, 31]
theorem tx_l0 : ∀ i, i < 14 → atN 11 (pw_tx_l.getD i 0) (Jvm.Cond.and given_1 narrow_1) = Cond.eq (.length (.field (tmT i) "java/lang/String" "value" "[B")) (.int (Int32.ofNat (vv_txL.getD i 0))) := by decide +kernel
theorem tx_l : ∀ i, i < 14 → Cond.eq (.length (.field (tmT i) "java/lang/String" "value" "[B")) (.int (Int32.ofNat (vv_txL.getD i 0))) ∈ fl1 := fun i hi => atN_mem (tx_l0 i hi) rfl
def pw_tx_e : List (List Nat) := [[949, 117, 373, 245, 501, 1013], [909, 77, 333], [173, 429, 941, 109], [157, 413, 925, 93], [445, 957, 125, 381, 893], [67, 323, 195, 451, 963], [995, 19, 275, 147], [435, 947, 115, 371, 243], [971, 43, 299], [923, 91, 347], [7, 263, 135, 391, 903], [999, 23, 279, 151, 407], [1015, 15, 271, 143, 399, 911], [287, 159, 415, 927]]
theorem tx_e0 : ∀ i, i < 14 → ∀ j, j < vv_txL.getD i 0 → atN 11 ((pw_tx_e.getD i []).getD j 0) (Jvm.Cond.and given_1 narrow_1) = Cond.eq (.elem (.field (tmT i) "java/lang/String" "value" "[B") (.int (Int32.ofNat j))) (.int ((vv_txB.getD i []).getD j 0)) := by decide +kernel
theorem tx_e : ∀ i, i < 14 → ∀ j, j < vv_txL.getD i 0 → Cond.eq (.elem (.field (tmT i) "java/lang/String" "value" "[B") (.int (Int32.ofNat j))) (.int ((vv_txB.getD i []).getD j 0)) ∈ fl1 := fun i hi j hj => atN_mem (tx_e0 i hi j hj) rfl
def pw_tx_d : List (List Nat) := [[], [205], [365, 237], [349, 221, 477], [253, 509, 1021, 3], [35, 291, 163, 419, 931], [403, 915, 83, 339, 211, 467], [499, 1011, 11, 267, 139, 395, 907], [171, 427, 939, 107, 363, 235, 491, 1003], [219, 475, 987, 59, 315, 187, 443, 955, 123], [71, 327, 199, 455, 967, 39, 295, 167, 423, 935], [919, 87, 343, 215, 471, 983, 55, 311, 183, 439, 951], [79, 335, 207, 463, 975, 47, 303, 175, 431, 943, 111, 367], [95, 351, 223, 479, 991, 63, 319, 191, 447, 959, 127, 383, 895]]
theorem tx_d0 : ∀ j, j < 14 → ∀ i, i < j → atN 11 ((pw_tx_d.getD j []).getD i 0) (Jvm.Cond.and given_1 narrow_1) = Cond.not (Cond.eq (tmT i) (tmT j)) := by decide +kernel
theorem tx_d : ∀ j, j < 14 → ∀ i, i < j → Cond.not (Cond.eq (tmT i) (tmT j)) ∈ fl1 := fun j hj i hi => atN_mem (tx_d0 j hj i hi) rfl
theorem tx_r : ∀ i, i < 14 → Cond.stringRef R_Reader (vv_txI.getD i 0) (vv_txS.getD i "") ∈ lw_tbl := memI_by (f := fun i => Cond.stringRef R_Reader (vv_txI.getD i 0) (vv_txS.getD i "")) (ix := [446, 447, 448, 449, 450, 451, 452, 453, 454, 455, 522, 523, 524, 525]) (by decide +kernel)
theorem vk_S_congr {N : Nat} {len : List Nat} {byt : List (List Int32)} {adK adV bdK bdV : Nat → Nat} {A : Nat → Prop} {U : State} {H : Heap} (h : vk_S N len byt adK adV A U H) (h1 : ∀ i, i < N → bdK i = adK i) (h2 : ∀ i, i < N → bdV i = adV i) : vk_S N len byt bdK bdV A U H :=
  ⟨fun i hi => by rw [h1 i hi, h2 i hi]; exact h.1 i hi, fun i j hi hj e => h.2 i j hi hj (by rw [← h1 i hi, ← h1 j hj]; exact e)⟩
theorem st_row {args : Array Value} {s : State} (hts : ∀ w ∈ lw_tbl, w.before args s = true) (hfl : ∀ w ∈ fl1, w.before args s = true) {A : Nat → Prop} (hA : ∀ a : Nat, a < s.heap.size → ¬ A a) (q : String × List Int32) (hq : q ∈ rows3) : ∃ t : Nat, va_Z R_Reader q.1 "[I" (.ref t) A s s.heap ∧ va_T .int t q.2.length (fun j => .int (q.2.getD j 0)) A s s.heap := by
  obtain ⟨t, ht, hT⟩ := va_Tof (f := fun j => .int (q.2.getD j 0)) (A := A) (s3_s q hq) (hfl _ (s3_a q hq)) (va_eqt (hfl _ (s3_n q hq))) (fun j hj => va_eqt (hfl _ (s3_e q hq j hj))) hA
  exact ⟨t, va_Zref (hts _ (s3_l q hq)) (hts _ si_R) ht hA, hT⟩
theorem st_Ro {args : Array Value} {s : State} (hts : ∀ w ∈ lw_tbl, w.before args s = true) (hgv : (Jvm.Cond.and given_1 narrow_1).before args s = true) {A : Nat → Prop} (hA : ∀ a : Nat, a < s.heap.size → ¬ A a) : ∃ ro : Nat → Nat, ∀ X : Xc, (∀ k, 132 ≤ k → k < 164 → X.2.1 k = ro k) → Ro X A s s.heap := by
  have hfl : ∀ w ∈ fl1, w.before args s = true := flat_of_before _ hgv
  obtain ⟨t1, z1, T1⟩ := st_row hts hfl hA ("NUMBERS", vv_numL) (by simp [rows3])
  obtain ⟨t2, z2, T2⟩ := st_row hts hfl hA ("LEAST", vv_leastL) (by simp [rows3])
  obtain ⟨t3, z3, T3⟩ := st_row hts hfl hA ("MOST", vv_mostL) (by simp [rows3])
  have hz := va_Zof (hts _ sl_z) (hts _ si_z) (va_eqt (hfl _ sf_z)) hA
  obtain ⟨tf, hf⟩ : ∃ tf : Nat, va_Z "jdk/internal/util/Preconditions" "SIOOBE_FORMATTER" "Ljava/util/function/BiFunction;" .null A s s.heap ∨ va_Z "jdk/internal/util/Preconditions" "SIOOBE_FORMATTER" "Ljava/util/function/BiFunction;" (.ref tf) A s s.heap := by
    rcases va_Zqof (hts _ sl_f) (hts _ si_f) (hfl _ sf_f) hA with h | ⟨t, h⟩
    · exact ⟨0, Or.inl h⟩
    · exact ⟨t, Or.inr h⟩
  obtain ⟨adK, adV, hS, hev⟩ := vk_Sof (N := 14) (tm := tmT) (len := vv_txL) (byt := vv_txB) (A := A) tx_n (fun i hi => hfl _ (tx_x i hi)) (fun i hi => hfl _ (tx_c i hi)) (fun i hi => hfl _ (tx_a i hi)) (fun i hi => hfl _ (tx_l i hi)) (fun i hi j hj => hfl _ (tx_e i hi j hj)) (fun i j hi hj hne => by
    by_cases hlt : i < j
    · exact Or.inl (hfl _ (tx_d j hj i hlt))
    · exact Or.inr (hfl _ (tx_d i hi j (by (first | decide +kernel | with_reducible assumption | omega))))) hA
  refine ⟨fun k => if k = 132 then t1 else if k = 133 then t2 else if k = 134 then t3 else if k < 149 then adK (k - 135) else if k < 163 then adV (k - 149) else tf, fun X hX => ?_⟩
  have x1 : X.2.1 132 = t1 := hX 132 (by decide) (by decide)
  have x2 : X.2.1 133 = t2 := hX 133 (by decide) (by decide)
  have x3 : X.2.1 134 = t3 := hX 134 (by decide) (by decide)
  have xf : X.2.1 163 = tf := hX 163 (by decide) (by decide)
  have xK : ∀ i, i < 14 → X.2.1 (135 + i) = adK i := fun i hi => by
    refine (hX (135 + i) (by (first | decide +kernel | with_reducible assumption | omega)) (by (first | decide +kernel | with_reducible assumption | omega))).trans ?_
    show (if 135 + i = 132 then t1 else if 135 + i = 133 then t2 else if 135 + i = 134 then t3 else if 135 + i < 149 then adK (135 + i - 135) else if 135 + i < 163 then adV (135 + i - 149) else tf) = adK i
    rw [if_neg (by (first | decide +kernel | with_reducible assumption | omega)), if_neg (by (first | decide +kernel | with_reducible assumption | omega)), if_neg (by (first | decide +kernel | with_reducible assumption | omega)), if_pos (by (first | decide +kernel | with_reducible assumption | omega)), Nat.add_sub_cancel_left]
  have xV : ∀ i, i < 14 → X.2.1 (149 + i) = adV i := fun i hi => by
    refine (hX (149 + i) (by (first | decide +kernel | with_reducible assumption | omega)) (by (first | decide +kernel | with_reducible assumption | omega))).trans ?_
    show (if 149 + i = 132 then t1 else if 149 + i = 133 then t2 else if 149 + i = 134 then t3 else if 149 + i < 149 then adK (149 + i - 135) else if 149 + i < 163 then adV (149 + i - 149) else tf) = adV i
    rw [if_neg (by (first | decide +kernel | with_reducible assumption | omega)), if_neg (by (first | decide +kernel | with_reducible assumption | omega)), if_neg (by (first | decide +kernel | with_reducible assumption | omega)), if_neg (by (first | decide +kernel | with_reducible assumption | omega)), if_pos (by (first | decide +kernel | with_reducible assumption | omega)), Nat.add_sub_cancel_left]
  refine ⟨⟨by rw [x1]; exact z1, by rw [x1]; exact T1⟩, ⟨by rw [x2]; exact z2, by rw [x2]; exact T2⟩, ⟨by rw [x3]; exact z3, by rw [x3]; exact T3⟩, hz, by rw [vv_fm, xf]; exact hf, vk_S_congr hS xK xV, fun i hi => ?_, fun q hq => va_Nw.of rfl (hts _ (tb_nest2 q hq))⟩
  rw [xK i hi]
  exact vk_R.of (hts _ (tx_r i hi)) (hev i hi)
end
