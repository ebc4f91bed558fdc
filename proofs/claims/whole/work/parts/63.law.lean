/-! the law's own loop -/
def ScE (E : Cx) (n : Nat) (xs : Nat → Int32) : Prop := match E with
  | (_, _, _, _, s, _, _, _, _, _, G, A, _, _, _, _) => va_X (G.1 66) n xs s s.heap ∧ G.1 66 < s.heap.size ∧ ¬ A (G.1 66)
section SCR
variable {E : Cx} {cc : ByteArray} {own : String} {nL d pc : Nat} {L : List Value} {h : Hp} {st : List Value} {n : Nat} {xs : Nat → Int32}
theorem s_sald {i : Int32} (hX : ScE E n xs) (j : Nat) (hi : i = nI j) (hj : j < n) (hn : n < 1000) (hd : decode cc pc = .ok (.iaload, 1)) (k : WW E cc own nL d (pc + 1) L h (.int (xs j) :: st)) : WW E cc own nL d pc L h (.int i :: .ref 66 :: st) := by
  obtain ⟨p, l, e, R, s, m, args, below, meth, c, G, A, ce, sl, Q, post⟩ := E
  intro ok ls H locs hl hP hD hS
  obtain ⟨h1, h2⟩ := nI_cl hi hj hn
  subst h2
  exact va_sld ok.2.1.1 ok.2.1.2.1 hX.1 hX.2.1 hX.2.2 hS h1 hd (k ok ls H locs hl hP hD hS)
theorem s_slen (hX : ScE E n xs) (hd : decode cc pc = .ok (.arraylength, 1)) (k : WW E cc own nL d (pc + 1) L h (.int (nI n) :: st)) : WW E cc own nL d pc L h (.ref 66 :: st) := by
  obtain ⟨p, l, e, R, s, m, args, below, meth, c, G, A, ce, sl, Q, post⟩ := E
  intro ok ls H locs hl hP hD hS
  exact va_slen ok.2.1.1 ok.2.1.2.1 hX.1 hX.2.1 hX.2.2 hS hd (k ok ls H locs hl hP hD hS)
end SCR
theorem lw_gt {n k : Nat} (hn : n < 1000) (hk : k < 1000) : nI n - nI 6 < nI k ↔ n < k + 6 := by
  rw [Int32.lt_iff_toInt_lt, Int32.toInt_sub, nI_toInt (by omega), nI_toInt (by omega), nI_toInt (by omega), Int.bmod_eq_of_le (by omega) (by omega)]
  omega
theorem lw_and (x : Int32) : ∃ c, c < 64 ∧ x &&& nI 63 = nI c := by
  refine ⟨x.toBitVec.toNat &&& 63, Nat.lt_of_le_of_lt Nat.and_le_right (by decide), nI_of_tb (Nat.lt_of_le_of_lt Nat.and_le_right (by decide)) ?_⟩
  rw [Int32.toBitVec_and, BitVec.toNat_and, nI_tb (by decide)]
  rfl
theorem lw_inc (t : Nat) : nI (6 * t) + Int32.ofInt 6 = nI (6 * (t + 1)) := by
  rw [show Int32.ofInt 6 = nI 6 from rfl, nI_add]; rfl

set_option maxRecDepth 20000 in
theorem law_row {E : Cx} {n t : Nat} {xs : Nat → Int32} {h : Hp} (hX : ScE E n xs) (hn : n < 1000) (ht : 6 * t + 6 ≤ n) (i : Inv h) (k : ∀ h, Inv h → WW E cL_law RL 4 25 1389 [.ref 66, .ref 0, .ref 50, .int (nI (6 * t))] h []) : WW E cL_law RL 4 25 224 [.ref 66, .ref 0, .ref 50, .int (nI (6 * t))] h [] := by
  obtain ⟨d1, d2, v, h1, h2, e1, e2, c1, c2, i2⟩ := p_row i (xs (6 * t + 1)) (xs (6 * t + 2))
  refine s_aload_n (pc := 224) 1 rfl rfl dL_law_224 ?_
  refine s_aload_n (pc := 225) 0 rfl rfl dL_law_225 ?_
  refine s_iload_n (pc := 226) 3 rfl rfl dL_law_226 ?_
  refine s_iconst (pc := 227) (k_i1N) dL_law_227 ?_
  refine s_iaddN (pc := 228) dL_law_228 ?_
  refine s_sald (pc := 229) hX (_) rfl (by omega) hn dL_law_229 ?_
  refine s_aload_n (pc := 230) 0 rfl rfl dL_law_230 ?_
  refine s_iload_n (pc := 231) 3 rfl rfl dL_law_231 ?_
  refine s_iconst (pc := 232) (k_i2N) dL_law_232 ?_
  refine s_iaddN (pc := 233) dL_law_233 ?_
  refine s_sald (pc := 234) hX (_) rfl (by omega) hn dL_law_234 ?_
  refine s_cvi2 (pc := 235) (c1) ml_L_13 mw_X6_row rfl (by omega) (Nat.le_of_ble_eq_true rfl) dL_law_235 ?_
  refine s_aload_n (pc := 238) 2 rfl rfl dL_law_238 ?_
  refine s_aload_n (pc := 239) 0 rfl rfl dL_law_239 ?_
  refine s_iload_n (pc := 240) 3 rfl rfl dL_law_240 ?_
  refine s_iconst (pc := 241) (k_i1N) dL_law_241 ?_
  refine s_iaddN (pc := 242) dL_law_242 ?_
  refine s_sald (pc := 243) hX (_) rfl (by omega) hn dL_law_243 ?_
  refine s_aload_n (pc := 244) 0 rfl rfl dL_law_244 ?_
  refine s_iload_n (pc := 245) 3 rfl rfl dL_law_245 ?_
  refine s_iconst (pc := 246) (k_i2N) dL_law_246 ?_
  refine s_iaddN (pc := 247) dL_law_247 ?_
  refine s_sald (pc := 248) hX (_) rfl (by omega) hn dL_law_248 ?_
  refine s_cvi2 (pc := 249) (c2) ml_L_17 mw_X7_row rfl (by omega) (Nat.le_of_ble_eq_true rfl) dL_law_249 ?_
  refine s_icmp_eq (pc := 252) 1389 dL_law_252 (by decide) (fun c_252 => ?_) (fun c_252 => ?_)
  · exact k h2 i2
  · exfalso; exact c_252 rfl
set_option maxRecDepth 20000 in
theorem law_lay {E : Cx} {n t : Nat} {xs : Nat → Int32} {h : Hp} (hX : ScE E n xs) (hn : n < 1000) (ht : 6 * t + 6 ≤ n) (i : Inv h) (k : ∀ h, Inv h → WW E cL_law RL 4 25 1389 [.ref 66, .ref 0, .ref 50, .int (nI (6 * t))] h []) : WW E cL_law RL 4 25 257 [.ref 66, .ref 0, .ref 50, .int (nI (6 * t))] h [] := by
  obtain ⟨d1, d2, v, h1, h2, e1, e2, c1, c2, i2⟩ := p_lay i (xs (6 * t + 1)) (xs (6 * t + 2)) (xs (6 * t + 3))
  refine s_aload_n (pc := 257) 1 rfl rfl dL_law_257 ?_
  refine s_aload_n (pc := 258) 0 rfl rfl dL_law_258 ?_
  refine s_iload_n (pc := 259) 3 rfl rfl dL_law_259 ?_
  refine s_iconst (pc := 260) (k_i1N) dL_law_260 ?_
  refine s_iaddN (pc := 261) dL_law_261 ?_
  refine s_sald (pc := 262) hX (_) rfl (by omega) hn dL_law_262 ?_
  refine s_aload_n (pc := 263) 0 rfl rfl dL_law_263 ?_
  refine s_iload_n (pc := 264) 3 rfl rfl dL_law_264 ?_
  refine s_iconst (pc := 265) (k_i2N) dL_law_265 ?_
  refine s_iaddN (pc := 266) dL_law_266 ?_
  refine s_sald (pc := 267) hX (_) rfl (by omega) hn dL_law_267 ?_
  refine s_aload_n (pc := 268) 0 rfl rfl dL_law_268 ?_
  refine s_iload_n (pc := 269) 3 rfl rfl dL_law_269 ?_
  refine s_iconst (pc := 270) (k_i3N) dL_law_270 ?_
  refine s_iaddN (pc := 271) dL_law_271 ?_
  refine s_sald (pc := 272) hX (_) rfl (by omega) hn dL_law_272 ?_
  refine s_cvi3 (pc := 273) (c1) ml_L_18 mw_X6_lay rfl (by omega) (Nat.le_of_ble_eq_true rfl) dL_law_273 ?_
  refine s_aload_n (pc := 276) 2 rfl rfl dL_law_276 ?_
  refine s_aload_n (pc := 277) 0 rfl rfl dL_law_277 ?_
  refine s_iload_n (pc := 278) 3 rfl rfl dL_law_278 ?_
  refine s_iconst (pc := 279) (k_i1N) dL_law_279 ?_
  refine s_iaddN (pc := 280) dL_law_280 ?_
  refine s_sald (pc := 281) hX (_) rfl (by omega) hn dL_law_281 ?_
  refine s_aload_n (pc := 282) 0 rfl rfl dL_law_282 ?_
  refine s_iload_n (pc := 283) 3 rfl rfl dL_law_283 ?_
  refine s_iconst (pc := 284) (k_i2N) dL_law_284 ?_
  refine s_iaddN (pc := 285) dL_law_285 ?_
  refine s_sald (pc := 286) hX (_) rfl (by omega) hn dL_law_286 ?_
  refine s_aload_n (pc := 287) 0 rfl rfl dL_law_287 ?_
  refine s_iload_n (pc := 288) 3 rfl rfl dL_law_288 ?_
  refine s_iconst (pc := 289) (k_i3N) dL_law_289 ?_
  refine s_iaddN (pc := 290) dL_law_290 ?_
  refine s_sald (pc := 291) hX (_) rfl (by omega) hn dL_law_291 ?_
  refine s_cvi3 (pc := 292) (c2) ml_L_22 mw_X7_lay rfl (by omega) (Nat.le_of_ble_eq_true rfl) dL_law_292 ?_
  refine s_icmp_eq (pc := 295) 1389 dL_law_295 (by decide) (fun c_295 => ?_) (fun c_295 => ?_)
  · exact k h2 i2
  · exfalso; exact c_295 rfl
set_option maxRecDepth 20000 in
theorem law_at {E : Cx} {n t : Nat} {xs : Nat → Int32} {h : Hp} (hX : ScE E n xs) (hn : n < 1000) (ht : 6 * t + 6 ≤ n) (i : Inv h) (k : ∀ h, Inv h → WW E cL_law RL 4 25 1389 [.ref 66, .ref 0, .ref 50, .int (nI (6 * t))] h []) : WW E cL_law RL 4 25 300 [.ref 66, .ref 0, .ref 50, .int (nI (6 * t))] h [] := by
  obtain ⟨d1, d2, v, h1, h2, e1, e2, c1, c2, i2⟩ := p_at i (xs (6 * t + 1)) (xs (6 * t + 2))
  refine s_aload_n (pc := 300) 1 rfl rfl dL_law_300 ?_
  refine s_aload_n (pc := 301) 0 rfl rfl dL_law_301 ?_
  refine s_iload_n (pc := 302) 3 rfl rfl dL_law_302 ?_
  refine s_iconst (pc := 303) (k_i1N) dL_law_303 ?_
  refine s_iaddN (pc := 304) dL_law_304 ?_
  refine s_sald (pc := 305) hX (_) rfl (by omega) hn dL_law_305 ?_
  refine s_aload_n (pc := 306) 0 rfl rfl dL_law_306 ?_
  refine s_iload_n (pc := 307) 3 rfl rfl dL_law_307 ?_
  refine s_iconst (pc := 308) (k_i2N) dL_law_308 ?_
  refine s_iaddN (pc := 309) dL_law_309 ?_
  refine s_sald (pc := 310) hX (_) rfl (by omega) hn dL_law_310 ?_
  refine s_cvi2 (pc := 311) (c1) ml_L_23 mw_X6_at rfl (by omega) (Nat.le_of_ble_eq_true rfl) dL_law_311 ?_
  refine s_aload_n (pc := 314) 2 rfl rfl dL_law_314 ?_
  refine s_aload_n (pc := 315) 0 rfl rfl dL_law_315 ?_
  refine s_iload_n (pc := 316) 3 rfl rfl dL_law_316 ?_
  refine s_iconst (pc := 317) (k_i1N) dL_law_317 ?_
  refine s_iaddN (pc := 318) dL_law_318 ?_
  refine s_sald (pc := 319) hX (_) rfl (by omega) hn dL_law_319 ?_
  refine s_aload_n (pc := 320) 0 rfl rfl dL_law_320 ?_
  refine s_iload_n (pc := 321) 3 rfl rfl dL_law_321 ?_
  refine s_iconst (pc := 322) (k_i2N) dL_law_322 ?_
  refine s_iaddN (pc := 323) dL_law_323 ?_
  refine s_sald (pc := 324) hX (_) rfl (by omega) hn dL_law_324 ?_
  refine s_cvi2 (pc := 325) (c2) ml_L_26 mw_X7_at rfl (by omega) (Nat.le_of_ble_eq_true rfl) dL_law_325 ?_
  refine s_icmp_eq (pc := 328) 1389 dL_law_328 (by decide) (fun c_328 => ?_) (fun c_328 => ?_)
  · exact k h2 i2
  · exfalso; exact c_328 rfl
set_option maxRecDepth 20000 in
theorem law_tear {E : Cx} {n t : Nat} {xs : Nat → Int32} {h : Hp} (hX : ScE E n xs) (hn : n < 1000) (ht : 6 * t + 6 ≤ n) (i : Inv h) (k : ∀ h, Inv h → WW E cL_law RL 4 25 1389 [.ref 66, .ref 0, .ref 50, .int (nI (6 * t))] h []) : WW E cL_law RL 4 25 333 [.ref 66, .ref 0, .ref 50, .int (nI (6 * t))] h [] := by
  obtain ⟨d1, d2, v, h1, h2, e1, e2, c1, c2, i2⟩ := p_tear i (xs (6 * t + 1))
  refine s_aload_n (pc := 333) 1 rfl rfl dL_law_333 ?_
  refine s_aload_n (pc := 334) 0 rfl rfl dL_law_334 ?_
  refine s_iload_n (pc := 335) 3 rfl rfl dL_law_335 ?_
  refine s_iconst (pc := 336) (k_i1N) dL_law_336 ?_
  refine s_iaddN (pc := 337) dL_law_337 ?_
  refine s_sald (pc := 338) hX (_) rfl (by omega) hn dL_law_338 ?_
  refine s_cvi1 (pc := 339) (c1) ml_L_27 mw_X6_tear rfl (by omega) (Nat.le_of_ble_eq_true rfl) dL_law_339 ?_
  refine s_aload_n (pc := 342) 2 rfl rfl dL_law_342 ?_
  refine s_aload_n (pc := 343) 0 rfl rfl dL_law_343 ?_
  refine s_iload_n (pc := 344) 3 rfl rfl dL_law_344 ?_
  refine s_iconst (pc := 345) (k_i1N) dL_law_345 ?_
  refine s_iaddN (pc := 346) dL_law_346 ?_
  refine s_sald (pc := 347) hX (_) rfl (by omega) hn dL_law_347 ?_
  refine s_cvi1 (pc := 348) (c2) ml_L_31 mw_X7_tear rfl (by omega) (Nat.le_of_ble_eq_true rfl) dL_law_348 ?_
  refine s_icmp_eq (pc := 351) 1389 dL_law_351 (by decide) (fun c_351 => ?_) (fun c_351 => ?_)
  · exact k h2 i2
  · exfalso; exact c_351 rfl
set_option maxRecDepth 20000 in
theorem law_copy {E : Cx} {n t : Nat} {xs : Nat → Int32} {h : Hp} (hX : ScE E n xs) (hn : n < 1000) (ht : 6 * t + 6 ≤ n) (i : Inv h) (k : ∀ h, Inv h → WW E cL_law RL 4 25 1389 [.ref 66, .ref 0, .ref 50, .int (nI (6 * t))] h []) : WW E cL_law RL 4 25 356 [.ref 66, .ref 0, .ref 50, .int (nI (6 * t))] h [] := by
  obtain ⟨d1, d2, v, h1, h2, e1, e2, c1, c2, i2⟩ := p_copy i (xs (6 * t + 1)) (xs (6 * t + 2)) (xs (6 * t + 3)) (xs (6 * t + 4)) (xs (6 * t + 5))
  refine s_aload_n (pc := 356) 1 rfl rfl dL_law_356 ?_
  refine s_aload_n (pc := 357) 0 rfl rfl dL_law_357 ?_
  refine s_iload_n (pc := 358) 3 rfl rfl dL_law_358 ?_
  refine s_iconst (pc := 359) (k_i1N) dL_law_359 ?_
  refine s_iaddN (pc := 360) dL_law_360 ?_
  refine s_sald (pc := 361) hX (_) rfl (by omega) hn dL_law_361 ?_
  refine s_aload_n (pc := 362) 0 rfl rfl dL_law_362 ?_
  refine s_iload_n (pc := 363) 3 rfl rfl dL_law_363 ?_
  refine s_iconst (pc := 364) (k_i2N) dL_law_364 ?_
  refine s_iaddN (pc := 365) dL_law_365 ?_
  refine s_sald (pc := 366) hX (_) rfl (by omega) hn dL_law_366 ?_
  refine s_aload_n (pc := 367) 0 rfl rfl dL_law_367 ?_
  refine s_iload_n (pc := 368) 3 rfl rfl dL_law_368 ?_
  refine s_iconst (pc := 369) (k_i3N) dL_law_369 ?_
  refine s_iaddN (pc := 370) dL_law_370 ?_
  refine s_sald (pc := 371) hX (_) rfl (by omega) hn dL_law_371 ?_
  refine s_aload_n (pc := 372) 0 rfl rfl dL_law_372 ?_
  refine s_iload_n (pc := 373) 3 rfl rfl dL_law_373 ?_
  refine s_iconst (pc := 374) (k_i4N) dL_law_374 ?_
  refine s_iaddN (pc := 375) dL_law_375 ?_
  refine s_sald (pc := 376) hX (_) rfl (by omega) hn dL_law_376 ?_
  refine s_aload_n (pc := 377) 0 rfl rfl dL_law_377 ?_
  refine s_iload_n (pc := 378) 3 rfl rfl dL_law_378 ?_
  refine s_iconst (pc := 379) (k_i5N) dL_law_379 ?_
  refine s_iaddN (pc := 380) dL_law_380 ?_
  refine s_sald (pc := 381) hX (_) rfl (by omega) hn dL_law_381 ?_
  refine s_cvi5 (pc := 382) (c1) ml_L_32 mw_X6_copy rfl (by omega) (Nat.le_of_ble_eq_true rfl) dL_law_382 ?_
  refine s_aload_n (pc := 385) 2 rfl rfl dL_law_385 ?_
  refine s_aload_n (pc := 386) 0 rfl rfl dL_law_386 ?_
  refine s_iload_n (pc := 387) 3 rfl rfl dL_law_387 ?_
  refine s_iconst (pc := 388) (k_i1N) dL_law_388 ?_
  refine s_iaddN (pc := 389) dL_law_389 ?_
  refine s_sald (pc := 390) hX (_) rfl (by omega) hn dL_law_390 ?_
  refine s_aload_n (pc := 391) 0 rfl rfl dL_law_391 ?_
  refine s_iload_n (pc := 392) 3 rfl rfl dL_law_392 ?_
  refine s_iconst (pc := 393) (k_i2N) dL_law_393 ?_
  refine s_iaddN (pc := 394) dL_law_394 ?_
  refine s_sald (pc := 395) hX (_) rfl (by omega) hn dL_law_395 ?_
  refine s_aload_n (pc := 396) 0 rfl rfl dL_law_396 ?_
  refine s_iload_n (pc := 397) 3 rfl rfl dL_law_397 ?_
  refine s_iconst (pc := 398) (k_i3N) dL_law_398 ?_
  refine s_iaddN (pc := 399) dL_law_399 ?_
  refine s_sald (pc := 400) hX (_) rfl (by omega) hn dL_law_400 ?_
  refine s_aload_n (pc := 401) 0 rfl rfl dL_law_401 ?_
  refine s_iload_n (pc := 402) 3 rfl rfl dL_law_402 ?_
  refine s_iconst (pc := 403) (k_i4N) dL_law_403 ?_
  refine s_iaddN (pc := 404) dL_law_404 ?_
  refine s_sald (pc := 405) hX (_) rfl (by omega) hn dL_law_405 ?_
  refine s_aload_n (pc := 406) 0 rfl rfl dL_law_406 ?_
  refine s_iload_n (pc := 407) 3 rfl rfl dL_law_407 ?_
  refine s_iconst (pc := 408) (k_i5N) dL_law_408 ?_
  refine s_iaddN (pc := 409) dL_law_409 ?_
  refine s_sald (pc := 410) hX (_) rfl (by omega) hn dL_law_410 ?_
  refine s_cvi5 (pc := 411) (c2) ml_L_36 mw_X7_copy rfl (by omega) (Nat.le_of_ble_eq_true rfl) dL_law_411 ?_
  refine s_icmp_eq (pc := 414) 1389 dL_law_414 (by decide) (fun c_414 => ?_) (fun c_414 => ?_)
  · exact k h2 i2
  · exfalso; exact c_414 rfl
set_option maxRecDepth 20000 in
theorem law_mean {E : Cx} {n t : Nat} {xs : Nat → Int32} {h : Hp} (hX : ScE E n xs) (hn : n < 1000) (ht : 6 * t + 6 ≤ n) (i : Inv h) (k : ∀ h, Inv h → WW E cL_law RL 4 25 1389 [.ref 66, .ref 0, .ref 50, .int (nI (6 * t))] h []) : WW E cL_law RL 4 25 419 [.ref 66, .ref 0, .ref 50, .int (nI (6 * t))] h [] := by
  obtain ⟨d1, d2, v, h1, h2, e1, e2, c1, c2, i2⟩ := p_mean i (xs (6 * t + 1))
  refine s_aload_n (pc := 419) 1 rfl rfl dL_law_419 ?_
  refine s_aload_n (pc := 420) 0 rfl rfl dL_law_420 ?_
  refine s_iload_n (pc := 421) 3 rfl rfl dL_law_421 ?_
  refine s_iconst (pc := 422) (k_i1N) dL_law_422 ?_
  refine s_iaddN (pc := 423) dL_law_423 ?_
  refine s_sald (pc := 424) hX (_) rfl (by omega) hn dL_law_424 ?_
  refine s_cvi1 (pc := 425) (c1) ml_L_37 mw_X6_mean rfl (by omega) (Nat.le_of_ble_eq_true rfl) dL_law_425 ?_
  refine s_aload_n (pc := 428) 2 rfl rfl dL_law_428 ?_
  refine s_aload_n (pc := 429) 0 rfl rfl dL_law_429 ?_
  refine s_iload_n (pc := 430) 3 rfl rfl dL_law_430 ?_
  refine s_iconst (pc := 431) (k_i1N) dL_law_431 ?_
  refine s_iaddN (pc := 432) dL_law_432 ?_
  refine s_sald (pc := 433) hX (_) rfl (by omega) hn dL_law_433 ?_
  refine s_cvi1 (pc := 434) (c2) ml_L_40 mw_X7_mean rfl (by omega) (Nat.le_of_ble_eq_true rfl) dL_law_434 ?_
  refine s_icmp_eq (pc := 437) 1389 dL_law_437 (by decide) (fun c_437 => ?_) (fun c_437 => ?_)
  · exact k h2 i2
  · exfalso; exact c_437 rfl
set_option maxRecDepth 20000 in
theorem law_text {E : Cx} {n t : Nat} {xs : Nat → Int32} {h : Hp} (hX : ScE E n xs) (hn : n < 1000) (ht : 6 * t + 6 ≤ n) (i : Inv h) (k : ∀ h, Inv h → WW E cL_law RL 4 25 1389 [.ref 66, .ref 0, .ref 50, .int (nI (6 * t))] h []) : WW E cL_law RL 4 25 442 [.ref 66, .ref 0, .ref 50, .int (nI (6 * t))] h [] := by
  obtain ⟨d1, d2, v, h1, h2, e1, e2, c1, c2, i2⟩ := p_text i (xs (6 * t + 1)) (xs (6 * t + 2))
  refine s_aload_n (pc := 442) 1 rfl rfl dL_law_442 ?_
  refine s_aload_n (pc := 443) 0 rfl rfl dL_law_443 ?_
  refine s_iload_n (pc := 444) 3 rfl rfl dL_law_444 ?_
  refine s_iconst (pc := 445) (k_i1N) dL_law_445 ?_
  refine s_iaddN (pc := 446) dL_law_446 ?_
  refine s_sald (pc := 447) hX (_) rfl (by omega) hn dL_law_447 ?_
  refine s_aload_n (pc := 448) 0 rfl rfl dL_law_448 ?_
  refine s_iload_n (pc := 449) 3 rfl rfl dL_law_449 ?_
  refine s_iconst (pc := 450) (k_i2N) dL_law_450 ?_
  refine s_iaddN (pc := 451) dL_law_451 ?_
  refine s_sald (pc := 452) hX (_) rfl (by omega) hn dL_law_452 ?_
  refine s_cvi2 (pc := 453) (c1) ml_L_41 mw_X6_text rfl (by omega) (Nat.le_of_ble_eq_true rfl) dL_law_453 ?_
  refine s_aload_n (pc := 456) 2 rfl rfl dL_law_456 ?_
  refine s_aload_n (pc := 457) 0 rfl rfl dL_law_457 ?_
  refine s_iload_n (pc := 458) 3 rfl rfl dL_law_458 ?_
  refine s_iconst (pc := 459) (k_i1N) dL_law_459 ?_
  refine s_iaddN (pc := 460) dL_law_460 ?_
  refine s_sald (pc := 461) hX (_) rfl (by omega) hn dL_law_461 ?_
  refine s_aload_n (pc := 462) 0 rfl rfl dL_law_462 ?_
  refine s_iload_n (pc := 463) 3 rfl rfl dL_law_463 ?_
  refine s_iconst (pc := 464) (k_i2N) dL_law_464 ?_
  refine s_iaddN (pc := 465) dL_law_465 ?_
  refine s_sald (pc := 466) hX (_) rfl (by omega) hn dL_law_466 ?_
  refine s_cvi2 (pc := 467) (c2) ml_L_44 mw_X7_text rfl (by omega) (Nat.le_of_ble_eq_true rfl) dL_law_467 ?_
  refine s_icmp_eq (pc := 470) 1389 dL_law_470 (by decide) (fun c_470 => ?_) (fun c_470 => ?_)
  · exact k h2 i2
  · exfalso; exact c_470 rfl
set_option maxRecDepth 20000 in
theorem law_put {E : Cx} {n t : Nat} {xs : Nat → Int32} {h : Hp} (hX : ScE E n xs) (hn : n < 1000) (ht : 6 * t + 6 ≤ n) (i : Inv h) (k : ∀ h, Inv h → WW E cL_law RL 4 25 1389 [.ref 66, .ref 0, .ref 50, .int (nI (6 * t))] h []) : WW E cL_law RL 4 25 475 [.ref 66, .ref 0, .ref 50, .int (nI (6 * t))] h [] := by
  obtain ⟨d1, d2, v, h1, h2, e1, e2, c1, c2, i2⟩ := p_put i (xs (6 * t + 1)) (xs (6 * t + 2)) (xs (6 * t + 3))
  refine s_aload_n (pc := 475) 1 rfl rfl dL_law_475 ?_
  refine s_aload_n (pc := 476) 0 rfl rfl dL_law_476 ?_
  refine s_iload_n (pc := 477) 3 rfl rfl dL_law_477 ?_
  refine s_iconst (pc := 478) (k_i1N) dL_law_478 ?_
  refine s_iaddN (pc := 479) dL_law_479 ?_
  refine s_sald (pc := 480) hX (_) rfl (by omega) hn dL_law_480 ?_
  refine s_aload_n (pc := 481) 0 rfl rfl dL_law_481 ?_
  refine s_iload_n (pc := 482) 3 rfl rfl dL_law_482 ?_
  refine s_iconst (pc := 483) (k_i2N) dL_law_483 ?_
  refine s_iaddN (pc := 484) dL_law_484 ?_
  refine s_sald (pc := 485) hX (_) rfl (by omega) hn dL_law_485 ?_
  refine s_aload_n (pc := 486) 0 rfl rfl dL_law_486 ?_
  refine s_iload_n (pc := 487) 3 rfl rfl dL_law_487 ?_
  refine s_iconst (pc := 488) (k_i3N) dL_law_488 ?_
  refine s_iaddN (pc := 489) dL_law_489 ?_
  refine s_sald (pc := 490) hX (_) rfl (by omega) hn dL_law_490 ?_
  refine s_cvi3 (pc := 491) (c1) ml_L_45 mw_X6_put rfl (by omega) (Nat.le_of_ble_eq_true rfl) dL_law_491 ?_
  refine s_aload_n (pc := 494) 2 rfl rfl dL_law_494 ?_
  refine s_aload_n (pc := 495) 0 rfl rfl dL_law_495 ?_
  refine s_iload_n (pc := 496) 3 rfl rfl dL_law_496 ?_
  refine s_iconst (pc := 497) (k_i1N) dL_law_497 ?_
  refine s_iaddN (pc := 498) dL_law_498 ?_
  refine s_sald (pc := 499) hX (_) rfl (by omega) hn dL_law_499 ?_
  refine s_aload_n (pc := 500) 0 rfl rfl dL_law_500 ?_
  refine s_iload_n (pc := 501) 3 rfl rfl dL_law_501 ?_
  refine s_iconst (pc := 502) (k_i2N) dL_law_502 ?_
  refine s_iaddN (pc := 503) dL_law_503 ?_
  refine s_sald (pc := 504) hX (_) rfl (by omega) hn dL_law_504 ?_
  refine s_aload_n (pc := 505) 0 rfl rfl dL_law_505 ?_
  refine s_iload_n (pc := 506) 3 rfl rfl dL_law_506 ?_
  refine s_iconst (pc := 507) (k_i3N) dL_law_507 ?_
  refine s_iaddN (pc := 508) dL_law_508 ?_
  refine s_sald (pc := 509) hX (_) rfl (by omega) hn dL_law_509 ?_
  refine s_cvi3 (pc := 510) (c2) ml_L_48 mw_X7_put rfl (by omega) (Nat.le_of_ble_eq_true rfl) dL_law_510 ?_
  refine s_icmp_eq (pc := 513) 1389 dL_law_513 (by decide) (fun c_513 => ?_) (fun c_513 => ?_)
  · exact k h2 i2
  · exfalso; exact c_513 rfl
set_option maxRecDepth 20000 in
theorem law_fault {E : Cx} {n t : Nat} {xs : Nat → Int32} {h : Hp} (hX : ScE E n xs) (hn : n < 1000) (ht : 6 * t + 6 ≤ n) (i : Inv h) (k : ∀ h, Inv h → WW E cL_law RL 4 25 1389 [.ref 66, .ref 0, .ref 50, .int (nI (6 * t))] h []) : WW E cL_law RL 4 25 518 [.ref 66, .ref 0, .ref 50, .int (nI (6 * t))] h [] := by
  obtain ⟨d1, d2, v, h1, h2, e1, e2, c1, c2, i2⟩ := p_fault i (xs (6 * t + 1))
  refine s_aload_n (pc := 518) 1 rfl rfl dL_law_518 ?_
  refine s_aload_n (pc := 519) 0 rfl rfl dL_law_519 ?_
  refine s_iload_n (pc := 520) 3 rfl rfl dL_law_520 ?_
  refine s_iconst (pc := 521) (k_i1N) dL_law_521 ?_
  refine s_iaddN (pc := 522) dL_law_522 ?_
  refine s_sald (pc := 523) hX (_) rfl (by omega) hn dL_law_523 ?_
  refine s_cvi1 (pc := 524) (c1) ml_L_49 mw_X6_fault rfl (by omega) (Nat.le_of_ble_eq_true rfl) dL_law_524 ?_
  refine s_aload_n (pc := 527) 2 rfl rfl dL_law_527 ?_
  refine s_aload_n (pc := 528) 0 rfl rfl dL_law_528 ?_
  refine s_iload_n (pc := 529) 3 rfl rfl dL_law_529 ?_
  refine s_iconst (pc := 530) (k_i1N) dL_law_530 ?_
  refine s_iaddN (pc := 531) dL_law_531 ?_
  refine s_sald (pc := 532) hX (_) rfl (by omega) hn dL_law_532 ?_
  refine s_cvi1 (pc := 533) (c2) ml_L_52 mw_X7_fault rfl (by omega) (Nat.le_of_ble_eq_true rfl) dL_law_533 ?_
  refine s_icmp_eq (pc := 536) 1389 dL_law_536 (by decide) (fun c_536 => ?_) (fun c_536 => ?_)
  · exact k h2 i2
  · exfalso; exact c_536 rfl
set_option maxRecDepth 20000 in
theorem law_harbour {E : Cx} {n t : Nat} {xs : Nat → Int32} {h : Hp} (hX : ScE E n xs) (hn : n < 1000) (ht : 6 * t + 6 ≤ n) (i : Inv h) (k : ∀ h, Inv h → WW E cL_law RL 4 25 1389 [.ref 66, .ref 0, .ref 50, .int (nI (6 * t))] h []) : WW E cL_law RL 4 25 541 [.ref 66, .ref 0, .ref 50, .int (nI (6 * t))] h [] := by
  obtain ⟨d1, d2, v, h1, h2, e1, e2, c1, c2, i2⟩ := p_harbour i (xs (6 * t + 1))
  refine s_aload_n (pc := 541) 1 rfl rfl dL_law_541 ?_
  refine s_aload_n (pc := 542) 0 rfl rfl dL_law_542 ?_
  refine s_iload_n (pc := 543) 3 rfl rfl dL_law_543 ?_
  refine s_iconst (pc := 544) (k_i1N) dL_law_544 ?_
  refine s_iaddN (pc := 545) dL_law_545 ?_
  refine s_sald (pc := 546) hX (_) rfl (by omega) hn dL_law_546 ?_
  refine s_cvi1 (pc := 547) (c1) ml_L_53 mw_X6_harbour rfl (by omega) (Nat.le_of_ble_eq_true rfl) dL_law_547 ?_
  refine s_aload_n (pc := 550) 2 rfl rfl dL_law_550 ?_
  refine s_aload_n (pc := 551) 0 rfl rfl dL_law_551 ?_
  refine s_iload_n (pc := 552) 3 rfl rfl dL_law_552 ?_
  refine s_iconst (pc := 553) (k_i1N) dL_law_553 ?_
  refine s_iaddN (pc := 554) dL_law_554 ?_
  refine s_sald (pc := 555) hX (_) rfl (by omega) hn dL_law_555 ?_
  refine s_cvi1 (pc := 556) (c2) ml_L_56 mw_X7_harbour rfl (by omega) (Nat.le_of_ble_eq_true rfl) dL_law_556 ?_
  refine s_icmp_eq (pc := 559) 1389 dL_law_559 (by decide) (fun c_559 => ?_) (fun c_559 => ?_)
  · exact k h2 i2
  · exfalso; exact c_559 rfl
set_option maxRecDepth 20000 in
theorem law_ship {E : Cx} {n t : Nat} {xs : Nat → Int32} {h : Hp} (hX : ScE E n xs) (hn : n < 1000) (ht : 6 * t + 6 ≤ n) (i : Inv h) (k : ∀ h, Inv h → WW E cL_law RL 4 25 1389 [.ref 66, .ref 0, .ref 50, .int (nI (6 * t))] h []) : WW E cL_law RL 4 25 564 [.ref 66, .ref 0, .ref 50, .int (nI (6 * t))] h [] := by
  obtain ⟨d1, d2, v, h1, h2, e1, e2, c1, c2, i2⟩ := p_ship i (xs (6 * t + 1)) (xs (6 * t + 2))
  refine s_aload_n (pc := 564) 1 rfl rfl dL_law_564 ?_
  refine s_aload_n (pc := 565) 0 rfl rfl dL_law_565 ?_
  refine s_iload_n (pc := 566) 3 rfl rfl dL_law_566 ?_
  refine s_iconst (pc := 567) (k_i1N) dL_law_567 ?_
  refine s_iaddN (pc := 568) dL_law_568 ?_
  refine s_sald (pc := 569) hX (_) rfl (by omega) hn dL_law_569 ?_
  refine s_aload_n (pc := 570) 0 rfl rfl dL_law_570 ?_
  refine s_iload_n (pc := 571) 3 rfl rfl dL_law_571 ?_
  refine s_iconst (pc := 572) (k_i2N) dL_law_572 ?_
  refine s_iaddN (pc := 573) dL_law_573 ?_
  refine s_sald (pc := 574) hX (_) rfl (by omega) hn dL_law_574 ?_
  refine s_cvi2 (pc := 575) (c1) ml_L_57 mw_X6_ship rfl (by omega) (Nat.le_of_ble_eq_true rfl) dL_law_575 ?_
  refine s_aload_n (pc := 578) 2 rfl rfl dL_law_578 ?_
  refine s_aload_n (pc := 579) 0 rfl rfl dL_law_579 ?_
  refine s_iload_n (pc := 580) 3 rfl rfl dL_law_580 ?_
  refine s_iconst (pc := 581) (k_i1N) dL_law_581 ?_
  refine s_iaddN (pc := 582) dL_law_582 ?_
  refine s_sald (pc := 583) hX (_) rfl (by omega) hn dL_law_583 ?_
  refine s_aload_n (pc := 584) 0 rfl rfl dL_law_584 ?_
  refine s_iload_n (pc := 585) 3 rfl rfl dL_law_585 ?_
  refine s_iconst (pc := 586) (k_i2N) dL_law_586 ?_
  refine s_iaddN (pc := 587) dL_law_587 ?_
  refine s_sald (pc := 588) hX (_) rfl (by omega) hn dL_law_588 ?_
  refine s_cvi2 (pc := 589) (c2) ml_L_60 mw_X7_ship rfl (by omega) (Nat.le_of_ble_eq_true rfl) dL_law_589 ?_
  refine s_icmp_eq (pc := 592) 1389 dL_law_592 (by decide) (fun c_592 => ?_) (fun c_592 => ?_)
  · exact k h2 i2
  · exfalso; exact c_592 rfl
set_option maxRecDepth 20000 in
theorem law_mark {E : Cx} {n t : Nat} {xs : Nat → Int32} {h : Hp} (hX : ScE E n xs) (hn : n < 1000) (ht : 6 * t + 6 ≤ n) (i : Inv h) (k : ∀ h, Inv h → WW E cL_law RL 4 25 1389 [.ref 66, .ref 0, .ref 50, .int (nI (6 * t))] h []) : WW E cL_law RL 4 25 597 [.ref 66, .ref 0, .ref 50, .int (nI (6 * t))] h [] := by
  obtain ⟨d1, d2, v, h1, h2, e1, e2, c1, c2, i2⟩ := p_mark i (xs (6 * t + 1)) (xs (6 * t + 2))
  refine s_aload_n (pc := 597) 1 rfl rfl dL_law_597 ?_
  refine s_aload_n (pc := 598) 0 rfl rfl dL_law_598 ?_
  refine s_iload_n (pc := 599) 3 rfl rfl dL_law_599 ?_
  refine s_iconst (pc := 600) (k_i1N) dL_law_600 ?_
  refine s_iaddN (pc := 601) dL_law_601 ?_
  refine s_sald (pc := 602) hX (_) rfl (by omega) hn dL_law_602 ?_
  refine s_aload_n (pc := 603) 0 rfl rfl dL_law_603 ?_
  refine s_iload_n (pc := 604) 3 rfl rfl dL_law_604 ?_
  refine s_iconst (pc := 605) (k_i2N) dL_law_605 ?_
  refine s_iaddN (pc := 606) dL_law_606 ?_
  refine s_sald (pc := 607) hX (_) rfl (by omega) hn dL_law_607 ?_
  refine s_cvi2 (pc := 608) (c1) ml_L_61 mw_X6_mark rfl (by omega) (Nat.le_of_ble_eq_true rfl) dL_law_608 ?_
  refine s_aload_n (pc := 611) 2 rfl rfl dL_law_611 ?_
  refine s_aload_n (pc := 612) 0 rfl rfl dL_law_612 ?_
  refine s_iload_n (pc := 613) 3 rfl rfl dL_law_613 ?_
  refine s_iconst (pc := 614) (k_i1N) dL_law_614 ?_
  refine s_iaddN (pc := 615) dL_law_615 ?_
  refine s_sald (pc := 616) hX (_) rfl (by omega) hn dL_law_616 ?_
  refine s_aload_n (pc := 617) 0 rfl rfl dL_law_617 ?_
  refine s_iload_n (pc := 618) 3 rfl rfl dL_law_618 ?_
  refine s_iconst (pc := 619) (k_i2N) dL_law_619 ?_
  refine s_iaddN (pc := 620) dL_law_620 ?_
  refine s_sald (pc := 621) hX (_) rfl (by omega) hn dL_law_621 ?_
  refine s_cvi2 (pc := 622) (c2) ml_L_64 mw_X7_mark rfl (by omega) (Nat.le_of_ble_eq_true rfl) dL_law_622 ?_
  refine s_icmp_eq (pc := 625) 1389 dL_law_625 (by decide) (fun c_625 => ?_) (fun c_625 => ?_)
  · exact k h2 i2
  · exfalso; exact c_625 rfl
set_option maxRecDepth 20000 in
theorem law_age {E : Cx} {n t : Nat} {xs : Nat → Int32} {h : Hp} (hX : ScE E n xs) (hn : n < 1000) (ht : 6 * t + 6 ≤ n) (i : Inv h) (k : ∀ h, Inv h → WW E cL_law RL 4 25 1389 [.ref 66, .ref 0, .ref 50, .int (nI (6 * t))] h []) : WW E cL_law RL 4 25 630 [.ref 66, .ref 0, .ref 50, .int (nI (6 * t))] h [] := by
  obtain ⟨d1, d2, v, h1, h2, e1, e2, c1, c2, i2⟩ := p_age i (xs (6 * t + 1)) (xs (6 * t + 2))
  refine s_aload_n (pc := 630) 1 rfl rfl dL_law_630 ?_
  refine s_aload_n (pc := 631) 0 rfl rfl dL_law_631 ?_
  refine s_iload_n (pc := 632) 3 rfl rfl dL_law_632 ?_
  refine s_iconst (pc := 633) (k_i1N) dL_law_633 ?_
  refine s_iaddN (pc := 634) dL_law_634 ?_
  refine s_sald (pc := 635) hX (_) rfl (by omega) hn dL_law_635 ?_
  refine s_aload_n (pc := 636) 0 rfl rfl dL_law_636 ?_
  refine s_iload_n (pc := 637) 3 rfl rfl dL_law_637 ?_
  refine s_iconst (pc := 638) (k_i2N) dL_law_638 ?_
  refine s_iaddN (pc := 639) dL_law_639 ?_
  refine s_sald (pc := 640) hX (_) rfl (by omega) hn dL_law_640 ?_
  refine s_cvi2 (pc := 641) (c1) ml_L_65 mw_X6_age rfl (by omega) (Nat.le_of_ble_eq_true rfl) dL_law_641 ?_
  refine s_aload_n (pc := 644) 2 rfl rfl dL_law_644 ?_
  refine s_aload_n (pc := 645) 0 rfl rfl dL_law_645 ?_
  refine s_iload_n (pc := 646) 3 rfl rfl dL_law_646 ?_
  refine s_iconst (pc := 647) (k_i1N) dL_law_647 ?_
  refine s_iaddN (pc := 648) dL_law_648 ?_
  refine s_sald (pc := 649) hX (_) rfl (by omega) hn dL_law_649 ?_
  refine s_aload_n (pc := 650) 0 rfl rfl dL_law_650 ?_
  refine s_iload_n (pc := 651) 3 rfl rfl dL_law_651 ?_
  refine s_iconst (pc := 652) (k_i2N) dL_law_652 ?_
  refine s_iaddN (pc := 653) dL_law_653 ?_
  refine s_sald (pc := 654) hX (_) rfl (by omega) hn dL_law_654 ?_
  refine s_cvi2 (pc := 655) (c2) ml_L_68 mw_X7_age rfl (by omega) (Nat.le_of_ble_eq_true rfl) dL_law_655 ?_
  refine s_icmp_eq (pc := 658) 1389 dL_law_658 (by decide) (fun c_658 => ?_) (fun c_658 => ?_)
  · exact k h2 i2
  · exfalso; exact c_658 rfl
set_option maxRecDepth 20000 in
theorem law_come {E : Cx} {n t : Nat} {xs : Nat → Int32} {h : Hp} (hX : ScE E n xs) (hn : n < 1000) (ht : 6 * t + 6 ≤ n) (i : Inv h) (k : ∀ h, Inv h → WW E cL_law RL 4 25 1389 [.ref 66, .ref 0, .ref 50, .int (nI (6 * t))] h []) : WW E cL_law RL 4 25 663 [.ref 66, .ref 0, .ref 50, .int (nI (6 * t))] h [] := by
  obtain ⟨d1, d2, v, h1, h2, e1, e2, c1, c2, i2⟩ := p_come i (xs (6 * t + 1))
  refine s_aload_n (pc := 663) 1 rfl rfl dL_law_663 ?_
  refine s_aload_n (pc := 664) 0 rfl rfl dL_law_664 ?_
  refine s_iload_n (pc := 665) 3 rfl rfl dL_law_665 ?_
  refine s_iconst (pc := 666) (k_i1N) dL_law_666 ?_
  refine s_iaddN (pc := 667) dL_law_667 ?_
  refine s_sald (pc := 668) hX (_) rfl (by omega) hn dL_law_668 ?_
  refine s_cvi1 (pc := 669) (c1) ml_L_69 mw_X6_come rfl (by omega) (Nat.le_of_ble_eq_true rfl) dL_law_669 ?_
  refine s_aload_n (pc := 672) 2 rfl rfl dL_law_672 ?_
  refine s_aload_n (pc := 673) 0 rfl rfl dL_law_673 ?_
  refine s_iload_n (pc := 674) 3 rfl rfl dL_law_674 ?_
  refine s_iconst (pc := 675) (k_i1N) dL_law_675 ?_
  refine s_iaddN (pc := 676) dL_law_676 ?_
  refine s_sald (pc := 677) hX (_) rfl (by omega) hn dL_law_677 ?_
  refine s_cvi1 (pc := 678) (c2) ml_L_72 mw_X7_come rfl (by omega) (Nat.le_of_ble_eq_true rfl) dL_law_678 ?_
  refine s_icmp_eq (pc := 681) 1389 dL_law_681 (by decide) (fun c_681 => ?_) (fun c_681 => ?_)
  · exact k h2 i2
  · exfalso; exact c_681 rfl
set_option maxRecDepth 20000 in
theorem law_leave {E : Cx} {n t : Nat} {xs : Nat → Int32} {h : Hp} (hX : ScE E n xs) (hn : n < 1000) (ht : 6 * t + 6 ≤ n) (i : Inv h) (k : ∀ h, Inv h → WW E cL_law RL 4 25 1389 [.ref 66, .ref 0, .ref 50, .int (nI (6 * t))] h []) : WW E cL_law RL 4 25 686 [.ref 66, .ref 0, .ref 50, .int (nI (6 * t))] h [] := by
  obtain ⟨d1, d2, v, h1, h2, e1, e2, c1, c2, i2⟩ := p_leave i (xs (6 * t + 1))
  refine s_aload_n (pc := 686) 1 rfl rfl dL_law_686 ?_
  refine s_aload_n (pc := 687) 0 rfl rfl dL_law_687 ?_
  refine s_iload_n (pc := 688) 3 rfl rfl dL_law_688 ?_
  refine s_iconst (pc := 689) (k_i1N) dL_law_689 ?_
  refine s_iaddN (pc := 690) dL_law_690 ?_
  refine s_sald (pc := 691) hX (_) rfl (by omega) hn dL_law_691 ?_
  refine s_cvi1 (pc := 692) (c1) ml_L_73 mw_X6_leave rfl (by omega) (Nat.le_of_ble_eq_true rfl) dL_law_692 ?_
  refine s_aload_n (pc := 695) 2 rfl rfl dL_law_695 ?_
  refine s_aload_n (pc := 696) 0 rfl rfl dL_law_696 ?_
  refine s_iload_n (pc := 697) 3 rfl rfl dL_law_697 ?_
  refine s_iconst (pc := 698) (k_i1N) dL_law_698 ?_
  refine s_iaddN (pc := 699) dL_law_699 ?_
  refine s_sald (pc := 700) hX (_) rfl (by omega) hn dL_law_700 ?_
  refine s_cvi1 (pc := 701) (c2) ml_L_76 mw_X7_leave rfl (by omega) (Nat.le_of_ble_eq_true rfl) dL_law_701 ?_
  refine s_icmp_eq (pc := 704) 1389 dL_law_704 (by decide) (fun c_704 => ?_) (fun c_704 => ?_)
  · exact k h2 i2
  · exfalso; exact c_704 rfl
set_option maxRecDepth 20000 in
theorem law_pay {E : Cx} {n t : Nat} {xs : Nat → Int32} {h : Hp} (hX : ScE E n xs) (hn : n < 1000) (ht : 6 * t + 6 ≤ n) (i : Inv h) (k : ∀ h, Inv h → WW E cL_law RL 4 25 1389 [.ref 66, .ref 0, .ref 50, .int (nI (6 * t))] h []) : WW E cL_law RL 4 25 709 [.ref 66, .ref 0, .ref 50, .int (nI (6 * t))] h [] := by
  obtain ⟨d1, d2, v, h1, h2, e1, e2, c1, c2, i2⟩ := p_pay i (xs (6 * t + 1))
  refine s_aload_n (pc := 709) 1 rfl rfl dL_law_709 ?_
  refine s_aload_n (pc := 710) 0 rfl rfl dL_law_710 ?_
  refine s_iload_n (pc := 711) 3 rfl rfl dL_law_711 ?_
  refine s_iconst (pc := 712) (k_i1N) dL_law_712 ?_
  refine s_iaddN (pc := 713) dL_law_713 ?_
  refine s_sald (pc := 714) hX (_) rfl (by omega) hn dL_law_714 ?_
  refine s_cvi1 (pc := 715) (c1) ml_L_77 mw_X6_pay rfl (by omega) (Nat.le_of_ble_eq_true rfl) dL_law_715 ?_
  refine s_aload_n (pc := 718) 2 rfl rfl dL_law_718 ?_
  refine s_aload_n (pc := 719) 0 rfl rfl dL_law_719 ?_
  refine s_iload_n (pc := 720) 3 rfl rfl dL_law_720 ?_
  refine s_iconst (pc := 721) (k_i1N) dL_law_721 ?_
  refine s_iaddN (pc := 722) dL_law_722 ?_
  refine s_sald (pc := 723) hX (_) rfl (by omega) hn dL_law_723 ?_
  refine s_cvi1 (pc := 724) (c2) ml_L_80 mw_X7_pay rfl (by omega) (Nat.le_of_ble_eq_true rfl) dL_law_724 ?_
  refine s_icmp_eq (pc := 727) 1389 dL_law_727 (by decide) (fun c_727 => ?_) (fun c_727 => ?_)
  · exact k h2 i2
  · exfalso; exact c_727 rfl
set_option maxRecDepth 20000 in
theorem law_tea {E : Cx} {n t : Nat} {xs : Nat → Int32} {h : Hp} (hX : ScE E n xs) (hn : n < 1000) (ht : 6 * t + 6 ≤ n) (i : Inv h) (k : ∀ h, Inv h → WW E cL_law RL 4 25 1389 [.ref 66, .ref 0, .ref 50, .int (nI (6 * t))] h []) : WW E cL_law RL 4 25 732 [.ref 66, .ref 0, .ref 50, .int (nI (6 * t))] h [] := by
  obtain ⟨d1, d2, v, h1, h2, e1, e2, c1, c2, i2⟩ := p_tea i (xs (6 * t + 1))
  refine s_aload_n (pc := 732) 1 rfl rfl dL_law_732 ?_
  refine s_aload_n (pc := 733) 0 rfl rfl dL_law_733 ?_
  refine s_iload_n (pc := 734) 3 rfl rfl dL_law_734 ?_
  refine s_iconst (pc := 735) (k_i1N) dL_law_735 ?_
  refine s_iaddN (pc := 736) dL_law_736 ?_
  refine s_sald (pc := 737) hX (_) rfl (by omega) hn dL_law_737 ?_
  refine s_cvi1 (pc := 738) (c1) ml_L_81 mw_X6_tea rfl (by omega) (Nat.le_of_ble_eq_true rfl) dL_law_738 ?_
  refine s_aload_n (pc := 741) 2 rfl rfl dL_law_741 ?_
  refine s_aload_n (pc := 742) 0 rfl rfl dL_law_742 ?_
  refine s_iload_n (pc := 743) 3 rfl rfl dL_law_743 ?_
  refine s_iconst (pc := 744) (k_i1N) dL_law_744 ?_
  refine s_iaddN (pc := 745) dL_law_745 ?_
  refine s_sald (pc := 746) hX (_) rfl (by omega) hn dL_law_746 ?_
  refine s_cvi1 (pc := 747) (c2) ml_L_84 mw_X7_tea rfl (by omega) (Nat.le_of_ble_eq_true rfl) dL_law_747 ?_
  refine s_icmp_eq (pc := 750) 1389 dL_law_750 (by decide) (fun c_750 => ?_) (fun c_750 => ?_)
  · exact k h2 i2
  · exfalso; exact c_750 rfl
set_option maxRecDepth 20000 in
theorem law_tide {E : Cx} {n t : Nat} {xs : Nat → Int32} {h : Hp} (hX : ScE E n xs) (hn : n < 1000) (ht : 6 * t + 6 ≤ n) (i : Inv h) (k : ∀ h, Inv h → WW E cL_law RL 4 25 1389 [.ref 66, .ref 0, .ref 50, .int (nI (6 * t))] h []) : WW E cL_law RL 4 25 755 [.ref 66, .ref 0, .ref 50, .int (nI (6 * t))] h [] := by
  obtain ⟨d1, d2, v, h1, h2, e1, e2, c1, c2, i2⟩ := p_tide i
  refine s_aload_n (pc := 755) 1 rfl rfl dL_law_755 ?_
  refine s_cvi0 (pc := 756) (c1) ml_L_85 mw_X6_tide rfl (by omega) (Nat.le_of_ble_eq_true rfl) dL_law_756 ?_
  refine s_aload_n (pc := 759) 2 rfl rfl dL_law_759 ?_
  refine s_cvi0 (pc := 760) (c2) ml_L_89 mw_X7_tide rfl (by omega) (Nat.le_of_ble_eq_true rfl) dL_law_760 ?_
  refine s_icmp_eq (pc := 763) 1389 dL_law_763 (by decide) (fun c_763 => ?_) (fun c_763 => ?_)
  · exact k h2 i2
  · exfalso; exact c_763 rfl
set_option maxRecDepth 20000 in
theorem law_year {E : Cx} {n t : Nat} {xs : Nat → Int32} {h : Hp} (hX : ScE E n xs) (hn : n < 1000) (ht : 6 * t + 6 ≤ n) (i : Inv h) (k : ∀ h, Inv h → WW E cL_law RL 4 25 1389 [.ref 66, .ref 0, .ref 50, .int (nI (6 * t))] h []) : WW E cL_law RL 4 25 768 [.ref 66, .ref 0, .ref 50, .int (nI (6 * t))] h [] := by
  obtain ⟨d1, d2, v, h1, h2, e1, e2, c1, c2, i2⟩ := p_year i
  refine s_aload_n (pc := 768) 1 rfl rfl dL_law_768 ?_
  refine s_cvi0 (pc := 769) (c1) ml_L_90 mw_X6_year rfl (by omega) (Nat.le_of_ble_eq_true rfl) dL_law_769 ?_
  refine s_aload_n (pc := 772) 2 rfl rfl dL_law_772 ?_
  refine s_cvi0 (pc := 773) (c2) ml_L_93 mw_X7_year rfl (by omega) (Nat.le_of_ble_eq_true rfl) dL_law_773 ?_
  refine s_icmp_eq (pc := 776) 1389 dL_law_776 (by decide) (fun c_776 => ?_) (fun c_776 => ?_)
  · exact k h2 i2
  · exfalso; exact c_776 rfl
set_option maxRecDepth 20000 in
theorem law_undo {E : Cx} {n t : Nat} {xs : Nat → Int32} {h : Hp} (hX : ScE E n xs) (hn : n < 1000) (ht : 6 * t + 6 ≤ n) (i : Inv h) (k : ∀ h, Inv h → WW E cL_law RL 4 25 1389 [.ref 66, .ref 0, .ref 50, .int (nI (6 * t))] h []) : WW E cL_law RL 4 25 781 [.ref 66, .ref 0, .ref 50, .int (nI (6 * t))] h [] := by
  obtain ⟨d1, d2, v, h1, h2, e1, e2, c1, c2, i2⟩ := p_undo i (xs (6 * t + 1))
  refine s_aload_n (pc := 781) 1 rfl rfl dL_law_781 ?_
  refine s_aload_n (pc := 782) 0 rfl rfl dL_law_782 ?_
  refine s_iload_n (pc := 783) 3 rfl rfl dL_law_783 ?_
  refine s_iconst (pc := 784) (k_i1N) dL_law_784 ?_
  refine s_iaddN (pc := 785) dL_law_785 ?_
  refine s_sald (pc := 786) hX (_) rfl (by omega) hn dL_law_786 ?_
  refine s_cvi1 (pc := 787) (c1) ml_L_94 mw_X6_undo rfl (by omega) (Nat.le_of_ble_eq_true rfl) dL_law_787 ?_
  refine s_aload_n (pc := 790) 2 rfl rfl dL_law_790 ?_
  refine s_aload_n (pc := 791) 0 rfl rfl dL_law_791 ?_
  refine s_iload_n (pc := 792) 3 rfl rfl dL_law_792 ?_
  refine s_iconst (pc := 793) (k_i1N) dL_law_793 ?_
  refine s_iaddN (pc := 794) dL_law_794 ?_
  refine s_sald (pc := 795) hX (_) rfl (by omega) hn dL_law_795 ?_
  refine s_cvi1 (pc := 796) (c2) ml_L_97 mw_X7_undo rfl (by omega) (Nat.le_of_ble_eq_true rfl) dL_law_796 ?_
  refine s_icmp_eq (pc := 799) 1389 dL_law_799 (by decide) (fun c_799 => ?_) (fun c_799 => ?_)
  · exact k h2 i2
  · exfalso; exact c_799 rfl
set_option maxRecDepth 20000 in
theorem law_keep {E : Cx} {n t : Nat} {xs : Nat → Int32} {h : Hp} (hX : ScE E n xs) (hn : n < 1000) (ht : 6 * t + 6 ≤ n) (i : Inv h) (k : ∀ h, Inv h → WW E cL_law RL 4 25 1389 [.ref 66, .ref 0, .ref 50, .int (nI (6 * t))] h []) : WW E cL_law RL 4 25 804 [.ref 66, .ref 0, .ref 50, .int (nI (6 * t))] h [] := by
  obtain ⟨d1, d2, v, h1, h2, e1, e2, c1, c2, i2⟩ := p_keep i (xs (6 * t + 1))
  refine s_aload_n (pc := 804) 1 rfl rfl dL_law_804 ?_
  refine s_aload_n (pc := 805) 0 rfl rfl dL_law_805 ?_
  refine s_iload_n (pc := 806) 3 rfl rfl dL_law_806 ?_
  refine s_iconst (pc := 807) (k_i1N) dL_law_807 ?_
  refine s_iaddN (pc := 808) dL_law_808 ?_
  refine s_sald (pc := 809) hX (_) rfl (by omega) hn dL_law_809 ?_
  refine s_cvi1 (pc := 810) (c1) ml_L_98 mw_X6_keep rfl (by omega) (Nat.le_of_ble_eq_true rfl) dL_law_810 ?_
  refine s_aload_n (pc := 813) 2 rfl rfl dL_law_813 ?_
  refine s_aload_n (pc := 814) 0 rfl rfl dL_law_814 ?_
  refine s_iload_n (pc := 815) 3 rfl rfl dL_law_815 ?_
  refine s_iconst (pc := 816) (k_i1N) dL_law_816 ?_
  refine s_iaddN (pc := 817) dL_law_817 ?_
  refine s_sald (pc := 818) hX (_) rfl (by omega) hn dL_law_818 ?_
  refine s_cvi1 (pc := 819) (c2) ml_L_101 mw_X7_keep rfl (by omega) (Nat.le_of_ble_eq_true rfl) dL_law_819 ?_
  refine s_icmp_eq (pc := 822) 1389 dL_law_822 (by decide) (fun c_822 => ?_) (fun c_822 => ?_)
  · exact k h2 i2
  · exfalso; exact c_822 rfl
set_option maxRecDepth 20000 in
theorem law_on {E : Cx} {n t : Nat} {xs : Nat → Int32} {h : Hp} (hX : ScE E n xs) (hn : n < 1000) (ht : 6 * t + 6 ≤ n) (i : Inv h) (k : ∀ h, Inv h → WW E cL_law RL 4 25 1389 [.ref 66, .ref 0, .ref 50, .int (nI (6 * t))] h []) : WW E cL_law RL 4 25 827 [.ref 66, .ref 0, .ref 50, .int (nI (6 * t))] h [] := by
  obtain ⟨d1, d2, v, h1, h2, e1, e2, c1, c2, i2⟩ := p_on i (xs (6 * t + 1))
  refine s_aload_n (pc := 827) 1 rfl rfl dL_law_827 ?_
  refine s_aload_n (pc := 828) 0 rfl rfl dL_law_828 ?_
  refine s_iload_n (pc := 829) 3 rfl rfl dL_law_829 ?_
  refine s_iconst (pc := 830) (k_i1N) dL_law_830 ?_
  refine s_iaddN (pc := 831) dL_law_831 ?_
  refine s_sald (pc := 832) hX (_) rfl (by omega) hn dL_law_832 ?_
  refine s_cvi1 (pc := 833) (c1) ml_L_102 mw_X6_on rfl (by omega) (Nat.le_of_ble_eq_true rfl) dL_law_833 ?_
  refine s_aload_n (pc := 836) 2 rfl rfl dL_law_836 ?_
  refine s_aload_n (pc := 837) 0 rfl rfl dL_law_837 ?_
  refine s_iload_n (pc := 838) 3 rfl rfl dL_law_838 ?_
  refine s_iconst (pc := 839) (k_i1N) dL_law_839 ?_
  refine s_iaddN (pc := 840) dL_law_840 ?_
  refine s_sald (pc := 841) hX (_) rfl (by omega) hn dL_law_841 ?_
  refine s_cvi1 (pc := 842) (c2) ml_L_105 mw_X7_on rfl (by omega) (Nat.le_of_ble_eq_true rfl) dL_law_842 ?_
  refine s_icmp_eq (pc := 845) 1389 dL_law_845 (by decide) (fun c_845 => ?_) (fun c_845 => ?_)
  · exact k h2 i2
  · exfalso; exact c_845 rfl
set_option maxRecDepth 20000 in
theorem law_berths {E : Cx} {n t : Nat} {xs : Nat → Int32} {h : Hp} (hX : ScE E n xs) (hn : n < 1000) (ht : 6 * t + 6 ≤ n) (i : Inv h) (k : ∀ h, Inv h → WW E cL_law RL 4 25 1389 [.ref 66, .ref 0, .ref 50, .int (nI (6 * t))] h []) : WW E cL_law RL 4 25 850 [.ref 66, .ref 0, .ref 50, .int (nI (6 * t))] h [] := by
  obtain ⟨d1, d2, v, h1, h2, e1, e2, c1, c2, i2⟩ := p_berths i (xs (6 * t + 1))
  refine s_aload_n (pc := 850) 1 rfl rfl dL_law_850 ?_
  refine s_aload_n (pc := 851) 0 rfl rfl dL_law_851 ?_
  refine s_iload_n (pc := 852) 3 rfl rfl dL_law_852 ?_
  refine s_iconst (pc := 853) (k_i1N) dL_law_853 ?_
  refine s_iaddN (pc := 854) dL_law_854 ?_
  refine s_sald (pc := 855) hX (_) rfl (by omega) hn dL_law_855 ?_
  refine s_cvi1 (pc := 856) (c1) ml_L_106 mw_X6_berths rfl (by omega) (Nat.le_of_ble_eq_true rfl) dL_law_856 ?_
  refine s_aload_n (pc := 859) 2 rfl rfl dL_law_859 ?_
  refine s_aload_n (pc := 860) 0 rfl rfl dL_law_860 ?_
  refine s_iload_n (pc := 861) 3 rfl rfl dL_law_861 ?_
  refine s_iconst (pc := 862) (k_i1N) dL_law_862 ?_
  refine s_iaddN (pc := 863) dL_law_863 ?_
  refine s_sald (pc := 864) hX (_) rfl (by omega) hn dL_law_864 ?_
  refine s_cvi1 (pc := 865) (c2) ml_L_109 mw_X7_berths rfl (by omega) (Nat.le_of_ble_eq_true rfl) dL_law_865 ?_
  refine s_icmp_eq (pc := 868) 1389 dL_law_868 (by decide) (fun c_868 => ?_) (fun c_868 => ?_)
  · exact k h2 i2
  · exfalso; exact c_868 rfl
set_option maxRecDepth 20000 in
theorem law_hours {E : Cx} {n t : Nat} {xs : Nat → Int32} {h : Hp} (hX : ScE E n xs) (hn : n < 1000) (ht : 6 * t + 6 ≤ n) (i : Inv h) (k : ∀ h, Inv h → WW E cL_law RL 4 25 1389 [.ref 66, .ref 0, .ref 50, .int (nI (6 * t))] h []) : WW E cL_law RL 4 25 873 [.ref 66, .ref 0, .ref 50, .int (nI (6 * t))] h [] := by
  obtain ⟨d1, d2, v, h1, h2, e1, e2, c1, c2, i2⟩ := p_hours i (xs (6 * t + 1))
  refine s_aload_n (pc := 873) 1 rfl rfl dL_law_873 ?_
  refine s_aload_n (pc := 874) 0 rfl rfl dL_law_874 ?_
  refine s_iload_n (pc := 875) 3 rfl rfl dL_law_875 ?_
  refine s_iconst (pc := 876) (k_i1N) dL_law_876 ?_
  refine s_iaddN (pc := 877) dL_law_877 ?_
  refine s_sald (pc := 878) hX (_) rfl (by omega) hn dL_law_878 ?_
  refine s_cvi1 (pc := 879) (c1) ml_L_110 mw_X6_hours rfl (by omega) (Nat.le_of_ble_eq_true rfl) dL_law_879 ?_
  refine s_aload_n (pc := 882) 2 rfl rfl dL_law_882 ?_
  refine s_aload_n (pc := 883) 0 rfl rfl dL_law_883 ?_
  refine s_iload_n (pc := 884) 3 rfl rfl dL_law_884 ?_
  refine s_iconst (pc := 885) (k_i1N) dL_law_885 ?_
  refine s_iaddN (pc := 886) dL_law_886 ?_
  refine s_sald (pc := 887) hX (_) rfl (by omega) hn dL_law_887 ?_
  refine s_cvi1 (pc := 888) (c2) ml_L_113 mw_X7_hours rfl (by omega) (Nat.le_of_ble_eq_true rfl) dL_law_888 ?_
  refine s_icmp_eq (pc := 891) 1389 dL_law_891 (by decide) (fun c_891 => ?_) (fun c_891 => ?_)
  · exact k h2 i2
  · exfalso; exact c_891 rfl
set_option maxRecDepth 20000 in
theorem law_ground {E : Cx} {n t : Nat} {xs : Nat → Int32} {h : Hp} (hX : ScE E n xs) (hn : n < 1000) (ht : 6 * t + 6 ≤ n) (i : Inv h) (k : ∀ h, Inv h → WW E cL_law RL 4 25 1389 [.ref 66, .ref 0, .ref 50, .int (nI (6 * t))] h []) : WW E cL_law RL 4 25 896 [.ref 66, .ref 0, .ref 50, .int (nI (6 * t))] h [] := by
  obtain ⟨d1, d2, v, h1, h2, e1, e2, c1, c2, i2⟩ := p_ground i
  refine s_aload_n (pc := 896) 1 rfl rfl dL_law_896 ?_
  refine s_cvi0 (pc := 897) (c1) ml_L_114 mw_X6_ground rfl (by omega) (Nat.le_of_ble_eq_true rfl) dL_law_897 ?_
  refine s_aload_n (pc := 900) 2 rfl rfl dL_law_900 ?_
  refine s_cvi0 (pc := 901) (c2) ml_L_117 mw_X7_ground rfl (by omega) (Nat.le_of_ble_eq_true rfl) dL_law_901 ?_
  refine s_icmp_eq (pc := 904) 1389 dL_law_904 (by decide) (fun c_904 => ?_) (fun c_904 => ?_)
  · exact k h2 i2
  · exfalso; exact c_904 rfl
set_option maxRecDepth 20000 in
theorem law_enter {E : Cx} {n t : Nat} {xs : Nat → Int32} {h : Hp} (hX : ScE E n xs) (hn : n < 1000) (ht : 6 * t + 6 ≤ n) (i : Inv h) (k : ∀ h, Inv h → WW E cL_law RL 4 25 1389 [.ref 66, .ref 0, .ref 50, .int (nI (6 * t))] h []) : WW E cL_law RL 4 25 909 [.ref 66, .ref 0, .ref 50, .int (nI (6 * t))] h [] := by
  obtain ⟨d1, d2, v, h1, h2, e1, e2, c1, c2, i2⟩ := p_enter i (xs (6 * t + 1))
  refine s_aload_n (pc := 909) 1 rfl rfl dL_law_909 ?_
  refine s_aload_n (pc := 910) 0 rfl rfl dL_law_910 ?_
  refine s_iload_n (pc := 911) 3 rfl rfl dL_law_911 ?_
  refine s_iconst (pc := 912) (k_i1N) dL_law_912 ?_
  refine s_iaddN (pc := 913) dL_law_913 ?_
  refine s_sald (pc := 914) hX (_) rfl (by omega) hn dL_law_914 ?_
  refine s_cvi1 (pc := 915) (c1) ml_L_118 mw_X6_enter rfl (by omega) (Nat.le_of_ble_eq_true rfl) dL_law_915 ?_
  refine s_aload_n (pc := 918) 2 rfl rfl dL_law_918 ?_
  refine s_aload_n (pc := 919) 0 rfl rfl dL_law_919 ?_
  refine s_iload_n (pc := 920) 3 rfl rfl dL_law_920 ?_
  refine s_iconst (pc := 921) (k_i1N) dL_law_921 ?_
  refine s_iaddN (pc := 922) dL_law_922 ?_
  refine s_sald (pc := 923) hX (_) rfl (by omega) hn dL_law_923 ?_
  refine s_cvi1 (pc := 924) (c2) ml_L_121 mw_X7_enter rfl (by omega) (Nat.le_of_ble_eq_true rfl) dL_law_924 ?_
  refine s_icmp_eq (pc := 927) 1389 dL_law_927 (by decide) (fun c_927 => ?_) (fun c_927 => ?_)
  · exact k h2 i2
  · exfalso; exact c_927 rfl
set_option maxRecDepth 20000 in
theorem law_order {E : Cx} {n t : Nat} {xs : Nat → Int32} {h : Hp} (hX : ScE E n xs) (hn : n < 1000) (ht : 6 * t + 6 ≤ n) (i : Inv h) (k : ∀ h, Inv h → WW E cL_law RL 4 25 1389 [.ref 66, .ref 0, .ref 50, .int (nI (6 * t))] h []) : WW E cL_law RL 4 25 932 [.ref 66, .ref 0, .ref 50, .int (nI (6 * t))] h [] := by
  obtain ⟨d1, d2, v, h1, h2, e1, e2, c1, c2, i2⟩ := p_order i (xs (6 * t + 1))
  refine s_aload_n (pc := 932) 1 rfl rfl dL_law_932 ?_
  refine s_aload_n (pc := 933) 0 rfl rfl dL_law_933 ?_
  refine s_iload_n (pc := 934) 3 rfl rfl dL_law_934 ?_
  refine s_iconst (pc := 935) (k_i1N) dL_law_935 ?_
  refine s_iaddN (pc := 936) dL_law_936 ?_
  refine s_sald (pc := 937) hX (_) rfl (by omega) hn dL_law_937 ?_
  refine s_cvi1 (pc := 938) (c1) ml_L_122 mw_X6_order rfl (by omega) (Nat.le_of_ble_eq_true rfl) dL_law_938 ?_
  refine s_aload_n (pc := 941) 2 rfl rfl dL_law_941 ?_
  refine s_aload_n (pc := 942) 0 rfl rfl dL_law_942 ?_
  refine s_iload_n (pc := 943) 3 rfl rfl dL_law_943 ?_
  refine s_iconst (pc := 944) (k_i1N) dL_law_944 ?_
  refine s_iaddN (pc := 945) dL_law_945 ?_
  refine s_sald (pc := 946) hX (_) rfl (by omega) hn dL_law_946 ?_
  refine s_cvi1 (pc := 947) (c2) ml_L_125 mw_X7_order rfl (by omega) (Nat.le_of_ble_eq_true rfl) dL_law_947 ?_
  refine s_icmp_eq (pc := 950) 1389 dL_law_950 (by decide) (fun c_950 => ?_) (fun c_950 => ?_)
  · exact k h2 i2
  · exfalso; exact c_950 rfl
set_option maxRecDepth 20000 in
theorem law_when {E : Cx} {n t : Nat} {xs : Nat → Int32} {h : Hp} (hX : ScE E n xs) (hn : n < 1000) (ht : 6 * t + 6 ≤ n) (i : Inv h) (k : ∀ h, Inv h → WW E cL_law RL 4 25 1389 [.ref 66, .ref 0, .ref 50, .int (nI (6 * t))] h []) : WW E cL_law RL 4 25 955 [.ref 66, .ref 0, .ref 50, .int (nI (6 * t))] h [] := by
  obtain ⟨d1, d2, v, h1, h2, e1, e2, c1, c2, i2⟩ := p_when i (xs (6 * t + 1)) (xs (6 * t + 2))
  refine s_aload_n (pc := 955) 1 rfl rfl dL_law_955 ?_
  refine s_aload_n (pc := 956) 0 rfl rfl dL_law_956 ?_
  refine s_iload_n (pc := 957) 3 rfl rfl dL_law_957 ?_
  refine s_iconst (pc := 958) (k_i1N) dL_law_958 ?_
  refine s_iaddN (pc := 959) dL_law_959 ?_
  refine s_sald (pc := 960) hX (_) rfl (by omega) hn dL_law_960 ?_
  refine s_aload_n (pc := 961) 0 rfl rfl dL_law_961 ?_
  refine s_iload_n (pc := 962) 3 rfl rfl dL_law_962 ?_
  refine s_iconst (pc := 963) (k_i2N) dL_law_963 ?_
  refine s_iaddN (pc := 964) dL_law_964 ?_
  refine s_sald (pc := 965) hX (_) rfl (by omega) hn dL_law_965 ?_
  refine s_cvi2 (pc := 966) (c1) ml_L_126 mw_X6_when rfl (by omega) (Nat.le_of_ble_eq_true rfl) dL_law_966 ?_
  refine s_aload_n (pc := 969) 2 rfl rfl dL_law_969 ?_
  refine s_aload_n (pc := 970) 0 rfl rfl dL_law_970 ?_
  refine s_iload_n (pc := 971) 3 rfl rfl dL_law_971 ?_
  refine s_iconst (pc := 972) (k_i1N) dL_law_972 ?_
  refine s_iaddN (pc := 973) dL_law_973 ?_
  refine s_sald (pc := 974) hX (_) rfl (by omega) hn dL_law_974 ?_
  refine s_aload_n (pc := 975) 0 rfl rfl dL_law_975 ?_
  refine s_iload_n (pc := 976) 3 rfl rfl dL_law_976 ?_
  refine s_iconst (pc := 977) (k_i2N) dL_law_977 ?_
  refine s_iaddN (pc := 978) dL_law_978 ?_
  refine s_sald (pc := 979) hX (_) rfl (by omega) hn dL_law_979 ?_
  refine s_cvi2 (pc := 980) (c2) ml_L_129 mw_X7_when rfl (by omega) (Nat.le_of_ble_eq_true rfl) dL_law_980 ?_
  refine s_icmp_eq (pc := 983) 1389 dL_law_983 (by decide) (fun c_983 => ?_) (fun c_983 => ?_)
  · exact k h2 i2
  · exfalso; exact c_983 rfl
set_option maxRecDepth 20000 in
theorem law_built {E : Cx} {n t : Nat} {xs : Nat → Int32} {h : Hp} (hX : ScE E n xs) (hn : n < 1000) (ht : 6 * t + 6 ≤ n) (i : Inv h) (k : ∀ h, Inv h → WW E cL_law RL 4 25 1389 [.ref 66, .ref 0, .ref 50, .int (nI (6 * t))] h []) : WW E cL_law RL 4 25 988 [.ref 66, .ref 0, .ref 50, .int (nI (6 * t))] h [] := by
  obtain ⟨d1, d2, v, h1, h2, e1, e2, c1, c2, i2⟩ := p_built i (xs (6 * t + 1)) (xs (6 * t + 2))
  refine s_aload_n (pc := 988) 1 rfl rfl dL_law_988 ?_
  refine s_aload_n (pc := 989) 0 rfl rfl dL_law_989 ?_
  refine s_iload_n (pc := 990) 3 rfl rfl dL_law_990 ?_
  refine s_iconst (pc := 991) (k_i1N) dL_law_991 ?_
  refine s_iaddN (pc := 992) dL_law_992 ?_
  refine s_sald (pc := 993) hX (_) rfl (by omega) hn dL_law_993 ?_
  refine s_aload_n (pc := 994) 0 rfl rfl dL_law_994 ?_
  refine s_iload_n (pc := 995) 3 rfl rfl dL_law_995 ?_
  refine s_iconst (pc := 996) (k_i2N) dL_law_996 ?_
  refine s_iaddN (pc := 997) dL_law_997 ?_
  refine s_sald (pc := 998) hX (_) rfl (by omega) hn dL_law_998 ?_
  refine s_cvi2 (pc := 999) (c1) ml_L_130 mw_X6_built rfl (by omega) (Nat.le_of_ble_eq_true rfl) dL_law_999 ?_
  refine s_aload_n (pc := 1002) 2 rfl rfl dL_law_1002 ?_
  refine s_aload_n (pc := 1003) 0 rfl rfl dL_law_1003 ?_
  refine s_iload_n (pc := 1004) 3 rfl rfl dL_law_1004 ?_
  refine s_iconst (pc := 1005) (k_i1N) dL_law_1005 ?_
  refine s_iaddN (pc := 1006) dL_law_1006 ?_
  refine s_sald (pc := 1007) hX (_) rfl (by omega) hn dL_law_1007 ?_
  refine s_aload_n (pc := 1008) 0 rfl rfl dL_law_1008 ?_
  refine s_iload_n (pc := 1009) 3 rfl rfl dL_law_1009 ?_
  refine s_iconst (pc := 1010) (k_i2N) dL_law_1010 ?_
  refine s_iaddN (pc := 1011) dL_law_1011 ?_
  refine s_sald (pc := 1012) hX (_) rfl (by omega) hn dL_law_1012 ?_
  refine s_cvi2 (pc := 1013) (c2) ml_L_133 mw_X7_built rfl (by omega) (Nat.le_of_ble_eq_true rfl) dL_law_1013 ?_
  refine s_icmp_eq (pc := 1016) 1389 dL_law_1016 (by decide) (fun c_1016 => ?_) (fun c_1016 => ?_)
  · exact k h2 i2
  · exfalso; exact c_1016 rfl
set_option maxRecDepth 20000 in
theorem law_least {E : Cx} {n t : Nat} {xs : Nat → Int32} {h : Hp} (hX : ScE E n xs) (hn : n < 1000) (ht : 6 * t + 6 ≤ n) (i : Inv h) (k : ∀ h, Inv h → WW E cL_law RL 4 25 1389 [.ref 66, .ref 0, .ref 50, .int (nI (6 * t))] h []) : WW E cL_law RL 4 25 1021 [.ref 66, .ref 0, .ref 50, .int (nI (6 * t))] h [] := by
  obtain ⟨d1, d2, v, h1, h2, e1, e2, c1, c2, i2⟩ := p_least i (xs (6 * t + 1)) (xs (6 * t + 2))
  refine s_aload_n (pc := 1021) 1 rfl rfl dL_law_1021 ?_
  refine s_aload_n (pc := 1022) 0 rfl rfl dL_law_1022 ?_
  refine s_iload_n (pc := 1023) 3 rfl rfl dL_law_1023 ?_
  refine s_iconst (pc := 1024) (k_i1N) dL_law_1024 ?_
  refine s_iaddN (pc := 1025) dL_law_1025 ?_
  refine s_sald (pc := 1026) hX (_) rfl (by omega) hn dL_law_1026 ?_
  refine s_aload_n (pc := 1027) 0 rfl rfl dL_law_1027 ?_
  refine s_iload_n (pc := 1028) 3 rfl rfl dL_law_1028 ?_
  refine s_iconst (pc := 1029) (k_i2N) dL_law_1029 ?_
  refine s_iaddN (pc := 1030) dL_law_1030 ?_
  refine s_sald (pc := 1031) hX (_) rfl (by omega) hn dL_law_1031 ?_
  refine s_cvi2 (pc := 1032) (c1) ml_L_134 mw_X6_least rfl (by omega) (Nat.le_of_ble_eq_true rfl) dL_law_1032 ?_
  refine s_aload_n (pc := 1035) 2 rfl rfl dL_law_1035 ?_
  refine s_aload_n (pc := 1036) 0 rfl rfl dL_law_1036 ?_
  refine s_iload_n (pc := 1037) 3 rfl rfl dL_law_1037 ?_
  refine s_iconst (pc := 1038) (k_i1N) dL_law_1038 ?_
  refine s_iaddN (pc := 1039) dL_law_1039 ?_
  refine s_sald (pc := 1040) hX (_) rfl (by omega) hn dL_law_1040 ?_
  refine s_aload_n (pc := 1041) 0 rfl rfl dL_law_1041 ?_
  refine s_iload_n (pc := 1042) 3 rfl rfl dL_law_1042 ?_
  refine s_iconst (pc := 1043) (k_i2N) dL_law_1043 ?_
  refine s_iaddN (pc := 1044) dL_law_1044 ?_
  refine s_sald (pc := 1045) hX (_) rfl (by omega) hn dL_law_1045 ?_
  refine s_cvi2 (pc := 1046) (c2) ml_L_137 mw_X7_least rfl (by omega) (Nat.le_of_ble_eq_true rfl) dL_law_1046 ?_
  refine s_icmp_eq (pc := 1049) 1389 dL_law_1049 (by decide) (fun c_1049 => ?_) (fun c_1049 => ?_)
  · exact k h2 i2
  · exfalso; exact c_1049 rfl
set_option maxRecDepth 20000 in
theorem law_wrong {E : Cx} {n t : Nat} {xs : Nat → Int32} {h : Hp} (hX : ScE E n xs) (hn : n < 1000) (ht : 6 * t + 6 ≤ n) (i : Inv h) (k : ∀ h, Inv h → WW E cL_law RL 4 25 1389 [.ref 66, .ref 0, .ref 50, .int (nI (6 * t))] h []) : WW E cL_law RL 4 25 1054 [.ref 66, .ref 0, .ref 50, .int (nI (6 * t))] h [] := by
  obtain ⟨d1, d2, v, h1, h2, e1, e2, c1, c2, i2⟩ := p_wrong i (xs (6 * t + 1))
  refine s_aload_n (pc := 1054) 1 rfl rfl dL_law_1054 ?_
  refine s_aload_n (pc := 1055) 0 rfl rfl dL_law_1055 ?_
  refine s_iload_n (pc := 1056) 3 rfl rfl dL_law_1056 ?_
  refine s_iconst (pc := 1057) (k_i1N) dL_law_1057 ?_
  refine s_iaddN (pc := 1058) dL_law_1058 ?_
  refine s_sald (pc := 1059) hX (_) rfl (by omega) hn dL_law_1059 ?_
  refine s_cvi1 (pc := 1060) (c1) ml_L_138 mw_X6_wrong rfl (by omega) (Nat.le_of_ble_eq_true rfl) dL_law_1060 ?_
  refine s_aload_n (pc := 1063) 2 rfl rfl dL_law_1063 ?_
  refine s_aload_n (pc := 1064) 0 rfl rfl dL_law_1064 ?_
  refine s_iload_n (pc := 1065) 3 rfl rfl dL_law_1065 ?_
  refine s_iconst (pc := 1066) (k_i1N) dL_law_1066 ?_
  refine s_iaddN (pc := 1067) dL_law_1067 ?_
  refine s_sald (pc := 1068) hX (_) rfl (by omega) hn dL_law_1068 ?_
  refine s_cvi1 (pc := 1069) (c2) ml_L_141 mw_X7_wrong rfl (by omega) (Nat.le_of_ble_eq_true rfl) dL_law_1069 ?_
  refine s_icmp_eq (pc := 1072) 1389 dL_law_1072 (by decide) (fun c_1072 => ?_) (fun c_1072 => ?_)
  · exact k h2 i2
  · exfalso; exact c_1072 rfl
set_option maxRecDepth 20000 in
theorem law_kinds {E : Cx} {n t : Nat} {xs : Nat → Int32} {h : Hp} (hX : ScE E n xs) (hn : n < 1000) (ht : 6 * t + 6 ≤ n) (i : Inv h) (k : ∀ h, Inv h → WW E cL_law RL 4 25 1389 [.ref 66, .ref 0, .ref 50, .int (nI (6 * t))] h []) : WW E cL_law RL 4 25 1077 [.ref 66, .ref 0, .ref 50, .int (nI (6 * t))] h [] := by
  obtain ⟨d1, d2, v, h1, h2, e1, e2, c1, c2, i2⟩ := p_kinds i (xs (6 * t + 1)) (xs (6 * t + 2))
  refine s_aload_n (pc := 1077) 1 rfl rfl dL_law_1077 ?_
  refine s_aload_n (pc := 1078) 0 rfl rfl dL_law_1078 ?_
  refine s_iload_n (pc := 1079) 3 rfl rfl dL_law_1079 ?_
  refine s_iconst (pc := 1080) (k_i1N) dL_law_1080 ?_
  refine s_iaddN (pc := 1081) dL_law_1081 ?_
  refine s_sald (pc := 1082) hX (_) rfl (by omega) hn dL_law_1082 ?_
  refine s_aload_n (pc := 1083) 0 rfl rfl dL_law_1083 ?_
  refine s_iload_n (pc := 1084) 3 rfl rfl dL_law_1084 ?_
  refine s_iconst (pc := 1085) (k_i2N) dL_law_1085 ?_
  refine s_iaddN (pc := 1086) dL_law_1086 ?_
  refine s_sald (pc := 1087) hX (_) rfl (by omega) hn dL_law_1087 ?_
  refine s_cvi2 (pc := 1088) (c1) ml_L_142 mw_X6_kinds rfl (by omega) (Nat.le_of_ble_eq_true rfl) dL_law_1088 ?_
  refine s_aload_n (pc := 1091) 2 rfl rfl dL_law_1091 ?_
  refine s_aload_n (pc := 1092) 0 rfl rfl dL_law_1092 ?_
  refine s_iload_n (pc := 1093) 3 rfl rfl dL_law_1093 ?_
  refine s_iconst (pc := 1094) (k_i1N) dL_law_1094 ?_
  refine s_iaddN (pc := 1095) dL_law_1095 ?_
  refine s_sald (pc := 1096) hX (_) rfl (by omega) hn dL_law_1096 ?_
  refine s_aload_n (pc := 1097) 0 rfl rfl dL_law_1097 ?_
  refine s_iload_n (pc := 1098) 3 rfl rfl dL_law_1098 ?_
  refine s_iconst (pc := 1099) (k_i2N) dL_law_1099 ?_
  refine s_iaddN (pc := 1100) dL_law_1100 ?_
  refine s_sald (pc := 1101) hX (_) rfl (by omega) hn dL_law_1101 ?_
  refine s_cvi2 (pc := 1102) (c2) ml_L_145 mw_X7_kinds rfl (by omega) (Nat.le_of_ble_eq_true rfl) dL_law_1102 ?_
  refine s_icmp_eq (pc := 1105) 1389 dL_law_1105 (by decide) (fun c_1105 => ?_) (fun c_1105 => ?_)
  · exact k h2 i2
  · exfalso; exact c_1105 rfl
set_option maxRecDepth 20000 in
theorem law_test {E : Cx} {n t : Nat} {xs : Nat → Int32} {h : Hp} (hX : ScE E n xs) (hn : n < 1000) (ht : 6 * t + 6 ≤ n) (i : Inv h) (k : ∀ h, Inv h → WW E cL_law RL 4 25 1389 [.ref 66, .ref 0, .ref 50, .int (nI (6 * t))] h []) : WW E cL_law RL 4 25 1110 [.ref 66, .ref 0, .ref 50, .int (nI (6 * t))] h [] := by
  obtain ⟨d1, d2, v, h1, h2, e1, e2, c1, c2, i2⟩ := p_test i (xs (6 * t + 1)) (xs (6 * t + 2))
  refine s_aload_n (pc := 1110) 1 rfl rfl dL_law_1110 ?_
  refine s_aload_n (pc := 1111) 0 rfl rfl dL_law_1111 ?_
  refine s_iload_n (pc := 1112) 3 rfl rfl dL_law_1112 ?_
  refine s_iconst (pc := 1113) (k_i1N) dL_law_1113 ?_
  refine s_iaddN (pc := 1114) dL_law_1114 ?_
  refine s_sald (pc := 1115) hX (_) rfl (by omega) hn dL_law_1115 ?_
  refine s_aload_n (pc := 1116) 0 rfl rfl dL_law_1116 ?_
  refine s_iload_n (pc := 1117) 3 rfl rfl dL_law_1117 ?_
  refine s_iconst (pc := 1118) (k_i2N) dL_law_1118 ?_
  refine s_iaddN (pc := 1119) dL_law_1119 ?_
  refine s_sald (pc := 1120) hX (_) rfl (by omega) hn dL_law_1120 ?_
  refine s_cvi2 (pc := 1121) (c1) ml_L_146 mw_X6_test rfl (by omega) (Nat.le_of_ble_eq_true rfl) dL_law_1121 ?_
  refine s_aload_n (pc := 1124) 2 rfl rfl dL_law_1124 ?_
  refine s_aload_n (pc := 1125) 0 rfl rfl dL_law_1125 ?_
  refine s_iload_n (pc := 1126) 3 rfl rfl dL_law_1126 ?_
  refine s_iconst (pc := 1127) (k_i1N) dL_law_1127 ?_
  refine s_iaddN (pc := 1128) dL_law_1128 ?_
  refine s_sald (pc := 1129) hX (_) rfl (by omega) hn dL_law_1129 ?_
  refine s_aload_n (pc := 1130) 0 rfl rfl dL_law_1130 ?_
  refine s_iload_n (pc := 1131) 3 rfl rfl dL_law_1131 ?_
  refine s_iconst (pc := 1132) (k_i2N) dL_law_1132 ?_
  refine s_iaddN (pc := 1133) dL_law_1133 ?_
  refine s_sald (pc := 1134) hX (_) rfl (by omega) hn dL_law_1134 ?_
  refine s_cvi2 (pc := 1135) (c2) ml_L_149 mw_X7_test rfl (by omega) (Nat.le_of_ble_eq_true rfl) dL_law_1135 ?_
  refine s_icmp_eq (pc := 1138) 1389 dL_law_1138 (by decide) (fun c_1138 => ?_) (fun c_1138 => ?_)
  · exact k h2 i2
  · exfalso; exact c_1138 rfl
set_option maxRecDepth 20000 in
theorem law_duel {E : Cx} {n t : Nat} {xs : Nat → Int32} {h : Hp} (hX : ScE E n xs) (hn : n < 1000) (ht : 6 * t + 6 ≤ n) (i : Inv h) (k : ∀ h, Inv h → WW E cL_law RL 4 25 1389 [.ref 66, .ref 0, .ref 50, .int (nI (6 * t))] h []) : WW E cL_law RL 4 25 1143 [.ref 66, .ref 0, .ref 50, .int (nI (6 * t))] h [] := by
  obtain ⟨d1, d2, v, h1, h2, e1, e2, c1, c2, i2⟩ := p_duel i (xs (6 * t + 1))
  refine s_aload_n (pc := 1143) 1 rfl rfl dL_law_1143 ?_
  refine s_aload_n (pc := 1144) 0 rfl rfl dL_law_1144 ?_
  refine s_iload_n (pc := 1145) 3 rfl rfl dL_law_1145 ?_
  refine s_iconst (pc := 1146) (k_i1N) dL_law_1146 ?_
  refine s_iaddN (pc := 1147) dL_law_1147 ?_
  refine s_sald (pc := 1148) hX (_) rfl (by omega) hn dL_law_1148 ?_
  refine s_cvi1 (pc := 1149) (c1) ml_L_150 mw_X6_duel rfl (by omega) (Nat.le_of_ble_eq_true rfl) dL_law_1149 ?_
  refine s_aload_n (pc := 1152) 2 rfl rfl dL_law_1152 ?_
  refine s_aload_n (pc := 1153) 0 rfl rfl dL_law_1153 ?_
  refine s_iload_n (pc := 1154) 3 rfl rfl dL_law_1154 ?_
  refine s_iconst (pc := 1155) (k_i1N) dL_law_1155 ?_
  refine s_iaddN (pc := 1156) dL_law_1156 ?_
  refine s_sald (pc := 1157) hX (_) rfl (by omega) hn dL_law_1157 ?_
  refine s_cvi1 (pc := 1158) (c2) ml_L_153 mw_X7_duel rfl (by omega) (Nat.le_of_ble_eq_true rfl) dL_law_1158 ?_
  refine s_icmp_eq (pc := 1161) 1389 dL_law_1161 (by decide) (fun c_1161 => ?_) (fun c_1161 => ?_)
  · exact k h2 i2
  · exfalso; exact c_1161 rfl
set_option maxRecDepth 20000 in
theorem law_odds {E : Cx} {n t : Nat} {xs : Nat → Int32} {h : Hp} (hX : ScE E n xs) (hn : n < 1000) (ht : 6 * t + 6 ≤ n) (i : Inv h) (k : ∀ h, Inv h → WW E cL_law RL 4 25 1389 [.ref 66, .ref 0, .ref 50, .int (nI (6 * t))] h []) : WW E cL_law RL 4 25 1166 [.ref 66, .ref 0, .ref 50, .int (nI (6 * t))] h [] := by
  obtain ⟨d1, d2, v, h1, h2, e1, e2, c1, c2, i2⟩ := p_odds i (xs (6 * t + 1)) (xs (6 * t + 2)) (xs (6 * t + 3))
  refine s_aload_n (pc := 1166) 1 rfl rfl dL_law_1166 ?_
  refine s_aload_n (pc := 1167) 0 rfl rfl dL_law_1167 ?_
  refine s_iload_n (pc := 1168) 3 rfl rfl dL_law_1168 ?_
  refine s_iconst (pc := 1169) (k_i1N) dL_law_1169 ?_
  refine s_iaddN (pc := 1170) dL_law_1170 ?_
  refine s_sald (pc := 1171) hX (_) rfl (by omega) hn dL_law_1171 ?_
  refine s_aload_n (pc := 1172) 0 rfl rfl dL_law_1172 ?_
  refine s_iload_n (pc := 1173) 3 rfl rfl dL_law_1173 ?_
  refine s_iconst (pc := 1174) (k_i2N) dL_law_1174 ?_
  refine s_iaddN (pc := 1175) dL_law_1175 ?_
  refine s_sald (pc := 1176) hX (_) rfl (by omega) hn dL_law_1176 ?_
  refine s_aload_n (pc := 1177) 0 rfl rfl dL_law_1177 ?_
  refine s_iload_n (pc := 1178) 3 rfl rfl dL_law_1178 ?_
  refine s_iconst (pc := 1179) (k_i3N) dL_law_1179 ?_
  refine s_iaddN (pc := 1180) dL_law_1180 ?_
  refine s_sald (pc := 1181) hX (_) rfl (by omega) hn dL_law_1181 ?_
  refine s_cvi3 (pc := 1182) (c1) ml_L_154 mw_X6_odds rfl (by omega) (Nat.le_of_ble_eq_true rfl) dL_law_1182 ?_
  refine s_aload_n (pc := 1185) 2 rfl rfl dL_law_1185 ?_
  refine s_aload_n (pc := 1186) 0 rfl rfl dL_law_1186 ?_
  refine s_iload_n (pc := 1187) 3 rfl rfl dL_law_1187 ?_
  refine s_iconst (pc := 1188) (k_i1N) dL_law_1188 ?_
  refine s_iaddN (pc := 1189) dL_law_1189 ?_
  refine s_sald (pc := 1190) hX (_) rfl (by omega) hn dL_law_1190 ?_
  refine s_aload_n (pc := 1191) 0 rfl rfl dL_law_1191 ?_
  refine s_iload_n (pc := 1192) 3 rfl rfl dL_law_1192 ?_
  refine s_iconst (pc := 1193) (k_i2N) dL_law_1193 ?_
  refine s_iaddN (pc := 1194) dL_law_1194 ?_
  refine s_sald (pc := 1195) hX (_) rfl (by omega) hn dL_law_1195 ?_
  refine s_aload_n (pc := 1196) 0 rfl rfl dL_law_1196 ?_
  refine s_iload_n (pc := 1197) 3 rfl rfl dL_law_1197 ?_
  refine s_iconst (pc := 1198) (k_i3N) dL_law_1198 ?_
  refine s_iaddN (pc := 1199) dL_law_1199 ?_
  refine s_sald (pc := 1200) hX (_) rfl (by omega) hn dL_law_1200 ?_
  refine s_cvi3 (pc := 1201) (c2) ml_L_157 mw_X7_odds rfl (by omega) (Nat.le_of_ble_eq_true rfl) dL_law_1201 ?_
  refine s_icmp_eq (pc := 1204) 1389 dL_law_1204 (by decide) (fun c_1204 => ?_) (fun c_1204 => ?_)
  · exact k h2 i2
  · exfalso; exact c_1204 rfl
set_option maxRecDepth 20000 in
theorem law_mid {E : Cx} {n t : Nat} {xs : Nat → Int32} {h : Hp} (hX : ScE E n xs) (hn : n < 1000) (ht : 6 * t + 6 ≤ n) (i : Inv h) (k : ∀ h, Inv h → WW E cL_law RL 4 25 1389 [.ref 66, .ref 0, .ref 50, .int (nI (6 * t))] h []) : WW E cL_law RL 4 25 1209 [.ref 66, .ref 0, .ref 50, .int (nI (6 * t))] h [] := by
  obtain ⟨d1, d2, v, h1, h2, e1, e2, c1, c2, i2⟩ := p_mid i (xs (6 * t + 1)) (xs (6 * t + 2))
  refine s_aload_n (pc := 1209) 1 rfl rfl dL_law_1209 ?_
  refine s_aload_n (pc := 1210) 0 rfl rfl dL_law_1210 ?_
  refine s_iload_n (pc := 1211) 3 rfl rfl dL_law_1211 ?_
  refine s_iconst (pc := 1212) (k_i1N) dL_law_1212 ?_
  refine s_iaddN (pc := 1213) dL_law_1213 ?_
  refine s_sald (pc := 1214) hX (_) rfl (by omega) hn dL_law_1214 ?_
  refine s_aload_n (pc := 1215) 0 rfl rfl dL_law_1215 ?_
  refine s_iload_n (pc := 1216) 3 rfl rfl dL_law_1216 ?_
  refine s_iconst (pc := 1217) (k_i2N) dL_law_1217 ?_
  refine s_iaddN (pc := 1218) dL_law_1218 ?_
  refine s_sald (pc := 1219) hX (_) rfl (by omega) hn dL_law_1219 ?_
  refine s_cvi2 (pc := 1220) (c1) ml_L_158 mw_X6_mid rfl (by omega) (Nat.le_of_ble_eq_true rfl) dL_law_1220 ?_
  refine s_aload_n (pc := 1223) 2 rfl rfl dL_law_1223 ?_
  refine s_aload_n (pc := 1224) 0 rfl rfl dL_law_1224 ?_
  refine s_iload_n (pc := 1225) 3 rfl rfl dL_law_1225 ?_
  refine s_iconst (pc := 1226) (k_i1N) dL_law_1226 ?_
  refine s_iaddN (pc := 1227) dL_law_1227 ?_
  refine s_sald (pc := 1228) hX (_) rfl (by omega) hn dL_law_1228 ?_
  refine s_aload_n (pc := 1229) 0 rfl rfl dL_law_1229 ?_
  refine s_iload_n (pc := 1230) 3 rfl rfl dL_law_1230 ?_
  refine s_iconst (pc := 1231) (k_i2N) dL_law_1231 ?_
  refine s_iaddN (pc := 1232) dL_law_1232 ?_
  refine s_sald (pc := 1233) hX (_) rfl (by omega) hn dL_law_1233 ?_
  refine s_cvi2 (pc := 1234) (c2) ml_L_161 mw_X7_mid rfl (by omega) (Nat.le_of_ble_eq_true rfl) dL_law_1234 ?_
  refine s_icmp_eq (pc := 1237) 1389 dL_law_1237 (by decide) (fun c_1237 => ?_) (fun c_1237 => ?_)
  · exact k h2 i2
  · exfalso; exact c_1237 rfl
set_option maxRecDepth 20000 in
theorem law_lots {E : Cx} {n t : Nat} {xs : Nat → Int32} {h : Hp} (hX : ScE E n xs) (hn : n < 1000) (ht : 6 * t + 6 ≤ n) (i : Inv h) (k : ∀ h, Inv h → WW E cL_law RL 4 25 1389 [.ref 66, .ref 0, .ref 50, .int (nI (6 * t))] h []) : WW E cL_law RL 4 25 1242 [.ref 66, .ref 0, .ref 50, .int (nI (6 * t))] h [] := by
  obtain ⟨d1, d2, v, h1, h2, e1, e2, c1, c2, i2⟩ := p_lots i (xs (6 * t + 1)) (xs (6 * t + 2))
  refine s_aload_n (pc := 1242) 1 rfl rfl dL_law_1242 ?_
  refine s_aload_n (pc := 1243) 0 rfl rfl dL_law_1243 ?_
  refine s_iload_n (pc := 1244) 3 rfl rfl dL_law_1244 ?_
  refine s_iconst (pc := 1245) (k_i1N) dL_law_1245 ?_
  refine s_iaddN (pc := 1246) dL_law_1246 ?_
  refine s_sald (pc := 1247) hX (_) rfl (by omega) hn dL_law_1247 ?_
  refine s_aload_n (pc := 1248) 0 rfl rfl dL_law_1248 ?_
  refine s_iload_n (pc := 1249) 3 rfl rfl dL_law_1249 ?_
  refine s_iconst (pc := 1250) (k_i2N) dL_law_1250 ?_
  refine s_iaddN (pc := 1251) dL_law_1251 ?_
  refine s_sald (pc := 1252) hX (_) rfl (by omega) hn dL_law_1252 ?_
  refine s_cvi2 (pc := 1253) (c1) ml_L_162 mw_X6_lots rfl (by omega) (Nat.le_of_ble_eq_true rfl) dL_law_1253 ?_
  refine s_aload_n (pc := 1256) 2 rfl rfl dL_law_1256 ?_
  refine s_aload_n (pc := 1257) 0 rfl rfl dL_law_1257 ?_
  refine s_iload_n (pc := 1258) 3 rfl rfl dL_law_1258 ?_
  refine s_iconst (pc := 1259) (k_i1N) dL_law_1259 ?_
  refine s_iaddN (pc := 1260) dL_law_1260 ?_
  refine s_sald (pc := 1261) hX (_) rfl (by omega) hn dL_law_1261 ?_
  refine s_aload_n (pc := 1262) 0 rfl rfl dL_law_1262 ?_
  refine s_iload_n (pc := 1263) 3 rfl rfl dL_law_1263 ?_
  refine s_iconst (pc := 1264) (k_i2N) dL_law_1264 ?_
  refine s_iaddN (pc := 1265) dL_law_1265 ?_
  refine s_sald (pc := 1266) hX (_) rfl (by omega) hn dL_law_1266 ?_
  refine s_cvi2 (pc := 1267) (c2) ml_L_165 mw_X7_lots rfl (by omega) (Nat.le_of_ble_eq_true rfl) dL_law_1267 ?_
  refine s_icmp_eq (pc := 1270) 1389 dL_law_1270 (by decide) (fun c_1270 => ?_) (fun c_1270 => ?_)
  · exact k h2 i2
  · exfalso; exact c_1270 rfl
set_option maxRecDepth 20000 in
theorem law_asked {E : Cx} {n t : Nat} {xs : Nat → Int32} {h : Hp} (hX : ScE E n xs) (hn : n < 1000) (ht : 6 * t + 6 ≤ n) (i : Inv h) (k : ∀ h, Inv h → WW E cL_law RL 4 25 1389 [.ref 66, .ref 0, .ref 50, .int (nI (6 * t))] h []) : WW E cL_law RL 4 25 1275 [.ref 66, .ref 0, .ref 50, .int (nI (6 * t))] h [] := by
  obtain ⟨d1, d2, v, h1, h2, e1, e2, c1, c2, i2⟩ := p_asked i
  refine s_aload_n (pc := 1275) 1 rfl rfl dL_law_1275 ?_
  refine s_cvi0 (pc := 1276) (c1) ml_L_166 mw_X6_asked rfl (by omega) (Nat.le_of_ble_eq_true rfl) dL_law_1276 ?_
  refine s_aload_n (pc := 1279) 2 rfl rfl dL_law_1279 ?_
  refine s_cvi0 (pc := 1280) (c2) ml_L_169 mw_X7_asked rfl (by omega) (Nat.le_of_ble_eq_true rfl) dL_law_1280 ?_
  refine s_icmp_eq (pc := 1283) 1389 dL_law_1283 (by decide) (fun c_1283 => ?_) (fun c_1283 => ?_)
  · exact k h2 i2
  · exfalso; exact c_1283 rfl
set_option maxRecDepth 20000 in
theorem law_upper {E : Cx} {n t : Nat} {xs : Nat → Int32} {h : Hp} (hX : ScE E n xs) (hn : n < 1000) (ht : 6 * t + 6 ≤ n) (i : Inv h) (k : ∀ h, Inv h → WW E cL_law RL 4 25 1389 [.ref 66, .ref 0, .ref 50, .int (nI (6 * t))] h []) : WW E cL_law RL 4 25 1288 [.ref 66, .ref 0, .ref 50, .int (nI (6 * t))] h [] := by
  obtain ⟨d1, d2, v, h1, h2, e1, e2, c1, c2, i2⟩ := p_upper i
  refine s_aload_n (pc := 1288) 1 rfl rfl dL_law_1288 ?_
  refine s_cvi0 (pc := 1289) (c1) ml_L_170 mw_X6_upper rfl (by omega) (Nat.le_of_ble_eq_true rfl) dL_law_1289 ?_
  refine s_aload_n (pc := 1292) 2 rfl rfl dL_law_1292 ?_
  refine s_cvi0 (pc := 1293) (c2) ml_L_174 mw_X7_upper rfl (by omega) (Nat.le_of_ble_eq_true rfl) dL_law_1293 ?_
  refine s_lcmp (pc := 1296) dL_law_1296 ?_
  refine s_if_eq (pc := 1297) 1389 dL_law_1297 (by decide) (fun c_1297 => ?_) (fun c_1297 => ?_)
  · exact k h2 i2
  · exfalso; exact c_1297 ((lg_cmp_eq _ _).mpr rfl)
set_option maxRecDepth 20000 in
theorem law_lower {E : Cx} {n t : Nat} {xs : Nat → Int32} {h : Hp} (hX : ScE E n xs) (hn : n < 1000) (ht : 6 * t + 6 ≤ n) (i : Inv h) (k : ∀ h, Inv h → WW E cL_law RL 4 25 1389 [.ref 66, .ref 0, .ref 50, .int (nI (6 * t))] h []) : WW E cL_law RL 4 25 1302 [.ref 66, .ref 0, .ref 50, .int (nI (6 * t))] h [] := by
  obtain ⟨d1, d2, v, h1, h2, e1, e2, c1, c2, i2⟩ := p_lower i
  refine s_aload_n (pc := 1302) 1 rfl rfl dL_law_1302 ?_
  refine s_cvi0 (pc := 1303) (c1) ml_L_175 mw_X6_lower rfl (by omega) (Nat.le_of_ble_eq_true rfl) dL_law_1303 ?_
  refine s_aload_n (pc := 1306) 2 rfl rfl dL_law_1306 ?_
  refine s_cvi0 (pc := 1307) (c2) ml_L_178 mw_X7_lower rfl (by omega) (Nat.le_of_ble_eq_true rfl) dL_law_1307 ?_
  refine s_lcmp (pc := 1310) dL_law_1310 ?_
  refine s_if_eq (pc := 1311) 1389 dL_law_1311 (by decide) (fun c_1311 => ?_) (fun c_1311 => ?_)
  · exact k h2 i2
  · exfalso; exact c_1311 ((lg_cmp_eq _ _).mpr rfl)
set_option maxRecDepth 20000 in
theorem law_count {E : Cx} {n t : Nat} {xs : Nat → Int32} {h : Hp} (hX : ScE E n xs) (hn : n < 1000) (ht : 6 * t + 6 ≤ n) (i : Inv h) (k : ∀ h, Inv h → WW E cL_law RL 4 25 1389 [.ref 66, .ref 0, .ref 50, .int (nI (6 * t))] h []) : WW E cL_law RL 4 25 1316 [.ref 66, .ref 0, .ref 50, .int (nI (6 * t))] h [] := by
  obtain ⟨d1, d2, v, h1, h2, e1, e2, c1, c2, i2⟩ := p_count i (xs (6 * t + 1))
  refine s_aload_n (pc := 1316) 1 rfl rfl dL_law_1316 ?_
  refine s_aload_n (pc := 1317) 0 rfl rfl dL_law_1317 ?_
  refine s_iload_n (pc := 1318) 3 rfl rfl dL_law_1318 ?_
  refine s_iconst (pc := 1319) (k_i1N) dL_law_1319 ?_
  refine s_iaddN (pc := 1320) dL_law_1320 ?_
  refine s_sald (pc := 1321) hX (_) rfl (by omega) hn dL_law_1321 ?_
  refine s_cvi1 (pc := 1322) (c1) ml_L_179 mw_X6_count rfl (by omega) (Nat.le_of_ble_eq_true rfl) dL_law_1322 ?_
  refine s_aload_n (pc := 1325) 2 rfl rfl dL_law_1325 ?_
  refine s_aload_n (pc := 1326) 0 rfl rfl dL_law_1326 ?_
  refine s_iload_n (pc := 1327) 3 rfl rfl dL_law_1327 ?_
  refine s_iconst (pc := 1328) (k_i1N) dL_law_1328 ?_
  refine s_iaddN (pc := 1329) dL_law_1329 ?_
  refine s_sald (pc := 1330) hX (_) rfl (by omega) hn dL_law_1330 ?_
  refine s_cvi1 (pc := 1331) (c2) ml_L_182 mw_X7_count rfl (by omega) (Nat.le_of_ble_eq_true rfl) dL_law_1331 ?_
  refine s_icmp_eq (pc := 1334) 1389 dL_law_1334 (by decide) (fun c_1334 => ?_) (fun c_1334 => ?_)
  · exact k h2 i2
  · exfalso; exact c_1334 rfl
set_option maxRecDepth 20000 in
theorem law_finding {E : Cx} {n t : Nat} {xs : Nat → Int32} {h : Hp} (hX : ScE E n xs) (hn : n < 1000) (ht : 6 * t + 6 ≤ n) (i : Inv h) (k : ∀ h, Inv h → WW E cL_law RL 4 25 1389 [.ref 66, .ref 0, .ref 50, .int (nI (6 * t))] h []) : WW E cL_law RL 4 25 1339 [.ref 66, .ref 0, .ref 50, .int (nI (6 * t))] h [] := by
  obtain ⟨d1, d2, v, h1, h2, e1, e2, c1, c2, i2⟩ := p_finding i
  refine s_aload_n (pc := 1339) 1 rfl rfl dL_law_1339 ?_
  refine s_cvi0 (pc := 1340) (c1) ml_L_183 mw_X6_finding rfl (by omega) (Nat.le_of_ble_eq_true rfl) dL_law_1340 ?_
  refine s_aload_n (pc := 1343) 2 rfl rfl dL_law_1343 ?_
  refine s_cvi0 (pc := 1344) (c2) ml_L_186 mw_X7_finding rfl (by omega) (Nat.le_of_ble_eq_true rfl) dL_law_1344 ?_
  refine s_icmp_eq (pc := 1347) 1389 dL_law_1347 (by decide) (fun c_1347 => ?_) (fun c_1347 => ?_)
  · exact k h2 i2
  · exfalso; exact c_1347 rfl
set_option maxRecDepth 20000 in
theorem law_findings {E : Cx} {n t : Nat} {xs : Nat → Int32} {h : Hp} (hX : ScE E n xs) (hn : n < 1000) (ht : 6 * t + 6 ≤ n) (i : Inv h) (k : ∀ h, Inv h → WW E cL_law RL 4 25 1389 [.ref 66, .ref 0, .ref 50, .int (nI (6 * t))] h []) : WW E cL_law RL 4 25 1352 [.ref 66, .ref 0, .ref 50, .int (nI (6 * t))] h [] := by
  obtain ⟨d1, d2, v, h1, h2, e1, e2, c1, c2, i2⟩ := p_findings i (xs (6 * t + 1))
  refine s_aload_n (pc := 1352) 1 rfl rfl dL_law_1352 ?_
  refine s_aload_n (pc := 1353) 0 rfl rfl dL_law_1353 ?_
  refine s_iload_n (pc := 1354) 3 rfl rfl dL_law_1354 ?_
  refine s_iconst (pc := 1355) (k_i1N) dL_law_1355 ?_
  refine s_iaddN (pc := 1356) dL_law_1356 ?_
  refine s_sald (pc := 1357) hX (_) rfl (by omega) hn dL_law_1357 ?_
  refine s_cvi1 (pc := 1358) (c1) ml_L_187 mw_X6_findings rfl (by omega) (Nat.le_of_ble_eq_true rfl) dL_law_1358 ?_
  refine s_aload_n (pc := 1361) 2 rfl rfl dL_law_1361 ?_
  refine s_aload_n (pc := 1362) 0 rfl rfl dL_law_1362 ?_
  refine s_iload_n (pc := 1363) 3 rfl rfl dL_law_1363 ?_
  refine s_iconst (pc := 1364) (k_i1N) dL_law_1364 ?_
  refine s_iaddN (pc := 1365) dL_law_1365 ?_
  refine s_sald (pc := 1366) hX (_) rfl (by omega) hn dL_law_1366 ?_
  refine s_cvi1 (pc := 1367) (c2) ml_L_190 mw_X7_findings rfl (by omega) (Nat.le_of_ble_eq_true rfl) dL_law_1367 ?_
  refine s_icmp_eq (pc := 1370) 1389 dL_law_1370 (by decide) (fun c_1370 => ?_) (fun c_1370 => ?_)
  · exact k h2 i2
  · exfalso; exact c_1370 rfl
set_option maxRecDepth 20000 in
theorem law_digest {E : Cx} {n t : Nat} {xs : Nat → Int32} {h : Hp} (hX : ScE E n xs) (hn : n < 1000) (ht : 6 * t + 6 ≤ n) (i : Inv h) (k : ∀ h, Inv h → WW E cL_law RL 4 25 1389 [.ref 66, .ref 0, .ref 50, .int (nI (6 * t))] h []) : WW E cL_law RL 4 25 1375 [.ref 66, .ref 0, .ref 50, .int (nI (6 * t))] h [] := by
  obtain ⟨d1, d2, v, h1, h2, e1, e2, c1, c2, i2⟩ := p_digest i
  refine s_aload_n (pc := 1375) 1 rfl rfl dL_law_1375 ?_
  refine s_cvi0 (pc := 1376) (c1) ml_L_191 mw_X6_digest rfl (by omega) (Nat.le_of_ble_eq_true rfl) dL_law_1376 ?_
  refine s_aload_n (pc := 1379) 2 rfl rfl dL_law_1379 ?_
  refine s_cvi0 (pc := 1380) (c2) ml_L_194 mw_X7_digest rfl (by omega) (Nat.le_of_ble_eq_true rfl) dL_law_1380 ?_
  refine s_lcmp (pc := 1383) dL_law_1383 ?_
  refine s_if_eq (pc := 1384) 1389 dL_law_1384 (by decide) (fun c_1384 => ?_) (fun c_1384 => ?_)
  · exact k h2 i2
  · exfalso; exact c_1384 ((lg_cmp_eq _ _).mpr rfl)
theorem lt44 {c : Nat} (h : c < 64) : c = 0 ∨ c = 1 ∨ c = 2 ∨ c = 3 ∨ c = 4 ∨ c = 5 ∨ c = 6 ∨ c = 7 ∨ c = 8 ∨ c = 9 ∨ c = 10 ∨ c = 11 ∨ c = 12 ∨ c = 13 ∨ c = 14 ∨ c = 15 ∨ c = 16 ∨ c = 17 ∨ c = 18 ∨ c = 19 ∨ c = 20 ∨ c = 21 ∨ c = 22 ∨ c = 23 ∨ c = 24 ∨ c = 25 ∨ c = 26 ∨ c = 27 ∨ c = 28 ∨ c = 29 ∨ c = 30 ∨ c = 31 ∨ c = 32 ∨ c = 33 ∨ c = 34 ∨ c = 35 ∨ c = 36 ∨ c = 37 ∨ c = 38 ∨ c = 39 ∨ c = 40 ∨ c = 41 ∨ c = 42 ∨ c = 43 ∨ 44 ≤ c := by omega
set_option maxRecDepth 20000 in
theorem law_switch {E : Cx} {n t : Nat} {xs : Nat → Int32} {h : Hp} (x : Int32) (hX : ScE E n xs) (hn : n < 1000) (c_24 : 6 * t + 6 ≤ n) (i : Inv h) (k : ∀ h, Inv h → WW E cL_law RL 4 25 1389 [.ref 66, .ref 0, .ref 50, .int (nI (6 * t))] h []) : WW E cL_law RL 4 25 33 [.ref 66, .ref 0, .ref 50, .int (nI (6 * t))] h [.int (x &&& nI 63)] := by
  obtain ⟨c, hc, e⟩ := lw_and x
  rw [e]
  rcases lt44 hc with rfl | rfl | rfl | rfl | rfl | rfl | rfl | rfl | rfl | rfl | rfl | rfl | rfl | rfl | rfl | rfl | rfl | rfl | rfl | rfl | rfl | rfl | rfl | rfl | rfl | rfl | rfl | rfl | rfl | rfl | rfl | rfl | rfl | rfl | rfl | rfl | rfl | rfl | rfl | rfl | rfl | rfl | rfl | rfl | h44
  · exact s_tabIn (pc := 33) 224 dL_law_33 (by decide) (by decide) (off := 191) (by decide) (by decide) (law_row hX hn c_24 i k)
  · exact s_tabIn (pc := 33) 257 dL_law_33 (by decide) (by decide) (off := 224) (by decide) (by decide) (law_lay hX hn c_24 i k)
  · exact s_tabIn (pc := 33) 300 dL_law_33 (by decide) (by decide) (off := 267) (by decide) (by decide) (law_at hX hn c_24 i k)
  · exact s_tabIn (pc := 33) 333 dL_law_33 (by decide) (by decide) (off := 300) (by decide) (by decide) (law_tear hX hn c_24 i k)
  · exact s_tabIn (pc := 33) 356 dL_law_33 (by decide) (by decide) (off := 323) (by decide) (by decide) (law_copy hX hn c_24 i k)
  · exact s_tabIn (pc := 33) 419 dL_law_33 (by decide) (by decide) (off := 386) (by decide) (by decide) (law_mean hX hn c_24 i k)
  · exact s_tabIn (pc := 33) 442 dL_law_33 (by decide) (by decide) (off := 409) (by decide) (by decide) (law_text hX hn c_24 i k)
  · exact s_tabIn (pc := 33) 475 dL_law_33 (by decide) (by decide) (off := 442) (by decide) (by decide) (law_put hX hn c_24 i k)
  · exact s_tabIn (pc := 33) 518 dL_law_33 (by decide) (by decide) (off := 485) (by decide) (by decide) (law_fault hX hn c_24 i k)
  · exact s_tabIn (pc := 33) 541 dL_law_33 (by decide) (by decide) (off := 508) (by decide) (by decide) (law_harbour hX hn c_24 i k)
  · exact s_tabIn (pc := 33) 564 dL_law_33 (by decide) (by decide) (off := 531) (by decide) (by decide) (law_ship hX hn c_24 i k)
  · exact s_tabIn (pc := 33) 597 dL_law_33 (by decide) (by decide) (off := 564) (by decide) (by decide) (law_mark hX hn c_24 i k)
  · exact s_tabIn (pc := 33) 630 dL_law_33 (by decide) (by decide) (off := 597) (by decide) (by decide) (law_age hX hn c_24 i k)
  · exact s_tabIn (pc := 33) 663 dL_law_33 (by decide) (by decide) (off := 630) (by decide) (by decide) (law_come hX hn c_24 i k)
  · exact s_tabIn (pc := 33) 686 dL_law_33 (by decide) (by decide) (off := 653) (by decide) (by decide) (law_leave hX hn c_24 i k)
  · exact s_tabIn (pc := 33) 709 dL_law_33 (by decide) (by decide) (off := 676) (by decide) (by decide) (law_pay hX hn c_24 i k)
  · exact s_tabIn (pc := 33) 732 dL_law_33 (by decide) (by decide) (off := 699) (by decide) (by decide) (law_tea hX hn c_24 i k)
  · exact s_tabIn (pc := 33) 755 dL_law_33 (by decide) (by decide) (off := 722) (by decide) (by decide) (law_tide hX hn c_24 i k)
  · exact s_tabIn (pc := 33) 768 dL_law_33 (by decide) (by decide) (off := 735) (by decide) (by decide) (law_year hX hn c_24 i k)
  · exact s_tabIn (pc := 33) 781 dL_law_33 (by decide) (by decide) (off := 748) (by decide) (by decide) (law_undo hX hn c_24 i k)
  · exact s_tabIn (pc := 33) 804 dL_law_33 (by decide) (by decide) (off := 771) (by decide) (by decide) (law_keep hX hn c_24 i k)
  · exact s_tabIn (pc := 33) 827 dL_law_33 (by decide) (by decide) (off := 794) (by decide) (by decide) (law_on hX hn c_24 i k)
  · exact s_tabIn (pc := 33) 850 dL_law_33 (by decide) (by decide) (off := 817) (by decide) (by decide) (law_berths hX hn c_24 i k)
  · exact s_tabIn (pc := 33) 873 dL_law_33 (by decide) (by decide) (off := 840) (by decide) (by decide) (law_hours hX hn c_24 i k)
  · exact s_tabIn (pc := 33) 896 dL_law_33 (by decide) (by decide) (off := 863) (by decide) (by decide) (law_ground hX hn c_24 i k)
  · exact s_tabIn (pc := 33) 909 dL_law_33 (by decide) (by decide) (off := 876) (by decide) (by decide) (law_enter hX hn c_24 i k)
  · exact s_tabIn (pc := 33) 932 dL_law_33 (by decide) (by decide) (off := 899) (by decide) (by decide) (law_order hX hn c_24 i k)
  · exact s_tabIn (pc := 33) 955 dL_law_33 (by decide) (by decide) (off := 922) (by decide) (by decide) (law_when hX hn c_24 i k)
  · exact s_tabIn (pc := 33) 988 dL_law_33 (by decide) (by decide) (off := 955) (by decide) (by decide) (law_built hX hn c_24 i k)
  · exact s_tabIn (pc := 33) 1021 dL_law_33 (by decide) (by decide) (off := 988) (by decide) (by decide) (law_least hX hn c_24 i k)
  · exact s_tabIn (pc := 33) 1054 dL_law_33 (by decide) (by decide) (off := 1021) (by decide) (by decide) (law_wrong hX hn c_24 i k)
  · exact s_tabIn (pc := 33) 1077 dL_law_33 (by decide) (by decide) (off := 1044) (by decide) (by decide) (law_kinds hX hn c_24 i k)
  · exact s_tabIn (pc := 33) 1110 dL_law_33 (by decide) (by decide) (off := 1077) (by decide) (by decide) (law_test hX hn c_24 i k)
  · exact s_tabIn (pc := 33) 1143 dL_law_33 (by decide) (by decide) (off := 1110) (by decide) (by decide) (law_duel hX hn c_24 i k)
  · exact s_tabIn (pc := 33) 1166 dL_law_33 (by decide) (by decide) (off := 1133) (by decide) (by decide) (law_odds hX hn c_24 i k)
  · exact s_tabIn (pc := 33) 1209 dL_law_33 (by decide) (by decide) (off := 1176) (by decide) (by decide) (law_mid hX hn c_24 i k)
  · exact s_tabIn (pc := 33) 1242 dL_law_33 (by decide) (by decide) (off := 1209) (by decide) (by decide) (law_lots hX hn c_24 i k)
  · exact s_tabIn (pc := 33) 1275 dL_law_33 (by decide) (by decide) (off := 1242) (by decide) (by decide) (law_asked hX hn c_24 i k)
  · exact s_tabIn (pc := 33) 1288 dL_law_33 (by decide) (by decide) (off := 1255) (by decide) (by decide) (law_upper hX hn c_24 i k)
  · exact s_tabIn (pc := 33) 1302 dL_law_33 (by decide) (by decide) (off := 1269) (by decide) (by decide) (law_lower hX hn c_24 i k)
  · exact s_tabIn (pc := 33) 1316 dL_law_33 (by decide) (by decide) (off := 1283) (by decide) (by decide) (law_count hX hn c_24 i k)
  · exact s_tabIn (pc := 33) 1339 dL_law_33 (by decide) (by decide) (off := 1306) (by decide) (by decide) (law_finding hX hn c_24 i k)
  · exact s_tabIn (pc := 33) 1352 dL_law_33 (by decide) (by decide) (off := 1319) (by decide) (by decide) (law_findings hX hn c_24 i k)
  · exact s_tabIn (pc := 33) 1375 dL_law_33 (by decide) (by decide) (off := 1342) (by decide) (by decide) (law_digest hX hn c_24 i k)
  · refine s_tabOut (pc := 33) 1389 dL_law_33 (Or.inr ?_) (by decide) (k h i)
    rw [nI_toInt (by omega)]
    omega

set_option maxRecDepth 20000 in
theorem law_loop {E : Cx} {n : Nat} {xs : Nat → Int32} (hX : ScE E n xs) (hn : n < 900) (hp : ∀ h, PostE E (some (.int (nI 1))) h) : ∀ t, t ≤ n / 6 → ∀ h, Inv h → WW E cL_law RL 4 25 18 [.ref 66, .ref 0, .ref 50, .int (nI (6 * t))] h [] := by
  refine lpi (n / 6) (fun t ht ih => ?_)
  intro h i
  refine s_iload_n (pc := 18) 3 rfl rfl dL_law_18 ?_
  refine s_aload_n (pc := 19) 0 rfl rfl dL_law_19 ?_
  refine s_slen (pc := 20) hX dL_law_20 ?_
  refine s_bipush (pc := 21) (k_b6N) dL_law_21 ?_
  refine s_isub (pc := 23) dL_law_23 ?_
  refine s_icmp_gt (pc := 24) 1395 dL_law_24 (by decide) (fun c_24 => ?_) (fun c_24 => ?_)
  · refine s_iconst (pc := 1395) (k_i1N) dL_law_1395 ?_
    exact s_iret (pc := 1396) dL_law_1396 (hp h)
  · rw [lw_gt (by omega) (by omega)] at c_24
    have hn' : n < 1000 := by omega
    refine s_aload_n (pc := 27) 0 rfl rfl dL_law_27 ?_
    refine s_iload_n (pc := 28) 3 rfl rfl dL_law_28 ?_
    refine s_sald (pc := 29) hX (_) rfl (by omega) hn' dL_law_29 ?_
    refine s_bipush (pc := 30) (k_b63N) dL_law_30 ?_
    refine s_iand (pc := 32) dL_law_32 ?_
    refine law_switch _ hX hn' (by omega) i (fun h i => ?_)
    refine s_iinc (pc := 1389) _ rfl (lw_inc t) (by decide) rfl dL_law_1389 ?_
    refine s_goto (pc := 1392) 18 dL_law_1392 (by decide) ?_
    exact ih (by omega) h i
