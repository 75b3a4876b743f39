/-! PART law: the law's lines -/
theorem lg_cmp_xx {x : Int64} : lg_cmp x x = 0 := by
  unfold lg_cmp
  simp
theorem vk9 {k c L : Nat} (hL : L ≤ 3072) (hk : k + 6 ≤ L) (hc : c < 6) {x : Int32} (e : x = nI c) : vp_in (nI k + x) L := by
  subst e
  rw [nI_add]
  exact vp_in_nI (by omega) (by omega)
section LW
variable {D : cm_D} {sh : List cm_Sh} {hi : cm_g2} {hl : Nat → Nat → Int64} {hr : Nat → Nat → Option Nat} {k : Nat}
set_option maxRecDepth 20000 in
theorem law_0 (hL : cm_L D ≤ 3072) (hk : k + 6 ≤ cm_L D) (L : LI sh hi hr) (hst : ∀ hi hl hr, LI sh hi hr → cm_g D mL_law 40 135 6373 (fun r _ => r = some (.int 1)) 135 6373 1335 [some (.ref 0), some (.ref 2), some (.ref 114), some (.int (nI k))] [] (sh, hi, hl, hr)) : cm_g D mL_law 40 135 6373 (fun r _ => r = some (.int 1)) 135 6373 216 [some (.ref 0), some (.ref 2), some (.ref 114), some (.int (nI k))] [] (sh, hi, hl, hr) := by
  have ho2 : cm_ob sh 2 6 := L.1.1
  refine cm_aload1 (pc := 216) dL_law_216 ?_
  refine cm_aload0 (pc := 217) dL_law_217 ?_
  refine cm_iload3 (pc := 218) dL_law_218 ?_
  refine cm_iconst (pc := 219) (v := 1) dL_law_219 (by decide) ?_
  refine cm_iadd (pc := 220) dL_law_220 ?_
  refine cm_sald (pc := 221) dL_law_221 (vk9 (c := 1) hL hk (by decide) rfl) ?_
  refine cm_aload0 (pc := 222) dL_law_222 ?_
  refine cm_iload3 (pc := 223) dL_law_223 ?_
  refine cm_iconst (pc := 224) (v := 2) dL_law_224 (by decide) ?_
  refine cm_iadd (pc := 225) dL_law_225 ?_
  refine cm_sald (pc := 226) dL_law_226 (vk9 (c := 2) hL hk (by decide) rfl) ?_
  refine cm_V2 (pc := 227) mX6_row_v mlL_13 dL_law_227 ho2 (by omega) (Nat.le_of_ble_eq_true rfl) (Nat.le_refl _) (Nat.le_refl _) (o_row L) (fun r227 h227 hq227 => ?_)
  obtain ⟨x9, rfl, ob9, hc9⟩ := hq227
  refine cm_aload2 (pc := 230) dL_law_230 ?_
  refine cm_aload0 (pc := 231) dL_law_231 ?_
  refine cm_iload3 (pc := 232) dL_law_232 ?_
  refine cm_iconst (pc := 233) (v := 1) dL_law_233 (by decide) ?_
  refine cm_iadd (pc := 234) dL_law_234 ?_
  refine cm_sald (pc := 235) dL_law_235 (vk9 (c := 1) hL hk (by decide) rfl) ?_
  refine cm_aload0 (pc := 236) dL_law_236 ?_
  refine cm_iload3 (pc := 237) dL_law_237 ?_
  refine cm_iconst (pc := 238) (v := 2) dL_law_238 (by decide) ?_
  refine cm_iadd (pc := 239) dL_law_239 ?_
  refine cm_sald (pc := 240) dL_law_240 (vk9 (c := 2) hL hk (by decide) rfl) ?_
  refine cm_V2 (pc := 241) mX7_row_v mlL_17 dL_law_241 ob9 (by omega) (Nat.le_of_ble_eq_true rfl) (Nat.le_refl _) (Nat.le_refl _) (hc9) (fun r241 h241 hq241 => ?_)
  obtain ⟨rfl, H9, l9, r9, rfl, L9⟩ := hq241
  refine cm_icmp_eq (pc := 244) (tgt := 1335) dL_law_244 (by decide) (fun c244 => ?_) (fun q => absurd rfl q)
  exact hst _ _ _ L9
set_option maxRecDepth 20000 in
theorem law_1 (hL : cm_L D ≤ 3072) (hk : k + 6 ≤ cm_L D) (L : LI sh hi hr) (hst : ∀ hi hl hr, LI sh hi hr → cm_g D mL_law 40 135 6373 (fun r _ => r = some (.int 1)) 135 6373 1335 [some (.ref 0), some (.ref 2), some (.ref 114), some (.int (nI k))] [] (sh, hi, hl, hr)) : cm_g D mL_law 40 135 6373 (fun r _ => r = some (.int 1)) 135 6373 249 [some (.ref 0), some (.ref 2), some (.ref 114), some (.int (nI k))] [] (sh, hi, hl, hr) := by
  have ho2 : cm_ob sh 2 6 := L.1.1
  refine cm_aload1 (pc := 249) dL_law_249 ?_
  refine cm_aload0 (pc := 250) dL_law_250 ?_
  refine cm_iload3 (pc := 251) dL_law_251 ?_
  refine cm_iconst (pc := 252) (v := 1) dL_law_252 (by decide) ?_
  refine cm_iadd (pc := 253) dL_law_253 ?_
  refine cm_sald (pc := 254) dL_law_254 (vk9 (c := 1) hL hk (by decide) rfl) ?_
  refine cm_aload0 (pc := 255) dL_law_255 ?_
  refine cm_iload3 (pc := 256) dL_law_256 ?_
  refine cm_iconst (pc := 257) (v := 2) dL_law_257 (by decide) ?_
  refine cm_iadd (pc := 258) dL_law_258 ?_
  refine cm_sald (pc := 259) dL_law_259 (vk9 (c := 2) hL hk (by decide) rfl) ?_
  refine cm_aload0 (pc := 260) dL_law_260 ?_
  refine cm_iload3 (pc := 261) dL_law_261 ?_
  refine cm_iconst (pc := 262) (v := 3) dL_law_262 (by decide) ?_
  refine cm_iadd (pc := 263) dL_law_263 ?_
  refine cm_sald (pc := 264) dL_law_264 (vk9 (c := 3) hL hk (by decide) rfl) ?_
  refine cm_V3 (pc := 265) mX6_lay_v mlL_18 dL_law_265 ho2 (by omega) (Nat.le_of_ble_eq_true rfl) (Nat.le_refl _) (Nat.le_refl _) (o_lay L) (fun r265 h265 hq265 => ?_)
  obtain ⟨x9, rfl, ob9, hc9⟩ := hq265
  refine cm_aload2 (pc := 268) dL_law_268 ?_
  refine cm_aload0 (pc := 269) dL_law_269 ?_
  refine cm_iload3 (pc := 270) dL_law_270 ?_
  refine cm_iconst (pc := 271) (v := 1) dL_law_271 (by decide) ?_
  refine cm_iadd (pc := 272) dL_law_272 ?_
  refine cm_sald (pc := 273) dL_law_273 (vk9 (c := 1) hL hk (by decide) rfl) ?_
  refine cm_aload0 (pc := 274) dL_law_274 ?_
  refine cm_iload3 (pc := 275) dL_law_275 ?_
  refine cm_iconst (pc := 276) (v := 2) dL_law_276 (by decide) ?_
  refine cm_iadd (pc := 277) dL_law_277 ?_
  refine cm_sald (pc := 278) dL_law_278 (vk9 (c := 2) hL hk (by decide) rfl) ?_
  refine cm_aload0 (pc := 279) dL_law_279 ?_
  refine cm_iload3 (pc := 280) dL_law_280 ?_
  refine cm_iconst (pc := 281) (v := 3) dL_law_281 (by decide) ?_
  refine cm_iadd (pc := 282) dL_law_282 ?_
  refine cm_sald (pc := 283) dL_law_283 (vk9 (c := 3) hL hk (by decide) rfl) ?_
  refine cm_V3 (pc := 284) mX7_lay_v mlL_22 dL_law_284 ob9 (by omega) (Nat.le_of_ble_eq_true rfl) (Nat.le_refl _) (Nat.le_refl _) (hc9) (fun r284 h284 hq284 => ?_)
  obtain ⟨rfl, H9, l9, r9, rfl, L9⟩ := hq284
  refine cm_icmp_eq (pc := 287) (tgt := 1335) dL_law_287 (by decide) (fun c287 => ?_) (fun q => absurd rfl q)
  exact hst _ _ _ L9
set_option maxRecDepth 20000 in
theorem law_2 (hL : cm_L D ≤ 3072) (hk : k + 6 ≤ cm_L D) (L : LI sh hi hr) (hst : ∀ hi hl hr, LI sh hi hr → cm_g D mL_law 40 135 6373 (fun r _ => r = some (.int 1)) 135 6373 1335 [some (.ref 0), some (.ref 2), some (.ref 114), some (.int (nI k))] [] (sh, hi, hl, hr)) : cm_g D mL_law 40 135 6373 (fun r _ => r = some (.int 1)) 135 6373 292 [some (.ref 0), some (.ref 2), some (.ref 114), some (.int (nI k))] [] (sh, hi, hl, hr) := by
  have ho2 : cm_ob sh 2 6 := L.1.1
  refine cm_aload1 (pc := 292) dL_law_292 ?_
  refine cm_aload0 (pc := 293) dL_law_293 ?_
  refine cm_iload3 (pc := 294) dL_law_294 ?_
  refine cm_iconst (pc := 295) (v := 1) dL_law_295 (by decide) ?_
  refine cm_iadd (pc := 296) dL_law_296 ?_
  refine cm_sald (pc := 297) dL_law_297 (vk9 (c := 1) hL hk (by decide) rfl) ?_
  refine cm_aload0 (pc := 298) dL_law_298 ?_
  refine cm_iload3 (pc := 299) dL_law_299 ?_
  refine cm_iconst (pc := 300) (v := 2) dL_law_300 (by decide) ?_
  refine cm_iadd (pc := 301) dL_law_301 ?_
  refine cm_sald (pc := 302) dL_law_302 (vk9 (c := 2) hL hk (by decide) rfl) ?_
  refine cm_V2 (pc := 303) mX6_at_v mlL_23 dL_law_303 ho2 (by omega) (Nat.le_of_ble_eq_true rfl) (Nat.le_refl _) (Nat.le_refl _) (o_at L) (fun r303 h303 hq303 => ?_)
  obtain ⟨x9, rfl, ob9, hc9⟩ := hq303
  refine cm_aload2 (pc := 306) dL_law_306 ?_
  refine cm_aload0 (pc := 307) dL_law_307 ?_
  refine cm_iload3 (pc := 308) dL_law_308 ?_
  refine cm_iconst (pc := 309) (v := 1) dL_law_309 (by decide) ?_
  refine cm_iadd (pc := 310) dL_law_310 ?_
  refine cm_sald (pc := 311) dL_law_311 (vk9 (c := 1) hL hk (by decide) rfl) ?_
  refine cm_aload0 (pc := 312) dL_law_312 ?_
  refine cm_iload3 (pc := 313) dL_law_313 ?_
  refine cm_iconst (pc := 314) (v := 2) dL_law_314 (by decide) ?_
  refine cm_iadd (pc := 315) dL_law_315 ?_
  refine cm_sald (pc := 316) dL_law_316 (vk9 (c := 2) hL hk (by decide) rfl) ?_
  refine cm_V2 (pc := 317) mX7_at_v mlL_26 dL_law_317 ob9 (by omega) (Nat.le_of_ble_eq_true rfl) (Nat.le_refl _) (Nat.le_refl _) (hc9) (fun r317 h317 hq317 => ?_)
  obtain ⟨rfl, H9, l9, r9, rfl, L9⟩ := hq317
  refine cm_icmp_eq (pc := 320) (tgt := 1335) dL_law_320 (by decide) (fun c320 => ?_) (fun q => absurd rfl q)
  exact hst _ _ _ L9
set_option maxRecDepth 20000 in
theorem law_3 (hL : cm_L D ≤ 3072) (hk : k + 6 ≤ cm_L D) (L : LI sh hi hr) (hst : ∀ hi hl hr, LI sh hi hr → cm_g D mL_law 40 135 6373 (fun r _ => r = some (.int 1)) 135 6373 1335 [some (.ref 0), some (.ref 2), some (.ref 114), some (.int (nI k))] [] (sh, hi, hl, hr)) : cm_g D mL_law 40 135 6373 (fun r _ => r = some (.int 1)) 135 6373 325 [some (.ref 0), some (.ref 2), some (.ref 114), some (.int (nI k))] [] (sh, hi, hl, hr) := by
  have ho2 : cm_ob sh 2 6 := L.1.1
  refine cm_aload1 (pc := 325) dL_law_325 ?_
  refine cm_aload0 (pc := 326) dL_law_326 ?_
  refine cm_iload3 (pc := 327) dL_law_327 ?_
  refine cm_iconst (pc := 328) (v := 1) dL_law_328 (by decide) ?_
  refine cm_iadd (pc := 329) dL_law_329 ?_
  refine cm_sald (pc := 330) dL_law_330 (vk9 (c := 1) hL hk (by decide) rfl) ?_
  refine cm_V1 (pc := 331) mX6_tear_v mlL_27 dL_law_331 ho2 (by omega) (Nat.le_of_ble_eq_true rfl) (Nat.le_refl _) (Nat.le_refl _) (o_tear L) (fun r331 h331 hq331 => ?_)
  obtain ⟨x9, rfl, ob9, hc9⟩ := hq331
  refine cm_aload2 (pc := 334) dL_law_334 ?_
  refine cm_aload0 (pc := 335) dL_law_335 ?_
  refine cm_iload3 (pc := 336) dL_law_336 ?_
  refine cm_iconst (pc := 337) (v := 1) dL_law_337 (by decide) ?_
  refine cm_iadd (pc := 338) dL_law_338 ?_
  refine cm_sald (pc := 339) dL_law_339 (vk9 (c := 1) hL hk (by decide) rfl) ?_
  refine cm_V1 (pc := 340) mX7_tear_v mlL_31 dL_law_340 ob9 (by omega) (Nat.le_of_ble_eq_true rfl) (Nat.le_refl _) (Nat.le_refl _) (hc9) (fun r340 h340 hq340 => ?_)
  obtain ⟨rfl, H9, l9, r9, rfl, L9⟩ := hq340
  refine cm_icmp_eq (pc := 343) (tgt := 1335) dL_law_343 (by decide) (fun c343 => ?_) (fun q => absurd rfl q)
  exact hst _ _ _ L9
set_option maxRecDepth 20000 in
theorem law_4 (hL : cm_L D ≤ 3072) (hk : k + 6 ≤ cm_L D) (L : LI sh hi hr) (hst : ∀ hi hl hr, LI sh hi hr → cm_g D mL_law 40 135 6373 (fun r _ => r = some (.int 1)) 135 6373 1335 [some (.ref 0), some (.ref 2), some (.ref 114), some (.int (nI k))] [] (sh, hi, hl, hr)) : cm_g D mL_law 40 135 6373 (fun r _ => r = some (.int 1)) 135 6373 348 [some (.ref 0), some (.ref 2), some (.ref 114), some (.int (nI k))] [] (sh, hi, hl, hr) := by
  have ho2 : cm_ob sh 2 6 := L.1.1
  refine cm_aload1 (pc := 348) dL_law_348 ?_
  refine cm_aload0 (pc := 349) dL_law_349 ?_
  refine cm_iload3 (pc := 350) dL_law_350 ?_
  refine cm_iconst (pc := 351) (v := 1) dL_law_351 (by decide) ?_
  refine cm_iadd (pc := 352) dL_law_352 ?_
  refine cm_sald (pc := 353) dL_law_353 (vk9 (c := 1) hL hk (by decide) rfl) ?_
  refine cm_aload0 (pc := 354) dL_law_354 ?_
  refine cm_iload3 (pc := 355) dL_law_355 ?_
  refine cm_iconst (pc := 356) (v := 2) dL_law_356 (by decide) ?_
  refine cm_iadd (pc := 357) dL_law_357 ?_
  refine cm_sald (pc := 358) dL_law_358 (vk9 (c := 2) hL hk (by decide) rfl) ?_
  refine cm_aload0 (pc := 359) dL_law_359 ?_
  refine cm_iload3 (pc := 360) dL_law_360 ?_
  refine cm_iconst (pc := 361) (v := 3) dL_law_361 (by decide) ?_
  refine cm_iadd (pc := 362) dL_law_362 ?_
  refine cm_sald (pc := 363) dL_law_363 (vk9 (c := 3) hL hk (by decide) rfl) ?_
  refine cm_aload0 (pc := 364) dL_law_364 ?_
  refine cm_iload3 (pc := 365) dL_law_365 ?_
  refine cm_iconst (pc := 366) (v := 4) dL_law_366 (by decide) ?_
  refine cm_iadd (pc := 367) dL_law_367 ?_
  refine cm_sald (pc := 368) dL_law_368 (vk9 (c := 4) hL hk (by decide) rfl) ?_
  refine cm_aload0 (pc := 369) dL_law_369 ?_
  refine cm_iload3 (pc := 370) dL_law_370 ?_
  refine cm_iconst (pc := 371) (v := 5) dL_law_371 (by decide) ?_
  refine cm_iadd (pc := 372) dL_law_372 ?_
  refine cm_sald (pc := 373) dL_law_373 (vk9 (c := 5) hL hk (by decide) rfl) ?_
  refine cm_V5 (pc := 374) mX6_copy_v mlL_32 dL_law_374 ho2 (by omega) (Nat.le_of_ble_eq_true rfl) (Nat.le_refl _) (Nat.le_refl _) (o_copy L) (fun r374 h374 hq374 => ?_)
  obtain ⟨x9, rfl, ob9, hc9⟩ := hq374
  refine cm_aload2 (pc := 377) dL_law_377 ?_
  refine cm_aload0 (pc := 378) dL_law_378 ?_
  refine cm_iload3 (pc := 379) dL_law_379 ?_
  refine cm_iconst (pc := 380) (v := 1) dL_law_380 (by decide) ?_
  refine cm_iadd (pc := 381) dL_law_381 ?_
  refine cm_sald (pc := 382) dL_law_382 (vk9 (c := 1) hL hk (by decide) rfl) ?_
  refine cm_aload0 (pc := 383) dL_law_383 ?_
  refine cm_iload3 (pc := 384) dL_law_384 ?_
  refine cm_iconst (pc := 385) (v := 2) dL_law_385 (by decide) ?_
  refine cm_iadd (pc := 386) dL_law_386 ?_
  refine cm_sald (pc := 387) dL_law_387 (vk9 (c := 2) hL hk (by decide) rfl) ?_
  refine cm_aload0 (pc := 388) dL_law_388 ?_
  refine cm_iload3 (pc := 389) dL_law_389 ?_
  refine cm_iconst (pc := 390) (v := 3) dL_law_390 (by decide) ?_
  refine cm_iadd (pc := 391) dL_law_391 ?_
  refine cm_sald (pc := 392) dL_law_392 (vk9 (c := 3) hL hk (by decide) rfl) ?_
  refine cm_aload0 (pc := 393) dL_law_393 ?_
  refine cm_iload3 (pc := 394) dL_law_394 ?_
  refine cm_iconst (pc := 395) (v := 4) dL_law_395 (by decide) ?_
  refine cm_iadd (pc := 396) dL_law_396 ?_
  refine cm_sald (pc := 397) dL_law_397 (vk9 (c := 4) hL hk (by decide) rfl) ?_
  refine cm_aload0 (pc := 398) dL_law_398 ?_
  refine cm_iload3 (pc := 399) dL_law_399 ?_
  refine cm_iconst (pc := 400) (v := 5) dL_law_400 (by decide) ?_
  refine cm_iadd (pc := 401) dL_law_401 ?_
  refine cm_sald (pc := 402) dL_law_402 (vk9 (c := 5) hL hk (by decide) rfl) ?_
  refine cm_V5 (pc := 403) mX7_copy_v mlL_36 dL_law_403 ob9 (by omega) (Nat.le_of_ble_eq_true rfl) (Nat.le_refl _) (Nat.le_refl _) (hc9) (fun r403 h403 hq403 => ?_)
  obtain ⟨rfl, H9, l9, r9, rfl, L9⟩ := hq403
  refine cm_icmp_eq (pc := 406) (tgt := 1335) dL_law_406 (by decide) (fun c406 => ?_) (fun q => absurd rfl q)
  exact hst _ _ _ L9
set_option maxRecDepth 20000 in
theorem law_5 (hL : cm_L D ≤ 3072) (hk : k + 6 ≤ cm_L D) (L : LI sh hi hr) (hst : ∀ hi hl hr, LI sh hi hr → cm_g D mL_law 40 135 6373 (fun r _ => r = some (.int 1)) 135 6373 1335 [some (.ref 0), some (.ref 2), some (.ref 114), some (.int (nI k))] [] (sh, hi, hl, hr)) : cm_g D mL_law 40 135 6373 (fun r _ => r = some (.int 1)) 135 6373 411 [some (.ref 0), some (.ref 2), some (.ref 114), some (.int (nI k))] [] (sh, hi, hl, hr) := by
  have ho2 : cm_ob sh 2 6 := L.1.1
  refine cm_aload1 (pc := 411) dL_law_411 ?_
  refine cm_aload0 (pc := 412) dL_law_412 ?_
  refine cm_iload3 (pc := 413) dL_law_413 ?_
  refine cm_iconst (pc := 414) (v := 1) dL_law_414 (by decide) ?_
  refine cm_iadd (pc := 415) dL_law_415 ?_
  refine cm_sald (pc := 416) dL_law_416 (vk9 (c := 1) hL hk (by decide) rfl) ?_
  refine cm_V1 (pc := 417) mX6_mean_v mlL_37 dL_law_417 ho2 (by omega) (Nat.le_of_ble_eq_true rfl) (Nat.le_refl _) (Nat.le_refl _) (o_mean L) (fun r417 h417 hq417 => ?_)
  obtain ⟨x9, rfl, ob9, hc9⟩ := hq417
  refine cm_aload2 (pc := 420) dL_law_420 ?_
  refine cm_aload0 (pc := 421) dL_law_421 ?_
  refine cm_iload3 (pc := 422) dL_law_422 ?_
  refine cm_iconst (pc := 423) (v := 1) dL_law_423 (by decide) ?_
  refine cm_iadd (pc := 424) dL_law_424 ?_
  refine cm_sald (pc := 425) dL_law_425 (vk9 (c := 1) hL hk (by decide) rfl) ?_
  refine cm_V1 (pc := 426) mX7_mean_v mlL_40 dL_law_426 ob9 (by omega) (Nat.le_of_ble_eq_true rfl) (Nat.le_refl _) (Nat.le_refl _) (hc9) (fun r426 h426 hq426 => ?_)
  obtain ⟨rfl, H9, l9, r9, rfl, L9⟩ := hq426
  refine cm_icmp_eq (pc := 429) (tgt := 1335) dL_law_429 (by decide) (fun c429 => ?_) (fun q => absurd rfl q)
  exact hst _ _ _ L9
set_option maxRecDepth 20000 in
theorem law_6 (hL : cm_L D ≤ 3072) (hk : k + 6 ≤ cm_L D) (L : LI sh hi hr) (hst : ∀ hi hl hr, LI sh hi hr → cm_g D mL_law 40 135 6373 (fun r _ => r = some (.int 1)) 135 6373 1335 [some (.ref 0), some (.ref 2), some (.ref 114), some (.int (nI k))] [] (sh, hi, hl, hr)) : cm_g D mL_law 40 135 6373 (fun r _ => r = some (.int 1)) 135 6373 434 [some (.ref 0), some (.ref 2), some (.ref 114), some (.int (nI k))] [] (sh, hi, hl, hr) := by
  have ho2 : cm_ob sh 2 6 := L.1.1
  refine cm_aload1 (pc := 434) dL_law_434 ?_
  refine cm_aload0 (pc := 435) dL_law_435 ?_
  refine cm_iload3 (pc := 436) dL_law_436 ?_
  refine cm_iconst (pc := 437) (v := 1) dL_law_437 (by decide) ?_
  refine cm_iadd (pc := 438) dL_law_438 ?_
  refine cm_sald (pc := 439) dL_law_439 (vk9 (c := 1) hL hk (by decide) rfl) ?_
  refine cm_aload0 (pc := 440) dL_law_440 ?_
  refine cm_iload3 (pc := 441) dL_law_441 ?_
  refine cm_iconst (pc := 442) (v := 2) dL_law_442 (by decide) ?_
  refine cm_iadd (pc := 443) dL_law_443 ?_
  refine cm_sald (pc := 444) dL_law_444 (vk9 (c := 2) hL hk (by decide) rfl) ?_
  refine cm_V2 (pc := 445) mX6_text_v mlL_41 dL_law_445 ho2 (by omega) (Nat.le_of_ble_eq_true rfl) (Nat.le_refl _) (Nat.le_refl _) (o_text L) (fun r445 h445 hq445 => ?_)
  obtain ⟨x9, rfl, ob9, hc9⟩ := hq445
  refine cm_aload2 (pc := 448) dL_law_448 ?_
  refine cm_aload0 (pc := 449) dL_law_449 ?_
  refine cm_iload3 (pc := 450) dL_law_450 ?_
  refine cm_iconst (pc := 451) (v := 1) dL_law_451 (by decide) ?_
  refine cm_iadd (pc := 452) dL_law_452 ?_
  refine cm_sald (pc := 453) dL_law_453 (vk9 (c := 1) hL hk (by decide) rfl) ?_
  refine cm_aload0 (pc := 454) dL_law_454 ?_
  refine cm_iload3 (pc := 455) dL_law_455 ?_
  refine cm_iconst (pc := 456) (v := 2) dL_law_456 (by decide) ?_
  refine cm_iadd (pc := 457) dL_law_457 ?_
  refine cm_sald (pc := 458) dL_law_458 (vk9 (c := 2) hL hk (by decide) rfl) ?_
  refine cm_V2 (pc := 459) mX7_text_v mlL_44 dL_law_459 ob9 (by omega) (Nat.le_of_ble_eq_true rfl) (Nat.le_refl _) (Nat.le_refl _) (hc9) (fun r459 h459 hq459 => ?_)
  obtain ⟨rfl, H9, l9, r9, rfl, L9⟩ := hq459
  refine cm_icmp_eq (pc := 462) (tgt := 1335) dL_law_462 (by decide) (fun c462 => ?_) (fun q => absurd rfl q)
  exact hst _ _ _ L9
set_option maxRecDepth 20000 in
theorem law_7 (hL : cm_L D ≤ 3072) (hk : k + 6 ≤ cm_L D) (L : LI sh hi hr) (hst : ∀ hi hl hr, LI sh hi hr → cm_g D mL_law 40 135 6373 (fun r _ => r = some (.int 1)) 135 6373 1335 [some (.ref 0), some (.ref 2), some (.ref 114), some (.int (nI k))] [] (sh, hi, hl, hr)) : cm_g D mL_law 40 135 6373 (fun r _ => r = some (.int 1)) 135 6373 467 [some (.ref 0), some (.ref 2), some (.ref 114), some (.int (nI k))] [] (sh, hi, hl, hr) := by
  have ho2 : cm_ob sh 2 6 := L.1.1
  refine cm_aload1 (pc := 467) dL_law_467 ?_
  refine cm_aload0 (pc := 468) dL_law_468 ?_
  refine cm_iload3 (pc := 469) dL_law_469 ?_
  refine cm_iconst (pc := 470) (v := 1) dL_law_470 (by decide) ?_
  refine cm_iadd (pc := 471) dL_law_471 ?_
  refine cm_sald (pc := 472) dL_law_472 (vk9 (c := 1) hL hk (by decide) rfl) ?_
  refine cm_aload0 (pc := 473) dL_law_473 ?_
  refine cm_iload3 (pc := 474) dL_law_474 ?_
  refine cm_iconst (pc := 475) (v := 2) dL_law_475 (by decide) ?_
  refine cm_iadd (pc := 476) dL_law_476 ?_
  refine cm_sald (pc := 477) dL_law_477 (vk9 (c := 2) hL hk (by decide) rfl) ?_
  refine cm_aload0 (pc := 478) dL_law_478 ?_
  refine cm_iload3 (pc := 479) dL_law_479 ?_
  refine cm_iconst (pc := 480) (v := 3) dL_law_480 (by decide) ?_
  refine cm_iadd (pc := 481) dL_law_481 ?_
  refine cm_sald (pc := 482) dL_law_482 (vk9 (c := 3) hL hk (by decide) rfl) ?_
  refine cm_V3 (pc := 483) mX6_put_v mlL_45 dL_law_483 ho2 (by omega) (Nat.le_of_ble_eq_true rfl) (Nat.le_refl _) (Nat.le_refl _) (o_put L) (fun r483 h483 hq483 => ?_)
  obtain ⟨x9, rfl, ob9, hc9⟩ := hq483
  refine cm_aload2 (pc := 486) dL_law_486 ?_
  refine cm_aload0 (pc := 487) dL_law_487 ?_
  refine cm_iload3 (pc := 488) dL_law_488 ?_
  refine cm_iconst (pc := 489) (v := 1) dL_law_489 (by decide) ?_
  refine cm_iadd (pc := 490) dL_law_490 ?_
  refine cm_sald (pc := 491) dL_law_491 (vk9 (c := 1) hL hk (by decide) rfl) ?_
  refine cm_aload0 (pc := 492) dL_law_492 ?_
  refine cm_iload3 (pc := 493) dL_law_493 ?_
  refine cm_iconst (pc := 494) (v := 2) dL_law_494 (by decide) ?_
  refine cm_iadd (pc := 495) dL_law_495 ?_
  refine cm_sald (pc := 496) dL_law_496 (vk9 (c := 2) hL hk (by decide) rfl) ?_
  refine cm_aload0 (pc := 497) dL_law_497 ?_
  refine cm_iload3 (pc := 498) dL_law_498 ?_
  refine cm_iconst (pc := 499) (v := 3) dL_law_499 (by decide) ?_
  refine cm_iadd (pc := 500) dL_law_500 ?_
  refine cm_sald (pc := 501) dL_law_501 (vk9 (c := 3) hL hk (by decide) rfl) ?_
  refine cm_V3 (pc := 502) mX7_put_v mlL_48 dL_law_502 ob9 (by omega) (Nat.le_of_ble_eq_true rfl) (Nat.le_refl _) (Nat.le_refl _) (hc9) (fun r502 h502 hq502 => ?_)
  obtain ⟨rfl, H9, l9, r9, rfl, L9⟩ := hq502
  refine cm_icmp_eq (pc := 505) (tgt := 1335) dL_law_505 (by decide) (fun c505 => ?_) (fun q => absurd rfl q)
  exact hst _ _ _ L9
set_option maxRecDepth 20000 in
theorem law_8 (hL : cm_L D ≤ 3072) (hk : k + 6 ≤ cm_L D) (L : LI sh hi hr) (hst : ∀ hi hl hr, LI sh hi hr → cm_g D mL_law 40 135 6373 (fun r _ => r = some (.int 1)) 135 6373 1335 [some (.ref 0), some (.ref 2), some (.ref 114), some (.int (nI k))] [] (sh, hi, hl, hr)) : cm_g D mL_law 40 135 6373 (fun r _ => r = some (.int 1)) 135 6373 510 [some (.ref 0), some (.ref 2), some (.ref 114), some (.int (nI k))] [] (sh, hi, hl, hr) := by
  have ho2 : cm_ob sh 2 6 := L.1.1
  refine cm_aload1 (pc := 510) dL_law_510 ?_
  refine cm_aload0 (pc := 511) dL_law_511 ?_
  refine cm_iload3 (pc := 512) dL_law_512 ?_
  refine cm_iconst (pc := 513) (v := 1) dL_law_513 (by decide) ?_
  refine cm_iadd (pc := 514) dL_law_514 ?_
  refine cm_sald (pc := 515) dL_law_515 (vk9 (c := 1) hL hk (by decide) rfl) ?_
  refine cm_V1 (pc := 516) mX6_fault_v mlL_49 dL_law_516 ho2 (by omega) (Nat.le_of_ble_eq_true rfl) (Nat.le_refl _) (Nat.le_refl _) (o_fault L) (fun r516 h516 hq516 => ?_)
  obtain ⟨x9, rfl, ob9, hc9⟩ := hq516
  refine cm_aload2 (pc := 519) dL_law_519 ?_
  refine cm_aload0 (pc := 520) dL_law_520 ?_
  refine cm_iload3 (pc := 521) dL_law_521 ?_
  refine cm_iconst (pc := 522) (v := 1) dL_law_522 (by decide) ?_
  refine cm_iadd (pc := 523) dL_law_523 ?_
  refine cm_sald (pc := 524) dL_law_524 (vk9 (c := 1) hL hk (by decide) rfl) ?_
  refine cm_V1 (pc := 525) mX7_fault_v mlL_52 dL_law_525 ob9 (by omega) (Nat.le_of_ble_eq_true rfl) (Nat.le_refl _) (Nat.le_refl _) (hc9) (fun r525 h525 hq525 => ?_)
  obtain ⟨rfl, H9, l9, r9, rfl, L9⟩ := hq525
  refine cm_icmp_eq (pc := 528) (tgt := 1335) dL_law_528 (by decide) (fun c528 => ?_) (fun q => absurd rfl q)
  exact hst _ _ _ L9
set_option maxRecDepth 20000 in
theorem law_9 (hL : cm_L D ≤ 3072) (hk : k + 6 ≤ cm_L D) (L : LI sh hi hr) (hst : ∀ hi hl hr, LI sh hi hr → cm_g D mL_law 40 135 6373 (fun r _ => r = some (.int 1)) 135 6373 1335 [some (.ref 0), some (.ref 2), some (.ref 114), some (.int (nI k))] [] (sh, hi, hl, hr)) : cm_g D mL_law 40 135 6373 (fun r _ => r = some (.int 1)) 135 6373 533 [some (.ref 0), some (.ref 2), some (.ref 114), some (.int (nI k))] [] (sh, hi, hl, hr) := by
  have ho2 : cm_ob sh 2 6 := L.1.1
  refine cm_aload1 (pc := 533) dL_law_533 ?_
  refine cm_aload0 (pc := 534) dL_law_534 ?_
  refine cm_iload3 (pc := 535) dL_law_535 ?_
  refine cm_iconst (pc := 536) (v := 1) dL_law_536 (by decide) ?_
  refine cm_iadd (pc := 537) dL_law_537 ?_
  refine cm_sald (pc := 538) dL_law_538 (vk9 (c := 1) hL hk (by decide) rfl) ?_
  refine cm_V1 (pc := 539) mX6_market_v mlL_53 dL_law_539 ho2 (by omega) (Nat.le_of_ble_eq_true rfl) (Nat.le_refl _) (Nat.le_refl _) (o_market L) (fun r539 h539 hq539 => ?_)
  obtain ⟨x9, rfl, ob9, hc9⟩ := hq539
  refine cm_aload2 (pc := 542) dL_law_542 ?_
  refine cm_aload0 (pc := 543) dL_law_543 ?_
  refine cm_iload3 (pc := 544) dL_law_544 ?_
  refine cm_iconst (pc := 545) (v := 1) dL_law_545 (by decide) ?_
  refine cm_iadd (pc := 546) dL_law_546 ?_
  refine cm_sald (pc := 547) dL_law_547 (vk9 (c := 1) hL hk (by decide) rfl) ?_
  refine cm_V1 (pc := 548) mX7_market_v mlL_56 dL_law_548 ob9 (by omega) (Nat.le_of_ble_eq_true rfl) (Nat.le_refl _) (Nat.le_refl _) (hc9) (fun r548 h548 hq548 => ?_)
  obtain ⟨rfl, H9, l9, r9, rfl, L9⟩ := hq548
  refine cm_icmp_eq (pc := 551) (tgt := 1335) dL_law_551 (by decide) (fun c551 => ?_) (fun q => absurd rfl q)
  exact hst _ _ _ L9
set_option maxRecDepth 20000 in
theorem law_10 (hL : cm_L D ≤ 3072) (hk : k + 6 ≤ cm_L D) (L : LI sh hi hr) (hst : ∀ hi hl hr, LI sh hi hr → cm_g D mL_law 40 135 6373 (fun r _ => r = some (.int 1)) 135 6373 1335 [some (.ref 0), some (.ref 2), some (.ref 114), some (.int (nI k))] [] (sh, hi, hl, hr)) : cm_g D mL_law 40 135 6373 (fun r _ => r = some (.int 1)) 135 6373 556 [some (.ref 0), some (.ref 2), some (.ref 114), some (.int (nI k))] [] (sh, hi, hl, hr) := by
  have ho2 : cm_ob sh 2 6 := L.1.1
  refine cm_aload1 (pc := 556) dL_law_556 ?_
  refine cm_aload0 (pc := 557) dL_law_557 ?_
  refine cm_iload3 (pc := 558) dL_law_558 ?_
  refine cm_iconst (pc := 559) (v := 1) dL_law_559 (by decide) ?_
  refine cm_iadd (pc := 560) dL_law_560 ?_
  refine cm_sald (pc := 561) dL_law_561 (vk9 (c := 1) hL hk (by decide) rfl) ?_
  refine cm_aload0 (pc := 562) dL_law_562 ?_
  refine cm_iload3 (pc := 563) dL_law_563 ?_
  refine cm_iconst (pc := 564) (v := 2) dL_law_564 (by decide) ?_
  refine cm_iadd (pc := 565) dL_law_565 ?_
  refine cm_sald (pc := 566) dL_law_566 (vk9 (c := 2) hL hk (by decide) rfl) ?_
  refine cm_V2 (pc := 567) mX6_buyer_v mlL_57 dL_law_567 ho2 (by omega) (Nat.le_of_ble_eq_true rfl) (Nat.le_refl _) (Nat.le_refl _) (o_buyer L) (fun r567 h567 hq567 => ?_)
  obtain ⟨x9, rfl, ob9, hc9⟩ := hq567
  refine cm_aload2 (pc := 570) dL_law_570 ?_
  refine cm_aload0 (pc := 571) dL_law_571 ?_
  refine cm_iload3 (pc := 572) dL_law_572 ?_
  refine cm_iconst (pc := 573) (v := 1) dL_law_573 (by decide) ?_
  refine cm_iadd (pc := 574) dL_law_574 ?_
  refine cm_sald (pc := 575) dL_law_575 (vk9 (c := 1) hL hk (by decide) rfl) ?_
  refine cm_aload0 (pc := 576) dL_law_576 ?_
  refine cm_iload3 (pc := 577) dL_law_577 ?_
  refine cm_iconst (pc := 578) (v := 2) dL_law_578 (by decide) ?_
  refine cm_iadd (pc := 579) dL_law_579 ?_
  refine cm_sald (pc := 580) dL_law_580 (vk9 (c := 2) hL hk (by decide) rfl) ?_
  refine cm_V2 (pc := 581) mX7_buyer_v mlL_60 dL_law_581 ob9 (by omega) (Nat.le_of_ble_eq_true rfl) (Nat.le_refl _) (Nat.le_refl _) (hc9) (fun r581 h581 hq581 => ?_)
  obtain ⟨rfl, H9, l9, r9, rfl, L9⟩ := hq581
  refine cm_icmp_eq (pc := 584) (tgt := 1335) dL_law_584 (by decide) (fun c584 => ?_) (fun q => absurd rfl q)
  exact hst _ _ _ L9
set_option maxRecDepth 20000 in
theorem law_11 (hL : cm_L D ≤ 3072) (hk : k + 6 ≤ cm_L D) (L : LI sh hi hr) (hst : ∀ hi hl hr, LI sh hi hr → cm_g D mL_law 40 135 6373 (fun r _ => r = some (.int 1)) 135 6373 1335 [some (.ref 0), some (.ref 2), some (.ref 114), some (.int (nI k))] [] (sh, hi, hl, hr)) : cm_g D mL_law 40 135 6373 (fun r _ => r = some (.int 1)) 135 6373 589 [some (.ref 0), some (.ref 2), some (.ref 114), some (.int (nI k))] [] (sh, hi, hl, hr) := by
  have ho2 : cm_ob sh 2 6 := L.1.1
  refine cm_aload1 (pc := 589) dL_law_589 ?_
  refine cm_aload0 (pc := 590) dL_law_590 ?_
  refine cm_iload3 (pc := 591) dL_law_591 ?_
  refine cm_iconst (pc := 592) (v := 1) dL_law_592 (by decide) ?_
  refine cm_iadd (pc := 593) dL_law_593 ?_
  refine cm_sald (pc := 594) dL_law_594 (vk9 (c := 1) hL hk (by decide) rfl) ?_
  refine cm_aload0 (pc := 595) dL_law_595 ?_
  refine cm_iload3 (pc := 596) dL_law_596 ?_
  refine cm_iconst (pc := 597) (v := 2) dL_law_597 (by decide) ?_
  refine cm_iadd (pc := 598) dL_law_598 ?_
  refine cm_sald (pc := 599) dL_law_599 (vk9 (c := 2) hL hk (by decide) rfl) ?_
  refine cm_V2 (pc := 600) mX6_stall_v mlL_61 dL_law_600 ho2 (by omega) (Nat.le_of_ble_eq_true rfl) (Nat.le_refl _) (Nat.le_refl _) (o_stall L) (fun r600 h600 hq600 => ?_)
  obtain ⟨x9, rfl, ob9, hc9⟩ := hq600
  refine cm_aload2 (pc := 603) dL_law_603 ?_
  refine cm_aload0 (pc := 604) dL_law_604 ?_
  refine cm_iload3 (pc := 605) dL_law_605 ?_
  refine cm_iconst (pc := 606) (v := 1) dL_law_606 (by decide) ?_
  refine cm_iadd (pc := 607) dL_law_607 ?_
  refine cm_sald (pc := 608) dL_law_608 (vk9 (c := 1) hL hk (by decide) rfl) ?_
  refine cm_aload0 (pc := 609) dL_law_609 ?_
  refine cm_iload3 (pc := 610) dL_law_610 ?_
  refine cm_iconst (pc := 611) (v := 2) dL_law_611 (by decide) ?_
  refine cm_iadd (pc := 612) dL_law_612 ?_
  refine cm_sald (pc := 613) dL_law_613 (vk9 (c := 2) hL hk (by decide) rfl) ?_
  refine cm_V2 (pc := 614) mX7_stall_v mlL_64 dL_law_614 ob9 (by omega) (Nat.le_of_ble_eq_true rfl) (Nat.le_refl _) (Nat.le_refl _) (hc9) (fun r614 h614 hq614 => ?_)
  obtain ⟨rfl, H9, l9, r9, rfl, L9⟩ := hq614
  refine cm_icmp_eq (pc := 617) (tgt := 1335) dL_law_617 (by decide) (fun c617 => ?_) (fun q => absurd rfl q)
  exact hst _ _ _ L9
set_option maxRecDepth 20000 in
theorem law_12 (hL : cm_L D ≤ 3072) (hk : k + 6 ≤ cm_L D) (L : LI sh hi hr) (hst : ∀ hi hl hr, LI sh hi hr → cm_g D mL_law 40 135 6373 (fun r _ => r = some (.int 1)) 135 6373 1335 [some (.ref 0), some (.ref 2), some (.ref 114), some (.int (nI k))] [] (sh, hi, hl, hr)) : cm_g D mL_law 40 135 6373 (fun r _ => r = some (.int 1)) 135 6373 622 [some (.ref 0), some (.ref 2), some (.ref 114), some (.int (nI k))] [] (sh, hi, hl, hr) := by
  have ho2 : cm_ob sh 2 6 := L.1.1
  refine cm_aload1 (pc := 622) dL_law_622 ?_
  refine cm_aload0 (pc := 623) dL_law_623 ?_
  refine cm_iload3 (pc := 624) dL_law_624 ?_
  refine cm_iconst (pc := 625) (v := 1) dL_law_625 (by decide) ?_
  refine cm_iadd (pc := 626) dL_law_626 ?_
  refine cm_sald (pc := 627) dL_law_627 (vk9 (c := 1) hL hk (by decide) rfl) ?_
  refine cm_aload0 (pc := 628) dL_law_628 ?_
  refine cm_iload3 (pc := 629) dL_law_629 ?_
  refine cm_iconst (pc := 630) (v := 2) dL_law_630 (by decide) ?_
  refine cm_iadd (pc := 631) dL_law_631 ?_
  refine cm_sald (pc := 632) dL_law_632 (vk9 (c := 2) hL hk (by decide) rfl) ?_
  refine cm_V2 (pc := 633) mX6_mark_v mlL_65 dL_law_633 ho2 (by omega) (Nat.le_of_ble_eq_true rfl) (Nat.le_refl _) (Nat.le_refl _) (o_mark L) (fun r633 h633 hq633 => ?_)
  obtain ⟨x9, rfl, ob9, hc9⟩ := hq633
  refine cm_aload2 (pc := 636) dL_law_636 ?_
  refine cm_aload0 (pc := 637) dL_law_637 ?_
  refine cm_iload3 (pc := 638) dL_law_638 ?_
  refine cm_iconst (pc := 639) (v := 1) dL_law_639 (by decide) ?_
  refine cm_iadd (pc := 640) dL_law_640 ?_
  refine cm_sald (pc := 641) dL_law_641 (vk9 (c := 1) hL hk (by decide) rfl) ?_
  refine cm_aload0 (pc := 642) dL_law_642 ?_
  refine cm_iload3 (pc := 643) dL_law_643 ?_
  refine cm_iconst (pc := 644) (v := 2) dL_law_644 (by decide) ?_
  refine cm_iadd (pc := 645) dL_law_645 ?_
  refine cm_sald (pc := 646) dL_law_646 (vk9 (c := 2) hL hk (by decide) rfl) ?_
  refine cm_V2 (pc := 647) mX7_mark_v mlL_68 dL_law_647 ob9 (by omega) (Nat.le_of_ble_eq_true rfl) (Nat.le_refl _) (Nat.le_refl _) (hc9) (fun r647 h647 hq647 => ?_)
  obtain ⟨rfl, H9, l9, r9, rfl, L9⟩ := hq647
  refine cm_icmp_eq (pc := 650) (tgt := 1335) dL_law_650 (by decide) (fun c650 => ?_) (fun q => absurd rfl q)
  exact hst _ _ _ L9
set_option maxRecDepth 20000 in
theorem law_13 (hL : cm_L D ≤ 3072) (hk : k + 6 ≤ cm_L D) (L : LI sh hi hr) (hst : ∀ hi hl hr, LI sh hi hr → cm_g D mL_law 40 135 6373 (fun r _ => r = some (.int 1)) 135 6373 1335 [some (.ref 0), some (.ref 2), some (.ref 114), some (.int (nI k))] [] (sh, hi, hl, hr)) : cm_g D mL_law 40 135 6373 (fun r _ => r = some (.int 1)) 135 6373 655 [some (.ref 0), some (.ref 2), some (.ref 114), some (.int (nI k))] [] (sh, hi, hl, hr) := by
  have ho2 : cm_ob sh 2 6 := L.1.1
  refine cm_aload1 (pc := 655) dL_law_655 ?_
  refine cm_aload0 (pc := 656) dL_law_656 ?_
  refine cm_iload3 (pc := 657) dL_law_657 ?_
  refine cm_iconst (pc := 658) (v := 1) dL_law_658 (by decide) ?_
  refine cm_iadd (pc := 659) dL_law_659 ?_
  refine cm_sald (pc := 660) dL_law_660 (vk9 (c := 1) hL hk (by decide) rfl) ?_
  refine cm_aload0 (pc := 661) dL_law_661 ?_
  refine cm_iload3 (pc := 662) dL_law_662 ?_
  refine cm_iconst (pc := 663) (v := 2) dL_law_663 (by decide) ?_
  refine cm_iadd (pc := 664) dL_law_664 ?_
  refine cm_sald (pc := 665) dL_law_665 (vk9 (c := 2) hL hk (by decide) rfl) ?_
  refine cm_V2 (pc := 666) mX6_want_v mlL_69 dL_law_666 ho2 (by omega) (Nat.le_of_ble_eq_true rfl) (Nat.le_refl _) (Nat.le_refl _) (o_want L) (fun r666 h666 hq666 => ?_)
  obtain ⟨x9, rfl, ob9, hc9⟩ := hq666
  refine cm_aload2 (pc := 669) dL_law_669 ?_
  refine cm_aload0 (pc := 670) dL_law_670 ?_
  refine cm_iload3 (pc := 671) dL_law_671 ?_
  refine cm_iconst (pc := 672) (v := 1) dL_law_672 (by decide) ?_
  refine cm_iadd (pc := 673) dL_law_673 ?_
  refine cm_sald (pc := 674) dL_law_674 (vk9 (c := 1) hL hk (by decide) rfl) ?_
  refine cm_aload0 (pc := 675) dL_law_675 ?_
  refine cm_iload3 (pc := 676) dL_law_676 ?_
  refine cm_iconst (pc := 677) (v := 2) dL_law_677 (by decide) ?_
  refine cm_iadd (pc := 678) dL_law_678 ?_
  refine cm_sald (pc := 679) dL_law_679 (vk9 (c := 2) hL hk (by decide) rfl) ?_
  refine cm_V2 (pc := 680) mX7_want_v mlL_72 dL_law_680 ob9 (by omega) (Nat.le_of_ble_eq_true rfl) (Nat.le_refl _) (Nat.le_refl _) (hc9) (fun r680 h680 hq680 => ?_)
  obtain ⟨rfl, H9, l9, r9, rfl, L9⟩ := hq680
  refine cm_icmp_eq (pc := 683) (tgt := 1335) dL_law_683 (by decide) (fun c683 => ?_) (fun q => absurd rfl q)
  exact hst _ _ _ L9
set_option maxRecDepth 20000 in
theorem law_14 (hL : cm_L D ≤ 3072) (hk : k + 6 ≤ cm_L D) (L : LI sh hi hr) (hst : ∀ hi hl hr, LI sh hi hr → cm_g D mL_law 40 135 6373 (fun r _ => r = some (.int 1)) 135 6373 1335 [some (.ref 0), some (.ref 2), some (.ref 114), some (.int (nI k))] [] (sh, hi, hl, hr)) : cm_g D mL_law 40 135 6373 (fun r _ => r = some (.int 1)) 135 6373 688 [some (.ref 0), some (.ref 2), some (.ref 114), some (.int (nI k))] [] (sh, hi, hl, hr) := by
  have ho2 : cm_ob sh 2 6 := L.1.1
  refine cm_aload1 (pc := 688) dL_law_688 ?_
  refine cm_aload0 (pc := 689) dL_law_689 ?_
  refine cm_iload3 (pc := 690) dL_law_690 ?_
  refine cm_iconst (pc := 691) (v := 1) dL_law_691 (by decide) ?_
  refine cm_iadd (pc := 692) dL_law_692 ?_
  refine cm_sald (pc := 693) dL_law_693 (vk9 (c := 1) hL hk (by decide) rfl) ?_
  refine cm_aload0 (pc := 694) dL_law_694 ?_
  refine cm_iload3 (pc := 695) dL_law_695 ?_
  refine cm_iconst (pc := 696) (v := 2) dL_law_696 (by decide) ?_
  refine cm_iadd (pc := 697) dL_law_697 ?_
  refine cm_sald (pc := 698) dL_law_698 (vk9 (c := 2) hL hk (by decide) rfl) ?_
  refine cm_V2 (pc := 699) mX6_price_v mlL_73 dL_law_699 ho2 (by omega) (Nat.le_of_ble_eq_true rfl) (Nat.le_refl _) (Nat.le_refl _) (o_price L) (fun r699 h699 hq699 => ?_)
  obtain ⟨x9, rfl, ob9, hc9⟩ := hq699
  refine cm_aload2 (pc := 702) dL_law_702 ?_
  refine cm_aload0 (pc := 703) dL_law_703 ?_
  refine cm_iload3 (pc := 704) dL_law_704 ?_
  refine cm_iconst (pc := 705) (v := 1) dL_law_705 (by decide) ?_
  refine cm_iadd (pc := 706) dL_law_706 ?_
  refine cm_sald (pc := 707) dL_law_707 (vk9 (c := 1) hL hk (by decide) rfl) ?_
  refine cm_aload0 (pc := 708) dL_law_708 ?_
  refine cm_iload3 (pc := 709) dL_law_709 ?_
  refine cm_iconst (pc := 710) (v := 2) dL_law_710 (by decide) ?_
  refine cm_iadd (pc := 711) dL_law_711 ?_
  refine cm_sald (pc := 712) dL_law_712 (vk9 (c := 2) hL hk (by decide) rfl) ?_
  refine cm_V2 (pc := 713) mX7_price_v mlL_76 dL_law_713 ob9 (by omega) (Nat.le_of_ble_eq_true rfl) (Nat.le_refl _) (Nat.le_refl _) (hc9) (fun r713 h713 hq713 => ?_)
  obtain ⟨rfl, H9, l9, r9, rfl, L9⟩ := hq713
  refine cm_icmp_eq (pc := 716) (tgt := 1335) dL_law_716 (by decide) (fun c716 => ?_) (fun q => absurd rfl q)
  exact hst _ _ _ L9
set_option maxRecDepth 20000 in
theorem law_15 (hL : cm_L D ≤ 3072) (hk : k + 6 ≤ cm_L D) (L : LI sh hi hr) (hst : ∀ hi hl hr, LI sh hi hr → cm_g D mL_law 40 135 6373 (fun r _ => r = some (.int 1)) 135 6373 1335 [some (.ref 0), some (.ref 2), some (.ref 114), some (.int (nI k))] [] (sh, hi, hl, hr)) : cm_g D mL_law 40 135 6373 (fun r _ => r = some (.int 1)) 135 6373 721 [some (.ref 0), some (.ref 2), some (.ref 114), some (.int (nI k))] [] (sh, hi, hl, hr) := by
  have ho2 : cm_ob sh 2 6 := L.1.1
  refine cm_aload1 (pc := 721) dL_law_721 ?_
  refine cm_aload0 (pc := 722) dL_law_722 ?_
  refine cm_iload3 (pc := 723) dL_law_723 ?_
  refine cm_iconst (pc := 724) (v := 1) dL_law_724 (by decide) ?_
  refine cm_iadd (pc := 725) dL_law_725 ?_
  refine cm_sald (pc := 726) dL_law_726 (vk9 (c := 1) hL hk (by decide) rfl) ?_
  refine cm_V1 (pc := 727) mX6_wish_v mlL_77 dL_law_727 ho2 (by omega) (Nat.le_of_ble_eq_true rfl) (Nat.le_refl _) (Nat.le_refl _) (o_wish L) (fun r727 h727 hq727 => ?_)
  obtain ⟨x9, rfl, ob9, hc9⟩ := hq727
  refine cm_aload2 (pc := 730) dL_law_730 ?_
  refine cm_aload0 (pc := 731) dL_law_731 ?_
  refine cm_iload3 (pc := 732) dL_law_732 ?_
  refine cm_iconst (pc := 733) (v := 1) dL_law_733 (by decide) ?_
  refine cm_iadd (pc := 734) dL_law_734 ?_
  refine cm_sald (pc := 735) dL_law_735 (vk9 (c := 1) hL hk (by decide) rfl) ?_
  refine cm_V1 (pc := 736) mX7_wish_v mlL_80 dL_law_736 ob9 (by omega) (Nat.le_of_ble_eq_true rfl) (Nat.le_refl _) (Nat.le_refl _) (hc9) (fun r736 h736 hq736 => ?_)
  obtain ⟨rfl, H9, l9, r9, rfl, L9⟩ := hq736
  refine cm_icmp_eq (pc := 739) (tgt := 1335) dL_law_739 (by decide) (fun c739 => ?_) (fun q => absurd rfl q)
  exact hst _ _ _ L9
set_option maxRecDepth 20000 in
theorem law_16 (hL : cm_L D ≤ 3072) (hk : k + 6 ≤ cm_L D) (L : LI sh hi hr) (hst : ∀ hi hl hr, LI sh hi hr → cm_g D mL_law 40 135 6373 (fun r _ => r = some (.int 1)) 135 6373 1335 [some (.ref 0), some (.ref 2), some (.ref 114), some (.int (nI k))] [] (sh, hi, hl, hr)) : cm_g D mL_law 40 135 6373 (fun r _ => r = some (.int 1)) 135 6373 744 [some (.ref 0), some (.ref 2), some (.ref 114), some (.int (nI k))] [] (sh, hi, hl, hr) := by
  have ho2 : cm_ob sh 2 6 := L.1.1
  refine cm_aload1 (pc := 744) dL_law_744 ?_
  refine cm_aload0 (pc := 745) dL_law_745 ?_
  refine cm_iload3 (pc := 746) dL_law_746 ?_
  refine cm_iconst (pc := 747) (v := 1) dL_law_747 (by decide) ?_
  refine cm_iadd (pc := 748) dL_law_748 ?_
  refine cm_sald (pc := 749) dL_law_749 (vk9 (c := 1) hL hk (by decide) rfl) ?_
  refine cm_V1 (pc := 750) mX6_minutes_v mlL_81 dL_law_750 ho2 (by omega) (Nat.le_of_ble_eq_true rfl) (Nat.le_refl _) (Nat.le_refl _) (o_minutes L) (fun r750 h750 hq750 => ?_)
  obtain ⟨x9, rfl, ob9, hc9⟩ := hq750
  refine cm_aload2 (pc := 753) dL_law_753 ?_
  refine cm_aload0 (pc := 754) dL_law_754 ?_
  refine cm_iload3 (pc := 755) dL_law_755 ?_
  refine cm_iconst (pc := 756) (v := 1) dL_law_756 (by decide) ?_
  refine cm_iadd (pc := 757) dL_law_757 ?_
  refine cm_sald (pc := 758) dL_law_758 (vk9 (c := 1) hL hk (by decide) rfl) ?_
  refine cm_V1 (pc := 759) mX7_minutes_v mlL_84 dL_law_759 ob9 (by omega) (Nat.le_of_ble_eq_true rfl) (Nat.le_refl _) (Nat.le_refl _) (hc9) (fun r759 h759 hq759 => ?_)
  obtain ⟨rfl, H9, l9, r9, rfl, L9⟩ := hq759
  refine cm_icmp_eq (pc := 762) (tgt := 1335) dL_law_762 (by decide) (fun c762 => ?_) (fun q => absurd rfl q)
  exact hst _ _ _ L9
set_option maxRecDepth 20000 in
theorem law_17 (hL : cm_L D ≤ 3072) (hk : k + 6 ≤ cm_L D) (L : LI sh hi hr) (hst : ∀ hi hl hr, LI sh hi hr → cm_g D mL_law 40 135 6373 (fun r _ => r = some (.int 1)) 135 6373 1335 [some (.ref 0), some (.ref 2), some (.ref 114), some (.int (nI k))] [] (sh, hi, hl, hr)) : cm_g D mL_law 40 135 6373 (fun r _ => r = some (.int 1)) 135 6373 767 [some (.ref 0), some (.ref 2), some (.ref 114), some (.int (nI k))] [] (sh, hi, hl, hr) := by
  have ho2 : cm_ob sh 2 6 := L.1.1
  refine cm_aload1 (pc := 767) dL_law_767 ?_
  refine cm_aload0 (pc := 768) dL_law_768 ?_
  refine cm_iload3 (pc := 769) dL_law_769 ?_
  refine cm_iconst (pc := 770) (v := 1) dL_law_770 (by decide) ?_
  refine cm_iadd (pc := 771) dL_law_771 ?_
  refine cm_sald (pc := 772) dL_law_772 (vk9 (c := 1) hL hk (by decide) rfl) ?_
  refine cm_V1 (pc := 773) mX6_undo_v mlL_85 dL_law_773 ho2 (by omega) (Nat.le_of_ble_eq_true rfl) (Nat.le_refl _) (Nat.le_refl _) (o_undo L) (fun r773 h773 hq773 => ?_)
  obtain ⟨x9, rfl, ob9, hc9⟩ := hq773
  refine cm_aload2 (pc := 776) dL_law_776 ?_
  refine cm_aload0 (pc := 777) dL_law_777 ?_
  refine cm_iload3 (pc := 778) dL_law_778 ?_
  refine cm_iconst (pc := 779) (v := 1) dL_law_779 (by decide) ?_
  refine cm_iadd (pc := 780) dL_law_780 ?_
  refine cm_sald (pc := 781) dL_law_781 (vk9 (c := 1) hL hk (by decide) rfl) ?_
  refine cm_V1 (pc := 782) mX7_undo_v mlL_88 dL_law_782 ob9 (by omega) (Nat.le_of_ble_eq_true rfl) (Nat.le_refl _) (Nat.le_refl _) (hc9) (fun r782 h782 hq782 => ?_)
  obtain ⟨rfl, H9, l9, r9, rfl, L9⟩ := hq782
  refine cm_icmp_eq (pc := 785) (tgt := 1335) dL_law_785 (by decide) (fun c785 => ?_) (fun q => absurd rfl q)
  exact hst _ _ _ L9
set_option maxRecDepth 20000 in
theorem law_18 (hL : cm_L D ≤ 3072) (hk : k + 6 ≤ cm_L D) (L : LI sh hi hr) (hst : ∀ hi hl hr, LI sh hi hr → cm_g D mL_law 40 135 6373 (fun r _ => r = some (.int 1)) 135 6373 1335 [some (.ref 0), some (.ref 2), some (.ref 114), some (.int (nI k))] [] (sh, hi, hl, hr)) : cm_g D mL_law 40 135 6373 (fun r _ => r = some (.int 1)) 135 6373 790 [some (.ref 0), some (.ref 2), some (.ref 114), some (.int (nI k))] [] (sh, hi, hl, hr) := by
  have ho2 : cm_ob sh 2 6 := L.1.1
  refine cm_aload1 (pc := 790) dL_law_790 ?_
  refine cm_aload0 (pc := 791) dL_law_791 ?_
  refine cm_iload3 (pc := 792) dL_law_792 ?_
  refine cm_iconst (pc := 793) (v := 1) dL_law_793 (by decide) ?_
  refine cm_iadd (pc := 794) dL_law_794 ?_
  refine cm_sald (pc := 795) dL_law_795 (vk9 (c := 1) hL hk (by decide) rfl) ?_
  refine cm_V1 (pc := 796) mX6_turn_v mlL_89 dL_law_796 ho2 (by omega) (Nat.le_of_ble_eq_true rfl) (Nat.le_refl _) (Nat.le_refl _) (o_turn L) (fun r796 h796 hq796 => ?_)
  obtain ⟨x9, rfl, ob9, hc9⟩ := hq796
  refine cm_aload2 (pc := 799) dL_law_799 ?_
  refine cm_aload0 (pc := 800) dL_law_800 ?_
  refine cm_iload3 (pc := 801) dL_law_801 ?_
  refine cm_iconst (pc := 802) (v := 1) dL_law_802 (by decide) ?_
  refine cm_iadd (pc := 803) dL_law_803 ?_
  refine cm_sald (pc := 804) dL_law_804 (vk9 (c := 1) hL hk (by decide) rfl) ?_
  refine cm_V1 (pc := 805) mX7_turn_v mlL_92 dL_law_805 ob9 (by omega) (Nat.le_of_ble_eq_true rfl) (Nat.le_refl _) (Nat.le_refl _) (hc9) (fun r805 h805 hq805 => ?_)
  obtain ⟨rfl, H9, l9, r9, rfl, L9⟩ := hq805
  refine cm_icmp_eq (pc := 808) (tgt := 1335) dL_law_808 (by decide) (fun c808 => ?_) (fun q => absurd rfl q)
  exact hst _ _ _ L9
set_option maxRecDepth 20000 in
theorem law_19 (hL : cm_L D ≤ 3072) (hk : k + 6 ≤ cm_L D) (L : LI sh hi hr) (hst : ∀ hi hl hr, LI sh hi hr → cm_g D mL_law 40 135 6373 (fun r _ => r = some (.int 1)) 135 6373 1335 [some (.ref 0), some (.ref 2), some (.ref 114), some (.int (nI k))] [] (sh, hi, hl, hr)) : cm_g D mL_law 40 135 6373 (fun r _ => r = some (.int 1)) 135 6373 813 [some (.ref 0), some (.ref 2), some (.ref 114), some (.int (nI k))] [] (sh, hi, hl, hr) := by
  have ho2 : cm_ob sh 2 6 := L.1.1
  refine cm_aload1 (pc := 813) dL_law_813 ?_
  refine cm_V0 (pc := 814) mX6_shade_v mlL_93 dL_law_814 ho2 (by omega) (Nat.le_of_ble_eq_true rfl) (Nat.le_refl _) (Nat.le_refl _) (o_shade L) (fun r814 h814 hq814 => ?_)
  obtain ⟨x9, rfl, ob9, hc9⟩ := hq814
  refine cm_aload2 (pc := 817) dL_law_817 ?_
  refine cm_V0 (pc := 818) mX7_shade_v mlL_97 dL_law_818 ob9 (by omega) (Nat.le_of_ble_eq_true rfl) (Nat.le_refl _) (Nat.le_refl _) (hc9) (fun r818 h818 hq818 => ?_)
  obtain ⟨rfl, H9, l9, r9, rfl, L9⟩ := hq818
  refine cm_icmp_eq (pc := 821) (tgt := 1335) dL_law_821 (by decide) (fun c821 => ?_) (fun q => absurd rfl q)
  exact hst _ _ _ L9
set_option maxRecDepth 20000 in
theorem law_20 (hL : cm_L D ≤ 3072) (hk : k + 6 ≤ cm_L D) (L : LI sh hi hr) (hst : ∀ hi hl hr, LI sh hi hr → cm_g D mL_law 40 135 6373 (fun r _ => r = some (.int 1)) 135 6373 1335 [some (.ref 0), some (.ref 2), some (.ref 114), some (.int (nI k))] [] (sh, hi, hl, hr)) : cm_g D mL_law 40 135 6373 (fun r _ => r = some (.int 1)) 135 6373 826 [some (.ref 0), some (.ref 2), some (.ref 114), some (.int (nI k))] [] (sh, hi, hl, hr) := by
  have ho2 : cm_ob sh 2 6 := L.1.1
  refine cm_aload1 (pc := 826) dL_law_826 ?_
  refine cm_V0 (pc := 827) mX6_shaded_v mlL_98 dL_law_827 ho2 (by omega) (Nat.le_of_ble_eq_true rfl) (Nat.le_refl _) (Nat.le_refl _) (o_shaded L) (fun r827 h827 hq827 => ?_)
  obtain ⟨x9, rfl, ob9, hc9⟩ := hq827
  refine cm_aload2 (pc := 830) dL_law_830 ?_
  refine cm_V0 (pc := 831) mX7_shaded_v mlL_101 dL_law_831 ob9 (by omega) (Nat.le_of_ble_eq_true rfl) (Nat.le_refl _) (Nat.le_refl _) (hc9) (fun r831 h831 hq831 => ?_)
  obtain ⟨rfl, H9, l9, r9, rfl, L9⟩ := hq831
  refine cm_icmp_eq (pc := 834) (tgt := 1335) dL_law_834 (by decide) (fun c834 => ?_) (fun q => absurd rfl q)
  exact hst _ _ _ L9
set_option maxRecDepth 20000 in
theorem law_21 (hL : cm_L D ≤ 3072) (hk : k + 6 ≤ cm_L D) (L : LI sh hi hr) (hst : ∀ hi hl hr, LI sh hi hr → cm_g D mL_law 40 135 6373 (fun r _ => r = some (.int 1)) 135 6373 1335 [some (.ref 0), some (.ref 2), some (.ref 114), some (.int (nI k))] [] (sh, hi, hl, hr)) : cm_g D mL_law 40 135 6373 (fun r _ => r = some (.int 1)) 135 6373 839 [some (.ref 0), some (.ref 2), some (.ref 114), some (.int (nI k))] [] (sh, hi, hl, hr) := by
  have ho2 : cm_ob sh 2 6 := L.1.1
  refine cm_aload1 (pc := 839) dL_law_839 ?_
  refine cm_aload0 (pc := 840) dL_law_840 ?_
  refine cm_iload3 (pc := 841) dL_law_841 ?_
  refine cm_iconst (pc := 842) (v := 1) dL_law_842 (by decide) ?_
  refine cm_iadd (pc := 843) dL_law_843 ?_
  refine cm_sald (pc := 844) dL_law_844 (vk9 (c := 1) hL hk (by decide) rfl) ?_
  refine cm_V1 (pc := 845) mX6_keep_v mlL_102 dL_law_845 ho2 (by omega) (Nat.le_of_ble_eq_true rfl) (Nat.le_refl _) (Nat.le_refl _) (o_keep L) (fun r845 h845 hq845 => ?_)
  obtain ⟨x9, rfl, ob9, hc9⟩ := hq845
  refine cm_aload2 (pc := 848) dL_law_848 ?_
  refine cm_aload0 (pc := 849) dL_law_849 ?_
  refine cm_iload3 (pc := 850) dL_law_850 ?_
  refine cm_iconst (pc := 851) (v := 1) dL_law_851 (by decide) ?_
  refine cm_iadd (pc := 852) dL_law_852 ?_
  refine cm_sald (pc := 853) dL_law_853 (vk9 (c := 1) hL hk (by decide) rfl) ?_
  refine cm_V1 (pc := 854) mX7_keep_v mlL_105 dL_law_854 ob9 (by omega) (Nat.le_of_ble_eq_true rfl) (Nat.le_refl _) (Nat.le_refl _) (hc9) (fun r854 h854 hq854 => ?_)
  obtain ⟨rfl, H9, l9, r9, rfl, L9⟩ := hq854
  refine cm_icmp_eq (pc := 857) (tgt := 1335) dL_law_857 (by decide) (fun c857 => ?_) (fun q => absurd rfl q)
  exact hst _ _ _ L9
set_option maxRecDepth 20000 in
theorem law_22 (hL : cm_L D ≤ 3072) (hk : k + 6 ≤ cm_L D) (L : LI sh hi hr) (hst : ∀ hi hl hr, LI sh hi hr → cm_g D mL_law 40 135 6373 (fun r _ => r = some (.int 1)) 135 6373 1335 [some (.ref 0), some (.ref 2), some (.ref 114), some (.int (nI k))] [] (sh, hi, hl, hr)) : cm_g D mL_law 40 135 6373 (fun r _ => r = some (.int 1)) 135 6373 862 [some (.ref 0), some (.ref 2), some (.ref 114), some (.int (nI k))] [] (sh, hi, hl, hr) := by
  have ho2 : cm_ob sh 2 6 := L.1.1
  refine cm_aload1 (pc := 862) dL_law_862 ?_
  refine cm_aload0 (pc := 863) dL_law_863 ?_
  refine cm_iload3 (pc := 864) dL_law_864 ?_
  refine cm_iconst (pc := 865) (v := 1) dL_law_865 (by decide) ?_
  refine cm_iadd (pc := 866) dL_law_866 ?_
  refine cm_sald (pc := 867) dL_law_867 (vk9 (c := 1) hL hk (by decide) rfl) ?_
  refine cm_V1 (pc := 868) mX6_on_v mlL_106 dL_law_868 ho2 (by omega) (Nat.le_of_ble_eq_true rfl) (Nat.le_refl _) (Nat.le_refl _) (o_on L) (fun r868 h868 hq868 => ?_)
  obtain ⟨x9, rfl, ob9, hc9⟩ := hq868
  refine cm_aload2 (pc := 871) dL_law_871 ?_
  refine cm_aload0 (pc := 872) dL_law_872 ?_
  refine cm_iload3 (pc := 873) dL_law_873 ?_
  refine cm_iconst (pc := 874) (v := 1) dL_law_874 (by decide) ?_
  refine cm_iadd (pc := 875) dL_law_875 ?_
  refine cm_sald (pc := 876) dL_law_876 (vk9 (c := 1) hL hk (by decide) rfl) ?_
  refine cm_V1 (pc := 877) mX7_on_v mlL_109 dL_law_877 ob9 (by omega) (Nat.le_of_ble_eq_true rfl) (Nat.le_refl _) (Nat.le_refl _) (hc9) (fun r877 h877 hq877 => ?_)
  obtain ⟨rfl, H9, l9, r9, rfl, L9⟩ := hq877
  refine cm_icmp_eq (pc := 880) (tgt := 1335) dL_law_880 (by decide) (fun c880 => ?_) (fun q => absurd rfl q)
  exact hst _ _ _ L9
set_option maxRecDepth 20000 in
theorem law_23 (hL : cm_L D ≤ 3072) (hk : k + 6 ≤ cm_L D) (L : LI sh hi hr) (hst : ∀ hi hl hr, LI sh hi hr → cm_g D mL_law 40 135 6373 (fun r _ => r = some (.int 1)) 135 6373 1335 [some (.ref 0), some (.ref 2), some (.ref 114), some (.int (nI k))] [] (sh, hi, hl, hr)) : cm_g D mL_law 40 135 6373 (fun r _ => r = some (.int 1)) 135 6373 885 [some (.ref 0), some (.ref 2), some (.ref 114), some (.int (nI k))] [] (sh, hi, hl, hr) := by
  have ho2 : cm_ob sh 2 6 := L.1.1
  refine cm_aload1 (pc := 885) dL_law_885 ?_
  refine cm_aload0 (pc := 886) dL_law_886 ?_
  refine cm_iload3 (pc := 887) dL_law_887 ?_
  refine cm_iconst (pc := 888) (v := 1) dL_law_888 (by decide) ?_
  refine cm_iadd (pc := 889) dL_law_889 ?_
  refine cm_sald (pc := 890) dL_law_890 (vk9 (c := 1) hL hk (by decide) rfl) ?_
  refine cm_V1 (pc := 891) mX6_when_v mlL_110 dL_law_891 ho2 (by omega) (Nat.le_of_ble_eq_true rfl) (Nat.le_refl _) (Nat.le_refl _) (o_when L) (fun r891 h891 hq891 => ?_)
  obtain ⟨x9, rfl, ob9, hc9⟩ := hq891
  refine cm_aload2 (pc := 894) dL_law_894 ?_
  refine cm_aload0 (pc := 895) dL_law_895 ?_
  refine cm_iload3 (pc := 896) dL_law_896 ?_
  refine cm_iconst (pc := 897) (v := 1) dL_law_897 (by decide) ?_
  refine cm_iadd (pc := 898) dL_law_898 ?_
  refine cm_sald (pc := 899) dL_law_899 (vk9 (c := 1) hL hk (by decide) rfl) ?_
  refine cm_V1 (pc := 900) mX7_when_v mlL_113 dL_law_900 ob9 (by omega) (Nat.le_of_ble_eq_true rfl) (Nat.le_refl _) (Nat.le_refl _) (hc9) (fun r900 h900 hq900 => ?_)
  obtain ⟨rfl, H9, l9, r9, rfl, L9⟩ := hq900
  refine cm_icmp_eq (pc := 903) (tgt := 1335) dL_law_903 (by decide) (fun c903 => ?_) (fun q => absurd rfl q)
  exact hst _ _ _ L9
set_option maxRecDepth 20000 in
theorem law_24 (hL : cm_L D ≤ 3072) (hk : k + 6 ≤ cm_L D) (L : LI sh hi hr) (hst : ∀ hi hl hr, LI sh hi hr → cm_g D mL_law 40 135 6373 (fun r _ => r = some (.int 1)) 135 6373 1335 [some (.ref 0), some (.ref 2), some (.ref 114), some (.int (nI k))] [] (sh, hi, hl, hr)) : cm_g D mL_law 40 135 6373 (fun r _ => r = some (.int 1)) 135 6373 908 [some (.ref 0), some (.ref 2), some (.ref 114), some (.int (nI k))] [] (sh, hi, hl, hr) := by
  have ho2 : cm_ob sh 2 6 := L.1.1
  refine cm_aload1 (pc := 908) dL_law_908 ?_
  refine cm_aload0 (pc := 909) dL_law_909 ?_
  refine cm_iload3 (pc := 910) dL_law_910 ?_
  refine cm_iconst (pc := 911) (v := 1) dL_law_911 (by decide) ?_
  refine cm_iadd (pc := 912) dL_law_912 ?_
  refine cm_sald (pc := 913) dL_law_913 (vk9 (c := 1) hL hk (by decide) rfl) ?_
  refine cm_V1 (pc := 914) mX6_bought_v mlL_114 dL_law_914 ho2 (by omega) (Nat.le_of_ble_eq_true rfl) (Nat.le_refl _) (Nat.le_refl _) (o_bought L) (fun r914 h914 hq914 => ?_)
  obtain ⟨x9, rfl, ob9, hc9⟩ := hq914
  refine cm_aload2 (pc := 917) dL_law_917 ?_
  refine cm_aload0 (pc := 918) dL_law_918 ?_
  refine cm_iload3 (pc := 919) dL_law_919 ?_
  refine cm_iconst (pc := 920) (v := 1) dL_law_920 (by decide) ?_
  refine cm_iadd (pc := 921) dL_law_921 ?_
  refine cm_sald (pc := 922) dL_law_922 (vk9 (c := 1) hL hk (by decide) rfl) ?_
  refine cm_V1 (pc := 923) mX7_bought_v mlL_117 dL_law_923 ob9 (by omega) (Nat.le_of_ble_eq_true rfl) (Nat.le_refl _) (Nat.le_refl _) (hc9) (fun r923 h923 hq923 => ?_)
  obtain ⟨rfl, H9, l9, r9, rfl, L9⟩ := hq923
  refine cm_icmp_eq (pc := 926) (tgt := 1335) dL_law_926 (by decide) (fun c926 => ?_) (fun q => absurd rfl q)
  exact hst _ _ _ L9
set_option maxRecDepth 20000 in
theorem law_25 (hL : cm_L D ≤ 3072) (hk : k + 6 ≤ cm_L D) (L : LI sh hi hr) (hst : ∀ hi hl hr, LI sh hi hr → cm_g D mL_law 40 135 6373 (fun r _ => r = some (.int 1)) 135 6373 1335 [some (.ref 0), some (.ref 2), some (.ref 114), some (.int (nI k))] [] (sh, hi, hl, hr)) : cm_g D mL_law 40 135 6373 (fun r _ => r = some (.int 1)) 135 6373 931 [some (.ref 0), some (.ref 2), some (.ref 114), some (.int (nI k))] [] (sh, hi, hl, hr) := by
  have ho2 : cm_ob sh 2 6 := L.1.1
  refine cm_aload1 (pc := 931) dL_law_931 ?_
  refine cm_V0 (pc := 932) mX6_rest_v mlL_118 dL_law_932 ho2 (by omega) (Nat.le_of_ble_eq_true rfl) (Nat.le_refl _) (Nat.le_refl _) (o_rest L) (fun r932 h932 hq932 => ?_)
  obtain ⟨x9, rfl, ob9, hc9⟩ := hq932
  refine cm_aload2 (pc := 935) dL_law_935 ?_
  refine cm_V0 (pc := 936) mX7_rest_v mlL_121 dL_law_936 ob9 (by omega) (Nat.le_of_ble_eq_true rfl) (Nat.le_refl _) (Nat.le_refl _) (hc9) (fun r936 h936 hq936 => ?_)
  obtain ⟨rfl, H9, l9, r9, rfl, L9⟩ := hq936
  refine cm_icmp_eq (pc := 939) (tgt := 1335) dL_law_939 (by decide) (fun c939 => ?_) (fun q => absurd rfl q)
  exact hst _ _ _ L9
set_option maxRecDepth 20000 in
theorem law_26 (hL : cm_L D ≤ 3072) (hk : k + 6 ≤ cm_L D) (L : LI sh hi hr) (hst : ∀ hi hl hr, LI sh hi hr → cm_g D mL_law 40 135 6373 (fun r _ => r = some (.int 1)) 135 6373 1335 [some (.ref 0), some (.ref 2), some (.ref 114), some (.int (nI k))] [] (sh, hi, hl, hr)) : cm_g D mL_law 40 135 6373 (fun r _ => r = some (.int 1)) 135 6373 944 [some (.ref 0), some (.ref 2), some (.ref 114), some (.int (nI k))] [] (sh, hi, hl, hr) := by
  have ho2 : cm_ob sh 2 6 := L.1.1
  refine cm_aload1 (pc := 944) dL_law_944 ?_
  refine cm_aload0 (pc := 945) dL_law_945 ?_
  refine cm_iload3 (pc := 946) dL_law_946 ?_
  refine cm_iconst (pc := 947) (v := 1) dL_law_947 (by decide) ?_
  refine cm_iadd (pc := 948) dL_law_948 ?_
  refine cm_sald (pc := 949) dL_law_949 (vk9 (c := 1) hL hk (by decide) rfl) ?_
  refine cm_aload0 (pc := 950) dL_law_950 ?_
  refine cm_iload3 (pc := 951) dL_law_951 ?_
  refine cm_iconst (pc := 952) (v := 2) dL_law_952 (by decide) ?_
  refine cm_iadd (pc := 953) dL_law_953 ?_
  refine cm_sald (pc := 954) dL_law_954 (vk9 (c := 2) hL hk (by decide) rfl) ?_
  refine cm_V2 (pc := 955) mX6_track_v mlL_122 dL_law_955 ho2 (by omega) (Nat.le_of_ble_eq_true rfl) (Nat.le_refl _) (Nat.le_refl _) (o_track L) (fun r955 h955 hq955 => ?_)
  obtain ⟨x9, rfl, ob9, hc9⟩ := hq955
  refine cm_aload2 (pc := 958) dL_law_958 ?_
  refine cm_aload0 (pc := 959) dL_law_959 ?_
  refine cm_iload3 (pc := 960) dL_law_960 ?_
  refine cm_iconst (pc := 961) (v := 1) dL_law_961 (by decide) ?_
  refine cm_iadd (pc := 962) dL_law_962 ?_
  refine cm_sald (pc := 963) dL_law_963 (vk9 (c := 1) hL hk (by decide) rfl) ?_
  refine cm_aload0 (pc := 964) dL_law_964 ?_
  refine cm_iload3 (pc := 965) dL_law_965 ?_
  refine cm_iconst (pc := 966) (v := 2) dL_law_966 (by decide) ?_
  refine cm_iadd (pc := 967) dL_law_967 ?_
  refine cm_sald (pc := 968) dL_law_968 (vk9 (c := 2) hL hk (by decide) rfl) ?_
  refine cm_V2 (pc := 969) mX7_track_v mlL_125 dL_law_969 ob9 (by omega) (Nat.le_of_ble_eq_true rfl) (Nat.le_refl _) (Nat.le_refl _) (hc9) (fun r969 h969 hq969 => ?_)
  obtain ⟨rfl, H9, l9, r9, rfl, L9⟩ := hq969
  refine cm_icmp_eq (pc := 972) (tgt := 1335) dL_law_972 (by decide) (fun c972 => ?_) (fun q => absurd rfl q)
  exact hst _ _ _ L9
set_option maxRecDepth 20000 in
theorem law_27 (hL : cm_L D ≤ 3072) (hk : k + 6 ≤ cm_L D) (L : LI sh hi hr) (hst : ∀ hi hl hr, LI sh hi hr → cm_g D mL_law 40 135 6373 (fun r _ => r = some (.int 1)) 135 6373 1335 [some (.ref 0), some (.ref 2), some (.ref 114), some (.int (nI k))] [] (sh, hi, hl, hr)) : cm_g D mL_law 40 135 6373 (fun r _ => r = some (.int 1)) 135 6373 977 [some (.ref 0), some (.ref 2), some (.ref 114), some (.int (nI k))] [] (sh, hi, hl, hr) := by
  have ho2 : cm_ob sh 2 6 := L.1.1
  refine cm_aload1 (pc := 977) dL_law_977 ?_
  refine cm_aload0 (pc := 978) dL_law_978 ?_
  refine cm_iload3 (pc := 979) dL_law_979 ?_
  refine cm_iconst (pc := 980) (v := 1) dL_law_980 (by decide) ?_
  refine cm_iadd (pc := 981) dL_law_981 ?_
  refine cm_sald (pc := 982) dL_law_982 (vk9 (c := 1) hL hk (by decide) rfl) ?_
  refine cm_aload0 (pc := 983) dL_law_983 ?_
  refine cm_iload3 (pc := 984) dL_law_984 ?_
  refine cm_iconst (pc := 985) (v := 2) dL_law_985 (by decide) ?_
  refine cm_iadd (pc := 986) dL_law_986 ?_
  refine cm_sald (pc := 987) dL_law_987 (vk9 (c := 2) hL hk (by decide) rfl) ?_
  refine cm_V2 (pc := 988) mX6_best_v mlL_126 dL_law_988 ho2 (by omega) (Nat.le_of_ble_eq_true rfl) (Nat.le_refl _) (Nat.le_refl _) (o_best L) (fun r988 h988 hq988 => ?_)
  obtain ⟨x9, rfl, ob9, hc9⟩ := hq988
  refine cm_aload2 (pc := 991) dL_law_991 ?_
  refine cm_aload0 (pc := 992) dL_law_992 ?_
  refine cm_iload3 (pc := 993) dL_law_993 ?_
  refine cm_iconst (pc := 994) (v := 1) dL_law_994 (by decide) ?_
  refine cm_iadd (pc := 995) dL_law_995 ?_
  refine cm_sald (pc := 996) dL_law_996 (vk9 (c := 1) hL hk (by decide) rfl) ?_
  refine cm_aload0 (pc := 997) dL_law_997 ?_
  refine cm_iload3 (pc := 998) dL_law_998 ?_
  refine cm_iconst (pc := 999) (v := 2) dL_law_999 (by decide) ?_
  refine cm_iadd (pc := 1000) dL_law_1000 ?_
  refine cm_sald (pc := 1001) dL_law_1001 (vk9 (c := 2) hL hk (by decide) rfl) ?_
  refine cm_V2 (pc := 1002) mX7_best_v mlL_129 dL_law_1002 ob9 (by omega) (Nat.le_of_ble_eq_true rfl) (Nat.le_refl _) (Nat.le_refl _) (hc9) (fun r1002 h1002 hq1002 => ?_)
  obtain ⟨rfl, H9, l9, r9, rfl, L9⟩ := hq1002
  refine cm_icmp_eq (pc := 1005) (tgt := 1335) dL_law_1005 (by decide) (fun c1005 => ?_) (fun q => absurd rfl q)
  exact hst _ _ _ L9
set_option maxRecDepth 20000 in
theorem law_28 (hL : cm_L D ≤ 3072) (hk : k + 6 ≤ cm_L D) (L : LI sh hi hr) (hst : ∀ hi hl hr, LI sh hi hr → cm_g D mL_law 40 135 6373 (fun r _ => r = some (.int 1)) 135 6373 1335 [some (.ref 0), some (.ref 2), some (.ref 114), some (.int (nI k))] [] (sh, hi, hl, hr)) : cm_g D mL_law 40 135 6373 (fun r _ => r = some (.int 1)) 135 6373 1010 [some (.ref 0), some (.ref 2), some (.ref 114), some (.int (nI k))] [] (sh, hi, hl, hr) := by
  have ho2 : cm_ob sh 2 6 := L.1.1
  refine cm_aload1 (pc := 1010) dL_law_1010 ?_
  refine cm_aload0 (pc := 1011) dL_law_1011 ?_
  refine cm_iload3 (pc := 1012) dL_law_1012 ?_
  refine cm_iconst (pc := 1013) (v := 1) dL_law_1013 (by decide) ?_
  refine cm_iadd (pc := 1014) dL_law_1014 ?_
  refine cm_sald (pc := 1015) dL_law_1015 (vk9 (c := 1) hL hk (by decide) rfl) ?_
  refine cm_aload0 (pc := 1016) dL_law_1016 ?_
  refine cm_iload3 (pc := 1017) dL_law_1017 ?_
  refine cm_iconst (pc := 1018) (v := 2) dL_law_1018 (by decide) ?_
  refine cm_iadd (pc := 1019) dL_law_1019 ?_
  refine cm_sald (pc := 1020) dL_law_1020 (vk9 (c := 2) hL hk (by decide) rfl) ?_
  refine cm_V2 (pc := 1021) mX6_spot_v mlL_130 dL_law_1021 ho2 (by omega) (Nat.le_of_ble_eq_true rfl) (Nat.le_refl _) (Nat.le_refl _) (o_spot L) (fun r1021 h1021 hq1021 => ?_)
  obtain ⟨x9, rfl, ob9, hc9⟩ := hq1021
  refine cm_aload2 (pc := 1024) dL_law_1024 ?_
  refine cm_aload0 (pc := 1025) dL_law_1025 ?_
  refine cm_iload3 (pc := 1026) dL_law_1026 ?_
  refine cm_iconst (pc := 1027) (v := 1) dL_law_1027 (by decide) ?_
  refine cm_iadd (pc := 1028) dL_law_1028 ?_
  refine cm_sald (pc := 1029) dL_law_1029 (vk9 (c := 1) hL hk (by decide) rfl) ?_
  refine cm_aload0 (pc := 1030) dL_law_1030 ?_
  refine cm_iload3 (pc := 1031) dL_law_1031 ?_
  refine cm_iconst (pc := 1032) (v := 2) dL_law_1032 (by decide) ?_
  refine cm_iadd (pc := 1033) dL_law_1033 ?_
  refine cm_sald (pc := 1034) dL_law_1034 (vk9 (c := 2) hL hk (by decide) rfl) ?_
  refine cm_V2 (pc := 1035) mX7_spot_v mlL_133 dL_law_1035 ob9 (by omega) (Nat.le_of_ble_eq_true rfl) (Nat.le_refl _) (Nat.le_refl _) (hc9) (fun r1035 h1035 hq1035 => ?_)
  obtain ⟨rfl, H9, l9, r9, rfl, L9⟩ := hq1035
  refine cm_icmp_eq (pc := 1038) (tgt := 1335) dL_law_1038 (by decide) (fun c1038 => ?_) (fun q => absurd rfl q)
  exact hst _ _ _ L9
set_option maxRecDepth 20000 in
theorem law_29 (hL : cm_L D ≤ 3072) (hk : k + 6 ≤ cm_L D) (L : LI sh hi hr) (hst : ∀ hi hl hr, LI sh hi hr → cm_g D mL_law 40 135 6373 (fun r _ => r = some (.int 1)) 135 6373 1335 [some (.ref 0), some (.ref 2), some (.ref 114), some (.int (nI k))] [] (sh, hi, hl, hr)) : cm_g D mL_law 40 135 6373 (fun r _ => r = some (.int 1)) 135 6373 1043 [some (.ref 0), some (.ref 2), some (.ref 114), some (.int (nI k))] [] (sh, hi, hl, hr) := by
  have ho2 : cm_ob sh 2 6 := L.1.1
  refine cm_aload1 (pc := 1043) dL_law_1043 ?_
  refine cm_aload0 (pc := 1044) dL_law_1044 ?_
  refine cm_iload3 (pc := 1045) dL_law_1045 ?_
  refine cm_iconst (pc := 1046) (v := 1) dL_law_1046 (by decide) ?_
  refine cm_iadd (pc := 1047) dL_law_1047 ?_
  refine cm_sald (pc := 1048) dL_law_1048 (vk9 (c := 1) hL hk (by decide) rfl) ?_
  refine cm_V1 (pc := 1049) mX6_missed_v mlL_134 dL_law_1049 ho2 (by omega) (Nat.le_of_ble_eq_true rfl) (Nat.le_refl _) (Nat.le_refl _) (o_missed L) (fun r1049 h1049 hq1049 => ?_)
  obtain ⟨x9, rfl, ob9, hc9⟩ := hq1049
  refine cm_aload2 (pc := 1052) dL_law_1052 ?_
  refine cm_aload0 (pc := 1053) dL_law_1053 ?_
  refine cm_iload3 (pc := 1054) dL_law_1054 ?_
  refine cm_iconst (pc := 1055) (v := 1) dL_law_1055 (by decide) ?_
  refine cm_iadd (pc := 1056) dL_law_1056 ?_
  refine cm_sald (pc := 1057) dL_law_1057 (vk9 (c := 1) hL hk (by decide) rfl) ?_
  refine cm_V1 (pc := 1058) mX7_missed_v mlL_137 dL_law_1058 ob9 (by omega) (Nat.le_of_ble_eq_true rfl) (Nat.le_refl _) (Nat.le_refl _) (hc9) (fun r1058 h1058 hq1058 => ?_)
  obtain ⟨rfl, H9, l9, r9, rfl, L9⟩ := hq1058
  refine cm_icmp_eq (pc := 1061) (tgt := 1335) dL_law_1061 (by decide) (fun c1061 => ?_) (fun q => absurd rfl q)
  exact hst _ _ _ L9
set_option maxRecDepth 20000 in
theorem law_30 (hL : cm_L D ≤ 3072) (hk : k + 6 ≤ cm_L D) (L : LI sh hi hr) (hst : ∀ hi hl hr, LI sh hi hr → cm_g D mL_law 40 135 6373 (fun r _ => r = some (.int 1)) 135 6373 1335 [some (.ref 0), some (.ref 2), some (.ref 114), some (.int (nI k))] [] (sh, hi, hl, hr)) : cm_g D mL_law 40 135 6373 (fun r _ => r = some (.int 1)) 135 6373 1066 [some (.ref 0), some (.ref 2), some (.ref 114), some (.int (nI k))] [] (sh, hi, hl, hr) := by
  have ho2 : cm_ob sh 2 6 := L.1.1
  refine cm_aload1 (pc := 1066) dL_law_1066 ?_
  refine cm_V0 (pc := 1067) mX6_fewest_v mlL_138 dL_law_1067 ho2 (by omega) (Nat.le_of_ble_eq_true rfl) (Nat.le_refl _) (Nat.le_refl _) (o_fewest L) (fun r1067 h1067 hq1067 => ?_)
  obtain ⟨x9, rfl, ob9, hc9⟩ := hq1067
  refine cm_aload2 (pc := 1070) dL_law_1070 ?_
  refine cm_V0 (pc := 1071) mX7_fewest_v mlL_141 dL_law_1071 ob9 (by omega) (Nat.le_of_ble_eq_true rfl) (Nat.le_refl _) (Nat.le_refl _) (hc9) (fun r1071 h1071 hq1071 => ?_)
  obtain ⟨rfl, H9, l9, r9, rfl, L9⟩ := hq1071
  refine cm_icmp_eq (pc := 1074) (tgt := 1335) dL_law_1074 (by decide) (fun c1074 => ?_) (fun q => absurd rfl q)
  exact hst _ _ _ L9
set_option maxRecDepth 20000 in
theorem law_31 (hL : cm_L D ≤ 3072) (hk : k + 6 ≤ cm_L D) (L : LI sh hi hr) (hst : ∀ hi hl hr, LI sh hi hr → cm_g D mL_law 40 135 6373 (fun r _ => r = some (.int 1)) 135 6373 1335 [some (.ref 0), some (.ref 2), some (.ref 114), some (.int (nI k))] [] (sh, hi, hl, hr)) : cm_g D mL_law 40 135 6373 (fun r _ => r = some (.int 1)) 135 6373 1079 [some (.ref 0), some (.ref 2), some (.ref 114), some (.int (nI k))] [] (sh, hi, hl, hr) := by
  have ho2 : cm_ob sh 2 6 := L.1.1
  refine cm_aload1 (pc := 1079) dL_law_1079 ?_
  refine cm_V0 (pc := 1080) mX6_turns_v mlL_142 dL_law_1080 ho2 (by omega) (Nat.le_of_ble_eq_true rfl) (Nat.le_refl _) (Nat.le_refl _) (o_turns L) (fun r1080 h1080 hq1080 => ?_)
  obtain ⟨x9, rfl, ob9, hc9⟩ := hq1080
  refine cm_aload2 (pc := 1083) dL_law_1083 ?_
  refine cm_V0 (pc := 1084) mX7_turns_v mlL_145 dL_law_1084 ob9 (by omega) (Nat.le_of_ble_eq_true rfl) (Nat.le_refl _) (Nat.le_refl _) (hc9) (fun r1084 h1084 hq1084 => ?_)
  obtain ⟨rfl, H9, l9, r9, rfl, L9⟩ := hq1084
  refine cm_icmp_eq (pc := 1087) (tgt := 1335) dL_law_1087 (by decide) (fun c1087 => ?_) (fun q => absurd rfl q)
  exact hst _ _ _ L9
set_option maxRecDepth 20000 in
theorem law_32 (hL : cm_L D ≤ 3072) (hk : k + 6 ≤ cm_L D) (L : LI sh hi hr) (hst : ∀ hi hl hr, LI sh hi hr → cm_g D mL_law 40 135 6373 (fun r _ => r = some (.int 1)) 135 6373 1335 [some (.ref 0), some (.ref 2), some (.ref 114), some (.int (nI k))] [] (sh, hi, hl, hr)) : cm_g D mL_law 40 135 6373 (fun r _ => r = some (.int 1)) 135 6373 1092 [some (.ref 0), some (.ref 2), some (.ref 114), some (.int (nI k))] [] (sh, hi, hl, hr) := by
  have ho2 : cm_ob sh 2 6 := L.1.1
  refine cm_aload1 (pc := 1092) dL_law_1092 ?_
  refine cm_aload0 (pc := 1093) dL_law_1093 ?_
  refine cm_iload3 (pc := 1094) dL_law_1094 ?_
  refine cm_iconst (pc := 1095) (v := 1) dL_law_1095 (by decide) ?_
  refine cm_iadd (pc := 1096) dL_law_1096 ?_
  refine cm_sald (pc := 1097) dL_law_1097 (vk9 (c := 1) hL hk (by decide) rfl) ?_
  refine cm_aload0 (pc := 1098) dL_law_1098 ?_
  refine cm_iload3 (pc := 1099) dL_law_1099 ?_
  refine cm_iconst (pc := 1100) (v := 2) dL_law_1100 (by decide) ?_
  refine cm_iadd (pc := 1101) dL_law_1101 ?_
  refine cm_sald (pc := 1102) dL_law_1102 (vk9 (c := 2) hL hk (by decide) rfl) ?_
  refine cm_aload0 (pc := 1103) dL_law_1103 ?_
  refine cm_iload3 (pc := 1104) dL_law_1104 ?_
  refine cm_iconst (pc := 1105) (v := 3) dL_law_1105 (by decide) ?_
  refine cm_iadd (pc := 1106) dL_law_1106 ?_
  refine cm_sald (pc := 1107) dL_law_1107 (vk9 (c := 3) hL hk (by decide) rfl) ?_
  refine cm_V3 (pc := 1108) mX6_fits_v mlL_146 dL_law_1108 ho2 (by omega) (Nat.le_of_ble_eq_true rfl) (Nat.le_refl _) (Nat.le_refl _) (o_fits L) (fun r1108 h1108 hq1108 => ?_)
  obtain ⟨x9, rfl, ob9, hc9⟩ := hq1108
  refine cm_aload2 (pc := 1111) dL_law_1111 ?_
  refine cm_aload0 (pc := 1112) dL_law_1112 ?_
  refine cm_iload3 (pc := 1113) dL_law_1113 ?_
  refine cm_iconst (pc := 1114) (v := 1) dL_law_1114 (by decide) ?_
  refine cm_iadd (pc := 1115) dL_law_1115 ?_
  refine cm_sald (pc := 1116) dL_law_1116 (vk9 (c := 1) hL hk (by decide) rfl) ?_
  refine cm_aload0 (pc := 1117) dL_law_1117 ?_
  refine cm_iload3 (pc := 1118) dL_law_1118 ?_
  refine cm_iconst (pc := 1119) (v := 2) dL_law_1119 (by decide) ?_
  refine cm_iadd (pc := 1120) dL_law_1120 ?_
  refine cm_sald (pc := 1121) dL_law_1121 (vk9 (c := 2) hL hk (by decide) rfl) ?_
  refine cm_aload0 (pc := 1122) dL_law_1122 ?_
  refine cm_iload3 (pc := 1123) dL_law_1123 ?_
  refine cm_iconst (pc := 1124) (v := 3) dL_law_1124 (by decide) ?_
  refine cm_iadd (pc := 1125) dL_law_1125 ?_
  refine cm_sald (pc := 1126) dL_law_1126 (vk9 (c := 3) hL hk (by decide) rfl) ?_
  refine cm_V3 (pc := 1127) mX7_fits_v mlL_149 dL_law_1127 ob9 (by omega) (Nat.le_of_ble_eq_true rfl) (Nat.le_refl _) (Nat.le_refl _) (hc9) (fun r1127 h1127 hq1127 => ?_)
  obtain ⟨rfl, H9, l9, r9, rfl, L9⟩ := hq1127
  refine cm_icmp_eq (pc := 1130) (tgt := 1335) dL_law_1130 (by decide) (fun c1130 => ?_) (fun q => absurd rfl q)
  exact hst _ _ _ L9
set_option maxRecDepth 20000 in
theorem law_33 (hL : cm_L D ≤ 3072) (hk : k + 6 ≤ cm_L D) (L : LI sh hi hr) (hst : ∀ hi hl hr, LI sh hi hr → cm_g D mL_law 40 135 6373 (fun r _ => r = some (.int 1)) 135 6373 1335 [some (.ref 0), some (.ref 2), some (.ref 114), some (.int (nI k))] [] (sh, hi, hl, hr)) : cm_g D mL_law 40 135 6373 (fun r _ => r = some (.int 1)) 135 6373 1135 [some (.ref 0), some (.ref 2), some (.ref 114), some (.int (nI k))] [] (sh, hi, hl, hr) := by
  have ho2 : cm_ob sh 2 6 := L.1.1
  refine cm_aload1 (pc := 1135) dL_law_1135 ?_
  refine cm_aload0 (pc := 1136) dL_law_1136 ?_
  refine cm_iload3 (pc := 1137) dL_law_1137 ?_
  refine cm_iconst (pc := 1138) (v := 1) dL_law_1138 (by decide) ?_
  refine cm_iadd (pc := 1139) dL_law_1139 ?_
  refine cm_sald (pc := 1140) dL_law_1140 (vk9 (c := 1) hL hk (by decide) rfl) ?_
  refine cm_aload0 (pc := 1141) dL_law_1141 ?_
  refine cm_iload3 (pc := 1142) dL_law_1142 ?_
  refine cm_iconst (pc := 1143) (v := 2) dL_law_1143 (by decide) ?_
  refine cm_iadd (pc := 1144) dL_law_1144 ?_
  refine cm_sald (pc := 1145) dL_law_1145 (vk9 (c := 2) hL hk (by decide) rfl) ?_
  refine cm_aload0 (pc := 1146) dL_law_1146 ?_
  refine cm_iload3 (pc := 1147) dL_law_1147 ?_
  refine cm_iconst (pc := 1148) (v := 3) dL_law_1148 (by decide) ?_
  refine cm_iadd (pc := 1149) dL_law_1149 ?_
  refine cm_sald (pc := 1150) dL_law_1150 (vk9 (c := 3) hL hk (by decide) rfl) ?_
  refine cm_aload0 (pc := 1151) dL_law_1151 ?_
  refine cm_iload3 (pc := 1152) dL_law_1152 ?_
  refine cm_iconst (pc := 1153) (v := 4) dL_law_1153 (by decide) ?_
  refine cm_iadd (pc := 1154) dL_law_1154 ?_
  refine cm_sald (pc := 1155) dL_law_1155 (vk9 (c := 4) hL hk (by decide) rfl) ?_
  refine cm_V4 (pc := 1156) mX6_could_v mlL_150 dL_law_1156 ho2 (by omega) (Nat.le_of_ble_eq_true rfl) (Nat.le_refl _) (Nat.le_refl _) (o_could L) (fun r1156 h1156 hq1156 => ?_)
  obtain ⟨x9, rfl, ob9, hc9⟩ := hq1156
  refine cm_aload2 (pc := 1159) dL_law_1159 ?_
  refine cm_aload0 (pc := 1160) dL_law_1160 ?_
  refine cm_iload3 (pc := 1161) dL_law_1161 ?_
  refine cm_iconst (pc := 1162) (v := 1) dL_law_1162 (by decide) ?_
  refine cm_iadd (pc := 1163) dL_law_1163 ?_
  refine cm_sald (pc := 1164) dL_law_1164 (vk9 (c := 1) hL hk (by decide) rfl) ?_
  refine cm_aload0 (pc := 1165) dL_law_1165 ?_
  refine cm_iload3 (pc := 1166) dL_law_1166 ?_
  refine cm_iconst (pc := 1167) (v := 2) dL_law_1167 (by decide) ?_
  refine cm_iadd (pc := 1168) dL_law_1168 ?_
  refine cm_sald (pc := 1169) dL_law_1169 (vk9 (c := 2) hL hk (by decide) rfl) ?_
  refine cm_aload0 (pc := 1170) dL_law_1170 ?_
  refine cm_iload3 (pc := 1171) dL_law_1171 ?_
  refine cm_iconst (pc := 1172) (v := 3) dL_law_1172 (by decide) ?_
  refine cm_iadd (pc := 1173) dL_law_1173 ?_
  refine cm_sald (pc := 1174) dL_law_1174 (vk9 (c := 3) hL hk (by decide) rfl) ?_
  refine cm_aload0 (pc := 1175) dL_law_1175 ?_
  refine cm_iload3 (pc := 1176) dL_law_1176 ?_
  refine cm_iconst (pc := 1177) (v := 4) dL_law_1177 (by decide) ?_
  refine cm_iadd (pc := 1178) dL_law_1178 ?_
  refine cm_sald (pc := 1179) dL_law_1179 (vk9 (c := 4) hL hk (by decide) rfl) ?_
  refine cm_V4 (pc := 1180) mX7_could_v mlL_154 dL_law_1180 ob9 (by omega) (Nat.le_of_ble_eq_true rfl) (Nat.le_refl _) (Nat.le_refl _) (hc9) (fun r1180 h1180 hq1180 => ?_)
  obtain ⟨rfl, H9, l9, r9, rfl, L9⟩ := hq1180
  refine cm_icmp_eq (pc := 1183) (tgt := 1335) dL_law_1183 (by decide) (fun c1183 => ?_) (fun q => absurd rfl q)
  exact hst _ _ _ L9
set_option maxRecDepth 20000 in
theorem law_34 (hL : cm_L D ≤ 3072) (hk : k + 6 ≤ cm_L D) (L : LI sh hi hr) (hst : ∀ hi hl hr, LI sh hi hr → cm_g D mL_law 40 135 6373 (fun r _ => r = some (.int 1)) 135 6373 1335 [some (.ref 0), some (.ref 2), some (.ref 114), some (.int (nI k))] [] (sh, hi, hl, hr)) : cm_g D mL_law 40 135 6373 (fun r _ => r = some (.int 1)) 135 6373 1188 [some (.ref 0), some (.ref 2), some (.ref 114), some (.int (nI k))] [] (sh, hi, hl, hr) := by
  have ho2 : cm_ob sh 2 6 := L.1.1
  refine cm_aload1 (pc := 1188) dL_law_1188 ?_
  refine cm_aload0 (pc := 1189) dL_law_1189 ?_
  refine cm_iload3 (pc := 1190) dL_law_1190 ?_
  refine cm_iconst (pc := 1191) (v := 1) dL_law_1191 (by decide) ?_
  refine cm_iadd (pc := 1192) dL_law_1192 ?_
  refine cm_sald (pc := 1193) dL_law_1193 (vk9 (c := 1) hL hk (by decide) rfl) ?_
  refine cm_aload0 (pc := 1194) dL_law_1194 ?_
  refine cm_iload3 (pc := 1195) dL_law_1195 ?_
  refine cm_iconst (pc := 1196) (v := 2) dL_law_1196 (by decide) ?_
  refine cm_iadd (pc := 1197) dL_law_1197 ?_
  refine cm_sald (pc := 1198) dL_law_1198 (vk9 (c := 2) hL hk (by decide) rfl) ?_
  refine cm_V2 (pc := 1199) mX6_winds_v mlL_155 dL_law_1199 ho2 (by omega) (Nat.le_of_ble_eq_true rfl) (Nat.le_refl _) (Nat.le_refl _) (o_winds L) (fun r1199 h1199 hq1199 => ?_)
  obtain ⟨x9, rfl, ob9, hc9⟩ := hq1199
  refine cm_aload2 (pc := 1202) dL_law_1202 ?_
  refine cm_aload0 (pc := 1203) dL_law_1203 ?_
  refine cm_iload3 (pc := 1204) dL_law_1204 ?_
  refine cm_iconst (pc := 1205) (v := 1) dL_law_1205 (by decide) ?_
  refine cm_iadd (pc := 1206) dL_law_1206 ?_
  refine cm_sald (pc := 1207) dL_law_1207 (vk9 (c := 1) hL hk (by decide) rfl) ?_
  refine cm_aload0 (pc := 1208) dL_law_1208 ?_
  refine cm_iload3 (pc := 1209) dL_law_1209 ?_
  refine cm_iconst (pc := 1210) (v := 2) dL_law_1210 (by decide) ?_
  refine cm_iadd (pc := 1211) dL_law_1211 ?_
  refine cm_sald (pc := 1212) dL_law_1212 (vk9 (c := 2) hL hk (by decide) rfl) ?_
  refine cm_V2 (pc := 1213) mX7_winds_v mlL_158 dL_law_1213 ob9 (by omega) (Nat.le_of_ble_eq_true rfl) (Nat.le_refl _) (Nat.le_refl _) (hc9) (fun r1213 h1213 hq1213 => ?_)
  obtain ⟨rfl, H9, l9, r9, rfl, L9⟩ := hq1213
  refine cm_icmp_eq (pc := 1216) (tgt := 1335) dL_law_1216 (by decide) (fun c1216 => ?_) (fun q => absurd rfl q)
  exact hst _ _ _ L9
set_option maxRecDepth 20000 in
theorem law_35 (hL : cm_L D ≤ 3072) (hk : k + 6 ≤ cm_L D) (L : LI sh hi hr) (hst : ∀ hi hl hr, LI sh hi hr → cm_g D mL_law 40 135 6373 (fun r _ => r = some (.int 1)) 135 6373 1335 [some (.ref 0), some (.ref 2), some (.ref 114), some (.int (nI k))] [] (sh, hi, hl, hr)) : cm_g D mL_law 40 135 6373 (fun r _ => r = some (.int 1)) 135 6373 1221 [some (.ref 0), some (.ref 2), some (.ref 114), some (.int (nI k))] [] (sh, hi, hl, hr) := by
  have ho2 : cm_ob sh 2 6 := L.1.1
  refine cm_aload1 (pc := 1221) dL_law_1221 ?_
  refine cm_V0 (pc := 1222) mX6_asked_v mlL_159 dL_law_1222 ho2 (by omega) (Nat.le_of_ble_eq_true rfl) (Nat.le_refl _) (Nat.le_refl _) (o_asked L) (fun r1222 h1222 hq1222 => ?_)
  obtain ⟨x9, rfl, ob9, hc9⟩ := hq1222
  refine cm_aload2 (pc := 1225) dL_law_1225 ?_
  refine cm_V0 (pc := 1226) mX7_asked_v mlL_162 dL_law_1226 ob9 (by omega) (Nat.le_of_ble_eq_true rfl) (Nat.le_refl _) (Nat.le_refl _) (hc9) (fun r1226 h1226 hq1226 => ?_)
  obtain ⟨rfl, H9, l9, r9, rfl, L9⟩ := hq1226
  refine cm_icmp_eq (pc := 1229) (tgt := 1335) dL_law_1229 (by decide) (fun c1229 => ?_) (fun q => absurd rfl q)
  exact hst _ _ _ L9
set_option maxRecDepth 20000 in
theorem law_36 (hL : cm_L D ≤ 3072) (hk : k + 6 ≤ cm_L D) (L : LI sh hi hr) (hst : ∀ hi hl hr, LI sh hi hr → cm_g D mL_law 40 135 6373 (fun r _ => r = some (.int 1)) 135 6373 1335 [some (.ref 0), some (.ref 2), some (.ref 114), some (.int (nI k))] [] (sh, hi, hl, hr)) : cm_g D mL_law 40 135 6373 (fun r _ => r = some (.int 1)) 135 6373 1234 [some (.ref 0), some (.ref 2), some (.ref 114), some (.int (nI k))] [] (sh, hi, hl, hr) := by
  have ho2 : cm_ob sh 2 6 := L.1.1
  refine cm_aload1 (pc := 1234) dL_law_1234 ?_
  refine cm_V0 (pc := 1235) mX6_upper_v mlL_163 dL_law_1235 ho2 (by omega) (Nat.le_of_ble_eq_true rfl) (Nat.le_refl _) (Nat.le_refl _) (o_upper L) (fun r1235 h1235 hq1235 => ?_)
  obtain ⟨x9, rfl, ob9, hc9⟩ := hq1235
  refine cm_aload2 (pc := 1238) dL_law_1238 ?_
  refine cm_V0 (pc := 1239) mX7_upper_v mlL_167 dL_law_1239 ob9 (by omega) (Nat.le_of_ble_eq_true rfl) (Nat.le_refl _) (Nat.le_refl _) (hc9) (fun r1239 h1239 hq1239 => ?_)
  obtain ⟨rfl, H9, l9, r9, rfl, L9⟩ := hq1239
  refine cm_lcmp (pc := 1242) dL_law_1242 ?_
  refine cm_if_eq (pc := 1243) (tgt := 1335) dL_law_1243 (by decide) (fun c1243 => ?_) (fun q => absurd lg_cmp_xx q)
  exact hst _ _ _ L9
set_option maxRecDepth 20000 in
theorem law_37 (hL : cm_L D ≤ 3072) (hk : k + 6 ≤ cm_L D) (L : LI sh hi hr) (hst : ∀ hi hl hr, LI sh hi hr → cm_g D mL_law 40 135 6373 (fun r _ => r = some (.int 1)) 135 6373 1335 [some (.ref 0), some (.ref 2), some (.ref 114), some (.int (nI k))] [] (sh, hi, hl, hr)) : cm_g D mL_law 40 135 6373 (fun r _ => r = some (.int 1)) 135 6373 1248 [some (.ref 0), some (.ref 2), some (.ref 114), some (.int (nI k))] [] (sh, hi, hl, hr) := by
  have ho2 : cm_ob sh 2 6 := L.1.1
  refine cm_aload1 (pc := 1248) dL_law_1248 ?_
  refine cm_V0 (pc := 1249) mX6_lower_v mlL_168 dL_law_1249 ho2 (by omega) (Nat.le_of_ble_eq_true rfl) (Nat.le_refl _) (Nat.le_refl _) (o_lower L) (fun r1249 h1249 hq1249 => ?_)
  obtain ⟨x9, rfl, ob9, hc9⟩ := hq1249
  refine cm_aload2 (pc := 1252) dL_law_1252 ?_
  refine cm_V0 (pc := 1253) mX7_lower_v mlL_171 dL_law_1253 ob9 (by omega) (Nat.le_of_ble_eq_true rfl) (Nat.le_refl _) (Nat.le_refl _) (hc9) (fun r1253 h1253 hq1253 => ?_)
  obtain ⟨rfl, H9, l9, r9, rfl, L9⟩ := hq1253
  refine cm_lcmp (pc := 1256) dL_law_1256 ?_
  refine cm_if_eq (pc := 1257) (tgt := 1335) dL_law_1257 (by decide) (fun c1257 => ?_) (fun q => absurd lg_cmp_xx q)
  exact hst _ _ _ L9
set_option maxRecDepth 20000 in
theorem law_38 (hL : cm_L D ≤ 3072) (hk : k + 6 ≤ cm_L D) (L : LI sh hi hr) (hst : ∀ hi hl hr, LI sh hi hr → cm_g D mL_law 40 135 6373 (fun r _ => r = some (.int 1)) 135 6373 1335 [some (.ref 0), some (.ref 2), some (.ref 114), some (.int (nI k))] [] (sh, hi, hl, hr)) : cm_g D mL_law 40 135 6373 (fun r _ => r = some (.int 1)) 135 6373 1262 [some (.ref 0), some (.ref 2), some (.ref 114), some (.int (nI k))] [] (sh, hi, hl, hr) := by
  have ho2 : cm_ob sh 2 6 := L.1.1
  refine cm_aload1 (pc := 1262) dL_law_1262 ?_
  refine cm_aload0 (pc := 1263) dL_law_1263 ?_
  refine cm_iload3 (pc := 1264) dL_law_1264 ?_
  refine cm_iconst (pc := 1265) (v := 1) dL_law_1265 (by decide) ?_
  refine cm_iadd (pc := 1266) dL_law_1266 ?_
  refine cm_sald (pc := 1267) dL_law_1267 (vk9 (c := 1) hL hk (by decide) rfl) ?_
  refine cm_V1 (pc := 1268) mX6_count_v mlL_172 dL_law_1268 ho2 (by omega) (Nat.le_of_ble_eq_true rfl) (Nat.le_refl _) (Nat.le_refl _) (o_count L) (fun r1268 h1268 hq1268 => ?_)
  obtain ⟨x9, rfl, ob9, hc9⟩ := hq1268
  refine cm_aload2 (pc := 1271) dL_law_1271 ?_
  refine cm_aload0 (pc := 1272) dL_law_1272 ?_
  refine cm_iload3 (pc := 1273) dL_law_1273 ?_
  refine cm_iconst (pc := 1274) (v := 1) dL_law_1274 (by decide) ?_
  refine cm_iadd (pc := 1275) dL_law_1275 ?_
  refine cm_sald (pc := 1276) dL_law_1276 (vk9 (c := 1) hL hk (by decide) rfl) ?_
  refine cm_V1 (pc := 1277) mX7_count_v mlL_175 dL_law_1277 ob9 (by omega) (Nat.le_of_ble_eq_true rfl) (Nat.le_refl _) (Nat.le_refl _) (hc9) (fun r1277 h1277 hq1277 => ?_)
  obtain ⟨rfl, H9, l9, r9, rfl, L9⟩ := hq1277
  refine cm_icmp_eq (pc := 1280) (tgt := 1335) dL_law_1280 (by decide) (fun c1280 => ?_) (fun q => absurd rfl q)
  exact hst _ _ _ L9
set_option maxRecDepth 20000 in
theorem law_39 (hL : cm_L D ≤ 3072) (hk : k + 6 ≤ cm_L D) (L : LI sh hi hr) (hst : ∀ hi hl hr, LI sh hi hr → cm_g D mL_law 40 135 6373 (fun r _ => r = some (.int 1)) 135 6373 1335 [some (.ref 0), some (.ref 2), some (.ref 114), some (.int (nI k))] [] (sh, hi, hl, hr)) : cm_g D mL_law 40 135 6373 (fun r _ => r = some (.int 1)) 135 6373 1285 [some (.ref 0), some (.ref 2), some (.ref 114), some (.int (nI k))] [] (sh, hi, hl, hr) := by
  have ho2 : cm_ob sh 2 6 := L.1.1
  refine cm_aload1 (pc := 1285) dL_law_1285 ?_
  refine cm_V0 (pc := 1286) mX6_finding_v mlL_176 dL_law_1286 ho2 (by omega) (Nat.le_of_ble_eq_true rfl) (Nat.le_refl _) (Nat.le_refl _) (o_finding L) (fun r1286 h1286 hq1286 => ?_)
  obtain ⟨x9, rfl, ob9, hc9⟩ := hq1286
  refine cm_aload2 (pc := 1289) dL_law_1289 ?_
  refine cm_V0 (pc := 1290) mX7_finding_v mlL_179 dL_law_1290 ob9 (by omega) (Nat.le_of_ble_eq_true rfl) (Nat.le_refl _) (Nat.le_refl _) (hc9) (fun r1290 h1290 hq1290 => ?_)
  obtain ⟨rfl, H9, l9, r9, rfl, L9⟩ := hq1290
  refine cm_icmp_eq (pc := 1293) (tgt := 1335) dL_law_1293 (by decide) (fun c1293 => ?_) (fun q => absurd rfl q)
  exact hst _ _ _ L9
set_option maxRecDepth 20000 in
theorem law_40 (hL : cm_L D ≤ 3072) (hk : k + 6 ≤ cm_L D) (L : LI sh hi hr) (hst : ∀ hi hl hr, LI sh hi hr → cm_g D mL_law 40 135 6373 (fun r _ => r = some (.int 1)) 135 6373 1335 [some (.ref 0), some (.ref 2), some (.ref 114), some (.int (nI k))] [] (sh, hi, hl, hr)) : cm_g D mL_law 40 135 6373 (fun r _ => r = some (.int 1)) 135 6373 1298 [some (.ref 0), some (.ref 2), some (.ref 114), some (.int (nI k))] [] (sh, hi, hl, hr) := by
  have ho2 : cm_ob sh 2 6 := L.1.1
  refine cm_aload1 (pc := 1298) dL_law_1298 ?_
  refine cm_aload0 (pc := 1299) dL_law_1299 ?_
  refine cm_iload3 (pc := 1300) dL_law_1300 ?_
  refine cm_iconst (pc := 1301) (v := 1) dL_law_1301 (by decide) ?_
  refine cm_iadd (pc := 1302) dL_law_1302 ?_
  refine cm_sald (pc := 1303) dL_law_1303 (vk9 (c := 1) hL hk (by decide) rfl) ?_
  refine cm_V1 (pc := 1304) mX6_findings_v mlL_180 dL_law_1304 ho2 (by omega) (Nat.le_of_ble_eq_true rfl) (Nat.le_refl _) (Nat.le_refl _) (o_findings L) (fun r1304 h1304 hq1304 => ?_)
  obtain ⟨x9, rfl, ob9, hc9⟩ := hq1304
  refine cm_aload2 (pc := 1307) dL_law_1307 ?_
  refine cm_aload0 (pc := 1308) dL_law_1308 ?_
  refine cm_iload3 (pc := 1309) dL_law_1309 ?_
  refine cm_iconst (pc := 1310) (v := 1) dL_law_1310 (by decide) ?_
  refine cm_iadd (pc := 1311) dL_law_1311 ?_
  refine cm_sald (pc := 1312) dL_law_1312 (vk9 (c := 1) hL hk (by decide) rfl) ?_
  refine cm_V1 (pc := 1313) mX7_findings_v mlL_183 dL_law_1313 ob9 (by omega) (Nat.le_of_ble_eq_true rfl) (Nat.le_refl _) (Nat.le_refl _) (hc9) (fun r1313 h1313 hq1313 => ?_)
  obtain ⟨rfl, H9, l9, r9, rfl, L9⟩ := hq1313
  refine cm_icmp_eq (pc := 1316) (tgt := 1335) dL_law_1316 (by decide) (fun c1316 => ?_) (fun q => absurd rfl q)
  exact hst _ _ _ L9
set_option maxRecDepth 20000 in
theorem law_41 (hL : cm_L D ≤ 3072) (hk : k + 6 ≤ cm_L D) (L : LI sh hi hr) (hst : ∀ hi hl hr, LI sh hi hr → cm_g D mL_law 40 135 6373 (fun r _ => r = some (.int 1)) 135 6373 1335 [some (.ref 0), some (.ref 2), some (.ref 114), some (.int (nI k))] [] (sh, hi, hl, hr)) : cm_g D mL_law 40 135 6373 (fun r _ => r = some (.int 1)) 135 6373 1321 [some (.ref 0), some (.ref 2), some (.ref 114), some (.int (nI k))] [] (sh, hi, hl, hr) := by
  have ho2 : cm_ob sh 2 6 := L.1.1
  refine cm_aload1 (pc := 1321) dL_law_1321 ?_
  refine cm_V0 (pc := 1322) mX6_digest_v mlL_184 dL_law_1322 ho2 (by omega) (Nat.le_of_ble_eq_true rfl) (Nat.le_refl _) (Nat.le_refl _) (o_digest L) (fun r1322 h1322 hq1322 => ?_)
  obtain ⟨x9, rfl, ob9, hc9⟩ := hq1322
  refine cm_aload2 (pc := 1325) dL_law_1325 ?_
  refine cm_V0 (pc := 1326) mX7_digest_v mlL_187 dL_law_1326 ob9 (by omega) (Nat.le_of_ble_eq_true rfl) (Nat.le_refl _) (Nat.le_refl _) (hc9) (fun r1326 h1326 hq1326 => ?_)
  obtain ⟨rfl, H9, l9, r9, rfl, L9⟩ := hq1326
  refine cm_lcmp (pc := 1329) dL_law_1329 ?_
  refine cm_if_eq (pc := 1330) (tgt := 1335) dL_law_1330 (by decide) (fun c1330 => ?_) (fun q => absurd lg_cmp_xx q)
  exact hst _ _ _ L9
end LW
