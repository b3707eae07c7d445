/-! The law: cases 0 to 7 -/
theorem law_constant {E : aG} {Γ : aC} {nm : String} {ci : aI} {cl : aL} {cr : Nat → Nat → Option Nat} {dy : aM} {nx n ce sl k : Nat} (C : LC E Γ nm) (h : INV ci cl cr dy nx n) (hk : 6 * k + 6 ≤ gL E) (hce : ce + 3 ≤ 601024) (hsl : sl + 62 ≤ 7293034) (K : KK E Γ (ce + 3) (sl + 62) k) : SV E Γ 8 (mm ci cl cr dy) nx ce sl 180 (LVk k) [] := by
  obtain ⟨hΓ, hSX, hL, hNW, hNX, hX, hXN, htr⟩ := C
  refine sv_aload_n hΓ dL_law_180 rfl 3 rfl rfl ?_
  refine sv_arg hΓ hSX 1 hk hL (by decide) dL_law_181 dL_law_182 dL_law_184 (by decide) dL_law_185 dL_law_186 4 0 rfl rfl rfl ?_
  refine sv_i2l hΓ dL_law_187 rfl rfl ?_
  refine sv_bipush (v := 32) hΓ dL_law_188 (by decide) rfl ?_
  refine sv_lshl hΓ dL_law_190 rfl rfl ?_
  refine sv_arg hΓ hSX 2 hk hL (by decide) dL_law_191 dL_law_192 dL_law_194 (by decide) dL_law_195 dL_law_196 4 0 rfl rfl rfl ?_
  refine sv_i2l hΓ dL_law_197 rfl rfl ?_
  refine sv_ldc2 (v := 4294967295) hΓ dL_law_198 tb_1357 rfl ?_
  refine sv_land hΓ dL_law_201 rfl ?_
  refine sv_lor hΓ dL_law_202 rfl ?_
  refine sv_arg hΓ hSX 3 hk hL (by decide) dL_law_203 dL_law_204 dL_law_206 (by decide) dL_law_207 dL_law_208 4 0 rfl rfl rfl ?_
  show SV E Γ 8 _ _ _ _ 209 (LVk k) [.int (gX E (6 * k + 3)), .long (lgV (gX E (6 * k + 1)) (gX E (6 * k + 2))), .ref 1]
  refine sv_callV hΓ (fun l => ct_X11_constant l (cA ci n) (cl 48) (lgV (gX E (6 * k + 1)) (gX E (6 * k + 2))) (gX E (6 * k + 3)) n h.BA hNW h.2.2.2.2.2.2 h.2.2.2.2.2.1) wv_L_34 vs_X11_constant rfl m_1 rfl rfl (by decide) (by omega) (by omega) (Nat.le_of_ble_eq_true rfl) dL_law_209 rfl (fun r M' nx' p1 => ?_)
  obtain ⟨v, c1, r1, d1, rfl, rfl, hn1, hF⟩ := A_constant h p1
  show SV E Γ 8 _ _ _ _ 212 (LVk k) [.int v]
  refine sv_aload_n hΓ dL_law_212 rfl 2 rfl rfl ?_
  refine sv_arg hΓ hSX 1 hk hL (by decide) dL_law_213 dL_law_214 dL_law_216 (by decide) dL_law_217 dL_law_218 4 0 rfl rfl rfl ?_
  refine sv_i2l hΓ dL_law_219 rfl rfl ?_
  refine sv_bipush (v := 32) hΓ dL_law_220 (by decide) rfl ?_
  refine sv_lshl hΓ dL_law_222 rfl rfl ?_
  refine sv_arg hΓ hSX 2 hk hL (by decide) dL_law_223 dL_law_224 dL_law_226 (by decide) dL_law_227 dL_law_228 4 0 rfl rfl rfl ?_
  refine sv_i2l hΓ dL_law_229 rfl rfl ?_
  refine sv_ldc2 (v := 4294967295) hΓ dL_law_230 tb_1357 rfl ?_
  refine sv_land hΓ dL_law_233 rfl ?_
  refine sv_lor hΓ dL_law_234 rfl ?_
  refine sv_arg hΓ hSX 3 hk hL (by decide) dL_law_235 dL_law_236 dL_law_238 (by decide) dL_law_239 dL_law_240 4 0 rfl rfl rfl ?_
  show SV E Γ 8 _ _ _ _ 241 (LVk k) [.int (gX E (6 * k + 3)), .long (lgV (gX E (6 * k + 1)) (gX E (6 * k + 2))), .ref 43, .int v]
  refine sv_callV hΓ (fun l => ct_X12_constant l (lgV (gX E (6 * k + 1)) (gX E (6 * k + 2))) (gX E (6 * k + 3)) n hn1 h.n6) wv_L_38 vs_X12_constant rfl m_43 rfl rfl (by decide) (by omega) (by omega) (Nat.le_of_ble_eq_true rfl) dL_law_241 rfl (fun r M' nx' p2 => ?_)
  obtain ⟨rfl, ci2, cl2, cr2, dy2, n2, rfl, h2⟩ := hF _ _ _ p2
  show SV E Γ 8 _ _ _ _ 244 (LVk k) [.int v, .int v]
  refine sv_icmp_eq (tgt := 1595) hΓ dL_law_244 (by decide) rfl (fun _ => ?_) (fun z => absurd rfl z)
  exact SV_w (by omega) (by omega) (K _ _ _ _ _ _ h2)
theorem law_port {E : aG} {Γ : aC} {nm : String} {ci : aI} {cl : aL} {cr : Nat → Nat → Option Nat} {dy : aM} {nx n ce sl k : Nat} (C : LC E Γ nm) (h : INV ci cl cr dy nx n) (hk : 6 * k + 6 ≤ gL E) (hce : ce + 3 ≤ 601024) (hsl : sl + 62 ≤ 7293034) (K : KK E Γ (ce + 3) (sl + 62) k) : SV E Γ 8 (mm ci cl cr dy) nx ce sl 249 (LVk k) [] := by
  obtain ⟨hΓ, hSX, hL, hNW, hNX, hX, hXN, htr⟩ := C
  refine sv_aload_n hΓ dL_law_249 rfl 3 rfl rfl ?_
  refine sv_arg hΓ hSX 1 hk hL (by decide) dL_law_250 dL_law_251 dL_law_253 (by decide) dL_law_254 dL_law_255 4 0 rfl rfl rfl ?_
  refine sv_arg hΓ hSX 2 hk hL (by decide) dL_law_256 dL_law_257 dL_law_259 (by decide) dL_law_260 dL_law_261 4 0 rfl rfl rfl ?_
  refine sv_arg hΓ hSX 3 hk hL (by decide) dL_law_262 dL_law_263 dL_law_265 (by decide) dL_law_266 dL_law_267 4 0 rfl rfl rfl ?_
  show SV E Γ 8 _ _ _ _ 268 (LVk k) [.int (gX E (6 * k + 3)), .int (gX E (6 * k + 2)), .int (gX E (6 * k + 1)), .ref 1]
  refine sv_callV hΓ (fun l => ct_X11_port l (cA ci n) (cl 48) (gX E (6 * k + 1)) (gX E (6 * k + 2)) (gX E (6 * k + 3)) n h.BA hNW h.2.2.2.2.2.2 h.2.2.2.2.2.1) wv_L_39 vs_X11_port rfl m_1 rfl rfl (by decide) (by omega) (by omega) (Nat.le_of_ble_eq_true rfl) dL_law_268 rfl (fun r M' nx' p1 => ?_)
  obtain ⟨v, c1, r1, d1, rfl, rfl, hn1, hF⟩ := A_port h p1
  show SV E Γ 8 _ _ _ _ 271 (LVk k) [.int v]
  refine sv_aload_n hΓ dL_law_271 rfl 2 rfl rfl ?_
  refine sv_arg hΓ hSX 1 hk hL (by decide) dL_law_272 dL_law_273 dL_law_275 (by decide) dL_law_276 dL_law_277 4 0 rfl rfl rfl ?_
  refine sv_arg hΓ hSX 2 hk hL (by decide) dL_law_278 dL_law_279 dL_law_281 (by decide) dL_law_282 dL_law_283 4 0 rfl rfl rfl ?_
  refine sv_arg hΓ hSX 3 hk hL (by decide) dL_law_284 dL_law_285 dL_law_287 (by decide) dL_law_288 dL_law_289 4 0 rfl rfl rfl ?_
  show SV E Γ 8 _ _ _ _ 290 (LVk k) [.int (gX E (6 * k + 3)), .int (gX E (6 * k + 2)), .int (gX E (6 * k + 1)), .ref 43, .int v]
  refine sv_callV hΓ (fun l => ct_X12_port l (gX E (6 * k + 1)) (gX E (6 * k + 2)) (gX E (6 * k + 3)) n hn1 h.n6) wv_L_43 vs_X12_port rfl m_43 rfl rfl (by decide) (by omega) (by omega) (Nat.le_of_ble_eq_true rfl) dL_law_290 rfl (fun r M' nx' p2 => ?_)
  obtain ⟨rfl, ci2, cl2, cr2, dy2, n2, rfl, h2⟩ := hF _ _ _ p2
  show SV E Γ 8 _ _ _ _ 293 (LVk k) [.int v, .int v]
  refine sv_icmp_eq (tgt := 1595) hΓ dL_law_293 (by decide) rfl (fun _ => ?_) (fun z => absurd rfl z)
  exact SV_w (by omega) (by omega) (K _ _ _ _ _ _ h2)
theorem law_reckon {E : aG} {Γ : aC} {nm : String} {ci : aI} {cl : aL} {cr : Nat → Nat → Option Nat} {dy : aM} {nx n ce sl k : Nat} (C : LC E Γ nm) (h : INV ci cl cr dy nx n) (hk : 6 * k + 6 ≤ gL E) (hce : ce + 3 ≤ 601024) (hsl : sl + 62 ≤ 7293034) (K : KK E Γ (ce + 3) (sl + 62) k) : SV E Γ 8 (mm ci cl cr dy) nx ce sl 298 (LVk k) [] := by
  obtain ⟨hΓ, hSX, hL, hNW, hNX, hX, hXN, htr⟩ := C
  refine sv_aload_n hΓ dL_law_298 rfl 3 rfl rfl ?_
  refine sv_arg hΓ hSX 1 hk hL (by decide) dL_law_299 dL_law_300 dL_law_302 (by decide) dL_law_303 dL_law_304 4 0 rfl rfl rfl ?_
  refine sv_arg hΓ hSX 2 hk hL (by decide) dL_law_305 dL_law_306 dL_law_308 (by decide) dL_law_309 dL_law_310 4 0 rfl rfl rfl ?_
  refine sv_arg hΓ hSX 3 hk hL (by decide) dL_law_311 dL_law_312 dL_law_314 (by decide) dL_law_315 dL_law_316 4 0 rfl rfl rfl ?_
  refine sv_arg hΓ hSX 4 hk hL (by decide) dL_law_317 dL_law_318 dL_law_320 (by decide) dL_law_321 dL_law_322 4 0 rfl rfl rfl ?_
  show SV E Γ 8 _ _ _ _ 323 (LVk k) [.int (gX E (6 * k + 4)), .int (gX E (6 * k + 3)), .int (gX E (6 * k + 2)), .int (gX E (6 * k + 1)), .ref 1]
  refine sv_callV hΓ (fun l => ct_X11_reckon l (cA ci n) (cl 48) (gX E (6 * k + 1)) (gX E (6 * k + 2)) (gX E (6 * k + 3)) (gX E (6 * k + 4)) n h.BA hNW h.2.2.2.2.2.2 h.2.2.2.2.2.1) wv_L_44 vs_X11_reckon rfl m_1 rfl rfl (by decide) (by omega) (by omega) (Nat.le_of_ble_eq_true rfl) dL_law_323 rfl (fun r M' nx' p1 => ?_)
  obtain ⟨v, c1, r1, d1, rfl, rfl, hn1, hF⟩ := A_reckon h p1
  show SV E Γ 8 _ _ _ _ 326 (LVk k) [.int v]
  refine sv_aload_n hΓ dL_law_326 rfl 2 rfl rfl ?_
  refine sv_arg hΓ hSX 1 hk hL (by decide) dL_law_327 dL_law_328 dL_law_330 (by decide) dL_law_331 dL_law_332 4 0 rfl rfl rfl ?_
  refine sv_arg hΓ hSX 2 hk hL (by decide) dL_law_333 dL_law_334 dL_law_336 (by decide) dL_law_337 dL_law_338 4 0 rfl rfl rfl ?_
  refine sv_arg hΓ hSX 3 hk hL (by decide) dL_law_339 dL_law_340 dL_law_342 (by decide) dL_law_343 dL_law_344 4 0 rfl rfl rfl ?_
  refine sv_arg hΓ hSX 4 hk hL (by decide) dL_law_345 dL_law_346 dL_law_348 (by decide) dL_law_349 dL_law_350 4 0 rfl rfl rfl ?_
  show SV E Γ 8 _ _ _ _ 351 (LVk k) [.int (gX E (6 * k + 4)), .int (gX E (6 * k + 3)), .int (gX E (6 * k + 2)), .int (gX E (6 * k + 1)), .ref 43, .int v]
  refine sv_callV hΓ (fun l => ct_X12_reckon l (gX E (6 * k + 1)) (gX E (6 * k + 2)) (gX E (6 * k + 3)) (gX E (6 * k + 4)) n hn1 h.n6) wv_L_48 vs_X12_reckon rfl m_43 rfl rfl (by decide) (by omega) (by omega) (Nat.le_of_ble_eq_true rfl) dL_law_351 rfl (fun r M' nx' p2 => ?_)
  obtain ⟨rfl, ci2, cl2, cr2, dy2, n2, rfl, h2⟩ := hF _ _ _ p2
  show SV E Γ 8 _ _ _ _ 354 (LVk k) [.int v, .int v]
  refine sv_icmp_eq (tgt := 1595) hΓ dL_law_354 (by decide) rfl (fun _ => ?_) (fun z => absurd rfl z)
  exact SV_w (by omega) (by omega) (K _ _ _ _ _ _ h2)
theorem law_pick {E : aG} {Γ : aC} {nm : String} {ci : aI} {cl : aL} {cr : Nat → Nat → Option Nat} {dy : aM} {nx n ce sl k : Nat} (C : LC E Γ nm) (h : INV ci cl cr dy nx n) (hk : 6 * k + 6 ≤ gL E) (hce : ce + 3 ≤ 601024) (hsl : sl + 62 ≤ 7293034) (K : KK E Γ (ce + 3) (sl + 62) k) : SV E Γ 8 (mm ci cl cr dy) nx ce sl 359 (LVk k) [] := by
  obtain ⟨hΓ, hSX, hL, hNW, hNX, hX, hXN, htr⟩ := C
  refine sv_aload_n hΓ dL_law_359 rfl 3 rfl rfl ?_
  refine sv_arg hΓ hSX 1 hk hL (by decide) dL_law_360 dL_law_361 dL_law_363 (by decide) dL_law_364 dL_law_365 4 0 rfl rfl rfl ?_
  refine sv_arg hΓ hSX 2 hk hL (by decide) dL_law_366 dL_law_367 dL_law_369 (by decide) dL_law_370 dL_law_371 4 0 rfl rfl rfl ?_
  refine sv_arg hΓ hSX 3 hk hL (by decide) dL_law_372 dL_law_373 dL_law_375 (by decide) dL_law_376 dL_law_377 4 0 rfl rfl rfl ?_
  refine sv_arg hΓ hSX 4 hk hL (by decide) dL_law_378 dL_law_379 dL_law_381 (by decide) dL_law_382 dL_law_383 4 0 rfl rfl rfl ?_
  show SV E Γ 8 _ _ _ _ 384 (LVk k) [.int (gX E (6 * k + 4)), .int (gX E (6 * k + 3)), .int (gX E (6 * k + 2)), .int (gX E (6 * k + 1)), .ref 1]
  refine sv_callV hΓ (fun l => ct_X11_pick l (cA ci n) (cl 48) (gX E (6 * k + 1)) (gX E (6 * k + 2)) (gX E (6 * k + 3)) (gX E (6 * k + 4)) n h.BA hNW h.2.2.2.2.2.2 h.2.2.2.2.2.1) wv_L_49 vs_X11_pick rfl m_1 rfl rfl (by decide) (by omega) (by omega) (Nat.le_of_ble_eq_true rfl) dL_law_384 rfl (fun r M' nx' p1 => ?_)
  obtain ⟨v, c1, r1, d1, rfl, rfl, hn1, hF⟩ := A_pick h p1
  show SV E Γ 8 _ _ _ _ 387 (LVk k) [.int v]
  refine sv_aload_n hΓ dL_law_387 rfl 2 rfl rfl ?_
  refine sv_arg hΓ hSX 1 hk hL (by decide) dL_law_388 dL_law_389 dL_law_391 (by decide) dL_law_392 dL_law_393 4 0 rfl rfl rfl ?_
  refine sv_arg hΓ hSX 2 hk hL (by decide) dL_law_394 dL_law_395 dL_law_397 (by decide) dL_law_398 dL_law_399 4 0 rfl rfl rfl ?_
  refine sv_arg hΓ hSX 3 hk hL (by decide) dL_law_400 dL_law_401 dL_law_403 (by decide) dL_law_404 dL_law_405 4 0 rfl rfl rfl ?_
  refine sv_arg hΓ hSX 4 hk hL (by decide) dL_law_406 dL_law_407 dL_law_409 (by decide) dL_law_410 dL_law_411 4 0 rfl rfl rfl ?_
  show SV E Γ 8 _ _ _ _ 412 (LVk k) [.int (gX E (6 * k + 4)), .int (gX E (6 * k + 3)), .int (gX E (6 * k + 2)), .int (gX E (6 * k + 1)), .ref 43, .int v]
  refine sv_callV hΓ (fun l => ct_X12_pick l (gX E (6 * k + 1)) (gX E (6 * k + 2)) (gX E (6 * k + 3)) (gX E (6 * k + 4)) n hn1 h.n6) wv_L_52 vs_X12_pick rfl m_43 rfl rfl (by decide) (by omega) (by omega) (Nat.le_of_ble_eq_true rfl) dL_law_412 rfl (fun r M' nx' p2 => ?_)
  obtain ⟨rfl, ci2, cl2, cr2, dy2, n2, rfl, h2⟩ := hF _ _ _ p2
  show SV E Γ 8 _ _ _ _ 415 (LVk k) [.int v, .int v]
  refine sv_icmp_eq (tgt := 1595) hΓ dL_law_415 (by decide) rfl (fun _ => ?_) (fun z => absurd rfl z)
  exact SV_w (by omega) (by omega) (K _ _ _ _ _ _ h2)
theorem law_touch {E : aG} {Γ : aC} {nm : String} {ci : aI} {cl : aL} {cr : Nat → Nat → Option Nat} {dy : aM} {nx n ce sl k : Nat} (C : LC E Γ nm) (h : INV ci cl cr dy nx n) (hk : 6 * k + 6 ≤ gL E) (hce : ce + 3 ≤ 601024) (hsl : sl + 62 ≤ 7293034) (K : KK E Γ (ce + 3) (sl + 62) k) : SV E Γ 8 (mm ci cl cr dy) nx ce sl 420 (LVk k) [] := by
  obtain ⟨hΓ, hSX, hL, hNW, hNX, hX, hXN, htr⟩ := C
  refine sv_aload_n hΓ dL_law_420 rfl 3 rfl rfl ?_
  refine sv_arg hΓ hSX 1 hk hL (by decide) dL_law_421 dL_law_422 dL_law_424 (by decide) dL_law_425 dL_law_426 4 0 rfl rfl rfl ?_
  refine sv_arg hΓ hSX 2 hk hL (by decide) dL_law_427 dL_law_428 dL_law_430 (by decide) dL_law_431 dL_law_432 4 0 rfl rfl rfl ?_
  refine sv_arg hΓ hSX 3 hk hL (by decide) dL_law_433 dL_law_434 dL_law_436 (by decide) dL_law_437 dL_law_438 4 0 rfl rfl rfl ?_
  show SV E Γ 8 _ _ _ _ 439 (LVk k) [.int (gX E (6 * k + 3)), .int (gX E (6 * k + 2)), .int (gX E (6 * k + 1)), .ref 1]
  refine sv_callV hΓ (fun l => ct_X11_touch l (cA ci n) (cl 48) (gX E (6 * k + 1)) (gX E (6 * k + 2)) (gX E (6 * k + 3)) n h.BA hNW h.2.2.2.2.2.2 h.2.2.2.2.2.1) wv_L_53 vs_X11_touch rfl m_1 rfl rfl (by decide) (by omega) (by omega) (Nat.le_of_ble_eq_true rfl) dL_law_439 rfl (fun r M' nx' p1 => ?_)
  obtain ⟨v, c1, r1, d1, rfl, rfl, hn1, hF⟩ := A_touch h p1
  show SV E Γ 8 _ _ _ _ 442 (LVk k) [.int v]
  refine sv_aload_n hΓ dL_law_442 rfl 2 rfl rfl ?_
  refine sv_arg hΓ hSX 1 hk hL (by decide) dL_law_443 dL_law_444 dL_law_446 (by decide) dL_law_447 dL_law_448 4 0 rfl rfl rfl ?_
  refine sv_arg hΓ hSX 2 hk hL (by decide) dL_law_449 dL_law_450 dL_law_452 (by decide) dL_law_453 dL_law_454 4 0 rfl rfl rfl ?_
  refine sv_arg hΓ hSX 3 hk hL (by decide) dL_law_455 dL_law_456 dL_law_458 (by decide) dL_law_459 dL_law_460 4 0 rfl rfl rfl ?_
  show SV E Γ 8 _ _ _ _ 461 (LVk k) [.int (gX E (6 * k + 3)), .int (gX E (6 * k + 2)), .int (gX E (6 * k + 1)), .ref 43, .int v]
  refine sv_callV hΓ (fun l => ct_X12_touch l (gX E (6 * k + 1)) (gX E (6 * k + 2)) (gX E (6 * k + 3)) n hn1 h.n6) wv_L_56 vs_X12_touch rfl m_43 rfl rfl (by decide) (by omega) (by omega) (Nat.le_of_ble_eq_true rfl) dL_law_461 rfl (fun r M' nx' p2 => ?_)
  obtain ⟨rfl, ci2, cl2, cr2, dy2, n2, rfl, h2⟩ := hF _ _ _ p2
  show SV E Γ 8 _ _ _ _ 464 (LVk k) [.int v, .int v]
  refine sv_icmp_eq (tgt := 1595) hΓ dL_law_464 (by decide) rfl (fun _ => ?_) (fun z => absurd rfl z)
  exact SV_w (by omega) (by omega) (K _ _ _ _ _ _ h2)
theorem law_drop {E : aG} {Γ : aC} {nm : String} {ci : aI} {cl : aL} {cr : Nat → Nat → Option Nat} {dy : aM} {nx n ce sl k : Nat} (C : LC E Γ nm) (h : INV ci cl cr dy nx n) (hk : 6 * k + 6 ≤ gL E) (hce : ce + 3 ≤ 601024) (hsl : sl + 62 ≤ 7293034) (K : KK E Γ (ce + 3) (sl + 62) k) : SV E Γ 8 (mm ci cl cr dy) nx ce sl 469 (LVk k) [] := by
  obtain ⟨hΓ, hSX, hL, hNW, hNX, hX, hXN, htr⟩ := C
  refine sv_aload_n hΓ dL_law_469 rfl 3 rfl rfl ?_
  show SV E Γ 8 _ _ _ _ 470 (LVk k) [.ref 1]
  refine sv_callV hΓ (fun l => ct_X11_drop l n h.1.1.2.2.2.1 h.n6) wv_L_57 vs_X11_drop rfl m_1 rfl rfl (by decide) (by omega) (by omega) (Nat.le_of_ble_eq_true rfl) dL_law_470 rfl (fun r M' nx' p1 => ?_)
  obtain ⟨v, c1, rfl, rfl, rfl, hn1, hF⟩ := A_drop h p1
  show SV E Γ 8 _ _ _ _ 473 (LVk k) [.int v]
  refine sv_aload_n hΓ dL_law_473 rfl 2 rfl rfl ?_
  show SV E Γ 8 _ _ _ _ 474 (LVk k) [.ref 43, .int v]
  refine sv_callV hΓ (fun l => ct_X12_drop l n hn1 h.n6) wv_L_61 vs_X12_drop rfl m_43 rfl rfl (by decide) (by omega) (by omega) (Nat.le_of_ble_eq_true rfl) dL_law_474 rfl (fun r M' nx' p2 => ?_)
  obtain ⟨rfl, ci2, cl2, cr2, dy2, n2, rfl, h2⟩ := hF _ _ _ p2
  show SV E Γ 8 _ _ _ _ 477 (LVk k) [.int v, .int v]
  refine sv_icmp_eq (tgt := 1595) hΓ dL_law_477 (by decide) rfl (fun _ => ?_) (fun z => absurd rfl z)
  exact SV_w (by omega) (by omega) (K _ _ _ _ _ _ h2)
theorem law_parts {E : aG} {Γ : aC} {nm : String} {ci : aI} {cl : aL} {cr : Nat → Nat → Option Nat} {dy : aM} {nx n ce sl k : Nat} (C : LC E Γ nm) (h : INV ci cl cr dy nx n) (hk : 6 * k + 6 ≤ gL E) (hce : ce + 3 ≤ 601024) (hsl : sl + 62 ≤ 7293034) (K : KK E Γ (ce + 3) (sl + 62) k) : SV E Γ 8 (mm ci cl cr dy) nx ce sl 482 (LVk k) [] := by
  obtain ⟨hΓ, hSX, hL, hNW, hNX, hX, hXN, htr⟩ := C
  refine sv_aload_n hΓ dL_law_482 rfl 3 rfl rfl ?_
  refine sv_arg hΓ hSX 1 hk hL (by decide) dL_law_483 dL_law_484 dL_law_486 (by decide) dL_law_487 dL_law_488 4 0 rfl rfl rfl ?_
  refine sv_arg hΓ hSX 2 hk hL (by decide) dL_law_489 dL_law_490 dL_law_492 (by decide) dL_law_493 dL_law_494 4 0 rfl rfl rfl ?_
  show SV E Γ 8 _ _ _ _ 495 (LVk k) [.int (gX E (6 * k + 2)), .int (gX E (6 * k + 1)), .ref 1]
  refine sv_callV hΓ (fun l => ct_X11_parts l (gX E (6 * k + 1)) (gX E (6 * k + 2))) wv_L_62 vs_X11_parts rfl m_1 rfl rfl (by decide) (by omega) (by omega) (Nat.le_of_ble_eq_true rfl) dL_law_495 rfl (fun r M' nx' p1 => ?_)
  obtain ⟨v, c1, rfl, rfl, rfl, hF⟩ := A_parts h p1
  show SV E Γ 8 _ _ _ _ 498 (LVk k) [.int v]
  refine sv_aload_n hΓ dL_law_498 rfl 2 rfl rfl ?_
  refine sv_arg hΓ hSX 1 hk hL (by decide) dL_law_499 dL_law_500 dL_law_502 (by decide) dL_law_503 dL_law_504 4 0 rfl rfl rfl ?_
  refine sv_arg hΓ hSX 2 hk hL (by decide) dL_law_505 dL_law_506 dL_law_508 (by decide) dL_law_509 dL_law_510 4 0 rfl rfl rfl ?_
  show SV E Γ 8 _ _ _ _ 511 (LVk k) [.int (gX E (6 * k + 2)), .int (gX E (6 * k + 1)), .ref 43, .int v]
  refine sv_callV hΓ (fun l => ct_X12_parts l (gX E (6 * k + 1)) (gX E (6 * k + 2))) wv_L_66 vs_X12_parts rfl m_43 rfl rfl (by decide) (by omega) (by omega) (Nat.le_of_ble_eq_true rfl) dL_law_511 rfl (fun r M' nx' p2 => ?_)
  obtain ⟨rfl, ci2, cl2, cr2, dy2, n2, rfl, h2⟩ := hF _ _ _ p2
  show SV E Γ 8 _ _ _ _ 514 (LVk k) [.int v, .int v]
  refine sv_icmp_eq (tgt := 1595) hΓ dL_law_514 (by decide) rfl (fun _ => ?_) (fun z => absurd rfl z)
  exact SV_w (by omega) (by omega) (K _ _ _ _ _ _ h2)
theorem law_length {E : aG} {Γ : aC} {nm : String} {ci : aI} {cl : aL} {cr : Nat → Nat → Option Nat} {dy : aM} {nx n ce sl k : Nat} (C : LC E Γ nm) (h : INV ci cl cr dy nx n) (hk : 6 * k + 6 ≤ gL E) (hce : ce + 3 ≤ 601024) (hsl : sl + 62 ≤ 7293034) (K : KK E Γ (ce + 3) (sl + 62) k) : SV E Γ 8 (mm ci cl cr dy) nx ce sl 519 (LVk k) [] := by
  obtain ⟨hΓ, hSX, hL, hNW, hNX, hX, hXN, htr⟩ := C
  refine sv_aload_n hΓ dL_law_519 rfl 3 rfl rfl ?_
  refine sv_arg hΓ hSX 1 hk hL (by decide) dL_law_520 dL_law_521 dL_law_523 (by decide) dL_law_524 dL_law_525 4 0 rfl rfl rfl ?_
  refine sv_arg hΓ hSX 2 hk hL (by decide) dL_law_526 dL_law_527 dL_law_529 (by decide) dL_law_530 dL_law_531 4 0 rfl rfl rfl ?_
  refine sv_arg hΓ hSX 3 hk hL (by decide) dL_law_532 dL_law_533 dL_law_535 (by decide) dL_law_536 dL_law_537 4 0 rfl rfl rfl ?_
  refine sv_nz hΓ dL_law_538 dL_law_541 dL_law_542 dL_law_545 rfl ?_
  show SV E Γ 8 _ _ _ _ 546 (LVk k) [.int (nzI (gX E (6 * k + 3))), .int (gX E (6 * k + 2)), .int (gX E (6 * k + 1)), .ref 1]
  refine sv_callV hΓ (fun l => ct_X11_length l (gX E (6 * k + 1)) (gX E (6 * k + 2)) (nzI (gX E (6 * k + 3))) (nz01 _)) wv_L_67 vs_X11_length rfl m_1 rfl rfl (by decide) (by omega) (by omega) (Nat.le_of_ble_eq_true rfl) dL_law_546 rfl (fun r M' nx' p1 => ?_)
  obtain ⟨v, c1, rfl, rfl, rfl, hF⟩ := A_length h p1
  show SV E Γ 8 _ _ _ _ 549 (LVk k) [.int v]
  refine sv_aload_n hΓ dL_law_549 rfl 2 rfl rfl ?_
  refine sv_arg hΓ hSX 1 hk hL (by decide) dL_law_550 dL_law_551 dL_law_553 (by decide) dL_law_554 dL_law_555 4 0 rfl rfl rfl ?_
  refine sv_arg hΓ hSX 2 hk hL (by decide) dL_law_556 dL_law_557 dL_law_559 (by decide) dL_law_560 dL_law_561 4 0 rfl rfl rfl ?_
  refine sv_arg hΓ hSX 3 hk hL (by decide) dL_law_562 dL_law_563 dL_law_565 (by decide) dL_law_566 dL_law_567 4 0 rfl rfl rfl ?_
  refine sv_nz hΓ dL_law_568 dL_law_571 dL_law_572 dL_law_575 rfl ?_
  show SV E Γ 8 _ _ _ _ 576 (LVk k) [.int (nzI (gX E (6 * k + 3))), .int (gX E (6 * k + 2)), .int (gX E (6 * k + 1)), .ref 43, .int v]
  refine sv_callV hΓ (fun l => ct_X12_length l (gX E (6 * k + 1)) (gX E (6 * k + 2)) (nzI (gX E (6 * k + 3))) (nz01 _)) wv_L_71 vs_X12_length rfl m_43 rfl rfl (by decide) (by omega) (by omega) (Nat.le_of_ble_eq_true rfl) dL_law_576 rfl (fun r M' nx' p2 => ?_)
  obtain ⟨rfl, ci2, cl2, cr2, dy2, n2, rfl, h2⟩ := hF _ _ _ p2
  show SV E Γ 8 _ _ _ _ 579 (LVk k) [.int v, .int v]
  refine sv_icmp_eq (tgt := 1595) hΓ dL_law_579 (by decide) rfl (fun _ => ?_) (fun z => absurd rfl z)
  exact SV_w (by omega) (by omega) (K _ _ _ _ _ _ h2)
