theorem dL_law_261 : decode cL_law 261 = .ok (.aload_n 1, 1) := by decide +kernel
theorem dL_law_262 : decode cL_law 262 = .ok (.aload_n 0, 1) := by decide +kernel
theorem dL_law_263 : decode cL_law 263 = .ok (.iload 4, 2) := by decide +kernel
theorem dL_law_265 : decode cL_law 265 = .ok (.iconst 1, 1) := by decide +kernel
theorem dL_law_266 : decode cL_law 266 = .ok (.iadd, 1) := by decide +kernel
theorem dL_law_267 : decode cL_law 267 = .ok (.iaload, 1) := by decide +kernel
theorem dL_law_268 : decode cL_law 268 = .ok (.aload_n 0, 1) := by decide +kernel
theorem dL_law_269 : decode cL_law 269 = .ok (.iload 4, 2) := by decide +kernel
theorem dL_law_271 : decode cL_law 271 = .ok (.iconst 2, 1) := by decide +kernel
theorem dL_law_272 : decode cL_law 272 = .ok (.iadd, 1) := by decide +kernel
theorem dL_law_273 : decode cL_law 273 = .ok (.iaload, 1) := by decide +kernel
theorem dL_law_274 : decode cL_law 274 = .ok (.invokevirtual 26, 3) := by decide +kernel
theorem dL_law_277 : decode cL_law 277 = .ok (.aload_n 2, 1) := by decide +kernel
theorem dL_law_278 : decode cL_law 278 = .ok (.aload_n 0, 1) := by decide +kernel
theorem dL_law_279 : decode cL_law 279 = .ok (.iload 4, 2) := by decide +kernel
theorem dL_law_281 : decode cL_law 281 = .ok (.iconst 1, 1) := by decide +kernel
theorem dL_law_282 : decode cL_law 282 = .ok (.iadd, 1) := by decide +kernel
theorem dL_law_283 : decode cL_law 283 = .ok (.iaload, 1) := by decide +kernel
theorem dL_law_284 : decode cL_law 284 = .ok (.aload_n 0, 1) := by decide +kernel
theorem dL_law_285 : decode cL_law 285 = .ok (.iload 4, 2) := by decide +kernel
theorem dL_law_287 : decode cL_law 287 = .ok (.iconst 2, 1) := by decide +kernel
theorem dL_law_288 : decode cL_law 288 = .ok (.iadd, 1) := by decide +kernel
theorem dL_law_289 : decode cL_law 289 = .ok (.iaload, 1) := by decide +kernel
theorem dL_law_290 : decode cL_law 290 = .ok (.invokevirtual 30, 3) := by decide +kernel
theorem dL_law_293 : decode cL_law 293 = .ok (.if_icmp .eq 1425, 3) := by decide +kernel
theorem dL_law_296 : decode cL_law 296 = .ok (.iconst 0, 1) := by decide +kernel
theorem dL_law_297 : decode cL_law 297 = .ok (.ireturn, 1) := by decide +kernel
set_option maxHeartbeats 4000000 in
set_option maxRecDepth 100000 in
theorem lc_1 {p : Program} {l : Launch} {e : Env} {s : State} {m : MethodId} {below : List Frame} {meth : Method} {c : Code} {b L : Nat} {xs : Nat → Int32} {E : EE} {cL : ClassId} {ad qa qe : Nat → Nat} {sh rg : Nat → Option Nat} {rwf : Nat → Nat} {σ : Nat → Nat} (hC : LC p l s m meth c b L xs E cL rg rwf) {i : Nat} (hi6 : i + 6 ≤ L) {cells slots : Nat} (hcs : cells + 1 ≤ 601024 ∧ slots + 6 ≤ 7293034) (kk : Nx p l e s m below meth c b E cL ad qa qe sh rg rwf σ (nI i) (cells + 1) (slots + 6) 1718) : Nx p l e s m below meth c b E cL ad qa qe sh rg rwf σ (nI i) cells slots 261 := by
  intro h k f r m y mv st P ne dy mh mk mf mr mm ms mo mt mp mn md gh gk gf gr gm gs go gt gp gn gd img rp Y V el ho ki fi so si S M I B hi pl ra re nu mx sd K KK KF SO SI EL th og hI H locs ls hP hD hS hl
  obtain ⟨C0, hL, hG, hKL, hTX, hrg⟩ := id hC
  obtain ⟨hx, hb, hr, hml, hown, hts, hX, hbl, hlocks, hgv⟩ := id C0
  have hF := lw_fix C0
  obtain ⟨hSt, hq, hhi, him, hk9⟩ := id hI
  have hA : ∀ q : Nat, s.heap.size ≤ q → (fun q : Nat => s.heap.size ≤ q) q := fun _ h => h
  have hc0 : cells + 0 ≤ room_1.cells ∧ slots + 0 ≤ room_1.slots := ⟨Nat.le_of_succ_le hcs.1, by have := hcs.2; show slots + 0 ≤ 7293034; omega⟩
  obtain ⟨res, e1, e2⟩ := ag_speaker hSt (xs (i + 1)) (xs (i + 2)) 
  refine lv_aload_n hx hb dL_law_261 rfl (lv_at hl 2 rfl) ?_
  refine lw_ld hC hi6 (j := 1) (by decide) hS hl dL_law_262 dL_law_263 dL_law_265 dL_law_266 dL_law_267 ?_
  refine lw_ld hC hi6 (j := 2) (by decide) hS hl dL_law_268 dL_law_269 dL_law_271 dL_law_272 dL_law_273 ?_
  refine rdV 3 0 (As := [.int (xs (i + 1)), .int (xs (i + 2))]) (rest := []) (st1 := [.int res]) hF q_X9_speaker kw_2_46 (c_X9_speaker l E (ad 0) (ad 1) (ad 8) (ad 15) (ad 22) (ad 32) (ad 2) (ad 3) (ad 4) (ad 5) (ad 6) (ad 7) img h k f r m y mv st (nI P) ne dy (xs (i + 1)) (xs (i + 2)) res e1) ⟨rfl, rfl⟩ ⟨Nat.le_of_ble_eq_true rfl, Nat.le_of_ble_eq_true rfl⟩ hc0 (cut_P hP [0, 1, 2, 3, 4, 5, 6, 7] cuN) rfl rfl rfl hG rfl hl.1 rfl (Nat.le_of_ble_eq_true rfl) dL_law_274 rfl ?_
  refine lv_aload_n hx hb dL_law_277 rfl (lv_at hl 3 rfl) ?_
  refine lw_ld hC hi6 (j := 1) (by decide) hS hl dL_law_278 dL_law_279 dL_law_281 dL_law_282 dL_law_283 ?_
  refine lw_ld hC hi6 (j := 2) (by decide) hS hl dL_law_284 dL_law_285 dL_law_287 dL_law_288 dL_law_289 ?_
  refine rdV 4 0 (As := [.int (xs (i + 1)), .int (xs (i + 2))]) (rest := [.int res]) (st1 := [.int res, .int res]) hF q_X10_speaker kw_5_20 (c_X10_speaker l E (ad 49) (ad 50) (ad 51) (ad 52) (ad 53) (ad 54) (ad 55) (ad 56) (ad 57) (ad 58) (ad 59) (ad 60) (ad 61) S M I B hi pl ra re nu mx sd K KK KF SO SI EL th (xs (i + 1)) (xs (i + 2)) res e2) ⟨rfl, rfl⟩ ⟨Nat.le_of_ble_eq_true rfl, Nat.le_of_ble_eq_true rfl⟩ hc0 (cut_P hP [49, 50, 51, 52, 53, 54, 55, 56, 57, 58, 59, 60, 61] cuMo) rfl rfl rfl hG rfl hl.1 rfl (Nat.le_of_ble_eq_true rfl) dL_law_290 rfl ?_
  refine lv_icmp_eq (tgt := 1718) hx hb dL_law_293 (by decide) (fun _ => ?_) (fun h => absurd rfl h)
  exact w_widen (Nat.le_succ _) (Nat.le_add_right _ 6) (kk h k f r m y mv st P ne dy mh mk mf mr mm ms mo mt mp mn md gh gk gf gr gm gs go gt gp gn gd img rp Y V el ho ki fi so si S M I B hi pl ra re nu mx sd K KK KF SO SI EL th og hI H locs ls hP hD hS hl)
theorem dL_law_298 : decode cL_law 298 = .ok (.aload_n 1, 1) := by decide +kernel
theorem dL_law_299 : decode cL_law 299 = .ok (.aload_n 0, 1) := by decide +kernel
theorem dL_law_300 : decode cL_law 300 = .ok (.iload 4, 2) := by decide +kernel
theorem dL_law_302 : decode cL_law 302 = .ok (.iconst 1, 1) := by decide +kernel
theorem dL_law_303 : decode cL_law 303 = .ok (.iadd, 1) := by decide +kernel
theorem dL_law_304 : decode cL_law 304 = .ok (.iaload, 1) := by decide +kernel
theorem dL_law_305 : decode cL_law 305 = .ok (.aload_n 0, 1) := by decide +kernel
theorem dL_law_306 : decode cL_law 306 = .ok (.iload 4, 2) := by decide +kernel
theorem dL_law_308 : decode cL_law 308 = .ok (.iconst 2, 1) := by decide +kernel
theorem dL_law_309 : decode cL_law 309 = .ok (.iadd, 1) := by decide +kernel
theorem dL_law_310 : decode cL_law 310 = .ok (.iaload, 1) := by decide +kernel
theorem dL_law_311 : decode cL_law 311 = .ok (.invokevirtual 31, 3) := by decide +kernel
theorem dL_law_314 : decode cL_law 314 = .ok (.aload_n 2, 1) := by decide +kernel
theorem dL_law_315 : decode cL_law 315 = .ok (.aload_n 0, 1) := by decide +kernel
theorem dL_law_316 : decode cL_law 316 = .ok (.iload 4, 2) := by decide +kernel
theorem dL_law_318 : decode cL_law 318 = .ok (.iconst 1, 1) := by decide +kernel
theorem dL_law_319 : decode cL_law 319 = .ok (.iadd, 1) := by decide +kernel
theorem dL_law_320 : decode cL_law 320 = .ok (.iaload, 1) := by decide +kernel
theorem dL_law_321 : decode cL_law 321 = .ok (.aload_n 0, 1) := by decide +kernel
theorem dL_law_322 : decode cL_law 322 = .ok (.iload 4, 2) := by decide +kernel
theorem dL_law_324 : decode cL_law 324 = .ok (.iconst 2, 1) := by decide +kernel
theorem dL_law_325 : decode cL_law 325 = .ok (.iadd, 1) := by decide +kernel
theorem dL_law_326 : decode cL_law 326 = .ok (.iaload, 1) := by decide +kernel
theorem dL_law_327 : decode cL_law 327 = .ok (.invokevirtual 34, 3) := by decide +kernel
theorem dL_law_330 : decode cL_law 330 = .ok (.if_icmp .eq 1388, 3) := by decide +kernel
theorem dL_law_333 : decode cL_law 333 = .ok (.iconst 0, 1) := by decide +kernel
theorem dL_law_334 : decode cL_law 334 = .ok (.ireturn, 1) := by decide +kernel
set_option maxHeartbeats 4000000 in
set_option maxRecDepth 100000 in
theorem lc_2 {p : Program} {l : Launch} {e : Env} {s : State} {m : MethodId} {below : List Frame} {meth : Method} {c : Code} {b L : Nat} {xs : Nat → Int32} {E : EE} {cL : ClassId} {ad qa qe : Nat → Nat} {sh rg : Nat → Option Nat} {rwf : Nat → Nat} {σ : Nat → Nat} (hC : LC p l s m meth c b L xs E cL rg rwf) {i : Nat} (hi6 : i + 6 ≤ L) {cells slots : Nat} (hcs : cells + 1 ≤ 601024 ∧ slots + 6 ≤ 7293034) (kk : Nx p l e s m below meth c b E cL ad qa qe sh rg rwf σ (nI i) (cells + 1) (slots + 6) 1718) : Nx p l e s m below meth c b E cL ad qa qe sh rg rwf σ (nI i) cells slots 298 := by
  intro h k f r m y mv st P ne dy mh mk mf mr mm ms mo mt mp mn md gh gk gf gr gm gs go gt gp gn gd img rp Y V el ho ki fi so si S M I B hi pl ra re nu mx sd K KK KF SO SI EL th og hI H locs ls hP hD hS hl
  obtain ⟨C0, hL, hG, hKL, hTX, hrg⟩ := id hC
  obtain ⟨hx, hb, hr, hml, hown, hts, hX, hbl, hlocks, hgv⟩ := id C0
  have hF := lw_fix C0
  obtain ⟨hSt, hq, hhi, him, hk9⟩ := id hI
  have hA : ∀ q : Nat, s.heap.size ≤ q → (fun q : Nat => s.heap.size ≤ q) q := fun _ h => h
  have hc0 : cells + 0 ≤ room_1.cells ∧ slots + 0 ≤ room_1.slots := ⟨Nat.le_of_succ_le hcs.1, by have := hcs.2; show slots + 0 ≤ 7293034; omega⟩
  obtain ⟨res, e1, e2⟩ := ag_balcony hSt (xs (i + 1)) (xs (i + 2)) (N := 2000) (by decide)
  refine lv_aload_n hx hb dL_law_298 rfl (lv_at hl 2 rfl) ?_
  refine lw_ld hC hi6 (j := 1) (by decide) hS hl dL_law_299 dL_law_300 dL_law_302 dL_law_303 dL_law_304 ?_
  refine lw_ld hC hi6 (j := 2) (by decide) hS hl dL_law_305 dL_law_306 dL_law_308 dL_law_309 dL_law_310 ?_
  refine rdV 3 0 (As := [.int (xs (i + 1)), .int (xs (i + 2))]) (rest := []) (st1 := [.int res]) hF q_X9_balcony kw_2_63 (c_X9_balcony l E (ad 0) (ad 1) (ad 8) (ad 15) (ad 22) (ad 32) (ad 2) (ad 3) (ad 4) (ad 5) (ad 6) (ad 7) img h k f r m y mv st (nI P) ne dy (xs (i + 1)) (xs (i + 2)) 2000 res e1) ⟨rfl, rfl⟩ ⟨Nat.le_of_ble_eq_true rfl, Nat.le_of_ble_eq_true rfl⟩ hc0 (cut_P hP [0, 1, 2, 3, 4, 5, 6, 7] cuN) rfl rfl rfl hG rfl hl.1 rfl (Nat.le_of_ble_eq_true rfl) dL_law_311 rfl ?_
  refine lv_aload_n hx hb dL_law_314 rfl (lv_at hl 3 rfl) ?_
  refine lw_ld hC hi6 (j := 1) (by decide) hS hl dL_law_315 dL_law_316 dL_law_318 dL_law_319 dL_law_320 ?_
  refine lw_ld hC hi6 (j := 2) (by decide) hS hl dL_law_321 dL_law_322 dL_law_324 dL_law_325 dL_law_326 ?_
  refine rdV 4 0 (As := [.int (xs (i + 1)), .int (xs (i + 2))]) (rest := [.int res]) (st1 := [.int res, .int res]) hF q_X10_balcony kw_5_30 (c_X10_balcony l E (ad 49) (ad 50) (ad 51) (ad 52) (ad 53) (ad 54) (ad 55) (ad 56) (ad 57) (ad 58) (ad 59) (ad 60) (ad 61) S M I B hi pl ra re nu mx sd K KK KF SO SI EL th (xs (i + 1)) (xs (i + 2)) 2000 res e2) ⟨rfl, rfl⟩ ⟨Nat.le_of_ble_eq_true rfl, Nat.le_of_ble_eq_true rfl⟩ hc0 (cut_P hP [49, 50, 51, 52, 53, 54, 55, 56, 57, 58, 59, 60, 61] cuMo) rfl rfl rfl hG rfl hl.1 rfl (Nat.le_of_ble_eq_true rfl) dL_law_327 rfl ?_
  refine lv_icmp_eq (tgt := 1718) hx hb dL_law_330 (by decide) (fun _ => ?_) (fun h => absurd rfl h)
  exact w_widen (Nat.le_succ _) (Nat.le_add_right _ 6) (kk h k f r m y mv st P ne dy mh mk mf mr mm ms mo mt mp mn md gh gk gf gr gm gs go gt gp gn gd img rp Y V el ho ki fi so si S M I B hi pl ra re nu mx sd K KK KF SO SI EL th og hI H locs ls hP hD hS hl)
theorem dL_law_372 : decode cL_law 372 = .ok (.aload_n 1, 1) := by decide +kernel
theorem dL_law_373 : decode cL_law 373 = .ok (.aload_n 0, 1) := by decide +kernel
theorem dL_law_374 : decode cL_law 374 = .ok (.iload 4, 2) := by decide +kernel
theorem dL_law_376 : decode cL_law 376 = .ok (.iconst 1, 1) := by decide +kernel
theorem dL_law_377 : decode cL_law 377 = .ok (.iadd, 1) := by decide +kernel
theorem dL_law_378 : decode cL_law 378 = .ok (.iaload, 1) := by decide +kernel
theorem dL_law_379 : decode cL_law 379 = .ok (.aload_n 0, 1) := by decide +kernel
theorem dL_law_380 : decode cL_law 380 = .ok (.iload 4, 2) := by decide +kernel
theorem dL_law_382 : decode cL_law 382 = .ok (.iconst 2, 1) := by decide +kernel
theorem dL_law_383 : decode cL_law 383 = .ok (.iadd, 1) := by decide +kernel
theorem dL_law_384 : decode cL_law 384 = .ok (.iaload, 1) := by decide +kernel
theorem dL_law_385 : decode cL_law 385 = .ok (.invokevirtual 39, 3) := by decide +kernel
theorem dL_law_388 : decode cL_law 388 = .ok (.aload_n 2, 1) := by decide +kernel
theorem dL_law_389 : decode cL_law 389 = .ok (.aload_n 0, 1) := by decide +kernel
theorem dL_law_390 : decode cL_law 390 = .ok (.iload 4, 2) := by decide +kernel
theorem dL_law_392 : decode cL_law 392 = .ok (.iconst 1, 1) := by decide +kernel
theorem dL_law_393 : decode cL_law 393 = .ok (.iadd, 1) := by decide +kernel
theorem dL_law_394 : decode cL_law 394 = .ok (.iaload, 1) := by decide +kernel
theorem dL_law_395 : decode cL_law 395 = .ok (.aload_n 0, 1) := by decide +kernel
theorem dL_law_396 : decode cL_law 396 = .ok (.iload 4, 2) := by decide +kernel
theorem dL_law_398 : decode cL_law 398 = .ok (.iconst 2, 1) := by decide +kernel
theorem dL_law_399 : decode cL_law 399 = .ok (.iadd, 1) := by decide +kernel
theorem dL_law_400 : decode cL_law 400 = .ok (.iaload, 1) := by decide +kernel
theorem dL_law_401 : decode cL_law 401 = .ok (.invokevirtual 42, 3) := by decide +kernel
theorem dL_law_404 : decode cL_law 404 = .ok (.if_icmp .eq 1314, 3) := by decide +kernel
theorem dL_law_407 : decode cL_law 407 = .ok (.iconst 0, 1) := by decide +kernel
theorem dL_law_408 : decode cL_law 408 = .ok (.ireturn, 1) := by decide +kernel
set_option maxHeartbeats 4000000 in
set_option maxRecDepth 100000 in
theorem lc_4 {p : Program} {l : Launch} {e : Env} {s : State} {m : MethodId} {below : List Frame} {meth : Method} {c : Code} {b L : Nat} {xs : Nat → Int32} {E : EE} {cL : ClassId} {ad qa qe : Nat → Nat} {sh rg : Nat → Option Nat} {rwf : Nat → Nat} {σ : Nat → Nat} (hC : LC p l s m meth c b L xs E cL rg rwf) {i : Nat} (hi6 : i + 6 ≤ L) {cells slots : Nat} (hcs : cells + 1 ≤ 601024 ∧ slots + 6 ≤ 7293034) (kk : Nx p l e s m below meth c b E cL ad qa qe sh rg rwf σ (nI i) (cells + 1) (slots + 6) 1718) : Nx p l e s m below meth c b E cL ad qa qe sh rg rwf σ (nI i) cells slots 372 := by
  intro h k f r m y mv st P ne dy mh mk mf mr mm ms mo mt mp mn md gh gk gf gr gm gs go gt gp gn gd img rp Y V el ho ki fi so si S M I B hi pl ra re nu mx sd K KK KF SO SI EL th og hI H locs ls hP hD hS hl
  obtain ⟨C0, hL, hG, hKL, hTX, hrg⟩ := id hC
  obtain ⟨hx, hb, hr, hml, hown, hts, hX, hbl, hlocks, hgv⟩ := id C0
  have hF := lw_fix C0
  obtain ⟨hSt, hq, hhi, him, hk9⟩ := id hI
  have hA : ∀ q : Nat, s.heap.size ≤ q → (fun q : Nat => s.heap.size ≤ q) q := fun _ h => h
  have hc0 : cells + 0 ≤ room_1.cells ∧ slots + 0 ≤ room_1.slots := ⟨Nat.le_of_succ_le hcs.1, by have := hcs.2; show slots + 0 ≤ 7293034; omega⟩
  obtain ⟨res, h1, S1, e1, e2, hSt1⟩ := ag_builds hSt (xs (i + 1)) (xs (i + 2)) 
  refine lv_aload_n hx hb dL_law_372 rfl (lv_at hl 2 rfl) ?_
  refine lw_ld hC hi6 (j := 1) (by decide) hS hl dL_law_373 dL_law_374 dL_law_376 dL_law_377 dL_law_378 ?_
  refine lw_ld hC hi6 (j := 2) (by decide) hS hl dL_law_379 dL_law_380 dL_law_382 dL_law_383 dL_law_384 ?_
  refine wrVj [0, 1, 2, 3, 4, 5, 6, 7] [8, 9, 10, 11, 12, 13, 14, 15, 16, 17, 18, 19, 20, 21, 22, 23, 24, 25, 26, 27, 28, 29, 30, 31, 32, 33, 34, 35, 36, 37, 38, 39, 40, 41, 42, 43, 44, 45, 46, 47, 48, 49, 50, 51, 52, 53, 54, 55, 56, 57, 58, 59, 60, 61, 62] 3 0 (As := [.int (xs (i + 1)), .int (xs (i + 2))]) (rest := []) (st1 := [.int res]) hF q_X9_builds kw_2_82 (c_X9_builds l E (ad 0) (ad 1) (ad 8) (ad 15) (ad 22) (ad 32) (ad 2) (ad 3) (ad 4) (ad 5) (ad 6) (ad 7) img h k f r m y mv st (nI P) ne dy (xs (i + 1)) (xs (i + 2)) res h1 e1) ⟨rfl, rfl⟩ ⟨Nat.le_of_ble_eq_true rfl, Nat.le_of_ble_eq_true rfl⟩ hc0 hP hD hS hA rfl rfl rfl hG jnN rfl hl.1 rfl (Nat.le_of_ble_eq_true rfl) dL_law_385 rfl (fun H locs hP hD hS => ?_)
  refine lv_aload_n hx hb dL_law_388 rfl (lv_at hl 3 rfl) ?_
  refine lw_ld hC hi6 (j := 1) (by decide) hS hl dL_law_389 dL_law_390 dL_law_392 dL_law_393 dL_law_394 ?_
  refine lw_ld hC hi6 (j := 2) (by decide) hS hl dL_law_395 dL_law_396 dL_law_398 dL_law_399 dL_law_400 ?_
  refine wrVj [49, 50, 51, 52, 53, 54, 55, 56, 57, 58, 59, 60, 61] [0, 1, 2, 3, 4, 5, 6, 7, 8, 9, 10, 11, 12, 13, 14, 15, 16, 17, 18, 19, 20, 21, 22, 23, 24, 25, 26, 27, 28, 29, 30, 31, 32, 33, 34, 35, 36, 37, 38, 39, 40, 41, 42, 43, 44, 45, 46, 47, 48, 62] 4 0 (As := [.int (xs (i + 1)), .int (xs (i + 2))]) (rest := [.int res]) (st1 := [.int res, .int res]) hF q_X10_builds kw_5_45 (c_X10_builds l E (ad 49) (ad 50) (ad 51) (ad 52) (ad 53) (ad 54) (ad 55) (ad 56) (ad 57) (ad 58) (ad 59) (ad 60) (ad 61) S M I B hi pl ra re nu mx sd K KK KF SO SI EL th (xs (i + 1)) (xs (i + 2)) res S1 e2) ⟨rfl, rfl⟩ ⟨Nat.le_of_ble_eq_true rfl, Nat.le_of_ble_eq_true rfl⟩ hc0 hP hD hS hA rfl rfl rfl hG jnMo rfl hl.1 rfl (Nat.le_of_ble_eq_true rfl) dL_law_401 rfl (fun H locs hP hD hS => ?_)
  refine lv_icmp_eq (tgt := 1718) hx hb dL_law_404 (by decide) (fun _ => ?_) (fun h => absurd rfl h)
  exact w_widen (Nat.le_succ _) (Nat.le_add_right _ 6) (kk h1 k f r m y mv st P ne dy mh mk mf mr mm ms mo mt mp mn md gh gk gf gr gm gs go gt gp gn gd img rp Y V el ho ki fi so si S1 M I B hi pl ra re nu mx sd K KK KF SO SI EL th og ⟨hSt1, hI.2⟩ H locs ls hP hD hS hl)
theorem dL_law_409 : decode cL_law 409 = .ok (.aload_n 1, 1) := by decide +kernel
theorem dL_law_410 : decode cL_law 410 = .ok (.aload_n 0, 1) := by decide +kernel
theorem dL_law_411 : decode cL_law 411 = .ok (.iload 4, 2) := by decide +kernel
theorem dL_law_413 : decode cL_law 413 = .ok (.iconst 1, 1) := by decide +kernel
theorem dL_law_414 : decode cL_law 414 = .ok (.iadd, 1) := by decide +kernel
theorem dL_law_415 : decode cL_law 415 = .ok (.iaload, 1) := by decide +kernel
theorem dL_law_416 : decode cL_law 416 = .ok (.invokevirtual 43, 3) := by decide +kernel
theorem dL_law_419 : decode cL_law 419 = .ok (.aload_n 2, 1) := by decide +kernel
theorem dL_law_420 : decode cL_law 420 = .ok (.aload_n 0, 1) := by decide +kernel
theorem dL_law_421 : decode cL_law 421 = .ok (.iload 4, 2) := by decide +kernel
theorem dL_law_423 : decode cL_law 423 = .ok (.iconst 1, 1) := by decide +kernel
theorem dL_law_424 : decode cL_law 424 = .ok (.iadd, 1) := by decide +kernel
theorem dL_law_425 : decode cL_law 425 = .ok (.iaload, 1) := by decide +kernel
theorem dL_law_426 : decode cL_law 426 = .ok (.invokevirtual 46, 3) := by decide +kernel
theorem dL_law_429 : decode cL_law 429 = .ok (.if_icmp .eq 1289, 3) := by decide +kernel
theorem dL_law_432 : decode cL_law 432 = .ok (.iconst 0, 1) := by decide +kernel
theorem dL_law_433 : decode cL_law 433 = .ok (.ireturn, 1) := by decide +kernel
set_option maxHeartbeats 4000000 in
set_option maxRecDepth 100000 in
theorem lc_5 {p : Program} {l : Launch} {e : Env} {s : State} {m : MethodId} {below : List Frame} {meth : Method} {c : Code} {b L : Nat} {xs : Nat → Int32} {E : EE} {cL : ClassId} {ad qa qe : Nat → Nat} {sh rg : Nat → Option Nat} {rwf : Nat → Nat} {σ : Nat → Nat} (hC : LC p l s m meth c b L xs E cL rg rwf) {i : Nat} (hi6 : i + 6 ≤ L) {cells slots : Nat} (hcs : cells + 1 ≤ 601024 ∧ slots + 6 ≤ 7293034) (kk : Nx p l e s m below meth c b E cL ad qa qe sh rg rwf σ (nI i) (cells + 1) (slots + 6) 1718) : Nx p l e s m below meth c b E cL ad qa qe sh rg rwf σ (nI i) cells slots 409 := by
  intro h k f r m y mv st P ne dy mh mk mf mr mm ms mo mt mp mn md gh gk gf gr gm gs go gt gp gn gd img rp Y V el ho ki fi so si S M I B hi pl ra re nu mx sd K KK KF SO SI EL th og hI H locs ls hP hD hS hl
  obtain ⟨C0, hL, hG, hKL, hTX, hrg⟩ := id hC
  obtain ⟨hx, hb, hr, hml, hown, hts, hX, hbl, hlocks, hgv⟩ := id C0
  have hF := lw_fix C0
  obtain ⟨hSt, hq, hhi, him, hk9⟩ := id hI
  have hA : ∀ q : Nat, s.heap.size ≤ q → (fun q : Nat => s.heap.size ≤ q) q := fun _ h => h
  have hc0 : cells + 0 ≤ room_1.cells ∧ slots + 0 ≤ room_1.slots := ⟨Nat.le_of_succ_le hcs.1, by have := hcs.2; show slots + 0 ≤ 7293034; omega⟩
  obtain ⟨res, st1, S1, e1, e2, hSt1⟩ := ag_shuts hSt (xs (i + 1)) 
  refine lv_aload_n hx hb dL_law_409 rfl (lv_at hl 2 rfl) ?_
  refine lw_ld hC hi6 (j := 1) (by decide) hS hl dL_law_410 dL_law_411 dL_law_413 dL_law_414 dL_law_415 ?_
  refine wrVj [0, 1, 2, 3, 4, 5, 6, 7] [8, 9, 10, 11, 12, 13, 14, 15, 16, 17, 18, 19, 20, 21, 22, 23, 24, 25, 26, 27, 28, 29, 30, 31, 32, 33, 34, 35, 36, 37, 38, 39, 40, 41, 42, 43, 44, 45, 46, 47, 48, 49, 50, 51, 52, 53, 54, 55, 56, 57, 58, 59, 60, 61, 62] 3 0 (As := [.int (xs (i + 1))]) (rest := []) (st1 := [.int res]) hF q_X9_shuts kw_2_86 (c_X9_shuts l E (ad 0) (ad 1) (ad 8) (ad 15) (ad 22) (ad 32) (ad 2) (ad 3) (ad 4) (ad 5) (ad 6) (ad 7) img h k f r m y mv st (nI P) ne dy (xs (i + 1)) res st1 e1) ⟨rfl, rfl⟩ ⟨Nat.le_of_ble_eq_true rfl, Nat.le_of_ble_eq_true rfl⟩ hc0 hP hD hS hA rfl rfl rfl hG jnN rfl hl.1 rfl (Nat.le_of_ble_eq_true rfl) dL_law_416 rfl (fun H locs hP hD hS => ?_)
  refine lv_aload_n hx hb dL_law_419 rfl (lv_at hl 3 rfl) ?_
  refine lw_ld hC hi6 (j := 1) (by decide) hS hl dL_law_420 dL_law_421 dL_law_423 dL_law_424 dL_law_425 ?_
  refine wrVj [49, 50, 51, 52, 53, 54, 55, 56, 57, 58, 59, 60, 61] [0, 1, 2, 3, 4, 5, 6, 7, 8, 9, 10, 11, 12, 13, 14, 15, 16, 17, 18, 19, 20, 21, 22, 23, 24, 25, 26, 27, 28, 29, 30, 31, 32, 33, 34, 35, 36, 37, 38, 39, 40, 41, 42, 43, 44, 45, 46, 47, 48, 62] 4 0 (As := [.int (xs (i + 1))]) (rest := [.int res]) (st1 := [.int res, .int res]) hF q_X10_shuts kw_5_49 (c_X10_shuts l E (ad 49) (ad 50) (ad 51) (ad 52) (ad 53) (ad 54) (ad 55) (ad 56) (ad 57) (ad 58) (ad 59) (ad 60) (ad 61) S M I B hi pl ra re nu mx sd K KK KF SO SI EL th (xs (i + 1)) res S1 e2) ⟨rfl, rfl⟩ ⟨Nat.le_of_ble_eq_true rfl, Nat.le_of_ble_eq_true rfl⟩ hc0 hP hD hS hA rfl rfl rfl hG jnMo rfl hl.1 rfl (Nat.le_of_ble_eq_true rfl) dL_law_426 rfl (fun H locs hP hD hS => ?_)
  refine lv_icmp_eq (tgt := 1718) hx hb dL_law_429 (by decide) (fun _ => ?_) (fun h => absurd rfl h)
  exact w_widen (Nat.le_succ _) (Nat.le_add_right _ 6) (kk h k f r m y mv st1 P ne dy mh mk mf mr mm ms mo mt mp mn md gh gk gf gr gm gs go gt gp gn gd img rp Y V el ho ki fi so si S1 M I B hi pl ra re nu mx sd K KK KF SO SI EL th og ⟨hSt1, hI.2⟩ H locs ls hP hD hS hl)
theorem dL_law_434 : decode cL_law 434 = .ok (.aload_n 1, 1) := by decide +kernel
theorem dL_law_435 : decode cL_law 435 = .ok (.aload_n 0, 1) := by decide +kernel
theorem dL_law_436 : decode cL_law 436 = .ok (.iload 4, 2) := by decide +kernel
theorem dL_law_438 : decode cL_law 438 = .ok (.iconst 1, 1) := by decide +kernel
theorem dL_law_439 : decode cL_law 439 = .ok (.iadd, 1) := by decide +kernel
theorem dL_law_440 : decode cL_law 440 = .ok (.iaload, 1) := by decide +kernel
theorem dL_law_441 : decode cL_law 441 = .ok (.aload_n 0, 1) := by decide +kernel
theorem dL_law_442 : decode cL_law 442 = .ok (.iload 4, 2) := by decide +kernel
theorem dL_law_444 : decode cL_law 444 = .ok (.iconst 2, 1) := by decide +kernel
theorem dL_law_445 : decode cL_law 445 = .ok (.iadd, 1) := by decide +kernel
theorem dL_law_446 : decode cL_law 446 = .ok (.iaload, 1) := by decide +kernel
theorem dL_law_447 : decode cL_law 447 = .ok (.invokevirtual 47, 3) := by decide +kernel
theorem dL_law_450 : decode cL_law 450 = .ok (.aload_n 2, 1) := by decide +kernel
theorem dL_law_451 : decode cL_law 451 = .ok (.aload_n 0, 1) := by decide +kernel
theorem dL_law_452 : decode cL_law 452 = .ok (.iload 4, 2) := by decide +kernel
theorem dL_law_454 : decode cL_law 454 = .ok (.iconst 1, 1) := by decide +kernel
theorem dL_law_455 : decode cL_law 455 = .ok (.iadd, 1) := by decide +kernel
theorem dL_law_456 : decode cL_law 456 = .ok (.iaload, 1) := by decide +kernel
theorem dL_law_457 : decode cL_law 457 = .ok (.aload_n 0, 1) := by decide +kernel
theorem dL_law_458 : decode cL_law 458 = .ok (.iload 4, 2) := by decide +kernel
theorem dL_law_460 : decode cL_law 460 = .ok (.iconst 2, 1) := by decide +kernel
theorem dL_law_461 : decode cL_law 461 = .ok (.iadd, 1) := by decide +kernel
theorem dL_law_462 : decode cL_law 462 = .ok (.iaload, 1) := by decide +kernel
theorem dL_law_463 : decode cL_law 463 = .ok (.invokevirtual 50, 3) := by decide +kernel
theorem dL_law_466 : decode cL_law 466 = .ok (.if_icmp .eq 1252, 3) := by decide +kernel
theorem dL_law_469 : decode cL_law 469 = .ok (.iconst 0, 1) := by decide +kernel
theorem dL_law_470 : decode cL_law 470 = .ok (.ireturn, 1) := by decide +kernel
set_option maxHeartbeats 4000000 in
set_option maxRecDepth 100000 in
theorem lc_6 {p : Program} {l : Launch} {e : Env} {s : State} {m : MethodId} {below : List Frame} {meth : Method} {c : Code} {b L : Nat} {xs : Nat → Int32} {E : EE} {cL : ClassId} {ad qa qe : Nat → Nat} {sh rg : Nat → Option Nat} {rwf : Nat → Nat} {σ : Nat → Nat} (hC : LC p l s m meth c b L xs E cL rg rwf) {i : Nat} (hi6 : i + 6 ≤ L) {cells slots : Nat} (hcs : cells + 1 ≤ 601024 ∧ slots + 6 ≤ 7293034) (kk : Nx p l e s m below meth c b E cL ad qa qe sh rg rwf σ (nI i) (cells + 1) (slots + 6) 1718) : Nx p l e s m below meth c b E cL ad qa qe sh rg rwf σ (nI i) cells slots 434 := by
  intro h k f r m y mv st P ne dy mh mk mf mr mm ms mo mt mp mn md gh gk gf gr gm gs go gt gp gn gd img rp Y V el ho ki fi so si S M I B hi pl ra re nu mx sd K KK KF SO SI EL th og hI H locs ls hP hD hS hl
  obtain ⟨C0, hL, hG, hKL, hTX, hrg⟩ := id hC
  obtain ⟨hx, hb, hr, hml, hown, hts, hX, hbl, hlocks, hgv⟩ := id C0
  have hF := lw_fix C0
  obtain ⟨hSt, hq, hhi, him, hk9⟩ := id hI
  have hA : ∀ q : Nat, s.heap.size ≤ q → (fun q : Nat => s.heap.size ≤ q) q := fun _ h => h
  have hc0 : cells + 0 ≤ room_1.cells ∧ slots + 0 ≤ room_1.slots := ⟨Nat.le_of_succ_le hcs.1, by have := hcs.2; show slots + 0 ≤ 7293034; omega⟩
  obtain ⟨res, m1, S1, e1, e2, hSt1⟩ := ag_thinks hSt (xs (i + 1)) (xs (i + 2)) 
  refine lv_aload_n hx hb dL_law_434 rfl (lv_at hl 2 rfl) ?_
  refine lw_ld hC hi6 (j := 1) (by decide) hS hl dL_law_435 dL_law_436 dL_law_438 dL_law_439 dL_law_440 ?_
  refine lw_ld hC hi6 (j := 2) (by decide) hS hl dL_law_441 dL_law_442 dL_law_444 dL_law_445 dL_law_446 ?_
  refine wrVj [0, 1, 2, 3, 4, 5, 6, 7] [8, 9, 10, 11, 12, 13, 14, 15, 16, 17, 18, 19, 20, 21, 22, 23, 24, 25, 26, 27, 28, 29, 30, 31, 32, 33, 34, 35, 36, 37, 38, 39, 40, 41, 42, 43, 44, 45, 46, 47, 48, 49, 50, 51, 52, 53, 54, 55, 56, 57, 58, 59, 60, 61, 62] 3 0 (As := [.int (xs (i + 1)), .int (xs (i + 2))]) (rest := []) (st1 := [.int res]) hF q_X9_thinks kw_2_91 (c_X9_thinks l E (ad 0) (ad 1) (ad 8) (ad 15) (ad 22) (ad 32) (ad 2) (ad 3) (ad 4) (ad 5) (ad 6) (ad 7) img h k f r m y mv st (nI P) ne dy (xs (i + 1)) (xs (i + 2)) res m1 e1) ⟨rfl, rfl⟩ ⟨Nat.le_of_ble_eq_true rfl, Nat.le_of_ble_eq_true rfl⟩ hc0 hP hD hS hA rfl rfl rfl hG jnN rfl hl.1 rfl (Nat.le_of_ble_eq_true rfl) dL_law_447 rfl (fun H locs hP hD hS => ?_)
  refine lv_aload_n hx hb dL_law_450 rfl (lv_at hl 3 rfl) ?_
  refine lw_ld hC hi6 (j := 1) (by decide) hS hl dL_law_451 dL_law_452 dL_law_454 dL_law_455 dL_law_456 ?_
  refine lw_ld hC hi6 (j := 2) (by decide) hS hl dL_law_457 dL_law_458 dL_law_460 dL_law_461 dL_law_462 ?_
  refine wrVj [49, 50, 51, 52, 53, 54, 55, 56, 57, 58, 59, 60, 61] [0, 1, 2, 3, 4, 5, 6, 7, 8, 9, 10, 11, 12, 13, 14, 15, 16, 17, 18, 19, 20, 21, 22, 23, 24, 25, 26, 27, 28, 29, 30, 31, 32, 33, 34, 35, 36, 37, 38, 39, 40, 41, 42, 43, 44, 45, 46, 47, 48, 62] 4 0 (As := [.int (xs (i + 1)), .int (xs (i + 2))]) (rest := [.int res]) (st1 := [.int res, .int res]) hF q_X10_thinks kw_5_53 (c_X10_thinks l E (ad 49) (ad 50) (ad 51) (ad 52) (ad 53) (ad 54) (ad 55) (ad 56) (ad 57) (ad 58) (ad 59) (ad 60) (ad 61) S M I B hi pl ra re nu mx sd K KK KF SO SI EL th (xs (i + 1)) (xs (i + 2)) res S1 e2) ⟨rfl, rfl⟩ ⟨Nat.le_of_ble_eq_true rfl, Nat.le_of_ble_eq_true rfl⟩ hc0 hP hD hS hA rfl rfl rfl hG jnMo rfl hl.1 rfl (Nat.le_of_ble_eq_true rfl) dL_law_463 rfl (fun H locs hP hD hS => ?_)
  refine lv_icmp_eq (tgt := 1718) hx hb dL_law_466 (by decide) (fun _ => ?_) (fun h => absurd rfl h)
  exact w_widen (Nat.le_succ _) (Nat.le_add_right _ 6) (kk h k f r m1 y mv st P ne dy mh mk mf mr mm ms mo mt mp mn md gh gk gf gr gm gs go gt gp gn gd img rp Y V el ho ki fi so si S1 M I B hi pl ra re nu mx sd K KK KF SO SI EL th og ⟨hSt1, hI.2⟩ H locs ls hP hD hS hl)
theorem dL_law_471 : decode cL_law 471 = .ok (.aload_n 1, 1) := by decide +kernel
theorem dL_law_472 : decode cL_law 472 = .ok (.aload_n 0, 1) := by decide +kernel
theorem dL_law_473 : decode cL_law 473 = .ok (.iload 4, 2) := by decide +kernel
theorem dL_law_475 : decode cL_law 475 = .ok (.iconst 1, 1) := by decide +kernel
theorem dL_law_476 : decode cL_law 476 = .ok (.iadd, 1) := by decide +kernel
theorem dL_law_477 : decode cL_law 477 = .ok (.iaload, 1) := by decide +kernel
theorem dL_law_478 : decode cL_law 478 = .ok (.aload_n 0, 1) := by decide +kernel
theorem dL_law_479 : decode cL_law 479 = .ok (.iload 4, 2) := by decide +kernel
theorem dL_law_481 : decode cL_law 481 = .ok (.iconst 2, 1) := by decide +kernel
theorem dL_law_482 : decode cL_law 482 = .ok (.iadd, 1) := by decide +kernel
theorem dL_law_483 : decode cL_law 483 = .ok (.iaload, 1) := by decide +kernel
theorem dL_law_484 : decode cL_law 484 = .ok (.invokevirtual 51, 3) := by decide +kernel
theorem dL_law_487 : decode cL_law 487 = .ok (.aload_n 2, 1) := by decide +kernel
theorem dL_law_488 : decode cL_law 488 = .ok (.aload_n 0, 1) := by decide +kernel
theorem dL_law_489 : decode cL_law 489 = .ok (.iload 4, 2) := by decide +kernel
theorem dL_law_491 : decode cL_law 491 = .ok (.iconst 1, 1) := by decide +kernel
theorem dL_law_492 : decode cL_law 492 = .ok (.iadd, 1) := by decide +kernel
theorem dL_law_493 : decode cL_law 493 = .ok (.iaload, 1) := by decide +kernel
theorem dL_law_494 : decode cL_law 494 = .ok (.aload_n 0, 1) := by decide +kernel
theorem dL_law_495 : decode cL_law 495 = .ok (.iload 4, 2) := by decide +kernel
theorem dL_law_497 : decode cL_law 497 = .ok (.iconst 2, 1) := by decide +kernel
theorem dL_law_498 : decode cL_law 498 = .ok (.iadd, 1) := by decide +kernel
theorem dL_law_499 : decode cL_law 499 = .ok (.iaload, 1) := by decide +kernel
theorem dL_law_500 : decode cL_law 500 = .ok (.invokevirtual 54, 3) := by decide +kernel
theorem dL_law_503 : decode cL_law 503 = .ok (.if_icmp .eq 1215, 3) := by decide +kernel
theorem dL_law_506 : decode cL_law 506 = .ok (.iconst 0, 1) := by decide +kernel
theorem dL_law_507 : decode cL_law 507 = .ok (.ireturn, 1) := by decide +kernel
set_option maxHeartbeats 4000000 in
set_option maxRecDepth 100000 in
theorem lc_7 {p : Program} {l : Launch} {e : Env} {s : State} {m : MethodId} {below : List Frame} {meth : Method} {c : Code} {b L : Nat} {xs : Nat → Int32} {E : EE} {cL : ClassId} {ad qa qe : Nat → Nat} {sh rg : Nat → Option Nat} {rwf : Nat → Nat} {σ : Nat → Nat} (hC : LC p l s m meth c b L xs E cL rg rwf) {i : Nat} (hi6 : i + 6 ≤ L) {cells slots : Nat} (hcs : cells + 1 ≤ 601024 ∧ slots + 6 ≤ 7293034) (kk : Nx p l e s m below meth c b E cL ad qa qe sh rg rwf σ (nI i) (cells + 1) (slots + 6) 1718) : Nx p l e s m below meth c b E cL ad qa qe sh rg rwf σ (nI i) cells slots 471 := by
  intro h k f r m y mv st P ne dy mh mk mf mr mm ms mo mt mp mn md gh gk gf gr gm gs go gt gp gn gd img rp Y V el ho ki fi so si S M I B hi pl ra re nu mx sd K KK KF SO SI EL th og hI H locs ls hP hD hS hl
  obtain ⟨C0, hL, hG, hKL, hTX, hrg⟩ := id hC
  obtain ⟨hx, hb, hr, hml, hown, hts, hX, hbl, hlocks, hgv⟩ := id C0
  have hF := lw_fix C0
  obtain ⟨hSt, hq, hhi, him, hk9⟩ := id hI
  have hA : ∀ q : Nat, s.heap.size ≤ q → (fun q : Nat => s.heap.size ≤ q) q := fun _ h => h
  have hc0 : cells + 0 ≤ room_1.cells ∧ slots + 0 ≤ room_1.slots := ⟨Nat.le_of_succ_le hcs.1, by have := hcs.2; show slots + 0 ≤ 7293034; omega⟩
  obtain ⟨res, r1, S1, e1, e2, hSt1⟩ := ag_goes hSt (xs (i + 1)) (xs (i + 2)) 
  refine lv_aload_n hx hb dL_law_471 rfl (lv_at hl 2 rfl) ?_
  refine lw_ld hC hi6 (j := 1) (by decide) hS hl dL_law_472 dL_law_473 dL_law_475 dL_law_476 dL_law_477 ?_
  refine lw_ld hC hi6 (j := 2) (by decide) hS hl dL_law_478 dL_law_479 dL_law_481 dL_law_482 dL_law_483 ?_
  refine wrVj [0, 1, 2, 3, 4, 5, 6, 7] [8, 9, 10, 11, 12, 13, 14, 15, 16, 17, 18, 19, 20, 21, 22, 23, 24, 25, 26, 27, 28, 29, 30, 31, 32, 33, 34, 35, 36, 37, 38, 39, 40, 41, 42, 43, 44, 45, 46, 47, 48, 49, 50, 51, 52, 53, 54, 55, 56, 57, 58, 59, 60, 61, 62] 3 0 (As := [.int (xs (i + 1)), .int (xs (i + 2))]) (rest := []) (st1 := [.int res]) hF q_X9_goes kw_2_96 (c_X9_goes l E (ad 0) (ad 1) (ad 8) (ad 15) (ad 22) (ad 32) (ad 2) (ad 3) (ad 4) (ad 5) (ad 6) (ad 7) img h k f r m y mv st (nI P) ne dy (xs (i + 1)) (xs (i + 2)) res r1 e1) ⟨rfl, rfl⟩ ⟨Nat.le_of_ble_eq_true rfl, Nat.le_of_ble_eq_true rfl⟩ hc0 hP hD hS hA rfl rfl rfl hG jnN rfl hl.1 rfl (Nat.le_of_ble_eq_true rfl) dL_law_484 rfl (fun H locs hP hD hS => ?_)
  refine lv_aload_n hx hb dL_law_487 rfl (lv_at hl 3 rfl) ?_
  refine lw_ld hC hi6 (j := 1) (by decide) hS hl dL_law_488 dL_law_489 dL_law_491 dL_law_492 dL_law_493 ?_
  refine lw_ld hC hi6 (j := 2) (by decide) hS hl dL_law_494 dL_law_495 dL_law_497 dL_law_498 dL_law_499 ?_
  refine wrVj [49, 50, 51, 52, 53, 54, 55, 56, 57, 58, 59, 60, 61] [0, 1, 2, 3, 4, 5, 6, 7, 8, 9, 10, 11, 12, 13, 14, 15, 16, 17, 18, 19, 20, 21, 22, 23, 24, 25, 26, 27, 28, 29, 30, 31, 32, 33, 34, 35, 36, 37, 38, 39, 40, 41, 42, 43, 44, 45, 46, 47, 48, 62] 4 0 (As := [.int (xs (i + 1)), .int (xs (i + 2))]) (rest := [.int res]) (st1 := [.int res, .int res]) hF q_X10_goes kw_5_58 (c_X10_goes l E (ad 49) (ad 50) (ad 51) (ad 52) (ad 53) (ad 54) (ad 55) (ad 56) (ad 57) (ad 58) (ad 59) (ad 60) (ad 61) S M I B hi pl ra re nu mx sd K KK KF SO SI EL th (xs (i + 1)) (xs (i + 2)) res S1 e2) ⟨rfl, rfl⟩ ⟨Nat.le_of_ble_eq_true rfl, Nat.le_of_ble_eq_true rfl⟩ hc0 hP hD hS hA rfl rfl rfl hG jnMo rfl hl.1 rfl (Nat.le_of_ble_eq_true rfl) dL_law_500 rfl (fun H locs hP hD hS => ?_)
  refine lv_icmp_eq (tgt := 1718) hx hb dL_law_503 (by decide) (fun _ => ?_) (fun h => absurd rfl h)
  exact w_widen (Nat.le_succ _) (Nat.le_add_right _ 6) (kk h k f r1 m y mv st P ne dy mh mk mf mr mm ms mo mt mp mn md gh gk gf gr gm gs go gt gp gn gd img rp Y V el ho ki fi so si S1 M I B hi pl ra re nu mx sd K KK KF SO SI EL th og ⟨hSt1, hI.2⟩ H locs ls hP hD hS hl)
theorem dL_law_508 : decode cL_law 508 = .ok (.aload_n 1, 1) := by decide +kernel
theorem dL_law_509 : decode cL_law 509 = .ok (.aload_n 0, 1) := by decide +kernel
theorem dL_law_510 : decode cL_law 510 = .ok (.iload 4, 2) := by decide +kernel
theorem dL_law_512 : decode cL_law 512 = .ok (.iconst 1, 1) := by decide +kernel
theorem dL_law_513 : decode cL_law 513 = .ok (.iadd, 1) := by decide +kernel
theorem dL_law_514 : decode cL_law 514 = .ok (.iaload, 1) := by decide +kernel
theorem dL_law_515 : decode cL_law 515 = .ok (.invokevirtual 55, 3) := by decide +kernel
theorem dL_law_518 : decode cL_law 518 = .ok (.aload_n 2, 1) := by decide +kernel
theorem dL_law_519 : decode cL_law 519 = .ok (.aload_n 0, 1) := by decide +kernel
theorem dL_law_520 : decode cL_law 520 = .ok (.iload 4, 2) := by decide +kernel
theorem dL_law_522 : decode cL_law 522 = .ok (.iconst 1, 1) := by decide +kernel
theorem dL_law_523 : decode cL_law 523 = .ok (.iadd, 1) := by decide +kernel
theorem dL_law_524 : decode cL_law 524 = .ok (.iaload, 1) := by decide +kernel
theorem dL_law_525 : decode cL_law 525 = .ok (.invokevirtual 58, 3) := by decide +kernel
theorem dL_law_528 : decode cL_law 528 = .ok (.if_icmp .eq 1190, 3) := by decide +kernel
theorem dL_law_531 : decode cL_law 531 = .ok (.iconst 0, 1) := by decide +kernel
theorem dL_law_532 : decode cL_law 532 = .ok (.ireturn, 1) := by decide +kernel
set_option maxHeartbeats 4000000 in
set_option maxRecDepth 100000 in
theorem lc_8 {p : Program} {l : Launch} {e : Env} {s : State} {m : MethodId} {below : List Frame} {meth : Method} {c : Code} {b L : Nat} {xs : Nat → Int32} {E : EE} {cL : ClassId} {ad qa qe : Nat → Nat} {sh rg : Nat → Option Nat} {rwf : Nat → Nat} {σ : Nat → Nat} (hC : LC p l s m meth c b L xs E cL rg rwf) {i : Nat} (hi6 : i + 6 ≤ L) {cells slots : Nat} (hcs : cells + 1 ≤ 601024 ∧ slots + 6 ≤ 7293034) (kk : Nx p l e s m below meth c b E cL ad qa qe sh rg rwf σ (nI i) (cells + 1) (slots + 6) 1718) : Nx p l e s m below meth c b E cL ad qa qe sh rg rwf σ (nI i) cells slots 508 := by
  intro h k f r m y mv st P ne dy mh mk mf mr mm ms mo mt mp mn md gh gk gf gr gm gs go gt gp gn gd img rp Y V el ho ki fi so si S M I B hi pl ra re nu mx sd K KK KF SO SI EL th og hI H locs ls hP hD hS hl
  obtain ⟨C0, hL, hG, hKL, hTX, hrg⟩ := id hC
  obtain ⟨hx, hb, hr, hml, hown, hts, hX, hbl, hlocks, hgv⟩ := id C0
  have hF := lw_fix C0
  obtain ⟨hSt, hq, hhi, him, hk9⟩ := id hI
  have hA : ∀ q : Nat, s.heap.size ≤ q → (fun q : Nat => s.heap.size ≤ q) q := fun _ h => h
  have hc0 : cells + 0 ≤ room_1.cells ∧ slots + 0 ≤ room_1.slots := ⟨Nat.le_of_succ_le hcs.1, by have := hcs.2; show slots + 0 ≤ 7293034; omega⟩
  obtain ⟨res, ne1, S1, e1, e2, hSt1⟩ := ag_quota hSt (xs (i + 1)) 
  refine lv_aload_n hx hb dL_law_508 rfl (lv_at hl 2 rfl) ?_
  refine lw_ld hC hi6 (j := 1) (by decide) hS hl dL_law_509 dL_law_510 dL_law_512 dL_law_513 dL_law_514 ?_
  refine wrVj [0, 1, 2, 3, 4, 5, 6, 7] [8, 9, 10, 11, 12, 13, 14, 15, 16, 17, 18, 19, 20, 21, 22, 23, 24, 25, 26, 27, 28, 29, 30, 31, 32, 33, 34, 35, 36, 37, 38, 39, 40, 41, 42, 43, 44, 45, 46, 47, 48, 49, 50, 51, 52, 53, 54, 55, 56, 57, 58, 59, 60, 61, 62] 3 0 (As := [.int (xs (i + 1))]) (rest := []) (st1 := [.int res]) hF q_X9_quota kw_2_100 (c_X9_quota l E (ad 0) (ad 1) (ad 8) (ad 15) (ad 22) (ad 32) (ad 2) (ad 3) (ad 4) (ad 5) (ad 6) (ad 7) img h k f r m y mv st (nI P) ne dy (xs (i + 1)) res ne1 e1) ⟨rfl, rfl⟩ ⟨Nat.le_of_ble_eq_true rfl, Nat.le_of_ble_eq_true rfl⟩ hc0 hP hD hS hA rfl rfl rfl hG jnN rfl hl.1 rfl (Nat.le_of_ble_eq_true rfl) dL_law_515 rfl (fun H locs hP hD hS => ?_)
  refine lv_aload_n hx hb dL_law_518 rfl (lv_at hl 3 rfl) ?_
  refine lw_ld hC hi6 (j := 1) (by decide) hS hl dL_law_519 dL_law_520 dL_law_522 dL_law_523 dL_law_524 ?_
  refine wrVj [49, 50, 51, 52, 53, 54, 55, 56, 57, 58, 59, 60, 61] [0, 1, 2, 3, 4, 5, 6, 7, 8, 9, 10, 11, 12, 13, 14, 15, 16, 17, 18, 19, 20, 21, 22, 23, 24, 25, 26, 27, 28, 29, 30, 31, 32, 33, 34, 35, 36, 37, 38, 39, 40, 41, 42, 43, 44, 45, 46, 47, 48, 62] 4 0 (As := [.int (xs (i + 1))]) (rest := [.int res]) (st1 := [.int res, .int res]) hF q_X10_quota kw_5_62 (c_X10_quota l E (ad 49) (ad 50) (ad 51) (ad 52) (ad 53) (ad 54) (ad 55) (ad 56) (ad 57) (ad 58) (ad 59) (ad 60) (ad 61) S M I B hi pl ra re nu mx sd K KK KF SO SI EL th (xs (i + 1)) res S1 e2) ⟨rfl, rfl⟩ ⟨Nat.le_of_ble_eq_true rfl, Nat.le_of_ble_eq_true rfl⟩ hc0 hP hD hS hA rfl rfl rfl hG jnMo rfl hl.1 rfl (Nat.le_of_ble_eq_true rfl) dL_law_525 rfl (fun H locs hP hD hS => ?_)
  refine lv_icmp_eq (tgt := 1718) hx hb dL_law_528 (by decide) (fun _ => ?_) (fun h => absurd rfl h)
  exact w_widen (Nat.le_succ _) (Nat.le_add_right _ 6) (kk h k f r m y mv st P ne1 dy mh mk mf mr mm ms mo mt mp mn md gh gk gf gr gm gs go gt gp gn gd img rp Y V el ho ki fi so si S1 M I B hi pl ra re nu mx sd K KK KF SO SI EL th og ⟨hSt1, hI.2⟩ H locs ls hP hD hS hl)
