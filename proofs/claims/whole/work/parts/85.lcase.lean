theorem dL_law_236 : decode cL_law 236 = .ok (.aload_n 1, 1) := by decide +kernel
theorem dL_law_237 : decode cL_law 237 = .ok (.aload_n 0, 1) := by decide +kernel
theorem dL_law_238 : decode cL_law 238 = .ok (.iload 4, 2) := by decide +kernel
theorem dL_law_240 : decode cL_law 240 = .ok (.iconst 1, 1) := by decide +kernel
theorem dL_law_241 : decode cL_law 241 = .ok (.iadd, 1) := by decide +kernel
theorem dL_law_242 : decode cL_law 242 = .ok (.iaload, 1) := by decide +kernel
theorem dL_law_243 : decode cL_law 243 = .ok (.invokevirtual 21, 3) := by decide +kernel
theorem dL_law_246 : decode cL_law 246 = .ok (.aload_n 2, 1) := by decide +kernel
theorem dL_law_247 : decode cL_law 247 = .ok (.aload_n 0, 1) := by decide +kernel
theorem dL_law_248 : decode cL_law 248 = .ok (.iload 4, 2) := by decide +kernel
theorem dL_law_250 : decode cL_law 250 = .ok (.iconst 1, 1) := by decide +kernel
theorem dL_law_251 : decode cL_law 251 = .ok (.iadd, 1) := by decide +kernel
theorem dL_law_252 : decode cL_law 252 = .ok (.iaload, 1) := by decide +kernel
theorem dL_law_253 : decode cL_law 253 = .ok (.invokevirtual 25, 3) := by decide +kernel
theorem dL_law_256 : decode cL_law 256 = .ok (.if_icmp .eq 1462, 3) := by decide +kernel
theorem dL_law_259 : decode cL_law 259 = .ok (.iconst 0, 1) := by decide +kernel
theorem dL_law_260 : decode cL_law 260 = .ok (.ireturn, 1) := by decide +kernel
set_option maxHeartbeats 4000000 in
set_option maxRecDepth 100000 in
theorem ls_0 {p : Program} {l : Launch} {e : Env} {s : State} {m : MethodId} {below : List Frame} {meth : Method} {c : Code} {b L : Nat} {xs : Nat → Int32} {E : EE} {cL : ClassId} {ad qa qe : Nat → Nat} {sh rg : Nat → Option Nat} {rwf : Nat → Nat} {σ : Nat → Nat} (hC : LC p l s m meth c b L xs E cL rg rwf) {i : Nat} (hi6 : i + 6 ≤ L) (hv : (xs (i + 1) = nI (σ 0) ∧ σ 0 < 8) ∨ wiB (xs (i + 1)) 0 7 = false) (hs0 : sh (σ 0) = some (qa 0)) (hinj : ∀ j, 0 < j → j < 8 → σ j ≠ σ 0) {cells slots : Nat} (hcs : cells + 1 ≤ 601024 ∧ slots + 6 ≤ 7293034) (kk : Nx p l e s m below meth c b E cL ad qa qe sh rg rwf σ (nI i) (cells + 1) (slots + 6) 1718) : Nx p l e s m below meth c b E cL ad qa qe sh rg rwf σ (nI i) cells slots 236 := by
  intro h k f r m y mv st P ne dy mh mk mf mr mm ms mo mt mp mn md gh gk gf gr gm gs go gt gp gn gd img rp Y V el ho ki fi so si S M I B hi pl ra re nu mx sd K KK KF SO SI EL th og hI H locs ls hP hD hS hl
  obtain ⟨C0, hL, hG, hKL, hTX, hrg⟩ := id hC
  obtain ⟨hx, hb, hr, hml, hown, hts, hX, hbl, hlocks, hgv⟩ := id C0
  have hF := lw_fix C0
  obtain ⟨hSt, hq, hhi, him, hk9⟩ := id hI
  have hA : ∀ q : Nat, s.heap.size ≤ q → (fun q : Nat => s.heap.size ≤ q) q := fun _ h => h
  have hc0 : cells + 0 ≤ room_1.cells ∧ slots + 0 ≤ room_1.slots := ⟨Nat.le_of_succ_le hcs.1, by have := hcs.2; show slots + 0 ≤ 7293034; omega⟩
  have hsp := shp_of hv hq
  have hsh1 := hsh_of hv hs0
  obtain ⟨res, P1, st1, ne1, dy1, h1, k1, f1, r1, m1, S1, ⟨w1, w2, w3, w4, w5, w6, w7, w8, w9, w10, w11⟩, pl1, ra1, re1, B1, nu1, e1, e2, hSt1⟩ := ag_quarter hSt mh mk mf mr mm ms mo mt mp mn md B pl ra re nu (xs (i + 1)) hsp (N := 2000) (by decide)
  refine lv_aload_n hx hb dL_law_236 rfl (lv_at hl 2 rfl) ?_
  refine lw_ld hC hi6 (j := 1) (by decide) hS hl dL_law_237 dL_law_238 dL_law_240 dL_law_241 dL_law_242 ?_
  refine wrVj [0, 1, 2, 3, 4, 5, 6, 7, 8, 9, 10, 11, 12, 13, 14, 32, 33, 34] [15, 16, 17, 18, 19, 20, 21, 22, 23, 24, 25, 26, 27, 28, 29, 30, 31, 35, 36, 37, 38, 39, 40, 41, 42, 43, 44, 45, 46, 47, 48, 49, 50, 51, 52, 53, 54, 55, 56, 57, 58, 59, 60, 61, 62] 3 0 (As := [.int (xs (i + 1))]) (rest := []) (st1 := [.int res]) hF q_X9_quarter kw_1_157 (c_X9_quarter l E (ad 0) (ad 1) (ad 8) (ad 15) (ad 22) (ad 32) (ad 2) (ad 3) (ad 4) (ad 5) (ad 6) (ad 7) (ad 9) (ad 10) (ad 11) (ad 12) (ad 13) (ad 14) (qa 0) (qe 0) img h k f r m y mv st (nI P) ne dy mh mk mf mr mm ms mo mt mp mn md sh (el 0) (ho 0) (ki 0) (fi 0) (so 0) (si 0) (xs (i + 1)) 2000 res st1 (nI P1) ne1 dy1 h1 k1 f1 r1 m1 w1 w2 w3 w4 w5 w6 w7 w8 w9 w10 w11 hsh1 e1) ⟨rfl, rfl⟩ ⟨Nat.le_of_ble_eq_true rfl, Nat.le_of_ble_eq_true rfl⟩ hc0 hP hD hS hA rfl rfl rfl hG jnNMQ rfl hl.1 rfl (Nat.le_of_ble_eq_true rfl) dL_law_243 rfl (fun H locs hP hD hS => ?_)
  refine lv_aload_n hx hb dL_law_246 rfl (lv_at hl 3 rfl) ?_
  refine lw_ld hC hi6 (j := 1) (by decide) hS hl dL_law_247 dL_law_248 dL_law_250 dL_law_251 dL_law_252 ?_
  refine wrVj [49, 50, 51, 52, 53, 54, 55, 56, 57, 58, 59, 60, 61] [0, 1, 2, 3, 4, 5, 6, 7, 8, 9, 10, 11, 12, 13, 14, 15, 16, 17, 18, 19, 20, 21, 22, 23, 24, 25, 26, 27, 28, 29, 30, 31, 32, 33, 34, 35, 36, 37, 38, 39, 40, 41, 42, 43, 44, 45, 46, 47, 48, 62] 4 0 (As := [.int (xs (i + 1))]) (rest := [.int res]) (st1 := [.int res, .int res]) hF q_X10_quarter kw_4_189 (c_X10_quarter l E (ad 49) (ad 50) (ad 51) (ad 52) (ad 53) (ad 54) (ad 55) (ad 56) (ad 57) (ad 58) (ad 59) (ad 60) (ad 61) S M I B hi pl ra re nu mx sd K KK KF SO SI EL th (xs (i + 1)) 2000 res pl1 ra1 re1 S1 B1 nu1 e2) ⟨rfl, rfl⟩ ⟨Nat.le_of_ble_eq_true rfl, Nat.le_of_ble_eq_true rfl⟩ hc0 hP hD hS hA rfl rfl rfl hG jnMo rfl hl.1 rfl (Nat.le_of_ble_eq_true rfl) dL_law_253 rfl (fun H locs hP hD hS => ?_)
  refine lv_icmp_eq (tgt := 1718) hx hb dL_law_256 (by decide) (fun _ => ?_) (fun h => absurd rfl h)
  exact w_widen (Nat.le_succ _) (Nat.le_add_right _ 6) (kk h1 k1 f1 r1 m1 y mv st1 P1 ne1 dy1 w6 w7 w8 w9 w10 w11 w1 w2 w3 w4 w5 gh gk gf gr gm gs go gt gp gn gd img rp Y V el ho ki fi so si S1 M I B1 hi pl1 ra1 re1 nu1 mx sd K KK KF SO SI EL th og ⟨hSt1, hI.2⟩ H locs ls hP hD hS hl)
theorem dL_law_335 : decode cL_law 335 = .ok (.aload_n 1, 1) := by decide +kernel
theorem dL_law_336 : decode cL_law 336 = .ok (.aload_n 0, 1) := by decide +kernel
theorem dL_law_337 : decode cL_law 337 = .ok (.iload 4, 2) := by decide +kernel
theorem dL_law_339 : decode cL_law 339 = .ok (.iconst 1, 1) := by decide +kernel
theorem dL_law_340 : decode cL_law 340 = .ok (.iadd, 1) := by decide +kernel
theorem dL_law_341 : decode cL_law 341 = .ok (.iaload, 1) := by decide +kernel
theorem dL_law_342 : decode cL_law 342 = .ok (.aload_n 0, 1) := by decide +kernel
theorem dL_law_343 : decode cL_law 343 = .ok (.iload 4, 2) := by decide +kernel
theorem dL_law_345 : decode cL_law 345 = .ok (.iconst 2, 1) := by decide +kernel
theorem dL_law_346 : decode cL_law 346 = .ok (.iadd, 1) := by decide +kernel
theorem dL_law_347 : decode cL_law 347 = .ok (.iaload, 1) := by decide +kernel
theorem dL_law_348 : decode cL_law 348 = .ok (.invokevirtual 35, 3) := by decide +kernel
theorem dL_law_351 : decode cL_law 351 = .ok (.aload_n 2, 1) := by decide +kernel
theorem dL_law_352 : decode cL_law 352 = .ok (.aload_n 0, 1) := by decide +kernel
theorem dL_law_353 : decode cL_law 353 = .ok (.iload 4, 2) := by decide +kernel
theorem dL_law_355 : decode cL_law 355 = .ok (.iconst 1, 1) := by decide +kernel
theorem dL_law_356 : decode cL_law 356 = .ok (.iadd, 1) := by decide +kernel
theorem dL_law_357 : decode cL_law 357 = .ok (.iaload, 1) := by decide +kernel
theorem dL_law_358 : decode cL_law 358 = .ok (.aload_n 0, 1) := by decide +kernel
theorem dL_law_359 : decode cL_law 359 = .ok (.iload 4, 2) := by decide +kernel
theorem dL_law_361 : decode cL_law 361 = .ok (.iconst 2, 1) := by decide +kernel
theorem dL_law_362 : decode cL_law 362 = .ok (.iadd, 1) := by decide +kernel
theorem dL_law_363 : decode cL_law 363 = .ok (.iaload, 1) := by decide +kernel
theorem dL_law_364 : decode cL_law 364 = .ok (.invokevirtual 38, 3) := by decide +kernel
theorem dL_law_367 : decode cL_law 367 = .ok (.if_icmp .eq 1351, 3) := by decide +kernel
theorem dL_law_370 : decode cL_law 370 = .ok (.iconst 0, 1) := by decide +kernel
theorem dL_law_371 : decode cL_law 371 = .ok (.ireturn, 1) := by decide +kernel
set_option maxHeartbeats 4000000 in
set_option maxRecDepth 100000 in
theorem ls_3 {p : Program} {l : Launch} {e : Env} {s : State} {m : MethodId} {below : List Frame} {meth : Method} {c : Code} {b L : Nat} {xs : Nat → Int32} {E : EE} {cL : ClassId} {ad qa qe : Nat → Nat} {sh rg : Nat → Option Nat} {rwf : Nat → Nat} {σ : Nat → Nat} (hC : LC p l s m meth c b L xs E cL rg rwf) {i : Nat} (hi6 : i + 6 ≤ L) (hv : (xs (i + 1) = nI (σ 0) ∧ σ 0 < 8) ∨ wiB (xs (i + 1)) 0 7 = false) (hs0 : sh (σ 0) = some (qa 0)) (hinj : ∀ j, 0 < j → j < 8 → σ j ≠ σ 0) {cells slots : Nat} (hcs : cells + 1 ≤ 601024 ∧ slots + 6 ≤ 7293034) (kk : Nx p l e s m below meth c b E cL ad qa qe sh rg rwf σ (nI i) (cells + 1) (slots + 6) 1718) : Nx p l e s m below meth c b E cL ad qa qe sh rg rwf σ (nI i) cells slots 335 := by
  intro h k f r m y mv st P ne dy mh mk mf mr mm ms mo mt mp mn md gh gk gf gr gm gs go gt gp gn gd img rp Y V el ho ki fi so si S M I B hi pl ra re nu mx sd K KK KF SO SI EL th og hI H locs ls hP hD hS hl
  obtain ⟨C0, hL, hG, hKL, hTX, hrg⟩ := id hC
  obtain ⟨hx, hb, hr, hml, hown, hts, hX, hbl, hlocks, hgv⟩ := id C0
  have hF := lw_fix C0
  obtain ⟨hSt, hq, hhi, him, hk9⟩ := id hI
  have hA : ∀ q : Nat, s.heap.size ≤ q → (fun q : Nat => s.heap.size ≤ q) q := fun _ h => h
  have hc0 : cells + 0 ≤ room_1.cells ∧ slots + 0 ≤ room_1.slots := ⟨Nat.le_of_succ_le hcs.1, by have := hcs.2; show slots + 0 ≤ 7293034; omega⟩
  have hsp := shp_of hv hq
  have hsh1 := hsh_of hv hs0
  obtain ⟨res, P1, k1, f1, r1, m1, S1, e1, e2, hSt1⟩ := ag_comes hSt (xs (i + 1)) (xs (i + 2)) hsp
  refine lv_aload_n hx hb dL_law_335 rfl (lv_at hl 2 rfl) ?_
  refine lw_ld hC hi6 (j := 1) (by decide) hS hl dL_law_336 dL_law_337 dL_law_339 dL_law_340 dL_law_341 ?_
  refine lw_ld hC hi6 (j := 2) (by decide) hS hl dL_law_342 dL_law_343 dL_law_345 dL_law_346 dL_law_347 ?_
  refine wrVj [0, 1, 2, 3, 4, 5, 6, 7, 32, 33, 34] [8, 9, 10, 11, 12, 13, 14, 15, 16, 17, 18, 19, 20, 21, 22, 23, 24, 25, 26, 27, 28, 29, 30, 31, 35, 36, 37, 38, 39, 40, 41, 42, 43, 44, 45, 46, 47, 48, 49, 50, 51, 52, 53, 54, 55, 56, 57, 58, 59, 60, 61, 62] 3 0 (As := [.int (xs (i + 1)), .int (xs (i + 2))]) (rest := []) (st1 := [.int res]) hF q_X9_comes kw_2_76 (c_X9_comes l E (ad 0) (ad 1) (ad 8) (ad 15) (ad 22) (ad 32) (ad 2) (ad 3) (ad 4) (ad 5) (ad 6) (ad 7) (qa 0) (qe 0) img h k f r m y mv st (nI P) ne dy sh (el 0) (ho 0) (ki 0) (fi 0) (so 0) (si 0) (xs (i + 1)) (xs (i + 2)) res (nI P1) k1 f1 r1 m1 hsh1 e1) ⟨rfl, rfl⟩ ⟨Nat.le_of_ble_eq_true rfl, Nat.le_of_ble_eq_true rfl⟩ hc0 hP hD hS hA rfl rfl rfl hG jnNQ rfl hl.1 rfl (Nat.le_of_ble_eq_true rfl) dL_law_348 rfl (fun H locs hP hD hS => ?_)
  refine lv_aload_n hx hb dL_law_351 rfl (lv_at hl 3 rfl) ?_
  refine lw_ld hC hi6 (j := 1) (by decide) hS hl dL_law_352 dL_law_353 dL_law_355 dL_law_356 dL_law_357 ?_
  refine lw_ld hC hi6 (j := 2) (by decide) hS hl dL_law_358 dL_law_359 dL_law_361 dL_law_362 dL_law_363 ?_
  refine wrVj [49, 50, 51, 52, 53, 54, 55, 56, 57, 58, 59, 60, 61] [0, 1, 2, 3, 4, 5, 6, 7, 8, 9, 10, 11, 12, 13, 14, 15, 16, 17, 18, 19, 20, 21, 22, 23, 24, 25, 26, 27, 28, 29, 30, 31, 32, 33, 34, 35, 36, 37, 38, 39, 40, 41, 42, 43, 44, 45, 46, 47, 48, 62] 4 0 (As := [.int (xs (i + 1)), .int (xs (i + 2))]) (rest := [.int res]) (st1 := [.int res, .int res]) hF q_X10_comes kw_5_37 (c_X10_comes l E (ad 49) (ad 50) (ad 51) (ad 52) (ad 53) (ad 54) (ad 55) (ad 56) (ad 57) (ad 58) (ad 59) (ad 60) (ad 61) S M I B hi pl ra re nu mx sd K KK KF SO SI EL th (xs (i + 1)) (xs (i + 2)) res S1 e2) ⟨rfl, rfl⟩ ⟨Nat.le_of_ble_eq_true rfl, Nat.le_of_ble_eq_true rfl⟩ hc0 hP hD hS hA rfl rfl rfl hG jnMo rfl hl.1 rfl (Nat.le_of_ble_eq_true rfl) dL_law_364 rfl (fun H locs hP hD hS => ?_)
  refine lv_icmp_eq (tgt := 1718) hx hb dL_law_367 (by decide) (fun _ => ?_) (fun h => absurd rfl h)
  exact w_widen (Nat.le_succ _) (Nat.le_add_right _ 6) (kk h k1 f1 r1 m1 y mv st P1 ne dy mh mk mf mr mm ms mo mt mp mn md gh gk gf gr gm gs go gt gp gn gd img rp Y V el ho ki fi so si S1 M I B hi pl ra re nu mx sd K KK KF SO SI EL th og ⟨hSt1, hI.2⟩ H locs ls hP hD hS hl)
theorem dL_law_1069 : decode cL_law 1069 = .ok (.aload_n 1, 1) := by decide +kernel
theorem dL_law_1070 : decode cL_law 1070 = .ok (.aload_n 0, 1) := by decide +kernel
theorem dL_law_1071 : decode cL_law 1071 = .ok (.iload 4, 2) := by decide +kernel
theorem dL_law_1073 : decode cL_law 1073 = .ok (.iconst 1, 1) := by decide +kernel
theorem dL_law_1074 : decode cL_law 1074 = .ok (.iadd, 1) := by decide +kernel
theorem dL_law_1075 : decode cL_law 1075 = .ok (.iaload, 1) := by decide +kernel
theorem dL_law_1076 : decode cL_law 1076 = .ok (.aload_n 0, 1) := by decide +kernel
theorem dL_law_1077 : decode cL_law 1077 = .ok (.iload 4, 2) := by decide +kernel
theorem dL_law_1079 : decode cL_law 1079 = .ok (.iconst 2, 1) := by decide +kernel
theorem dL_law_1080 : decode cL_law 1080 = .ok (.iadd, 1) := by decide +kernel
theorem dL_law_1081 : decode cL_law 1081 = .ok (.iaload, 1) := by decide +kernel
theorem dL_law_1082 : decode cL_law 1082 = .ok (.aload_n 0, 1) := by decide +kernel
theorem dL_law_1083 : decode cL_law 1083 = .ok (.iload 4, 2) := by decide +kernel
theorem dL_law_1085 : decode cL_law 1085 = .ok (.iconst 3, 1) := by decide +kernel
theorem dL_law_1086 : decode cL_law 1086 = .ok (.iadd, 1) := by decide +kernel
theorem dL_law_1087 : decode cL_law 1087 = .ok (.iaload, 1) := by decide +kernel
theorem dL_law_1088 : decode cL_law 1088 = .ok (.invokevirtual 137, 3) := by decide +kernel
theorem dL_law_1091 : decode cL_law 1091 = .ok (.aload_n 2, 1) := by decide +kernel
theorem dL_law_1092 : decode cL_law 1092 = .ok (.aload_n 0, 1) := by decide +kernel
theorem dL_law_1093 : decode cL_law 1093 = .ok (.iload 4, 2) := by decide +kernel
theorem dL_law_1095 : decode cL_law 1095 = .ok (.iconst 1, 1) := by decide +kernel
theorem dL_law_1096 : decode cL_law 1096 = .ok (.iadd, 1) := by decide +kernel
theorem dL_law_1097 : decode cL_law 1097 = .ok (.iaload, 1) := by decide +kernel
theorem dL_law_1098 : decode cL_law 1098 = .ok (.aload_n 0, 1) := by decide +kernel
theorem dL_law_1099 : decode cL_law 1099 = .ok (.iload 4, 2) := by decide +kernel
theorem dL_law_1101 : decode cL_law 1101 = .ok (.iconst 2, 1) := by decide +kernel
theorem dL_law_1102 : decode cL_law 1102 = .ok (.iadd, 1) := by decide +kernel
theorem dL_law_1103 : decode cL_law 1103 = .ok (.iaload, 1) := by decide +kernel
theorem dL_law_1104 : decode cL_law 1104 = .ok (.aload_n 0, 1) := by decide +kernel
theorem dL_law_1105 : decode cL_law 1105 = .ok (.iload 4, 2) := by decide +kernel
theorem dL_law_1107 : decode cL_law 1107 = .ok (.iconst 3, 1) := by decide +kernel
theorem dL_law_1108 : decode cL_law 1108 = .ok (.iadd, 1) := by decide +kernel
theorem dL_law_1109 : decode cL_law 1109 = .ok (.iaload, 1) := by decide +kernel
theorem dL_law_1110 : decode cL_law 1110 = .ok (.invokevirtual 140, 3) := by decide +kernel
theorem dL_law_1113 : decode cL_law 1113 = .ok (.if_icmp .eq 605, 3) := by decide +kernel
theorem dL_law_1116 : decode cL_law 1116 = .ok (.iconst 0, 1) := by decide +kernel
theorem dL_law_1117 : decode cL_law 1117 = .ok (.ireturn, 1) := by decide +kernel
set_option maxHeartbeats 4000000 in
set_option maxRecDepth 100000 in
theorem ls_28 {p : Program} {l : Launch} {e : Env} {s : State} {m : MethodId} {below : List Frame} {meth : Method} {c : Code} {b L : Nat} {xs : Nat → Int32} {E : EE} {cL : ClassId} {ad qa qe : Nat → Nat} {sh rg : Nat → Option Nat} {rwf : Nat → Nat} {σ : Nat → Nat} (hC : LC p l s m meth c b L xs E cL rg rwf) {i : Nat} (hi6 : i + 6 ≤ L) (hv : (xs (i + 1) = nI (σ 0) ∧ σ 0 < 8) ∨ wiB (xs (i + 1)) 0 7 = false) (hs0 : sh (σ 0) = some (qa 0)) (hinj : ∀ j, 0 < j → j < 8 → σ j ≠ σ 0) {cells slots : Nat} (hcs : cells + 1 ≤ 601024 ∧ slots + 6 ≤ 7293034) (kk : Nx p l e s m below meth c b E cL ad qa qe sh rg rwf σ (nI i) (cells + 1) (slots + 6) 1718) : Nx p l e s m below meth c b E cL ad qa qe sh rg rwf σ (nI i) cells slots 1069 := by
  intro h k f r m y mv st P ne dy mh mk mf mr mm ms mo mt mp mn md gh gk gf gr gm gs go gt gp gn gd img rp Y V el ho ki fi so si S M I B hi pl ra re nu mx sd K KK KF SO SI EL th og hI H locs ls hP hD hS hl
  obtain ⟨C0, hL, hG, hKL, hTX, hrg⟩ := id hC
  obtain ⟨hx, hb, hr, hml, hown, hts, hX, hbl, hlocks, hgv⟩ := id C0
  have hF := lw_fix C0
  obtain ⟨hSt, hq, hhi, him, hk9⟩ := id hI
  have hA : ∀ q : Nat, s.heap.size ≤ q → (fun q : Nat => s.heap.size ≤ q) q := fun _ h => h
  have hc0 : cells + 0 ≤ room_1.cells ∧ slots + 0 ≤ room_1.slots := ⟨Nat.le_of_succ_le hcs.1, by have := hcs.2; show slots + 0 ≤ 7293034; omega⟩
  have hsp := shp_of hv hq
  have hsh1 := hsh_of hv hs0
  obtain ⟨res, ⟨w1, w2, w3, w4, w5, w6, w7, w8, w9, w10, w11⟩, M1, e1, e2⟩ := ag_whatIs hSt mh mk mf mr mm ms mo mt mp mn md M (xs (i + 1)) (xs (i + 2)) (xs (i + 3)) hsp (N := 2000) (by decide)
  refine lv_aload_n hx hb dL_law_1069 rfl (lv_at hl 2 rfl) ?_
  refine lw_ld hC hi6 (j := 1) (by decide) hS hl dL_law_1070 dL_law_1071 dL_law_1073 dL_law_1074 dL_law_1075 ?_
  refine lw_ld hC hi6 (j := 2) (by decide) hS hl dL_law_1076 dL_law_1077 dL_law_1079 dL_law_1080 dL_law_1081 ?_
  refine lw_ld hC hi6 (j := 3) (by decide) hS hl dL_law_1082 dL_law_1083 dL_law_1085 dL_law_1086 dL_law_1087 ?_
  refine wrVj [0, 1, 2, 3, 4, 5, 6, 7, 8, 9, 10, 11, 12, 13, 14, 32, 33, 34] [15, 16, 17, 18, 19, 20, 21, 22, 23, 24, 25, 26, 27, 28, 29, 30, 31, 35, 36, 37, 38, 39, 40, 41, 42, 43, 44, 45, 46, 47, 48, 49, 50, 51, 52, 53, 54, 55, 56, 57, 58, 59, 60, 61, 62] 3 0 (As := [.int (xs (i + 1)), .int (xs (i + 2)), .int (xs (i + 3))]) (rest := []) (st1 := [.int res]) hF q_X9_whatIs kw_3_111 (c_X9_whatIs l E (ad 0) (ad 1) (ad 8) (ad 15) (ad 22) (ad 32) (ad 2) (ad 3) (ad 4) (ad 5) (ad 6) (ad 7) (ad 9) (ad 10) (ad 11) (ad 12) (ad 13) (ad 14) (qa 0) (qe 0) img h k f r m y mv st (nI P) ne dy mh mk mf mr mm ms mo mt mp mn md sh (el 0) (ho 0) (ki 0) (fi 0) (so 0) (si 0) (xs (i + 1)) (xs (i + 2)) (xs (i + 3)) 2000 res w1 w2 w3 w4 w5 w6 w7 w8 w9 w10 w11 hsh1 e1) ⟨rfl, rfl⟩ ⟨Nat.le_of_ble_eq_true rfl, Nat.le_of_ble_eq_true rfl⟩ hc0 hP hD hS hA rfl rfl rfl hG jnNMQ rfl hl.1 rfl (Nat.le_of_ble_eq_true rfl) dL_law_1088 rfl (fun H locs hP hD hS => ?_)
  refine lv_aload_n hx hb dL_law_1091 rfl (lv_at hl 3 rfl) ?_
  refine lw_ld hC hi6 (j := 1) (by decide) hS hl dL_law_1092 dL_law_1093 dL_law_1095 dL_law_1096 dL_law_1097 ?_
  refine lw_ld hC hi6 (j := 2) (by decide) hS hl dL_law_1098 dL_law_1099 dL_law_1101 dL_law_1102 dL_law_1103 ?_
  refine lw_ld hC hi6 (j := 3) (by decide) hS hl dL_law_1104 dL_law_1105 dL_law_1107 dL_law_1108 dL_law_1109 ?_
  refine wrVj [49, 50, 51, 52, 53, 54, 55, 56, 57, 58, 59, 60, 61] [0, 1, 2, 3, 4, 5, 6, 7, 8, 9, 10, 11, 12, 13, 14, 15, 16, 17, 18, 19, 20, 21, 22, 23, 24, 25, 26, 27, 28, 29, 30, 31, 32, 33, 34, 35, 36, 37, 38, 39, 40, 41, 42, 43, 44, 45, 46, 47, 48, 62] 4 0 (As := [.int (xs (i + 1)), .int (xs (i + 2)), .int (xs (i + 3))]) (rest := [.int res]) (st1 := [.int res, .int res]) hF q_X10_whatIs kw_6_9 (c_X10_whatIs l E (ad 49) (ad 50) (ad 51) (ad 52) (ad 53) (ad 54) (ad 55) (ad 56) (ad 57) (ad 58) (ad 59) (ad 60) (ad 61) S M I B hi pl ra re nu mx sd K KK KF SO SI EL th (xs (i + 1)) (xs (i + 2)) (xs (i + 3)) 2000 res M1 e2) ⟨rfl, rfl⟩ ⟨Nat.le_of_ble_eq_true rfl, Nat.le_of_ble_eq_true rfl⟩ hc0 hP hD hS hA rfl rfl rfl hG jnMo rfl hl.1 rfl (Nat.le_of_ble_eq_true rfl) dL_law_1110 rfl (fun H locs hP hD hS => ?_)
  refine lv_icmp_eq (tgt := 1718) hx hb dL_law_1113 (by decide) (fun _ => ?_) (fun h => absurd rfl h)
  exact w_widen (Nat.le_succ _) (Nat.le_add_right _ 6) (kk h k f r m y mv st P ne dy w6 w7 w8 w9 w10 w11 w1 w2 w3 w4 w5 gh gk gf gr gm gs go gt gp gn gd img rp Y V el ho ki fi so si S M1 I B hi pl ra re nu mx sd K KK KF SO SI EL th og hI H locs ls hP hD hS hl)
theorem dL_law_1118 : decode cL_law 1118 = .ok (.aload_n 1, 1) := by decide +kernel
theorem dL_law_1119 : decode cL_law 1119 = .ok (.aload_n 0, 1) := by decide +kernel
theorem dL_law_1120 : decode cL_law 1120 = .ok (.iload 4, 2) := by decide +kernel
theorem dL_law_1122 : decode cL_law 1122 = .ok (.iconst 1, 1) := by decide +kernel
theorem dL_law_1123 : decode cL_law 1123 = .ok (.iadd, 1) := by decide +kernel
theorem dL_law_1124 : decode cL_law 1124 = .ok (.iaload, 1) := by decide +kernel
theorem dL_law_1125 : decode cL_law 1125 = .ok (.aload_n 0, 1) := by decide +kernel
theorem dL_law_1126 : decode cL_law 1126 = .ok (.iload 4, 2) := by decide +kernel
theorem dL_law_1128 : decode cL_law 1128 = .ok (.iconst 2, 1) := by decide +kernel
theorem dL_law_1129 : decode cL_law 1129 = .ok (.iadd, 1) := by decide +kernel
theorem dL_law_1130 : decode cL_law 1130 = .ok (.iaload, 1) := by decide +kernel
theorem dL_law_1131 : decode cL_law 1131 = .ok (.invokevirtual 141, 3) := by decide +kernel
theorem dL_law_1134 : decode cL_law 1134 = .ok (.aload_n 2, 1) := by decide +kernel
theorem dL_law_1135 : decode cL_law 1135 = .ok (.aload_n 0, 1) := by decide +kernel
theorem dL_law_1136 : decode cL_law 1136 = .ok (.iload 4, 2) := by decide +kernel
theorem dL_law_1138 : decode cL_law 1138 = .ok (.iconst 1, 1) := by decide +kernel
theorem dL_law_1139 : decode cL_law 1139 = .ok (.iadd, 1) := by decide +kernel
theorem dL_law_1140 : decode cL_law 1140 = .ok (.iaload, 1) := by decide +kernel
theorem dL_law_1141 : decode cL_law 1141 = .ok (.aload_n 0, 1) := by decide +kernel
theorem dL_law_1142 : decode cL_law 1142 = .ok (.iload 4, 2) := by decide +kernel
theorem dL_law_1144 : decode cL_law 1144 = .ok (.iconst 2, 1) := by decide +kernel
theorem dL_law_1145 : decode cL_law 1145 = .ok (.iadd, 1) := by decide +kernel
theorem dL_law_1146 : decode cL_law 1146 = .ok (.iaload, 1) := by decide +kernel
theorem dL_law_1147 : decode cL_law 1147 = .ok (.invokevirtual 144, 3) := by decide +kernel
theorem dL_law_1150 : decode cL_law 1150 = .ok (.if_icmp .eq 568, 3) := by decide +kernel
theorem dL_law_1153 : decode cL_law 1153 = .ok (.iconst 0, 1) := by decide +kernel
theorem dL_law_1154 : decode cL_law 1154 = .ok (.ireturn, 1) := by decide +kernel
set_option maxHeartbeats 4000000 in
set_option maxRecDepth 100000 in
theorem lc_29 {p : Program} {l : Launch} {e : Env} {s : State} {m : MethodId} {below : List Frame} {meth : Method} {c : Code} {b L : Nat} {xs : Nat → Int32} {E : EE} {cL : ClassId} {ad qa qe : Nat → Nat} {sh rg : Nat → Option Nat} {rwf : Nat → Nat} {σ : Nat → Nat} (hC : LC p l s m meth c b L xs E cL rg rwf) {i : Nat} (hi6 : i + 6 ≤ L) {cells slots : Nat} (hcs : cells + 1 ≤ 601024 ∧ slots + 6 ≤ 7293034) (kk : Nx p l e s m below meth c b E cL ad qa qe sh rg rwf σ (nI i) (cells + 1) (slots + 6) 1718) : Nx p l e s m below meth c b E cL ad qa qe sh rg rwf σ (nI i) cells slots 1118 := by
  intro h k f r m y mv st P ne dy mh mk mf mr mm ms mo mt mp mn md gh gk gf gr gm gs go gt gp gn gd img rp Y V el ho ki fi so si S M I B hi pl ra re nu mx sd K KK KF SO SI EL th og hI H locs ls hP hD hS hl
  obtain ⟨C0, hL, hG, hKL, hTX, hrg⟩ := id hC
  obtain ⟨hx, hb, hr, hml, hown, hts, hX, hbl, hlocks, hgv⟩ := id C0
  have hF := lw_fix C0
  obtain ⟨hSt, hq, hhi, him, hk9⟩ := id hI
  have hA : ∀ q : Nat, s.heap.size ≤ q → (fun q : Nat => s.heap.size ≤ q) q := fun _ h => h
  have hc0 : cells + 0 ≤ room_1.cells ∧ slots + 0 ≤ room_1.slots := ⟨Nat.le_of_succ_le hcs.1, by have := hcs.2; show slots + 0 ≤ 7293034; omega⟩
  obtain ⟨res, ⟨w1, w2, w3, w4, w5, w6, w7, w8, w9⟩, M1, e1, e2⟩ := ag_two hSt mh mk mf mr mm mt mp mn md M (xs (i + 1)) (xs (i + 2)) (N := 2000) (by decide)
  refine lv_aload_n hx hb dL_law_1118 rfl (lv_at hl 2 rfl) ?_
  refine lw_ld hC hi6 (j := 1) (by decide) hS hl dL_law_1119 dL_law_1120 dL_law_1122 dL_law_1123 dL_law_1124 ?_
  refine lw_ld hC hi6 (j := 2) (by decide) hS hl dL_law_1125 dL_law_1126 dL_law_1128 dL_law_1129 dL_law_1130 ?_
  refine wrVj [0, 1, 2, 3, 4, 5, 6, 7, 8, 9, 10, 11, 12, 13, 14] [15, 16, 17, 18, 19, 20, 21, 22, 23, 24, 25, 26, 27, 28, 29, 30, 31, 32, 33, 34, 35, 36, 37, 38, 39, 40, 41, 42, 43, 44, 45, 46, 47, 48, 49, 50, 51, 52, 53, 54, 55, 56, 57, 58, 59, 60, 61, 62] 3 0 (As := [.int (xs (i + 1)), .int (xs (i + 2))]) (rest := []) (st1 := [.int res]) hF q_X9_two kw_3_130 (c_X9_two l E (ad 0) (ad 1) (ad 8) (ad 15) (ad 22) (ad 32) (ad 2) (ad 3) (ad 4) (ad 5) (ad 6) (ad 7) (ad 9) (ad 10) (ad 11) (ad 12) (ad 13) (ad 14) img h k f r m y mv st (nI P) ne dy mh mk mf mr mm ms mo mt mp mn md (xs (i + 1)) (xs (i + 2)) 2000 res w1 w2 w3 w4 w5 w6 w7 w8 w9 e1) ⟨rfl, rfl⟩ ⟨Nat.le_of_ble_eq_true rfl, Nat.le_of_ble_eq_true rfl⟩ hc0 hP hD hS hA rfl rfl rfl hG jnNM rfl hl.1 rfl (Nat.le_of_ble_eq_true rfl) dL_law_1131 rfl (fun H locs hP hD hS => ?_)
  refine lv_aload_n hx hb dL_law_1134 rfl (lv_at hl 3 rfl) ?_
  refine lw_ld hC hi6 (j := 1) (by decide) hS hl dL_law_1135 dL_law_1136 dL_law_1138 dL_law_1139 dL_law_1140 ?_
  refine lw_ld hC hi6 (j := 2) (by decide) hS hl dL_law_1141 dL_law_1142 dL_law_1144 dL_law_1145 dL_law_1146 ?_
  refine wrVj [49, 50, 51, 52, 53, 54, 55, 56, 57, 58, 59, 60, 61] [0, 1, 2, 3, 4, 5, 6, 7, 8, 9, 10, 11, 12, 13, 14, 15, 16, 17, 18, 19, 20, 21, 22, 23, 24, 25, 26, 27, 28, 29, 30, 31, 32, 33, 34, 35, 36, 37, 38, 39, 40, 41, 42, 43, 44, 45, 46, 47, 48, 62] 4 0 (As := [.int (xs (i + 1)), .int (xs (i + 2))]) (rest := [.int res]) (st1 := [.int res, .int res]) hF q_X10_two kw_6_17 (c_X10_two l E (ad 49) (ad 50) (ad 51) (ad 52) (ad 53) (ad 54) (ad 55) (ad 56) (ad 57) (ad 58) (ad 59) (ad 60) (ad 61) S M I B hi pl ra re nu mx sd K KK KF SO SI EL th (xs (i + 1)) (xs (i + 2)) 2000 res M1 e2) ⟨rfl, rfl⟩ ⟨Nat.le_of_ble_eq_true rfl, Nat.le_of_ble_eq_true rfl⟩ hc0 hP hD hS hA rfl rfl rfl hG jnMo rfl hl.1 rfl (Nat.le_of_ble_eq_true rfl) dL_law_1147 rfl (fun H locs hP hD hS => ?_)
  refine lv_icmp_eq (tgt := 1718) hx hb dL_law_1150 (by decide) (fun _ => ?_) (fun h => absurd rfl h)
  exact w_widen (Nat.le_succ _) (Nat.le_add_right _ 6) (kk h k f r m y mv st P ne dy w5 w6 w7 w8 w9 ms mo w1 w2 w3 w4 gh gk gf gr gm gs go gt gp gn gd img rp Y V el ho ki fi so si S M1 I B hi pl ra re nu mx sd K KK KF SO SI EL th og hI H locs ls hP hD hS hl)
theorem dL_law_1244 : decode cL_law 1244 = .ok (.aload_n 1, 1) := by decide +kernel
theorem dL_law_1245 : decode cL_law 1245 = .ok (.aload_n 0, 1) := by decide +kernel
theorem dL_law_1246 : decode cL_law 1246 = .ok (.iload 4, 2) := by decide +kernel
theorem dL_law_1248 : decode cL_law 1248 = .ok (.iconst 1, 1) := by decide +kernel
theorem dL_law_1249 : decode cL_law 1249 = .ok (.iadd, 1) := by decide +kernel
theorem dL_law_1250 : decode cL_law 1250 = .ok (.iaload, 1) := by decide +kernel
theorem dL_law_1251 : decode cL_law 1251 = .ok (.invokevirtual 158, 3) := by decide +kernel
theorem dL_law_1254 : decode cL_law 1254 = .ok (.aload_n 2, 1) := by decide +kernel
theorem dL_law_1255 : decode cL_law 1255 = .ok (.aload_n 0, 1) := by decide +kernel
theorem dL_law_1256 : decode cL_law 1256 = .ok (.iload 4, 2) := by decide +kernel
theorem dL_law_1258 : decode cL_law 1258 = .ok (.iconst 1, 1) := by decide +kernel
theorem dL_law_1259 : decode cL_law 1259 = .ok (.iadd, 1) := by decide +kernel
theorem dL_law_1260 : decode cL_law 1260 = .ok (.iaload, 1) := by decide +kernel
theorem dL_law_1261 : decode cL_law 1261 = .ok (.invokevirtual 161, 3) := by decide +kernel
theorem dL_law_1264 : decode cL_law 1264 = .ok (.if_icmp .eq 454, 3) := by decide +kernel
theorem dL_law_1267 : decode cL_law 1267 = .ok (.iconst 0, 1) := by decide +kernel
theorem dL_law_1268 : decode cL_law 1268 = .ok (.ireturn, 1) := by decide +kernel
set_option maxHeartbeats 4000000 in
set_option maxRecDepth 100000 in
theorem ls_33 {p : Program} {l : Launch} {e : Env} {s : State} {m : MethodId} {below : List Frame} {meth : Method} {c : Code} {b L : Nat} {xs : Nat → Int32} {E : EE} {cL : ClassId} {ad qa qe : Nat → Nat} {sh rg : Nat → Option Nat} {rwf : Nat → Nat} {σ : Nat → Nat} (hC : LC p l s m meth c b L xs E cL rg rwf) {i : Nat} (hi6 : i + 6 ≤ L) (hv : (xs (i + 1) = nI (σ 0) ∧ σ 0 < 8) ∨ wiB (xs (i + 1)) 0 7 = false) (hs0 : sh (σ 0) = some (qa 0)) (hinj : ∀ j, 0 < j → j < 8 → σ j ≠ σ 0) {cells slots : Nat} (hcs : cells + 1 ≤ 601024 ∧ slots + 6 ≤ 7293034) (kk : Nx p l e s m below meth c b E cL ad qa qe sh rg rwf σ (nI i) (cells + 1) (slots + 6) 1718) : Nx p l e s m below meth c b E cL ad qa qe sh rg rwf σ (nI i) cells slots 1244 := by
  intro h k f r m y mv st P ne dy mh mk mf mr mm ms mo mt mp mn md gh gk gf gr gm gs go gt gp gn gd img rp Y V el ho ki fi so si S M I B hi pl ra re nu mx sd K KK KF SO SI EL th og hI H locs ls hP hD hS hl
  obtain ⟨C0, hL, hG, hKL, hTX, hrg⟩ := id hC
  obtain ⟨hx, hb, hr, hml, hown, hts, hX, hbl, hlocks, hgv⟩ := id C0
  have hF := lw_fix C0
  obtain ⟨hSt, hq, hhi, him, hk9⟩ := id hI
  have hA : ∀ q : Nat, s.heap.size ≤ q → (fun q : Nat => s.heap.size ≤ q) q := fun _ h => h
  have hc0 : cells + 0 ≤ room_1.cells ∧ slots + 0 ≤ room_1.slots := ⟨Nat.le_of_succ_le hcs.1, by have := hcs.2; show slots + 0 ≤ 7293034; omega⟩
  have hsp := shp_of hv hq
  have hsh1 := hsh_of hv hs0
  obtain ⟨res, ⟨w1, w2, w3, w4, w5, w6, w7, w8, w9, w10, w11⟩, M1, e1, e2⟩ := ag_judge hSt mh mk mf mr mm ms mo mt mp mn md M (xs (i + 1)) hsp (N := 2000) (by decide)
  refine lv_aload_n hx hb dL_law_1244 rfl (lv_at hl 2 rfl) ?_
  refine lw_ld hC hi6 (j := 1) (by decide) hS hl dL_law_1245 dL_law_1246 dL_law_1248 dL_law_1249 dL_law_1250 ?_
  refine wrVj [0, 1, 2, 3, 4, 5, 6, 7, 8, 9, 10, 11, 12, 13, 14, 32, 33, 34] [15, 16, 17, 18, 19, 20, 21, 22, 23, 24, 25, 26, 27, 28, 29, 30, 31, 35, 36, 37, 38, 39, 40, 41, 42, 43, 44, 45, 46, 47, 48, 49, 50, 51, 52, 53, 54, 55, 56, 57, 58, 59, 60, 61, 62] 3 0 (As := [.int (xs (i + 1))]) (rest := []) (st1 := [.int res]) hF q_X9_judge kw_3_158 (c_X9_judge l E (ad 0) (ad 1) (ad 8) (ad 15) (ad 22) (ad 32) (ad 2) (ad 3) (ad 4) (ad 5) (ad 6) (ad 7) (ad 9) (ad 10) (ad 11) (ad 12) (ad 13) (ad 14) (qa 0) (qe 0) img h k f r m y mv st (nI P) ne dy mh mk mf mr mm ms mo mt mp mn md sh (el 0) (ho 0) (ki 0) (fi 0) (so 0) (si 0) (xs (i + 1)) 2000 res w1 w2 w3 w4 w5 w6 w7 w8 w9 w10 w11 hsh1 e1) ⟨rfl, rfl⟩ ⟨Nat.le_of_ble_eq_true rfl, Nat.le_of_ble_eq_true rfl⟩ hc0 hP hD hS hA rfl rfl rfl hG jnNMQ rfl hl.1 rfl (Nat.le_of_ble_eq_true rfl) dL_law_1251 rfl (fun H locs hP hD hS => ?_)
  refine lv_aload_n hx hb dL_law_1254 rfl (lv_at hl 3 rfl) ?_
  refine lw_ld hC hi6 (j := 1) (by decide) hS hl dL_law_1255 dL_law_1256 dL_law_1258 dL_law_1259 dL_law_1260 ?_
  refine wrVj [49, 50, 51, 52, 53, 54, 55, 56, 57, 58, 59, 60, 61] [0, 1, 2, 3, 4, 5, 6, 7, 8, 9, 10, 11, 12, 13, 14, 15, 16, 17, 18, 19, 20, 21, 22, 23, 24, 25, 26, 27, 28, 29, 30, 31, 32, 33, 34, 35, 36, 37, 38, 39, 40, 41, 42, 43, 44, 45, 46, 47, 48, 62] 4 0 (As := [.int (xs (i + 1))]) (rest := [.int res]) (st1 := [.int res, .int res]) hF q_X10_judge kw_6_37 (c_X10_judge l E (ad 49) (ad 50) (ad 51) (ad 52) (ad 53) (ad 54) (ad 55) (ad 56) (ad 57) (ad 58) (ad 59) (ad 60) (ad 61) S M I B hi pl ra re nu mx sd K KK KF SO SI EL th (xs (i + 1)) 2000 res M1 e2) ⟨rfl, rfl⟩ ⟨Nat.le_of_ble_eq_true rfl, Nat.le_of_ble_eq_true rfl⟩ hc0 hP hD hS hA rfl rfl rfl hG jnMo rfl hl.1 rfl (Nat.le_of_ble_eq_true rfl) dL_law_1261 rfl (fun H locs hP hD hS => ?_)
  refine lv_icmp_eq (tgt := 1718) hx hb dL_law_1264 (by decide) (fun _ => ?_) (fun h => absurd rfl h)
  exact w_widen (Nat.le_succ _) (Nat.le_add_right _ 6) (kk h k f r m y mv st P ne dy w6 w7 w8 w9 w10 w11 w1 w2 w3 w4 w5 gh gk gf gr gm gs go gt gp gn gd img rp Y V el ho ki fi so si S M1 I B hi pl ra re nu mx sd K KK KF SO SI EL th og hI H locs ls hP hD hS hl)
theorem dL_law_1269 : decode cL_law 1269 = .ok (.aload_n 1, 1) := by decide +kernel
theorem dL_law_1270 : decode cL_law 1270 = .ok (.aload_n 0, 1) := by decide +kernel
theorem dL_law_1271 : decode cL_law 1271 = .ok (.iload 4, 2) := by decide +kernel
theorem dL_law_1273 : decode cL_law 1273 = .ok (.iconst 1, 1) := by decide +kernel
theorem dL_law_1274 : decode cL_law 1274 = .ok (.iadd, 1) := by decide +kernel
theorem dL_law_1275 : decode cL_law 1275 = .ok (.iaload, 1) := by decide +kernel
theorem dL_law_1276 : decode cL_law 1276 = .ok (.aload_n 0, 1) := by decide +kernel
theorem dL_law_1277 : decode cL_law 1277 = .ok (.iload 4, 2) := by decide +kernel
theorem dL_law_1279 : decode cL_law 1279 = .ok (.iconst 2, 1) := by decide +kernel
theorem dL_law_1280 : decode cL_law 1280 = .ok (.iadd, 1) := by decide +kernel
theorem dL_law_1281 : decode cL_law 1281 = .ok (.iaload, 1) := by decide +kernel
theorem dL_law_1282 : decode cL_law 1282 = .ok (.aload_n 0, 1) := by decide +kernel
theorem dL_law_1283 : decode cL_law 1283 = .ok (.iload 4, 2) := by decide +kernel
theorem dL_law_1285 : decode cL_law 1285 = .ok (.iconst 3, 1) := by decide +kernel
theorem dL_law_1286 : decode cL_law 1286 = .ok (.iadd, 1) := by decide +kernel
theorem dL_law_1287 : decode cL_law 1287 = .ok (.iaload, 1) := by decide +kernel
theorem dL_law_1288 : decode cL_law 1288 = .ok (.invokevirtual 162, 3) := by decide +kernel
theorem dL_law_1291 : decode cL_law 1291 = .ok (.aload_n 2, 1) := by decide +kernel
theorem dL_law_1292 : decode cL_law 1292 = .ok (.aload_n 0, 1) := by decide +kernel
theorem dL_law_1293 : decode cL_law 1293 = .ok (.iload 4, 2) := by decide +kernel
theorem dL_law_1295 : decode cL_law 1295 = .ok (.iconst 1, 1) := by decide +kernel
theorem dL_law_1296 : decode cL_law 1296 = .ok (.iadd, 1) := by decide +kernel
theorem dL_law_1297 : decode cL_law 1297 = .ok (.iaload, 1) := by decide +kernel
theorem dL_law_1298 : decode cL_law 1298 = .ok (.aload_n 0, 1) := by decide +kernel
theorem dL_law_1299 : decode cL_law 1299 = .ok (.iload 4, 2) := by decide +kernel
theorem dL_law_1301 : decode cL_law 1301 = .ok (.iconst 2, 1) := by decide +kernel
theorem dL_law_1302 : decode cL_law 1302 = .ok (.iadd, 1) := by decide +kernel
theorem dL_law_1303 : decode cL_law 1303 = .ok (.iaload, 1) := by decide +kernel
theorem dL_law_1304 : decode cL_law 1304 = .ok (.aload_n 0, 1) := by decide +kernel
theorem dL_law_1305 : decode cL_law 1305 = .ok (.iload 4, 2) := by decide +kernel
theorem dL_law_1307 : decode cL_law 1307 = .ok (.iconst 3, 1) := by decide +kernel
theorem dL_law_1308 : decode cL_law 1308 = .ok (.iadd, 1) := by decide +kernel
theorem dL_law_1309 : decode cL_law 1309 = .ok (.iaload, 1) := by decide +kernel
theorem dL_law_1310 : decode cL_law 1310 = .ok (.invokevirtual 165, 3) := by decide +kernel
theorem dL_law_1313 : decode cL_law 1313 = .ok (.if_icmp .eq 405, 3) := by decide +kernel
theorem dL_law_1316 : decode cL_law 1316 = .ok (.iconst 0, 1) := by decide +kernel
theorem dL_law_1317 : decode cL_law 1317 = .ok (.ireturn, 1) := by decide +kernel
set_option maxHeartbeats 4000000 in
set_option maxRecDepth 100000 in
theorem lc_34 {p : Program} {l : Launch} {e : Env} {s : State} {m : MethodId} {below : List Frame} {meth : Method} {c : Code} {b L : Nat} {xs : Nat → Int32} {E : EE} {cL : ClassId} {ad qa qe : Nat → Nat} {sh rg : Nat → Option Nat} {rwf : Nat → Nat} {σ : Nat → Nat} (hC : LC p l s m meth c b L xs E cL rg rwf) {i : Nat} (hi6 : i + 6 ≤ L) {cells slots : Nat} (hcs : cells + 1 ≤ 601024 ∧ slots + 6 ≤ 7293034) (kk : Nx p l e s m below meth c b E cL ad qa qe sh rg rwf σ (nI i) (cells + 1) (slots + 6) 1718) : Nx p l e s m below meth c b E cL ad qa qe sh rg rwf σ (nI i) cells slots 1269 := by
  intro h k f r m y mv st P ne dy mh mk mf mr mm ms mo mt mp mn md gh gk gf gr gm gs go gt gp gn gd img rp Y V el ho ki fi so si S M I B hi pl ra re nu mx sd K KK KF SO SI EL th og hI H locs ls hP hD hS hl
  obtain ⟨C0, hL, hG, hKL, hTX, hrg⟩ := id hC
  obtain ⟨hx, hb, hr, hml, hown, hts, hX, hbl, hlocks, hgv⟩ := id C0
  have hF := lw_fix C0
  obtain ⟨hSt, hq, hhi, him, hk9⟩ := id hI
  have hA : ∀ q : Nat, s.heap.size ≤ q → (fun q : Nat => s.heap.size ≤ q) q := fun _ h => h
  have hc0 : cells + 0 ≤ room_1.cells ∧ slots + 0 ≤ room_1.slots := ⟨Nat.le_of_succ_le hcs.1, by have := hcs.2; show slots + 0 ≤ 7293034; omega⟩
  obtain ⟨res, ⟨w1, w2, w3, w4, w5, w6, w7, w8, w9, w10, w11⟩, ⟨z1, z2⟩, e1, e2⟩ := ag_streets hSt mh mk mf mr mm ms mo mt mp mn md M sd (xs (i + 1)) (xs (i + 2)) (xs (i + 3)) (N := 2000) (by decide)
  refine lv_aload_n hx hb dL_law_1269 rfl (lv_at hl 2 rfl) ?_
  refine lw_ld hC hi6 (j := 1) (by decide) hS hl dL_law_1270 dL_law_1271 dL_law_1273 dL_law_1274 dL_law_1275 ?_
  refine lw_ld hC hi6 (j := 2) (by decide) hS hl dL_law_1276 dL_law_1277 dL_law_1279 dL_law_1280 dL_law_1281 ?_
  refine lw_ld hC hi6 (j := 3) (by decide) hS hl dL_law_1282 dL_law_1283 dL_law_1285 dL_law_1286 dL_law_1287 ?_
  refine wrVj [0, 1, 2, 3, 4, 5, 6, 7, 8, 9, 10, 11, 12, 13, 14] [15, 16, 17, 18, 19, 20, 21, 22, 23, 24, 25, 26, 27, 28, 29, 30, 31, 32, 33, 34, 35, 36, 37, 38, 39, 40, 41, 42, 43, 44, 45, 46, 47, 48, 49, 50, 51, 52, 53, 54, 55, 56, 57, 58, 59, 60, 61, 62] 3 0 (As := [.int (xs (i + 1)), .int (xs (i + 2)), .int (xs (i + 3))]) (rest := []) (st1 := [.int res]) hF q_X9_streets kw_3_162 (c_X9_streets l E (ad 0) (ad 1) (ad 8) (ad 15) (ad 22) (ad 32) (ad 2) (ad 3) (ad 4) (ad 5) (ad 6) (ad 7) (ad 9) (ad 10) (ad 11) (ad 12) (ad 13) (ad 14) img h k f r m y mv st (nI P) ne dy mh mk mf mr mm ms mo mt mp mn md (xs (i + 1)) (xs (i + 2)) (xs (i + 3)) 2000 res w1 w2 w3 w4 w5 w6 w7 w8 w9 w10 w11 e1) ⟨rfl, rfl⟩ ⟨Nat.le_of_ble_eq_true rfl, Nat.le_of_ble_eq_true rfl⟩ hc0 hP hD hS hA rfl rfl rfl hG jnNM rfl hl.1 rfl (Nat.le_of_ble_eq_true rfl) dL_law_1288 rfl (fun H locs hP hD hS => ?_)
  refine lv_aload_n hx hb dL_law_1291 rfl (lv_at hl 3 rfl) ?_
  refine lw_ld hC hi6 (j := 1) (by decide) hS hl dL_law_1292 dL_law_1293 dL_law_1295 dL_law_1296 dL_law_1297 ?_
  refine lw_ld hC hi6 (j := 2) (by decide) hS hl dL_law_1298 dL_law_1299 dL_law_1301 dL_law_1302 dL_law_1303 ?_
  refine lw_ld hC hi6 (j := 3) (by decide) hS hl dL_law_1304 dL_law_1305 dL_law_1307 dL_law_1308 dL_law_1309 ?_
  refine wrVj [49, 50, 51, 52, 53, 54, 55, 56, 57, 58, 59, 60, 61] [0, 1, 2, 3, 4, 5, 6, 7, 8, 9, 10, 11, 12, 13, 14, 15, 16, 17, 18, 19, 20, 21, 22, 23, 24, 25, 26, 27, 28, 29, 30, 31, 32, 33, 34, 35, 36, 37, 38, 39, 40, 41, 42, 43, 44, 45, 46, 47, 48, 62] 4 0 (As := [.int (xs (i + 1)), .int (xs (i + 2)), .int (xs (i + 3))]) (rest := [.int res]) (st1 := [.int res, .int res]) hF q_X10_streets kw_6_41 (c_X10_streets l E (ad 49) (ad 50) (ad 51) (ad 52) (ad 53) (ad 54) (ad 55) (ad 56) (ad 57) (ad 58) (ad 59) (ad 60) (ad 61) S M I B hi pl ra re nu mx sd K KK KF SO SI EL th (xs (i + 1)) (xs (i + 2)) (xs (i + 3)) 2000 res z1 z2 e2) ⟨rfl, rfl⟩ ⟨Nat.le_of_ble_eq_true rfl, Nat.le_of_ble_eq_true rfl⟩ hc0 hP hD hS hA rfl rfl rfl hG jnMo rfl hl.1 rfl (Nat.le_of_ble_eq_true rfl) dL_law_1310 rfl (fun H locs hP hD hS => ?_)
  refine lv_icmp_eq (tgt := 1718) hx hb dL_law_1313 (by decide) (fun _ => ?_) (fun h => absurd rfl h)
  exact w_widen (Nat.le_succ _) (Nat.le_add_right _ 6) (kk h k f r m y mv st P ne dy w6 w7 w8 w9 w10 w11 w1 w2 w3 w4 w5 gh gk gf gr gm gs go gt gp gn gd img rp Y V el ho ki fi so si S z2 I B hi pl ra re nu mx z1 K KK KF SO SI EL th og hI H locs ls hP hD hS hl)
theorem dL_law_1668 : decode cL_law 1668 = .ok (.aload_n 1, 1) := by decide +kernel
theorem dL_law_1669 : decode cL_law 1669 = .ok (.aload_n 0, 1) := by decide +kernel
theorem dL_law_1670 : decode cL_law 1670 = .ok (.iload 4, 2) := by decide +kernel
theorem dL_law_1672 : decode cL_law 1672 = .ok (.iconst 1, 1) := by decide +kernel
theorem dL_law_1673 : decode cL_law 1673 = .ok (.iadd, 1) := by decide +kernel
theorem dL_law_1674 : decode cL_law 1674 = .ok (.iaload, 1) := by decide +kernel
theorem dL_law_1675 : decode cL_law 1675 = .ok (.invokevirtual 205, 3) := by decide +kernel
theorem dL_law_1678 : decode cL_law 1678 = .ok (.aload_n 2, 1) := by decide +kernel
theorem dL_law_1679 : decode cL_law 1679 = .ok (.aload_n 0, 1) := by decide +kernel
theorem dL_law_1680 : decode cL_law 1680 = .ok (.iload 4, 2) := by decide +kernel
theorem dL_law_1682 : decode cL_law 1682 = .ok (.iconst 1, 1) := by decide +kernel
theorem dL_law_1683 : decode cL_law 1683 = .ok (.iadd, 1) := by decide +kernel
theorem dL_law_1684 : decode cL_law 1684 = .ok (.iaload, 1) := by decide +kernel
theorem dL_law_1685 : decode cL_law 1685 = .ok (.invokevirtual 208, 3) := by decide +kernel
theorem dL_law_1688 : decode cL_law 1688 = .ok (.if_icmp .eq 30, 3) := by decide +kernel
theorem dL_law_1691 : decode cL_law 1691 = .ok (.iconst 0, 1) := by decide +kernel
theorem dL_law_1692 : decode cL_law 1692 = .ok (.ireturn, 1) := by decide +kernel
set_option maxHeartbeats 4000000 in
set_option maxRecDepth 100000 in
theorem ls_43 {p : Program} {l : Launch} {e : Env} {s : State} {m : MethodId} {below : List Frame} {meth : Method} {c : Code} {b L : Nat} {xs : Nat → Int32} {E : EE} {cL : ClassId} {ad qa qe : Nat → Nat} {sh rg : Nat → Option Nat} {rwf : Nat → Nat} {σ : Nat → Nat} (hC : LC p l s m meth c b L xs E cL rg rwf) {i : Nat} (hi6 : i + 6 ≤ L) (hv : (xs (i + 1) = nI (σ 0) ∧ σ 0 < 8) ∨ wiB (xs (i + 1)) 0 7 = false) (hs0 : sh (σ 0) = some (qa 0)) (hinj : ∀ j, 0 < j → j < 8 → σ j ≠ σ 0) {cells slots : Nat} (hcs : cells + 1 ≤ 601024 ∧ slots + 6 ≤ 7293034) (kk : Nx p l e s m below meth c b E cL ad qa qe sh rg rwf σ (nI i) (cells + 1) (slots + 6) 1718) : Nx p l e s m below meth c b E cL ad qa qe sh rg rwf σ (nI i) cells slots 1668 := by
  intro h k f r m y mv st P ne dy mh mk mf mr mm ms mo mt mp mn md gh gk gf gr gm gs go gt gp gn gd img rp Y V el ho ki fi so si S M I B hi pl ra re nu mx sd K KK KF SO SI EL th og hI H locs ls hP hD hS hl
  obtain ⟨C0, hL, hG, hKL, hTX, hrg⟩ := id hC
  obtain ⟨hx, hb, hr, hml, hown, hts, hX, hbl, hlocks, hgv⟩ := id C0
  have hF := lw_fix C0
  obtain ⟨hSt, hq, hhi, him, hk9⟩ := id hI
  have hA : ∀ q : Nat, s.heap.size ≤ q → (fun q : Nat => s.heap.size ≤ q) q := fun _ h => h
  have hc0 : cells + 0 ≤ room_1.cells ∧ slots + 0 ≤ room_1.slots := ⟨Nat.le_of_succ_le hcs.1, by have := hcs.2; show slots + 0 ≤ 7293034; omega⟩
  have hsp := shp_of hv hq
  have hsh1 := hsh_of hv hs0
  obtain ⟨res, e1, e2⟩ := ag_cost (xs (i + 1)) hsp
  refine lv_aload_n hx hb dL_law_1668 rfl (lv_at hl 2 rfl) ?_
  refine lw_ld hC hi6 (j := 1) (by decide) hS hl dL_law_1669 dL_law_1670 dL_law_1672 dL_law_1673 dL_law_1674 ?_
  refine rdV 3 0 (As := [.int (xs (i + 1))]) (rest := []) (st1 := [.int res]) hF q_X9_cost kw_3_234 (c_X9_cost l E (ad 0) (ad 1) (ad 8) (ad 15) (ad 22) (ad 32) (qa 0) (qe 0) img sh (el 0) (ho 0) (ki 0) (fi 0) (so 0) (si 0) (xs (i + 1)) res hsh1 e1) ⟨rfl, rfl⟩ ⟨Nat.le_of_ble_eq_true rfl, Nat.le_of_ble_eq_true rfl⟩ hc0 (cut_P hP [0, 32, 33, 34] cuQ) rfl rfl rfl hG rfl hl.1 rfl (Nat.le_of_ble_eq_true rfl) dL_law_1675 rfl ?_
  refine lv_aload_n hx hb dL_law_1678 rfl (lv_at hl 3 rfl) ?_
  refine lw_ld hC hi6 (j := 1) (by decide) hS hl dL_law_1679 dL_law_1680 dL_law_1682 dL_law_1683 dL_law_1684 ?_
  refine rdV 4 0 (As := [.int (xs (i + 1))]) (rest := [.int res]) (st1 := [.int res, .int res]) hF q_X10_cost kw_6_88 (c_X10_cost l E (ad 49) (ad 50) (ad 51) (ad 52) (ad 53) (ad 54) (ad 55) (ad 56) (ad 57) (ad 58) (ad 59) (ad 60) (ad 61) S M I B hi pl ra re nu mx sd K KK KF SO SI EL th (xs (i + 1)) res e2) ⟨rfl, rfl⟩ ⟨Nat.le_of_ble_eq_true rfl, Nat.le_of_ble_eq_true rfl⟩ hc0 (cut_P hP [49, 50, 51, 52, 53, 54, 55, 56, 57, 58, 59, 60, 61] cuMo) rfl rfl rfl hG rfl hl.1 rfl (Nat.le_of_ble_eq_true rfl) dL_law_1685 rfl ?_
  refine lv_icmp_eq (tgt := 1718) hx hb dL_law_1688 (by decide) (fun _ => ?_) (fun h => absurd rfl h)
  exact w_widen (Nat.le_succ _) (Nat.le_add_right _ 6) (kk h k f r m y mv st P ne dy mh mk mf mr mm ms mo mt mp mn md gh gk gf gr gm gs go gt gp gn gd img rp Y V el ho ki fi so si S M I B hi pl ra re nu mx sd K KK KF SO SI EL th og hI H locs ls hP hD hS hl)
