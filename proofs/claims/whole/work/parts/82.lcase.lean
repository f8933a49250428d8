theorem dL_law_533 : decode cL_law 533 = .ok (.aload_n 1, 1) := by decide +kernel
theorem dL_law_534 : decode cL_law 534 = .ok (.aload_n 0, 1) := by decide +kernel
theorem dL_law_535 : decode cL_law 535 = .ok (.iload 4, 2) := by decide +kernel
theorem dL_law_537 : decode cL_law 537 = .ok (.iconst 1, 1) := by decide +kernel
theorem dL_law_538 : decode cL_law 538 = .ok (.iadd, 1) := by decide +kernel
theorem dL_law_539 : decode cL_law 539 = .ok (.iaload, 1) := by decide +kernel
theorem dL_law_540 : decode cL_law 540 = .ok (.invokevirtual 59, 3) := by decide +kernel
theorem dL_law_543 : decode cL_law 543 = .ok (.aload_n 2, 1) := by decide +kernel
theorem dL_law_544 : decode cL_law 544 = .ok (.aload_n 0, 1) := by decide +kernel
theorem dL_law_545 : decode cL_law 545 = .ok (.iload 4, 2) := by decide +kernel
theorem dL_law_547 : decode cL_law 547 = .ok (.iconst 1, 1) := by decide +kernel
theorem dL_law_548 : decode cL_law 548 = .ok (.iadd, 1) := by decide +kernel
theorem dL_law_549 : decode cL_law 549 = .ok (.iaload, 1) := by decide +kernel
theorem dL_law_550 : decode cL_law 550 = .ok (.invokevirtual 62, 3) := by decide +kernel
theorem dL_law_553 : decode cL_law 553 = .ok (.if_icmp .eq 1165, 3) := by decide +kernel
theorem dL_law_556 : decode cL_law 556 = .ok (.iconst 0, 1) := by decide +kernel
theorem dL_law_557 : decode cL_law 557 = .ok (.ireturn, 1) := by decide +kernel
set_option maxHeartbeats 4000000 in
set_option maxRecDepth 100000 in
theorem lc_9 {p : Program} {l : Launch} {e : Env} {s : State} {m : MethodId} {below : List Frame} {meth : Method} {c : Code} {b L : Nat} {xs : Nat → Int32} {E : EE} {cL : ClassId} {ad qa qe : Nat → Nat} {sh rg : Nat → Option Nat} {rwf : Nat → Nat} {σ : Nat → Nat} (hC : LC p l s m meth c b L xs E cL rg rwf) {i : Nat} (hi6 : i + 6 ≤ L) {cells slots : Nat} (hcs : cells + 1 ≤ 601024 ∧ slots + 6 ≤ 7293034) (kk : Nx p l e s m below meth c b E cL ad qa qe sh rg rwf σ (nI i) (cells + 1) (slots + 6) 1718) : Nx p l e s m below meth c b E cL ad qa qe sh rg rwf σ (nI i) cells slots 533 := by
  intro h k f r m y mv st P ne dy mh mk mf mr mm ms mo mt mp mn md gh gk gf gr gm gs go gt gp gn gd img rp Y V el ho ki fi so si S M I B hi pl ra re nu mx sd K KK KF SO SI EL th og hI H locs ls hP hD hS hl
  obtain ⟨C0, hL, hG, hKL, hTX, hrg⟩ := id hC
  obtain ⟨hx, hb, hr, hml, hown, hts, hX, hbl, hlocks, hgv⟩ := id C0
  have hF := lw_fix C0
  obtain ⟨hSt, hq, hhi, him, hk9⟩ := id hI
  have hA : ∀ q : Nat, s.heap.size ≤ q → (fun q : Nat => s.heap.size ≤ q) q := fun _ h => h
  have hc0 : cells + 0 ≤ room_1.cells ∧ slots + 0 ≤ room_1.slots := ⟨Nat.le_of_succ_le hcs.1, by have := hcs.2; show slots + 0 ≤ 7293034; omega⟩
  obtain ⟨res, mv1, dy1, m1, y1, S1, e1, e2, hSt1⟩ := ag_days hSt y mv (xs (i + 1)) (N := 2000) (by decide)
  refine lv_aload_n hx hb dL_law_533 rfl (lv_at hl 2 rfl) ?_
  refine lw_ld hC hi6 (j := 1) (by decide) hS hl dL_law_534 dL_law_535 dL_law_537 dL_law_538 dL_law_539 ?_
  refine wrVj [0, 1, 2, 3, 4, 5, 6, 7] [8, 9, 10, 11, 12, 13, 14, 15, 16, 17, 18, 19, 20, 21, 22, 23, 24, 25, 26, 27, 28, 29, 30, 31, 32, 33, 34, 35, 36, 37, 38, 39, 40, 41, 42, 43, 44, 45, 46, 47, 48, 49, 50, 51, 52, 53, 54, 55, 56, 57, 58, 59, 60, 61, 62] 3 0 (As := [.int (xs (i + 1))]) (rest := []) (st1 := [.int res]) hF q_X9_days kw_2_104 (c_X9_days l E (ad 0) (ad 1) (ad 8) (ad 15) (ad 22) (ad 32) (ad 2) (ad 3) (ad 4) (ad 5) (ad 6) (ad 7) img h k f r m y mv st (nI P) ne dy (xs (i + 1)) 2000 res mv1 dy1 m1 y1 e1) ⟨rfl, rfl⟩ ⟨Nat.le_of_ble_eq_true rfl, Nat.le_of_ble_eq_true rfl⟩ hc0 hP hD hS hA rfl rfl rfl hG jnN rfl hl.1 rfl (Nat.le_of_ble_eq_true rfl) dL_law_540 rfl (fun H locs hP hD hS => ?_)
  refine lv_aload_n hx hb dL_law_543 rfl (lv_at hl 3 rfl) ?_
  refine lw_ld hC hi6 (j := 1) (by decide) hS hl dL_law_544 dL_law_545 dL_law_547 dL_law_548 dL_law_549 ?_
  refine wrVj [49, 50, 51, 52, 53, 54, 55, 56, 57, 58, 59, 60, 61] [0, 1, 2, 3, 4, 5, 6, 7, 8, 9, 10, 11, 12, 13, 14, 15, 16, 17, 18, 19, 20, 21, 22, 23, 24, 25, 26, 27, 28, 29, 30, 31, 32, 33, 34, 35, 36, 37, 38, 39, 40, 41, 42, 43, 44, 45, 46, 47, 48, 62] 4 0 (As := [.int (xs (i + 1))]) (rest := [.int res]) (st1 := [.int res, .int res]) hF q_X10_days kw_5_66 (c_X10_days l E (ad 49) (ad 50) (ad 51) (ad 52) (ad 53) (ad 54) (ad 55) (ad 56) (ad 57) (ad 58) (ad 59) (ad 60) (ad 61) S M I B hi pl ra re nu mx sd K KK KF SO SI EL th (xs (i + 1)) 2000 res S1 e2) ⟨rfl, rfl⟩ ⟨Nat.le_of_ble_eq_true rfl, Nat.le_of_ble_eq_true rfl⟩ hc0 hP hD hS hA rfl rfl rfl hG jnMo rfl hl.1 rfl (Nat.le_of_ble_eq_true rfl) dL_law_550 rfl (fun H locs hP hD hS => ?_)
  refine lv_icmp_eq (tgt := 1718) hx hb dL_law_553 (by decide) (fun _ => ?_) (fun h => absurd rfl h)
  exact w_widen (Nat.le_succ _) (Nat.le_add_right _ 6) (kk h k f r m1 y1 mv1 st P ne dy1 mh mk mf mr mm ms mo mt mp mn md gh gk gf gr gm gs go gt gp gn gd img rp Y V el ho ki fi so si S1 M I B hi pl ra re nu mx sd K KK KF SO SI EL th og ⟨hSt1, hI.2⟩ H locs ls hP hD hS hl)
theorem dL_law_558 : decode cL_law 558 = .ok (.aload_n 1, 1) := by decide +kernel
theorem dL_law_559 : decode cL_law 559 = .ok (.aload_n 0, 1) := by decide +kernel
theorem dL_law_560 : decode cL_law 560 = .ok (.iload 4, 2) := by decide +kernel
theorem dL_law_562 : decode cL_law 562 = .ok (.iconst 1, 1) := by decide +kernel
theorem dL_law_563 : decode cL_law 563 = .ok (.iadd, 1) := by decide +kernel
theorem dL_law_564 : decode cL_law 564 = .ok (.iaload, 1) := by decide +kernel
theorem dL_law_565 : decode cL_law 565 = .ok (.invokevirtual 63, 3) := by decide +kernel
theorem dL_law_568 : decode cL_law 568 = .ok (.aload_n 2, 1) := by decide +kernel
theorem dL_law_569 : decode cL_law 569 = .ok (.aload_n 0, 1) := by decide +kernel
theorem dL_law_570 : decode cL_law 570 = .ok (.iload 4, 2) := by decide +kernel
theorem dL_law_572 : decode cL_law 572 = .ok (.iconst 1, 1) := by decide +kernel
theorem dL_law_573 : decode cL_law 573 = .ok (.iadd, 1) := by decide +kernel
theorem dL_law_574 : decode cL_law 574 = .ok (.iaload, 1) := by decide +kernel
theorem dL_law_575 : decode cL_law 575 = .ok (.invokevirtual 66, 3) := by decide +kernel
theorem dL_law_578 : decode cL_law 578 = .ok (.if_icmp .eq 1140, 3) := by decide +kernel
theorem dL_law_581 : decode cL_law 581 = .ok (.iconst 0, 1) := by decide +kernel
theorem dL_law_582 : decode cL_law 582 = .ok (.ireturn, 1) := by decide +kernel
set_option maxHeartbeats 4000000 in
set_option maxRecDepth 100000 in
theorem lc_10 {p : Program} {l : Launch} {e : Env} {s : State} {m : MethodId} {below : List Frame} {meth : Method} {c : Code} {b L : Nat} {xs : Nat → Int32} {E : EE} {cL : ClassId} {ad qa qe : Nat → Nat} {sh rg : Nat → Option Nat} {rwf : Nat → Nat} {σ : Nat → Nat} (hC : LC p l s m meth c b L xs E cL rg rwf) {i : Nat} (hi6 : i + 6 ≤ L) {cells slots : Nat} (hcs : cells + 1 ≤ 601024 ∧ slots + 6 ≤ 7293034) (kk : Nx p l e s m below meth c b E cL ad qa qe sh rg rwf σ (nI i) (cells + 1) (slots + 6) 1718) : Nx p l e s m below meth c b E cL ad qa qe sh rg rwf σ (nI i) cells slots 558 := by
  intro h k f r m y mv st P ne dy mh mk mf mr mm ms mo mt mp mn md gh gk gf gr gm gs go gt gp gn gd img rp Y V el ho ki fi so si S M I B hi pl ra re nu mx sd K KK KF SO SI EL th og hI H locs ls hP hD hS hl
  obtain ⟨C0, hL, hG, hKL, hTX, hrg⟩ := id hC
  obtain ⟨hx, hb, hr, hml, hown, hts, hX, hbl, hlocks, hgv⟩ := id C0
  have hF := lw_fix C0
  obtain ⟨hSt, hq, hhi, him, hk9⟩ := id hI
  have hA : ∀ q : Nat, s.heap.size ≤ q → (fun q : Nat => s.heap.size ≤ q) q := fun _ h => h
  have hc0 : cells + 0 ≤ room_1.cells ∧ slots + 0 ≤ room_1.slots := ⟨Nat.le_of_succ_le hcs.1, by have := hcs.2; show slots + 0 ≤ 7293034; omega⟩
  obtain ⟨res, e1, e2⟩ := ag_carries hSt (xs (i + 1)) (N := 2000) (by decide)
  refine lv_aload_n hx hb dL_law_558 rfl (lv_at hl 2 rfl) ?_
  refine lw_ld hC hi6 (j := 1) (by decide) hS hl dL_law_559 dL_law_560 dL_law_562 dL_law_563 dL_law_564 ?_
  refine rdV 3 0 (As := [.int (xs (i + 1))]) (rest := []) (st1 := [.int res]) hF q_X9_carries kw_2_142 (c_X9_carries l E (ad 0) (ad 1) (ad 8) (ad 15) (ad 22) (ad 32) (ad 2) (ad 3) (ad 4) (ad 5) (ad 6) (ad 7) img h k f r m y mv st (nI P) ne dy (xs (i + 1)) 2000 res e1) ⟨rfl, rfl⟩ ⟨Nat.le_of_ble_eq_true rfl, Nat.le_of_ble_eq_true rfl⟩ hc0 (cut_P hP [0, 1, 2, 3, 4, 5, 6, 7] cuN) rfl rfl rfl hG rfl hl.1 rfl (Nat.le_of_ble_eq_true rfl) dL_law_565 rfl ?_
  refine lv_aload_n hx hb dL_law_568 rfl (lv_at hl 3 rfl) ?_
  refine lw_ld hC hi6 (j := 1) (by decide) hS hl dL_law_569 dL_law_570 dL_law_572 dL_law_573 dL_law_574 ?_
  refine rdV 4 0 (As := [.int (xs (i + 1))]) (rest := [.int res]) (st1 := [.int res, .int res]) hF q_X10_carries kw_5_94 (c_X10_carries l E (ad 49) (ad 50) (ad 51) (ad 52) (ad 53) (ad 54) (ad 55) (ad 56) (ad 57) (ad 58) (ad 59) (ad 60) (ad 61) S M I B hi pl ra re nu mx sd K KK KF SO SI EL th (xs (i + 1)) 2000 res e2) ⟨rfl, rfl⟩ ⟨Nat.le_of_ble_eq_true rfl, Nat.le_of_ble_eq_true rfl⟩ hc0 (cut_P hP [49, 50, 51, 52, 53, 54, 55, 56, 57, 58, 59, 60, 61] cuMo) rfl rfl rfl hG rfl hl.1 rfl (Nat.le_of_ble_eq_true rfl) dL_law_575 rfl ?_
  refine lv_icmp_eq (tgt := 1718) hx hb dL_law_578 (by decide) (fun _ => ?_) (fun h => absurd rfl h)
  exact w_widen (Nat.le_succ _) (Nat.le_add_right _ 6) (kk h k f r m y mv st P ne dy mh mk mf mr mm ms mo mt mp mn md gh gk gf gr gm gs go gt gp gn gd img rp Y V el ho ki fi so si S M I B hi pl ra re nu mx sd K KK KF SO SI EL th og hI H locs ls hP hD hS hl)
theorem dL_law_583 : decode cL_law 583 = .ok (.aload_n 1, 1) := by decide +kernel
theorem dL_law_584 : decode cL_law 584 = .ok (.aload_n 0, 1) := by decide +kernel
theorem dL_law_585 : decode cL_law 585 = .ok (.iload 4, 2) := by decide +kernel
theorem dL_law_587 : decode cL_law 587 = .ok (.iconst 1, 1) := by decide +kernel
theorem dL_law_588 : decode cL_law 588 = .ok (.iadd, 1) := by decide +kernel
theorem dL_law_589 : decode cL_law 589 = .ok (.iaload, 1) := by decide +kernel
theorem dL_law_590 : decode cL_law 590 = .ok (.aload_n 0, 1) := by decide +kernel
theorem dL_law_591 : decode cL_law 591 = .ok (.iload 4, 2) := by decide +kernel
theorem dL_law_593 : decode cL_law 593 = .ok (.iconst 2, 1) := by decide +kernel
theorem dL_law_594 : decode cL_law 594 = .ok (.iadd, 1) := by decide +kernel
theorem dL_law_595 : decode cL_law 595 = .ok (.iaload, 1) := by decide +kernel
theorem dL_law_596 : decode cL_law 596 = .ok (.invokevirtual 67, 3) := by decide +kernel
theorem dL_law_599 : decode cL_law 599 = .ok (.aload_n 2, 1) := by decide +kernel
theorem dL_law_600 : decode cL_law 600 = .ok (.aload_n 0, 1) := by decide +kernel
theorem dL_law_601 : decode cL_law 601 = .ok (.iload 4, 2) := by decide +kernel
theorem dL_law_603 : decode cL_law 603 = .ok (.iconst 1, 1) := by decide +kernel
theorem dL_law_604 : decode cL_law 604 = .ok (.iadd, 1) := by decide +kernel
theorem dL_law_605 : decode cL_law 605 = .ok (.iaload, 1) := by decide +kernel
theorem dL_law_606 : decode cL_law 606 = .ok (.aload_n 0, 1) := by decide +kernel
theorem dL_law_607 : decode cL_law 607 = .ok (.iload 4, 2) := by decide +kernel
theorem dL_law_609 : decode cL_law 609 = .ok (.iconst 2, 1) := by decide +kernel
theorem dL_law_610 : decode cL_law 610 = .ok (.iadd, 1) := by decide +kernel
theorem dL_law_611 : decode cL_law 611 = .ok (.iaload, 1) := by decide +kernel
theorem dL_law_612 : decode cL_law 612 = .ok (.invokevirtual 70, 3) := by decide +kernel
theorem dL_law_615 : decode cL_law 615 = .ok (.if_icmp .eq 1103, 3) := by decide +kernel
theorem dL_law_618 : decode cL_law 618 = .ok (.iconst 0, 1) := by decide +kernel
theorem dL_law_619 : decode cL_law 619 = .ok (.ireturn, 1) := by decide +kernel
set_option maxHeartbeats 4000000 in
set_option maxRecDepth 100000 in
theorem lc_11 {p : Program} {l : Launch} {e : Env} {s : State} {m : MethodId} {below : List Frame} {meth : Method} {c : Code} {b L : Nat} {xs : Nat → Int32} {E : EE} {cL : ClassId} {ad qa qe : Nat → Nat} {sh rg : Nat → Option Nat} {rwf : Nat → Nat} {σ : Nat → Nat} (hC : LC p l s m meth c b L xs E cL rg rwf) {i : Nat} (hi6 : i + 6 ≤ L) {cells slots : Nat} (hcs : cells + 1 ≤ 601024 ∧ slots + 6 ≤ 7293034) (kk : Nx p l e s m below meth c b E cL ad qa qe sh rg rwf σ (nI i) (cells + 1) (slots + 6) 1718) : Nx p l e s m below meth c b E cL ad qa qe sh rg rwf σ (nI i) cells slots 583 := by
  intro h k f r m y mv st P ne dy mh mk mf mr mm ms mo mt mp mn md gh gk gf gr gm gs go gt gp gn gd img rp Y V el ho ki fi so si S M I B hi pl ra re nu mx sd K KK KF SO SI EL th og hI H locs ls hP hD hS hl
  obtain ⟨C0, hL, hG, hKL, hTX, hrg⟩ := id hC
  obtain ⟨hx, hb, hr, hml, hown, hts, hX, hbl, hlocks, hgv⟩ := id C0
  have hF := lw_fix C0
  obtain ⟨hSt, hq, hhi, him, hk9⟩ := id hI
  have hA : ∀ q : Nat, s.heap.size ≤ q → (fun q : Nat => s.heap.size ≤ q) q := fun _ h => h
  have hc0 : cells + 0 ≤ room_1.cells ∧ slots + 0 ≤ room_1.slots := ⟨Nat.le_of_succ_le hcs.1, by have := hcs.2; show slots + 0 ≤ 7293034; omega⟩
  obtain ⟨res, ⟨w1, w2, w3, w4, w5, w6, w7, w8, w9, w10, w11⟩, M1, e1, e2⟩ := ag_moodThen hSt mh mk mf mr mm ms mo mt mp mn md M (xs (i + 1)) (xs (i + 2)) (N := 2000) (by decide)
  refine lv_aload_n hx hb dL_law_583 rfl (lv_at hl 2 rfl) ?_
  refine lw_ld hC hi6 (j := 1) (by decide) hS hl dL_law_584 dL_law_585 dL_law_587 dL_law_588 dL_law_589 ?_
  refine lw_ld hC hi6 (j := 2) (by decide) hS hl dL_law_590 dL_law_591 dL_law_593 dL_law_594 dL_law_595 ?_
  refine wrVj [0, 1, 2, 3, 4, 5, 6, 7, 8, 9, 10, 11, 12, 13, 14] [15, 16, 17, 18, 19, 20, 21, 22, 23, 24, 25, 26, 27, 28, 29, 30, 31, 32, 33, 34, 35, 36, 37, 38, 39, 40, 41, 42, 43, 44, 45, 46, 47, 48, 49, 50, 51, 52, 53, 54, 55, 56, 57, 58, 59, 60, 61, 62] 3 0 (As := [.int (xs (i + 1)), .int (xs (i + 2))]) (rest := []) (st1 := [.int res]) hF q_X9_moodThen kw_2_153 (c_X9_moodThen l E (ad 0) (ad 1) (ad 8) (ad 15) (ad 22) (ad 32) (ad 2) (ad 3) (ad 4) (ad 5) (ad 6) (ad 7) (ad 9) (ad 10) (ad 11) (ad 12) (ad 13) (ad 14) img h k f r m y mv st (nI P) ne dy mh mk mf mr mm ms mo mt mp mn md (xs (i + 1)) (xs (i + 2)) 2000 res w1 w2 w3 w4 w5 w6 w7 w8 w9 w10 w11 e1) ⟨rfl, rfl⟩ ⟨Nat.le_of_ble_eq_true rfl, Nat.le_of_ble_eq_true rfl⟩ hc0 hP hD hS hA rfl rfl rfl hG jnNM rfl hl.1 rfl (Nat.le_of_ble_eq_true rfl) dL_law_596 rfl (fun H locs hP hD hS => ?_)
  refine lv_aload_n hx hb dL_law_599 rfl (lv_at hl 3 rfl) ?_
  refine lw_ld hC hi6 (j := 1) (by decide) hS hl dL_law_600 dL_law_601 dL_law_603 dL_law_604 dL_law_605 ?_
  refine lw_ld hC hi6 (j := 2) (by decide) hS hl dL_law_606 dL_law_607 dL_law_609 dL_law_610 dL_law_611 ?_
  refine wrVj [49, 50, 51, 52, 53, 54, 55, 56, 57, 58, 59, 60, 61] [0, 1, 2, 3, 4, 5, 6, 7, 8, 9, 10, 11, 12, 13, 14, 15, 16, 17, 18, 19, 20, 21, 22, 23, 24, 25, 26, 27, 28, 29, 30, 31, 32, 33, 34, 35, 36, 37, 38, 39, 40, 41, 42, 43, 44, 45, 46, 47, 48, 62] 4 0 (As := [.int (xs (i + 1)), .int (xs (i + 2))]) (rest := [.int res]) (st1 := [.int res, .int res]) hF q_X10_moodThen kw_5_101 (c_X10_moodThen l E (ad 49) (ad 50) (ad 51) (ad 52) (ad 53) (ad 54) (ad 55) (ad 56) (ad 57) (ad 58) (ad 59) (ad 60) (ad 61) S M I B hi pl ra re nu mx sd K KK KF SO SI EL th (xs (i + 1)) (xs (i + 2)) 2000 res M1 e2) ⟨rfl, rfl⟩ ⟨Nat.le_of_ble_eq_true rfl, Nat.le_of_ble_eq_true rfl⟩ hc0 hP hD hS hA rfl rfl rfl hG jnMo rfl hl.1 rfl (Nat.le_of_ble_eq_true rfl) dL_law_612 rfl (fun H locs hP hD hS => ?_)
  refine lv_icmp_eq (tgt := 1718) hx hb dL_law_615 (by decide) (fun _ => ?_) (fun h => absurd rfl h)
  exact w_widen (Nat.le_succ _) (Nat.le_add_right _ 6) (kk h k f r m y mv st P ne dy w6 w7 w8 w9 w10 w11 w1 w2 w3 w4 w5 gh gk gf gr gm gs go gt gp gn gd img rp Y V el ho ki fi so si S M1 I B hi pl ra re nu mx sd K KK KF SO SI EL th og hI H locs ls hP hD hS hl)
theorem dL_law_620 : decode cL_law 620 = .ok (.aload_n 1, 1) := by decide +kernel
theorem dL_law_621 : decode cL_law 621 = .ok (.aload_n 0, 1) := by decide +kernel
theorem dL_law_622 : decode cL_law 622 = .ok (.iload 4, 2) := by decide +kernel
theorem dL_law_624 : decode cL_law 624 = .ok (.iconst 1, 1) := by decide +kernel
theorem dL_law_625 : decode cL_law 625 = .ok (.iadd, 1) := by decide +kernel
theorem dL_law_626 : decode cL_law 626 = .ok (.iaload, 1) := by decide +kernel
theorem dL_law_627 : decode cL_law 627 = .ok (.aload_n 0, 1) := by decide +kernel
theorem dL_law_628 : decode cL_law 628 = .ok (.iload 4, 2) := by decide +kernel
theorem dL_law_630 : decode cL_law 630 = .ok (.iconst 2, 1) := by decide +kernel
theorem dL_law_631 : decode cL_law 631 = .ok (.iadd, 1) := by decide +kernel
theorem dL_law_632 : decode cL_law 632 = .ok (.iaload, 1) := by decide +kernel
theorem dL_law_633 : decode cL_law 633 = .ok (.invokevirtual 71, 3) := by decide +kernel
theorem dL_law_636 : decode cL_law 636 = .ok (.aload_n 2, 1) := by decide +kernel
theorem dL_law_637 : decode cL_law 637 = .ok (.aload_n 0, 1) := by decide +kernel
theorem dL_law_638 : decode cL_law 638 = .ok (.iload 4, 2) := by decide +kernel
theorem dL_law_640 : decode cL_law 640 = .ok (.iconst 1, 1) := by decide +kernel
theorem dL_law_641 : decode cL_law 641 = .ok (.iadd, 1) := by decide +kernel
theorem dL_law_642 : decode cL_law 642 = .ok (.iaload, 1) := by decide +kernel
theorem dL_law_643 : decode cL_law 643 = .ok (.aload_n 0, 1) := by decide +kernel
theorem dL_law_644 : decode cL_law 644 = .ok (.iload 4, 2) := by decide +kernel
theorem dL_law_646 : decode cL_law 646 = .ok (.iconst 2, 1) := by decide +kernel
theorem dL_law_647 : decode cL_law 647 = .ok (.iadd, 1) := by decide +kernel
theorem dL_law_648 : decode cL_law 648 = .ok (.iaload, 1) := by decide +kernel
theorem dL_law_649 : decode cL_law 649 = .ok (.invokevirtual 74, 3) := by decide +kernel
theorem dL_law_652 : decode cL_law 652 = .ok (.if_icmp .eq 1066, 3) := by decide +kernel
theorem dL_law_655 : decode cL_law 655 = .ok (.iconst 0, 1) := by decide +kernel
theorem dL_law_656 : decode cL_law 656 = .ok (.ireturn, 1) := by decide +kernel
set_option maxHeartbeats 4000000 in
set_option maxRecDepth 100000 in
theorem lc_12 {p : Program} {l : Launch} {e : Env} {s : State} {m : MethodId} {below : List Frame} {meth : Method} {c : Code} {b L : Nat} {xs : Nat → Int32} {E : EE} {cL : ClassId} {ad qa qe : Nat → Nat} {sh rg : Nat → Option Nat} {rwf : Nat → Nat} {σ : Nat → Nat} (hC : LC p l s m meth c b L xs E cL rg rwf) {i : Nat} (hi6 : i + 6 ≤ L) {cells slots : Nat} (hcs : cells + 1 ≤ 601024 ∧ slots + 6 ≤ 7293034) (kk : Nx p l e s m below meth c b E cL ad qa qe sh rg rwf σ (nI i) (cells + 1) (slots + 6) 1718) : Nx p l e s m below meth c b E cL ad qa qe sh rg rwf σ (nI i) cells slots 620 := by
  intro h k f r m y mv st P ne dy mh mk mf mr mm ms mo mt mp mn md gh gk gf gr gm gs go gt gp gn gd img rp Y V el ho ki fi so si S M I B hi pl ra re nu mx sd K KK KF SO SI EL th og hI H locs ls hP hD hS hl
  obtain ⟨C0, hL, hG, hKL, hTX, hrg⟩ := id hC
  obtain ⟨hx, hb, hr, hml, hown, hts, hX, hbl, hlocks, hgv⟩ := id C0
  have hF := lw_fix C0
  obtain ⟨hSt, hq, hhi, him, hk9⟩ := id hI
  have hA : ∀ q : Nat, s.heap.size ≤ q → (fun q : Nat => s.heap.size ≤ q) q := fun _ h => h
  have hc0 : cells + 0 ≤ room_1.cells ∧ slots + 0 ≤ room_1.slots := ⟨Nat.le_of_succ_le hcs.1, by have := hcs.2; show slots + 0 ≤ 7293034; omega⟩
  obtain ⟨res, ⟨w1, w2, w3, w4, w5, w6, w7, w8, w9, w10, w11⟩, M1, e1, e2⟩ := ag_then hSt mh mk mf mr mm ms mo mt mp mn md M (xs (i + 1)) (xs (i + 2)) (N := 2000) (by decide)
  refine lv_aload_n hx hb dL_law_620 rfl (lv_at hl 2 rfl) ?_
  refine lw_ld hC hi6 (j := 1) (by decide) hS hl dL_law_621 dL_law_622 dL_law_624 dL_law_625 dL_law_626 ?_
  refine lw_ld hC hi6 (j := 2) (by decide) hS hl dL_law_627 dL_law_628 dL_law_630 dL_law_631 dL_law_632 ?_
  refine wrVj [0, 1, 2, 3, 4, 5, 6, 7, 8, 9, 10, 11, 12, 13, 14] [15, 16, 17, 18, 19, 20, 21, 22, 23, 24, 25, 26, 27, 28, 29, 30, 31, 32, 33, 34, 35, 36, 37, 38, 39, 40, 41, 42, 43, 44, 45, 46, 47, 48, 49, 50, 51, 52, 53, 54, 55, 56, 57, 58, 59, 60, 61, 62] 3 0 (As := [.int (xs (i + 1)), .int (xs (i + 2))]) (rest := []) (st1 := [.int res]) hF q_X9_then kw_2_160 (c_X9_then l E (ad 0) (ad 1) (ad 8) (ad 15) (ad 22) (ad 32) (ad 2) (ad 3) (ad 4) (ad 5) (ad 6) (ad 7) (ad 9) (ad 10) (ad 11) (ad 12) (ad 13) (ad 14) img h k f r m y mv st (nI P) ne dy mh mk mf mr mm ms mo mt mp mn md (xs (i + 1)) (xs (i + 2)) 2000 res w1 w2 w3 w4 w5 w6 w7 w8 w9 w10 w11 e1) ⟨rfl, rfl⟩ ⟨Nat.le_of_ble_eq_true rfl, Nat.le_of_ble_eq_true rfl⟩ hc0 hP hD hS hA rfl rfl rfl hG jnNM rfl hl.1 rfl (Nat.le_of_ble_eq_true rfl) dL_law_633 rfl (fun H locs hP hD hS => ?_)
  refine lv_aload_n hx hb dL_law_636 rfl (lv_at hl 3 rfl) ?_
  refine lw_ld hC hi6 (j := 1) (by decide) hS hl dL_law_637 dL_law_638 dL_law_640 dL_law_641 dL_law_642 ?_
  refine lw_ld hC hi6 (j := 2) (by decide) hS hl dL_law_643 dL_law_644 dL_law_646 dL_law_647 dL_law_648 ?_
  refine wrVj [49, 50, 51, 52, 53, 54, 55, 56, 57, 58, 59, 60, 61] [0, 1, 2, 3, 4, 5, 6, 7, 8, 9, 10, 11, 12, 13, 14, 15, 16, 17, 18, 19, 20, 21, 22, 23, 24, 25, 26, 27, 28, 29, 30, 31, 32, 33, 34, 35, 36, 37, 38, 39, 40, 41, 42, 43, 44, 45, 46, 47, 48, 62] 4 0 (As := [.int (xs (i + 1)), .int (xs (i + 2))]) (rest := [.int res]) (st1 := [.int res, .int res]) hF q_X10_then kw_5_112 (c_X10_then l E (ad 49) (ad 50) (ad 51) (ad 52) (ad 53) (ad 54) (ad 55) (ad 56) (ad 57) (ad 58) (ad 59) (ad 60) (ad 61) S M I B hi pl ra re nu mx sd K KK KF SO SI EL th (xs (i + 1)) (xs (i + 2)) 2000 res M1 e2) ⟨rfl, rfl⟩ ⟨Nat.le_of_ble_eq_true rfl, Nat.le_of_ble_eq_true rfl⟩ hc0 hP hD hS hA rfl rfl rfl hG jnMo rfl hl.1 rfl (Nat.le_of_ble_eq_true rfl) dL_law_649 rfl (fun H locs hP hD hS => ?_)
  refine lv_icmp_eq (tgt := 1718) hx hb dL_law_652 (by decide) (fun _ => ?_) (fun h => absurd rfl h)
  exact w_widen (Nat.le_succ _) (Nat.le_add_right _ 6) (kk h k f r m y mv st P ne dy w6 w7 w8 w9 w10 w11 w1 w2 w3 w4 w5 gh gk gf gr gm gs go gt gp gn gd img rp Y V el ho ki fi so si S M1 I B hi pl ra re nu mx sd K KK KF SO SI EL th og hI H locs ls hP hD hS hl)
theorem dL_law_657 : decode cL_law 657 = .ok (.aload_n 1, 1) := by decide +kernel
theorem dL_law_658 : decode cL_law 658 = .ok (.invokevirtual 75, 3) := by decide +kernel
theorem dL_law_661 : decode cL_law 661 = .ok (.aload_n 2, 1) := by decide +kernel
theorem dL_law_662 : decode cL_law 662 = .ok (.invokevirtual 79, 3) := by decide +kernel
theorem dL_law_665 : decode cL_law 665 = .ok (.if_icmp .eq 1053, 3) := by decide +kernel
theorem dL_law_668 : decode cL_law 668 = .ok (.iconst 0, 1) := by decide +kernel
theorem dL_law_669 : decode cL_law 669 = .ok (.ireturn, 1) := by decide +kernel
set_option maxHeartbeats 4000000 in
set_option maxRecDepth 100000 in
theorem lc_13 {p : Program} {l : Launch} {e : Env} {s : State} {m : MethodId} {below : List Frame} {meth : Method} {c : Code} {b L : Nat} {xs : Nat → Int32} {E : EE} {cL : ClassId} {ad qa qe : Nat → Nat} {sh rg : Nat → Option Nat} {rwf : Nat → Nat} {σ : Nat → Nat} (hC : LC p l s m meth c b L xs E cL rg rwf) {i : Nat} (hi6 : i + 6 ≤ L) {cells slots : Nat} (hcs : cells + 1 ≤ 601024 ∧ slots + 6 ≤ 7293034) (kk : Nx p l e s m below meth c b E cL ad qa qe sh rg rwf σ (nI i) (cells + 1) (slots + 6) 1718) : Nx p l e s m below meth c b E cL ad qa qe sh rg rwf σ (nI i) cells slots 657 := by
  intro h k f r m y mv st P ne dy mh mk mf mr mm ms mo mt mp mn md gh gk gf gr gm gs go gt gp gn gd img rp Y V el ho ki fi so si S M I B hi pl ra re nu mx sd K KK KF SO SI EL th og hI H locs ls hP hD hS hl
  obtain ⟨C0, hL, hG, hKL, hTX, hrg⟩ := id hC
  obtain ⟨hx, hb, hr, hml, hown, hts, hX, hbl, hlocks, hgv⟩ := id C0
  have hF := lw_fix C0
  obtain ⟨hSt, hq, hhi, him, hk9⟩ := id hI
  have hA : ∀ q : Nat, s.heap.size ≤ q → (fun q : Nat => s.heap.size ≤ q) q := fun _ h => h
  have hc0 : cells + 0 ≤ room_1.cells ∧ slots + 0 ≤ room_1.slots := ⟨Nat.le_of_succ_le hcs.1, by have := hcs.2; show slots + 0 ≤ 7293034; omega⟩
  obtain ⟨res, ⟨w1, w2, w3, w4, w5, w6, w7, w8, w9, w10, w11⟩, M1, e1, e2⟩ := ag_when hSt ms M (N := 2000) (by decide)
  refine lv_aload_n hx hb dL_law_657 rfl (lv_at hl 2 rfl) ?_
  refine wrVj [0, 1, 2, 3, 4, 5, 6, 7, 8, 9, 10, 11, 12, 13, 14] [15, 16, 17, 18, 19, 20, 21, 22, 23, 24, 25, 26, 27, 28, 29, 30, 31, 32, 33, 34, 35, 36, 37, 38, 39, 40, 41, 42, 43, 44, 45, 46, 47, 48, 49, 50, 51, 52, 53, 54, 55, 56, 57, 58, 59, 60, 61, 62] 3 0 (As := []) (rest := []) (st1 := [.int res]) hF q_X9_when kw_2_164 (c_X9_when l E (ad 0) (ad 1) (ad 8) (ad 15) (ad 22) (ad 32) (ad 2) (ad 3) (ad 4) (ad 5) (ad 6) (ad 7) (ad 9) (ad 10) (ad 11) (ad 12) (ad 13) (ad 14) img h k f r m y mv st (nI P) ne dy mh mk mf mr mm ms mo mt mp mn md 2000 res w1 w2 w3 w4 w5 w6 w7 w8 w9 w10 w11 e1) ⟨rfl, rfl⟩ ⟨Nat.le_of_ble_eq_true rfl, Nat.le_of_ble_eq_true rfl⟩ hc0 hP hD hS hA rfl rfl rfl hG jnNM rfl hl.1 rfl (Nat.le_of_ble_eq_true rfl) dL_law_658 rfl (fun H locs hP hD hS => ?_)
  refine lv_aload_n hx hb dL_law_661 rfl (lv_at hl 3 rfl) ?_
  refine wrVj [49, 50, 51, 52, 53, 54, 55, 56, 57, 58, 59, 60, 61] [0, 1, 2, 3, 4, 5, 6, 7, 8, 9, 10, 11, 12, 13, 14, 15, 16, 17, 18, 19, 20, 21, 22, 23, 24, 25, 26, 27, 28, 29, 30, 31, 32, 33, 34, 35, 36, 37, 38, 39, 40, 41, 42, 43, 44, 45, 46, 47, 48, 62] 4 0 (As := []) (rest := [.int res]) (st1 := [.int res, .int res]) hF q_X10_when kw_5_116 (c_X10_when l E (ad 49) (ad 50) (ad 51) (ad 52) (ad 53) (ad 54) (ad 55) (ad 56) (ad 57) (ad 58) (ad 59) (ad 60) (ad 61) S M I B hi pl ra re nu mx sd K KK KF SO SI EL th 2000 res M1 e2) ⟨rfl, rfl⟩ ⟨Nat.le_of_ble_eq_true rfl, Nat.le_of_ble_eq_true rfl⟩ hc0 hP hD hS hA rfl rfl rfl hG jnMo rfl hl.1 rfl (Nat.le_of_ble_eq_true rfl) dL_law_662 rfl (fun H locs hP hD hS => ?_)
  refine lv_icmp_eq (tgt := 1718) hx hb dL_law_665 (by decide) (fun _ => ?_) (fun h => absurd rfl h)
  exact w_widen (Nat.le_succ _) (Nat.le_add_right _ 6) (kk h k f r m y mv st P ne dy w6 w7 w8 w9 w10 w11 w1 w2 w3 w4 w5 gh gk gf gr gm gs go gt gp gn gd img rp Y V el ho ki fi so si S M1 I B hi pl ra re nu mx sd K KK KF SO SI EL th og hI H locs ls hP hD hS hl)
theorem dL_law_670 : decode cL_law 670 = .ok (.aload_n 1, 1) := by decide +kernel
theorem dL_law_671 : decode cL_law 671 = .ok (.aload_n 0, 1) := by decide +kernel
theorem dL_law_672 : decode cL_law 672 = .ok (.iload 4, 2) := by decide +kernel
theorem dL_law_674 : decode cL_law 674 = .ok (.iconst 1, 1) := by decide +kernel
theorem dL_law_675 : decode cL_law 675 = .ok (.iadd, 1) := by decide +kernel
theorem dL_law_676 : decode cL_law 676 = .ok (.iaload, 1) := by decide +kernel
theorem dL_law_677 : decode cL_law 677 = .ok (.invokevirtual 80, 3) := by decide +kernel
theorem dL_law_680 : decode cL_law 680 = .ok (.aload_n 2, 1) := by decide +kernel
theorem dL_law_681 : decode cL_law 681 = .ok (.aload_n 0, 1) := by decide +kernel
theorem dL_law_682 : decode cL_law 682 = .ok (.iload 4, 2) := by decide +kernel
theorem dL_law_684 : decode cL_law 684 = .ok (.iconst 1, 1) := by decide +kernel
theorem dL_law_685 : decode cL_law 685 = .ok (.iadd, 1) := by decide +kernel
theorem dL_law_686 : decode cL_law 686 = .ok (.iaload, 1) := by decide +kernel
theorem dL_law_687 : decode cL_law 687 = .ok (.invokevirtual 83, 3) := by decide +kernel
theorem dL_law_690 : decode cL_law 690 = .ok (.if_icmp .eq 1028, 3) := by decide +kernel
theorem dL_law_693 : decode cL_law 693 = .ok (.iconst 0, 1) := by decide +kernel
theorem dL_law_694 : decode cL_law 694 = .ok (.ireturn, 1) := by decide +kernel
set_option maxHeartbeats 4000000 in
set_option maxRecDepth 100000 in
theorem lc_14 {p : Program} {l : Launch} {e : Env} {s : State} {m : MethodId} {below : List Frame} {meth : Method} {c : Code} {b L : Nat} {xs : Nat → Int32} {E : EE} {cL : ClassId} {ad qa qe : Nat → Nat} {sh rg : Nat → Option Nat} {rwf : Nat → Nat} {σ : Nat → Nat} (hC : LC p l s m meth c b L xs E cL rg rwf) {i : Nat} (hi6 : i + 6 ≤ L) {cells slots : Nat} (hcs : cells + 1 ≤ 601024 ∧ slots + 6 ≤ 7293034) (kk : Nx p l e s m below meth c b E cL ad qa qe sh rg rwf σ (nI i) (cells + 1) (slots + 6) 1718) : Nx p l e s m below meth c b E cL ad qa qe sh rg rwf σ (nI i) cells slots 670 := by
  intro h k f r m y mv st P ne dy mh mk mf mr mm ms mo mt mp mn md gh gk gf gr gm gs go gt gp gn gd img rp Y V el ho ki fi so si S M I B hi pl ra re nu mx sd K KK KF SO SI EL th og hI H locs ls hP hD hS hl
  obtain ⟨C0, hL, hG, hKL, hTX, hrg⟩ := id hC
  obtain ⟨hx, hb, hr, hml, hown, hts, hX, hbl, hlocks, hgv⟩ := id C0
  have hF := lw_fix C0
  obtain ⟨hSt, hq, hhi, him, hk9⟩ := id hI
  have hA : ∀ q : Nat, s.heap.size ≤ q → (fun q : Nat => s.heap.size ≤ q) q := fun _ h => h
  have hc0 : cells + 0 ≤ room_1.cells ∧ slots + 0 ≤ room_1.slots := ⟨Nat.le_of_succ_le hcs.1, by have := hcs.2; show slots + 0 ≤ 7293034; omega⟩
  obtain ⟨res, ⟨w1, w2, w3, w4, w5, w6, w7, w8, w9, w10, w11⟩, M1, e1, e2⟩ := ag_holds hSt mh mk mf mr mm ms mo mt mp mn md M (xs (i + 1)) (N := 2000) (by decide)
  refine lv_aload_n hx hb dL_law_670 rfl (lv_at hl 2 rfl) ?_
  refine lw_ld hC hi6 (j := 1) (by decide) hS hl dL_law_671 dL_law_672 dL_law_674 dL_law_675 dL_law_676 ?_
  refine wrVj [0, 1, 2, 3, 4, 5, 6, 7, 8, 9, 10, 11, 12, 13, 14] [15, 16, 17, 18, 19, 20, 21, 22, 23, 24, 25, 26, 27, 28, 29, 30, 31, 32, 33, 34, 35, 36, 37, 38, 39, 40, 41, 42, 43, 44, 45, 46, 47, 48, 49, 50, 51, 52, 53, 54, 55, 56, 57, 58, 59, 60, 61, 62] 3 0 (As := [.int (xs (i + 1))]) (rest := []) (st1 := [.int res]) hF q_X9_holds kw_2_170 (c_X9_holds l E (ad 0) (ad 1) (ad 8) (ad 15) (ad 22) (ad 32) (ad 2) (ad 3) (ad 4) (ad 5) (ad 6) (ad 7) (ad 9) (ad 10) (ad 11) (ad 12) (ad 13) (ad 14) img h k f r m y mv st (nI P) ne dy mh mk mf mr mm ms mo mt mp mn md (xs (i + 1)) 2000 res w1 w2 w3 w4 w5 w6 w7 w8 w9 w10 w11 e1) ⟨rfl, rfl⟩ ⟨Nat.le_of_ble_eq_true rfl, Nat.le_of_ble_eq_true rfl⟩ hc0 hP hD hS hA rfl rfl rfl hG jnNM rfl hl.1 rfl (Nat.le_of_ble_eq_true rfl) dL_law_677 rfl (fun H locs hP hD hS => ?_)
  refine lv_aload_n hx hb dL_law_680 rfl (lv_at hl 3 rfl) ?_
  refine lw_ld hC hi6 (j := 1) (by decide) hS hl dL_law_681 dL_law_682 dL_law_684 dL_law_685 dL_law_686 ?_
  refine wrVj [49, 50, 51, 52, 53, 54, 55, 56, 57, 58, 59, 60, 61] [0, 1, 2, 3, 4, 5, 6, 7, 8, 9, 10, 11, 12, 13, 14, 15, 16, 17, 18, 19, 20, 21, 22, 23, 24, 25, 26, 27, 28, 29, 30, 31, 32, 33, 34, 35, 36, 37, 38, 39, 40, 41, 42, 43, 44, 45, 46, 47, 48, 62] 4 0 (As := [.int (xs (i + 1))]) (rest := [.int res]) (st1 := [.int res, .int res]) hF q_X10_holds kw_5_120 (c_X10_holds l E (ad 49) (ad 50) (ad 51) (ad 52) (ad 53) (ad 54) (ad 55) (ad 56) (ad 57) (ad 58) (ad 59) (ad 60) (ad 61) S M I B hi pl ra re nu mx sd K KK KF SO SI EL th (xs (i + 1)) 2000 res M1 e2) ⟨rfl, rfl⟩ ⟨Nat.le_of_ble_eq_true rfl, Nat.le_of_ble_eq_true rfl⟩ hc0 hP hD hS hA rfl rfl rfl hG jnMo rfl hl.1 rfl (Nat.le_of_ble_eq_true rfl) dL_law_687 rfl (fun H locs hP hD hS => ?_)
  refine lv_icmp_eq (tgt := 1718) hx hb dL_law_690 (by decide) (fun _ => ?_) (fun h => absurd rfl h)
  exact w_widen (Nat.le_succ _) (Nat.le_add_right _ 6) (kk h k f r m y mv st P ne dy w6 w7 w8 w9 w10 w11 w1 w2 w3 w4 w5 gh gk gf gr gm gs go gt gp gn gd img rp Y V el ho ki fi so si S M1 I B hi pl ra re nu mx sd K KK KF SO SI EL th og hI H locs ls hP hD hS hl)
theorem dL_law_695 : decode cL_law 695 = .ok (.aload_n 1, 1) := by decide +kernel
theorem dL_law_696 : decode cL_law 696 = .ok (.aload_n 0, 1) := by decide +kernel
theorem dL_law_697 : decode cL_law 697 = .ok (.iload 4, 2) := by decide +kernel
theorem dL_law_699 : decode cL_law 699 = .ok (.iconst 1, 1) := by decide +kernel
theorem dL_law_700 : decode cL_law 700 = .ok (.iadd, 1) := by decide +kernel
theorem dL_law_701 : decode cL_law 701 = .ok (.iaload, 1) := by decide +kernel
theorem dL_law_702 : decode cL_law 702 = .ok (.invokevirtual 84, 3) := by decide +kernel
theorem dL_law_705 : decode cL_law 705 = .ok (.aload_n 2, 1) := by decide +kernel
theorem dL_law_706 : decode cL_law 706 = .ok (.aload_n 0, 1) := by decide +kernel
theorem dL_law_707 : decode cL_law 707 = .ok (.iload 4, 2) := by decide +kernel
theorem dL_law_709 : decode cL_law 709 = .ok (.iconst 1, 1) := by decide +kernel
theorem dL_law_710 : decode cL_law 710 = .ok (.iadd, 1) := by decide +kernel
theorem dL_law_711 : decode cL_law 711 = .ok (.iaload, 1) := by decide +kernel
theorem dL_law_712 : decode cL_law 712 = .ok (.invokevirtual 87, 3) := by decide +kernel
theorem dL_law_715 : decode cL_law 715 = .ok (.if_icmp .eq 1003, 3) := by decide +kernel
theorem dL_law_718 : decode cL_law 718 = .ok (.iconst 0, 1) := by decide +kernel
theorem dL_law_719 : decode cL_law 719 = .ok (.ireturn, 1) := by decide +kernel
set_option maxHeartbeats 4000000 in
set_option maxRecDepth 100000 in
theorem lc_15 {p : Program} {l : Launch} {e : Env} {s : State} {m : MethodId} {below : List Frame} {meth : Method} {c : Code} {b L : Nat} {xs : Nat → Int32} {E : EE} {cL : ClassId} {ad qa qe : Nat → Nat} {sh rg : Nat → Option Nat} {rwf : Nat → Nat} {σ : Nat → Nat} (hC : LC p l s m meth c b L xs E cL rg rwf) {i : Nat} (hi6 : i + 6 ≤ L) {cells slots : Nat} (hcs : cells + 1 ≤ 601024 ∧ slots + 6 ≤ 7293034) (kk : Nx p l e s m below meth c b E cL ad qa qe sh rg rwf σ (nI i) (cells + 1) (slots + 6) 1718) : Nx p l e s m below meth c b E cL ad qa qe sh rg rwf σ (nI i) cells slots 695 := by
  intro h k f r m y mv st P ne dy mh mk mf mr mm ms mo mt mp mn md gh gk gf gr gm gs go gt gp gn gd img rp Y V el ho ki fi so si S M I B hi pl ra re nu mx sd K KK KF SO SI EL th og hI H locs ls hP hD hS hl
  obtain ⟨C0, hL, hG, hKL, hTX, hrg⟩ := id hC
  obtain ⟨hx, hb, hr, hml, hown, hts, hX, hbl, hlocks, hgv⟩ := id C0
  have hF := lw_fix C0
  obtain ⟨hSt, hq, hhi, him, hk9⟩ := id hI
  have hA : ∀ q : Nat, s.heap.size ≤ q → (fun q : Nat => s.heap.size ≤ q) q := fun _ h => h
  have hc0 : cells + 0 ≤ room_1.cells ∧ slots + 0 ≤ room_1.slots := ⟨Nat.le_of_succ_le hcs.1, by have := hcs.2; show slots + 0 ≤ 7293034; omega⟩
  obtain ⟨res, e1, e2⟩ := ag_could hSt (xs (i + 1)) (N := 2000) (by decide)
  refine lv_aload_n hx hb dL_law_695 rfl (lv_at hl 2 rfl) ?_
  refine lw_ld hC hi6 (j := 1) (by decide) hS hl dL_law_696 dL_law_697 dL_law_699 dL_law_700 dL_law_701 ?_
  refine rdV 3 0 (As := [.int (xs (i + 1))]) (rest := []) (st1 := [.int res]) hF q_X9_could kw_2_180 (c_X9_could l E (ad 0) (ad 1) (ad 8) (ad 15) (ad 22) (ad 32) (ad 2) (ad 3) (ad 4) (ad 5) (ad 6) (ad 7) img h k f r m y mv st (nI P) ne dy (xs (i + 1)) 2000 res e1) ⟨rfl, rfl⟩ ⟨Nat.le_of_ble_eq_true rfl, Nat.le_of_ble_eq_true rfl⟩ hc0 (cut_P hP [0, 1, 2, 3, 4, 5, 6, 7] cuN) rfl rfl rfl hG rfl hl.1 rfl (Nat.le_of_ble_eq_true rfl) dL_law_702 rfl ?_
  refine lv_aload_n hx hb dL_law_705 rfl (lv_at hl 3 rfl) ?_
  refine lw_ld hC hi6 (j := 1) (by decide) hS hl dL_law_706 dL_law_707 dL_law_709 dL_law_710 dL_law_711 ?_
  refine rdV 4 0 (As := [.int (xs (i + 1))]) (rest := [.int res]) (st1 := [.int res, .int res]) hF q_X10_could kw_5_132 (c_X10_could l E (ad 49) (ad 50) (ad 51) (ad 52) (ad 53) (ad 54) (ad 55) (ad 56) (ad 57) (ad 58) (ad 59) (ad 60) (ad 61) S M I B hi pl ra re nu mx sd K KK KF SO SI EL th (xs (i + 1)) 2000 res e2) ⟨rfl, rfl⟩ ⟨Nat.le_of_ble_eq_true rfl, Nat.le_of_ble_eq_true rfl⟩ hc0 (cut_P hP [49, 50, 51, 52, 53, 54, 55, 56, 57, 58, 59, 60, 61] cuMo) rfl rfl rfl hG rfl hl.1 rfl (Nat.le_of_ble_eq_true rfl) dL_law_712 rfl ?_
  refine lv_icmp_eq (tgt := 1718) hx hb dL_law_715 (by decide) (fun _ => ?_) (fun h => absurd rfl h)
  exact w_widen (Nat.le_succ _) (Nat.le_add_right _ 6) (kk h k f r m y mv st P ne dy mh mk mf mr mm ms mo mt mp mn md gh gk gf gr gm gs go gt gp gn gd img rp Y V el ho ki fi so si S M I B hi pl ra re nu mx sd K KK KF SO SI EL th og hI H locs ls hP hD hS hl)
theorem dL_law_720 : decode cL_law 720 = .ok (.aload_n 1, 1) := by decide +kernel
theorem dL_law_721 : decode cL_law 721 = .ok (.aload_n 0, 1) := by decide +kernel
theorem dL_law_722 : decode cL_law 722 = .ok (.iload 4, 2) := by decide +kernel
theorem dL_law_724 : decode cL_law 724 = .ok (.iconst 1, 1) := by decide +kernel
theorem dL_law_725 : decode cL_law 725 = .ok (.iadd, 1) := by decide +kernel
theorem dL_law_726 : decode cL_law 726 = .ok (.iaload, 1) := by decide +kernel
theorem dL_law_727 : decode cL_law 727 = .ok (.aload_n 0, 1) := by decide +kernel
theorem dL_law_728 : decode cL_law 728 = .ok (.iload 4, 2) := by decide +kernel
theorem dL_law_730 : decode cL_law 730 = .ok (.iconst 2, 1) := by decide +kernel
theorem dL_law_731 : decode cL_law 731 = .ok (.iadd, 1) := by decide +kernel
theorem dL_law_732 : decode cL_law 732 = .ok (.iaload, 1) := by decide +kernel
theorem dL_law_733 : decode cL_law 733 = .ok (.invokevirtual 88, 3) := by decide +kernel
theorem dL_law_736 : decode cL_law 736 = .ok (.aload_n 2, 1) := by decide +kernel
theorem dL_law_737 : decode cL_law 737 = .ok (.aload_n 0, 1) := by decide +kernel
theorem dL_law_738 : decode cL_law 738 = .ok (.iload 4, 2) := by decide +kernel
theorem dL_law_740 : decode cL_law 740 = .ok (.iconst 1, 1) := by decide +kernel
theorem dL_law_741 : decode cL_law 741 = .ok (.iadd, 1) := by decide +kernel
theorem dL_law_742 : decode cL_law 742 = .ok (.iaload, 1) := by decide +kernel
theorem dL_law_743 : decode cL_law 743 = .ok (.aload_n 0, 1) := by decide +kernel
theorem dL_law_744 : decode cL_law 744 = .ok (.iload 4, 2) := by decide +kernel
theorem dL_law_746 : decode cL_law 746 = .ok (.iconst 2, 1) := by decide +kernel
theorem dL_law_747 : decode cL_law 747 = .ok (.iadd, 1) := by decide +kernel
theorem dL_law_748 : decode cL_law 748 = .ok (.iaload, 1) := by decide +kernel
theorem dL_law_749 : decode cL_law 749 = .ok (.invokevirtual 91, 3) := by decide +kernel
theorem dL_law_752 : decode cL_law 752 = .ok (.lcmp, 1) := by decide +kernel
theorem dL_law_753 : decode cL_law 753 = .ok (.ifCond .eq 965, 3) := by decide +kernel
theorem dL_law_756 : decode cL_law 756 = .ok (.iconst 0, 1) := by decide +kernel
theorem dL_law_757 : decode cL_law 757 = .ok (.ireturn, 1) := by decide +kernel
set_option maxHeartbeats 4000000 in
set_option maxRecDepth 100000 in
theorem lc_16 {p : Program} {l : Launch} {e : Env} {s : State} {m : MethodId} {below : List Frame} {meth : Method} {c : Code} {b L : Nat} {xs : Nat → Int32} {E : EE} {cL : ClassId} {ad qa qe : Nat → Nat} {sh rg : Nat → Option Nat} {rwf : Nat → Nat} {σ : Nat → Nat} (hC : LC p l s m meth c b L xs E cL rg rwf) {i : Nat} (hi6 : i + 6 ≤ L) {cells slots : Nat} (hcs : cells + 1 ≤ 601024 ∧ slots + 6 ≤ 7293034) (kk : Nx p l e s m below meth c b E cL ad qa qe sh rg rwf σ (nI i) (cells + 1) (slots + 6) 1718) : Nx p l e s m below meth c b E cL ad qa qe sh rg rwf σ (nI i) cells slots 720 := by
  intro h k f r m y mv st P ne dy mh mk mf mr mm ms mo mt mp mn md gh gk gf gr gm gs go gt gp gn gd img rp Y V el ho ki fi so si S M I B hi pl ra re nu mx sd K KK KF SO SI EL th og hI H locs ls hP hD hS hl
  obtain ⟨C0, hL, hG, hKL, hTX, hrg⟩ := id hC
  obtain ⟨hx, hb, hr, hml, hown, hts, hX, hbl, hlocks, hgv⟩ := id C0
  have hF := lw_fix C0
  obtain ⟨hSt, hq, hhi, him, hk9⟩ := id hI
  have hA : ∀ q : Nat, s.heap.size ≤ q → (fun q : Nat => s.heap.size ≤ q) q := fun _ h => h
  have hc0 : cells + 0 ≤ room_1.cells ∧ slots + 0 ≤ room_1.slots := ⟨Nat.le_of_succ_le hcs.1, by have := hcs.2; show slots + 0 ≤ 7293034; omega⟩
  obtain ⟨res, e1, e2⟩ := ag_power hSt (xs (i + 1)) (xs (i + 2)) (N := 2000) (by decide)
  refine lv_aload_n hx hb dL_law_720 rfl (lv_at hl 2 rfl) ?_
  refine lw_ld hC hi6 (j := 1) (by decide) hS hl dL_law_721 dL_law_722 dL_law_724 dL_law_725 dL_law_726 ?_
  refine lw_ld hC hi6 (j := 2) (by decide) hS hl dL_law_727 dL_law_728 dL_law_730 dL_law_731 dL_law_732 ?_
  refine rdV 3 0 (As := [.int (xs (i + 1)), .int (xs (i + 2))]) (rest := []) (st1 := [.long res]) hF q_X9_power kw_2_196 (c_X9_power l E (ad 0) (ad 1) (ad 8) (ad 15) (ad 22) (ad 32) (ad 2) (ad 3) (ad 4) (ad 5) (ad 6) (ad 7) img h k f r m y mv st (nI P) ne dy (xs (i + 1)) (xs (i + 2)) 2000 res e1) ⟨rfl, rfl⟩ ⟨Nat.le_of_ble_eq_true rfl, Nat.le_of_ble_eq_true rfl⟩ hc0 (cut_P hP [0, 1, 2, 3, 4, 5, 6, 7] cuN) rfl rfl rfl hG rfl hl.1 rfl (Nat.le_of_ble_eq_true rfl) dL_law_733 rfl ?_
  refine lv_aload_n hx hb dL_law_736 rfl (lv_at hl 3 rfl) ?_
  refine lw_ld hC hi6 (j := 1) (by decide) hS hl dL_law_737 dL_law_738 dL_law_740 dL_law_741 dL_law_742 ?_
  refine lw_ld hC hi6 (j := 2) (by decide) hS hl dL_law_743 dL_law_744 dL_law_746 dL_law_747 dL_law_748 ?_
  refine rdV 4 0 (As := [.int (xs (i + 1)), .int (xs (i + 2))]) (rest := [.long res]) (st1 := [.long res, .long res]) hF q_X10_power kw_5_144 (c_X10_power l E (ad 49) (ad 50) (ad 51) (ad 52) (ad 53) (ad 54) (ad 55) (ad 56) (ad 57) (ad 58) (ad 59) (ad 60) (ad 61) S M I B hi pl ra re nu mx sd K KK KF SO SI EL th (xs (i + 1)) (xs (i + 2)) 2000 res e2) ⟨rfl, rfl⟩ ⟨Nat.le_of_ble_eq_true rfl, Nat.le_of_ble_eq_true rfl⟩ hc0 (cut_P hP [49, 50, 51, 52, 53, 54, 55, 56, 57, 58, 59, 60, 61] cuMo) rfl rfl rfl hG rfl hl.1 rfl (Nat.le_of_ble_eq_true rfl) dL_law_749 rfl ?_
  refine lw_lcmp hx hb dL_law_752 ?_
  refine lv_if_eq (tgt := 1718) hx hb dL_law_753 (by decide) (fun _ => ?_) (fun h => absurd rfl h)
  exact w_widen (Nat.le_succ _) (Nat.le_add_right _ 6) (kk h k f r m y mv st P ne dy mh mk mf mr mm ms mo mt mp mn md gh gk gf gr gm gs go gt gp gn gd img rp Y V el ho ki fi so si S M I B hi pl ra re nu mx sd K KK KF SO SI EL th og hI H locs ls hP hD hS hl)
theorem dL_law_758 : decode cL_law 758 = .ok (.aload_n 1, 1) := by decide +kernel
theorem dL_law_759 : decode cL_law 759 = .ok (.aload_n 0, 1) := by decide +kernel
theorem dL_law_760 : decode cL_law 760 = .ok (.iload 4, 2) := by decide +kernel
theorem dL_law_762 : decode cL_law 762 = .ok (.iconst 1, 1) := by decide +kernel
theorem dL_law_763 : decode cL_law 763 = .ok (.iadd, 1) := by decide +kernel
theorem dL_law_764 : decode cL_law 764 = .ok (.iaload, 1) := by decide +kernel
theorem dL_law_765 : decode cL_law 765 = .ok (.invokevirtual 92, 3) := by decide +kernel
theorem dL_law_768 : decode cL_law 768 = .ok (.aload_n 2, 1) := by decide +kernel
theorem dL_law_769 : decode cL_law 769 = .ok (.aload_n 0, 1) := by decide +kernel
theorem dL_law_770 : decode cL_law 770 = .ok (.iload 4, 2) := by decide +kernel
theorem dL_law_772 : decode cL_law 772 = .ok (.iconst 1, 1) := by decide +kernel
theorem dL_law_773 : decode cL_law 773 = .ok (.iadd, 1) := by decide +kernel
theorem dL_law_774 : decode cL_law 774 = .ok (.iaload, 1) := by decide +kernel
theorem dL_law_775 : decode cL_law 775 = .ok (.invokevirtual 95, 3) := by decide +kernel
theorem dL_law_778 : decode cL_law 778 = .ok (.if_icmp .eq 940, 3) := by decide +kernel
theorem dL_law_781 : decode cL_law 781 = .ok (.iconst 0, 1) := by decide +kernel
theorem dL_law_782 : decode cL_law 782 = .ok (.ireturn, 1) := by decide +kernel
set_option maxHeartbeats 4000000 in
set_option maxRecDepth 100000 in
theorem lc_17 {p : Program} {l : Launch} {e : Env} {s : State} {m : MethodId} {below : List Frame} {meth : Method} {c : Code} {b L : Nat} {xs : Nat → Int32} {E : EE} {cL : ClassId} {ad qa qe : Nat → Nat} {sh rg : Nat → Option Nat} {rwf : Nat → Nat} {σ : Nat → Nat} (hC : LC p l s m meth c b L xs E cL rg rwf) {i : Nat} (hi6 : i + 6 ≤ L) {cells slots : Nat} (hcs : cells + 1 ≤ 601024 ∧ slots + 6 ≤ 7293034) (kk : Nx p l e s m below meth c b E cL ad qa qe sh rg rwf σ (nI i) (cells + 1) (slots + 6) 1718) : Nx p l e s m below meth c b E cL ad qa qe sh rg rwf σ (nI i) cells slots 758 := by
  intro h k f r m y mv st P ne dy mh mk mf mr mm ms mo mt mp mn md gh gk gf gr gm gs go gt gp gn gd img rp Y V el ho ki fi so si S M I B hi pl ra re nu mx sd K KK KF SO SI EL th og hI H locs ls hP hD hS hl
  obtain ⟨C0, hL, hG, hKL, hTX, hrg⟩ := id hC
  obtain ⟨hx, hb, hr, hml, hown, hts, hX, hbl, hlocks, hgv⟩ := id C0
  have hF := lw_fix C0
  obtain ⟨hSt, hq, hhi, him, hk9⟩ := id hI
  have hA : ∀ q : Nat, s.heap.size ≤ q → (fun q : Nat => s.heap.size ≤ q) q := fun _ h => h
  have hc0 : cells + 0 ≤ room_1.cells ∧ slots + 0 ≤ room_1.slots := ⟨Nat.le_of_succ_le hcs.1, by have := hcs.2; show slots + 0 ≤ 7293034; omega⟩
  obtain ⟨res, e1, e2⟩ := ag_groups hSt (xs (i + 1)) (N := 2000) (by decide)
  refine lv_aload_n hx hb dL_law_758 rfl (lv_at hl 2 rfl) ?_
  refine lw_ld hC hi6 (j := 1) (by decide) hS hl dL_law_759 dL_law_760 dL_law_762 dL_law_763 dL_law_764 ?_
  refine rdV 3 0 (As := [.int (xs (i + 1))]) (rest := []) (st1 := [.int res]) hF q_X9_groups kw_2_226 (c_X9_groups l E (ad 0) (ad 1) (ad 8) (ad 15) (ad 22) (ad 32) (ad 2) (ad 3) (ad 4) (ad 5) (ad 6) (ad 7) img h k f r m y mv st (nI P) ne dy (xs (i + 1)) 2000 res e1) ⟨rfl, rfl⟩ ⟨Nat.le_of_ble_eq_true rfl, Nat.le_of_ble_eq_true rfl⟩ hc0 (cut_P hP [0, 1, 2, 3, 4, 5, 6, 7] cuN) rfl rfl rfl hG rfl hl.1 rfl (Nat.le_of_ble_eq_true rfl) dL_law_765 rfl ?_
  refine lv_aload_n hx hb dL_law_768 rfl (lv_at hl 3 rfl) ?_
  refine lw_ld hC hi6 (j := 1) (by decide) hS hl dL_law_769 dL_law_770 dL_law_772 dL_law_773 dL_law_774 ?_
  refine rdV 4 0 (As := [.int (xs (i + 1))]) (rest := [.int res]) (st1 := [.int res, .int res]) hF q_X10_groups kw_5_169 (c_X10_groups l E (ad 49) (ad 50) (ad 51) (ad 52) (ad 53) (ad 54) (ad 55) (ad 56) (ad 57) (ad 58) (ad 59) (ad 60) (ad 61) S M I B hi pl ra re nu mx sd K KK KF SO SI EL th (xs (i + 1)) 2000 res e2) ⟨rfl, rfl⟩ ⟨Nat.le_of_ble_eq_true rfl, Nat.le_of_ble_eq_true rfl⟩ hc0 (cut_P hP [49, 50, 51, 52, 53, 54, 55, 56, 57, 58, 59, 60, 61] cuMo) rfl rfl rfl hG rfl hl.1 rfl (Nat.le_of_ble_eq_true rfl) dL_law_775 rfl ?_
  refine lv_icmp_eq (tgt := 1718) hx hb dL_law_778 (by decide) (fun _ => ?_) (fun h => absurd rfl h)
  exact w_widen (Nat.le_succ _) (Nat.le_add_right _ 6) (kk h k f r m y mv st P ne dy mh mk mf mr mm ms mo mt mp mn md gh gk gf gr gm gs go gt gp gn gd img rp Y V el ho ki fi so si S M I B hi pl ra re nu mx sd K KK KF SO SI EL th og hI H locs ls hP hD hS hl)
