theorem dL_law_1007 : decode cL_law 1007 = .ok (.aload_n 1, 1) := by decide +kernel
theorem dL_law_1008 : decode cL_law 1008 = .ok (.aload_n 0, 1) := by decide +kernel
theorem dL_law_1009 : decode cL_law 1009 = .ok (.iload 4, 2) := by decide +kernel
theorem dL_law_1011 : decode cL_law 1011 = .ok (.iconst 1, 1) := by decide +kernel
theorem dL_law_1012 : decode cL_law 1012 = .ok (.iadd, 1) := by decide +kernel
theorem dL_law_1013 : decode cL_law 1013 = .ok (.iaload, 1) := by decide +kernel
theorem dL_law_1014 : decode cL_law 1014 = .ok (.invokevirtual 129, 3) := by decide +kernel
theorem dL_law_1017 : decode cL_law 1017 = .ok (.aload_n 2, 1) := by decide +kernel
theorem dL_law_1018 : decode cL_law 1018 = .ok (.aload_n 0, 1) := by decide +kernel
theorem dL_law_1019 : decode cL_law 1019 = .ok (.iload 4, 2) := by decide +kernel
theorem dL_law_1021 : decode cL_law 1021 = .ok (.iconst 1, 1) := by decide +kernel
theorem dL_law_1022 : decode cL_law 1022 = .ok (.iadd, 1) := by decide +kernel
theorem dL_law_1023 : decode cL_law 1023 = .ok (.iaload, 1) := by decide +kernel
theorem dL_law_1024 : decode cL_law 1024 = .ok (.invokevirtual 132, 3) := by decide +kernel
theorem dL_law_1027 : decode cL_law 1027 = .ok (.if_icmp .eq 691, 3) := by decide +kernel
theorem dL_law_1030 : decode cL_law 1030 = .ok (.iconst 0, 1) := by decide +kernel
theorem dL_law_1031 : decode cL_law 1031 = .ok (.ireturn, 1) := by decide +kernel
set_option maxHeartbeats 4000000 in
set_option maxRecDepth 100000 in
theorem lc_26 {p : Program} {l : Launch} {e : Env} {s : State} {m : MethodId} {below : List Frame} {meth : Method} {c : Code} {b L : Nat} {xs : Nat → Int32} {E : EE} {cL : ClassId} {ad qa qe : Nat → Nat} {sh rg : Nat → Option Nat} {rwf : Nat → Nat} {σ : Nat → Nat} (hC : LC p l s m meth c b L xs E cL rg rwf) {i : Nat} (hi6 : i + 6 ≤ L) {cells slots : Nat} (hcs : cells + 1 ≤ 601024 ∧ slots + 6 ≤ 7293034) (kk : Nx p l e s m below meth c b E cL ad qa qe sh rg rwf σ (nI i) (cells + 1) (slots + 6) 1718) : Nx p l e s m below meth c b E cL ad qa qe sh rg rwf σ (nI i) cells slots 1007 := by
  intro h k f r m y mv st P ne dy mh mk mf mr mm ms mo mt mp mn md gh gk gf gr gm gs go gt gp gn gd img rp Y V el ho ki fi so si S M I B hi pl ra re nu mx sd K KK KF SO SI EL th og hI H locs ls hP hD hS hl
  obtain ⟨C0, hL, hG, hKL, hTX, hrg⟩ := id hC
  obtain ⟨hx, hb, hr, hml, hown, hts, hX, hbl, hlocks, hgv⟩ := id C0
  have hF := lw_fix C0
  obtain ⟨hSt, hq, hhi, him, hk9⟩ := id hI
  have hA : ∀ q : Nat, s.heap.size ≤ q → (fun q : Nat => s.heap.size ≤ q) q := fun _ h => h
  have hc0 : cells + 0 ≤ room_1.cells ∧ slots + 0 ≤ room_1.slots := ⟨Nat.le_of_succ_le hcs.1, by have := hcs.2; show slots + 0 ≤ 7293034; omega⟩
  obtain ⟨res, e1, e2⟩ := ag_lines hSt (xs (i + 1)) (N := 2000) (by decide)
  refine lv_aload_n hx hb dL_law_1007 rfl (lv_at hl 2 rfl) ?_
  refine lw_ld hC hi6 (j := 1) (by decide) hS hl dL_law_1008 dL_law_1009 dL_law_1011 dL_law_1012 dL_law_1013 ?_
  refine rdV 3 0 (As := [.int (xs (i + 1))]) (rest := []) (st1 := [.int res]) hF q_X9_lines kw_3_78 (c_X9_lines l E (ad 0) (ad 1) (ad 8) (ad 15) (ad 22) (ad 32) (ad 2) (ad 3) (ad 4) (ad 5) (ad 6) (ad 7) img h k f r m y mv st (nI P) ne dy (xs (i + 1)) 2000 res e1) ⟨rfl, rfl⟩ ⟨Nat.le_of_ble_eq_true rfl, Nat.le_of_ble_eq_true rfl⟩ hc0 (cut_P hP [0, 1, 2, 3, 4, 5, 6, 7] cuN) rfl rfl rfl hG rfl hl.1 rfl (Nat.le_of_ble_eq_true rfl) dL_law_1014 rfl ?_
  refine lv_aload_n hx hb dL_law_1017 rfl (lv_at hl 3 rfl) ?_
  refine lw_ld hC hi6 (j := 1) (by decide) hS hl dL_law_1018 dL_law_1019 dL_law_1021 dL_law_1022 dL_law_1023 ?_
  refine rdV 4 0 (As := [.int (xs (i + 1))]) (rest := [.int res]) (st1 := [.int res, .int res]) hF q_X10_lines kw_5_237 (c_X10_lines l E (ad 49) (ad 50) (ad 51) (ad 52) (ad 53) (ad 54) (ad 55) (ad 56) (ad 57) (ad 58) (ad 59) (ad 60) (ad 61) S M I B hi pl ra re nu mx sd K KK KF SO SI EL th (xs (i + 1)) 2000 res e2) ⟨rfl, rfl⟩ ⟨Nat.le_of_ble_eq_true rfl, Nat.le_of_ble_eq_true rfl⟩ hc0 (cut_P hP [49, 50, 51, 52, 53, 54, 55, 56, 57, 58, 59, 60, 61] cuMo) rfl rfl rfl hG rfl hl.1 rfl (Nat.le_of_ble_eq_true rfl) dL_law_1024 rfl ?_
  refine lv_icmp_eq (tgt := 1718) hx hb dL_law_1027 (by decide) (fun _ => ?_) (fun h => absurd rfl h)
  exact w_widen (Nat.le_succ _) (Nat.le_add_right _ 6) (kk h k f r m y mv st P ne dy mh mk mf mr mm ms mo mt mp mn md gh gk gf gr gm gs go gt gp gn gd img rp Y V el ho ki fi so si S M I B hi pl ra re nu mx sd K KK KF SO SI EL th og hI H locs ls hP hD hS hl)
theorem dL_law_1032 : decode cL_law 1032 = .ok (.aload_n 1, 1) := by decide +kernel
theorem dL_law_1033 : decode cL_law 1033 = .ok (.aload_n 0, 1) := by decide +kernel
theorem dL_law_1034 : decode cL_law 1034 = .ok (.iload 4, 2) := by decide +kernel
theorem dL_law_1036 : decode cL_law 1036 = .ok (.iconst 1, 1) := by decide +kernel
theorem dL_law_1037 : decode cL_law 1037 = .ok (.iadd, 1) := by decide +kernel
theorem dL_law_1038 : decode cL_law 1038 = .ok (.iaload, 1) := by decide +kernel
theorem dL_law_1039 : decode cL_law 1039 = .ok (.aload_n 0, 1) := by decide +kernel
theorem dL_law_1040 : decode cL_law 1040 = .ok (.iload 4, 2) := by decide +kernel
theorem dL_law_1042 : decode cL_law 1042 = .ok (.iconst 2, 1) := by decide +kernel
theorem dL_law_1043 : decode cL_law 1043 = .ok (.iadd, 1) := by decide +kernel
theorem dL_law_1044 : decode cL_law 1044 = .ok (.iaload, 1) := by decide +kernel
theorem dL_law_1045 : decode cL_law 1045 = .ok (.invokevirtual 133, 3) := by decide +kernel
theorem dL_law_1048 : decode cL_law 1048 = .ok (.aload_n 2, 1) := by decide +kernel
theorem dL_law_1049 : decode cL_law 1049 = .ok (.aload_n 0, 1) := by decide +kernel
theorem dL_law_1050 : decode cL_law 1050 = .ok (.iload 4, 2) := by decide +kernel
theorem dL_law_1052 : decode cL_law 1052 = .ok (.iconst 1, 1) := by decide +kernel
theorem dL_law_1053 : decode cL_law 1053 = .ok (.iadd, 1) := by decide +kernel
theorem dL_law_1054 : decode cL_law 1054 = .ok (.iaload, 1) := by decide +kernel
theorem dL_law_1055 : decode cL_law 1055 = .ok (.aload_n 0, 1) := by decide +kernel
theorem dL_law_1056 : decode cL_law 1056 = .ok (.iload 4, 2) := by decide +kernel
theorem dL_law_1058 : decode cL_law 1058 = .ok (.iconst 2, 1) := by decide +kernel
theorem dL_law_1059 : decode cL_law 1059 = .ok (.iadd, 1) := by decide +kernel
theorem dL_law_1060 : decode cL_law 1060 = .ok (.iaload, 1) := by decide +kernel
theorem dL_law_1061 : decode cL_law 1061 = .ok (.invokevirtual 136, 3) := by decide +kernel
theorem dL_law_1064 : decode cL_law 1064 = .ok (.if_icmp .eq 654, 3) := by decide +kernel
theorem dL_law_1067 : decode cL_law 1067 = .ok (.iconst 0, 1) := by decide +kernel
theorem dL_law_1068 : decode cL_law 1068 = .ok (.ireturn, 1) := by decide +kernel
set_option maxHeartbeats 4000000 in
set_option maxRecDepth 100000 in
theorem ls_27 {p : Program} {l : Launch} {e : Env} {s : State} {m : MethodId} {below : List Frame} {meth : Method} {c : Code} {b L : Nat} {xs : Nat → Int32} {E : EE} {cL : ClassId} {ad qa qe : Nat → Nat} {sh rg : Nat → Option Nat} {rwf : Nat → Nat} {σ : Nat → Nat} (hC : LC p l s m meth c b L xs E cL rg rwf) {i : Nat} (hi6 : i + 6 ≤ L) (hv : (xs (i + 1) = nI (σ 0) ∧ σ 0 < 8) ∨ wiB (xs (i + 1)) 0 7 = false) (hs0 : sh (σ 0) = some (qa 0)) (hinj : ∀ j, 0 < j → j < 8 → σ j ≠ σ 0) {cells slots : Nat} (hcs : cells + 1 ≤ 601024 ∧ slots + 6 ≤ 7293034) (kk : Nx p l e s m below meth c b E cL ad qa qe sh rg rwf σ (nI i) (cells + 1) (slots + 6) 1718) : Nx p l e s m below meth c b E cL ad qa qe sh rg rwf σ (nI i) cells slots 1032 := by
  intro h k f r m y mv st P ne dy mh mk mf mr mm ms mo mt mp mn md gh gk gf gr gm gs go gt gp gn gd img rp Y V el ho ki fi so si S M I B hi pl ra re nu mx sd K KK KF SO SI EL th og hI H locs ls hP hD hS hl
  obtain ⟨C0, hL, hG, hKL, hTX, hrg⟩ := id hC
  obtain ⟨hx, hb, hr, hml, hown, hts, hX, hbl, hlocks, hgv⟩ := id C0
  have hF := lw_fix C0
  obtain ⟨hSt, hq, hhi, him, hk9⟩ := id hI
  have hA : ∀ q : Nat, s.heap.size ≤ q → (fun q : Nat => s.heap.size ≤ q) q := fun _ h => h
  have hc0 : cells + 0 ≤ room_1.cells ∧ slots + 0 ≤ room_1.slots := ⟨Nat.le_of_succ_le hcs.1, by have := hcs.2; show slots + 0 ≤ 7293034; omega⟩
  have hsp := shp_of hv hq
  have hsh1 := hsh_of hv hs0
  obtain ⟨res, e1, e2⟩ := ag_law hSt (xs (i + 1)) (xs (i + 2)) hsp (N := 2000) (by decide)
  refine lv_aload_n hx hb dL_law_1032 rfl (lv_at hl 2 rfl) ?_
  refine lw_ld hC hi6 (j := 1) (by decide) hS hl dL_law_1033 dL_law_1034 dL_law_1036 dL_law_1037 dL_law_1038 ?_
  refine lw_ld hC hi6 (j := 2) (by decide) hS hl dL_law_1039 dL_law_1040 dL_law_1042 dL_law_1043 dL_law_1044 ?_
  refine rdV 3 0 (As := [.int (xs (i + 1)), .int (xs (i + 2))]) (rest := []) (st1 := [.int res]) hF q_X9_law kw_3_90 (c_X9_law l E (ad 0) (ad 1) (ad 8) (ad 15) (ad 22) (ad 32) (ad 2) (ad 3) (ad 4) (ad 5) (ad 6) (ad 7) (qa 0) (qe 0) img h k f r m y mv st (nI P) ne dy sh (el 0) (ho 0) (ki 0) (fi 0) (so 0) (si 0) (xs (i + 1)) (xs (i + 2)) 2000 res hsh1 e1) ⟨rfl, rfl⟩ ⟨Nat.le_of_ble_eq_true rfl, Nat.le_of_ble_eq_true rfl⟩ hc0 (cut_P hP [0, 1, 2, 3, 4, 5, 6, 7, 32, 33, 34] cuNQ) rfl rfl rfl hG rfl hl.1 rfl (Nat.le_of_ble_eq_true rfl) dL_law_1045 rfl ?_
  refine lv_aload_n hx hb dL_law_1048 rfl (lv_at hl 3 rfl) ?_
  refine lw_ld hC hi6 (j := 1) (by decide) hS hl dL_law_1049 dL_law_1050 dL_law_1052 dL_law_1053 dL_law_1054 ?_
  refine lw_ld hC hi6 (j := 2) (by decide) hS hl dL_law_1055 dL_law_1056 dL_law_1058 dL_law_1059 dL_law_1060 ?_
  refine rdV 4 0 (As := [.int (xs (i + 1)), .int (xs (i + 2))]) (rest := [.int res]) (st1 := [.int res, .int res]) hF q_X10_law kw_6_1 (c_X10_law l E (ad 49) (ad 50) (ad 51) (ad 52) (ad 53) (ad 54) (ad 55) (ad 56) (ad 57) (ad 58) (ad 59) (ad 60) (ad 61) S M I B hi pl ra re nu mx sd K KK KF SO SI EL th (xs (i + 1)) (xs (i + 2)) 2000 res e2) ⟨rfl, rfl⟩ ⟨Nat.le_of_ble_eq_true rfl, Nat.le_of_ble_eq_true rfl⟩ hc0 (cut_P hP [49, 50, 51, 52, 53, 54, 55, 56, 57, 58, 59, 60, 61] cuMo) rfl rfl rfl hG rfl hl.1 rfl (Nat.le_of_ble_eq_true rfl) dL_law_1061 rfl ?_
  refine lv_icmp_eq (tgt := 1718) hx hb dL_law_1064 (by decide) (fun _ => ?_) (fun h => absurd rfl h)
  exact w_widen (Nat.le_succ _) (Nat.le_add_right _ 6) (kk h k f r m y mv st P ne dy mh mk mf mr mm ms mo mt mp mn md gh gk gf gr gm gs go gt gp gn gd img rp Y V el ho ki fi so si S M I B hi pl ra re nu mx sd K KK KF SO SI EL th og hI H locs ls hP hD hS hl)
theorem dL_law_1155 : decode cL_law 1155 = .ok (.aload_n 1, 1) := by decide +kernel
theorem dL_law_1156 : decode cL_law 1156 = .ok (.aload_n 0, 1) := by decide +kernel
theorem dL_law_1157 : decode cL_law 1157 = .ok (.iload 4, 2) := by decide +kernel
theorem dL_law_1159 : decode cL_law 1159 = .ok (.iconst 1, 1) := by decide +kernel
theorem dL_law_1160 : decode cL_law 1160 = .ok (.iadd, 1) := by decide +kernel
theorem dL_law_1161 : decode cL_law 1161 = .ok (.iaload, 1) := by decide +kernel
theorem dL_law_1162 : decode cL_law 1162 = .ok (.aload_n 0, 1) := by decide +kernel
theorem dL_law_1163 : decode cL_law 1163 = .ok (.iload 4, 2) := by decide +kernel
theorem dL_law_1165 : decode cL_law 1165 = .ok (.iconst 2, 1) := by decide +kernel
theorem dL_law_1166 : decode cL_law 1166 = .ok (.iadd, 1) := by decide +kernel
theorem dL_law_1167 : decode cL_law 1167 = .ok (.iaload, 1) := by decide +kernel
theorem dL_law_1168 : decode cL_law 1168 = .ok (.invokevirtual 145, 3) := by decide +kernel
theorem dL_law_1171 : decode cL_law 1171 = .ok (.aload_n 2, 1) := by decide +kernel
theorem dL_law_1172 : decode cL_law 1172 = .ok (.aload_n 0, 1) := by decide +kernel
theorem dL_law_1173 : decode cL_law 1173 = .ok (.iload 4, 2) := by decide +kernel
theorem dL_law_1175 : decode cL_law 1175 = .ok (.iconst 1, 1) := by decide +kernel
theorem dL_law_1176 : decode cL_law 1176 = .ok (.iadd, 1) := by decide +kernel
theorem dL_law_1177 : decode cL_law 1177 = .ok (.iaload, 1) := by decide +kernel
theorem dL_law_1178 : decode cL_law 1178 = .ok (.aload_n 0, 1) := by decide +kernel
theorem dL_law_1179 : decode cL_law 1179 = .ok (.iload 4, 2) := by decide +kernel
theorem dL_law_1181 : decode cL_law 1181 = .ok (.iconst 2, 1) := by decide +kernel
theorem dL_law_1182 : decode cL_law 1182 = .ok (.iadd, 1) := by decide +kernel
theorem dL_law_1183 : decode cL_law 1183 = .ok (.iaload, 1) := by decide +kernel
theorem dL_law_1184 : decode cL_law 1184 = .ok (.invokevirtual 148, 3) := by decide +kernel
theorem dL_law_1187 : decode cL_law 1187 = .ok (.lcmp, 1) := by decide +kernel
theorem dL_law_1188 : decode cL_law 1188 = .ok (.ifCond .eq 530, 3) := by decide +kernel
theorem dL_law_1191 : decode cL_law 1191 = .ok (.iconst 0, 1) := by decide +kernel
theorem dL_law_1192 : decode cL_law 1192 = .ok (.ireturn, 1) := by decide +kernel
set_option maxHeartbeats 4000000 in
set_option maxRecDepth 100000 in
theorem lc_30 {p : Program} {l : Launch} {e : Env} {s : State} {m : MethodId} {below : List Frame} {meth : Method} {c : Code} {b L : Nat} {xs : Nat → Int32} {E : EE} {cL : ClassId} {ad qa qe : Nat → Nat} {sh rg : Nat → Option Nat} {rwf : Nat → Nat} {σ : Nat → Nat} (hC : LC p l s m meth c b L xs E cL rg rwf) {i : Nat} (hi6 : i + 6 ≤ L) {cells slots : Nat} (hcs : cells + 1 ≤ 601024 ∧ slots + 6 ≤ 7293034) (kk : Nx p l e s m below meth c b E cL ad qa qe sh rg rwf σ (nI i) (cells + 1) (slots + 6) 1718) : Nx p l e s m below meth c b E cL ad qa qe sh rg rwf σ (nI i) cells slots 1155 := by
  intro h k f r m y mv st P ne dy mh mk mf mr mm ms mo mt mp mn md gh gk gf gr gm gs go gt gp gn gd img rp Y V el ho ki fi so si S M I B hi pl ra re nu mx sd K KK KF SO SI EL th og hI H locs ls hP hD hS hl
  obtain ⟨C0, hL, hG, hKL, hTX, hrg⟩ := id hC
  obtain ⟨hx, hb, hr, hml, hown, hts, hX, hbl, hlocks, hgv⟩ := id C0
  have hF := lw_fix C0
  obtain ⟨hSt, hq, hhi, him, hk9⟩ := id hI
  have hA : ∀ q : Nat, s.heap.size ≤ q → (fun q : Nat => s.heap.size ≤ q) q := fun _ h => h
  have hc0 : cells + 0 ≤ room_1.cells ∧ slots + 0 ≤ room_1.slots := ⟨Nat.le_of_succ_le hcs.1, by have := hcs.2; show slots + 0 ≤ 7293034; omega⟩
  obtain ⟨res, e1, e2⟩ := ag_rain hSt (xs (i + 1)) (xs (i + 2)) (N := 2000) (by decide)
  refine lv_aload_n hx hb dL_law_1155 rfl (lv_at hl 2 rfl) ?_
  refine lw_ld hC hi6 (j := 1) (by decide) hS hl dL_law_1156 dL_law_1157 dL_law_1159 dL_law_1160 dL_law_1161 ?_
  refine lw_ld hC hi6 (j := 2) (by decide) hS hl dL_law_1162 dL_law_1163 dL_law_1165 dL_law_1166 dL_law_1167 ?_
  refine rdV 3 0 (As := [.int (xs (i + 1)), .int (xs (i + 2))]) (rest := []) (st1 := [.long res]) hF q_X9_rain kw_3_142 (c_X9_rain l E (ad 0) (ad 1) (ad 8) (ad 15) (ad 22) (ad 32) (ad 2) (ad 3) (ad 4) (ad 5) (ad 6) (ad 7) img h k f r m y mv st (nI P) ne dy (xs (i + 1)) (xs (i + 2)) 2000 res e1) ⟨rfl, rfl⟩ ⟨Nat.le_of_ble_eq_true rfl, Nat.le_of_ble_eq_true rfl⟩ hc0 (cut_P hP [0, 1, 2, 3, 4, 5, 6, 7] cuN) rfl rfl rfl hG rfl hl.1 rfl (Nat.le_of_ble_eq_true rfl) dL_law_1168 rfl ?_
  refine lv_aload_n hx hb dL_law_1171 rfl (lv_at hl 3 rfl) ?_
  refine lw_ld hC hi6 (j := 1) (by decide) hS hl dL_law_1172 dL_law_1173 dL_law_1175 dL_law_1176 dL_law_1177 ?_
  refine lw_ld hC hi6 (j := 2) (by decide) hS hl dL_law_1178 dL_law_1179 dL_law_1181 dL_law_1182 dL_law_1183 ?_
  refine rdV 4 0 (As := [.int (xs (i + 1)), .int (xs (i + 2))]) (rest := [.long res]) (st1 := [.long res, .long res]) hF q_X10_rain kw_6_25 (c_X10_rain l E (ad 49) (ad 50) (ad 51) (ad 52) (ad 53) (ad 54) (ad 55) (ad 56) (ad 57) (ad 58) (ad 59) (ad 60) (ad 61) S M I B hi pl ra re nu mx sd K KK KF SO SI EL th (xs (i + 1)) (xs (i + 2)) 2000 res e2) ⟨rfl, rfl⟩ ⟨Nat.le_of_ble_eq_true rfl, Nat.le_of_ble_eq_true rfl⟩ hc0 (cut_P hP [49, 50, 51, 52, 53, 54, 55, 56, 57, 58, 59, 60, 61] cuMo) rfl rfl rfl hG rfl hl.1 rfl (Nat.le_of_ble_eq_true rfl) dL_law_1184 rfl ?_
  refine lw_lcmp hx hb dL_law_1187 ?_
  refine lv_if_eq (tgt := 1718) hx hb dL_law_1188 (by decide) (fun _ => ?_) (fun h => absurd rfl h)
  exact w_widen (Nat.le_succ _) (Nat.le_add_right _ 6) (kk h k f r m y mv st P ne dy mh mk mf mr mm ms mo mt mp mn md gh gk gf gr gm gs go gt gp gn gd img rp Y V el ho ki fi so si S M I B hi pl ra re nu mx sd K KK KF SO SI EL th og hI H locs ls hP hD hS hl)
theorem dL_law_1193 : decode cL_law 1193 = .ok (.aload_n 1, 1) := by decide +kernel
theorem dL_law_1194 : decode cL_law 1194 = .ok (.aload_n 0, 1) := by decide +kernel
theorem dL_law_1195 : decode cL_law 1195 = .ok (.iload 4, 2) := by decide +kernel
theorem dL_law_1197 : decode cL_law 1197 = .ok (.iconst 1, 1) := by decide +kernel
theorem dL_law_1198 : decode cL_law 1198 = .ok (.iadd, 1) := by decide +kernel
theorem dL_law_1199 : decode cL_law 1199 = .ok (.iaload, 1) := by decide +kernel
theorem dL_law_1200 : decode cL_law 1200 = .ok (.invokevirtual 149, 3) := by decide +kernel
theorem dL_law_1203 : decode cL_law 1203 = .ok (.aload_n 2, 1) := by decide +kernel
theorem dL_law_1204 : decode cL_law 1204 = .ok (.aload_n 0, 1) := by decide +kernel
theorem dL_law_1205 : decode cL_law 1205 = .ok (.iload 4, 2) := by decide +kernel
theorem dL_law_1207 : decode cL_law 1207 = .ok (.iconst 1, 1) := by decide +kernel
theorem dL_law_1208 : decode cL_law 1208 = .ok (.iadd, 1) := by decide +kernel
theorem dL_law_1209 : decode cL_law 1209 = .ok (.iaload, 1) := by decide +kernel
theorem dL_law_1210 : decode cL_law 1210 = .ok (.invokevirtual 153, 3) := by decide +kernel
theorem dL_law_1213 : decode cL_law 1213 = .ok (.lcmp, 1) := by decide +kernel
theorem dL_law_1214 : decode cL_law 1214 = .ok (.ifCond .eq 504, 3) := by decide +kernel
theorem dL_law_1217 : decode cL_law 1217 = .ok (.iconst 0, 1) := by decide +kernel
theorem dL_law_1218 : decode cL_law 1218 = .ok (.ireturn, 1) := by decide +kernel
set_option maxHeartbeats 4000000 in
set_option maxRecDepth 100000 in
theorem lc_31 {p : Program} {l : Launch} {e : Env} {s : State} {m : MethodId} {below : List Frame} {meth : Method} {c : Code} {b L : Nat} {xs : Nat → Int32} {E : EE} {cL : ClassId} {ad qa qe : Nat → Nat} {sh rg : Nat → Option Nat} {rwf : Nat → Nat} {σ : Nat → Nat} (hC : LC p l s m meth c b L xs E cL rg rwf) {i : Nat} (hi6 : i + 6 ≤ L) {cells slots : Nat} (hcs : cells + 1 ≤ 601024 ∧ slots + 6 ≤ 7293034) (kk : Nx p l e s m below meth c b E cL ad qa qe sh rg rwf σ (nI i) (cells + 1) (slots + 6) 1718) : Nx p l e s m below meth c b E cL ad qa qe sh rg rwf σ (nI i) cells slots 1193 := by
  intro h k f r m y mv st P ne dy mh mk mf mr mm ms mo mt mp mn md gh gk gf gr gm gs go gt gp gn gd img rp Y V el ho ki fi so si S M I B hi pl ra re nu mx sd K KK KF SO SI EL th og hI H locs ls hP hD hS hl
  obtain ⟨C0, hL, hG, hKL, hTX, hrg⟩ := id hC
  obtain ⟨hx, hb, hr, hml, hown, hts, hX, hbl, hlocks, hgv⟩ := id C0
  have hF := lw_fix C0
  obtain ⟨hSt, hq, hhi, him, hk9⟩ := id hI
  have hA : ∀ q : Nat, s.heap.size ≤ q → (fun q : Nat => s.heap.size ≤ q) q := fun _ h => h
  have hc0 : cells + 0 ≤ room_1.cells ∧ slots + 0 ≤ room_1.slots := ⟨Nat.le_of_succ_le hcs.1, by have := hcs.2; show slots + 0 ≤ 7293034; omega⟩
  obtain ⟨res, e1, e2⟩ := ag_mean hSt (xs (i + 1)) (N := 2000) (by decide)
  refine lv_aload_n hx hb dL_law_1193 rfl (lv_at hl 2 rfl) ?_
  refine lw_ld hC hi6 (j := 1) (by decide) hS hl dL_law_1194 dL_law_1195 dL_law_1197 dL_law_1198 dL_law_1199 ?_
  refine rdV 3 0 (As := [.int (xs (i + 1))]) (rest := []) (st1 := [.long res]) hF q_X9_mean kw_3_150 (c_X9_mean l E (ad 0) (ad 1) (ad 8) (ad 15) (ad 22) (ad 32) (ad 2) (ad 3) (ad 4) (ad 5) (ad 6) (ad 7) img h k f r m y mv st (nI P) ne dy (xs (i + 1)) 2000 res e1) ⟨rfl, rfl⟩ ⟨Nat.le_of_ble_eq_true rfl, Nat.le_of_ble_eq_true rfl⟩ hc0 (cut_P hP [0, 1, 2, 3, 4, 5, 6, 7] cuN) rfl rfl rfl hG rfl hl.1 rfl (Nat.le_of_ble_eq_true rfl) dL_law_1200 rfl ?_
  refine lv_aload_n hx hb dL_law_1203 rfl (lv_at hl 3 rfl) ?_
  refine lw_ld hC hi6 (j := 1) (by decide) hS hl dL_law_1204 dL_law_1205 dL_law_1207 dL_law_1208 dL_law_1209 ?_
  refine rdV 4 0 (As := [.int (xs (i + 1))]) (rest := [.long res]) (st1 := [.long res, .long res]) hF q_X10_mean kw_6_29 (c_X10_mean l E (ad 49) (ad 50) (ad 51) (ad 52) (ad 53) (ad 54) (ad 55) (ad 56) (ad 57) (ad 58) (ad 59) (ad 60) (ad 61) S M I B hi pl ra re nu mx sd K KK KF SO SI EL th (xs (i + 1)) 2000 res e2) ⟨rfl, rfl⟩ ⟨Nat.le_of_ble_eq_true rfl, Nat.le_of_ble_eq_true rfl⟩ hc0 (cut_P hP [49, 50, 51, 52, 53, 54, 55, 56, 57, 58, 59, 60, 61] cuMo) rfl rfl rfl hG rfl hl.1 rfl (Nat.le_of_ble_eq_true rfl) dL_law_1210 rfl ?_
  refine lw_lcmp hx hb dL_law_1213 ?_
  refine lv_if_eq (tgt := 1718) hx hb dL_law_1214 (by decide) (fun _ => ?_) (fun h => absurd rfl h)
  exact w_widen (Nat.le_succ _) (Nat.le_add_right _ 6) (kk h k f r m y mv st P ne dy mh mk mf mr mm ms mo mt mp mn md gh gk gf gr gm gs go gt gp gn gd img rp Y V el ho ki fi so si S M I B hi pl ra re nu mx sd K KK KF SO SI EL th og hI H locs ls hP hD hS hl)
theorem dL_law_1219 : decode cL_law 1219 = .ok (.aload_n 1, 1) := by decide +kernel
theorem dL_law_1220 : decode cL_law 1220 = .ok (.aload_n 0, 1) := by decide +kernel
theorem dL_law_1221 : decode cL_law 1221 = .ok (.iload 4, 2) := by decide +kernel
theorem dL_law_1223 : decode cL_law 1223 = .ok (.iconst 1, 1) := by decide +kernel
theorem dL_law_1224 : decode cL_law 1224 = .ok (.iadd, 1) := by decide +kernel
theorem dL_law_1225 : decode cL_law 1225 = .ok (.iaload, 1) := by decide +kernel
theorem dL_law_1226 : decode cL_law 1226 = .ok (.invokevirtual 154, 3) := by decide +kernel
theorem dL_law_1229 : decode cL_law 1229 = .ok (.aload_n 2, 1) := by decide +kernel
theorem dL_law_1230 : decode cL_law 1230 = .ok (.aload_n 0, 1) := by decide +kernel
theorem dL_law_1231 : decode cL_law 1231 = .ok (.iload 4, 2) := by decide +kernel
theorem dL_law_1233 : decode cL_law 1233 = .ok (.iconst 1, 1) := by decide +kernel
theorem dL_law_1234 : decode cL_law 1234 = .ok (.iadd, 1) := by decide +kernel
theorem dL_law_1235 : decode cL_law 1235 = .ok (.iaload, 1) := by decide +kernel
theorem dL_law_1236 : decode cL_law 1236 = .ok (.invokevirtual 157, 3) := by decide +kernel
theorem dL_law_1239 : decode cL_law 1239 = .ok (.if_icmp .eq 479, 3) := by decide +kernel
theorem dL_law_1242 : decode cL_law 1242 = .ok (.iconst 0, 1) := by decide +kernel
theorem dL_law_1243 : decode cL_law 1243 = .ok (.ireturn, 1) := by decide +kernel
set_option maxHeartbeats 4000000 in
set_option maxRecDepth 100000 in
theorem ls_32 {p : Program} {l : Launch} {e : Env} {s : State} {m : MethodId} {below : List Frame} {meth : Method} {c : Code} {b L : Nat} {xs : Nat → Int32} {E : EE} {cL : ClassId} {ad qa qe : Nat → Nat} {sh rg : Nat → Option Nat} {rwf : Nat → Nat} {σ : Nat → Nat} (hC : LC p l s m meth c b L xs E cL rg rwf) {i : Nat} (hi6 : i + 6 ≤ L) (hv : (xs (i + 1) = nI (σ 0) ∧ σ 0 < 8) ∨ wiB (xs (i + 1)) 0 7 = false) (hs0 : sh (σ 0) = some (qa 0)) (hinj : ∀ j, 0 < j → j < 8 → σ j ≠ σ 0) {cells slots : Nat} (hcs : cells + 1 ≤ 601024 ∧ slots + 6 ≤ 7293034) (kk : Nx p l e s m below meth c b E cL ad qa qe sh rg rwf σ (nI i) (cells + 1) (slots + 6) 1718) : Nx p l e s m below meth c b E cL ad qa qe sh rg rwf σ (nI i) cells slots 1219 := by
  intro h k f r m y mv st P ne dy mh mk mf mr mm ms mo mt mp mn md gh gk gf gr gm gs go gt gp gn gd img rp Y V el ho ki fi so si S M I B hi pl ra re nu mx sd K KK KF SO SI EL th og hI H locs ls hP hD hS hl
  obtain ⟨C0, hL, hG, hKL, hTX, hrg⟩ := id hC
  obtain ⟨hx, hb, hr, hml, hown, hts, hX, hbl, hlocks, hgv⟩ := id C0
  have hF := lw_fix C0
  obtain ⟨hSt, hq, hhi, him, hk9⟩ := id hI
  have hA : ∀ q : Nat, s.heap.size ≤ q → (fun q : Nat => s.heap.size ≤ q) q := fun _ h => h
  have hc0 : cells + 0 ≤ room_1.cells ∧ slots + 0 ≤ room_1.slots := ⟨Nat.le_of_succ_le hcs.1, by have := hcs.2; show slots + 0 ≤ 7293034; omega⟩
  have hsp := shp_of hv hq
  have hsh1 := hsh_of hv hs0
  obtain ⟨res, e1, e2⟩ := ag_forged hSt (xs (i + 1)) hsp (N := 2000) (by decide)
  refine lv_aload_n hx hb dL_law_1219 rfl (lv_at hl 2 rfl) ?_
  refine lw_ld hC hi6 (j := 1) (by decide) hS hl dL_law_1220 dL_law_1221 dL_law_1223 dL_law_1224 dL_law_1225 ?_
  refine rdV 3 0 (As := [.int (xs (i + 1))]) (rest := []) (st1 := [.int res]) hF q_X9_forged kw_3_154 (c_X9_forged l E (ad 0) (ad 1) (ad 8) (ad 15) (ad 22) (ad 32) (ad 2) (ad 3) (ad 4) (ad 5) (ad 6) (ad 7) (qa 0) (qe 0) img h k f r m y mv st (nI P) ne dy sh (el 0) (ho 0) (ki 0) (fi 0) (so 0) (si 0) (xs (i + 1)) 2000 res hsh1 e1) ⟨rfl, rfl⟩ ⟨Nat.le_of_ble_eq_true rfl, Nat.le_of_ble_eq_true rfl⟩ hc0 (cut_P hP [0, 1, 2, 3, 4, 5, 6, 7, 32, 33, 34] cuNQ) rfl rfl rfl hG rfl hl.1 rfl (Nat.le_of_ble_eq_true rfl) dL_law_1226 rfl ?_
  refine lv_aload_n hx hb dL_law_1229 rfl (lv_at hl 3 rfl) ?_
  refine lw_ld hC hi6 (j := 1) (by decide) hS hl dL_law_1230 dL_law_1231 dL_law_1233 dL_law_1234 dL_law_1235 ?_
  refine rdV 4 0 (As := [.int (xs (i + 1))]) (rest := [.int res]) (st1 := [.int res, .int res]) hF q_X10_forged kw_6_33 (c_X10_forged l E (ad 49) (ad 50) (ad 51) (ad 52) (ad 53) (ad 54) (ad 55) (ad 56) (ad 57) (ad 58) (ad 59) (ad 60) (ad 61) S M I B hi pl ra re nu mx sd K KK KF SO SI EL th (xs (i + 1)) 2000 res e2) ⟨rfl, rfl⟩ ⟨Nat.le_of_ble_eq_true rfl, Nat.le_of_ble_eq_true rfl⟩ hc0 (cut_P hP [49, 50, 51, 52, 53, 54, 55, 56, 57, 58, 59, 60, 61] cuMo) rfl rfl rfl hG rfl hl.1 rfl (Nat.le_of_ble_eq_true rfl) dL_law_1236 rfl ?_
  refine lv_icmp_eq (tgt := 1718) hx hb dL_law_1239 (by decide) (fun _ => ?_) (fun h => absurd rfl h)
  exact w_widen (Nat.le_succ _) (Nat.le_add_right _ 6) (kk h k f r m y mv st P ne dy mh mk mf mr mm ms mo mt mp mn md gh gk gf gr gm gs go gt gp gn gd img rp Y V el ho ki fi so si S M I B hi pl ra re nu mx sd K KK KF SO SI EL th og hI H locs ls hP hD hS hl)
theorem dL_law_1318 : decode cL_law 1318 = .ok (.aload_n 1, 1) := by decide +kernel
theorem dL_law_1319 : decode cL_law 1319 = .ok (.invokevirtual 166, 3) := by decide +kernel
theorem dL_law_1322 : decode cL_law 1322 = .ok (.aload_n 2, 1) := by decide +kernel
theorem dL_law_1323 : decode cL_law 1323 = .ok (.invokevirtual 169, 3) := by decide +kernel
theorem dL_law_1326 : decode cL_law 1326 = .ok (.if_icmp .eq 392, 3) := by decide +kernel
theorem dL_law_1329 : decode cL_law 1329 = .ok (.iconst 0, 1) := by decide +kernel
theorem dL_law_1330 : decode cL_law 1330 = .ok (.ireturn, 1) := by decide +kernel
set_option maxHeartbeats 4000000 in
set_option maxRecDepth 100000 in
theorem lc_35 {p : Program} {l : Launch} {e : Env} {s : State} {m : MethodId} {below : List Frame} {meth : Method} {c : Code} {b L : Nat} {xs : Nat → Int32} {E : EE} {cL : ClassId} {ad qa qe : Nat → Nat} {sh rg : Nat → Option Nat} {rwf : Nat → Nat} {σ : Nat → Nat} (hC : LC p l s m meth c b L xs E cL rg rwf) {i : Nat} (hi6 : i + 6 ≤ L) {cells slots : Nat} (hcs : cells + 1 ≤ 601024 ∧ slots + 6 ≤ 7293034) (kk : Nx p l e s m below meth c b E cL ad qa qe sh rg rwf σ (nI i) (cells + 1) (slots + 6) 1718) : Nx p l e s m below meth c b E cL ad qa qe sh rg rwf σ (nI i) cells slots 1318 := by
  intro h k f r m y mv st P ne dy mh mk mf mr mm ms mo mt mp mn md gh gk gf gr gm gs go gt gp gn gd img rp Y V el ho ki fi so si S M I B hi pl ra re nu mx sd K KK KF SO SI EL th og hI H locs ls hP hD hS hl
  obtain ⟨C0, hL, hG, hKL, hTX, hrg⟩ := id hC
  obtain ⟨hx, hb, hr, hml, hown, hts, hX, hbl, hlocks, hgv⟩ := id C0
  have hF := lw_fix C0
  obtain ⟨hSt, hq, hhi, him, hk9⟩ := id hI
  have hA : ∀ q : Nat, s.heap.size ≤ q → (fun q : Nat => s.heap.size ≤ q) q := fun _ h => h
  have hc0 : cells + 0 ≤ room_1.cells ∧ slots + 0 ≤ room_1.slots := ⟨Nat.le_of_succ_le hcs.1, by have := hcs.2; show slots + 0 ≤ 7293034; omega⟩
  obtain ⟨I1, e1, e2, hSt1⟩ := ag_image hSt I (N := 2000) (by decide)
  refine lv_aload_n hx hb dL_law_1318 rfl (lv_at hl 2 rfl) ?_
  refine wrVj [0, 1, 2, 3, 4, 5, 6, 7, 15, 16, 17, 18, 19, 20, 21] [8, 9, 10, 11, 12, 13, 14, 22, 23, 24, 25, 26, 27, 28, 29, 30, 31, 32, 33, 34, 35, 36, 37, 38, 39, 40, 41, 42, 43, 44, 45, 46, 47, 48, 49, 50, 51, 52, 53, 54, 55, 56, 57, 58, 59, 60, 61, 62] 3 0 (As := []) (rest := []) (st1 := [.int dy]) hF q_X9_image kw_3_179 (c_X9_image l E (ad 0) (ad 1) (ad 8) (ad 15) (ad 22) (ad 32) (ad 2) (ad 3) (ad 4) (ad 5) (ad 6) (ad 7) (ad 16) (ad 17) (ad 18) (ad 19) (ad 20) (ad 21) img h k f r m y mv st (nI P) ne dy gh gk gf gr gm gs go gt gp gn gd dy 1 st (nI P) ne dy h k f r m e1) ⟨rfl, rfl⟩ ⟨Nat.le_of_ble_eq_true rfl, Nat.le_of_ble_eq_true rfl⟩ hc0 hP hD hS hA rfl rfl rfl hG jnNK rfl hl.1 rfl (Nat.le_of_ble_eq_true rfl) dL_law_1319 rfl (fun H locs hP hD hS => ?_)
  refine lv_aload_n hx hb dL_law_1322 rfl (lv_at hl 3 rfl) ?_
  refine wrVj [49, 50, 51, 52, 53, 54, 55, 56, 57, 58, 59, 60, 61] [0, 1, 2, 3, 4, 5, 6, 7, 8, 9, 10, 11, 12, 13, 14, 15, 16, 17, 18, 19, 20, 21, 22, 23, 24, 25, 26, 27, 28, 29, 30, 31, 32, 33, 34, 35, 36, 37, 38, 39, 40, 41, 42, 43, 44, 45, 46, 47, 48, 62] 4 0 (As := []) (rest := [.int dy]) (st1 := [.int dy, .int dy]) hF q_X10_image kw_6_52 (c_X10_image l E (ad 49) (ad 50) (ad 51) (ad 52) (ad 53) (ad 54) (ad 55) (ad 56) (ad 57) (ad 58) (ad 59) (ad 60) (ad 61) S M I B hi pl ra re nu mx sd K KK KF SO SI EL th 2000 dy 1 I1 e2) ⟨rfl, rfl⟩ ⟨Nat.le_of_ble_eq_true rfl, Nat.le_of_ble_eq_true rfl⟩ hc0 hP hD hS hA rfl rfl rfl hG jnMo rfl hl.1 rfl (Nat.le_of_ble_eq_true rfl) dL_law_1323 rfl (fun H locs hP hD hS => ?_)
  refine lv_icmp_eq (tgt := 1718) hx hb dL_law_1326 (by decide) (fun _ => ?_) (fun h => absurd rfl h)
  exact w_widen (Nat.le_succ _) (Nat.le_add_right _ 6) (kk h k f r m y mv st P ne dy mh mk mf mr mm ms mo mt mp mn md h k f r m gs go st (nI P) ne dy 1 rp Y V el ho ki fi so si S M I1 B 1 pl ra re nu mx sd K KK KF SO SI EL th og ⟨hSt, hq, rfl, Or.inr rfl, fun _ => ⟨P, rfl, hSt1⟩⟩ H locs ls hP hD hS hl)
theorem dL_law_1331 : decode cL_law 1331 = .ok (.aload_n 1, 1) := by decide +kernel
theorem dL_law_1332 : decode cL_law 1332 = .ok (.invokevirtual 170, 3) := by decide +kernel
theorem dL_law_1335 : decode cL_law 1335 = .ok (.aload_n 2, 1) := by decide +kernel
theorem dL_law_1336 : decode cL_law 1336 = .ok (.invokevirtual 173, 3) := by decide +kernel
theorem dL_law_1339 : decode cL_law 1339 = .ok (.if_icmp .eq 379, 3) := by decide +kernel
theorem dL_law_1342 : decode cL_law 1342 = .ok (.iconst 0, 1) := by decide +kernel
theorem dL_law_1343 : decode cL_law 1343 = .ok (.ireturn, 1) := by decide +kernel
set_option maxHeartbeats 4000000 in
set_option maxRecDepth 100000 in
theorem lc_36 {p : Program} {l : Launch} {e : Env} {s : State} {m : MethodId} {below : List Frame} {meth : Method} {c : Code} {b L : Nat} {xs : Nat → Int32} {E : EE} {cL : ClassId} {ad qa qe : Nat → Nat} {sh rg : Nat → Option Nat} {rwf : Nat → Nat} {σ : Nat → Nat} (hC : LC p l s m meth c b L xs E cL rg rwf) {i : Nat} (hi6 : i + 6 ≤ L) {cells slots : Nat} (hcs : cells + 1 ≤ 601024 ∧ slots + 6 ≤ 7293034) (kk : Nx p l e s m below meth c b E cL ad qa qe sh rg rwf σ (nI i) (cells + 1) (slots + 6) 1718) : Nx p l e s m below meth c b E cL ad qa qe sh rg rwf σ (nI i) cells slots 1331 := by
  intro h k f r m y mv st P ne dy mh mk mf mr mm ms mo mt mp mn md gh gk gf gr gm gs go gt gp gn gd img rp Y V el ho ki fi so si S M I B hi pl ra re nu mx sd K KK KF SO SI EL th og hI H locs ls hP hD hS hl
  obtain ⟨C0, hL, hG, hKL, hTX, hrg⟩ := id hC
  obtain ⟨hx, hb, hr, hml, hown, hts, hX, hbl, hlocks, hgv⟩ := id C0
  have hF := lw_fix C0
  obtain ⟨hSt, hq, hhi, him, hk9⟩ := id hI
  have hA : ∀ q : Nat, s.heap.size ≤ q → (fun q : Nat => s.heap.size ≤ q) q := fun _ h => h
  have hc0 : cells + 0 ≤ room_1.cells ∧ slots + 0 ≤ room_1.slots := ⟨Nat.le_of_succ_le hcs.1, by have := hcs.2; show slots + 0 ≤ 7293034; omega⟩
  subst hhi
  obtain ⟨P2, hkk⟩ : ∃ P2 : Nat, hi = 1 → gh = gh ∧ gk = gk ∧ gf = gf ∧ gr = gr ∧ gm = gm ∧ gt = gt ∧ gp = nI P2 ∧ gn = gn ∧ gd = gd ∧ St gh gk gf gr gm P2 gt gn gd I := by
    rcases him with z | z
    · exact ⟨0, fun h => absurd (z.symm.trans h) (by decide)⟩
    · obtain ⟨P2, x1, x2⟩ := hk9 z
      exact ⟨P2, fun _ => ⟨rfl, rfl, rfl, rfl, rfl, rfl, x1, rfl, rfl, x2⟩⟩
  obtain ⟨res, st1, ne1, dy1, P1, h1, k1, f1, r1, m1, S1, e1, e2, hSt1⟩ := ag_restore hSt hi him gh gk gf gr gm gt gp gn gd hkk (N := 2000) (by decide)
  refine lv_aload_n hx hb dL_law_1331 rfl (lv_at hl 2 rfl) ?_
  refine wrVj [0, 1, 2, 3, 4, 5, 6, 7, 15, 16, 17, 18, 19, 20, 21] [8, 9, 10, 11, 12, 13, 14, 22, 23, 24, 25, 26, 27, 28, 29, 30, 31, 32, 33, 34, 35, 36, 37, 38, 39, 40, 41, 42, 43, 44, 45, 46, 47, 48, 49, 50, 51, 52, 53, 54, 55, 56, 57, 58, 59, 60, 61, 62] 3 0 (As := []) (rest := []) (st1 := [.int res]) hF q_X9_restore kw_3_183 (c_X9_restore l E (ad 0) (ad 1) (ad 8) (ad 15) (ad 22) (ad 32) (ad 2) (ad 3) (ad 4) (ad 5) (ad 6) (ad 7) (ad 16) (ad 17) (ad 18) (ad 19) (ad 20) (ad 21) hi h k f r m y mv st (nI P) ne dy gh gk gf gr gm gs go gt gp gn gd res st1 (nI P1) ne1 dy1 h1 k1 f1 r1 m1 e1) ⟨rfl, rfl⟩ ⟨Nat.le_of_ble_eq_true rfl, Nat.le_of_ble_eq_true rfl⟩ hc0 hP hD hS hA rfl rfl rfl hG jnNK rfl hl.1 rfl (Nat.le_of_ble_eq_true rfl) dL_law_1332 rfl (fun H locs hP hD hS => ?_)
  refine lv_aload_n hx hb dL_law_1335 rfl (lv_at hl 3 rfl) ?_
  refine wrVj [49, 50, 51, 52, 53, 54, 55, 56, 57, 58, 59, 60, 61] [0, 1, 2, 3, 4, 5, 6, 7, 8, 9, 10, 11, 12, 13, 14, 15, 16, 17, 18, 19, 20, 21, 22, 23, 24, 25, 26, 27, 28, 29, 30, 31, 32, 33, 34, 35, 36, 37, 38, 39, 40, 41, 42, 43, 44, 45, 46, 47, 48, 62] 4 0 (As := []) (rest := [.int res]) (st1 := [.int res, .int res]) hF q_X10_restore kw_6_56 (c_X10_restore l E (ad 49) (ad 50) (ad 51) (ad 52) (ad 53) (ad 54) (ad 55) (ad 56) (ad 57) (ad 58) (ad 59) (ad 60) (ad 61) S M I B hi pl ra re nu mx sd K KK KF SO SI EL th 2000 res S1 e2) ⟨rfl, rfl⟩ ⟨Nat.le_of_ble_eq_true rfl, Nat.le_of_ble_eq_true rfl⟩ hc0 hP hD hS hA rfl rfl rfl hG jnMo rfl hl.1 rfl (Nat.le_of_ble_eq_true rfl) dL_law_1336 rfl (fun H locs hP hD hS => ?_)
  refine lv_icmp_eq (tgt := 1718) hx hb dL_law_1339 (by decide) (fun _ => ?_) (fun h => absurd rfl h)
  exact w_widen (Nat.le_succ _) (Nat.le_add_right _ 6) (kk h1 k1 f1 r1 m1 y mv st1 P1 ne1 dy1 mh mk mf mr mm ms mo mt mp mn md gh gk gf gr gm gs go gt gp gn gd hi rp Y V el ho ki fi so si S1 M I B hi pl ra re nu mx sd K KK KF SO SI EL th og ⟨hSt1, hI.2⟩ H locs ls hP hD hS hl)
theorem dL_law_1344 : decode cL_law 1344 = .ok (.aload_n 1, 1) := by decide +kernel
theorem dL_law_1345 : decode cL_law 1345 = .ok (.aload_n 0, 1) := by decide +kernel
theorem dL_law_1346 : decode cL_law 1346 = .ok (.iload 4, 2) := by decide +kernel
theorem dL_law_1348 : decode cL_law 1348 = .ok (.iconst 1, 1) := by decide +kernel
theorem dL_law_1349 : decode cL_law 1349 = .ok (.iadd, 1) := by decide +kernel
theorem dL_law_1350 : decode cL_law 1350 = .ok (.iaload, 1) := by decide +kernel
theorem dL_law_1351 : decode cL_law 1351 = .ok (.invokevirtual 174, 3) := by decide +kernel
theorem dL_law_1354 : decode cL_law 1354 = .ok (.aload_n 2, 1) := by decide +kernel
theorem dL_law_1355 : decode cL_law 1355 = .ok (.aload_n 0, 1) := by decide +kernel
theorem dL_law_1356 : decode cL_law 1356 = .ok (.iload 4, 2) := by decide +kernel
theorem dL_law_1358 : decode cL_law 1358 = .ok (.iconst 1, 1) := by decide +kernel
theorem dL_law_1359 : decode cL_law 1359 = .ok (.iadd, 1) := by decide +kernel
theorem dL_law_1360 : decode cL_law 1360 = .ok (.iaload, 1) := by decide +kernel
theorem dL_law_1361 : decode cL_law 1361 = .ok (.invokevirtual 177, 3) := by decide +kernel
theorem dL_law_1364 : decode cL_law 1364 = .ok (.if_icmp .eq 354, 3) := by decide +kernel
theorem dL_law_1367 : decode cL_law 1367 = .ok (.iconst 0, 1) := by decide +kernel
theorem dL_law_1368 : decode cL_law 1368 = .ok (.ireturn, 1) := by decide +kernel
set_option maxHeartbeats 4000000 in
set_option maxRecDepth 100000 in
theorem lc_37 {p : Program} {l : Launch} {e : Env} {s : State} {m : MethodId} {below : List Frame} {meth : Method} {c : Code} {b L : Nat} {xs : Nat → Int32} {E : EE} {cL : ClassId} {ad qa qe : Nat → Nat} {sh rg : Nat → Option Nat} {rwf : Nat → Nat} {σ : Nat → Nat} (hC : LC p l s m meth c b L xs E cL rg rwf) {i : Nat} (hi6 : i + 6 ≤ L) {cells slots : Nat} (hcs : cells + 1 ≤ 601024 ∧ slots + 6 ≤ 7293034) (kk : Nx p l e s m below meth c b E cL ad qa qe sh rg rwf σ (nI i) (cells + 1) (slots + 6) 1718) : Nx p l e s m below meth c b E cL ad qa qe sh rg rwf σ (nI i) cells slots 1344 := by
  intro h k f r m y mv st P ne dy mh mk mf mr mm ms mo mt mp mn md gh gk gf gr gm gs go gt gp gn gd img rp Y V el ho ki fi so si S M I B hi pl ra re nu mx sd K KK KF SO SI EL th og hI H locs ls hP hD hS hl
  obtain ⟨C0, hL, hG, hKL, hTX, hrg⟩ := id hC
  obtain ⟨hx, hb, hr, hml, hown, hts, hX, hbl, hlocks, hgv⟩ := id C0
  have hF := lw_fix C0
  obtain ⟨hSt, hq, hhi, him, hk9⟩ := id hI
  have hA : ∀ q : Nat, s.heap.size ≤ q → (fun q : Nat => s.heap.size ≤ q) q := fun _ h => h
  have hc0 : cells + 0 ≤ room_1.cells ∧ slots + 0 ≤ room_1.slots := ⟨Nat.le_of_succ_le hcs.1, by have := hcs.2; show slots + 0 ≤ 7293034; omega⟩
  obtain ⟨res, e1, e2⟩ := ag_count hSt (xs (i + 1)) (N := 2000) (by decide)
  refine lv_aload_n hx hb dL_law_1344 rfl (lv_at hl 2 rfl) ?_
  refine lw_ld hC hi6 (j := 1) (by decide) hS hl dL_law_1345 dL_law_1346 dL_law_1348 dL_law_1349 dL_law_1350 ?_
  refine rdV 3 0 (As := [.int (xs (i + 1))]) (rest := []) (st1 := [.int res]) hF q_X9_count kw_3_187 (c_X9_count l E (ad 0) (ad 1) (ad 8) (ad 15) (ad 22) (ad 32) (ad 2) (ad 3) (ad 4) (ad 5) (ad 6) (ad 7) img h k f r m y mv st (nI P) ne dy (xs (i + 1)) 2000 res e1) ⟨rfl, rfl⟩ ⟨Nat.le_of_ble_eq_true rfl, Nat.le_of_ble_eq_true rfl⟩ hc0 (cut_P hP [0, 1, 2, 3, 4, 5, 6, 7] cuN) rfl rfl rfl hG rfl hl.1 rfl (Nat.le_of_ble_eq_true rfl) dL_law_1351 rfl ?_
  refine lv_aload_n hx hb dL_law_1354 rfl (lv_at hl 3 rfl) ?_
  refine lw_ld hC hi6 (j := 1) (by decide) hS hl dL_law_1355 dL_law_1356 dL_law_1358 dL_law_1359 dL_law_1360 ?_
  refine rdV 4 0 (As := [.int (xs (i + 1))]) (rest := [.int res]) (st1 := [.int res, .int res]) hF q_X10_count kw_6_60 (c_X10_count l E (ad 49) (ad 50) (ad 51) (ad 52) (ad 53) (ad 54) (ad 55) (ad 56) (ad 57) (ad 58) (ad 59) (ad 60) (ad 61) S M I B hi pl ra re nu mx sd K KK KF SO SI EL th (xs (i + 1)) 2000 res e2) ⟨rfl, rfl⟩ ⟨Nat.le_of_ble_eq_true rfl, Nat.le_of_ble_eq_true rfl⟩ hc0 (cut_P hP [49, 50, 51, 52, 53, 54, 55, 56, 57, 58, 59, 60, 61] cuMo) rfl rfl rfl hG rfl hl.1 rfl (Nat.le_of_ble_eq_true rfl) dL_law_1361 rfl ?_
  refine lv_icmp_eq (tgt := 1718) hx hb dL_law_1364 (by decide) (fun _ => ?_) (fun h => absurd rfl h)
  exact w_widen (Nat.le_succ _) (Nat.le_add_right _ 6) (kk h k f r m y mv st P ne dy mh mk mf mr mm ms mo mt mp mn md gh gk gf gr gm gs go gt gp gn gd img rp Y V el ho ki fi so si S M I B hi pl ra re nu mx sd K KK KF SO SI EL th og hI H locs ls hP hD hS hl)
